/-! bits -/
theorem q_sl : ∀ n, n < 32 → ((nI n &&& 31).toBitVec.smod 32).toNat = n := by decide +kernel
theorem q_and (a b : Nat) : nI a &&& nI b = nI (a &&& b) := by
  apply Int32.toBitVec_inj.1
  show BitVec.ofNat 32 a &&& BitVec.ofNat 32 b = BitVec.ofNat 32 (a &&& b)
  apply BitVec.eq_of_getLsbD_eq
  intro i hi
  simp [hi]
theorem q_or (a b : Nat) : nI a ||| nI b = nI (a ||| b) := by
  apply Int32.toBitVec_inj.1
  show BitVec.ofNat 32 a ||| BitVec.ofNat 32 b = BitVec.ofNat 32 (a ||| b)
  apply BitVec.eq_of_getLsbD_eq
  intro i hi
  simp [hi]
theorem q_shr {v y : Nat} (hv : v < 2147483648) (hy : y < 32) : nI v >>> (nI y &&& nI 31) = nI (v / 2 ^ y) := pk_shrN hv _ y (q_sl y hy)
theorem q_one (v : Nat) (hv : v < 4294967296) : nI v &&& nI 1 = nI (v % 2) := pk_andN hv (m := nI 1) 1 rfl
theorem q_shl {y : Nat} (hy : y < 31) : nI 1 <<< (nI y &&& nI 31) = nI (2 ^ y) := by
  have h : 2 ^ y < 2 ^ 31 := Nat.pow_lt_pow_right (by decide) hy
  have := pk_shlN (n := 1) (nI y &&& 31) y (q_sl y (by omega)) (by omega)
  rw [Nat.one_mul] at this
  exact this
theorem q_b {v y : Nat} (hv : v < 2147483648) (hy : y < 32) : (nI v >>> (nI y &&& nI 31)) &&& nI 1 = nI (if v.testBit y = true then 1 else 0) := by
  rw [q_shr hv hy, q_one _ (Nat.lt_of_le_of_lt (Nat.div_le_self _ _) (by omega)), Nat.testBit_eq_decide_div_mod_eq]
  by_cases h : v / 2 ^ y % 2 = 1
  · simp [h]
  · rw [show v / 2 ^ y % 2 = 0 by omega]; simp
theorem q_xm (w : Nat) {v : Nat} (hv : v < 4096) : nI v &&& (nI w ^^^ (-1)) = nI (v &&& (w ^^^ 4095)) := by
  apply Int32.toBitVec_inj.1
  show BitVec.ofNat 32 v &&& (BitVec.ofNat 32 w ^^^ BitVec.allOnes 32) = BitVec.ofNat 32 (v &&& (w ^^^ 4095))
  apply BitVec.eq_of_getLsbD_eq
  intro i hi
  simp only [BitVec.getLsbD_and, BitVec.getLsbD_xor, BitVec.getLsbD_ofNat, BitVec.getLsbD_allOnes, hi, decide_true, Bool.true_and, Nat.testBit_and, Nat.testBit_xor]
  by_cases h : i < 12
  · rw [show (4095 : Nat).testBit i = true from (by decide +kernel : ∀ i, i < 12 → (4095 : Nat).testBit i = true) i h]
  · rw [Nat.testBit_lt_two_pow (Nat.lt_of_lt_of_le hv (show 4096 ≤ 2 ^ i from Nat.pow_le_pow_right (n := 2) (by decide) (show 12 ≤ i by omega)))]; rfl
theorem q_lt {a b : Nat} (ha : a < 4096) (hb : b < 4096) : a ||| b < 4096 := Nat.or_lt_two_pow (n := 12) ha hb
theorem q_al {a : Nat} (b : Nat) (ha : a < 4096) : a &&& b < 4096 := Nat.lt_of_le_of_lt Nat.and_le_left ha
theorem q_2 {y : Nat} (hy : y < 12) : 2 ^ y < 4096 := Nat.pow_lt_pow_right (n := 12) (by decide) hy
theorem orb_lt (f : Nat → Bool) : ∀ n, n ≤ 12 → orb f n < 4096
  | 0, _ => by unfold orb; decide
  | n + 1, h => by
    unfold orb
    refine q_lt (orb_lt f n (by omega)) ?_
    split
    · exact q_2 (by omega)
    · decide
theorem orb_bit (f : Nat → Bool) (y : Nat) : ∀ n, (orb f n).testBit y = (decide (y < n) && f y)
  | 0 => by simp [orb]
  | n + 1 => by
    unfold orb
    rw [Nat.testBit_or, orb_bit f y n]
    by_cases h : f n = true
    · rw [if_pos h, Nat.testBit_two_pow]
      by_cases hy : y = n
      · subst hy; simp [h]
      · have e : decide (n = y) = false := decide_eq_false (fun z => hy z.symm)
        have e2 : decide (y < n) = decide (y < n + 1) := by
          by_cases h3 : y < n
          · rw [decide_eq_true h3, decide_eq_true (by omega)]
          · rw [decide_eq_false h3, decide_eq_false (by omega)]
        rw [e, e2]; simp
    · rw [if_neg h, Nat.zero_testBit, Bool.or_false]
      by_cases hy : y = n
      · subst hy; simp [h]
      · have e2 : decide (y < n) = decide (y < n + 1) := by
          by_cases h3 : y < n
          · rw [decide_eq_true h3, decide_eq_true (by omega)]
          · rw [decide_eq_false h3, decide_eq_false (by omega)]
        rw [e2]
theorem offV_lt (a b c t : Nat) : offV a b c t < 4096 := orb_lt _ 12 (by decide)
theorem offV_b {a b c t y : Nat} (hy : y < 12) : (offV a b c t).testBit y = offB a b c t y := by
  unfold offV; rw [orb_bit, decide_eq_true hy, Bool.true_and]
theorem orb_congr {f g : Nat → Bool} : ∀ {n : Nat}, (∀ y, y < n → f y = g y) → orb f n = orb g n
  | 0, _ => rfl
  | n + 1, h => by unfold orb; rw [orb_congr fun y hy => h y (by omega), h n (by omega)]
theorem orb_z {f : Nat → Bool} : ∀ {n : Nat}, (∀ y, y < n → f y = false) → orb f n = 0
  | 0, _ => rfl
  | n + 1, h => by unfold orb; rw [orb_z fun y hy => h y (by omega), h n (by omega)]; simp
theorem orb_e {f : Nat → Bool} {n : Nat} : ∀ {m : Nat}, n ≤ m → (∀ y, n ≤ y → y < m → f y = false) → orb f m = orb f n
  | 0, h, _ => by rw [Nat.le_zero.mp h]
  | m + 1, h, k => by
    by_cases hm : n = m + 1
    · rw [hm]
    · conv => lhs; unfold orb
      rw [orb_e (n := n) (m := m) (by omega) (fun y h1 h2 => k y h1 (by omega)), k m (by omega) (by omega)]; simp
theorem orb_or (f g : Nat → Bool) (n : Nat) : orb f n ||| orb g n = orb (fun y => f y || g y) n := by
  apply Nat.eq_of_testBit_eq
  intro i
  rw [Nat.testBit_or, orb_bit, orb_bit, orb_bit]
  cases decide (i < n) <;> simp
/-- years set off, as the class and as the model find them -/
theorem yb_e {fu : Nat} (hfu : 13 < fu) (μ : Mem) {a b : Nat} (hab : a ≤ b) (hb : b < 12) : D_X6_yearBits_0 fu μ (nI a) (nI b) = some (nI (orb (fun y => decide (a ≤ y) && decide (y ≤ b)) 12)) := by
  unfold D_X6_yearBits_0
  have K := eq_for (fun n i => D_X6_yearBits_4 fu μ n (nI b) (nI (orb (fun y => decide (a ≤ y) && decide (y ≤ b)) (a + i))) (nI (a + i))) (b + 1 - a) (some (nI (orb (fun y => decide (a ≤ y) && decide (y ≤ b)) 12))) ?_ ?_ fu 0 (by omega) (by omega)
  · simp only [Nat.add_zero] at K
    rw [orb_z (n := a) (by intro y hy; simp; omega)] at K
    exact K
  · intro n i hi
    simp (disch := omega) only [D_X6_yearBits_4, li0, li1, li2, li3, li4, li5, li6, li7, li8, li9, li10, li12, li24, li31, li40, li160, n_le, n_lt, n_eq, n_m1, n_add, n_mul, gu_ib, nI_nat, bi_s, vl_e, gu_t, ite_true, ite_false, if_true, if_false, reduceIte, q_shl, q_or]
    rw [if_neg (by omega)]
    have e : a + (i + 1) = a + i + 1 := by omega
    rw [e]
    conv => rhs; rw [orb]
    rw [if_pos (by simp; omega)]
  · intro n
    have e : a + (b + 1 - a) = b + 1 := by omega
    simp (disch := omega) only [D_X6_yearBits_4, li0, li1, li2, li3, li4, li5, li6, li7, li8, li9, li10, li12, li24, li31, li40, li160, n_le, n_lt, n_eq, n_m1, n_add, n_mul, gu_ib, nI_nat, bi_s, vl_e, gu_t, ite_true, ite_false, if_true, if_false, reduceIte, e]
    rw [if_pos (by omega), orb_e (n := b + 1) (m := 12) (by omega) (by intro y h1 h2; simp; omega)]
theorem cOff {fu : Nat} (hfu : 13 < fu) (μ : Mem) {a b c t : Nat} (h1 : a ≤ b) (h2 : b ≤ c) (h3 : c < 12) (h4 : t ≤ 3) : D_X6_yearsSetOff_0 fu μ (nI a) (nI b) (nI c) (nI t) = some (nI (offV a b c t)) := by
  unfold D_X6_yearsSetOff_0 offV
  rw [yb_e hfu μ h1 (by omega), yb_e hfu μ (Nat.le_refl c) h3, yb_e hfu μ (show a ≤ c by omega) h3]
  have ht : t = 0 ∨ t = 1 ∨ t = 2 ∨ t = 3 := by omega
  rcases ht with rfl | rfl | rfl | rfl
  · simp (disch := omega) only [li0, li1, li2, li3, li4, li5, li6, li7, li8, li9, li10, li12, li24, li31, li40, li160, n_le, n_lt, n_eq, n_m1, n_add, n_mul, gu_ib, nI_nat, bi_s, vl_e, gu_t, ite_true, ite_false, if_true, if_false, reduceIte]
    rw [orb_congr fun y hy => ?_]
    unfold offB
    rw [← Bool.decide_and]
    exact decide_eq_decide.mpr (by omega)
  · simp (disch := omega) only [li0, li1, li2, li3, li4, li5, li6, li7, li8, li9, li10, li12, li24, li31, li40, li160, n_le, n_lt, n_eq, n_m1, n_add, n_mul, gu_ib, nI_nat, bi_s, vl_e, gu_t, ite_true, ite_false, if_true, if_false, reduceIte]
    simp only [show ¬ ((1 : Nat) = 0) by decide, if_false]
    rw [orb_congr fun y hy => ?_]
    unfold offB
    rw [← Bool.decide_and]
    exact decide_eq_decide.mpr (by omega)
  · simp (disch := omega) only [li0, li1, li2, li3, li4, li5, li6, li7, li8, li9, li10, li12, li24, li31, li40, li160, n_le, n_lt, n_eq, n_m1, n_add, n_mul, gu_ib, nI_nat, bi_s, vl_e, gu_t, ite_true, ite_false, if_true, if_false, reduceIte]
    simp only [show ¬ ((2 : Nat) = 0) by decide, show ¬ ((2 : Nat) = 1) by decide, if_false]
    rw [orb_congr fun y hy => ?_]
    unfold offB
    rw [← Bool.decide_and]
    exact decide_eq_decide.mpr (by omega)
  · simp (disch := omega) only [li0, li1, li2, li3, li4, li5, li6, li7, li8, li9, li10, li12, li24, li31, li40, li160, n_le, n_lt, n_eq, n_m1, n_add, n_mul, gu_ib, nI_nat, bi_s, vl_e, gu_t, ite_true, ite_false, if_true, if_false, reduceIte, q_or, orb_or]
    simp only [show ¬ ((3 : Nat) = 0) by decide, show ¬ ((3 : Nat) = 1) by decide, show ¬ ((3 : Nat) = 2) by decide, if_false]
    rw [orb_congr fun y hy => ?_]
    unfold offB
    rw [← Bool.decide_and, ← Bool.decide_and, ← Bool.decide_or]
    exact decide_eq_decide.mpr (by omega)
theorem mOff {fu : Nat} (hfu : 13 < fu) (μ : Mem) {a b c t : Nat} (h1 : a ≤ b) (h2 : b ≤ c) (h3 : c < 12) (h4 : t ≤ 3) : D_X7_offsBy_0 fu μ (nI a) (nI b) (nI c) (nI t) = some (nI (offV a b c t)) := by
  unfold D_X7_offsBy_0
  have K := eq_for (fun n i => D_X7_offsBy_6 fu μ n (nI b) (nI c) (nI t) (nI (orb (offB a b c t) (a + i))) (nI (a + i))) (c + 1 - a) (some (nI (offV a b c t))) ?_ ?_ fu 0 (by omega) (by omega)
  · simp only [Nat.add_zero] at K
    rw [orb_z (n := a) (by intro y hy; unfold offB; exact decide_eq_false (by omega))] at K
    exact K
  · intro n i hi
    have e : a + (i + 1) = a + i + 1 := by omega
    rw [e]
    conv => rhs; rw [orb]
    have hc : offB a b c t (a + i) = true ↔ (t = 2 ∨ t = 1 ∧ a + i = c ∨ t = 0 ∧ a + i ≤ b ∨ t = 3 ∧ (a + i ≤ b ∨ a + i = c)) := by
      unfold offB; rw [decide_eq_true_iff]; omega
    have ht : t = 0 ∨ t = 1 ∨ t = 2 ∨ t = 3 := by omega
    rw [D_X7_offsBy_6, if_neg (show ¬ nI c < nI (a + i) by rw [n_lt (by omega) (by omega)]; omega)]
    have k1 : ∀ k6 x, D_X7_offsBy_59 fu μ k6 (nI b) (nI c) x (nI (orb (offB a b c t) (a + i))) (nI (a + i)) = k6 (nI b) (nI c) x (nI (orb (offB a b c t) (a + i) ||| 2 ^ (a + i))) (nI (a + i + 1)) := by
      intro k6 x
      simp (disch := omega) only [D_X7_offsBy_59, D_X7_offsBy_64, D_X7_offsBy_81, li0, li1, li2, li3, li4, li5, li6, li7, li8, li9, li10, li12, li24, li31, li40, li160, n_le, n_lt, n_eq, n_m1, n_add, n_mul, gu_ib, nI_nat, bi_s, vl_e, gu_t, ite_true, ite_false, if_true, if_false, reduceIte, q_shl, q_or]
      rfl
    have k2 : ∀ k6 x, D_X7_offsBy_63 fu μ k6 (nI b) (nI c) x (nI (orb (offB a b c t) (a + i))) (nI (a + i)) = k6 (nI b) (nI c) x (nI (orb (offB a b c t) (a + i) ||| 0)) (nI (a + i + 1)) := by
      intro k6 x
      simp (disch := omega) only [D_X7_offsBy_63, D_X7_offsBy_64, D_X7_offsBy_81, li0, li1, li2, li3, li4, li5, li6, li7, li8, li9, li10, li12, li24, li31, li40, li160, n_le, n_lt, n_eq, n_m1, n_add, n_mul, gu_ib, nI_nat, bi_s, vl_e, gu_t, ite_true, ite_false, if_true, if_false, reduceIte, q_shl, q_or]
    simp only [D_X7_offsBy_30, D_X7_offsBy_41, k1, k2]
    by_cases hq : offB a b c t (a + i) = true
    · rw [if_pos hq]
      rw [hc] at hq
      rcases ht with rfl | rfl | rfl | rfl
      · simp (disch := omega) [li0, li1, li2, li3, li4, li5, li6, li7, li8, li9, li10, li12, li24, li31, li40, li160, n_eq, n_le, show a + i ≤ b by omega]
      · simp (disch := omega) [li0, li1, li2, li3, li4, li5, li6, li7, li8, li9, li10, li12, li24, li31, li40, li160, n_eq, n_le, show a + i = c by omega]
      · simp (disch := omega) [li0, li1, li2, li3, li4, li5, li6, li7, li8, li9, li10, li12, li24, li31, li40, li160, n_eq, n_le]
      · rcases Nat.lt_or_ge b (a + i) with hx | hx
        · simp (disch := omega) [li0, li1, li2, li3, li4, li5, li6, li7, li8, li9, li10, li12, li24, li31, li40, li160, n_eq, n_le, show a + i = c by omega, show ¬ c ≤ b by omega]
        · simp (disch := omega) [li0, li1, li2, li3, li4, li5, li6, li7, li8, li9, li10, li12, li24, li31, li40, li160, n_eq, n_le, hx]
    · rw [if_neg hq]
      rw [hc] at hq
      rcases ht with rfl | rfl | rfl | rfl
      · simp (disch := omega) [li0, li1, li2, li3, li4, li5, li6, li7, li8, li9, li10, li12, li24, li31, li40, li160, n_eq, n_le, show ¬ a + i ≤ b by omega]
      · simp (disch := omega) [li0, li1, li2, li3, li4, li5, li6, li7, li8, li9, li10, li12, li24, li31, li40, li160, n_eq, n_le, show ¬ a + i = c by omega]
      · simp at hq
      · simp (disch := omega) [li0, li1, li2, li3, li4, li5, li6, li7, li8, li9, li10, li12, li24, li31, li40, li160, n_eq, n_le, show ¬ a + i ≤ b by omega, show ¬ a + i = c by omega]
  · intro n
    have e : a + (c + 1 - a) = c + 1 := by omega
    simp (disch := omega) only [D_X7_offsBy_6, li0, li1, li2, li3, li4, li5, li6, li7, li8, li9, li10, li12, li24, li31, li40, li160, n_le, n_lt, n_eq, n_m1, n_add, n_mul, gu_ib, nI_nat, bi_s, vl_e, gu_t, ite_true, ite_false, if_true, if_false, reduceIte, e]
    rw [if_pos (by omega), offV, orb_e (n := c + 1) (m := 12) (by omega) (by intro y h1 h2; unfold offB; exact decide_eq_false (by omega))]
