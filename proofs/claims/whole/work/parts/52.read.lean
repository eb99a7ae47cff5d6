/-! a book, read -/
/-- tenths of one that signed -/
def tbS (s : Sp) (l i : Nat) : Nat → Nat
  | 0 => 0
  | k + 1 => if sg s (4 * l + k) = i then tn s (4 * l + k) else tbS s l i k
theorem tbS_le {s : Sp} (H : IvT s) {l : Nat} (hl : l < 40) (i : Nat) : ∀ {n : Nat}, n ≤ ng s l → tbS s l i n ≤ 10
  | 0, _ => Nat.zero_le _
  | n + 1, h => by
    unfold tbS
    split
    · exact tn_le H hl (by omega)
    · exact tbS_le H hl i (by omega)
theorem tbS_0 {s : Sp} (H : IvT s) {l : Nat} (hl : l < 40) {i : Nat} : ∀ {n : Nat}, n ≤ ng s l → (tbS s l i n = 0 ↔ ∀ k, k < n → sg s (4 * l + k) ≠ i)
  | 0, _ => ⟨fun _ k h => absurd h (Nat.not_lt_zero k), fun _ => rfl⟩
  | n + 1, h => by
    have ih := tbS_0 H hl (i := i) (n := n) (by omega)
    have t1 := IvT_tn H hl (k := n) (by omega)
    unfold tbS
    by_cases q : sg s (4 * l + n) = i
    · rw [if_pos q]
      exact ⟨fun z => by omega, fun z => absurd q (z n (by omega))⟩
    · rw [if_neg q, ih]
      refine ⟨fun z k hk => ?_, fun z k hk => z k (by omega)⟩
      by_cases e : k = n
      · rw [e]; exact q
      · exact z k (by omega)
def sgK (s : Sp) (l a : Nat) : Nat → Nat
  | 0 => a
  | k + 1 => sgK s l a k ||| 2 ^ sg s (4 * l + k)
def sgB (s : Sp) : Nat → Nat
  | 0 => 0
  | l + 1 => sgK s l (sgB s l) (ng s l)
def bO (s : Sp) (h i : Nat) : Int := if i = 0 then sm (fun r => fl s (7 * h + r)) 7 else br s (10 * h + i)
def bA (s : Sp) (i : Nat) : Int := sm (fun h => if isH s h = 1 then bO s h i else 0) 24
def rA (s : Sp) (r : Nat) : Int := sm (fun h => if isH s h = 1 then fl s (7 * h + r) else 0) 24
/-- how many bear more -/
def iaS (s : Sp) (i : Nat) : Nat → Nat
  | 0 => 0
  | o + 1 => iaS s i o + if zL (bA s i) < zL (bA s o) ∨ zL (bA s o) = zL (bA s i) ∧ o < i then 1 else 0
def cov (s : Sp) (y a c k : Nat) : Nat := min c (tp s (rg s (6 * y + k))) - max a (fr s (rg s (6 * y + k)))
def cvS (s : Sp) (y a c : Nat) : Nat → Nat
  | 0 => 0
  | k + 1 => cvS s y a c k + cov s y a c k
def lsS (s : Sp) (i : Nat) : Nat → Nat
  | 0 => 0
  | l + 1 => lsS s i l + if 0 < tbS s l i (ng s l) then 1 else 0
/-- the layer at a height -/
def AH (s : Sp) (y v : Nat) (r : Int32) : Prop := (∃ k, k < hg s y ∧ fr s (rg s (6 * y + k)) ≤ v ∧ v < tp s (rg s (6 * y + k)) ∧ r = nI (rg s (6 * y + k))) ∨ ((∀ k, k < hg s y → ¬ (fr s (rg s (6 * y + k)) ≤ v ∧ v < tp s (rg s (6 * y + k)))) ∧ (∃ k, k < hg s y ∧ v < fr s (rg s (6 * y + k))) ∧ r = -1) ∨ ((∀ k, k < hg s y → tp s (rg s (6 * y + k)) ≤ v) ∧ r = -2)
theorem n_subi {a b : Nat} (ha : a < 2147483648) (hb : b < 2147483648) : (nI a - nI b).toInt = (a : Int) - (b : Int) := by
  rw [Int32.toInt_sub, nI_toInt ha, nI_toInt hb]
  exact Int.bmod_eq_of_le (by omega) (by omega)
theorem n_cov {a b : Nat} (ha : a < 2147483648) (hb : b < 2147483648) : (if nI 0 < nI a - nI b then nI a - nI b else nI 0) = nI (a - b) := by
  have e := n_subi ha hb
  have z : (nI 0).toInt = 0 := rfl
  by_cases q : b < a
  · rw [if_pos (by rw [Int32.lt_iff_toInt_lt, e, z]; omega), n_sub (by omega)]
  · rw [if_neg (by rw [Int32.lt_iff_toInt_lt, e, z]; omega), show a - b = 0 by omega]
theorem n_min (a b : Nat) (ha : a < 2147483648) (hb : b < 2147483648) : (if nI a < nI b then nI a else nI b) = nI (min b a) := by
  simp only [n_lt ha hb]
  by_cases q : a < b
  · rw [if_pos q, Nat.min_eq_right (by omega)]
  · rw [if_neg q, Nat.min_eq_left (by omega)]
theorem n_max (a b : Nat) (ha : a < 2147483648) (hb : b < 2147483648) : (if nI a < nI b then nI b else nI a) = nI (max a b) := by
  simp only [n_lt ha hb]
  by_cases q : a < b
  · rw [if_pos q, Nat.max_eq_right (by omega)]
  · rw [if_neg q, Nat.max_eq_left (by omega)]
theorem tp_le {s : Sp} (H : IvT s) {l : Nat} (hl : l < 40) (h1 : isL s l = 1) : tp s l ≤ 1000000000 := by
  have a := IvT_fr H hl h1
  have b := IvT_sz H hl h1
  unfold tp; omega
theorem ok_eq {α : Type} {x : Option α} {Q : α → Prop} (h : Ok x Q) : ∃ r, x = some r ∧ Q r := h
section
variable {b N fu : Nat} {μ : Mem} {s : Sp}
theorem c_standOf {l p : Nat} (hf : 200 < fu) (hl : l < 40) (h1 : isL s l = 1) (hp : p < hg s (yr s l)) (e : rg s (6 * yr s l + p) = l) (C : RC b μ s) (H : Iv N s) : D_X5_standOf_0 fu μ (b + 1) (nI l) = some (nI p) := by
  have hy := IvT_yr H.T hl h1
  have h6 := IvT_hg H.T hy
  have f9 := IvT_fr H.T hl h1
  simp (disch := omega) only [D_X5_standOf_0, li0, li1, li2, li3, li4, li5, li6, li7, li8, li9, li10, li12, li24, li31, li40, li160, n_le, n_lt, n_eq, n_m1, n_add, mr4, mr6, mr7, mr10, mr40, mr160, ml4, ml6, ml7, ml10, ml40, ml160, gu_ib, nI_nat, bi_s, vl_e, gu_t, if_true, if_false, reduceIte, bt1_1, bt1_2, bt1_3, bt1_4, bt1_5, bt1_6, bt1_7, bt1_8, bt1_9, bt1_10, bt1_11, bt1_12, bt14_1, bt14_2, bt14_3, bt14_4, bt14_5, bt14_6, bt14_7, bt14_8, bt14_9, bt14_10, bt14_11, bt14_12, C_yr C hl h1]
  have K := eq_for (fun n i => D_X5_standOf_12 fu μ (b + 1) n (nI l) (nI (yr s l)) (nI (min i p)) (nI i)) (hg s (yr s l)) (some (nI p)) ?_ ?_ fu 0 (by omega) (by omega)
  · rw [Nat.zero_min] at K; exact K
  · intro n i hi
    have r4 := IvT_rg H.T hy hi
    have r1 := IvT_ri H.T hy hi
    have g9 := IvT_fr H.T r4 r1
    simp (disch := omega) only [D_X5_standOf_12, D_X5_standOf_47, li0, li1, li2, li3, li4, li5, li6, li7, li8, li9, li10, li12, li24, li31, li40, li160, n_le, n_lt, n_eq, n_m1, n_add, mr4, mr6, mr7, mr10, mr40, mr160, ml4, ml6, ml7, ml10, ml40, ml160, gu_ib, nI_nat, bi_s, vl_e, gu_t, if_true, if_false, reduceIte, bt1_1, bt1_2, bt1_3, bt1_4, bt1_5, bt1_6, bt1_7, bt1_8, bt1_9, bt1_10, bt1_11, bt1_12, bt14_1, bt14_2, bt14_3, bt14_4, bt14_5, bt14_6, bt14_7, bt14_8, bt14_9, bt14_10, bt14_11, bt14_12, C_hg C hy, c_layerAt hy hi C H, C_fr C r4 r1, C_fr C hl h1]
    rw [if_neg (by omega)]
    by_cases q : i < p
    · have := st_fr H.T hy q hp
      rw [e] at this
      rw [if_neg (by omega), show min i p + 1 = min (i + 1) p by omega]
    · have : fr s l ≤ fr s (rg s (6 * yr s l + i)) := by
        by_cases z : i = p
        · rw [z, e]; exact Nat.le_refl _
        · have := st_fr H.T hy (show p < i by omega) hi
          rw [e] at this; omega
      rw [if_pos this, show min i p = min (i + 1) p by omega]
  · intro n
    simp (disch := omega) only [D_X5_standOf_12, li0, li1, li2, li3, li4, li5, li6, li7, li8, li9, li10, li12, li24, li31, li40, li160, n_le, n_lt, n_eq, n_m1, n_add, mr4, mr6, mr7, mr10, mr40, mr160, ml4, ml6, ml7, ml10, ml40, ml160, gu_ib, nI_nat, bi_s, vl_e, gu_t, if_true, if_false, reduceIte, bt1_1, bt1_2, bt1_3, bt1_4, bt1_5, bt1_6, bt1_7, bt1_8, bt1_9, bt1_10, bt1_11, bt1_12, bt14_1, bt14_2, bt14_3, bt14_4, bt14_5, bt14_6, bt14_7, bt14_8, bt14_9, bt14_10, bt14_11, bt14_12, C_hg C hy]
    rw [if_pos (by omega), Nat.min_eq_right (by omega)]
theorem c_isFree {y f z : Nat} (hf : 200 < fu) (hy : y < 12) (h1 : f ≤ 900000000) (h2 : z ≤ 100000000) (C : RC b μ s) (H : Iv N s) : Ok (D_X5_isFree_0 fu μ (b + 1) (nI y) (nI f) (nI z)) (fun r => r = true ↔ fre s y f z) := by
  have h6 := IvT_hg H.T hy
  unfold D_X5_isFree_0
  refine Ok.for (α := Unit) (fun n i _ => D_X5_isFree_3 fu μ (b + 1) n (nI y) (nI f) (nI z) (nI i)) (hg s y) (fun i _ => ∀ k, k < i → ¬ (f < tp s (rg s (6 * y + k)) ∧ fr s (rg s (6 * y + k)) < f + z)) ?_ ?_ fu 0 () (by omega) (by omega) (fun k h => absurd h (Nat.not_lt_zero k))
  · intro n i _ hi P k
    have r4 := IvT_rg H.T hy hi
    have r1 := IvT_ri H.T hy hi
    have g9 := IvT_fr H.T r4 r1
    have t9 := tp_le H.T r4 r1
    have ext : ¬ (f < tp s (rg s (6 * y + i)) ∧ fr s (rg s (6 * y + i)) < f + z) → ∀ k, k < i + 1 → ¬ (f < tp s (rg s (6 * y + k)) ∧ fr s (rg s (6 * y + k)) < f + z) := fun q k hk => by
      by_cases e : k = i
      · rw [e]; exact q
      · exact P k (by omega)
    simp (disch := omega) only [D_X5_isFree_3, D_X5_isFree_48, li0, li1, li2, li3, li4, li5, li6, li7, li8, li9, li10, li12, li24, li31, li40, li160, n_le, n_lt, n_eq, n_m1, n_add, mr4, mr6, mr7, mr10, mr40, mr160, ml4, ml6, ml7, ml10, ml40, ml160, gu_ib, nI_nat, bi_s, vl_e, gu_t, if_true, if_false, reduceIte, bt1_1, bt1_2, bt1_3, bt1_4, bt1_5, bt1_6, bt1_7, bt1_8, bt1_9, bt1_10, bt1_11, bt1_12, bt14_1, bt14_2, bt14_3, bt14_4, bt14_5, bt14_6, bt14_7, bt14_8, bt14_9, bt14_10, bt14_11, bt14_12, C_hg C hy, c_layerAt hy hi C H, c_topOf r4 r1 C, C_fr C r4 r1]
    rw [if_neg (by omega)]
    by_cases q : tp s (rg s (6 * y + i)) ≤ f
    · rw [if_pos q]; exact k () (ext (by omega))
    · rw [if_neg q]
      by_cases q2 : f + z ≤ fr s (rg s (6 * y + i))
      · rw [if_pos q2]; exact k () (ext (by omega))
      · rw [if_neg q2]
        refine Ok.s ⟨fun z => absurd z (by decide), fun z => absurd (z i hi) (by omega)⟩
  · intro n _ P
    simp (disch := omega) only [D_X5_isFree_3, li0, li1, li2, li3, li4, li5, li6, li7, li8, li9, li10, li12, li24, li31, li40, li160, n_le, n_lt, n_eq, n_m1, n_add, mr4, mr6, mr7, mr10, mr40, mr160, ml4, ml6, ml7, ml10, ml40, ml160, gu_ib, nI_nat, bi_s, vl_e, gu_t, if_true, if_false, reduceIte, bt1_1, bt1_2, bt1_3, bt1_4, bt1_5, bt1_6, bt1_7, bt1_8, bt1_9, bt1_10, bt1_11, bt1_12, bt14_1, bt14_2, bt14_3, bt14_4, bt14_5, bt14_6, bt14_7, bt14_8, bt14_9, bt14_10, bt14_11, bt14_12, C_hg C hy]
    rw [if_pos (by omega)]
    exact Ok.s ⟨fun _ => P, fun _ => rfl⟩
theorem c_tenthsBy {l i : Nat} (hf : 200 < fu) (hl : l < 40) (h1 : isL s l = 1) (hi' : i < 10) (C : RC b μ s) (H : Iv N s) : D_X5_tenthsBy_0 fu μ (b + 1) (nI l) (nI i) = some (nI (tbS s l i (ng s l))) := by
  have h4 := IvT_ng H.T hl
  unfold D_X5_tenthsBy_0
  refine eq_for (fun n k => D_X5_tenthsBy_5 fu μ (b + 1) n (nI l) (nI i) (nI (tbS s l i k)) (nI k)) (ng s l) _ ?_ ?_ fu 0 (by omega) (by omega)
  · intro n k hk
    have s9 := IvT_sg H.T hl hk
    simp (disch := omega) only [D_X5_tenthsBy_5, D_X5_tenthsBy_43, li0, li1, li2, li3, li4, li5, li6, li7, li8, li9, li10, li12, li24, li31, li40, li160, n_le, n_lt, n_eq, n_m1, n_add, mr4, mr6, mr7, mr10, mr40, mr160, ml4, ml6, ml7, ml10, ml40, ml160, gu_ib, nI_nat, bi_s, vl_e, gu_t, if_true, if_false, reduceIte, bt1_1, bt1_2, bt1_3, bt1_4, bt1_5, bt1_6, bt1_7, bt1_8, bt1_9, bt1_10, bt1_11, bt1_12, bt14_1, bt14_2, bt14_3, bt14_4, bt14_5, bt14_6, bt14_7, bt14_8, bt14_9, bt14_10, bt14_11, bt14_12, C_ng C hl h1, C_sg C hl h1 hk, C_tn C hl h1 hk]
    rw [if_neg (by omega), tbS]
    by_cases q : sg s (4 * l + k) = i
    · rw [if_pos q, if_pos q]
    · rw [if_neg q, if_neg q]
  · intro n
    simp (disch := omega) only [D_X5_tenthsBy_5, li0, li1, li2, li3, li4, li5, li6, li7, li8, li9, li10, li12, li24, li31, li40, li160, n_le, n_lt, n_eq, n_m1, n_add, mr4, mr6, mr7, mr10, mr40, mr160, ml4, ml6, ml7, ml10, ml40, ml160, gu_ib, nI_nat, bi_s, vl_e, gu_t, if_true, if_false, reduceIte, bt1_1, bt1_2, bt1_3, bt1_4, bt1_5, bt1_6, bt1_7, bt1_8, bt1_9, bt1_10, bt1_11, bt1_12, bt14_1, bt14_2, bt14_3, bt14_4, bt14_5, bt14_6, bt14_7, bt14_8, bt14_9, bt14_10, bt14_11, bt14_12, C_ng C hl h1]
    rw [if_pos (by omega)]
theorem c_gapBits (hf : 200 < fu) (C : RC b μ s) (H : Iv N s) : D_X5_gapBits_0 fu μ (b + 1) = some (nI (orb (fun y => decide (hg s y = 0)) 12)) := by
  unfold D_X5_gapBits_0
  refine eq_for (fun n y => D_X5_gapBits_4 fu μ (b + 1) n (nI (orb (fun y => decide (hg s y = 0)) y)) (nI y)) 12 _ ?_ ?_ fu 0 (by omega) (by omega)
  · intro n y hy
    simp (disch := omega) only [D_X5_gapBits_4, D_X5_gapBits_24, li0, li1, li2, li3, li4, li5, li6, li7, li8, li9, li10, li12, li24, li31, li40, li160, n_le, n_lt, n_eq, n_m1, n_add, mr4, mr6, mr7, mr10, mr40, mr160, ml4, ml6, ml7, ml10, ml40, ml160, gu_ib, nI_nat, bi_s, vl_e, gu_t, if_true, if_false, reduceIte, bt1_1, bt1_2, bt1_3, bt1_4, bt1_5, bt1_6, bt1_7, bt1_8, bt1_9, bt1_10, bt1_11, bt1_12, bt14_1, bt14_2, bt14_3, bt14_4, bt14_5, bt14_6, bt14_7, bt14_8, bt14_9, bt14_10, bt14_11, bt14_12, c_gap hy C H, q_shl, q_or, decide_eq_true_eq]
    rw [if_neg (by omega), orb]
    by_cases q : hg s y = 0
    · rw [if_pos q, if_pos (decide_eq_true q)]
    · rw [if_neg q, if_neg (by rw [decide_eq_false q]; decide), Nat.or_zero]
  · intro n
    simp (disch := omega) only [D_X5_gapBits_4, li0, li1, li2, li3, li4, li5, li6, li7, li8, li9, li10, li12, li24, li31, li40, li160, n_le, n_lt, n_eq, n_m1, n_add, mr4, mr6, mr7, mr10, mr40, mr160, ml4, ml6, ml7, ml10, ml40, ml160, gu_ib, nI_nat, bi_s, vl_e, gu_t, if_true, if_false, reduceIte, bt1_1, bt1_2, bt1_3, bt1_4, bt1_5, bt1_6, bt1_7, bt1_8, bt1_9, bt1_10, bt1_11, bt1_12, bt14_1, bt14_2, bt14_3, bt14_4, bt14_5, bt14_6, bt14_7, bt14_8, bt14_9, bt14_10, bt14_11, bt14_12]
    rw [if_pos (by omega)]
theorem c_sizesIn {y : Nat} (hf : 200 < fu) (hy : y < 12) (C : RC b μ s) (H : Iv N s) : D_X5_sizesIn_0 fu μ (b + 1) (nI y) = some (zL (szS s y)) := by
  have h6 := IvT_hg H.T hy
  unfold D_X5_sizesIn_0
  refine eq_for (fun n k => D_X5_sizesIn_5 fu μ (b + 1) n (nI y) (zL (sm (fun k => (sz s (rg s (6 * y + k)) : Int)) k)) (nI k)) (hg s y) _ ?_ ?_ fu 0 (by omega) (by omega)
  · intro n k hk
    have r4 := IvT_rg H.T hy hk
    have r1 := IvT_ri H.T hy hk
    have z9 := IvT_sz H.T r4 r1
    simp (disch := omega) only [D_X5_sizesIn_5, li0, li1, li2, li3, li4, li5, li6, li7, li8, li9, li10, li12, li24, li31, li40, li160, n_le, n_lt, n_eq, n_m1, n_add, mr4, mr6, mr7, mr10, mr40, mr160, ml4, ml6, ml7, ml10, ml40, ml160, gu_ib, nI_nat, bi_s, vl_e, gu_t, if_true, if_false, reduceIte, bt1_1, bt1_2, bt1_3, bt1_4, bt1_5, bt1_6, bt1_7, bt1_8, bt1_9, bt1_10, bt1_11, bt1_12, bt14_1, bt14_2, bt14_3, bt14_4, bt14_5, bt14_6, bt14_7, bt14_8, bt14_9, bt14_10, bt14_11, bt14_12, C_hg C hy, c_layerAt hy hk C H, C_sz C r4 r1, n_L, z_add, z_sub, z_mul, z_neg]
    rw [if_neg (by omega), sm_s]
  · intro n
    simp (disch := omega) only [D_X5_sizesIn_5, li0, li1, li2, li3, li4, li5, li6, li7, li8, li9, li10, li12, li24, li31, li40, li160, n_le, n_lt, n_eq, n_m1, n_add, mr4, mr6, mr7, mr10, mr40, mr160, ml4, ml6, ml7, ml10, ml40, ml160, gu_ib, nI_nat, bi_s, vl_e, gu_t, if_true, if_false, reduceIte, bt1_1, bt1_2, bt1_3, bt1_4, bt1_5, bt1_6, bt1_7, bt1_8, bt1_9, bt1_10, bt1_11, bt1_12, bt14_1, bt14_2, bt14_3, bt14_4, bt14_5, bt14_6, bt14_7, bt14_8, bt14_9, bt14_10, bt14_11, bt14_12, C_hg C hy]
    rw [if_pos (by omega)]; rfl
theorem c_usedIn {y : Nat} (hf : 200 < fu) (hy : y < 12) (C : RC b μ s) (H : Iv N s) : D_X5_usedIn_0 fu μ (b + 1) (nI y) = some (zL (sm (fun k => us s (rg s (6 * y + k))) (hg s y))) := by
  have h6 := IvT_hg H.T hy
  unfold D_X5_usedIn_0
  refine eq_for (fun n k => D_X5_usedIn_5 fu μ (b + 1) n (nI y) (zL (sm (fun k => us s (rg s (6 * y + k))) k)) (nI k)) (hg s y) _ ?_ ?_ fu 0 (by omega) (by omega)
  · intro n k hk
    have r4 := IvT_rg H.T hy hk
    have r1 := IvT_ri H.T hy hk
    simp (disch := omega) only [D_X5_usedIn_5, li0, li1, li2, li3, li4, li5, li6, li7, li8, li9, li10, li12, li24, li31, li40, li160, n_le, n_lt, n_eq, n_m1, n_add, mr4, mr6, mr7, mr10, mr40, mr160, ml4, ml6, ml7, ml10, ml40, ml160, gu_ib, nI_nat, bi_s, vl_e, gu_t, if_true, if_false, reduceIte, bt1_1, bt1_2, bt1_3, bt1_4, bt1_5, bt1_6, bt1_7, bt1_8, bt1_9, bt1_10, bt1_11, bt1_12, bt14_1, bt14_2, bt14_3, bt14_4, bt14_5, bt14_6, bt14_7, bt14_8, bt14_9, bt14_10, bt14_11, bt14_12, C_hg C hy, c_layerAt hy hk C H, C_us C r4 r1, z_add, z_sub, z_mul, z_neg]
    rw [if_neg (by omega), sm_s]
  · intro n
    simp (disch := omega) only [D_X5_usedIn_5, li0, li1, li2, li3, li4, li5, li6, li7, li8, li9, li10, li12, li24, li31, li40, li160, n_le, n_lt, n_eq, n_m1, n_add, mr4, mr6, mr7, mr10, mr40, mr160, ml4, ml6, ml7, ml10, ml40, ml160, gu_ib, nI_nat, bi_s, vl_e, gu_t, if_true, if_false, reduceIte, bt1_1, bt1_2, bt1_3, bt1_4, bt1_5, bt1_6, bt1_7, bt1_8, bt1_9, bt1_10, bt1_11, bt1_12, bt14_1, bt14_2, bt14_3, bt14_4, bt14_5, bt14_6, bt14_7, bt14_8, bt14_9, bt14_10, bt14_11, bt14_12, C_hg C hy]
    rw [if_pos (by omega)]
theorem c_leftIn {y : Nat} (hf : 200 < fu) (hy : y < 12) (C : RC b μ s) (H : Iv N s) : D_X5_leftIn_0 fu μ (b + 1) (nI y) = some (zL (sm (fun k => lf s (rg s (6 * y + k))) (hg s y))) := by
  have h6 := IvT_hg H.T hy
  unfold D_X5_leftIn_0
  refine eq_for (fun n k => D_X5_leftIn_5 fu μ (b + 1) n (nI y) (zL (sm (fun k => lf s (rg s (6 * y + k))) k)) (nI k)) (hg s y) _ ?_ ?_ fu 0 (by omega) (by omega)
  · intro n k hk
    have r4 := IvT_rg H.T hy hk
    have r1 := IvT_ri H.T hy hk
    simp (disch := omega) only [D_X5_leftIn_5, li0, li1, li2, li3, li4, li5, li6, li7, li8, li9, li10, li12, li24, li31, li40, li160, n_le, n_lt, n_eq, n_m1, n_add, mr4, mr6, mr7, mr10, mr40, mr160, ml4, ml6, ml7, ml10, ml40, ml160, gu_ib, nI_nat, bi_s, vl_e, gu_t, if_true, if_false, reduceIte, bt1_1, bt1_2, bt1_3, bt1_4, bt1_5, bt1_6, bt1_7, bt1_8, bt1_9, bt1_10, bt1_11, bt1_12, bt14_1, bt14_2, bt14_3, bt14_4, bt14_5, bt14_6, bt14_7, bt14_8, bt14_9, bt14_10, bt14_11, bt14_12, C_hg C hy, c_layerAt hy hk C H, c_leftOf r4 r1 C H, z_add, z_sub, z_mul, z_neg]
    rw [if_neg (by omega), sm_s]
  · intro n
    simp (disch := omega) only [D_X5_leftIn_5, li0, li1, li2, li3, li4, li5, li6, li7, li8, li9, li10, li12, li24, li31, li40, li160, n_le, n_lt, n_eq, n_m1, n_add, mr4, mr6, mr7, mr10, mr40, mr160, ml4, ml6, ml7, ml10, ml40, ml160, gu_ib, nI_nat, bi_s, vl_e, gu_t, if_true, if_false, reduceIte, bt1_1, bt1_2, bt1_3, bt1_4, bt1_5, bt1_6, bt1_7, bt1_8, bt1_9, bt1_10, bt1_11, bt1_12, bt14_1, bt14_2, bt14_3, bt14_4, bt14_5, bt14_6, bt14_7, bt14_8, bt14_9, bt14_10, bt14_11, bt14_12, C_hg C hy]
    rw [if_pos (by omega)]
theorem c_atHeight {y v : Nat} (hf : 200 < fu) (hy : y < 12) (hv : v ≤ 1000000000) (C : RC b μ s) (H : Iv N s) : Ok (D_X5_layerAtHeight_0 fu μ (b + 1) (nI y) (nI v)) (AH s y v) := by
  have h6 := IvT_hg H.T hy
  unfold D_X5_layerAtHeight_0
  refine Ok.for (α := Unit) (fun n i _ => D_X5_layerAtHeight_2 fu μ (b + 1) n (nI y) (nI v) (nI i)) (hg s y) (fun i _ => ∀ k, k < i → tp s (rg s (6 * y + k)) ≤ v) ?_ ?_ fu 0 () (by omega) (by omega) (fun k h => absurd h (Nat.not_lt_zero k))
  · intro n i _ hi P k
    have r4 := IvT_rg H.T hy hi
    have r1 := IvT_ri H.T hy hi
    have g9 := IvT_fr H.T r4 r1
    have t9 := tp_le H.T r4 r1
    simp (disch := omega) only [D_X5_layerAtHeight_2, li0, li1, li2, li3, li4, li5, li6, li7, li8, li9, li10, li12, li24, li31, li40, li160, n_le, n_lt, n_eq, n_m1, n_add, mr4, mr6, mr7, mr10, mr40, mr160, ml4, ml6, ml7, ml10, ml40, ml160, gu_ib, nI_nat, bi_s, vl_e, gu_t, if_true, if_false, reduceIte, bt1_1, bt1_2, bt1_3, bt1_4, bt1_5, bt1_6, bt1_7, bt1_8, bt1_9, bt1_10, bt1_11, bt1_12, bt14_1, bt14_2, bt14_3, bt14_4, bt14_5, bt14_6, bt14_7, bt14_8, bt14_9, bt14_10, bt14_11, bt14_12, C_hg C hy, c_layerAt hy hi C H, c_topOf r4 r1 C, C_fr C r4 r1]
    rw [if_neg (by omega)]
    by_cases q : fr s (rg s (6 * y + i)) ≤ v
    · rw [if_pos q]
      by_cases q2 : tp s (rg s (6 * y + i)) ≤ v
      · rw [if_pos q2]
        refine k () fun j hj => ?_
        by_cases e : j = i
        · rw [e]; exact q2
        · exact P j (by omega)
      · rw [if_neg q2]; exact Ok.s (Or.inl ⟨i, hi, q, by omega, rfl⟩)
    · rw [if_neg q]
      refine Ok.s (Or.inr (Or.inl ⟨fun j hj z => ?_, ⟨i, hi, by omega⟩, rfl⟩))
      rcases Nat.lt_trichotomy j i with a | a | a
      · have := P j a; omega
      · rw [a] at z; omega
      · have := st_fr H.T hy a hj; omega
  · intro n _ P
    simp (disch := omega) only [D_X5_layerAtHeight_2, li0, li1, li2, li3, li4, li5, li6, li7, li8, li9, li10, li12, li24, li31, li40, li160, n_le, n_lt, n_eq, n_m1, n_add, mr4, mr6, mr7, mr10, mr40, mr160, ml4, ml6, ml7, ml10, ml40, ml160, gu_ib, nI_nat, bi_s, vl_e, gu_t, if_true, if_false, reduceIte, bt1_1, bt1_2, bt1_3, bt1_4, bt1_5, bt1_6, bt1_7, bt1_8, bt1_9, bt1_10, bt1_11, bt1_12, bt14_1, bt14_2, bt14_3, bt14_4, bt14_5, bt14_6, bt14_7, bt14_8, bt14_9, bt14_10, bt14_11, bt14_12, C_hg C hy]
    rw [if_pos (by omega)]
    exact Ok.s (Or.inr (Or.inr ⟨P, rfl⟩))
theorem c_covered {y a c : Nat} (hf : 200 < fu) (hy : y < 12) (ha : a ≤ 1000000000) (hc : c ≤ 1000000000) (C : RC b μ s) (H : Iv N s) : D_X5_coveredIn_0 fu μ (b + 1) (nI y) (nI a) (nI c) = some (nI (cvS s y a c (hg s y))) := by
  have h6 := IvT_hg H.T hy
  unfold D_X5_coveredIn_0
  refine eq_for (fun n k => D_X5_coveredIn_6 fu μ (b + 1) n (nI y) (nI a) (nI c) (nI (cvS s y a c k)) (nI k)) (hg s y) _ ?_ ?_ fu 0 (by omega) (by omega)
  · intro n k hk
    have r4 := IvT_rg H.T hy hk
    have r1 := IvT_ri H.T hy hk
    have g9 := IvT_fr H.T r4 r1
    have t9 := tp_le H.T r4 r1
    have b1 : min c (tp s (rg s (6 * y + k))) < 2147483648 := by omega
    have b2 : max a (fr s (rg s (6 * y + k))) < 2147483648 := by omega
    rw [D_X5_coveredIn_6]
    simp (disch := omega) only [li0, li1, gu_ib, nI_nat, bt1_12, bt1_2, C_hg C hy, c_layerAt hy hk C H, c_topOf r4 r1 C, C_fr C r4 r1, bi_s, vl_e, n_min, n_max, n_cov b1 b2, n_add]
    rw [if_neg (by rw [n_le (by omega) (by omega)]; omega)]
    rfl
  · intro n
    simp (disch := omega) only [D_X5_coveredIn_6, li0, li1, li2, li3, li4, li5, li6, li7, li8, li9, li10, li12, li24, li31, li40, li160, n_le, n_lt, n_eq, n_m1, n_add, mr4, mr6, mr7, mr10, mr40, mr160, ml4, ml6, ml7, ml10, ml40, ml160, gu_ib, nI_nat, bi_s, vl_e, gu_t, if_true, if_false, reduceIte, bt1_1, bt1_2, bt1_3, bt1_4, bt1_5, bt1_6, bt1_7, bt1_8, bt1_9, bt1_10, bt1_11, bt1_12, bt14_1, bt14_2, bt14_3, bt14_4, bt14_5, bt14_6, bt14_7, bt14_8, bt14_9, bt14_10, bt14_11, bt14_12, C_hg C hy]
    rw [if_pos (by omega)]
/-! of layers that are all there -/
theorem c_signerBits (hf : 200 < fu) (hA : ∀ l, l < cL s → isL s l = 1) (C : RC b μ s) (H : Iv N s) : D_X5_signerBits_0 fu μ (b + 1) = some (nI (sgB s (cL s))) := by
  have h4 := IvT_c40 H.T
  unfold D_X5_signerBits_0
  refine eq_for (fun n l => D_X5_signerBits_4 fu μ (b + 1) n (nI (sgB s l)) (nI l)) (cL s) _ ?_ ?_ fu 0 (by omega) (by omega)
  · intro n l hl
    have h1 := hA l hl
    have n4 := IvT_ng H.T (l := l) (by omega)
    simp (disch := omega) only [D_X5_signerBits_4, li0, li1, li2, li3, li4, li5, li6, li7, li8, li9, li10, li12, li24, li31, li40, li160, n_le, n_lt, n_eq, n_m1, n_add, mr4, mr6, mr7, mr10, mr40, mr160, ml4, ml6, ml7, ml10, ml40, ml160, gu_ib, nI_nat, bi_s, vl_e, gu_t, if_true, if_false, reduceIte, bt1_1, bt1_2, bt1_3, bt1_4, bt1_5, bt1_6, bt1_7, bt1_8, bt1_9, bt1_10, bt1_11, bt1_12, bt14_1, bt14_2, bt14_3, bt14_4, bt14_5, bt14_6, bt14_7, bt14_8, bt14_9, bt14_10, bt14_11, bt14_12, C_cL C]
    rw [if_neg (by omega)]
    refine eq_for (fun m k => D_X5_signerBits_14 fu μ (b + 1) (D_X5_signerBits_4 fu μ (b + 1) n) m (nI (sgK s l (sgB s l) k)) (nI l) (nI k)) (ng s l) _ ?_ ?_ fu 0 (by omega) (by omega)
    · intro m k hk
      have s9 := IvT_sg H.T (l := l) (by omega) hk
      simp (disch := omega) only [D_X5_signerBits_14, li0, li1, li2, li3, li4, li5, li6, li7, li8, li9, li10, li12, li24, li31, li40, li160, n_le, n_lt, n_eq, n_m1, n_add, mr4, mr6, mr7, mr10, mr40, mr160, ml4, ml6, ml7, ml10, ml40, ml160, gu_ib, nI_nat, bi_s, vl_e, gu_t, if_true, if_false, reduceIte, bt1_1, bt1_2, bt1_3, bt1_4, bt1_5, bt1_6, bt1_7, bt1_8, bt1_9, bt1_10, bt1_11, bt1_12, bt14_1, bt14_2, bt14_3, bt14_4, bt14_5, bt14_6, bt14_7, bt14_8, bt14_9, bt14_10, bt14_11, bt14_12, C_ng C (show l < 40 by omega) h1, C_sg C (show l < 40 by omega) h1 hk, q_shl, q_or]
      rw [if_neg (by omega)]; rfl
    · intro m
      simp (disch := omega) only [D_X5_signerBits_14, li0, li1, li2, li3, li4, li5, li6, li7, li8, li9, li10, li12, li24, li31, li40, li160, n_le, n_lt, n_eq, n_m1, n_add, mr4, mr6, mr7, mr10, mr40, mr160, ml4, ml6, ml7, ml10, ml40, ml160, gu_ib, nI_nat, bi_s, vl_e, gu_t, if_true, if_false, reduceIte, bt1_1, bt1_2, bt1_3, bt1_4, bt1_5, bt1_6, bt1_7, bt1_8, bt1_9, bt1_10, bt1_11, bt1_12, bt14_1, bt14_2, bt14_3, bt14_4, bt14_5, bt14_6, bt14_7, bt14_8, bt14_9, bt14_10, bt14_11, bt14_12, C_ng C (show l < 40 by omega) h1]
      rw [if_pos (by omega)]; rfl
  · intro n
    simp (disch := omega) only [D_X5_signerBits_4, li0, li1, li2, li3, li4, li5, li6, li7, li8, li9, li10, li12, li24, li31, li40, li160, n_le, n_lt, n_eq, n_m1, n_add, mr4, mr6, mr7, mr10, mr40, mr160, ml4, ml6, ml7, ml10, ml40, ml160, gu_ib, nI_nat, bi_s, vl_e, gu_t, if_true, if_false, reduceIte, bt1_1, bt1_2, bt1_3, bt1_4, bt1_5, bt1_6, bt1_7, bt1_8, bt1_9, bt1_10, bt1_11, bt1_12, bt14_1, bt14_2, bt14_3, bt14_4, bt14_5, bt14_6, bt14_7, bt14_8, bt14_9, bt14_10, bt14_11, bt14_12, C_cL C]
    rw [if_pos (by omega)]
theorem c_signedBy {i : Nat} (hf : 200 < fu) (hi : i < 10) (hA : ∀ l, l < cL s → isL s l = 1) (C : RC b μ s) (H : Iv N s) : D_X5_layersSignedBy_0 fu μ (b + 1) (nI i) = some (nI (lsS s i (cL s))) := by
  have h4 := IvT_c40 H.T
  unfold D_X5_layersSignedBy_0
  refine eq_for (fun n l => D_X5_layersSignedBy_4 fu μ (b + 1) n (nI i) (nI (lsS s i l)) (nI l)) (cL s) _ ?_ ?_ fu 0 (by omega) (by omega)
  · intro n l hl
    have h1 := hA l hl
    have t9 := tbS_le H.T (l := l) (by omega) i (Nat.le_refl (ng s l))
    simp (disch := omega) only [D_X5_layersSignedBy_4, D_X5_layersSignedBy_24, li0, li1, li2, li3, li4, li5, li6, li7, li8, li9, li10, li12, li24, li31, li40, li160, n_le, n_lt, n_eq, n_m1, n_add, mr4, mr6, mr7, mr10, mr40, mr160, ml4, ml6, ml7, ml10, ml40, ml160, gu_ib, nI_nat, bi_s, vl_e, gu_t, if_true, if_false, reduceIte, bt1_1, bt1_2, bt1_3, bt1_4, bt1_5, bt1_6, bt1_7, bt1_8, bt1_9, bt1_10, bt1_11, bt1_12, bt14_1, bt14_2, bt14_3, bt14_4, bt14_5, bt14_6, bt14_7, bt14_8, bt14_9, bt14_10, bt14_11, bt14_12, C_cL C, c_tenthsBy hf (show l < 40 by omega) h1 hi C H]
    rw [if_neg (by omega), lsS]
    by_cases q : 0 < tbS s l i (ng s l)
    · rw [if_pos q, if_neg (by omega)]
    · rw [if_neg q, if_pos (by omega)]; rfl
  · intro n
    simp (disch := omega) only [D_X5_layersSignedBy_4, li0, li1, li2, li3, li4, li5, li6, li7, li8, li9, li10, li12, li24, li31, li40, li160, n_le, n_lt, n_eq, n_m1, n_add, mr4, mr6, mr7, mr10, mr40, mr160, ml4, ml6, ml7, ml10, ml40, ml160, gu_ib, nI_nat, bi_s, vl_e, gu_t, if_true, if_false, reduceIte, bt1_1, bt1_2, bt1_3, bt1_4, bt1_5, bt1_6, bt1_7, bt1_8, bt1_9, bt1_10, bt1_11, bt1_12, bt14_1, bt14_2, bt14_3, bt14_4, bt14_5, bt14_6, bt14_7, bt14_8, bt14_9, bt14_10, bt14_11, bt14_12, C_cL C]
    rw [if_pos (by omega)]
theorem c_leftSigned {i : Nat} (hf : 200 < fu) (hi : i < 10) (hA : ∀ l, l < cL s → isL s l = 1) (C : RC b μ s) (H : Iv N s) : D_X5_leftSignedBy_0 fu μ (b + 1) (nI i) = some (zL (sm (fun l => lf s l * (tbS s l i (ng s l) : Int) / 10) (cL s))) := by
  have h4 := IvT_c40 H.T
  unfold D_X5_leftSignedBy_0
  refine eq_for (fun n l => D_X5_leftSignedBy_5 fu μ (b + 1) n (nI i) (zL (sm (fun l => lf s l * (tbS s l i (ng s l) : Int) / 10) l)) (nI l)) (cL s) _ ?_ ?_ fu 0 (by omega) (by omega)
  · intro n l hl
    have h1 := hA l hl
    have l4 : l < 40 := by omega
    have t9 := tbS_le H.T l4 i (Nat.le_refl (ng s l))
    have lb := lf_b l4 h1 H
    have m1 : 0 ≤ lf s l * (tbS s l i (ng s l) : Int) := Int.mul_nonneg lb.1 (by omega)
    have m2 : lf s l * (tbS s l i (ng s l) : Int) ≤ 400000000 * 10 := Int.mul_le_mul lb.2.1 (by omega) (by omega) (by omega)
    simp (disch := omega) only [D_X5_leftSignedBy_5, li0, li1, li2, li3, li4, li5, li6, li7, li8, li9, li10, li12, li24, li31, li40, li160, n_le, n_lt, n_eq, n_m1, n_add, mr4, mr6, mr7, mr10, mr40, mr160, ml4, ml6, ml7, ml10, ml40, ml160, gu_ib, nI_nat, bi_s, vl_e, gu_t, if_true, if_false, reduceIte, bt1_1, bt1_2, bt1_3, bt1_4, bt1_5, bt1_6, bt1_7, bt1_8, bt1_9, bt1_10, bt1_11, bt1_12, bt14_1, bt14_2, bt14_3, bt14_4, bt14_5, bt14_6, bt14_7, bt14_8, bt14_9, bt14_10, bt14_11, bt14_12, C_cL C, c_tenthsBy hf l4 h1 hi C H, c_leftOf l4 h1 C H, n_L, ll0, ll1, ll2, ll10, ll2e9, z_add, z_sub, z_mul, z_neg, z_div]
    rw [if_neg (by omega), sm_s]
  · intro n
    simp (disch := omega) only [D_X5_leftSignedBy_5, li0, li1, li2, li3, li4, li5, li6, li7, li8, li9, li10, li12, li24, li31, li40, li160, n_le, n_lt, n_eq, n_m1, n_add, mr4, mr6, mr7, mr10, mr40, mr160, ml4, ml6, ml7, ml10, ml40, ml160, gu_ib, nI_nat, bi_s, vl_e, gu_t, if_true, if_false, reduceIte, bt1_1, bt1_2, bt1_3, bt1_4, bt1_5, bt1_6, bt1_7, bt1_8, bt1_9, bt1_10, bt1_11, bt1_12, bt14_1, bt14_2, bt14_3, bt14_4, bt14_5, bt14_6, bt14_7, bt14_8, bt14_9, bt14_10, bt14_11, bt14_12, C_cL C]
    rw [if_pos (by omega)]
/-! harms, read -/
theorem c_borneOf {h i : Nat} (hh : h < 24) (h1 : isH s h = 1) (hi : i < 10) (C : RC b μ s) : D_X1_borneOf_0 μ (b + 14) (nI h) (nI i) = some (zL (bO s h i)) := by
  simp (disch := omega) only [D_X1_borneOf_0, li0, li1, li2, li3, li4, li5, li6, li7, li8, li9, li10, li12, li24, li31, li40, li160, n_le, n_lt, n_eq, n_m1, n_add, mr4, mr6, mr7, mr10, mr40, mr160, ml4, ml6, ml7, ml10, ml40, ml160, gu_ib, nI_nat, bi_s, vl_e, gu_t, if_true, if_false, reduceIte, bt1_1, bt1_2, bt1_3, bt1_4, bt1_5, bt1_6, bt1_7, bt1_8, bt1_9, bt1_10, bt1_11, bt1_12, bt14_1, bt14_2, bt14_3, bt14_4, bt14_5, bt14_6, bt14_7, bt14_8, bt14_9, bt14_10, bt14_11, bt14_12]
  by_cases q : i = 0
  · subst q
    show some (μ.2.1 (b + 25) (10 * h)) = _
    rw [C_b0 C hh h1]; unfold bO; rw [if_pos rfl]
  · rw [C_br C hh h1 hi (by omega)]; unfold bO; rw [if_neg q]
theorem bA_c {s : Sp} (H : Iv N s) (F : Nat → Int) : sm (fun h => if isH s h = 1 then F h else 0) 24 = sm (fun h => if isH s h = 1 then F h else 0) (cH s) :=
  sm_ext (IvH_c24 H.H) fun i h1 h2 => if_neg fun z => by have := IvH_cH H.H (show i < 25 by omega) z; omega
theorem c_borneAll {i : Nat} (hf : 200 < fu) (hi : i < 10) (C : RC b μ s) (H : Iv N s) : D_X1_borneInAll_0 fu μ (b + 14) (nI i) = some (zL (bA s i)) := by
  have h4 := IvH_c24 H.H
  unfold D_X1_borneInAll_0 bA
  rw [bA_c H]
  refine eq_for (fun n h => D_X1_borneInAll_5 fu μ (b + 14) n (nI i) (zL (sm (fun h => if isH s h = 1 then bO s h i else 0) h)) (nI h)) (cH s) _ ?_ ?_ fu 0 (by omega) (by omega)
  · intro n h hh
    have i2 := IvH_is H.H (show h < 25 by omega)
    simp (disch := omega) only [D_X1_borneInAll_5, D_X1_borneInAll_34, li0, li1, li2, li3, li4, li5, li6, li7, li8, li9, li10, li12, li24, li31, li40, li160, n_le, n_lt, n_eq, n_m1, n_add, mr4, mr6, mr7, mr10, mr40, mr160, ml4, ml6, ml7, ml10, ml40, ml160, gu_ib, nI_nat, bi_s, vl_e, gu_t, if_true, if_false, reduceIte, bt1_1, bt1_2, bt1_3, bt1_4, bt1_5, bt1_6, bt1_7, bt1_8, bt1_9, bt1_10, bt1_11, bt1_12, bt14_1, bt14_2, bt14_3, bt14_4, bt14_5, bt14_6, bt14_7, bt14_8, bt14_9, bt14_10, bt14_11, bt14_12, C_cH C, C_ish C (show h < 24 by omega)]
    rw [if_neg (by omega), sm_s]
    by_cases q : isH s h = 1
    · rw [if_neg (by omega), if_pos q, c_borneOf (by omega) q hi C, bi_s, z_add]
    · rw [if_pos (by omega), if_neg q, Int.add_zero]
  · intro n
    simp (disch := omega) only [D_X1_borneInAll_5, li0, li1, li2, li3, li4, li5, li6, li7, li8, li9, li10, li12, li24, li31, li40, li160, n_le, n_lt, n_eq, n_m1, n_add, mr4, mr6, mr7, mr10, mr40, mr160, ml4, ml6, ml7, ml10, ml40, ml160, gu_ib, nI_nat, bi_s, vl_e, gu_t, if_true, if_false, reduceIte, bt1_1, bt1_2, bt1_3, bt1_4, bt1_5, bt1_6, bt1_7, bt1_8, bt1_9, bt1_10, bt1_11, bt1_12, bt14_1, bt14_2, bt14_3, bt14_4, bt14_5, bt14_6, bt14_7, bt14_8, bt14_9, bt14_10, bt14_11, bt14_12, C_cH C]
    rw [if_pos (by omega)]
theorem c_reasonAll {r : Nat} (hf : 200 < fu) (hr : r < 7) (C : RC b μ s) (H : Iv N s) : D_X1_reasonInAll_0 fu μ (b + 14) (nI r) = some (zL (rA s r)) := by
  have h4 := IvH_c24 H.H
  unfold D_X1_reasonInAll_0 rA
  rw [bA_c H]
  refine eq_for (fun n h => D_X1_reasonInAll_5 fu μ (b + 14) n (nI r) (zL (sm (fun h => if isH s h = 1 then fl s (7 * h + r) else 0) h)) (nI h)) (cH s) _ ?_ ?_ fu 0 (by omega) (by omega)
  · intro n h hh
    have i2 := IvH_is H.H (show h < 25 by omega)
    simp (disch := omega) only [D_X1_reasonInAll_5, D_X1_reasonInAll_39, li0, li1, li2, li3, li4, li5, li6, li7, li8, li9, li10, li12, li24, li31, li40, li160, n_le, n_lt, n_eq, n_m1, n_add, mr4, mr6, mr7, mr10, mr40, mr160, ml4, ml6, ml7, ml10, ml40, ml160, gu_ib, nI_nat, bi_s, vl_e, gu_t, if_true, if_false, reduceIte, bt1_1, bt1_2, bt1_3, bt1_4, bt1_5, bt1_6, bt1_7, bt1_8, bt1_9, bt1_10, bt1_11, bt1_12, bt14_1, bt14_2, bt14_3, bt14_4, bt14_5, bt14_6, bt14_7, bt14_8, bt14_9, bt14_10, bt14_11, bt14_12, C_cH C, C_ish C (show h < 24 by omega)]
    rw [if_neg (by omega), sm_s]
    by_cases q : isH s h = 1
    · rw [if_neg (by omega), if_pos q, C_fl C (by omega) q hr, z_add]
    · rw [if_pos (by omega), if_neg q, Int.add_zero]
  · intro n
    simp (disch := omega) only [D_X1_reasonInAll_5, li0, li1, li2, li3, li4, li5, li6, li7, li8, li9, li10, li12, li24, li31, li40, li160, n_le, n_lt, n_eq, n_m1, n_add, mr4, mr6, mr7, mr10, mr40, mr160, ml4, ml6, ml7, ml10, ml40, ml160, gu_ib, nI_nat, bi_s, vl_e, gu_t, if_true, if_false, reduceIte, bt1_1, bt1_2, bt1_3, bt1_4, bt1_5, bt1_6, bt1_7, bt1_8, bt1_9, bt1_10, bt1_11, bt1_12, bt14_1, bt14_2, bt14_3, bt14_4, bt14_5, bt14_6, bt14_7, bt14_8, bt14_9, bt14_10, bt14_11, bt14_12, C_cH C]
    rw [if_pos (by omega)]
theorem c_ahead {i : Nat} (hf : 200 < fu) (hi : i < 10) (C : RC b μ s) (H : Iv N s) : D_X1_insurersAhead_0 fu μ (b + 14) (nI i) = some (nI (iaS s i 10)) := by
  unfold D_X1_insurersAhead_0
  rw [c_borneAll hf hi C H, bi_s]
  refine eq_for (fun n o => D_X1_insurersAhead_12 fu μ (b + 14) n (nI i) (zL (bA s i)) (nI (iaS s i o)) (nI o)) 10 _ ?_ ?_ fu 0 (by omega) (by omega)
  · intro n o ho
    simp (disch := omega) only [D_X1_insurersAhead_12, D_X1_insurersAhead_47, D_X1_insurersAhead_50, li0, li1, li2, li3, li4, li5, li6, li7, li8, li9, li10, li12, li24, li31, li40, li160, n_le, n_lt, n_eq, n_m1, n_add, mr4, mr6, mr7, mr10, mr40, mr160, ml4, ml6, ml7, ml10, ml40, ml160, gu_ib, nI_nat, bi_s, vl_e, gu_t, if_true, if_false, reduceIte, bt1_1, bt1_2, bt1_3, bt1_4, bt1_5, bt1_6, bt1_7, bt1_8, bt1_9, bt1_10, bt1_11, bt1_12, bt14_1, bt14_2, bt14_3, bt14_4, bt14_5, bt14_6, bt14_7, bt14_8, bt14_9, bt14_10, bt14_11, bt14_12, c_borneAll hf ho C H]
    rw [if_neg (by omega), iaS]
    by_cases q : zL (bA s i) < zL (bA s o)
    · rw [if_pos q, if_pos (Or.inl q)]
    · rw [if_neg q]
      by_cases q2 : zL (bA s o) = zL (bA s i)
      · rw [if_pos q2]
        by_cases q3 : i ≤ o
        · rw [if_pos q3, if_neg (fun z => by rcases z with z | z; exact q z; omega)]; rfl
        · rw [if_neg q3, if_pos (Or.inr ⟨q2, by omega⟩)]
      · rw [if_neg q2, if_neg (fun z => by rcases z with z | z; exact q z; exact q2 z.1)]; rfl
  · intro n
    simp (disch := omega) only [D_X1_insurersAhead_12, li0, li1, li2, li3, li4, li5, li6, li7, li8, li9, li10, li12, li24, li31, li40, li160, n_le, n_lt, n_eq, n_m1, n_add, mr4, mr6, mr7, mr10, mr40, mr160, ml4, ml6, ml7, ml10, ml40, ml160, gu_ib, nI_nat, bi_s, vl_e, gu_t, if_true, if_false, reduceIte, bt1_1, bt1_2, bt1_3, bt1_4, bt1_5, bt1_6, bt1_7, bt1_8, bt1_9, bt1_10, bt1_11, bt1_12, bt14_1, bt14_2, bt14_3, bt14_4, bt14_5, bt14_6, bt14_7, bt14_8, bt14_9, bt14_10, bt14_11, bt14_12]
    rw [if_pos (by omega)]
/-! insurers, read -/
theorem c_thoseWho {v : Nat} (hf : 200 < fu) (hv : v < 3) (C : RC b μ s) (H : Iv N s) : D_X0_thoseWho_0 fu μ b (nI v) = some (nI (orb (fun i => decide (i ≠ 0 ∧ sd s i = v)) 10)) := by
  unfold D_X0_thoseWho_0
  have K := eq_for (fun n i => D_X0_thoseWho_4 fu μ b n (nI v) (nI (orb (fun i => decide (i ≠ 0 ∧ sd s i = v)) (i + 1))) (nI (i + 1))) 9 (some (nI (orb (fun i => decide (i ≠ 0 ∧ sd s i = v)) 10))) ?_ ?_ fu 0 (by omega) (by omega)
  · rw [show orb (fun i => decide (i ≠ 0 ∧ sd s i = v)) (0 + 1) = 0 by simp [orb]] at K
    exact K
  · intro n i hi
    have s3 := IvR_sd H.R (i := i + 1) (by omega)
    simp (disch := omega) only [D_X0_thoseWho_4, D_X0_thoseWho_26, li0, li1, li2, li3, li4, li5, li6, li7, li8, li9, li10, li12, li24, li31, li40, li160, n_le, n_lt, n_eq, n_m1, n_add, mr4, mr6, mr7, mr10, mr40, mr160, ml4, ml6, ml7, ml10, ml40, ml160, gu_ib, nI_nat, bi_s, vl_e, gu_t, if_true, if_false, reduceIte, bt1_1, bt1_2, bt1_3, bt1_4, bt1_5, bt1_6, bt1_7, bt1_8, bt1_9, bt1_10, bt1_11, bt1_12, bt14_1, bt14_2, bt14_3, bt14_4, bt14_5, bt14_6, bt14_7, bt14_8, bt14_9, bt14_10, bt14_11, bt14_12, C_sd C (show i + 1 < 10 by omega), q_shl, q_or]
    rw [if_neg (by omega)]
    conv => rhs; rw [orb]
    by_cases q : sd s (i + 1) = v
    · rw [if_pos q, if_pos (decide_eq_true ⟨by omega, q⟩)]
    · rw [if_neg q, if_neg (by rw [decide_eq_false (fun z => q z.2)]; decide), Nat.or_zero]
  · intro n
    simp (disch := omega) only [D_X0_thoseWho_4, li0, li1, li2, li3, li4, li5, li6, li7, li8, li9, li10, li12, li24, li31, li40, li160, n_le, n_lt, n_eq, n_m1, n_add, mr4, mr6, mr7, mr10, mr40, mr160, ml4, ml6, ml7, ml10, ml40, ml160, gu_ib, nI_nat, bi_s, vl_e, gu_t, if_true, if_false, reduceIte, bt1_1, bt1_2, bt1_3, bt1_4, bt1_5, bt1_6, bt1_7, bt1_8, bt1_9, bt1_10, bt1_11, bt1_12, bt14_1, bt14_2, bt14_3, bt14_4, bt14_5, bt14_6, bt14_7, bt14_8, bt14_9, bt14_10, bt14_11, bt14_12]
    rw [if_pos (by omega)]
theorem c_cashAll (hf : 200 < fu) (C : RC b μ s) (H : Iv N s) : D_X0_cashInAll_0 fu μ b = some (zL (sm (fun i => (cs s (i + 1) : Int)) 9)) := by
  unfold D_X0_cashInAll_0
  refine eq_for (fun n i => D_X0_cashInAll_4 fu μ b n (zL (sm (fun i => (cs s (i + 1) : Int)) i)) (nI (i + 1))) 9 _ ?_ ?_ fu 0 (by omega) (by omega)
  · intro n i hi
    have s3 := IvR_cs H.R (i := i + 1) (by omega)
    simp (disch := omega) only [D_X0_cashInAll_4, li0, li1, li2, li3, li4, li5, li6, li7, li8, li9, li10, li12, li24, li31, li40, li160, n_le, n_lt, n_eq, n_m1, n_add, mr4, mr6, mr7, mr10, mr40, mr160, ml4, ml6, ml7, ml10, ml40, ml160, gu_ib, nI_nat, bi_s, vl_e, gu_t, if_true, if_false, reduceIte, bt1_1, bt1_2, bt1_3, bt1_4, bt1_5, bt1_6, bt1_7, bt1_8, bt1_9, bt1_10, bt1_11, bt1_12, bt14_1, bt14_2, bt14_3, bt14_4, bt14_5, bt14_6, bt14_7, bt14_8, bt14_9, bt14_10, bt14_11, bt14_12, C_cs C (show i + 1 < 10 by omega), n_L, z_add, z_sub, z_mul, z_neg]
    rw [if_neg (by omega), sm_s]
  · intro n
    simp (disch := omega) only [D_X0_cashInAll_4, li0, li1, li2, li3, li4, li5, li6, li7, li8, li9, li10, li12, li24, li31, li40, li160, n_le, n_lt, n_eq, n_m1, n_add, mr4, mr6, mr7, mr10, mr40, mr160, ml4, ml6, ml7, ml10, ml40, ml160, gu_ib, nI_nat, bi_s, vl_e, gu_t, if_true, if_false, reduceIte, bt1_1, bt1_2, bt1_3, bt1_4, bt1_5, bt1_6, bt1_7, bt1_8, bt1_9, bt1_10, bt1_11, bt1_12, bt14_1, bt14_2, bt14_3, bt14_4, bt14_5, bt14_6, bt14_7, bt14_8, bt14_9, bt14_10, bt14_11, bt14_12]
    rw [if_pos (by omega)]
end
