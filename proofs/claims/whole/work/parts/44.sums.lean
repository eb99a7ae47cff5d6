/-! places in a year, sums over a year, shares -/
theorem st_lt {s : Sp} (H : IvT s) {y i : Nat} (hy : y < 12) : ∀ {j : Nat}, i < j → j < hg s y → tp s (rg s (6 * y + i)) ≤ fr s (rg s (6 * y + j))
  | 0, h, _ => by omega
  | j + 1, hij, hj => by
    have a := IvT_st H hy hj
    by_cases h : i = j
    · subst h; exact a
    · have b := st_lt H hy (i := i) (j := j) (by omega) (by omega)
      have c : fr s (rg s (6 * y + j)) ≤ tp s (rg s (6 * y + j)) := Nat.le_add_right _ _
      exact Nat.le_trans b (Nat.le_trans c a)
theorem fr_tp {s : Sp} (H : IvT s) {l : Nat} (h : l < 40) (h1 : isL s l = 1) : fr s l < tp s l := by
  have := (IvT_sz H h h1).1
  unfold tp; omega
theorem st_fr {s : Sp} (H : IvT s) {y i j : Nat} (hy : y < 12) (hij : i < j) (hj : j < hg s y) : fr s (rg s (6 * y + i)) < fr s (rg s (6 * y + j)) := by
  have a := st_lt H hy hij hj
  have b := fr_tp H (IvT_rg H hy (k := i) (by omega)) (IvT_ri H hy (by omega))
  omega
theorem rg_inj {s : Sp} (H : IvT s) {y i j : Nat} (hy : y < 12) (hi : i < hg s y) (hj : j < hg s y) (e : rg s (6 * y + i) = rg s (6 * y + j)) : i = j := by
  rcases Nat.lt_trichotomy i j with h | h | h
  · have := st_fr H hy h hj; rw [e] at this; omega
  · exact h
  · have := st_fr H hy h hi; rw [e] at this; omega
theorem rg_yr {s : Sp} (H : IvT s) {y z i j : Nat} (hy : y < 12) (hz : z < 12) (hi : i < hg s y) (hj : j < hg s z) (e : rg s (6 * y + i) = rg s (6 * z + j)) : y = z := by
  have a := IvT_ry H hy hi
  have b := IvT_ry H hz hj
  rw [e] at a; omega
theorem sm_perm (F : Nat → Int) (g : Nat → Nat) (N : Nat) : ∀ (n : Nat), (∀ k, k < n → g k < N) → (∀ i j, i < n → j < n → g i = g j → i = j) → ∀ G : Nat → Int, (∀ k, k < n → G (g k) = F (g k)) → (∀ l, l < N → (∀ k, k < n → g k ≠ l) → G l = 0) → sm G N = sm (fun k => F (g k)) n
  | 0, _, _, G, _, h => by
    rw [sm_z (f := G) fun l hl => h l hl (fun k hk => absurd hk (Nat.not_lt_zero k))]; rfl
  | n + 1, hN, hi, G, hF, hz => by
    have e := sm_up (f := fun l => if l = g n then 0 else G l) (g := G) (k := g n) (d := F (g n)) (n := N) (hN n (by omega))
      (fun i _ h => by rw [if_neg h]) (by rw [if_pos rfl, hF n (by omega)]; omega)
    rw [e, sm_s, sm_perm F g N n (fun k hk => hN k (by omega)) (fun i j h1 h2 => hi i j (by omega) (by omega))]
    · intro k hk
      have : g k ≠ g n := fun h => by have := hi k n (by omega) (by omega) h; omega
      rw [if_neg this, hF k (by omega)]
    · intro l hl h
      by_cases hq : l = g n
      · rw [if_pos hq]
      · rw [if_neg hq]
        refine hz l hl fun k hk => ?_
        by_cases hkn : k = n
        · subst hkn; exact fun z => hq z.symm
        · exact h k (by omega)
theorem sm_yr {s : Sp} (H : IvT s) {y : Nat} (hy : y < 12) (F : Nat → Int) : sm (fun l => if isL s l = 1 ∧ yr s l = y then F l else 0) 40 = sm (fun k => F (rg s (6 * y + k))) (hg s y) := by
  refine sm_perm F (fun k => rg s (6 * y + k)) 40 (hg s y) (fun k hk => IvT_rg H hy hk) (fun i j h1 h2 e => rg_inj H hy h1 h2 e) _ ?_ ?_
  · intro k hk
    show (if isL s (rg s (6 * y + k)) = 1 ∧ yr s (rg s (6 * y + k)) = y then F (rg s (6 * y + k)) else 0) = _
    rw [if_pos ⟨IvT_ri H hy hk, IvT_ry H hy hk⟩]
  · intro l hl h
    show (if isL s l = 1 ∧ yr s l = y then F l else 0) = 0
    refine if_neg fun hq => ?_
    obtain ⟨k, hk, e⟩ := IvT_in H hl hq.1
    rw [hq.2] at hk e
    exact h k hk e
/-! shares -/
theorem cp_s (w : Nat → Int) (n : Nat) : cp w (n + 1) = cp w n + (if 0 < w n then 1 else 0) := rfl
theorem cp_nn (w : Nat → Int) : ∀ n, 0 ≤ cp w n
  | 0 => Int.le_refl _
  | n + 1 => by
    have := cp_nn w n
    rw [cp_s]; split <;> omega
theorem cp_le (w : Nat → Int) : ∀ n, cp w n ≤ n
  | 0 => Int.le_refl _
  | n + 1 => by
    have := cp_le w n
    rw [cp_s]; split <;> omega
theorem cp_mo (w : Nat → Int) {m : Nat} : ∀ {n : Nat}, m ≤ n → cp w m ≤ cp w n
  | 0, h => by rw [Nat.le_zero.mp h]; exact Int.le_refl _
  | n + 1, h => by
    by_cases e : m = n + 1
    · subst e; exact Int.le_refl _
    · have := cp_mo w (m := m) (n := n) (by omega)
      rw [cp_s]; split <;> omega
/-- floors of a sum -/
theorem fl_up (w : Nat → Int) {r S : Int} (hS : 0 < S) : ∀ n : Nat, sm (fun k => r * w k / S) n * S ≤ r * sm w n
  | 0 => by simp [sm]
  | n + 1 => by
    have a := fl_up w (r := r) hS n
    have b := Int.ediv_mul_le (r * w n) (b := S) (by omega)
    rw [sm_s, sm_s, Int.add_mul, Int.mul_add]
    exact Int.add_le_add a b
theorem fl_dn (w : Nat → Int) {r S : Int} (hS : 0 < S) : ∀ n : Nat, (∀ k, k < n → 0 ≤ w k) → r * sm w n ≤ sm (fun k => r * w k / S) n * S + (S - 1) * cp w n
  | 0, _ => by simp [sm, cp]
  | n + 1, h => by
    have a := fl_dn w (r := r) hS n (fun k hk => h k (by omega))
    have b := Int.lt_ediv_add_one_mul_self (r * w n) hS
    have hw := h n (by omega)
    rw [sm_s, sm_s, cp_s, Int.add_mul, Int.mul_add, Int.mul_add]
    by_cases hq : 0 < w n
    · rw [if_pos hq]
      rw [Int.add_mul, Int.one_mul] at b
      omega
    · rw [if_neg hq]
      have e : w n = 0 := by omega
      have z : r * w n = 0 := by rw [e, Int.mul_zero]
      show r * sm w n + r * w n ≤ sm (fun k => r * w k / S) n * S + r * w n / S * S + ((S - 1) * cp w n + (S - 1) * 0)
      rw [z, Int.zero_ediv]; omega
theorem sm_mul (c : Int) (w : Nat → Int) : ∀ n : Nat, sm (fun k => c * w k) n = c * sm w n
  | 0 => by simp [sm]
  | n + 1 => by rw [sm_s, sm_s, sm_mul c w n, Int.mul_add]
theorem sh_R {n : Nat} {a : Int} {w : Nat → Int} (hw : ∀ k, k < n → 0 ≤ w k) (hS : 0 < sm w n) (ha : 0 ≤ a) : 0 ≤ shR n a w ∧ shR n a w ≤ cp w n := by
  have e1 : sm (sh0 n a w) n = a / sm w n * sm w n + sm (fun k => (a - a / sm w n * sm w n) * w k / sm w n) n := by
    show sm (fun k => a / sm w n * w k + (a - a / sm w n * sm w n) * w k / sm w n) n = _
    rw [sm_add (fun k => a / sm w n * w k) (fun k => (a - a / sm w n * sm w n) * w k / sm w n) n, sm_mul]
  have u := fl_up w (r := a - a / sm w n * sm w n) hS n
  have d := fl_dn w (r := a - a / sm w n * sm w n) hS n hw
  have hc := cp_nn w n
  unfold shR
  rw [e1]
  generalize sm (fun k => (a - a / sm w n * sm w n) * w k / sm w n) n = X at u d ⊢
  generalize hr : a - a / sm w n * sm w n = r at u d
  have hx : X ≤ r := Int.le_of_mul_le_mul_right u hS
  have hk : r - X ≤ cp w n := by
    by_cases hz : r - X ≤ cp w n
    · exact hz
    · have h1 : cp w n + 1 ≤ r - X := by omega
      have h2 : sm w n * (cp w n + 1) ≤ sm w n * (r - X) := Int.mul_le_mul_of_nonneg_left h1 (Int.le_of_lt hS)
      rw [Int.mul_add, Int.mul_one, Int.mul_sub, Int.mul_comm (sm w n) r, Int.mul_comm (sm w n) X] at h2
      rw [Int.sub_mul, Int.one_mul] at d
      omega
  omega
theorem sh_one {R : Int} (hR : 0 ≤ R) (w : Nat → Int) : ∀ m : Nat, sm (fun k => if 0 < w k ∧ cp w k < R then 1 else 0) m = min (cp w m) R
  | 0 => by
    show (0 : Int) = min 0 R
    rw [Int.min_eq_left hR]
  | m + 1 => by
    rw [sm_s, sh_one hR w m, cp_s]
    by_cases h1 : 0 < w m
    · rw [if_pos h1]
      by_cases h2 : cp w m < R
      · rw [if_pos ⟨h1, h2⟩, Int.min_eq_left (by omega), Int.min_eq_left (by omega)]
      · rw [if_neg (fun z => h2 z.2), Int.min_eq_right (by omega), Int.min_eq_right (by omega)]; omega
    · rw [if_neg h1, if_neg (fun z => h1 z.1)]; simp
theorem sh_sum {n : Nat} {a : Int} {w : Nat → Int} (hw : ∀ k, k < n → 0 ≤ w k) (hS : 0 < sm w n) (ha : 0 ≤ a) : sm (shF n a w) n = a := by
  obtain ⟨h1, h2⟩ := sh_R hw hS ha
  have e : sm (shF n a w) n = sm (fun k => sh0 n a w k + if 0 < w k ∧ cp w k < shR n a w then 1 else 0) n := sm_congr fun k _ => by
    unfold shF; rw [if_neg (by omega)]
  rw [e, sm_add (sh0 n a w) (fun k => if 0 < w k ∧ cp w k < shR n a w then 1 else 0), sh_one h1, Int.min_eq_right h2]
  unfold shR; omega
theorem sh0_nn {n : Nat} {a : Int} {w : Nat → Int} {k : Nat} (hk : 0 ≤ w k) (hS : 0 < sm w n) (ha : 0 ≤ a) : 0 ≤ sh0 n a w k := by
  unfold sh0
  have h1 : 0 ≤ a / sm w n := Int.ediv_nonneg ha (Int.le_of_lt hS)
  have h2 : 0 ≤ a - a / sm w n * sm w n := by have := Int.ediv_mul_le a (b := sm w n) (by omega); omega
  exact Int.add_nonneg (Int.mul_nonneg h1 hk) (Int.ediv_nonneg (Int.mul_nonneg h2 hk) (Int.le_of_lt hS))
theorem sh_nn {n : Nat} {a : Int} {w : Nat → Int} {k : Nat} (hk : 0 ≤ w k) (ha : 0 ≤ a) : 0 ≤ shF n a w k := by
  unfold shF
  by_cases hS : sm w n ≤ 0
  · rw [if_pos hS]; exact Int.le_refl _
  · rw [if_neg hS]
    have := sh0_nn (n := n) (a := a) (w := w) (k := k) hk (by omega) ha
    split <;> omega
theorem sh_le {n : Nat} {a : Int} {w : Nat → Int} {k : Nat} (hw : ∀ k, k < n → 0 ≤ w k) (hk : k < n) (ha : 0 ≤ a) : shF n a w k ≤ a := by
  by_cases hS : sm w n ≤ 0
  · unfold shF; rw [if_pos hS]; exact ha
  · have := sm_at (f := shF n a w) hk (fun i hi => sh_nn (hw i hi) ha)
    rw [sh_sum hw (by omega) ha] at this
    exact this
theorem sh_z {n : Nat} {a : Int} {w : Nat → Int} {k : Nat} (hk : w k = 0) : shF n a w k = 0 := by
  unfold shF sh0
  rw [hk]
  by_cases hS : sm w n ≤ 0
  · rw [if_pos hS]
  · rw [if_neg hS, if_neg (fun z => by omega), Int.mul_zero, Int.mul_zero, Int.zero_ediv]; rfl
theorem sh_w {n : Nat} {a : Int} {w : Nat → Int} {k : Nat} (hw : ∀ k, k < n → 0 ≤ w k) (hk : k < n) (ha : 0 ≤ a) (hS : a ≤ sm w n) : shF n a w k ≤ w k := by
  have hwk := hw k hk
  by_cases h0 : sm w n ≤ 0
  · unfold shF; rw [if_pos h0]; exact hwk
  by_cases hz : w k = 0
  · rw [sh_z hz]; omega
  by_cases he : a = sm w n
  · have e1 : a / sm w n = 1 := by rw [he]; exact Int.ediv_self (by omega)
    have e0 : ∀ j, sh0 n a w j = w j := fun j => by
      unfold sh0
      rw [e1, Int.one_mul, Int.one_mul, he, Int.sub_self, Int.zero_mul, Int.zero_ediv, Int.add_zero]
    have eR : shR n a w = 0 := by
      unfold shR
      rw [show sm (sh0 n a w) n = sm w n from sm_congr fun j _ => e0 j]; omega
    unfold shF
    rw [if_neg h0, e0, eR, if_neg (fun z => by have := cp_nn w k; omega)]; omega
  · have e1 : a / sm w n = 0 := Int.ediv_eq_zero_of_lt ha (by omega)
    have h1 : sh0 n a w k = a * w k / sm w n := by
      unfold sh0
      rw [e1, Int.zero_mul, Int.zero_mul, Int.sub_zero, Int.zero_add]
    have h2 : a * w k / sm w n < w k := by
      refine Int.ediv_lt_of_lt_mul (by omega) ?_
      rw [Int.mul_comm (w k)]
      exact Int.mul_lt_mul_of_pos_right (by omega) (by omega)
    unfold shF
    rw [if_neg h0, h1]
    split <;> omega
