/-! a book's towers, read -/
theorem mr4 (a : Nat) : nI a * nI 4 = nI (4 * a) := by rw [n_mul, Nat.mul_comm]
theorem ml4 (a : Nat) : nI 4 * nI a = nI (4 * a) := n_mul _ _
theorem mr6 (a : Nat) : nI a * nI 6 = nI (6 * a) := by rw [n_mul, Nat.mul_comm]
theorem ml6 (a : Nat) : nI 6 * nI a = nI (6 * a) := n_mul _ _
theorem mr7 (a : Nat) : nI a * nI 7 = nI (7 * a) := by rw [n_mul, Nat.mul_comm]
theorem ml7 (a : Nat) : nI 7 * nI a = nI (7 * a) := n_mul _ _
theorem mr10 (a : Nat) : nI a * nI 10 = nI (10 * a) := by rw [n_mul, Nat.mul_comm]
theorem ml10 (a : Nat) : nI 10 * nI a = nI (10 * a) := n_mul _ _
theorem mr40 (a : Nat) : nI a * nI 40 = nI (40 * a) := by rw [n_mul, Nat.mul_comm]
theorem ml40 (a : Nat) : nI 40 * nI a = nI (40 * a) := n_mul _ _
theorem mr160 (a : Nat) : nI a * nI 160 = nI (160 * a) := by rw [n_mul, Nat.mul_comm]
theorem ml160 (a : Nat) : nI 160 * nI a = nI (160 * a) := n_mul _ _
theorem bt1_1 (b : Nat) : b + 1 + 1 = b + 2 := rfl
theorem bt1_2 (b : Nat) : b + 1 + 2 = b + 3 := rfl
theorem bt1_3 (b : Nat) : b + 1 + 3 = b + 4 := rfl
theorem bt1_4 (b : Nat) : b + 1 + 4 = b + 5 := rfl
theorem bt1_5 (b : Nat) : b + 1 + 5 = b + 6 := rfl
theorem bt1_6 (b : Nat) : b + 1 + 6 = b + 7 := rfl
theorem bt1_7 (b : Nat) : b + 1 + 7 = b + 8 := rfl
theorem bt1_8 (b : Nat) : b + 1 + 8 = b + 9 := rfl
theorem bt1_9 (b : Nat) : b + 1 + 9 = b + 10 := rfl
theorem bt1_10 (b : Nat) : b + 1 + 10 = b + 11 := rfl
theorem bt1_11 (b : Nat) : b + 1 + 11 = b + 12 := rfl
theorem bt1_12 (b : Nat) : b + 1 + 12 = b + 13 := rfl
theorem bt14_1 (b : Nat) : b + 14 + 1 = b + 15 := rfl
theorem bt14_2 (b : Nat) : b + 14 + 2 = b + 16 := rfl
theorem bt14_3 (b : Nat) : b + 14 + 3 = b + 17 := rfl
theorem bt14_4 (b : Nat) : b + 14 + 4 = b + 18 := rfl
theorem bt14_5 (b : Nat) : b + 14 + 5 = b + 19 := rfl
theorem bt14_6 (b : Nat) : b + 14 + 6 = b + 20 := rfl
theorem bt14_7 (b : Nat) : b + 14 + 7 = b + 21 := rfl
theorem bt14_8 (b : Nat) : b + 14 + 8 = b + 22 := rfl
theorem bt14_9 (b : Nat) : b + 14 + 9 = b + 23 := rfl
theorem bt14_10 (b : Nat) : b + 14 + 10 = b + 24 := rfl
theorem bt14_11 (b : Nat) : b + 14 + 11 = b + 25 := rfl
theorem bt14_12 (b : Nat) : b + 14 + 12 = b + 26 := rfl
section
variable {b N : Nat} {μ : Mem} {s : Sp}
theorem c_gap {y : Nat} (hy : y < 12) (C : RC b μ s) (H : Iv N s) : D_X5_isGap_0 μ (b + 1) (nI y) = some (decide (hg s y = 0)) := by
  have h6 := IvT_hg H.T hy
  simp (disch := omega) only [D_X5_isGap_0, li0, li1, li2, li3, li4, li5, li6, li7, li8, li9, li10, li12, li24, li31, li40, li160, n_le, n_lt, n_eq, n_m1, n_add, mr4, mr6, mr7, mr10, mr40, mr160, ml4, ml6, ml7, ml10, ml40, ml160, gu_ib, nI_nat, bi_s, vl_e, gu_t, if_true, if_false, reduceIte, bt1_1, bt1_2, bt1_3, bt1_4, bt1_5, bt1_6, bt1_7, bt1_8, bt1_9, bt1_10, bt1_11, bt1_12, bt14_1, bt14_2, bt14_3, bt14_4, bt14_5, bt14_6, bt14_7, bt14_8, bt14_9, bt14_10, bt14_11, bt14_12, C_hg C hy]
  by_cases q : hg s y = 0
  · rw [if_pos q, decide_eq_true q]
  · rw [if_neg q, decide_eq_false q]
theorem c_lacks {y : Nat} (hy : y < 12) (C : RC b μ s) (H : Iv N s) : D_X5_lacks_0 μ (b + 1) (nI y) = some (lkb s y) := by
  have h6 := IvT_lk H.T
  simp (disch := omega) only [D_X5_lacks_0, li0, li1, li2, li3, li4, li5, li6, li7, li8, li9, li10, li12, li24, li31, li40, li160, n_le, n_lt, n_eq, n_m1, n_add, mr4, mr6, mr7, mr10, mr40, mr160, ml4, ml6, ml7, ml10, ml40, ml160, gu_ib, nI_nat, bi_s, vl_e, gu_t, if_true, if_false, reduceIte, bt1_1, bt1_2, bt1_3, bt1_4, bt1_5, bt1_6, bt1_7, bt1_8, bt1_9, bt1_10, bt1_11, bt1_12, bt14_1, bt14_2, bt14_3, bt14_4, bt14_5, bt14_6, bt14_7, bt14_8, bt14_9, bt14_10, bt14_11, bt14_12, C_lk C, q_b]
  unfold lkb
  cases (lk s).testBit y <;> rfl
theorem c_layerAt {y k : Nat} (hy : y < 12) (hk : k < hg s y) (C : RC b μ s) (H : Iv N s) : D_X5_layerAt_0 μ (b + 1) (nI y) (nI k) = some (nI (rg s (6 * y + k))) := by
  have h6 := IvT_hg H.T hy
  simp (disch := omega) only [D_X5_layerAt_0, li0, li1, li2, li3, li4, li5, li6, li7, li8, li9, li10, li12, li24, li31, li40, li160, n_le, n_lt, n_eq, n_m1, n_add, mr4, mr6, mr7, mr10, mr40, mr160, ml4, ml6, ml7, ml10, ml40, ml160, gu_ib, nI_nat, bi_s, vl_e, gu_t, if_true, if_false, reduceIte, bt1_1, bt1_2, bt1_3, bt1_4, bt1_5, bt1_6, bt1_7, bt1_8, bt1_9, bt1_10, bt1_11, bt1_12, bt14_1, bt14_2, bt14_3, bt14_4, bt14_5, bt14_6, bt14_7, bt14_8, bt14_9, bt14_10, bt14_11, bt14_12, C_rg C hy hk]
theorem c_topOf {l : Nat} (hl : l < 40) (h1 : isL s l = 1) (C : RC b μ s) : D_X5_topOf_0 μ (b + 1) (nI l) = some (nI (tp s l)) := by
  simp (disch := omega) only [D_X5_topOf_0, li0, li1, li2, li3, li4, li5, li6, li7, li8, li9, li10, li12, li24, li31, li40, li160, n_le, n_lt, n_eq, n_m1, n_add, mr4, mr6, mr7, mr10, mr40, mr160, ml4, ml6, ml7, ml10, ml40, ml160, gu_ib, nI_nat, bi_s, vl_e, gu_t, if_true, if_false, reduceIte, bt1_1, bt1_2, bt1_3, bt1_4, bt1_5, bt1_6, bt1_7, bt1_8, bt1_9, bt1_10, bt1_11, bt1_12, bt14_1, bt14_2, bt14_3, bt14_4, bt14_5, bt14_6, bt14_7, bt14_8, bt14_9, bt14_10, bt14_11, bt14_12, C_fr C hl h1, C_sz C hl h1]
  rfl
theorem c_lowest {y : Nat} (hy : y < 12) (hk : 0 < hg s y) (C : RC b μ s) (H : Iv N s) : D_X5_lowestFrom_0 μ (b + 1) (nI y) = some (nI (fr s (rg s (6 * y)))) := by
  have h6 := IvT_hg H.T hy
  have e := C_rg C hy hk
  have h4 := IvT_rg H.T hy hk
  have h1 := IvT_ri H.T hy hk
  simp only [Nat.add_zero] at e h4 h1
  simp (disch := omega) only [D_X5_lowestFrom_0, li0, li1, li2, li3, li4, li5, li6, li7, li8, li9, li10, li12, li24, li31, li40, li160, n_le, n_lt, n_eq, n_m1, n_add, mr4, mr6, mr7, mr10, mr40, mr160, ml4, ml6, ml7, ml10, ml40, ml160, gu_ib, nI_nat, bi_s, vl_e, gu_t, if_true, if_false, reduceIte, bt1_1, bt1_2, bt1_3, bt1_4, bt1_5, bt1_6, bt1_7, bt1_8, bt1_9, bt1_10, bt1_11, bt1_12, bt14_1, bt14_2, bt14_3, bt14_4, bt14_5, bt14_6, bt14_7, bt14_8, bt14_9, bt14_10, bt14_11, bt14_12, e, C_fr C h4 h1]
theorem lf_b {l : Nat} (hl : l < 40) (h1 : isL s l = 1) (H : Iv N s) : 0 ≤ lf s l ∧ lf s l ≤ 400000000 ∧ 0 ≤ us s l := by
  have a := IvH_ul H.H hl h1
  have b := IvT_sz H.T hl h1
  have c := IvT_tm H.T hl h1
  have d : 0 ≤ us s l := by rw [IvH_us H.H hl]; exact sm_nn fun i hi => (IvH_tk H.H (by omega) hl).1
  have e : (sz s l : Int) * (tm s l : Int) ≤ 100000000 * 4 := Int.mul_le_mul (by omega) (by omega) (by omega) (by omega)
  unfold lf; omega
theorem c_leftOf {l : Nat} (hl : l < 40) (h1 : isL s l = 1) (C : RC b μ s) (H : Iv N s) : D_X5_leftOf_0 μ (b + 1) (nI l) = some (zL (lf s l)) := by
  have b := IvT_sz H.T hl h1
  have c := IvT_tm H.T hl h1
  simp (disch := omega) only [D_X5_leftOf_0, li0, li1, li2, li3, li4, li5, li6, li7, li8, li9, li10, li12, li24, li31, li40, li160, n_le, n_lt, n_eq, n_m1, n_add, mr4, mr6, mr7, mr10, mr40, mr160, ml4, ml6, ml7, ml10, ml40, ml160, gu_ib, nI_nat, bi_s, vl_e, gu_t, if_true, if_false, reduceIte, bt1_1, bt1_2, bt1_3, bt1_4, bt1_5, bt1_6, bt1_7, bt1_8, bt1_9, bt1_10, bt1_11, bt1_12, bt14_1, bt14_2, bt14_3, bt14_4, bt14_5, bt14_6, bt14_7, bt14_8, bt14_9, bt14_10, bt14_11, bt14_12, C_sz C hl h1, C_tm C hl h1, C_us C hl h1, n_L, z_add, z_sub, z_mul, z_neg]
  rfl
theorem c_isUsedUp {l : Nat} (hl : l < 40) (h1 : isL s l = 1) (C : RC b μ s) (H : Iv N s) : D_X5_isUsedUp_0 μ (b + 1) (nI l) = some (decide (lf s l = 0)) := by
  have b := lf_b hl h1 H
  simp (disch := omega) only [D_X5_isUsedUp_0, li0, li1, li2, li3, li4, li5, li6, li7, li8, li9, li10, li12, li24, li31, li40, li160, n_le, n_lt, n_eq, n_m1, n_add, mr4, mr6, mr7, mr10, mr40, mr160, ml4, ml6, ml7, ml10, ml40, ml160, gu_ib, nI_nat, bi_s, vl_e, gu_t, if_true, if_false, reduceIte, bt1_1, bt1_2, bt1_3, bt1_4, bt1_5, bt1_6, bt1_7, bt1_8, bt1_9, bt1_10, bt1_11, bt1_12, bt14_1, bt14_2, bt14_3, bt14_4, bt14_5, bt14_6, bt14_7, bt14_8, bt14_9, bt14_10, bt14_11, bt14_12, c_leftOf hl h1 C H, ll0, ll1, ll2, ll10, ll2e9, z_lt]
  by_cases q : lf s l = 0
  · rw [if_neg (by omega), decide_eq_true q]
  · rw [if_pos (by omega), decide_eq_false q]
theorem c_width {y k : Nat} (hy : y < 12) (hk : k < hg s y) (C : RC b μ s) (H : Iv N s) : D_X5_widthBelow_0 μ (b + 1) (nI y) (nI k) = some (nI (hl s (rg s (6 * y + k)))) := by
  have h6 := IvT_hg H.T hy
  have h4 := IvT_rg H.T hy hk
  have h1 := IvT_ri H.T hy hk
  cases k with
  | zero =>
    simp (disch := omega) only [D_X5_widthBelow_0, D_X5_widthBelow_20, li0, li1, li2, li3, li4, li5, li6, li7, li8, li9, li10, li12, li24, li31, li40, li160, n_le, n_lt, n_eq, n_m1, n_add, mr4, mr6, mr7, mr10, mr40, mr160, ml4, ml6, ml7, ml10, ml40, ml160, gu_ib, nI_nat, bi_s, vl_e, gu_t, if_true, if_false, reduceIte, bt1_1, bt1_2, bt1_3, bt1_4, bt1_5, bt1_6, bt1_7, bt1_8, bt1_9, bt1_10, bt1_11, bt1_12, bt14_1, bt14_2, bt14_3, bt14_4, bt14_5, bt14_6, bt14_7, bt14_8, bt14_9, bt14_10, bt14_11, bt14_12, c_layerAt hy hk C H, C_fr C h4 h1]
    have := IvT_h0 H.T hy hk
    simp only [Nat.add_zero, Nat.le_refl, if_true, n_sub (Nat.zero_le _), Nat.sub_zero]
    rw [this]
  | succ k =>
    have k2 : k < hg s y := by omega
    have g4 := IvT_rg H.T hy k2
    have g1 := IvT_ri H.T hy k2
    have st := IvT_st H.T hy hk
    simp (disch := omega) only [D_X5_widthBelow_0, D_X5_widthBelow_20, li0, li1, li2, li3, li4, li5, li6, li7, li8, li9, li10, li12, li24, li31, li40, li160, n_le, n_lt, n_eq, n_m1, n_add, mr4, mr6, mr7, mr10, mr40, mr160, ml4, ml6, ml7, ml10, ml40, ml160, gu_ib, nI_nat, bi_s, vl_e, gu_t, if_true, if_false, reduceIte, bt1_1, bt1_2, bt1_3, bt1_4, bt1_5, bt1_6, bt1_7, bt1_8, bt1_9, bt1_10, bt1_11, bt1_12, bt14_1, bt14_2, bt14_3, bt14_4, bt14_5, bt14_6, bt14_7, bt14_8, bt14_9, bt14_10, bt14_11, bt14_12, n_sub, Nat.add_sub_cancel, c_layerAt hy hk C H, c_layerAt hy k2 C H, c_topOf g4 g1 C, C_fr C h4 h1]
    rw [if_neg (by omega), IvT_hk H.T hy hk]
end
