/-! questions that read: widest, strongest, holds, spent, status -/
section
variable {fu n N c : Nat} {ev : Nat → Ev} {μ m : Mem} {s : Sp}
/-- the widest hole so far -/
def wdS (s : Sp) (y : Nat) : Nat → Int32 × Nat
  | 0 => (-1, 0)
  | k + 1 => if hl s (rg s (6 * y + k)) ≤ (wdS s y k).2 then wdS s y k else (nI (rg s (6 * y + k)), hl s (rg s (6 * y + k)))
theorem wdS_b {y : Nat} (hy : y < 12) (H : IvT s) : ∀ k, k ≤ hg s y → (wdS s y k).2 ≤ 900000000
  | 0, _ => Nat.zero_le _
  | k + 1, hk => by
    have a := wdS_b hy H k (by omega)
    have g4 := IvT_rg H hy (show k < hg s y by omega)
    have g1 := IvT_ri H hy (show k < hg s y by omega)
    have b := hl_fr H g4 g1
    have d := IvT_fr H g4 g1
    unfold wdS
    split
    · exact a
    · exact Nat.le_trans b d
theorem c_wide {y a : Nat} (hf : 200 < fu) (hy : y < 12) (ha : a ≤ 1) (C : RC 3 μ s) (H : Iv N s) : D_X6_widest_33 fu fu (nI y) (nI a) (-1) 0 0 μ = some (.inl (if a = 0 then (wdS s y (hg s y)).1 else nI (wdS s y (hg s y)).2), μ) := by
  have h6 := IvT_hg H.T hy
  refine eq_for (fun n k => D_X6_widest_33 fu n (nI y) (nI a) (wdS s y k).1 (nI (wdS s y k).2) (nI k) μ) (hg s y) _ ?_ ?_ fu 0 (by omega) (by omega)
  · intro n k hk
    have b := wdS_b hy H.T k (by omega)
    have g4 := IvT_rg H.T hy hk
    have g1 := IvT_ri H.T hy hk
    have b1 := hl_fr H.T g4 g1
    have b2 := IvT_fr H.T g4 g1
    show D_X6_widest_33 fu (n + 1) (nI y) (nI a) (wdS s y k).1 (nI (wdS s y k).2) (nI k) μ = _
    rw [D_X6_widest_33]
    simp (disch := omega) only [D_X6_widest_90, li0, li1, li2, li3, li4, li5, li6, li7, li8, li9, li10, li12, li24, li31, li40, li160, n_le, n_lt, n_eq, n_m1, n_add, mr4, mr6, mr7, mr10, mr40, mr160, ml4, ml6, ml7, ml10, ml40, ml160, gu_ib, nI_nat, bi_s, vl_e, gu_t, if_true, if_false, reduceIte, bt1_1, bt1_2, bt1_3, bt1_4, bt1_5, bt1_6, bt1_7, bt1_8, bt1_9, bt1_10, bt1_11, bt1_12, bt14_1, bt14_2, bt14_3, bt14_4, bt14_5, bt14_6, bt14_7, bt14_8, bt14_9, bt14_10, bt14_11, bt14_12, K_hg C, show D_X5_widthBelow_0 μ 4 (nI y) (nI k) = some (nI (hl s (rg s (6 * y + k)))) from c_width hy hk C H, show D_X5_layerAt_0 μ 4 (nI y) (nI k) = some (nI (rg s (6 * y + k))) from c_layerAt hy hk C H]
    rw [if_neg (by omega)]
    by_cases q : hl s (rg s (6 * y + k)) ≤ (wdS s y k).2
    · rw [if_pos q, wdS, if_pos q]
    · rw [if_neg q, wdS, if_neg q]
  · intro n
    show D_X6_widest_33 fu (n + 1) (nI y) (nI a) (wdS s y (hg s y)).1 (nI (wdS s y (hg s y)).2) (nI (hg s y)) μ = _
    rw [D_X6_widest_33]
    simp (disch := omega) only [li0, li1, li2, li3, li4, li5, li6, li7, li8, li9, li10, li12, li24, li31, li40, li160, n_le, n_lt, n_eq, n_m1, n_add, mr4, mr6, mr7, mr10, mr40, mr160, ml4, ml6, ml7, ml10, ml40, ml160, gu_ib, nI_nat, bi_s, vl_e, gu_t, if_true, if_false, reduceIte, bt1_1, bt1_2, bt1_3, bt1_4, bt1_5, bt1_6, bt1_7, bt1_8, bt1_9, bt1_10, bt1_11, bt1_12, bt14_1, bt14_2, bt14_3, bt14_4, bt14_5, bt14_6, bt14_7, bt14_8, bt14_9, bt14_10, bt14_11, bt14_12, K_hg C]
    rw [if_pos (by omega)]
    by_cases q : a = 0
    · rw [if_pos q, if_pos q]
    · rw [if_neg q, if_neg q]
theorem m_wide {y a : Nat} (hf : 200 < fu) (hy : y < 12) (ha : a ≤ 1) (R : RM m s) (H : Iv N s) : D_X7_widest_51 fu fu (nI y) (nI a) (-1) 0 0 m = some (if a = 0 then (wdS s y (hg s y)).1 else nI (wdS s y (hg s y)).2, m) := by
  have h6 := IvT_hg H.T hy
  refine eq_for (fun n k => D_X7_widest_51 fu n (nI y) (nI a) (wdS s y k).1 (nI (wdS s y k).2) (nI k) m) (hg s y) _ ?_ ?_ fu 0 (by omega) (by omega)
  · intro n k hk
    have b := wdS_b hy H.T k (by omega)
    have g4 := IvT_rg H.T hy hk
    have g1 := IvT_ri H.T hy hk
    have b1 := hl_fr H.T g4 g1
    have b2 := IvT_fr H.T g4 g1
    show D_X7_widest_51 fu (n + 1) (nI y) (nI a) (wdS s y k).1 (nI (wdS s y k).2) (nI k) m = _
    rw [D_X7_widest_51]
    simp (disch := omega) only [D_X7_widest_95, D_X7_holeOf_0, li0, li1, li2, li3, li4, li5, li6, li7, li8, li9, li10, li12, li24, li31, li40, li160, n_le, n_lt, n_eq, n_m1, n_add, mr4, mr6, mr7, mr10, mr40, mr160, ml4, ml6, ml7, ml10, ml40, ml160, gu_ib, nI_nat, bi_s, vl_e, gu_t, if_true, if_false, reduceIte, bt1_1, bt1_2, bt1_3, bt1_4, bt1_5, bt1_6, bt1_7, bt1_8, bt1_9, bt1_10, bt1_11, bt1_12, bt14_1, bt14_2, bt14_3, bt14_4, bt14_5, bt14_6, bt14_7, bt14_8, bt14_9, bt14_10, bt14_11, bt14_12, m_layersOf hy R.a, m_rung hy hk R.a H.T, M_hl R g4 g1]
    rw [if_neg (by omega)]
    by_cases q : hl s (rg s (6 * y + k)) ≤ (wdS s y k).2
    · rw [if_neg (by omega), wdS, if_pos q]
    · rw [if_pos (by omega), wdS, if_neg q]
  · intro n
    show D_X7_widest_51 fu (n + 1) (nI y) (nI a) (wdS s y (hg s y)).1 (nI (wdS s y (hg s y)).2) (nI (hg s y)) m = _
    rw [D_X7_widest_51]
    simp (disch := omega) only [li0, li1, li2, li3, li4, li5, li6, li7, li8, li9, li10, li12, li24, li31, li40, li160, n_le, n_lt, n_eq, n_m1, n_add, mr4, mr6, mr7, mr10, mr40, mr160, ml4, ml6, ml7, ml10, ml40, ml160, gu_ib, nI_nat, bi_s, vl_e, gu_t, if_true, if_false, reduceIte, bt1_1, bt1_2, bt1_3, bt1_4, bt1_5, bt1_6, bt1_7, bt1_8, bt1_9, bt1_10, bt1_11, bt1_12, bt14_1, bt14_2, bt14_3, bt14_4, bt14_5, bt14_6, bt14_7, bt14_8, bt14_9, bt14_10, bt14_11, bt14_12, m_layersOf hy R.a]
    rw [if_pos (by omega)]
    by_cases q : a = 0
    · rw [if_pos q, if_pos q]
    · rw [if_neg q, if_neg q]
theorem q_widest (hf : 200 < fu) (G : EG ev n) (C : CI ev n μ) (a1 a2 : Int32) : QQ ev n (kd 0 1 0) μ (D_X6_widest_0 fu a1 a2 μ) (D_X7_widest_0 fu a1 a2) := by
  have H := run_Iv G
  cases q1 : inC a1 (nI 0) (nI 11) with
  | false =>
    have w1 := fun m => mWq q1 (L := 0) (H := 11) rfl rfl m
    refine QQ_r (.inr 1) 0 C (ho_r (by decide)) ?_ fun x m e D h0 => ?_
    · simp only [D_X6_widest_0, D_X6_widest_21, D_X6_widest_22, D_X6_isYear_0, wC, li11, q1, li0, li1, li2, li3, li4, li5, li6, li7, li8, li9, li10, li12, li24, li31, li40, li160, n_le, n_lt, n_eq, n_m1, n_add, mr4, mr6, mr7, mr10, mr40, mr160, ml4, ml6, ml7, ml10, ml40, ml160, gu_ib, nI_nat, bi_s, vl_e, gu_t, if_true, if_false, reduceIte, bt1_1, bt1_2, bt1_3, bt1_4, bt1_5, bt1_6, bt1_7, bt1_8, bt1_9, bt1_10, bt1_11, bt1_12, bt14_1, bt14_2, bt14_3, bt14_4, bt14_5, bt14_6, bt14_7, bt14_8, bt14_9, bt14_10, bt14_11, bt14_12, Nat.reduceLeDiff, Nat.reduceEqDiff, Nat.reduceLT, eq_self, Nat.le_refl, Nat.le_zero_eq, Nat.not_lt_zero, Bool.false_eq_true, c_rf, tx_r, cAn]
    · have nf := m_nf (k := 1) (j := 1) h0 (by decide) (by decide) (by decide)
      simp only [D_X7_widest_0, D_X7_widest_32, D_X7_widest_33, e, li0, li1, li2, li3, li4, li5, li6, li7, li8, li9, li10, li12, li24, li31, li40, li160, n_le, n_lt, n_eq, n_m1, n_add, mr4, mr6, mr7, mr10, mr40, mr160, ml4, ml6, ml7, ml10, ml40, ml160, gu_ib, nI_nat, bi_s, vl_e, gu_t, if_true, if_false, reduceIte, bt1_1, bt1_2, bt1_3, bt1_4, bt1_5, bt1_6, bt1_7, bt1_8, bt1_9, bt1_10, bt1_11, bt1_12, bt14_1, bt14_2, bt14_3, bt14_4, bt14_5, bt14_6, bt14_7, bt14_8, bt14_9, bt14_10, bt14_11, bt14_12, Nat.reduceLeDiff, Nat.reduceEqDiff, Nat.reduceLT, eq_self, Nat.le_refl, Nat.le_zero_eq, Nat.not_lt_zero, w1, nf, Bool.false_eq_true, mAn, kd]
  | true =>
    have w1 := fun m => mWq q1 (L := 0) (H := 11) rfl rfl m
    cases q2 : inC a2 (nI 0) (nI 1) with
    | false =>
      have w2 := fun m => mWq q2 (L := 0) (H := 1) rfl rfl m
      refine QQ_r (.inr 1) 0 C (ho_r (by decide)) ?_ fun x m e D h0 => ?_
      · simp only [D_X6_widest_0, D_X6_widest_21, D_X6_widest_22, D_X6_isYear_0, wC, li11, q1, q2, li0, li1, li2, li3, li4, li5, li6, li7, li8, li9, li10, li12, li24, li31, li40, li160, n_le, n_lt, n_eq, n_m1, n_add, mr4, mr6, mr7, mr10, mr40, mr160, ml4, ml6, ml7, ml10, ml40, ml160, gu_ib, nI_nat, bi_s, vl_e, gu_t, if_true, if_false, reduceIte, bt1_1, bt1_2, bt1_3, bt1_4, bt1_5, bt1_6, bt1_7, bt1_8, bt1_9, bt1_10, bt1_11, bt1_12, bt14_1, bt14_2, bt14_3, bt14_4, bt14_5, bt14_6, bt14_7, bt14_8, bt14_9, bt14_10, bt14_11, bt14_12, Nat.reduceLeDiff, Nat.reduceEqDiff, Nat.reduceLT, eq_self, Nat.le_refl, Nat.le_zero_eq, Nat.not_lt_zero, Bool.false_eq_true, c_rf, tx_r, cAn]
      · have nf := m_nf (k := 1) (j := 1) h0 (by decide) (by decide) (by decide)
        simp only [D_X7_widest_0, D_X7_widest_32, D_X7_widest_33, e, li0, li1, li2, li3, li4, li5, li6, li7, li8, li9, li10, li12, li24, li31, li40, li160, n_le, n_lt, n_eq, n_m1, n_add, mr4, mr6, mr7, mr10, mr40, mr160, ml4, ml6, ml7, ml10, ml40, ml160, gu_ib, nI_nat, bi_s, vl_e, gu_t, if_true, if_false, reduceIte, bt1_1, bt1_2, bt1_3, bt1_4, bt1_5, bt1_6, bt1_7, bt1_8, bt1_9, bt1_10, bt1_11, bt1_12, bt14_1, bt14_2, bt14_3, bt14_4, bt14_5, bt14_6, bt14_7, bt14_8, bt14_9, bt14_10, bt14_11, bt14_12, Nat.reduceLeDiff, Nat.reduceEqDiff, Nat.reduceLT, eq_self, Nat.le_refl, Nat.le_zero_eq, Nat.not_lt_zero, w1, w2, nf, Bool.false_eq_true, mAn, kd]
    | true =>
      have w2 := fun m => mWq q2 (L := 0) (H := 1) rfl rfl m
      obtain ⟨y, rfl, yl, hy⟩ := inC_n (by decide) (by decide) q1
      obtain ⟨a, rfl, al, ha⟩ := inC_n (by decide) (by decide) q2
      refine QQ_r (.inl (if a = 0 then (wdS (run ev n) y (hg (run ev n) y)).1 else nI (wdS (run ev n) y (hg (run ev n) y)).2)) 0 C ho_l ?_ fun x m e D h0 => ?_
      · have k := c_wide hf (show y < 12 by omega) ha C.r H
        simp only [D_X6_widest_0, D_X6_widest_22, D_X6_isYear_0, wC, li0, li1, li11, q1, q2, bi_s, reduceIte, c_rt, tx_l]
        exact k
      · have k := m_wide hf (show y < 12 by omega) ha D.r H
        simp only [D_X7_widest_0, D_X7_widest_33, e, li0, li1, bi_s, vl_e, reduceIte, w1, w2, m_nt h0]
        exact k
/-- the strongest year so far -/
def sgL (s : Sp) (y : Nat) : Int64 := zL (sm (fun k => lf s (rg s (6 * y + k))) (hg s y))
def sgS (s : Sp) : Nat → Int32 × Int64
  | 0 => (-1, 0)
  | y + 1 => if sgL s y ≤ (sgS s y).2 then sgS s y else (nI y, sgL s y)
theorem c_strong {a : Nat} (hf : 200 < fu) (ha : a ≤ 1) (C : RC 3 μ s) (H : Iv N s) : D_X6_strongest_17 fu fu (nI a) (-1) 0 0 μ = some (.inl (if a = 0 then (sgS s 12).1.toInt64 else (sgS s 12).2), μ) := by
  refine eq_for (fun n y => D_X6_strongest_17 fu n (nI a) (sgS s y).1 (sgS s y).2 (nI y) μ) 12 _ ?_ ?_ fu 0 (by omega) (by omega)
  · intro n y hy
    show D_X6_strongest_17 fu (n + 1) (nI a) (sgS s y).1 (sgS s y).2 (nI y) μ = _
    rw [D_X6_strongest_17]
    simp (disch := omega) only [D_X6_strongest_51, li0, li1, li2, li3, li4, li5, li6, li7, li8, li9, li10, li12, li24, li31, li40, li160, n_le, n_lt, n_eq, n_m1, n_add, mr4, mr6, mr7, mr10, mr40, mr160, ml4, ml6, ml7, ml10, ml40, ml160, gu_ib, nI_nat, bi_s, vl_e, gu_t, if_true, if_false, reduceIte, bt1_1, bt1_2, bt1_3, bt1_4, bt1_5, bt1_6, bt1_7, bt1_8, bt1_9, bt1_10, bt1_11, bt1_12, bt14_1, bt14_2, bt14_3, bt14_4, bt14_5, bt14_6, bt14_7, bt14_8, bt14_9, bt14_10, bt14_11, bt14_12, show D_X5_leftIn_0 fu μ 4 (nI y) = some (sgL s y) from c_leftIn hf hy C H]
    rw [if_neg (by omega)]
    by_cases q : sgL s y ≤ (sgS s y).2
    · rw [if_pos q, sgS, if_pos q]
    · rw [if_neg q, sgS, if_neg q]
  · intro n
    show D_X6_strongest_17 fu (n + 1) (nI a) (sgS s 12).1 (sgS s 12).2 (nI 12) μ = _
    rw [D_X6_strongest_17]
    simp (disch := omega) only [li0, li1, li2, li3, li4, li5, li6, li7, li8, li9, li10, li12, li24, li31, li40, li160, n_le, n_lt, n_eq, n_m1, n_add, mr4, mr6, mr7, mr10, mr40, mr160, ml4, ml6, ml7, ml10, ml40, ml160, gu_ib, nI_nat, bi_s, vl_e, gu_t, if_true, if_false, reduceIte, bt1_1, bt1_2, bt1_3, bt1_4, bt1_5, bt1_6, bt1_7, bt1_8, bt1_9, bt1_10, bt1_11, bt1_12, bt14_1, bt14_2, bt14_3, bt14_4, bt14_5, bt14_6, bt14_7, bt14_8, bt14_9, bt14_10, bt14_11, bt14_12]
    rw [if_pos (by omega)]
    by_cases q : a = 0
    · rw [if_pos q, if_pos q]
    · rw [if_neg q, if_neg q]
theorem m_strong {a : Nat} (hf : 200 < fu) (ha : a ≤ 1) (R : RM m s) (H : Iv N s) : D_X7_strongest_30 fu fu (nI a) (-1) 0 0 m = some (if a = 0 then (sgS s 12).1.toInt64 else (sgS s 12).2, m) := by
  refine eq_for (fun n y => D_X7_strongest_30 fu n (nI a) (sgS s y).1 (sgS s y).2 (nI y) m) 12 _ ?_ ?_ fu 0 (by omega) (by omega)
  · intro n y hy
    show D_X7_strongest_30 fu (n + 1) (nI a) (sgS s y).1 (sgS s y).2 (nI y) m = _
    rw [D_X7_strongest_30]
    simp (disch := omega) only [D_X7_strongest_65, li0, li1, li2, li3, li4, li5, li6, li7, li8, li9, li10, li12, li24, li31, li40, li160, n_le, n_lt, n_eq, n_m1, n_add, mr4, mr6, mr7, mr10, mr40, mr160, ml4, ml6, ml7, ml10, ml40, ml160, gu_ib, nI_nat, bi_s, vl_e, gu_t, if_true, if_false, reduceIte, bt1_1, bt1_2, bt1_3, bt1_4, bt1_5, bt1_6, bt1_7, bt1_8, bt1_9, bt1_10, bt1_11, bt1_12, bt14_1, bt14_2, bt14_3, bt14_4, bt14_5, bt14_6, bt14_7, bt14_8, bt14_9, bt14_10, bt14_11, bt14_12, show D_X7_ofYear_0 fu m (nI y) (nI 6) = some (sgL s y) from m_ofYear hf hy (by decide) (by decide) R H]
    rw [if_neg (by omega)]
    by_cases q : sgL s y ≤ (sgS s y).2
    · rw [if_neg (Int64.not_lt.mpr q), sgS, if_pos q]
    · rw [if_pos (Int64.not_le.mp q), sgS, if_neg q]
  · intro n
    show D_X7_strongest_30 fu (n + 1) (nI a) (sgS s 12).1 (sgS s 12).2 (nI 12) m = _
    rw [D_X7_strongest_30]
    simp (disch := omega) only [li0, li1, li2, li3, li4, li5, li6, li7, li8, li9, li10, li12, li24, li31, li40, li160, n_le, n_lt, n_eq, n_m1, n_add, mr4, mr6, mr7, mr10, mr40, mr160, ml4, ml6, ml7, ml10, ml40, ml160, gu_ib, nI_nat, bi_s, vl_e, gu_t, if_true, if_false, reduceIte, bt1_1, bt1_2, bt1_3, bt1_4, bt1_5, bt1_6, bt1_7, bt1_8, bt1_9, bt1_10, bt1_11, bt1_12, bt14_1, bt14_2, bt14_3, bt14_4, bt14_5, bt14_6, bt14_7, bt14_8, bt14_9, bt14_10, bt14_11, bt14_12]
    rw [if_pos (by omega)]
    by_cases q : a = 0
    · rw [if_pos q, if_pos q]
    · rw [if_neg q, if_neg q]
theorem q_strongest (hf : 200 < fu) (G : EG ev n) (C : CI ev n μ) (a1 : Int32) : QQ ev n (kd 0 1 0) μ (D_X6_strongest_0 fu a1 μ) (D_X7_strongest_0 fu a1) := by
  have H := run_Iv G
  cases q1 : inC a1 (nI 0) (nI 1) with
  | false =>
    have w1 := fun m => mWq q1 (L := 0) (H := 1) rfl rfl m
    refine QQ_r (.inr 1) 0 C (ho_r (by decide)) ?_ fun x m e D h0 => ?_
    · simp only [D_X6_strongest_0, wC, q1, li0, li1, li2, li3, li4, li5, li6, li7, li8, li9, li10, li12, li24, li31, li40, li160, n_le, n_lt, n_eq, n_m1, n_add, mr4, mr6, mr7, mr10, mr40, mr160, ml4, ml6, ml7, ml10, ml40, ml160, gu_ib, nI_nat, bi_s, vl_e, gu_t, if_true, if_false, reduceIte, bt1_1, bt1_2, bt1_3, bt1_4, bt1_5, bt1_6, bt1_7, bt1_8, bt1_9, bt1_10, bt1_11, bt1_12, bt14_1, bt14_2, bt14_3, bt14_4, bt14_5, bt14_6, bt14_7, bt14_8, bt14_9, bt14_10, bt14_11, bt14_12, Nat.reduceLeDiff, Nat.reduceEqDiff, Nat.reduceLT, eq_self, Nat.le_refl, Nat.le_zero_eq, Nat.not_lt_zero, b2_f, c_rf, tx_r, cAn]
    · have nf := m_nf (k := 1) (j := 1) h0 (by decide) (by decide) (by decide)
      simp only [D_X7_strongest_0, e, li0, li1, li2, li3, li4, li5, li6, li7, li8, li9, li10, li12, li24, li31, li40, li160, n_le, n_lt, n_eq, n_m1, n_add, mr4, mr6, mr7, mr10, mr40, mr160, ml4, ml6, ml7, ml10, ml40, ml160, gu_ib, nI_nat, bi_s, vl_e, gu_t, if_true, if_false, reduceIte, bt1_1, bt1_2, bt1_3, bt1_4, bt1_5, bt1_6, bt1_7, bt1_8, bt1_9, bt1_10, bt1_11, bt1_12, bt14_1, bt14_2, bt14_3, bt14_4, bt14_5, bt14_6, bt14_7, bt14_8, bt14_9, bt14_10, bt14_11, bt14_12, Nat.reduceLeDiff, Nat.reduceEqDiff, Nat.reduceLT, eq_self, Nat.le_refl, Nat.le_zero_eq, Nat.not_lt_zero, w1, b2_f, nf, Bool.false_eq_true, mAn, kd]
  | true =>
    have w1 := fun m => mWq q1 (L := 0) (H := 1) rfl rfl m
    obtain ⟨a, rfl, al, ha⟩ := inC_n (by decide) (by decide) q1
    refine QQ_r (.inl (if a = 0 then (sgS (run ev n) 12).1.toInt64 else (sgS (run ev n) 12).2)) 0 C ho_l ?_ fun x m e D h0 => ?_
    · have k := c_strong hf ha C.r H
      simp only [D_X6_strongest_0, wC, li0, li1, q1, bi_s, b2_t, c_rt, tx_l]
      exact k
    · have k := m_strong hf ha D.r H
      simp only [D_X7_strongest_0, e, li0, li1, bi_s, vl_e, reduceIte, w1, b2_t, m_nt h0]
      exact k
/-- bits of the used up layers -/
def spS (s : Sp) : Nat → Int64
  | 0 => 0
  | l + 1 => if isL s l = 1 ∧ lf s l = 0 then spS s l ||| ((1 : Int64) <<< ((nI l).toInt64 &&& 63)) else spS s l
theorem c_spent (hf : 200 < fu) (T : CT s) (C : RC 3 μ s) (H : Iv N s) : D_X6_spent_0 fu μ = some (spS s (cL s)) := by
  have t40 := T.2.2.1
  unfold D_X6_spent_0
  refine eq_for (fun n l => D_X6_spent_4 fu μ n (spS s l) (nI l)) (cL s) _ ?_ ?_ fu 0 (by omega) (by omega)
  · intro n l hl
    have h1 := (T.1 l (by omega)).mpr hl
    show D_X6_spent_4 fu μ (n + 1) (spS s l) (nI l) = _
    rw [D_X6_spent_4]
    simp (disch := omega) only [D_X6_spent_38, li0, li1, li2, li3, li4, li5, li6, li7, li8, li9, li10, li12, li24, li31, li40, li160, n_le, n_lt, n_eq, n_m1, n_add, mr4, mr6, mr7, mr10, mr40, mr160, ml4, ml6, ml7, ml10, ml40, ml160, gu_ib, nI_nat, bi_s, vl_e, gu_t, if_true, if_false, reduceIte, bt1_1, bt1_2, bt1_3, bt1_4, bt1_5, bt1_6, bt1_7, bt1_8, bt1_9, bt1_10, bt1_11, bt1_12, bt14_1, bt14_2, bt14_3, bt14_4, bt14_5, bt14_6, bt14_7, bt14_8, bt14_9, bt14_10, bt14_11, bt14_12, K_cL C, show D_X5_isUsedUp_0 μ 4 (nI l) = some (decide (lf s l = 0)) from c_isUsedUp (by omega) h1 C H]
    rw [if_neg (by omega)]
    by_cases q : lf s l = 0
    · rw [if_pos (decide_eq_true q), spS, if_pos ⟨h1, q⟩]
    · rw [if_neg (by simp [q]), spS, if_neg (fun z => q z.2)]
  · intro n
    show D_X6_spent_4 fu μ (n + 1) (spS s (cL s)) (nI (cL s)) = _
    rw [D_X6_spent_4]
    simp (disch := omega) only [li0, li1, li2, li3, li4, li5, li6, li7, li8, li9, li10, li12, li24, li31, li40, li160, n_le, n_lt, n_eq, n_m1, n_add, mr4, mr6, mr7, mr10, mr40, mr160, ml4, ml6, ml7, ml10, ml40, ml160, gu_ib, nI_nat, bi_s, vl_e, gu_t, if_true, if_false, reduceIte, bt1_1, bt1_2, bt1_3, bt1_4, bt1_5, bt1_6, bt1_7, bt1_8, bt1_9, bt1_10, bt1_11, bt1_12, bt14_1, bt14_2, bt14_3, bt14_4, bt14_5, bt14_6, bt14_7, bt14_8, bt14_9, bt14_10, bt14_11, bt14_12, K_cL C]
    rw [if_pos (by omega)]
theorem m_spent (hf : 200 < fu) (T : CT s) (R : RM m s) (H : Iv N s) : D_X7_spent_9 fu fu 0 0 m = some (spS s (cL s), m) := by
  have t40 := T.2.2.1
  have ext : ∀ d, cL s + d ≤ 40 → spS s (cL s + d) = spS s (cL s) := fun d => by
    induction d with
    | zero => exact fun _ => rfl
    | succ d ih =>
      intro hd
      show (if isL s (cL s + d) = 1 ∧ _ then _ else spS s (cL s + d)) = _
      rw [if_neg (fun z => by have := (T.1 _ (by omega)).mp z.1; omega)]
      exact ih (by omega)
  rw [← ext (40 - cL s) (by omega), show cL s + (40 - cL s) = 40 by omega]
  refine eq_for (fun n l => D_X7_spent_9 fu n (spS s l) (nI l) m) 40 _ ?_ ?_ fu 0 (by omega) (by omega)
  · intro n l hl
    have i2 := IvT_is H.T hl
    show D_X7_spent_9 fu (n + 1) (spS s l) (nI l) m = _
    rw [D_X7_spent_9]
    simp (disch := omega) only [D_X7_spent_41, D_X7_spent_42, li0, li1, li2, li3, li4, li5, li6, li7, li8, li9, li10, li12, li24, li31, li40, li160, n_le, n_lt, n_eq, n_m1, n_add, mr4, mr6, mr7, mr10, mr40, mr160, ml4, ml6, ml7, ml10, ml40, ml160, gu_ib, nI_nat, bi_s, vl_e, gu_t, if_true, if_false, reduceIte, bt1_1, bt1_2, bt1_3, bt1_4, bt1_5, bt1_6, bt1_7, bt1_8, bt1_9, bt1_10, bt1_11, bt1_12, bt14_1, bt14_2, bt14_3, bt14_4, bt14_5, bt14_6, bt14_7, bt14_8, bt14_9, bt14_10, bt14_11, bt14_12, M_is R hl]
    rw [if_neg (by omega)]
    by_cases h1 : isL s l = 1
    · have b := lf_b hl h1 H
      rw [if_neg (by omega), show D_X7_left_0 m (nI l) = some (zL (lf s l)) from m_leftU hl h1 R.a H.T (M_us R hl), bi_s]
      by_cases q : lf s l = 0
      · rw [if_pos (by rw [q]; rfl), spS, if_pos ⟨h1, q⟩]
      · rw [if_neg (fun y => q (by have y' : zL (lf s l) = zL 0 := y; rwa [z_eq (by omega) (by omega) (by omega) (by omega)] at y')), spS, if_neg (fun z => q z.2), Int64.or_zero]
    · rw [if_pos (by omega), spS, if_neg (fun z => h1 z.1), Int64.or_zero]
  · intro n
    show D_X7_spent_9 fu (n + 1) (spS s 40) (nI 40) m = _
    rw [D_X7_spent_9]
    simp (disch := omega) only [li0, li1, li2, li3, li4, li5, li6, li7, li8, li9, li10, li12, li24, li31, li40, li160, n_le, n_lt, n_eq, n_m1, n_add, mr4, mr6, mr7, mr10, mr40, mr160, ml4, ml6, ml7, ml10, ml40, ml160, gu_ib, nI_nat, bi_s, vl_e, gu_t, if_true, if_false, reduceIte, bt1_1, bt1_2, bt1_3, bt1_4, bt1_5, bt1_6, bt1_7, bt1_8, bt1_9, bt1_10, bt1_11, bt1_12, bt14_1, bt14_2, bt14_3, bt14_4, bt14_5, bt14_6, bt14_7, bt14_8, bt14_9, bt14_10, bt14_11, bt14_12]
    rw [if_pos (by omega)]
/-- a call that never refuses: only the word of refusal is wiped -/
theorem IX_w (I : IX ev n c μ) : IX ev n (c + 1) (wI μ 85 0 (nI 0)) := by
  obtain ⟨G, V, C, D, R, b1, b2⟩ := I
  refine ⟨G, V, CI_x (fun q p1 p2 => ⟨by rw [wI_n (by omega)], by rw [wI_L]⟩) C, MI_x ⟨fun q p1 p2 => ⟨by rw [wI_n (by omega)], by rw [wI_L]⟩, fun j p1 p2 => by rw [wI_s, if_neg (by omega)]⟩ D, fun j hj => ?_, ?_, ?_⟩
  · rw [wI_n (by omega), wI_n (by omega)]; exact R j hj
  · rw [wI_2]; omega
  · rw [wI_2]; omega
theorem l_spent (hf : 200 < fu) (I : IX ev n c μ) : ∃ v m, D_X6_spent_0 fu μ = some v ∧ D_X7_spent_0 fu μ = some (v, m) ∧ IX ev n (c + 1) m := by
  have J := IX_w I
  obtain ⟨G, V, C, -⟩ := I
  have T := (run_CT G V n (Nat.le_refl _)).1
  have H := run_Iv G
  exact ⟨_, _, c_spent hf T C.r H, m_spent hf T J.2.2.2.1.r H, J⟩
theorem l_status (I : IX ev n c μ) (a : Int32) : ∃ v m, D_X6_status_0 μ a = some v ∧ D_X7_status_0 a μ = some (v, m) ∧ IX ev n (c + 1) m := by
  have J := IX_w I
  have R := I.2.2.2.2.1
  cases q : inC a (nI 0) (nI 2) with
  | false =>
    have w := fun m => mWq q (L := 0) (H := 2) rfl rfl m
    refine ⟨-1, _, ?_, ?_, J⟩
    · simp only [D_X6_status_0, wC, li0, li2, q, bi_s, Bool.false_eq_true, reduceIte]
    · simp only [D_X7_status_0, li0, vl_e, w, bi_s, Bool.false_eq_true, reduceIte]
  | true =>
    have w := fun m => mWq q (L := 0) (H := 2) rfl rfl m
    obtain ⟨j, rfl, jl, hj⟩ := inC_n (by decide) (by decide) q
    refine ⟨μ.1 84 j, _, ?_, ?_, J⟩
    · simp (disch := omega) only [D_X6_status_0, wC, li0, li1, li2, li3, li4, li5, li6, li7, li8, li9, li10, li12, li24, li31, li40, li160, n_le, n_lt, n_eq, n_m1, n_add, mr4, mr6, mr7, mr10, mr40, mr160, ml4, ml6, ml7, ml10, ml40, ml160, gu_ib, nI_nat, bi_s, vl_e, gu_t, if_true, if_false, reduceIte, bt1_1, bt1_2, bt1_3, bt1_4, bt1_5, bt1_6, bt1_7, bt1_8, bt1_9, bt1_10, bt1_11, bt1_12, bt14_1, bt14_2, bt14_3, bt14_4, bt14_5, bt14_6, bt14_7, bt14_8, bt14_9, bt14_10, bt14_11, bt14_12, Nat.reduceLeDiff, Nat.reduceEqDiff, Nat.reduceLT, eq_self, Nat.le_refl, Nat.le_zero_eq, Nat.not_lt_zero, q]
    · simp (disch := omega) only [D_X7_status_0, li0, li1, li2, li3, li4, li5, li6, li7, li8, li9, li10, li12, li24, li31, li40, li160, n_le, n_lt, n_eq, n_m1, n_add, mr4, mr6, mr7, mr10, mr40, mr160, ml4, ml6, ml7, ml10, ml40, ml160, gu_ib, nI_nat, bi_s, vl_e, gu_t, if_true, if_false, reduceIte, bt1_1, bt1_2, bt1_3, bt1_4, bt1_5, bt1_6, bt1_7, bt1_8, bt1_9, bt1_10, bt1_11, bt1_12, bt14_1, bt14_2, bt14_3, bt14_4, bt14_5, bt14_6, bt14_7, bt14_8, bt14_9, bt14_10, bt14_11, bt14_12, Nat.reduceLeDiff, Nat.reduceEqDiff, Nat.reduceLT, eq_self, Nat.le_refl, Nat.le_zero_eq, Nat.not_lt_zero, w]
      rw [wI_n (by decide), R j (by omega)]
end
