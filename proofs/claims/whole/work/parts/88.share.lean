/-! questions that think: share, weight, picks -/
section
variable {fu n N : Nat} {ev : Nat → Ev} {μ m : Mem} {s : Sp}
theorem MI_t {x : Mem} (D : MI ev n m) (h0 : m.1 85 0 = nI 0) (F : Fr (fun q => 90 ≤ q ∧ q ≤ 127) m x) (R : RM x (run ev n)) : MI ev n x ∧ x.1 85 0 = nI 0 ∧ Fr (fun q => q = 85 ∨ 87 ≤ q ∧ q ≤ 127) m x := by
  have e85 : x.1 85 = m.1 85 := F.I (by omega)
  exact ⟨⟨fun k hk => MG_F F (fun q z => by omega) (D.g k hk), by rw [e85]; exact D.n, R, by rw [e85]; exact D.o⟩, by rw [e85]; exact h0, F.mo fun q z => by omega⟩
theorem RM_hi {A : Nat → Prop} {x : Mem} (F : Fr A m x) (hA : ∀ q, A q → 116 ≤ q) (R : RM m s) : RM x s :=
  RM_frm (fun q h1 h2 => F.1 q fun z => by have := hA q z; omega) (fun j _ _ => by rw [F.I (q := 85) fun z => by have := hA 85 z; omega]) R
theorem c_off {a b c : Nat} (hf : 200 < fu) (h1 : a ≤ b) (h2 : b ≤ c) (h3 : c < 12) (C : RC 3 μ s) (H : Iv N s) : D_X6_setOffNow_0 fu μ (nI a) (nI b) (nI c) = some (nI (offV a b c (ru s 0))) := by
  unfold D_X6_setOffNow_0
  rw [K_r0 C, cOff (by omega) μ h1 h2 h3 (IvR_r0 H.R), bi_s]
theorem q_weight (hf : 200 < fu) (G : EG ev n) (C : CI ev n μ) (a1 a2 a3 a4 : Int32) : QQ ev n (kd 0 1 0) μ (D_X6_weight_0 fu a1 a2 a3 a4 μ) (D_X7_weight_0 fu a1 a2 a3 a4) := by
  have H := run_Iv G
  cases q1 : aY a1 a2 a3 with
  | false =>
    refine QQ_r (.inr 1) 0 C (ho_r (by decide)) ?_ fun x m e D h0 => ?_
    · simp only [D_X6_weight_0, D_X6_weight_22, D_X6_weight_23, D_X6_isYear_0, wC, c_aY, li1e9, li11, q1, li0, li1, li2, li3, li4, li5, li6, li7, li8, li9, li10, li12, li24, li31, li40, li160, n_le, n_lt, n_eq, n_m1, n_add, mr4, mr6, mr7, mr10, mr40, mr160, ml4, ml6, ml7, ml10, ml40, ml160, gu_ib, nI_nat, bi_s, vl_e, gu_t, if_true, if_false, reduceIte, bt1_1, bt1_2, bt1_3, bt1_4, bt1_5, bt1_6, bt1_7, bt1_8, bt1_9, bt1_10, bt1_11, bt1_12, bt14_1, bt14_2, bt14_3, bt14_4, bt14_5, bt14_6, bt14_7, bt14_8, bt14_9, bt14_10, bt14_11, bt14_12, Nat.reduceLeDiff, Nat.reduceEqDiff, Nat.reduceLT, eq_self, Nat.le_refl, Nat.le_zero_eq, Nat.not_lt_zero, Bool.false_eq_true, c_rf, tx_r, cAn]
    · have nf := m_nf (k := 1) (j := 1) h0 (by decide) (by decide) (by decide)
      simp only [D_X7_weight_0, D_X7_weight_32, D_X7_weight_33, D_X7_isLoss_0, e, li0, li1, li2, li3, li4, li5, li6, li7, li8, li9, li10, li12, li24, li31, li40, li160, n_le, n_lt, n_eq, n_m1, n_add, mr4, mr6, mr7, mr10, mr40, mr160, ml4, ml6, ml7, ml10, ml40, ml160, gu_ib, nI_nat, bi_s, vl_e, gu_t, if_true, if_false, reduceIte, bt1_1, bt1_2, bt1_3, bt1_4, bt1_5, bt1_6, bt1_7, bt1_8, bt1_9, bt1_10, bt1_11, bt1_12, bt14_1, bt14_2, bt14_3, bt14_4, bt14_5, bt14_6, bt14_7, bt14_8, bt14_9, bt14_10, bt14_11, bt14_12, Nat.reduceLeDiff, Nat.reduceEqDiff, Nat.reduceLT, eq_self, Nat.le_refl, Nat.le_zero_eq, Nat.not_lt_zero, m_aY, q1, nf, Bool.false_eq_true, mAn, kd]
  | true =>
    cases q2 : inC a4 (nI 0) (nI 11) with
    | false =>
      have wq2 := fun m => mWq q2 (L := 0) (H := 11) rfl rfl m
      refine QQ_r (.inr 1) 0 C (ho_r (by decide)) ?_ fun x m e D h0 => ?_
      · simp only [D_X6_weight_0, D_X6_weight_22, D_X6_weight_23, D_X6_isYear_0, wC, c_aY, li1e9, li11, q1, q2, li0, li1, li2, li3, li4, li5, li6, li7, li8, li9, li10, li12, li24, li31, li40, li160, n_le, n_lt, n_eq, n_m1, n_add, mr4, mr6, mr7, mr10, mr40, mr160, ml4, ml6, ml7, ml10, ml40, ml160, gu_ib, nI_nat, bi_s, vl_e, gu_t, if_true, if_false, reduceIte, bt1_1, bt1_2, bt1_3, bt1_4, bt1_5, bt1_6, bt1_7, bt1_8, bt1_9, bt1_10, bt1_11, bt1_12, bt14_1, bt14_2, bt14_3, bt14_4, bt14_5, bt14_6, bt14_7, bt14_8, bt14_9, bt14_10, bt14_11, bt14_12, Nat.reduceLeDiff, Nat.reduceEqDiff, Nat.reduceLT, eq_self, Nat.le_refl, Nat.le_zero_eq, Nat.not_lt_zero, Bool.false_eq_true, c_rf, tx_r, cAn]
      · have nf := m_nf (k := 1) (j := 1) h0 (by decide) (by decide) (by decide)
        simp only [D_X7_weight_0, D_X7_weight_32, D_X7_weight_33, D_X7_isLoss_0, e, li0, li1, li2, li3, li4, li5, li6, li7, li8, li9, li10, li12, li24, li31, li40, li160, n_le, n_lt, n_eq, n_m1, n_add, mr4, mr6, mr7, mr10, mr40, mr160, ml4, ml6, ml7, ml10, ml40, ml160, gu_ib, nI_nat, bi_s, vl_e, gu_t, if_true, if_false, reduceIte, bt1_1, bt1_2, bt1_3, bt1_4, bt1_5, bt1_6, bt1_7, bt1_8, bt1_9, bt1_10, bt1_11, bt1_12, bt14_1, bt14_2, bt14_3, bt14_4, bt14_5, bt14_6, bt14_7, bt14_8, bt14_9, bt14_10, bt14_11, bt14_12, Nat.reduceLeDiff, Nat.reduceEqDiff, Nat.reduceLT, eq_self, Nat.le_refl, Nat.le_zero_eq, Nat.not_lt_zero, m_aY, q1, wq2, nf, Bool.false_eq_true, mAn, kd]
    | true =>
      have wq2 := fun m => mWq q2 (L := 0) (H := 11) rfl rfl m
      obtain ⟨a, b, c, rfl, rfl, rfl, h1, h2, h3⟩ := aY_n q1
      have so := c_off hf h1 h2 h3 C.r H
      obtain ⟨i, rfl, il, hi⟩ := inC_n (by decide) (by decide) q2
      obtain ⟨x, ex, F, P⟩ := ok_eq (c_weighS (off := (offB a b c (ru (run ev n) 0))) hf (by decide) (offV_lt a b c (ru (run ev n) 0)) (fun y hy => offV_b hy) C.r H)
      refine QQ_t (zL (wS (run ev n) (offB a b c (ru (run ev n) 0)) i)) C x ?_ (F.mo fun q z => by omega) fun y m e D h0 => ?_
      · simp (disch := omega) only [D_X6_weight_0, D_X6_weight_22, D_X6_weight_23, D_X6_isYear_0, wC, c_aY, li1e9, li11, q1, q2, li0, li1, li2, li3, li4, li5, li6, li7, li8, li9, li10, li12, li24, li31, li40, li160, n_le, n_lt, n_eq, n_m1, n_add, mr4, mr6, mr7, mr10, mr40, mr160, ml4, ml6, ml7, ml10, ml40, ml160, gu_ib, nI_nat, bi_s, vl_e, gu_t, if_true, if_false, reduceIte, bt1_1, bt1_2, bt1_3, bt1_4, bt1_5, bt1_6, bt1_7, bt1_8, bt1_9, bt1_10, bt1_11, bt1_12, bt14_1, bt14_2, bt14_3, bt14_4, bt14_5, bt14_6, bt14_7, bt14_8, bt14_9, bt14_10, bt14_11, bt14_12, Nat.reduceLeDiff, Nat.reduceEqDiff, Nat.reduceLT, eq_self, Nat.le_refl, Nat.le_zero_eq, Nat.not_lt_zero, c_rt, tx_l, so, show D_X4_weighBySizes_0 fu 4 (nI (offV a b c (ru (run ev n) 0))) μ = some x from ex, P i (by omega)]
      · obtain ⟨x1, e1, F1, R1, Y1⟩ := ok_eq (m_thinks hf h1 h2 h3 D.r H)
        obtain ⟨x2, e2, F2, P2⟩ := ok_eq (m_sizesW (h := 24) hf (by decide) Y1 R1.a R1.b H)
        refine ⟨x2, ?_, MI_t D h0 (Fr.tr (F1.mo fun q z => by omega) (F2.mo fun q z => by omega)) (RM_hi F2 (fun q z => by omega) R1)⟩
        simp (disch := omega) only [D_X7_weight_0, D_X7_weight_32, D_X7_weight_33, D_X7_isLoss_0, e, li0, li1, li2, li3, li4, li5, li6, li7, li8, li9, li10, li12, li24, li31, li40, li160, n_le, n_lt, n_eq, n_m1, n_add, mr4, mr6, mr7, mr10, mr40, mr160, ml4, ml6, ml7, ml10, ml40, ml160, gu_ib, nI_nat, bi_s, vl_e, gu_t, if_true, if_false, reduceIte, bt1_1, bt1_2, bt1_3, bt1_4, bt1_5, bt1_6, bt1_7, bt1_8, bt1_9, bt1_10, bt1_11, bt1_12, bt14_1, bt14_2, bt14_3, bt14_4, bt14_5, bt14_6, bt14_7, bt14_8, bt14_9, bt14_10, bt14_11, bt14_12, Nat.reduceLeDiff, Nat.reduceEqDiff, Nat.reduceLT, eq_self, Nat.le_refl, Nat.le_zero_eq, Nat.not_lt_zero, m_aY, q1, wq2, m_nt h0, e1, e2, P2 i (by omega)]
theorem q_share (hf : 200 < fu) (G : EG ev n) (C : CI ev n μ) (a1 a2 a3 a4 a5 : Int32) : QQ ev n (kd 0 1 0) μ (D_X6_share_0 fu a1 a2 a3 a4 a5 μ) (D_X7_share_0 fu a1 a2 a3 a4 a5) := by
  have H := run_Iv G
  cases q1 : aY a1 a2 a3 with
  | false =>
    refine QQ_r (.inr 1) 0 C (ho_r (by decide)) ?_ fun x m e D h0 => ?_
    · simp only [D_X6_share_0, D_X6_share_30, D_X6_share_31, D_X6_isYear_0, D_X6_isAmount_0, wC, c_aY, li1e9, li11, q1, li0, li1, li2, li3, li4, li5, li6, li7, li8, li9, li10, li12, li24, li31, li40, li160, n_le, n_lt, n_eq, n_m1, n_add, mr4, mr6, mr7, mr10, mr40, mr160, ml4, ml6, ml7, ml10, ml40, ml160, gu_ib, nI_nat, bi_s, vl_e, gu_t, if_true, if_false, reduceIte, bt1_1, bt1_2, bt1_3, bt1_4, bt1_5, bt1_6, bt1_7, bt1_8, bt1_9, bt1_10, bt1_11, bt1_12, bt14_1, bt14_2, bt14_3, bt14_4, bt14_5, bt14_6, bt14_7, bt14_8, bt14_9, bt14_10, bt14_11, bt14_12, Nat.reduceLeDiff, Nat.reduceEqDiff, Nat.reduceLT, eq_self, Nat.le_refl, Nat.le_zero_eq, Nat.not_lt_zero, Bool.false_eq_true, c_rf, tx_r, cAn]
    · have nf := m_nf (k := 1) (j := 1) h0 (by decide) (by decide) (by decide)
      simp only [D_X7_share_0, D_X7_share_40, D_X7_share_41, D_X7_isLoss_0, e, li0, li1, li2, li3, li4, li5, li6, li7, li8, li9, li10, li12, li24, li31, li40, li160, n_le, n_lt, n_eq, n_m1, n_add, mr4, mr6, mr7, mr10, mr40, mr160, ml4, ml6, ml7, ml10, ml40, ml160, gu_ib, nI_nat, bi_s, vl_e, gu_t, if_true, if_false, reduceIte, bt1_1, bt1_2, bt1_3, bt1_4, bt1_5, bt1_6, bt1_7, bt1_8, bt1_9, bt1_10, bt1_11, bt1_12, bt14_1, bt14_2, bt14_3, bt14_4, bt14_5, bt14_6, bt14_7, bt14_8, bt14_9, bt14_10, bt14_11, bt14_12, Nat.reduceLeDiff, Nat.reduceEqDiff, Nat.reduceLT, eq_self, Nat.le_refl, Nat.le_zero_eq, Nat.not_lt_zero, m_aY, q1, nf, Bool.false_eq_true, mAn, kd]
  | true =>
    cases q2 : inC a4 (nI 1) (nI 1000000000) with
    | false =>
      have wq2 := fun m => mWq q2 (L := 1) (H := 1000000000) rfl rfl m
      refine QQ_r (.inr 1) 0 C (ho_r (by decide)) ?_ fun x m e D h0 => ?_
      · simp only [D_X6_share_0, D_X6_share_30, D_X6_share_31, D_X6_isYear_0, D_X6_isAmount_0, wC, c_aY, li1e9, li11, q1, q2, li0, li1, li2, li3, li4, li5, li6, li7, li8, li9, li10, li12, li24, li31, li40, li160, n_le, n_lt, n_eq, n_m1, n_add, mr4, mr6, mr7, mr10, mr40, mr160, ml4, ml6, ml7, ml10, ml40, ml160, gu_ib, nI_nat, bi_s, vl_e, gu_t, if_true, if_false, reduceIte, bt1_1, bt1_2, bt1_3, bt1_4, bt1_5, bt1_6, bt1_7, bt1_8, bt1_9, bt1_10, bt1_11, bt1_12, bt14_1, bt14_2, bt14_3, bt14_4, bt14_5, bt14_6, bt14_7, bt14_8, bt14_9, bt14_10, bt14_11, bt14_12, Nat.reduceLeDiff, Nat.reduceEqDiff, Nat.reduceLT, eq_self, Nat.le_refl, Nat.le_zero_eq, Nat.not_lt_zero, Bool.false_eq_true, c_rf, tx_r, cAn]
      · have nf := m_nf (k := 1) (j := 1) h0 (by decide) (by decide) (by decide)
        simp only [D_X7_share_0, D_X7_share_40, D_X7_share_41, D_X7_isLoss_0, e, li0, li1, li2, li3, li4, li5, li6, li7, li8, li9, li10, li12, li24, li31, li40, li160, n_le, n_lt, n_eq, n_m1, n_add, mr4, mr6, mr7, mr10, mr40, mr160, ml4, ml6, ml7, ml10, ml40, ml160, gu_ib, nI_nat, bi_s, vl_e, gu_t, if_true, if_false, reduceIte, bt1_1, bt1_2, bt1_3, bt1_4, bt1_5, bt1_6, bt1_7, bt1_8, bt1_9, bt1_10, bt1_11, bt1_12, bt14_1, bt14_2, bt14_3, bt14_4, bt14_5, bt14_6, bt14_7, bt14_8, bt14_9, bt14_10, bt14_11, bt14_12, Nat.reduceLeDiff, Nat.reduceEqDiff, Nat.reduceLT, eq_self, Nat.le_refl, Nat.le_zero_eq, Nat.not_lt_zero, m_aY, q1, wq2, nf, Bool.false_eq_true, mAn, kd]
    | true =>
      have wq2 := fun m => mWq q2 (L := 1) (H := 1000000000) rfl rfl m
      cases q3 : inC a5 (nI 0) (nI 11) with
      | false =>
        have wq3 := fun m => mWq q3 (L := 0) (H := 11) rfl rfl m
        refine QQ_r (.inr 1) 0 C (ho_r (by decide)) ?_ fun x m e D h0 => ?_
        · simp only [D_X6_share_0, D_X6_share_30, D_X6_share_31, D_X6_isYear_0, D_X6_isAmount_0, wC, c_aY, li1e9, li11, q1, q2, q3, li0, li1, li2, li3, li4, li5, li6, li7, li8, li9, li10, li12, li24, li31, li40, li160, n_le, n_lt, n_eq, n_m1, n_add, mr4, mr6, mr7, mr10, mr40, mr160, ml4, ml6, ml7, ml10, ml40, ml160, gu_ib, nI_nat, bi_s, vl_e, gu_t, if_true, if_false, reduceIte, bt1_1, bt1_2, bt1_3, bt1_4, bt1_5, bt1_6, bt1_7, bt1_8, bt1_9, bt1_10, bt1_11, bt1_12, bt14_1, bt14_2, bt14_3, bt14_4, bt14_5, bt14_6, bt14_7, bt14_8, bt14_9, bt14_10, bt14_11, bt14_12, Nat.reduceLeDiff, Nat.reduceEqDiff, Nat.reduceLT, eq_self, Nat.le_refl, Nat.le_zero_eq, Nat.not_lt_zero, Bool.false_eq_true, c_rf, tx_r, cAn]
        · have nf := m_nf (k := 1) (j := 1) h0 (by decide) (by decide) (by decide)
          simp only [D_X7_share_0, D_X7_share_40, D_X7_share_41, D_X7_isLoss_0, e, li0, li1, li2, li3, li4, li5, li6, li7, li8, li9, li10, li12, li24, li31, li40, li160, n_le, n_lt, n_eq, n_m1, n_add, mr4, mr6, mr7, mr10, mr40, mr160, ml4, ml6, ml7, ml10, ml40, ml160, gu_ib, nI_nat, bi_s, vl_e, gu_t, if_true, if_false, reduceIte, bt1_1, bt1_2, bt1_3, bt1_4, bt1_5, bt1_6, bt1_7, bt1_8, bt1_9, bt1_10, bt1_11, bt1_12, bt14_1, bt14_2, bt14_3, bt14_4, bt14_5, bt14_6, bt14_7, bt14_8, bt14_9, bt14_10, bt14_11, bt14_12, Nat.reduceLeDiff, Nat.reduceEqDiff, Nat.reduceLT, eq_self, Nat.le_refl, Nat.le_zero_eq, Nat.not_lt_zero, m_aY, q1, wq2, wq3, nf, Bool.false_eq_true, mAn, kd]
      | true =>
        have wq3 := fun m => mWq q3 (L := 0) (H := 11) rfl rfl m
        obtain ⟨a, b, c, rfl, rfl, rfl, h1, h2, h3⟩ := aY_n q1
        have so := c_off hf h1 h2 h3 C.r H
        obtain ⟨v, rfl, v1, hv⟩ := inC_n (by decide) (by decide) q2
        obtain ⟨i, rfl, il, hi⟩ := inC_n (by decide) (by decide) q3
        obtain ⟨x, ex, F, P⟩ := ok_eq (c_weighA (off := (offB a b c (ru (run ev n) 0))) hf (by decide) (offV_lt a b c (ru (run ev n) 0)) (fun y hy => offV_b hy) C.r H)
        obtain ⟨x', ex', F', P'⟩ := ok_eq (c_share (a := (v : Int)) (r2 := 76) (n2 := 12) (r4 := 77) (n4 := 12) (n := 12) hf (by decide) (by decide) (by decide) (by decide) (by decide) (by decide) (WB_A (run ev n) (offB a b c (ru (run ev n) 0))) (by omega) (by omega) P)
        have nv : (nI v).toInt64 = zL (v : Int) := n_L (by omega)
        refine QQ_t (zL (shF 12 v (wA (run ev n) (offB a b c (ru (run ev n) 0))) i)) C x' ?_ (Fr.tr (F.mo fun q z => by omega) (F'.mo fun q z => by omega)) fun y m e D h0 => ?_
        · simp (disch := omega) only [D_X6_share_0, D_X6_share_30, D_X6_share_31, D_X6_isYear_0, D_X6_isAmount_0, wC, c_aY, li1e9, li11, q1, q2, q3, li0, li1, li2, li3, li4, li5, li6, li7, li8, li9, li10, li12, li24, li31, li40, li160, n_le, n_lt, n_eq, n_m1, n_add, mr4, mr6, mr7, mr10, mr40, mr160, ml4, ml6, ml7, ml10, ml40, ml160, gu_ib, nI_nat, bi_s, vl_e, gu_t, if_true, if_false, reduceIte, bt1_1, bt1_2, bt1_3, bt1_4, bt1_5, bt1_6, bt1_7, bt1_8, bt1_9, bt1_10, bt1_11, bt1_12, bt14_1, bt14_2, bt14_3, bt14_4, bt14_5, bt14_6, bt14_7, bt14_8, bt14_9, bt14_10, bt14_11, bt14_12, Nat.reduceLeDiff, Nat.reduceEqDiff, Nat.reduceLT, eq_self, Nat.le_refl, Nat.le_zero_eq, Nat.not_lt_zero, c_rt, tx_l, so, show D_X4_weighAlike_0 fu 4 (nI (offV a b c (ru (run ev n) 0))) μ = some x from ex, nv, ex', P' i (by omega)]
        · obtain ⟨x1, e1, F1, R1, Y1⟩ := ok_eq (m_thinks hf h1 h2 h3 D.r H)
          obtain ⟨x2, e2, F2, P2⟩ := ok_eq (m_like (h := 24) hf (by decide) Y1 R1.a R1.b H)
          have F12 : Fr (fun q => 90 ≤ q ∧ q ≤ 127) m x2 := Fr.tr (F1.mo fun q z => by omega) (F2.mo fun q z => by omega)
          have R2 := RM_hi F2 (fun q z => by omega) R1
          have ws := m_wsum (n := 12) hf (by decide) P2
          have sb : 0 ≤ sm (wA (run ev n) (offB a b c (ru (run ev n) 0))) 12 := sm_nn fun k _ => (wA_nn _ _ k).1
          have sl : sm (wA (run ev n) (offB a b c (ru (run ev n) 0))) 12 ≤ 12 := by
            have q := sm_le (f := wA (run ev n) (offB a b c (ru (run ev n) 0))) (g := fun _ => 1) (n := 12) fun k _ => (wA_nn _ _ k).2
            rw [sm_c] at q; omega
          have un : D_X7_share_0 fu (nI a) (nI b) (nI c) (nI v) (nI i) y = if zL (sm (wA (run ev n) (offB a b c (ru (run ev n) 0))) 12) = 0 then some (0, x2) else (D_X7_shares_0 fu (zL (v : Int)) (nI 12) x2).bind fun x17 => some (x17.2.1 117 i, x17) := by
            have wz : ∀ m, D_X7_within_0 m (zL (v : Int)) 1 1000000000 = some true := fun m => by rw [← nv]; exact wq2 m
            simp (disch := omega) only [D_X7_share_0, D_X7_share_40, D_X7_share_41, D_X7_isLoss_0, e, li0, li1, li2, li3, li4, li5, li6, li7, li8, li9, li10, li12, li24, li31, li40, li160, n_le, n_lt, n_eq, n_m1, n_add, mr4, mr6, mr7, mr10, mr40, mr160, ml4, ml6, ml7, ml10, ml40, ml160, gu_ib, nI_nat, bi_s, vl_e, gu_t, if_true, if_false, reduceIte, bt1_1, bt1_2, bt1_3, bt1_4, bt1_5, bt1_6, bt1_7, bt1_8, bt1_9, bt1_10, bt1_11, bt1_12, bt14_1, bt14_2, bt14_3, bt14_4, bt14_5, bt14_6, bt14_7, bt14_8, bt14_9, bt14_10, bt14_11, bt14_12, Nat.reduceLeDiff, Nat.reduceEqDiff, Nat.reduceLT, eq_self, Nat.le_refl, Nat.le_zero_eq, Nat.not_lt_zero, m_aY, q1, wq2, wq3, m_nt h0, e1, e2, ws, nv, wz]
          by_cases z : sm (wA (run ev n) (offB a b c (ru (run ev n) 0))) 12 = 0
          · have w0 : wA (run ev n) (offB a b c (ru (run ev n) 0)) i = 0 := by
              have q := sm_at (f := wA (run ev n) (offB a b c (ru (run ev n) 0))) (n := 12) (k := i) (by omega) fun k _ => (wA_nn _ _ k).1
              have q2 := (wA_nn (run ev n) (offB a b c (ru (run ev n) 0)) i).1
              omega
            refine ⟨x2, ?_, MI_t D h0 F12 R2⟩
            rw [un, if_pos (by rw [z]; rfl), sh_z w0]; rfl
          · obtain ⟨x3, e3, F3, P3⟩ := ok_eq (m_share (n := 12) (a := (v : Int)) hf (by decide) (WB_A (run ev n) (offB a b c (ru (run ev n) 0))) (by omega) (by omega) (by omega) P2)
            refine ⟨x3, ?_, MI_t D h0 (Fr.tr F12 (F3.mo fun q z => by omega)) (RM_hi F3 (fun q z => by omega) R2)⟩
            rw [un, if_neg (fun y => z (by have y' : zL (sm (wA (run ev n) (offB a b c (ru (run ev n) 0))) 12) = zL 0 := y; rwa [z_eq (by omega) (by omega) (by omega) (by omega)] at y')), e3, bi_s, P3 i (by omega)]
theorem q_picks (hf : 200 < fu) (G : EG ev n) (C : CI ev n μ) (a1 a2 a3 a4 : Int32) : QQ ev n (kd 0 1 0) μ (D_X6_picks_0 fu a1 a2 a3 a4 μ) (D_X7_picks_0 fu a1 a2 a3 a4) := by
  have H := run_Iv G
  cases q1 : aY a1 a2 a3 with
  | false =>
    refine QQ_r (.inr 1) 0 C (ho_r (by decide)) ?_ fun x m e D h0 => ?_
    · simp only [D_X6_picks_0, D_X6_picks_19, D_X6_picks_20,  wC, c_aY, li1e9, li11, q1, li0, li1, li2, li3, li4, li5, li6, li7, li8, li9, li10, li12, li24, li31, li40, li160, n_le, n_lt, n_eq, n_m1, n_add, mr4, mr6, mr7, mr10, mr40, mr160, ml4, ml6, ml7, ml10, ml40, ml160, gu_ib, nI_nat, bi_s, vl_e, gu_t, if_true, if_false, reduceIte, bt1_1, bt1_2, bt1_3, bt1_4, bt1_5, bt1_6, bt1_7, bt1_8, bt1_9, bt1_10, bt1_11, bt1_12, bt14_1, bt14_2, bt14_3, bt14_4, bt14_5, bt14_6, bt14_7, bt14_8, bt14_9, bt14_10, bt14_11, bt14_12, Nat.reduceLeDiff, Nat.reduceEqDiff, Nat.reduceLT, eq_self, Nat.le_refl, Nat.le_zero_eq, Nat.not_lt_zero, Bool.false_eq_true, c_rf, tx_r, cAn]
    · have nf := m_nf (k := 1) (j := 1) h0 (by decide) (by decide) (by decide)
      simp only [D_X7_picks_0, D_X7_picks_24, D_X7_picks_25, D_X7_isLoss_0, e, li0, li1, li2, li3, li4, li5, li6, li7, li8, li9, li10, li12, li24, li31, li40, li160, n_le, n_lt, n_eq, n_m1, n_add, mr4, mr6, mr7, mr10, mr40, mr160, ml4, ml6, ml7, ml10, ml40, ml160, gu_ib, nI_nat, bi_s, vl_e, gu_t, if_true, if_false, reduceIte, bt1_1, bt1_2, bt1_3, bt1_4, bt1_5, bt1_6, bt1_7, bt1_8, bt1_9, bt1_10, bt1_11, bt1_12, bt14_1, bt14_2, bt14_3, bt14_4, bt14_5, bt14_6, bt14_7, bt14_8, bt14_9, bt14_10, bt14_11, bt14_12, Nat.reduceLeDiff, Nat.reduceEqDiff, Nat.reduceLT, eq_self, Nat.le_refl, Nat.le_zero_eq, Nat.not_lt_zero, m_aY, q1, nf, Bool.false_eq_true, mAn, kd]
  | true =>
    by_cases g : a4 < nI 0
    · skip
      refine QQ_r (.inr 1) 0 C (ho_r (by decide)) ?_ fun x m e D h0 => ?_
      · simp only [D_X6_picks_0, D_X6_picks_19, D_X6_picks_20,  wC, c_aY, li1e9, li11, q1, g, li0, li1, li2, li3, li4, li5, li6, li7, li8, li9, li10, li12, li24, li31, li40, li160, n_le, n_lt, n_eq, n_m1, n_add, mr4, mr6, mr7, mr10, mr40, mr160, ml4, ml6, ml7, ml10, ml40, ml160, gu_ib, nI_nat, bi_s, vl_e, gu_t, if_true, if_false, reduceIte, bt1_1, bt1_2, bt1_3, bt1_4, bt1_5, bt1_6, bt1_7, bt1_8, bt1_9, bt1_10, bt1_11, bt1_12, bt14_1, bt14_2, bt14_3, bt14_4, bt14_5, bt14_6, bt14_7, bt14_8, bt14_9, bt14_10, bt14_11, bt14_12, Nat.reduceLeDiff, Nat.reduceEqDiff, Nat.reduceLT, eq_self, Nat.le_refl, Nat.le_zero_eq, Nat.not_lt_zero, Bool.false_eq_true, c_rf, tx_r, cAn]
      · have nf := m_nf (k := 1) (j := 1) h0 (by decide) (by decide) (by decide)
        simp only [D_X7_picks_0, D_X7_picks_24, D_X7_picks_25, D_X7_isLoss_0, e, li0, li1, li2, li3, li4, li5, li6, li7, li8, li9, li10, li12, li24, li31, li40, li160, n_le, n_lt, n_eq, n_m1, n_add, mr4, mr6, mr7, mr10, mr40, mr160, ml4, ml6, ml7, ml10, ml40, ml160, gu_ib, nI_nat, bi_s, vl_e, gu_t, if_true, if_false, reduceIte, bt1_1, bt1_2, bt1_3, bt1_4, bt1_5, bt1_6, bt1_7, bt1_8, bt1_9, bt1_10, bt1_11, bt1_12, bt14_1, bt14_2, bt14_3, bt14_4, bt14_5, bt14_6, bt14_7, bt14_8, bt14_9, bt14_10, bt14_11, bt14_12, Nat.reduceLeDiff, Nat.reduceEqDiff, Nat.reduceLT, eq_self, Nat.le_refl, Nat.le_zero_eq, Nat.not_lt_zero, m_aY, q1, g, nf, Bool.false_eq_true, mAn, kd]
    · skip
      obtain ⟨a, b, c, rfl, rfl, rfl, h1, h2, h3⟩ := aY_n q1
      have so := c_off hf h1 h2 h3 C.r H
      obtain ⟨k, rfl, hk⟩ := nn_n g
      have g' : ¬ k < 0 := by omega
      obtain ⟨x, ex, F, P1, P2, P3⟩ := ok_eq (c_rooms (h := 24) (off := (offB a b c (ru (run ev n) 0))) hf (by decide) (by decide) (Or.inr rfl) (offV_lt a b c (ru (run ev n) 0)) (fun y hy => offV_b hy) C.r H)
      obtain ⟨x', ex', F', P'⟩ := ok_eq (c_order (h := 24) hf (by decide) (by decide) (RC_Fr F (fun q z => by omega) C.r) H P1 P2 P3)
      have o12 : opC (run ev n) (offB a b c (ru (run ev n) 0)) 12 ≤ 12 := opC_le _ _ 12
      have e61 : x'.1 61 7 = nI (opC (run ev n) (offB a b c (ru (run ev n) 0)) 12) := by rw [F'.I (by omega)]; exact P1
      refine QQ_t (if k < opC (run ev n) (offB a b c (ru (run ev n) 0)) 12 then nI (oI (run ev n) 24 (offB a b c (ru (run ev n) 0)) k) else -1) C x' ?_ (Fr.tr (F.mo fun q z => by omega) (F'.mo fun q z => by omega)) fun y m e D h0 => ?_
      · by_cases z : opC (run ev n) (offB a b c (ru (run ev n) 0)) 12 ≤ k
        · simp (disch := omega) only [D_X6_picks_0, D_X6_picks_19, D_X6_picks_20,  wC, c_aY, li1e9, li11, q1, g', li0, li1, li2, li3, li4, li5, li6, li7, li8, li9, li10, li12, li24, li31, li40, li160, n_le, n_lt, n_eq, n_m1, n_add, mr4, mr6, mr7, mr10, mr40, mr160, ml4, ml6, ml7, ml10, ml40, ml160, gu_ib, nI_nat, bi_s, vl_e, gu_t, if_true, if_false, reduceIte, bt1_1, bt1_2, bt1_3, bt1_4, bt1_5, bt1_6, bt1_7, bt1_8, bt1_9, bt1_10, bt1_11, bt1_12, bt14_1, bt14_2, bt14_3, bt14_4, bt14_5, bt14_6, bt14_7, bt14_8, bt14_9, bt14_10, bt14_11, bt14_12, Nat.reduceLeDiff, Nat.reduceEqDiff, Nat.reduceLT, eq_self, Nat.le_refl, Nat.le_zero_eq, Nat.not_lt_zero, c_rt, tx_l, so, show D_X4_measureRooms_0 fu 3 (nI 24) (nI (offV a b c (ru (run ev n) 0))) μ = some x from ex, show D_X4_orderYears_0 fu 3 x = some x' from ex', e61, z]
          rw [if_neg (by omega)]
        · simp (disch := omega) only [D_X6_picks_0, D_X6_picks_19, D_X6_picks_20,  wC, c_aY, li1e9, li11, q1, g', li0, li1, li2, li3, li4, li5, li6, li7, li8, li9, li10, li12, li24, li31, li40, li160, n_le, n_lt, n_eq, n_m1, n_add, mr4, mr6, mr7, mr10, mr40, mr160, ml4, ml6, ml7, ml10, ml40, ml160, gu_ib, nI_nat, bi_s, vl_e, gu_t, if_true, if_false, reduceIte, bt1_1, bt1_2, bt1_3, bt1_4, bt1_5, bt1_6, bt1_7, bt1_8, bt1_9, bt1_10, bt1_11, bt1_12, bt14_1, bt14_2, bt14_3, bt14_4, bt14_5, bt14_6, bt14_7, bt14_8, bt14_9, bt14_10, bt14_11, bt14_12, Nat.reduceLeDiff, Nat.reduceEqDiff, Nat.reduceLT, eq_self, Nat.le_refl, Nat.le_zero_eq, Nat.not_lt_zero, c_rt, tx_l, so, show D_X4_measureRooms_0 fu 3 (nI 24) (nI (offV a b c (ru (run ev n) 0))) μ = some x from ex, show D_X4_orderYears_0 fu 3 x = some x' from ex', e61, z, P' k (by omega)]
          rw [if_pos (by omega)]
      · obtain ⟨x1, e1, F1, R1, Y1⟩ := ok_eq (m_thinks hf h1 h2 h3 D.r H)
        refine ⟨x1, ?_, MI_t D h0 (F1.mo fun q z => by omega) R1⟩
        simp (disch := omega) only [D_X7_picks_0, D_X7_picks_24, D_X7_picks_25, D_X7_isLoss_0, e, li0, li1, li2, li3, li4, li5, li6, li7, li8, li9, li10, li12, li24, li31, li40, li160, n_le, n_lt, n_eq, n_m1, n_add, mr4, mr6, mr7, mr10, mr40, mr160, ml4, ml6, ml7, ml10, ml40, ml160, gu_ib, nI_nat, bi_s, vl_e, gu_t, if_true, if_false, reduceIte, bt1_1, bt1_2, bt1_3, bt1_4, bt1_5, bt1_6, bt1_7, bt1_8, bt1_9, bt1_10, bt1_11, bt1_12, bt14_1, bt14_2, bt14_3, bt14_4, bt14_5, bt14_6, bt14_7, bt14_8, bt14_9, bt14_10, bt14_11, bt14_12, Nat.reduceLeDiff, Nat.reduceEqDiff, Nat.reduceLT, eq_self, Nat.le_refl, Nat.le_zero_eq, Nat.not_lt_zero, m_aY, q1, g', m_nt h0, e1, m_picked (h := 24) hf (by decide) hk Y1 ⟨R1.a, R1.b, R_MZ 24 R1.z⟩ H]
end
