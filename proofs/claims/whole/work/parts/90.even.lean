/-! questions that think: uneven -/
section
variable {fu n N : Nat} {ev : Nat → Ev} {μ m : Mem} {s : Sp}
theorem m_uneven {a b c v l : Nat} (hf : 200 < fu) (hl' : l < 40) (hv : v ≤ 1000000000) (Y : MY m 24 a b c) (R : RM m s) (H : Iv N s) : ∃ x, (∀ f, 40 < f → D_X7_uneven_58 fu f (nI v) (nI l) 0 m = (D_X7_goesOver_0 fu x).bind fun x21 => some (zL (pyF s 24 (offB a b c (ru s 0)) v 0 l - pyW s 24 v (wA s (offB a b c (ru s 0))) 0 l), x21)) ∧ Fr (fun q => 90 ≤ q ∧ q ≤ 127) m x := by
  have K : ∃ x, Fr (fun q => q = 118) m x ∧ (∀ j, j < 40 → x.2.1 118 j = zL 0) ∧ ∀ f, 40 < f → D_X7_uneven_58 fu f (nI v) (nI l) 0 m = (D_X7_laysFair_0 fu (nI 24) (nI v).toInt64 x).bind fun x13 => (D_X7_byFull_0 fu (nI 24) (nI v).toInt64 x13).bind fun x15 => (D_X7_goesOver_0 fu x15).bind fun x21 => some (x15.2.1 118 l - x15.2.1 119 l, x21) := by
    have st : ∀ d, d ≤ 40 → ∃ x, Fr (fun q => q = 118) m x ∧ (∀ j, j < d → x.2.1 118 j = zL 0) ∧ ∀ f, D_X7_uneven_58 fu (f + d) (nI v) (nI l) 0 m = D_X7_uneven_58 fu f (nI v) (nI l) (nI d) x := fun d => by
      induction d with
      | zero => exact fun _ => ⟨m, Fr.rfl', fun j h => absurd h (Nat.not_lt_zero j), fun f => rfl⟩
      | succ d ih =>
        intro hd
        obtain ⟨x, F, Z, E⟩ := ih (by omega)
        refine ⟨wL x 118 d (zL 0), Fr.wL F rfl, fun j hj => ?_, fun f => ?_⟩
        · rw [wL_s]
          by_cases q : j = d
          · rw [if_pos q]
          · rw [if_neg q]; exact Z j (by omega)
        · rw [show f + (d + 1) = (f + 1) + d by omega, E (f + 1), D_X7_uneven_58]
          simp (disch := omega) only [li0, li1, li2, li3, li4, li5, li6, li7, li8, li9, li10, li12, li24, li31, li40, li160, n_le, n_lt, n_eq, n_m1, n_add, mr4, mr6, mr7, mr10, mr40, mr160, ml4, ml6, ml7, ml10, ml40, ml160, gu_ib, nI_nat, bi_s, vl_e, gu_t, if_true, if_false, reduceIte, bt1_1, bt1_2, bt1_3, bt1_4, bt1_5, bt1_6, bt1_7, bt1_8, bt1_9, bt1_10, bt1_11, bt1_12, bt14_1, bt14_2, bt14_3, bt14_4, bt14_5, bt14_6, bt14_7, bt14_8, bt14_9, bt14_10, bt14_11, bt14_12, ll0, ll1, ll2, ll10, ll2e9]
          rw [if_neg (by omega)]
    obtain ⟨x, F, Z, E⟩ := st 40 (Nat.le_refl _)
    refine ⟨x, F, Z, fun f hf' => ?_⟩
    obtain ⟨g, rfl⟩ : ∃ g, f = (g + 1) + 40 := ⟨f - 41, by omega⟩
    rw [E (g + 1), D_X7_uneven_58]
    simp (disch := omega) only [li0, li1, li2, li3, li4, li5, li6, li7, li8, li9, li10, li12, li24, li31, li40, li160, n_le, n_lt, n_eq, n_m1, n_add, mr4, mr6, mr7, mr10, mr40, mr160, ml4, ml6, ml7, ml10, ml40, ml160, gu_ib, nI_nat, bi_s, vl_e, gu_t, if_true, if_false, reduceIte, bt1_1, bt1_2, bt1_3, bt1_4, bt1_5, bt1_6, bt1_7, bt1_8, bt1_9, bt1_10, bt1_11, bt1_12, bt14_1, bt14_2, bt14_3, bt14_4, bt14_5, bt14_6, bt14_7, bt14_8, bt14_9, bt14_10, bt14_11, bt14_12]
    rw [if_pos (by omega)]
  obtain ⟨x, F, Z, E⟩ := K
  have Rx := RM_hi F (fun q z => by omega) R
  have Wx : MW x s 24 oc0 := ⟨Rx.a, Rx.b, R_MZ 24 Rx.z, fun j hj => Z j hj⟩
  have Yx : MY x 24 a b c := MY_F F (fun q z => by omega) Y
  obtain ⟨x1, e1, F1, W1, P1⟩ := ok_eq (m_fair (h := 24) (v := (v : Int)) hf (by decide) (by omega) (by omega) Yx Wx H)
  have Y1 : MY x1 24 a b c := MY_F F1 (fun q z => by unfold AM at z; omega) Yx
  obtain ⟨x2, e2, F2, W2⟩ := ok_eq (m_byFull (h := 24) (v := (v : Int)) hf (by decide) (by omega) (by omega) Y1 W1 H)
  refine ⟨x2, fun f hf' => ?_, Fr.tr (F.mo fun q z => by omega) (Fr.tr (F1.mo fun q z => by unfold AM at z; omega) (F2.mo fun q z => by unfold AM at z; omega))⟩
  have g1 : x2.2.1 118 l = zL (pyF s 24 (offB a b c (ru s 0)) v 0 l) := W2.2.2.2 l hl'
  have g2 : x2.2.1 119 l = zL (pyW s 24 v (wA s (offB a b c (ru s 0))) 0 l) := by rw [F2.L (by unfold AM; omega)]; exact P1 l hl'
  rw [E f hf', n_L (by omega), e1, bi_s, e2, bi_s, g1, g2, z_sub]
theorem exc_s (A B : Nat → Int) (l : Nat) : exc A B l - exc B A l = A l - B l := by unfold exc; omega
theorem q_uneven (hf : 200 < fu) (G : EG ev n) (V : LV ev n) (C : CI ev n μ) (a1 a2 a3 a4 a5 : Int32) : QQ ev n (kd 1 2 0) μ (D_X6_uneven_0 fu a1 a2 a3 a4 a5 μ) (D_X7_uneven_0 fu a1 a2 a3 a4 a5) := by
  have T := (run_CT G V n (Nat.le_refl _)).1
  have H := run_Iv G
  have t40 := T.2.2.1
  cases q0 : iB a5 (cL (run ev n)) with
  | false =>
    refine QQ_r (.inr 0) 0 C (ho_r (by decide)) ?_ fun x m e D h0 => ?_
    · simp only [D_X6_uneven_0, c_isL C.r, q0, li0, li1, li2, li3, li4, li5, li6, li7, li8, li9, li10, li12, li24, li31, li40, li160, n_le, n_lt, n_eq, n_m1, n_add, mr4, mr6, mr7, mr10, mr40, mr160, ml4, ml6, ml7, ml10, ml40, ml160, gu_ib, nI_nat, bi_s, vl_e, gu_t, if_true, if_false, reduceIte, bt1_1, bt1_2, bt1_3, bt1_4, bt1_5, bt1_6, bt1_7, bt1_8, bt1_9, bt1_10, bt1_11, bt1_12, bt14_1, bt14_2, bt14_3, bt14_4, bt14_5, bt14_6, bt14_7, bt14_8, bt14_9, bt14_10, bt14_11, bt14_12, Nat.reduceLeDiff, Nat.reduceEqDiff, Nat.reduceLT, eq_self, Nat.le_refl, Nat.le_zero_eq, Nat.not_lt_zero, b2_f, c_tf, tx_r, cAn]
    · have dd := m_isL (d := 1) D.r T H h0 a5 (by decide) (by decide)
      simp only [D_X7_uneven_0, e, li0, li1, li2, li3, li4, li5, li6, li7, li8, li9, li10, li12, li24, li31, li40, li160, n_le, n_lt, n_eq, n_m1, n_add, mr4, mr6, mr7, mr10, mr40, mr160, ml4, ml6, ml7, ml10, ml40, ml160, gu_ib, nI_nat, bi_s, vl_e, gu_t, if_true, if_false, reduceIte, bt1_1, bt1_2, bt1_3, bt1_4, bt1_5, bt1_6, bt1_7, bt1_8, bt1_9, bt1_10, bt1_11, bt1_12, bt14_1, bt14_2, bt14_3, bt14_4, bt14_5, bt14_6, bt14_7, bt14_8, bt14_9, bt14_10, bt14_11, bt14_12, Nat.reduceLeDiff, Nat.reduceEqDiff, Nat.reduceLT, eq_self, Nat.le_refl, Nat.le_zero_eq, Nat.not_lt_zero, dd, q0, Bool.false_eq_true, mAn, kd]
  | true =>
    cases q1 : aY a1 a2 a3 with
    | false =>
      refine QQ_r (.inr 1) 0 C (ho_r (by decide)) ?_ fun x m e D h0 => ?_
      · simp only [D_X6_uneven_0, D_X6_uneven_32, D_X6_uneven_33, c_isL C.r, q0, c_aY, q1, li0, li1, li2, li3, li4, li5, li6, li7, li8, li9, li10, li12, li24, li31, li40, li160, n_le, n_lt, n_eq, n_m1, n_add, mr4, mr6, mr7, mr10, mr40, mr160, ml4, ml6, ml7, ml10, ml40, ml160, gu_ib, nI_nat, bi_s, vl_e, gu_t, if_true, if_false, reduceIte, bt1_1, bt1_2, bt1_3, bt1_4, bt1_5, bt1_6, bt1_7, bt1_8, bt1_9, bt1_10, bt1_11, bt1_12, bt14_1, bt14_2, bt14_3, bt14_4, bt14_5, bt14_6, bt14_7, bt14_8, bt14_9, bt14_10, bt14_11, bt14_12, Nat.reduceLeDiff, Nat.reduceEqDiff, Nat.reduceLT, eq_self, Nat.le_refl, Nat.le_zero_eq, Nat.not_lt_zero, b2_t, c_tt, tx_l, Bool.false_eq_true, c_rf, tx_r, cAn]
      · have dd := m_isL (d := 1) D.r T H h0 a5 (by decide) (by decide)
        have nf := m_nf (k := 2) (j := 1) h0 (by decide) (by decide) (by decide)
        simp only [D_X7_uneven_0, D_X7_uneven_37, D_X7_uneven_38, e, li0, li1, li2, li3, li4, li5, li6, li7, li8, li9, li10, li12, li24, li31, li40, li160, n_le, n_lt, n_eq, n_m1, n_add, mr4, mr6, mr7, mr10, mr40, mr160, ml4, ml6, ml7, ml10, ml40, ml160, gu_ib, nI_nat, bi_s, vl_e, gu_t, if_true, if_false, reduceIte, bt1_1, bt1_2, bt1_3, bt1_4, bt1_5, bt1_6, bt1_7, bt1_8, bt1_9, bt1_10, bt1_11, bt1_12, bt14_1, bt14_2, bt14_3, bt14_4, bt14_5, bt14_6, bt14_7, bt14_8, bt14_9, bt14_10, bt14_11, bt14_12, Nat.reduceLeDiff, Nat.reduceEqDiff, Nat.reduceLT, eq_self, Nat.le_refl, Nat.le_zero_eq, Nat.not_lt_zero, dd, q0, m_aY, q1, nf, Bool.false_eq_true, mAn, kd]
    | true =>
      cases q2 : inC a4 (nI 1) (nI 1000000000) with
      | false =>
        have w2 := fun m => mWq q2 (L := 1) (H := 1000000000) rfl rfl m
        refine QQ_r (.inr 1) 0 C (ho_r (by decide)) ?_ fun x m e D h0 => ?_
        · simp only [D_X6_uneven_0, D_X6_uneven_32, D_X6_uneven_33, D_X6_isAmount_0, wC, li1e9, c_isL C.r, q0, c_aY, q1, q2, li0, li1, li2, li3, li4, li5, li6, li7, li8, li9, li10, li12, li24, li31, li40, li160, n_le, n_lt, n_eq, n_m1, n_add, mr4, mr6, mr7, mr10, mr40, mr160, ml4, ml6, ml7, ml10, ml40, ml160, gu_ib, nI_nat, bi_s, vl_e, gu_t, if_true, if_false, reduceIte, bt1_1, bt1_2, bt1_3, bt1_4, bt1_5, bt1_6, bt1_7, bt1_8, bt1_9, bt1_10, bt1_11, bt1_12, bt14_1, bt14_2, bt14_3, bt14_4, bt14_5, bt14_6, bt14_7, bt14_8, bt14_9, bt14_10, bt14_11, bt14_12, Nat.reduceLeDiff, Nat.reduceEqDiff, Nat.reduceLT, eq_self, Nat.le_refl, Nat.le_zero_eq, Nat.not_lt_zero, b2_t, c_tt, tx_l, Bool.false_eq_true, c_rf, tx_r, cAn]
        · have dd := m_isL (d := 1) D.r T H h0 a5 (by decide) (by decide)
          have nf := m_nf (k := 2) (j := 1) h0 (by decide) (by decide) (by decide)
          simp only [D_X7_uneven_0, D_X7_uneven_37, D_X7_uneven_38, D_X7_isLoss_0, e, li0, li1, li2, li3, li4, li5, li6, li7, li8, li9, li10, li12, li24, li31, li40, li160, n_le, n_lt, n_eq, n_m1, n_add, mr4, mr6, mr7, mr10, mr40, mr160, ml4, ml6, ml7, ml10, ml40, ml160, gu_ib, nI_nat, bi_s, vl_e, gu_t, if_true, if_false, reduceIte, bt1_1, bt1_2, bt1_3, bt1_4, bt1_5, bt1_6, bt1_7, bt1_8, bt1_9, bt1_10, bt1_11, bt1_12, bt14_1, bt14_2, bt14_3, bt14_4, bt14_5, bt14_6, bt14_7, bt14_8, bt14_9, bt14_10, bt14_11, bt14_12, Nat.reduceLeDiff, Nat.reduceEqDiff, Nat.reduceLT, eq_self, Nat.le_refl, Nat.le_zero_eq, Nat.not_lt_zero, dd, q0, m_aY, q1, w2, nf, Bool.false_eq_true, mAn, kd]
      | true =>
        have w2 := fun m => mWq q2 (L := 1) (H := 1000000000) rfl rfl m
        obtain ⟨l, rfl, hl⟩ := iB_n (by omega) q0
        obtain ⟨a, b, c, rfl, rfl, rfl, h1, h2, h3⟩ := aY_n q1
        obtain ⟨v, rfl, v1, hv⟩ := inC_n (by decide) (by decide) q2
        obtain ⟨so, x, pl, F, -, P⟩ := c_thk (v := v) (k := 2) hf h1 h2 h3 hv (by decide) C.r H
        obtain ⟨p1, p2⟩ := P rfl l hl
        refine QQ_t (zL (pyF (run ev n) 24 (offB a b c (ru (run ev n) 0)) v 0 l - pyW (run ev n) 24 v (wA (run ev n) (offB a b c (ru (run ev n) 0))) 0 l)) C x ?_ F fun y m e D h0 => ?_
        · simp (disch := omega) only [D_X6_uneven_0, D_X6_uneven_33, D_X6_isAmount_0, wC, li1e9, c_isL C.r, q0, c_aY, q1, q2, li0, li1, li2, li3, li4, li5, li6, li7, li8, li9, li10, li12, li24, li31, li40, li160, n_le, n_lt, n_eq, n_m1, n_add, mr4, mr6, mr7, mr10, mr40, mr160, ml4, ml6, ml7, ml10, ml40, ml160, gu_ib, nI_nat, bi_s, vl_e, gu_t, if_true, if_false, reduceIte, bt1_1, bt1_2, bt1_3, bt1_4, bt1_5, bt1_6, bt1_7, bt1_8, bt1_9, bt1_10, bt1_11, bt1_12, bt14_1, bt14_2, bt14_3, bt14_4, bt14_5, bt14_6, bt14_7, bt14_8, bt14_9, bt14_10, bt14_11, bt14_12, Nat.reduceLeDiff, Nat.reduceEqDiff, Nat.reduceLT, eq_self, Nat.le_refl, Nat.le_zero_eq, Nat.not_lt_zero, b2_t, c_tt, tx_l, c_rt, so, pl, p1, p2, z_sub, exc_s]
        · obtain ⟨x1, e1, F1, R1, Y1⟩ := ok_eq (m_thinks hf h1 h2 h3 D.r H)
          obtain ⟨x2, E2, F2⟩ := m_uneven hf (show l < 40 by omega) hv Y1 R1 H
          obtain ⟨y4, e4, b1, b2, b3⟩ := ok_eq (m_again hf G D h0 (Fr.tr (F1.mo fun q z => by omega) F2))
          refine ⟨y4, ?_, b1, b2, b3⟩
          have dd := m_isL (d := 1) D.r T H h0 (nI l) (by decide) (by decide)
          have k := E2 fu (by omega)
          rw [e4, bi_s] at k
          simp (disch := omega) only [D_X7_uneven_0, D_X7_uneven_38, D_X7_isLoss_0, e, li0, li1, li2, li3, li4, li5, li6, li7, li8, li9, li10, li12, li24, li31, li40, li160, n_le, n_lt, n_eq, n_m1, n_add, mr4, mr6, mr7, mr10, mr40, mr160, ml4, ml6, ml7, ml10, ml40, ml160, gu_ib, nI_nat, bi_s, vl_e, gu_t, if_true, if_false, reduceIte, bt1_1, bt1_2, bt1_3, bt1_4, bt1_5, bt1_6, bt1_7, bt1_8, bt1_9, bt1_10, bt1_11, bt1_12, bt14_1, bt14_2, bt14_3, bt14_4, bt14_5, bt14_6, bt14_7, bt14_8, bt14_9, bt14_10, bt14_11, bt14_12, Nat.reduceLeDiff, Nat.reduceEqDiff, Nat.reduceLT, eq_self, Nat.le_refl, Nat.le_zero_eq, Nat.not_lt_zero, dd, q0, m_aY, q1, w2, m_nt h0, e1]
          exact k
end
