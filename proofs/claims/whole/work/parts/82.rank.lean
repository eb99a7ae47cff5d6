/-! questions that read: insurer, rank, offs -/
section
variable {fu n N : Nat} {ev : Nat → Ev} {μ m : Mem} {s : Sp}
theorem gS_0 (s : Sp) (a l : Nat) : gS s a l 0 = 0 := by unfold gS; rw [if_neg (by omega)]
theorem gS_40 {a i : Nat} (T : CT s) (H : Iv N s) : sm (fun l => gS s a l (tbS s l i (ng s l))) 40 = sm (fun l => gS s a l (tbS s l i (ng s l))) (cL s) :=
  sm_ext T.2.2.1 fun l h1 h2 => by
    have z : isL s l = 0 := (IvT_is H.T h2).resolve_right fun z => by have := (T.1 l h2).mp z; omega
    show gS s a l (tbS s l i (ng s l)) = 0
    rw [IvT_n0 H.T h2 z]; exact gS_0 s a l
theorem lsS_g (s : Sp) (i : Nat) : ∀ c, (lsS s i c : Int) = sm (fun l => gS s 0 l (tbS s l i (ng s l))) c
  | 0 => rfl
  | c + 1 => by
    rw [sm_s, ← lsS_g s i c]
    show ((lsS s i c + if 0 < tbS s c i (ng s c) then 1 else 0 : Nat) : Int) = _
    unfold gS
    by_cases q : 0 < tbS s c i (ng s c)
    · rw [if_pos q, if_pos q, if_pos rfl]; omega
    · rw [if_neg q, if_neg q]; omega
theorem lsS_le (s : Sp) (i : Nat) : ∀ c, lsS s i c ≤ c
  | 0 => Nat.le_refl _
  | c + 1 => by
    have := lsS_le s i c
    show lsS s i c + _ ≤ _
    split <;> omega
theorem lft_g (s : Sp) (i : Nat) : ∀ c, sm (fun l => lf s l * (tbS s l i (ng s l) : Int) / 10) c = sm (fun l => gS s 1 l (tbS s l i (ng s l))) c := fun c => sm_congr fun l _ => by
  show _ = gS s 1 l (tbS s l i (ng s l))
  unfold gS
  by_cases q : 0 < tbS s l i (ng s l)
  · rw [if_pos q, if_neg (by omega)]
  · rw [if_neg q, show tbS s l i (ng s l) = 0 by omega]
    show lf s l * 0 / 10 = 0
    rw [Int.mul_zero]; rfl
theorem q_insurer (hf : 200 < fu) (G : EG ev n) (V : LV ev n) (C : CI ev n μ) (a1 a2 : Int32) : QQ ev n (kd 0 1 0) μ (D_X6_insurer_0 fu a1 a2 μ) (D_X7_insurer_0 fu a1 a2) := by
  have T := (run_CT G V n (Nat.le_refl _)).1
  have H := run_Iv G
  have t40 := T.2.2.1
  cases q1 : inC a1 (nI 0) (nI 9) with
  | false =>
    have w1 := fun m => mWq q1 (L := 0) (H := 9) rfl rfl m
    refine QQ_r (.inr 1) 0 C (ho_r (by decide)) ?_ fun x m e D h0 => ?_
    · simp only [D_X6_insurer_0, D_X6_insurer_21, D_X6_insurer_22, D_X6_isInsurer_0, wC, q1, li0, li1, li2, li3, li4, li5, li6, li7, li8, li9, li10, li12, li24, li31, li40, li160, n_le, n_lt, n_eq, n_m1, n_add, mr4, mr6, mr7, mr10, mr40, mr160, ml4, ml6, ml7, ml10, ml40, ml160, gu_ib, nI_nat, bi_s, vl_e, gu_t, if_true, if_false, reduceIte, bt1_1, bt1_2, bt1_3, bt1_4, bt1_5, bt1_6, bt1_7, bt1_8, bt1_9, bt1_10, bt1_11, bt1_12, bt14_1, bt14_2, bt14_3, bt14_4, bt14_5, bt14_6, bt14_7, bt14_8, bt14_9, bt14_10, bt14_11, bt14_12, Nat.reduceLeDiff, Nat.reduceEqDiff, Nat.reduceLT, eq_self, Nat.le_refl, Nat.le_zero_eq, Nat.not_lt_zero, Bool.false_eq_true, c_rf, tx_r, cAn]
    · have nf := m_nf (k := 1) (j := 1) h0 (by decide) (by decide) (by decide)
      simp only [D_X7_insurer_0, D_X7_insurer_34, D_X7_insurer_35, e, li0, li1, li2, li3, li4, li5, li6, li7, li8, li9, li10, li12, li24, li31, li40, li160, n_le, n_lt, n_eq, n_m1, n_add, mr4, mr6, mr7, mr10, mr40, mr160, ml4, ml6, ml7, ml10, ml40, ml160, gu_ib, nI_nat, bi_s, vl_e, gu_t, if_true, if_false, reduceIte, bt1_1, bt1_2, bt1_3, bt1_4, bt1_5, bt1_6, bt1_7, bt1_8, bt1_9, bt1_10, bt1_11, bt1_12, bt14_1, bt14_2, bt14_3, bt14_4, bt14_5, bt14_6, bt14_7, bt14_8, bt14_9, bt14_10, bt14_11, bt14_12, Nat.reduceLeDiff, Nat.reduceEqDiff, Nat.reduceLT, eq_self, Nat.le_refl, Nat.le_zero_eq, Nat.not_lt_zero, w1, nf, Bool.false_eq_true, mAn, kd]
  | true =>
    have w1 := fun m => mWq q1 (L := 0) (H := 9) rfl rfl m
    cases q2 : inC a2 (nI 0) (nI 4) with
    | false =>
      have w2 := fun m => mWq q2 (L := 0) (H := 4) rfl rfl m
      refine QQ_r (.inr 1) 0 C (ho_r (by decide)) ?_ fun x m e D h0 => ?_
      · simp only [D_X6_insurer_0, D_X6_insurer_21, D_X6_insurer_22, D_X6_isInsurer_0, wC, q1, q2, li0, li1, li2, li3, li4, li5, li6, li7, li8, li9, li10, li12, li24, li31, li40, li160, n_le, n_lt, n_eq, n_m1, n_add, mr4, mr6, mr7, mr10, mr40, mr160, ml4, ml6, ml7, ml10, ml40, ml160, gu_ib, nI_nat, bi_s, vl_e, gu_t, if_true, if_false, reduceIte, bt1_1, bt1_2, bt1_3, bt1_4, bt1_5, bt1_6, bt1_7, bt1_8, bt1_9, bt1_10, bt1_11, bt1_12, bt14_1, bt14_2, bt14_3, bt14_4, bt14_5, bt14_6, bt14_7, bt14_8, bt14_9, bt14_10, bt14_11, bt14_12, Nat.reduceLeDiff, Nat.reduceEqDiff, Nat.reduceLT, eq_self, Nat.le_refl, Nat.le_zero_eq, Nat.not_lt_zero, Bool.false_eq_true, c_rf, tx_r, cAn]
      · have nf := m_nf (k := 1) (j := 1) h0 (by decide) (by decide) (by decide)
        simp only [D_X7_insurer_0, D_X7_insurer_34, D_X7_insurer_35, e, li0, li1, li2, li3, li4, li5, li6, li7, li8, li9, li10, li12, li24, li31, li40, li160, n_le, n_lt, n_eq, n_m1, n_add, mr4, mr6, mr7, mr10, mr40, mr160, ml4, ml6, ml7, ml10, ml40, ml160, gu_ib, nI_nat, bi_s, vl_e, gu_t, if_true, if_false, reduceIte, bt1_1, bt1_2, bt1_3, bt1_4, bt1_5, bt1_6, bt1_7, bt1_8, bt1_9, bt1_10, bt1_11, bt1_12, bt14_1, bt14_2, bt14_3, bt14_4, bt14_5, bt14_6, bt14_7, bt14_8, bt14_9, bt14_10, bt14_11, bt14_12, Nat.reduceLeDiff, Nat.reduceEqDiff, Nat.reduceLT, eq_self, Nat.le_refl, Nat.le_zero_eq, Nat.not_lt_zero, w1, w2, nf, Bool.false_eq_true, mAn, kd]
    | true =>
      have w2 := fun m => mWq q2 (L := 0) (H := 4) rfl rfl m
      obtain ⟨i, rfl, il, hi⟩ := inC_n (by decide) (by decide) q1
      obtain ⟨k, rfl, kl, hk⟩ := inC_n (by decide) (by decide) q2
      have i10 : i < 10 := by omega
      have hA : ∀ l, l < cL (run ev n) → isL (run ev n) l = 1 := fun l hl => (T.1 l (by omega)).mpr hl
      rcases (show k = 0 ∨ k = 1 ∨ k = 2 ∨ k = 3 ∨ k = 4 by omega) with rfl | rfl | rfl | rfl | rfl
      · refine QQ_r (.inl (zL (bA (run ev n) i))) 0 C ho_l ?_ fun x m e D h0 => ?_
        · simp only [D_X6_insurer_0, D_X6_insurer_22, D_X6_isInsurer_0, wC, q1, q2, li0, li1, li2, li3, li4, li5, li6, li7, li8, li9, li10, li12, li24, li31, li40, li160, n_le, n_lt, n_eq, n_m1, n_add, mr4, mr6, mr7, mr10, mr40, mr160, ml4, ml6, ml7, ml10, ml40, ml160, gu_ib, nI_nat, bi_s, vl_e, gu_t, if_true, if_false, reduceIte, bt1_1, bt1_2, bt1_3, bt1_4, bt1_5, bt1_6, bt1_7, bt1_8, bt1_9, bt1_10, bt1_11, bt1_12, bt14_1, bt14_2, bt14_3, bt14_4, bt14_5, bt14_6, bt14_7, bt14_8, bt14_9, bt14_10, bt14_11, bt14_12, Nat.reduceLeDiff, Nat.reduceEqDiff, Nat.reduceLT, eq_self, Nat.le_refl, Nat.le_zero_eq, Nat.not_lt_zero, c_rt, tx_l, show D_X1_borneInAll_0 fu μ 17 (nI i) = some (zL (bA (run ev n) i)) from c_borneAll hf i10 C.r H, cAn]
        · simp (disch := omega) only [D_X7_insurer_0, D_X7_insurer_35, e, li0, li1, li2, li3, li4, li5, li6, li7, li8, li9, li10, li12, li24, li31, li40, li160, n_le, n_lt, n_eq, n_m1, n_add, mr4, mr6, mr7, mr10, mr40, mr160, ml4, ml6, ml7, ml10, ml40, ml160, gu_ib, nI_nat, bi_s, vl_e, gu_t, if_true, if_false, reduceIte, bt1_1, bt1_2, bt1_3, bt1_4, bt1_5, bt1_6, bt1_7, bt1_8, bt1_9, bt1_10, bt1_11, bt1_12, bt14_1, bt14_2, bt14_3, bt14_4, bt14_5, bt14_6, bt14_7, bt14_8, bt14_9, bt14_10, bt14_11, bt14_12, Nat.reduceLeDiff, Nat.reduceEqDiff, Nat.reduceLT, eq_self, Nat.le_refl, Nat.le_zero_eq, Nat.not_lt_zero, w1, w2, m_nt h0, m_bearsAll hf i10 D.r H, mAn]
      · refine QQ_r (.inl (nI (sd (run ev n) i)).toInt64) 0 C ho_l ?_ fun x m e D h0 => ?_
        · simp (disch := omega) only [D_X6_insurer_0, D_X6_insurer_22, D_X6_isInsurer_0, wC, q1, q2, li0, li1, li2, li3, li4, li5, li6, li7, li8, li9, li10, li12, li24, li31, li40, li160, n_le, n_lt, n_eq, n_m1, n_add, mr4, mr6, mr7, mr10, mr40, mr160, ml4, ml6, ml7, ml10, ml40, ml160, gu_ib, nI_nat, bi_s, vl_e, gu_t, if_true, if_false, reduceIte, bt1_1, bt1_2, bt1_3, bt1_4, bt1_5, bt1_6, bt1_7, bt1_8, bt1_9, bt1_10, bt1_11, bt1_12, bt14_1, bt14_2, bt14_3, bt14_4, bt14_5, bt14_6, bt14_7, bt14_8, bt14_9, bt14_10, bt14_11, bt14_12, Nat.reduceLeDiff, Nat.reduceEqDiff, Nat.reduceLT, eq_self, Nat.le_refl, Nat.le_zero_eq, Nat.not_lt_zero, c_rt, tx_l, K_sd C.r, cAn]
        · simp (disch := omega) only [D_X7_insurer_0, D_X7_insurer_35, e, li0, li1, li2, li3, li4, li5, li6, li7, li8, li9, li10, li12, li24, li31, li40, li160, n_le, n_lt, n_eq, n_m1, n_add, mr4, mr6, mr7, mr10, mr40, mr160, ml4, ml6, ml7, ml10, ml40, ml160, gu_ib, nI_nat, bi_s, vl_e, gu_t, if_true, if_false, reduceIte, bt1_1, bt1_2, bt1_3, bt1_4, bt1_5, bt1_6, bt1_7, bt1_8, bt1_9, bt1_10, bt1_11, bt1_12, bt14_1, bt14_2, bt14_3, bt14_4, bt14_5, bt14_6, bt14_7, bt14_8, bt14_9, bt14_10, bt14_11, bt14_12, Nat.reduceLeDiff, Nat.reduceEqDiff, Nat.reduceLT, eq_self, Nat.le_refl, Nat.le_zero_eq, Nat.not_lt_zero, w1, w2, m_nt h0, M_sd D.r, mAn]
      · by_cases z : i = 0
        · subst z
          refine QQ_r (.inl (zL (sm (fun i => (cs (run ev n) (i + 1) : Int)) 9))) 0 C ho_l ?_ fun x m e D h0 => ?_
          · simp (disch := omega) only [D_X6_insurer_0, D_X6_insurer_22, D_X6_isInsurer_0, wC, q1, q2, li0, li1, li2, li3, li4, li5, li6, li7, li8, li9, li10, li12, li24, li31, li40, li160, n_le, n_lt, n_eq, n_m1, n_add, mr4, mr6, mr7, mr10, mr40, mr160, ml4, ml6, ml7, ml10, ml40, ml160, gu_ib, nI_nat, bi_s, vl_e, gu_t, if_true, if_false, reduceIte, bt1_1, bt1_2, bt1_3, bt1_4, bt1_5, bt1_6, bt1_7, bt1_8, bt1_9, bt1_10, bt1_11, bt1_12, bt14_1, bt14_2, bt14_3, bt14_4, bt14_5, bt14_6, bt14_7, bt14_8, bt14_9, bt14_10, bt14_11, bt14_12, Nat.reduceLeDiff, Nat.reduceEqDiff, Nat.reduceLT, eq_self, Nat.le_refl, Nat.le_zero_eq, Nat.not_lt_zero, c_rt, tx_l, show D_X0_cashInAll_0 fu μ 3 = some (zL (sm (fun i => (cs (run ev n) (i + 1) : Int)) 9)) from c_cashAll hf C.r H, cAn]
          · simp (disch := omega) only [D_X7_insurer_0, D_X7_insurer_35, e, li0, li1, li2, li3, li4, li5, li6, li7, li8, li9, li10, li12, li24, li31, li40, li160, n_le, n_lt, n_eq, n_m1, n_add, mr4, mr6, mr7, mr10, mr40, mr160, ml4, ml6, ml7, ml10, ml40, ml160, gu_ib, nI_nat, bi_s, vl_e, gu_t, if_true, if_false, reduceIte, bt1_1, bt1_2, bt1_3, bt1_4, bt1_5, bt1_6, bt1_7, bt1_8, bt1_9, bt1_10, bt1_11, bt1_12, bt14_1, bt14_2, bt14_3, bt14_4, bt14_5, bt14_6, bt14_7, bt14_8, bt14_9, bt14_10, bt14_11, bt14_12, Nat.reduceLeDiff, Nat.reduceEqDiff, Nat.reduceLT, eq_self, Nat.le_refl, Nat.le_zero_eq, Nat.not_lt_zero, w1, w2, m_nt h0, m_cash hf D.r H, mAn]
        · have z' : (i = 0) = False := eq_false z
          refine QQ_r (.inl (nI (cs (run ev n) i)).toInt64) 0 C ho_l ?_ fun x m e D h0 => ?_
          · simp (disch := omega) only [D_X6_insurer_0, D_X6_insurer_22, D_X6_isInsurer_0, wC, q1, q2, li0, li1, li2, li3, li4, li5, li6, li7, li8, li9, li10, li12, li24, li31, li40, li160, n_le, n_lt, n_eq, n_m1, n_add, mr4, mr6, mr7, mr10, mr40, mr160, ml4, ml6, ml7, ml10, ml40, ml160, gu_ib, nI_nat, bi_s, vl_e, gu_t, if_true, if_false, reduceIte, bt1_1, bt1_2, bt1_3, bt1_4, bt1_5, bt1_6, bt1_7, bt1_8, bt1_9, bt1_10, bt1_11, bt1_12, bt14_1, bt14_2, bt14_3, bt14_4, bt14_5, bt14_6, bt14_7, bt14_8, bt14_9, bt14_10, bt14_11, bt14_12, Nat.reduceLeDiff, Nat.reduceEqDiff, Nat.reduceLT, eq_self, Nat.le_refl, Nat.le_zero_eq, Nat.not_lt_zero, c_rt, tx_l, z', K_cs C.r, cAn]
          · simp (disch := omega) only [D_X7_insurer_0, D_X7_insurer_35, D_X7_cashOf_0, e, li0, li1, li2, li3, li4, li5, li6, li7, li8, li9, li10, li12, li24, li31, li40, li160, n_le, n_lt, n_eq, n_m1, n_add, mr4, mr6, mr7, mr10, mr40, mr160, ml4, ml6, ml7, ml10, ml40, ml160, gu_ib, nI_nat, bi_s, vl_e, gu_t, if_true, if_false, reduceIte, bt1_1, bt1_2, bt1_3, bt1_4, bt1_5, bt1_6, bt1_7, bt1_8, bt1_9, bt1_10, bt1_11, bt1_12, bt14_1, bt14_2, bt14_3, bt14_4, bt14_5, bt14_6, bt14_7, bt14_8, bt14_9, bt14_10, bt14_11, bt14_12, Nat.reduceLeDiff, Nat.reduceEqDiff, Nat.reduceLT, eq_self, Nat.le_refl, Nat.le_zero_eq, Nat.not_lt_zero, w1, w2, m_nt h0, z', M_cs D.r, mAn]
      · have ll := lsS_le (run ev n) i (cL (run ev n))
        refine QQ_r (.inl (zL (lsS (run ev n) i (cL (run ev n)) : Int))) 0 C ho_l ?_ fun x m e D h0 => ?_
        · simp (disch := omega) only [D_X6_insurer_0, D_X6_insurer_22, D_X6_isInsurer_0, wC, q1, q2, li0, li1, li2, li3, li4, li5, li6, li7, li8, li9, li10, li12, li24, li31, li40, li160, n_le, n_lt, n_eq, n_m1, n_add, mr4, mr6, mr7, mr10, mr40, mr160, ml4, ml6, ml7, ml10, ml40, ml160, gu_ib, nI_nat, bi_s, vl_e, gu_t, if_true, if_false, reduceIte, bt1_1, bt1_2, bt1_3, bt1_4, bt1_5, bt1_6, bt1_7, bt1_8, bt1_9, bt1_10, bt1_11, bt1_12, bt14_1, bt14_2, bt14_3, bt14_4, bt14_5, bt14_6, bt14_7, bt14_8, bt14_9, bt14_10, bt14_11, bt14_12, Nat.reduceLeDiff, Nat.reduceEqDiff, Nat.reduceLT, eq_self, Nat.le_refl, Nat.le_zero_eq, Nat.not_lt_zero, c_rt, tx_l, show D_X5_layersSignedBy_0 fu μ 4 (nI i) = some (nI (lsS (run ev n) i (cL (run ev n)))) from c_signedBy hf i10 hA C.r H, n_L, cAn]
        · simp (disch := omega) only [D_X7_insurer_0, D_X7_insurer_35, e, li0, li1, li2, li3, li4, li5, li6, li7, li8, li9, li10, li12, li24, li31, li40, li160, n_le, n_lt, n_eq, n_m1, n_add, mr4, mr6, mr7, mr10, mr40, mr160, ml4, ml6, ml7, ml10, ml40, ml160, gu_ib, nI_nat, bi_s, vl_e, gu_t, if_true, if_false, reduceIte, bt1_1, bt1_2, bt1_3, bt1_4, bt1_5, bt1_6, bt1_7, bt1_8, bt1_9, bt1_10, bt1_11, bt1_12, bt14_1, bt14_2, bt14_3, bt14_4, bt14_5, bt14_6, bt14_7, bt14_8, bt14_9, bt14_10, bt14_11, bt14_12, Nat.reduceLeDiff, Nat.reduceEqDiff, Nat.reduceLT, eq_self, Nat.le_refl, Nat.le_zero_eq, Nat.not_lt_zero, w1, w2, m_nt h0, show nI 3 - nI 3 = nI 0 from rfl, show D_X7_signedBy_0 fu m (nI i) (nI 0) = some (zL (lsS (run ev n) i (cL (run ev n)) : Int)) from (m_signedBy hf i10 (by decide) D.r H).trans (by rw [gS_40 T H, ← lsS_g]), mAn]
      · refine QQ_r (.inl (zL (sm (fun l => gS (run ev n) 1 l (tbS (run ev n) l i (ng (run ev n) l))) (cL (run ev n))))) 0 C ho_l ?_ fun x m e D h0 => ?_
        · simp (disch := omega) only [D_X6_insurer_0, D_X6_insurer_22, D_X6_isInsurer_0, wC, q1, q2, li0, li1, li2, li3, li4, li5, li6, li7, li8, li9, li10, li12, li24, li31, li40, li160, n_le, n_lt, n_eq, n_m1, n_add, mr4, mr6, mr7, mr10, mr40, mr160, ml4, ml6, ml7, ml10, ml40, ml160, gu_ib, nI_nat, bi_s, vl_e, gu_t, if_true, if_false, reduceIte, bt1_1, bt1_2, bt1_3, bt1_4, bt1_5, bt1_6, bt1_7, bt1_8, bt1_9, bt1_10, bt1_11, bt1_12, bt14_1, bt14_2, bt14_3, bt14_4, bt14_5, bt14_6, bt14_7, bt14_8, bt14_9, bt14_10, bt14_11, bt14_12, Nat.reduceLeDiff, Nat.reduceEqDiff, Nat.reduceLT, eq_self, Nat.le_refl, Nat.le_zero_eq, Nat.not_lt_zero, c_rt, tx_l, show D_X5_leftSignedBy_0 fu μ 4 (nI i) = some (zL (sm (fun l => gS (run ev n) 1 l (tbS (run ev n) l i (ng (run ev n) l))) (cL (run ev n)))) from (c_leftSigned hf i10 hA C.r H).trans (by rw [lft_g]), cAn]
        · simp (disch := omega) only [D_X7_insurer_0, D_X7_insurer_35, e, li0, li1, li2, li3, li4, li5, li6, li7, li8, li9, li10, li12, li24, li31, li40, li160, n_le, n_lt, n_eq, n_m1, n_add, mr4, mr6, mr7, mr10, mr40, mr160, ml4, ml6, ml7, ml10, ml40, ml160, gu_ib, nI_nat, bi_s, vl_e, gu_t, if_true, if_false, reduceIte, bt1_1, bt1_2, bt1_3, bt1_4, bt1_5, bt1_6, bt1_7, bt1_8, bt1_9, bt1_10, bt1_11, bt1_12, bt14_1, bt14_2, bt14_3, bt14_4, bt14_5, bt14_6, bt14_7, bt14_8, bt14_9, bt14_10, bt14_11, bt14_12, Nat.reduceLeDiff, Nat.reduceEqDiff, Nat.reduceLT, eq_self, Nat.le_refl, Nat.le_zero_eq, Nat.not_lt_zero, w1, w2, m_nt h0, show nI 4 - nI 3 = nI 1 from rfl, show D_X7_signedBy_0 fu m (nI i) (nI 1) = some (zL (sm (fun l => gS (run ev n) 1 l (tbS (run ev n) l i (ng (run ev n) l))) (cL (run ev n)))) from (m_signedBy hf i10 (by decide) D.r H).trans (by rw [gS_40 T H]), mAn]
theorem iaS_le (s : Sp) (i : Nat) : ∀ c, iaS s i c ≤ c
  | 0 => Nat.le_refl _
  | c + 1 => by
    have := iaS_le s i c
    show iaS s i c + _ ≤ _
    split <;> omega
theorem m_rank38 {a i : Nat} {k27 : Int32 → Int32 → Mem → Option (Int32 × Mem)} (hf : 200 < fu) (ha : a < 10) (hi : i < 10) (R : RM m s) (H : Iv N s) : D_X7_rank_38 fu k27 fu (nI a) (nI i) 0 0 m = if iaS s i 10 = a then some (nI i, m) else k27 (nI a) (nI (i + 1)) m := by
  refine eq_for (fun n o => D_X7_rank_38 fu k27 n (nI a) (nI i) (nI (iaS s i o)) (nI o) m) 10 _ ?_ ?_ fu 0 (by omega) (by omega)
  · intro n o ho
    have l1 := iaS_le s i o
    show D_X7_rank_38 fu k27 (n + 1) (nI a) (nI i) (nI (iaS s i o)) (nI o) m = D_X7_rank_38 fu k27 n (nI a) (nI i) (nI (iaS s i o + if zL (bA s i) < zL (bA s o) ∨ zL (bA s o) = zL (bA s i) ∧ o < i then 1 else 0)) (nI (o + 1)) m
    rw [D_X7_rank_38]
    simp (disch := omega) only [D_X7_rank_82, D_X7_rank_86, D_X7_rank_87, li0, li1, li2, li3, li4, li5, li6, li7, li8, li9, li10, li12, li24, li31, li40, li160, n_le, n_lt, n_eq, n_m1, n_add, mr4, mr6, mr7, mr10, mr40, mr160, ml4, ml6, ml7, ml10, ml40, ml160, gu_ib, nI_nat, bi_s, vl_e, gu_t, if_true, if_false, reduceIte, bt1_1, bt1_2, bt1_3, bt1_4, bt1_5, bt1_6, bt1_7, bt1_8, bt1_9, bt1_10, bt1_11, bt1_12, bt14_1, bt14_2, bt14_3, bt14_4, bt14_5, bt14_6, bt14_7, bt14_8, bt14_9, bt14_10, bt14_11, bt14_12, m_bearsAll hf ho R H, m_bearsAll hf hi R H]
    rw [if_neg (by omega)]
    by_cases c1 : zL (bA s i) < zL (bA s o)
    · rw [if_pos c1, if_pos (Or.inl c1)]
    · rw [if_neg c1]
      by_cases c2 : zL (bA s o) = zL (bA s i)
      · rw [if_pos c2]
        by_cases c3 : i ≤ o
        · rw [if_pos c3, if_neg (by rintro (z | z); exact c1 z; omega)]
        · rw [if_neg c3, if_pos (Or.inr ⟨c2, by omega⟩)]
      · rw [if_neg c2, if_neg (by rintro (z | z); exact c1 z; exact c2 z.1)]
  · intro n
    have l1 := iaS_le s i 10
    show D_X7_rank_38 fu k27 (n + 1) (nI a) (nI i) (nI (iaS s i 10)) (nI 10) m = _
    rw [D_X7_rank_38]
    simp (disch := omega) only [li0, li1, li2, li3, li4, li5, li6, li7, li8, li9, li10, li12, li24, li31, li40, li160, n_le, n_lt, n_eq, n_m1, n_add, mr4, mr6, mr7, mr10, mr40, mr160, ml4, ml6, ml7, ml10, ml40, ml160, gu_ib, nI_nat, bi_s, vl_e, gu_t, if_true, if_false, reduceIte, bt1_1, bt1_2, bt1_3, bt1_4, bt1_5, bt1_6, bt1_7, bt1_8, bt1_9, bt1_10, bt1_11, bt1_12, bt14_1, bt14_2, bt14_3, bt14_4, bt14_5, bt14_6, bt14_7, bt14_8, bt14_9, bt14_10, bt14_11, bt14_12]
    rw [if_pos (by omega)]
theorem q_rank (hf : 200 < fu) (G : EG ev n) (C : CI ev n μ) (a1 : Int32) : QQ ev n (kd 0 1 0) μ (D_X6_rank_0 fu a1 μ) (D_X7_rank_0 fu a1) := by
  have H := run_Iv G
  cases q1 : inC a1 (nI 0) (nI 9) with
  | false =>
    have w1 := fun m => mWq q1 (L := 0) (H := 9) rfl rfl m
    refine QQ_r (.inr 1) 0 C (ho_r (by decide)) ?_ fun x m e D h0 => ?_
    · simp only [D_X6_rank_0, D_X6_isInsurer_0, wC, q1, li0, li1, li2, li3, li4, li5, li6, li7, li8, li9, li10, li12, li24, li31, li40, li160, n_le, n_lt, n_eq, n_m1, n_add, mr4, mr6, mr7, mr10, mr40, mr160, ml4, ml6, ml7, ml10, ml40, ml160, gu_ib, nI_nat, bi_s, vl_e, gu_t, if_true, if_false, reduceIte, bt1_1, bt1_2, bt1_3, bt1_4, bt1_5, bt1_6, bt1_7, bt1_8, bt1_9, bt1_10, bt1_11, bt1_12, bt14_1, bt14_2, bt14_3, bt14_4, bt14_5, bt14_6, bt14_7, bt14_8, bt14_9, bt14_10, bt14_11, bt14_12, Nat.reduceLeDiff, Nat.reduceEqDiff, Nat.reduceLT, eq_self, Nat.le_refl, Nat.le_zero_eq, Nat.not_lt_zero, b2_f, c_rf, tx_r, cAn]
    · have nf := m_nf (k := 1) (j := 1) h0 (by decide) (by decide) (by decide)
      simp only [D_X7_rank_0, e, li0, li1, li2, li3, li4, li5, li6, li7, li8, li9, li10, li12, li24, li31, li40, li160, n_le, n_lt, n_eq, n_m1, n_add, mr4, mr6, mr7, mr10, mr40, mr160, ml4, ml6, ml7, ml10, ml40, ml160, gu_ib, nI_nat, bi_s, vl_e, gu_t, if_true, if_false, reduceIte, bt1_1, bt1_2, bt1_3, bt1_4, bt1_5, bt1_6, bt1_7, bt1_8, bt1_9, bt1_10, bt1_11, bt1_12, bt14_1, bt14_2, bt14_3, bt14_4, bt14_5, bt14_6, bt14_7, bt14_8, bt14_9, bt14_10, bt14_11, bt14_12, Nat.reduceLeDiff, Nat.reduceEqDiff, Nat.reduceLT, eq_self, Nat.le_refl, Nat.le_zero_eq, Nat.not_lt_zero, w1, b2_f, nf, Bool.false_eq_true, mAn, kd]
  | true =>
    have w1 := fun m => mWq q1 (L := 0) (H := 9) rfl rfl m
    obtain ⟨a, rfl, al, ha⟩ := inC_n (by decide) (by decide) q1
    have cl : D_X6_rank_0 fu (nI a) μ = D_X6_rank_12 fu fu (nI a) (-1) 0 μ := by
      simp only [D_X6_rank_0, D_X6_isInsurer_0, wC, q1, li0, li9, bi_s, b2_t, c_rt, tx_l]
    have ml : ∀ x m, wI x 85 0 (nI 0) = m → m.1 85 0 = nI 0 → D_X7_rank_0 fu (nI a) x = D_X7_rank_27 fu fu (nI a) 0 m := fun x m e h0 => by
      simp only [D_X7_rank_0, e, w1, li0, li1, bi_s, vl_e, b2_t, m_nt h0, reduceIte]
    have ah := fun i (hi : i < 10) => (show D_X1_insurersAhead_0 fu μ 17 (nI i) = some (nI (iaS (run ev n) i 10)) from c_ahead hf hi C.r H)
    have ml27 : ∀ (m : Mem) (D : MI ev n m) (k i : Nat), i < 10 → D_X7_rank_27 fu (k + 1) (nI a) (nI i) m = if iaS (run ev n) i 10 = a then some (nI i, m) else D_X7_rank_27 fu k (nI a) (nI (i + 1)) m := fun m D k i hi => by
      rw [D_X7_rank_27]
      simp (disch := omega) only [li0, li1, li2, li3, li4, li5, li6, li7, li8, li9, li10, li12, li24, li31, li40, li160, n_le, n_lt, n_eq, n_m1, n_add, mr4, mr6, mr7, mr10, mr40, mr160, ml4, ml6, ml7, ml10, ml40, ml160, gu_ib, nI_nat, bi_s, vl_e, gu_t, if_true, if_false, reduceIte, bt1_1, bt1_2, bt1_3, bt1_4, bt1_5, bt1_6, bt1_7, bt1_8, bt1_9, bt1_10, bt1_11, bt1_12, bt14_1, bt14_2, bt14_3, bt14_4, bt14_5, bt14_6, bt14_7, bt14_8, bt14_9, bt14_10, bt14_11, bt14_12]
      rw [if_neg (by omega)]
      exact m_rank38 hf (by omega) hi D.r H
    by_cases ex : ∃ i, i < 10 ∧ iaS (run ev n) i 10 = a
    · obtain ⟨i0, ⟨h10, hi0⟩, mn⟩ := least ex
      refine QQ_r (.inl (nI i0)) 0 C ho_l ?_ fun x m e D h0 => ?_
      · rw [cl]
        have K := eq_for (fun n i => D_X6_rank_12 fu n (nI a) (if i ≤ i0 then -1 else nI i0) (nI i) μ) (i0 + 1) (some (cAn μ (.inl (nI i0)))) ?_ ?_ fu 0 (by omega) (by omega)
        · exact K
        · intro k i hi
          have l1 := iaS_le (run ev n) i 10
          show D_X6_rank_12 fu (k + 1) (nI a) (if i ≤ i0 then -1 else nI i0) (nI i) μ = D_X6_rank_12 fu k (nI a) (if i + 1 ≤ i0 then -1 else nI i0) (nI (i + 1)) μ
          rw [if_pos (by omega), D_X6_rank_12]
          simp (disch := omega) only [D_X6_rank_40, li0, li1, li2, li3, li4, li5, li6, li7, li8, li9, li10, li12, li24, li31, li40, li160, n_le, n_lt, n_eq, n_m1, n_add, mr4, mr6, mr7, mr10, mr40, mr160, ml4, ml6, ml7, ml10, ml40, ml160, gu_ib, nI_nat, bi_s, vl_e, gu_t, if_true, if_false, reduceIte, bt1_1, bt1_2, bt1_3, bt1_4, bt1_5, bt1_6, bt1_7, bt1_8, bt1_9, bt1_10, bt1_11, bt1_12, bt14_1, bt14_2, bt14_3, bt14_4, bt14_5, bt14_6, bt14_7, bt14_8, bt14_9, bt14_10, bt14_11, bt14_12, ah i (by omega)]
          rw [if_neg (by omega)]
          by_cases c : i = i0
          · rw [if_pos (by rw [c]; exact hi0), if_neg (by omega), c]
          · rw [if_neg (fun z => mn i (by omega) ⟨by omega, z⟩), if_pos (by omega)]
        · intro k
          show D_X6_rank_12 fu (k + 1) (nI a) (if i0 + 1 ≤ i0 then -1 else nI i0) (nI (i0 + 1)) μ = _
          rw [if_neg (by omega), D_X6_rank_12, if_neg (fun z : nI i0 = -1 => by rwa [n_m1 (show i0 < 2147483648 by omega)] at z)]
          split <;> rfl
      · rw [ml x m e h0]
        refine eq_for (fun n i => D_X7_rank_27 fu n (nI a) (nI i) m) i0 _ ?_ ?_ fu 0 (by omega) (by omega)
        · intro k i hi
          show D_X7_rank_27 fu (k + 1) (nI a) (nI i) m = D_X7_rank_27 fu k (nI a) (nI (i + 1)) m
          rw [ml27 m D k i (by omega), if_neg (fun z => mn i hi ⟨by omega, z⟩)]
        · intro k
          show D_X7_rank_27 fu (k + 1) (nI a) (nI i0) m = _
          rw [ml27 m D k i0 h10, if_pos hi0]; rfl
    · refine QQ_r (.inl (-1)) 0 C ho_l ?_ fun x m e D h0 => ?_
      · rw [cl]
        refine eq_for (fun n i => D_X6_rank_12 fu n (nI a) (-1) (nI i) μ) 10 _ ?_ ?_ fu 0 (by omega) (by omega)
        · intro k i hi
          have l1 := iaS_le (run ev n) i 10
          show D_X6_rank_12 fu (k + 1) (nI a) (-1) (nI i) μ = D_X6_rank_12 fu k (nI a) (-1) (nI (i + 1)) μ
          rw [D_X6_rank_12]
          simp (disch := omega) only [D_X6_rank_40, li0, li1, li2, li3, li4, li5, li6, li7, li8, li9, li10, li12, li24, li31, li40, li160, n_le, n_lt, n_eq, n_m1, n_add, mr4, mr6, mr7, mr10, mr40, mr160, ml4, ml6, ml7, ml10, ml40, ml160, gu_ib, nI_nat, bi_s, vl_e, gu_t, if_true, if_false, reduceIte, bt1_1, bt1_2, bt1_3, bt1_4, bt1_5, bt1_6, bt1_7, bt1_8, bt1_9, bt1_10, bt1_11, bt1_12, bt14_1, bt14_2, bt14_3, bt14_4, bt14_5, bt14_6, bt14_7, bt14_8, bt14_9, bt14_10, bt14_11, bt14_12, ah i hi]
          rw [if_neg (by omega), if_neg (fun z => ex ⟨i, hi, z⟩)]
        · intro k
          show D_X6_rank_12 fu (k + 1) (nI a) (-1) (nI 10) μ = _
          rw [D_X6_rank_12, if_pos (by decide)]; rfl
      · rw [ml x m e h0]
        refine eq_for (fun n i => D_X7_rank_27 fu n (nI a) (nI i) m) 10 _ ?_ ?_ fu 0 (by omega) (by omega)
        · intro k i hi
          show D_X7_rank_27 fu (k + 1) (nI a) (nI i) m = D_X7_rank_27 fu k (nI a) (nI (i + 1)) m
          rw [ml27 m D k i hi, if_neg (fun z => ex ⟨i, hi, z⟩)]
        · intro k
          show D_X7_rank_27 fu (k + 1) (nI a) (nI 10) m = _
          rw [D_X7_rank_27, if_pos (by decide)]; rfl
end
