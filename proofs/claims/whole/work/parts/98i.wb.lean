/-! calls that write: grow, reopen, place, sign, harm -/
section
variable {fu n N M : Nat} {ev : Nat → Ev} {μ m : Mem} {s t : Sp}
theorem isH_go {e : Ev} {h : Nat} (E : EvOK e) (h1 : isH (run ev n) h = 1) : isH (run (upE ev n e) (n + 1)) h = 1 := by
  rw [up_run1]
  by_cases C : can (run ev n) e
  · rw [go_y C, doe_isH E]
    split
    · rfl
    · exact h1
  · rw [go_n C]; exact h1
theorem isL_go {e : Ev} {l : Nat} (E : EvOK e) (h1 : isL (run ev n) l = 1) : isL (run (upE ev n e) (n + 1)) l = 1 := by
  rw [up_run1]
  by_cases C : can (run ev n) e
  · rw [go_y C, doe_isL E]
    split
    · rfl
    · exact h1
  · rw [go_n C]; exact h1
theorem w_grow (hf : 200 < fu) (G : EG ev n) (V : LV ev n) (C : CI ev n μ) (a1 a2 : Int32) : WW ev n (kd 1 2 3) μ (D_X6_grow_0 fu a1 a2 μ) (D_X7_grow_0 fu a1 a2) := by
  have H := run_Iv G
  have T := (run_CT G V n (Nat.le_refl _)).1
  have t24 := T.2.2.2
  have n160 := G.1
  cases q1 : iB a1 (cH (run ev n)) with
  | false =>
    refine WW_q G V (QQ_r (.inr 0) 0 C (ho_r (by decide)) ?_ fun x m e D h0 => ?_)
    · simp only [D_X6_grow_0, c_isH C.r, q1, li0, li1, li2, li3, li4, li5, li6, li7, li8, li9, li10, li12, li24, li31, li40, li160, n_le, n_lt, n_eq, n_m1, n_add, mr4, mr6, mr7, mr10, mr40, mr160, ml4, ml6, ml7, ml10, ml40, ml160, gu_ib, nI_nat, bi_s, vl_e, gu_t, if_true, if_false, reduceIte, bt1_1, bt1_2, bt1_3, bt1_4, bt1_5, bt1_6, bt1_7, bt1_8, bt1_9, bt1_10, bt1_11, bt1_12, bt14_1, bt14_2, bt14_3, bt14_4, bt14_5, bt14_6, bt14_7, bt14_8, bt14_9, bt14_10, bt14_11, bt14_12, Nat.reduceLeDiff, Nat.reduceEqDiff, Nat.reduceLT, eq_self, Nat.le_refl, Nat.le_zero_eq, Nat.not_lt_zero, b2_f, c_tf, tx_r, cAn]
    · have dd := m_isH D.r T H h0 a1
      simp only [D_X7_grow_0, e, li0, li1, li2, li3, li4, li5, li6, li7, li8, li9, li10, li12, li24, li31, li40, li160, n_le, n_lt, n_eq, n_m1, n_add, mr4, mr6, mr7, mr10, mr40, mr160, ml4, ml6, ml7, ml10, ml40, ml160, gu_ib, nI_nat, bi_s, vl_e, gu_t, if_true, if_false, reduceIte, bt1_1, bt1_2, bt1_3, bt1_4, bt1_5, bt1_6, bt1_7, bt1_8, bt1_9, bt1_10, bt1_11, bt1_12, bt14_1, bt14_2, bt14_3, bt14_4, bt14_5, bt14_6, bt14_7, bt14_8, bt14_9, bt14_10, bt14_11, bt14_12, Nat.reduceLeDiff, Nat.reduceEqDiff, Nat.reduceLT, eq_self, Nat.le_refl, Nat.le_zero_eq, Nat.not_lt_zero, dd, q1, Bool.false_eq_true, mAn, kd]
  | true =>
    cases q2 : inC a2 (nI 1) (nI 1000000000) with
    | false =>
      have w2 := fun m => mWq q2 (L := 1) (H := 1000000000) rfl rfl m
      refine WW_q G V (QQ_r (.inr 1) 0 C (ho_r (by decide)) ?_ fun x m e D h0 => ?_)
      · simp only [D_X6_grow_0, D_X6_isAmount_0, wC, li1e9, c_isH C.r, q1, q2, li0, li1, li2, li3, li4, li5, li6, li7, li8, li9, li10, li12, li24, li31, li40, li160, n_le, n_lt, n_eq, n_m1, n_add, mr4, mr6, mr7, mr10, mr40, mr160, ml4, ml6, ml7, ml10, ml40, ml160, gu_ib, nI_nat, bi_s, vl_e, gu_t, if_true, if_false, reduceIte, bt1_1, bt1_2, bt1_3, bt1_4, bt1_5, bt1_6, bt1_7, bt1_8, bt1_9, bt1_10, bt1_11, bt1_12, bt14_1, bt14_2, bt14_3, bt14_4, bt14_5, bt14_6, bt14_7, bt14_8, bt14_9, bt14_10, bt14_11, bt14_12, Nat.reduceLeDiff, Nat.reduceEqDiff, Nat.reduceLT, eq_self, Nat.le_refl, Nat.le_zero_eq, Nat.not_lt_zero, b2_t, c_tt, tx_l, b2_f, c_rf, tx_r, cAn]
      · have dd := m_isH D.r T H h0 a1
        have nf := m_nf (k := 2) (j := 1) h0 (by decide) (by decide) (by decide)
        simp only [D_X7_grow_0, D_X7_isLoss_0, e, li0, li1, li2, li3, li4, li5, li6, li7, li8, li9, li10, li12, li24, li31, li40, li160, n_le, n_lt, n_eq, n_m1, n_add, mr4, mr6, mr7, mr10, mr40, mr160, ml4, ml6, ml7, ml10, ml40, ml160, gu_ib, nI_nat, bi_s, vl_e, gu_t, if_true, if_false, reduceIte, bt1_1, bt1_2, bt1_3, bt1_4, bt1_5, bt1_6, bt1_7, bt1_8, bt1_9, bt1_10, bt1_11, bt1_12, bt14_1, bt14_2, bt14_3, bt14_4, bt14_5, bt14_6, bt14_7, bt14_8, bt14_9, bt14_10, bt14_11, bt14_12, Nat.reduceLeDiff, Nat.reduceEqDiff, Nat.reduceLT, eq_self, Nat.le_refl, Nat.le_zero_eq, Nat.not_lt_zero, dd, q1, w2, b2_f, nf, Bool.false_eq_true, mAn, kd]
    | true =>
      have w2 := fun m => mWq q2 (L := 1) (H := 1000000000) rfl rfl m
      obtain ⟨h, rfl, hh⟩ := iB_n (by omega) q1
      obtain ⟨v, rfl, vl', hv⟩ := inC_n (by decide) (by decide) q2
      have h1 : isH (run ev n) h = 1 := (T.2.1 h (by omega)).mpr hh
      have E := ev_5 (show h < 24 by omega) vl' hv
      have Q : Num (run ev n) (mkE 5 h v 0 0 0) := Num_o (by decide) (by decide)
      have can' : can (run ev n) (mkE 5 h v 0 0 0) := (can_5 (Or.inl rfl)).mpr h1
      have b0 : D_X1_borneOf_0 μ 17 (nI h) (nI 0) = some (zL (bO (run ev n) h 0)) := c_borneOf (by omega) h1 (by decide) C.r
      by_cases ok : n < 160
      · obtain ⟨x, z, ew, en, C', F'⟩ := c_doY hf G V C ok E Q can'
        have ew' : D_X2_write_0 (nI 5) (nI h) (nI v) (nI 0) (nI 0) (nI 0) μ = some x := ew
        have b1 : D_X1_borneOf_0 z 17 (nI h) (nI 0) = some (zL (bO (run (upE ev n (mkE 5 h v 0 0 0)) (n + 1)) h 0)) := c_borneOf (by omega) (isH_go E h1) (by decide) C'.r
        refine WW_s z (zL (bO (run (upE ev n (mkE 5 h v 0 0 0)) (n + 1)) h 0) - zL (bO (run ev n) h 0)) (up_EG G V ok E Q) (up_LV V can' Q) ?_ C' F' fun x m e D h0 => ?_
        · simp only [D_X6_grow_0, D_X6_isAmount_0, wC, li1e9, c_isH C.r, q1, q2, li0, li1, li2, li3, li4, li5, li6, li7, li8, li9, li10, li12, li24, li31, li40, li160, n_le, n_lt, n_eq, n_m1, n_add, mr4, mr6, mr7, mr10, mr40, mr160, ml4, ml6, ml7, ml10, ml40, ml160, gu_ib, nI_nat, bi_s, vl_e, gu_t, if_true, if_false, reduceIte, bt1_1, bt1_2, bt1_3, bt1_4, bt1_5, bt1_6, bt1_7, bt1_8, bt1_9, bt1_10, bt1_11, bt1_12, bt14_1, bt14_2, bt14_3, bt14_4, bt14_5, bt14_6, bt14_7, bt14_8, bt14_9, bt14_10, bt14_11, bt14_12, Nat.reduceLeDiff, Nat.reduceEqDiff, Nat.reduceLT, eq_self, Nat.le_refl, Nat.le_zero_eq, Nat.not_lt_zero, b2_t, c_tt, tx_l, c_rt, b0, ew', en, b1]
        · have dd := m_isH D.r T H h0 (nI h)
          obtain ⟨x2, y2, e1, e2, p⟩ := m_doP hf G V D h0 ok E (by decide) (by decide) can'
          refine ⟨y2, ?_, p⟩
          simp only [D_X7_grow_0, D_X7_isLoss_0, e, li0, li1, li2, li3, li4, li5, li6, li7, li8, li9, li10, li12, li24, li31, li40, li160, n_le, n_lt, n_eq, n_m1, n_add, mr4, mr6, mr7, mr10, mr40, mr160, ml4, ml6, ml7, ml10, ml40, ml160, gu_ib, nI_nat, bi_s, vl_e, gu_t, if_true, if_false, reduceIte, bt1_1, bt1_2, bt1_3, bt1_4, bt1_5, bt1_6, bt1_7, bt1_8, bt1_9, bt1_10, bt1_11, bt1_12, bt14_1, bt14_2, bt14_3, bt14_4, bt14_5, bt14_6, bt14_7, bt14_8, bt14_9, bt14_10, bt14_11, bt14_12, Nat.reduceLeDiff, Nat.reduceEqDiff, Nat.reduceLT, eq_self, Nat.le_refl, Nat.le_zero_eq, Nat.not_lt_zero, dd, q1, w2, b2_t, m_nt h0, m_room D ok h0, m_insured hf (show h < 25 by omega) D.r, e1, e2, m_insured hf (show h < 25 by omega) p.1.r]
      · obtain ⟨x, z, ew, en, C', F'⟩ := c_doN hf G V C E Q (fun z => ok z.1)
        have ew' : D_X2_write_0 (nI 5) (nI h) (nI v) (nI 0) (nI 0) (nI 0) μ = some x := ew
        refine WW_q G V (QQ_n z 0 (by decide) ?_ C' F' fun x m e D h0 => ?_)
        · simp only [D_X6_grow_0, D_X6_isAmount_0, wC, li1e9, c_isH C.r, q1, q2, li0, li1, li2, li3, li4, li5, li6, li7, li8, li9, li10, li12, li24, li31, li40, li160, n_le, n_lt, n_eq, n_m1, n_add, mr4, mr6, mr7, mr10, mr40, mr160, ml4, ml6, ml7, ml10, ml40, ml160, gu_ib, nI_nat, bi_s, vl_e, gu_t, if_true, if_false, reduceIte, bt1_1, bt1_2, bt1_3, bt1_4, bt1_5, bt1_6, bt1_7, bt1_8, bt1_9, bt1_10, bt1_11, bt1_12, bt14_1, bt14_2, bt14_3, bt14_4, bt14_5, bt14_6, bt14_7, bt14_8, bt14_9, bt14_10, bt14_11, bt14_12, Nat.reduceLeDiff, Nat.reduceEqDiff, Nat.reduceLT, eq_self, Nat.le_refl, Nat.le_zero_eq, Nat.not_lt_zero, b2_t, c_tt, tx_l, c_rt, b0, ew', en, tx_r]
        · have dd := m_isH D.r T H h0 (nI h)
          have rf := m_roomF (k := 3) D (show n = 160 by omega) h0 (by decide) (by decide)
          simp only [D_X7_grow_0, D_X7_isLoss_0, e, li0, li1, li2, li3, li4, li5, li6, li7, li8, li9, li10, li12, li24, li31, li40, li160, n_le, n_lt, n_eq, n_m1, n_add, mr4, mr6, mr7, mr10, mr40, mr160, ml4, ml6, ml7, ml10, ml40, ml160, gu_ib, nI_nat, bi_s, vl_e, gu_t, if_true, if_false, reduceIte, bt1_1, bt1_2, bt1_3, bt1_4, bt1_5, bt1_6, bt1_7, bt1_8, bt1_9, bt1_10, bt1_11, bt1_12, bt14_1, bt14_2, bt14_3, bt14_4, bt14_5, bt14_6, bt14_7, bt14_8, bt14_9, bt14_10, bt14_11, bt14_12, Nat.reduceLeDiff, Nat.reduceEqDiff, Nat.reduceLT, eq_self, Nat.le_refl, Nat.le_zero_eq, Nat.not_lt_zero, dd, q1, w2, b2_t, m_nt h0, Bool.false_eq_true, rf, kd]
theorem w_reopen (hf : 200 < fu) (G : EG ev n) (V : LV ev n) (C : CI ev n μ) (a1 : Int32) : WW ev n (kd 1 0 2) μ (D_X6_reopen_0 fu a1 μ) (D_X7_reopen_0 fu a1) := by
  have H := run_Iv G
  have T := (run_CT G V n (Nat.le_refl _)).1
  have t24 := T.2.2.2
  have n160 := G.1
  cases q1 : iB a1 (cH (run ev n)) with
  | false =>
    refine WW_q G V (QQ_r (.inr 0) 0 C (ho_r (by decide)) ?_ fun x m e D h0 => ?_)
    · simp only [D_X6_reopen_0, c_isH C.r, q1, li0, li1, li2, li3, li4, li5, li6, li7, li8, li9, li10, li12, li24, li31, li40, li160, n_le, n_lt, n_eq, n_m1, n_add, mr4, mr6, mr7, mr10, mr40, mr160, ml4, ml6, ml7, ml10, ml40, ml160, gu_ib, nI_nat, bi_s, vl_e, gu_t, if_true, if_false, reduceIte, bt1_1, bt1_2, bt1_3, bt1_4, bt1_5, bt1_6, bt1_7, bt1_8, bt1_9, bt1_10, bt1_11, bt1_12, bt14_1, bt14_2, bt14_3, bt14_4, bt14_5, bt14_6, bt14_7, bt14_8, bt14_9, bt14_10, bt14_11, bt14_12, Nat.reduceLeDiff, Nat.reduceEqDiff, Nat.reduceLT, eq_self, Nat.le_refl, Nat.le_zero_eq, Nat.not_lt_zero, b2_f, c_tf, tx_r, cAn]
    · have dd := m_isH D.r T H h0 a1
      simp only [D_X7_reopen_0, e, li0, li1, li2, li3, li4, li5, li6, li7, li8, li9, li10, li12, li24, li31, li40, li160, n_le, n_lt, n_eq, n_m1, n_add, mr4, mr6, mr7, mr10, mr40, mr160, ml4, ml6, ml7, ml10, ml40, ml160, gu_ib, nI_nat, bi_s, vl_e, gu_t, if_true, if_false, reduceIte, bt1_1, bt1_2, bt1_3, bt1_4, bt1_5, bt1_6, bt1_7, bt1_8, bt1_9, bt1_10, bt1_11, bt1_12, bt14_1, bt14_2, bt14_3, bt14_4, bt14_5, bt14_6, bt14_7, bt14_8, bt14_9, bt14_10, bt14_11, bt14_12, Nat.reduceLeDiff, Nat.reduceEqDiff, Nat.reduceLT, eq_self, Nat.le_refl, Nat.le_zero_eq, Nat.not_lt_zero, dd, q1, Bool.false_eq_true, mAn, kd]
  | true =>
    obtain ⟨h, rfl, hh⟩ := iB_n (by omega) q1
    have h1 : isH (run ev n) h = 1 := (T.2.1 h (by omega)).mpr hh
    have E := ev_8 (show h < 24 by omega)
    have Q : Num (run ev n) (mkE 8 h 0 0 0 0) := Num_o (by decide) (by decide)
    have can' : can (run ev n) (mkE 8 h 0 0 0 0) := (can_5 (Or.inr rfl)).mpr h1
    have b0 : D_X1_borneOf_0 μ 17 (nI h) (nI 0) = some (zL (bO (run ev n) h 0)) := c_borneOf (by omega) h1 (by decide) C.r
    by_cases ok : n < 160
    · obtain ⟨x, z, ew, en, C', F'⟩ := c_doY hf G V C ok E Q can'
      have ew' : D_X2_write_0 (nI 8) (nI h) (nI 0) (nI 0) (nI 0) (nI 0) μ = some x := ew
      have b1 : D_X1_borneOf_0 z 17 (nI h) (nI 0) = some (zL (bO (run (upE ev n (mkE 8 h 0 0 0 0)) (n + 1)) h 0)) := c_borneOf (by omega) (isH_go E h1) (by decide) C'.r
      refine WW_s z (zL (bO (run (upE ev n (mkE 8 h 0 0 0 0)) (n + 1)) h 0) - zL (bO (run ev n) h 0)) (up_EG G V ok E Q) (up_LV V can' Q) ?_ C' F' fun x m e D h0 => ?_
      · simp only [D_X6_reopen_0, c_isH C.r, q1, li0, li1, li2, li3, li4, li5, li6, li7, li8, li9, li10, li12, li24, li31, li40, li160, n_le, n_lt, n_eq, n_m1, n_add, mr4, mr6, mr7, mr10, mr40, mr160, ml4, ml6, ml7, ml10, ml40, ml160, gu_ib, nI_nat, bi_s, vl_e, gu_t, if_true, if_false, reduceIte, bt1_1, bt1_2, bt1_3, bt1_4, bt1_5, bt1_6, bt1_7, bt1_8, bt1_9, bt1_10, bt1_11, bt1_12, bt14_1, bt14_2, bt14_3, bt14_4, bt14_5, bt14_6, bt14_7, bt14_8, bt14_9, bt14_10, bt14_11, bt14_12, Nat.reduceLeDiff, Nat.reduceEqDiff, Nat.reduceLT, eq_self, Nat.le_refl, Nat.le_zero_eq, Nat.not_lt_zero, b2_t, c_tt, tx_l, b0, ew', en, b1]
      · have dd := m_isH D.r T H h0 (nI h)
        obtain ⟨x2, y2, e1, e2, p⟩ := m_doP hf G V D h0 ok E (by decide) (by decide) can'
        refine ⟨y2, ?_, p⟩
        simp only [D_X7_reopen_0, e, li0, li1, li2, li3, li4, li5, li6, li7, li8, li9, li10, li12, li24, li31, li40, li160, n_le, n_lt, n_eq, n_m1, n_add, mr4, mr6, mr7, mr10, mr40, mr160, ml4, ml6, ml7, ml10, ml40, ml160, gu_ib, nI_nat, bi_s, vl_e, gu_t, if_true, if_false, reduceIte, bt1_1, bt1_2, bt1_3, bt1_4, bt1_5, bt1_6, bt1_7, bt1_8, bt1_9, bt1_10, bt1_11, bt1_12, bt14_1, bt14_2, bt14_3, bt14_4, bt14_5, bt14_6, bt14_7, bt14_8, bt14_9, bt14_10, bt14_11, bt14_12, Nat.reduceLeDiff, Nat.reduceEqDiff, Nat.reduceLT, eq_self, Nat.le_refl, Nat.le_zero_eq, Nat.not_lt_zero, dd, q1, m_room D ok h0, m_insured hf (show h < 25 by omega) D.r, e1, e2, m_insured hf (show h < 25 by omega) p.1.r]
    · obtain ⟨x, z, ew, en, C', F'⟩ := c_doN hf G V C E Q (fun z => ok z.1)
      have ew' : D_X2_write_0 (nI 8) (nI h) (nI 0) (nI 0) (nI 0) (nI 0) μ = some x := ew
      refine WW_q G V (QQ_n z 0 (by decide) ?_ C' F' fun x m e D h0 => ?_)
      · simp only [D_X6_reopen_0, c_isH C.r, q1, li0, li1, li2, li3, li4, li5, li6, li7, li8, li9, li10, li12, li24, li31, li40, li160, n_le, n_lt, n_eq, n_m1, n_add, mr4, mr6, mr7, mr10, mr40, mr160, ml4, ml6, ml7, ml10, ml40, ml160, gu_ib, nI_nat, bi_s, vl_e, gu_t, if_true, if_false, reduceIte, bt1_1, bt1_2, bt1_3, bt1_4, bt1_5, bt1_6, bt1_7, bt1_8, bt1_9, bt1_10, bt1_11, bt1_12, bt14_1, bt14_2, bt14_3, bt14_4, bt14_5, bt14_6, bt14_7, bt14_8, bt14_9, bt14_10, bt14_11, bt14_12, Nat.reduceLeDiff, Nat.reduceEqDiff, Nat.reduceLT, eq_self, Nat.le_refl, Nat.le_zero_eq, Nat.not_lt_zero, b2_t, c_tt, tx_l, b0, ew', en, tx_r]
      · have dd := m_isH D.r T H h0 (nI h)
        have rf := m_roomF (k := 2) D (show n = 160 by omega) h0 (by decide) (by decide)
        simp only [D_X7_reopen_0, e, li0, li1, li2, li3, li4, li5, li6, li7, li8, li9, li10, li12, li24, li31, li40, li160, n_le, n_lt, n_eq, n_m1, n_add, mr4, mr6, mr7, mr10, mr40, mr160, ml4, ml6, ml7, ml10, ml40, ml160, gu_ib, nI_nat, bi_s, vl_e, gu_t, if_true, if_false, reduceIte, bt1_1, bt1_2, bt1_3, bt1_4, bt1_5, bt1_6, bt1_7, bt1_8, bt1_9, bt1_10, bt1_11, bt1_12, bt14_1, bt14_2, bt14_3, bt14_4, bt14_5, bt14_6, bt14_7, bt14_8, bt14_9, bt14_10, bt14_11, bt14_12, Nat.reduceLeDiff, Nat.reduceEqDiff, Nat.reduceLT, eq_self, Nat.le_refl, Nat.le_zero_eq, Nat.not_lt_zero, dd, q1, Bool.false_eq_true, rf, kd]
/-! place -/
def aP (a b c d : Int32) : Bool := inC a 0 11 && (inC b 0 900000000 && (inC c 1 100000000 && inC d 1 4))
theorem c_aP (a b c d : Int32) : D_X6_place_0 fu a b c d μ = D_X6_place_43 fu a b c d (b2i (aP a b c d)) μ := by
  unfold D_X6_place_0 D_X6_place_42 D_X6_isYear_0 aP
  rw [wC, wC, wC, wC]
  cases inC a 0 11 <;> cases inC b 0 900000000 <;> cases inC c 1 100000000 <;> cases inC d 1 4 <;> rfl
theorem m_aP {x : Mem} (a b c d : Int32) (e : wI x 85 0 (nI 0) = m) : D_X7_place_0 fu a b c d x = D_X7_place_59 fu a b c d (b2i (aP a b c d)) m := by
  unfold D_X7_place_0 D_X7_place_58 aP
  rw [show wI x 85 0 0 = m from e, vl_e, show D_X7_within_0 m a.toInt64 0 11 = some (inC a 0 11) from mWi m a 0 11, show D_X7_within_0 m b.toInt64 0 900000000 = some (inC b 0 900000000) from mWi m b 0 900000000, show D_X7_within_0 m c.toInt64 1 100000000 = some (inC c 1 100000000) from mWi m c 1 100000000, show D_X7_within_0 m d.toInt64 1 4 = some (inC d 1 4) from mWi m d 1 4]
  cases inC a 0 11 <;> cases inC b 0 900000000 <;> cases inC c 1 100000000 <;> cases inC d 1 4 <;> rfl
theorem aP_n {a b c d : Int32} (h : aP a b c d = true) : ∃ i j k l, a = nI i ∧ b = nI j ∧ c = nI k ∧ d = nI l ∧ i < 12 ∧ j ≤ 900000000 ∧ 1 ≤ k ∧ k ≤ 100000000 ∧ 1 ≤ l ∧ l ≤ 4 := by
  unfold aP at h
  rw [Bool.and_eq_true, Bool.and_eq_true, Bool.and_eq_true] at h
  obtain ⟨i, e1, -, h1⟩ := inC_n (l := 0) (h := 11) (by decide) (by decide) h.1
  obtain ⟨j, e2, -, h2⟩ := inC_n (l := 0) (h := 900000000) (by decide) (by decide) h.2.1
  obtain ⟨k, e3, g3, h3⟩ := inC_n (l := 1) (h := 100000000) (by decide) (by decide) h.2.2.1
  obtain ⟨l, e4, g4, h4⟩ := inC_n (l := 1) (h := 4) (by decide) (by decide) h.2.2.2
  exact ⟨i, j, k, l, e1, e2, e3, e4, by omega, h2, g3, h3, g4, h4⟩
theorem w_place (hf : 200 < fu) (G : EG ev n) (V : LV ev n) (C : CI ev n μ) (a1 a2 a3 a4 : Int32) : WW ev n (kd 0 1 2) μ (D_X6_place_0 fu a1 a2 a3 a4 μ) (D_X7_place_0 fu a1 a2 a3 a4) := by
  have H := run_Iv G
  have TT := run_CT G V n (Nat.le_refl _)
  have T := TT.1
  have t40 := T.2.2.1
  have n160 := G.1
  rw [c_aP]
  cases q1 : aP a1 a2 a3 a4 with
  | false =>
    refine WW_q G V (QQ_r (.inr 1) 0 C (ho_r (by decide)) ?_ fun x m e D h0 => ?_)
    · simp only [D_X6_place_43, li0, li1, li2, li3, li4, li5, li6, li7, li8, li9, li10, li12, li24, li31, li40, li160, n_le, n_lt, n_eq, n_m1, n_add, mr4, mr6, mr7, mr10, mr40, mr160, ml4, ml6, ml7, ml10, ml40, ml160, gu_ib, nI_nat, bi_s, vl_e, gu_t, if_true, if_false, reduceIte, bt1_1, bt1_2, bt1_3, bt1_4, bt1_5, bt1_6, bt1_7, bt1_8, bt1_9, bt1_10, bt1_11, bt1_12, bt14_1, bt14_2, bt14_3, bt14_4, bt14_5, bt14_6, bt14_7, bt14_8, bt14_9, bt14_10, bt14_11, bt14_12, Nat.reduceLeDiff, Nat.reduceEqDiff, Nat.reduceLT, eq_self, Nat.le_refl, Nat.le_zero_eq, Nat.not_lt_zero, b2_f, c_rf, tx_r, cAn]
    · have nf := m_nf (k := 1) (j := 1) h0 (by decide) (by decide) (by decide)
      rw [m_aP a1 a2 a3 a4 e, q1]
      simp only [D_X7_place_59, li0, li1, li2, li3, li4, li5, li6, li7, li8, li9, li10, li12, li24, li31, li40, li160, n_le, n_lt, n_eq, n_m1, n_add, mr4, mr6, mr7, mr10, mr40, mr160, ml4, ml6, ml7, ml10, ml40, ml160, gu_ib, nI_nat, bi_s, vl_e, gu_t, if_true, if_false, reduceIte, bt1_1, bt1_2, bt1_3, bt1_4, bt1_5, bt1_6, bt1_7, bt1_8, bt1_9, bt1_10, bt1_11, bt1_12, bt14_1, bt14_2, bt14_3, bt14_4, bt14_5, bt14_6, bt14_7, bt14_8, bt14_9, bt14_10, bt14_11, bt14_12, Nat.reduceLeDiff, Nat.reduceEqDiff, Nat.reduceLT, eq_self, Nat.le_refl, Nat.le_zero_eq, Nat.not_lt_zero, b2_f, nf, Bool.false_eq_true, mAn, kd]
  | true =>
    obtain ⟨y, f, z, t, rfl, rfl, rfl, rfl, hy, hf9, z1, z2, t1, t2⟩ := aP_n q1
    have eo : ∀ {m : Mem}, MI ev n m → D_X7_eventsOf_0 fu m (nI 0) = some (nI (cL (run ev n))) := fun D => (m_eventsOf hf (by decide) G D).trans (by rw [TT.2.1])
    by_cases c40 : cL (run ev n) < 40
    · have E := ev_0 c40 hy hf9 z1 z2 t1 t2
      have Q : Num (run ev n) (mkE 0 (cL (run ev n)) y f z t) := ⟨fun _ => rfl, fun h => absurd (show (0 : Nat) = 4 from h) (by decide)⟩
      have cn : can (run ev n) (mkE 0 (cL (run ev n)) y f z t) ↔ lkb (run ev n) y = false ∧ hg (run ev n) y < 6 ∧ fre (run ev n) y f z := can_0 rfl
      by_cases ok : n < 160 ∧ can (run ev n) (mkE 0 (cL (run ev n)) y f z t)
      · obtain ⟨x, w, ew, en, C', F'⟩ := c_doY hf G V C ok.1 E Q ok.2
        have ew' : D_X2_write_0 (nI 0) (nI (cL (run ev n))) (nI y) (nI f) (nI z) (nI t) μ = some x := ew
        refine WW_s w (nI (cL (run ev n))) (up_EG G V ok.1 E Q) (up_LV V ok.2 Q) ?_ C' F' fun x m e D h0 => ?_
        · simp only [D_X6_place_43, li0, li1, li2, li3, li4, li5, li6, li7, li8, li9, li10, li12, li24, li31, li40, li160, n_le, n_lt, n_eq, n_m1, n_add, mr4, mr6, mr7, mr10, mr40, mr160, ml4, ml6, ml7, ml10, ml40, ml160, gu_ib, nI_nat, bi_s, vl_e, gu_t, if_true, if_false, reduceIte, bt1_1, bt1_2, bt1_3, bt1_4, bt1_5, bt1_6, bt1_7, bt1_8, bt1_9, bt1_10, bt1_11, bt1_12, bt14_1, bt14_2, bt14_3, bt14_4, bt14_5, bt14_6, bt14_7, bt14_8, bt14_9, bt14_10, bt14_11, bt14_12, Nat.reduceLeDiff, Nat.reduceEqDiff, Nat.reduceLT, eq_self, Nat.le_refl, Nat.le_zero_eq, Nat.not_lt_zero, b2_t, c_rt, tx_l, K_cL C.r, ew', en]
        · obtain ⟨r, er, cr⟩ := ok_eq (m_canPlace (y := y) (f := f) (z := z) hf hy hf9 z2 D.r.a H.T)
          have r' : r = true := cr.mpr (cn.mp ok.2)
          subst r'
          obtain ⟨x2, y2, e1, e2, p⟩ := m_doY (a2 := nI y) (a3 := nI f) (a4 := nI z) (a5 := nI t) (a6 := nI (cL (run ev n))) hf G V D h0 ok.1 E Q ok.2 (fun _ => ⟨rfl, rfl, rfl, rfl, rfl⟩) (fun h => absurd (Or.inl rfl) h)
          have e1' : D_X7_notes_0 (nI 0) (nI y) (nI f) (nI z) (nI t) (nI (cL (run ev n))) m = some x2 := e1
          have e2' : D_X7_does_0 fu (x2.1 85 5 - nI 1) x2 = some y2 := e2
          refine ⟨y2, ?_, p⟩
          rw [m_aP (nI y) (nI f) (nI z) (nI t) e, q1]
          simp (disch := omega) only [D_X7_place_59, D_X7_place_97, D_X7_place_98, li0, li1, li2, li3, li4, li5, li6, li7, li8, li9, li10, li12, li24, li31, li40, li160, n_le, n_lt, n_eq, n_m1, n_add, mr4, mr6, mr7, mr10, mr40, mr160, ml4, ml6, ml7, ml10, ml40, ml160, gu_ib, nI_nat, bi_s, vl_e, gu_t, if_true, if_false, reduceIte, bt1_1, bt1_2, bt1_3, bt1_4, bt1_5, bt1_6, bt1_7, bt1_8, bt1_9, bt1_10, bt1_11, bt1_12, bt14_1, bt14_2, bt14_3, bt14_4, bt14_5, bt14_6, bt14_7, bt14_8, bt14_9, bt14_10, bt14_11, bt14_12, Nat.reduceLeDiff, Nat.reduceEqDiff, Nat.reduceLT, eq_self, Nat.le_refl, Nat.le_zero_eq, Nat.not_lt_zero, b2_t, m_nt h0, eo D, er, m_room D ok.1 h0, e1', e2']
          rw [if_neg (by omega)]
      · obtain ⟨x, w, ew, en, C', F'⟩ := c_doN hf G V C E Q ok
        have ew' : D_X2_write_0 (nI 0) (nI (cL (run ev n))) (nI y) (nI f) (nI z) (nI t) μ = some x := ew
        refine WW_q G V (QQ_n w 0 (by decide) ?_ C' F' fun x m e D h0 => ?_)
        · simp only [D_X6_place_43, li0, li1, li2, li3, li4, li5, li6, li7, li8, li9, li10, li12, li24, li31, li40, li160, n_le, n_lt, n_eq, n_m1, n_add, mr4, mr6, mr7, mr10, mr40, mr160, ml4, ml6, ml7, ml10, ml40, ml160, gu_ib, nI_nat, bi_s, vl_e, gu_t, if_true, if_false, reduceIte, bt1_1, bt1_2, bt1_3, bt1_4, bt1_5, bt1_6, bt1_7, bt1_8, bt1_9, bt1_10, bt1_11, bt1_12, bt14_1, bt14_2, bt14_3, bt14_4, bt14_5, bt14_6, bt14_7, bt14_8, bt14_9, bt14_10, bt14_11, bt14_12, Nat.reduceLeDiff, Nat.reduceEqDiff, Nat.reduceLT, eq_self, Nat.le_refl, Nat.le_zero_eq, Nat.not_lt_zero, b2_t, c_rt, tx_l, K_cL C.r, ew', en, tx_r]
        · have nf := m_nf (k := 2) (j := 2) h0 (by decide) (by decide) (by decide)
          obtain ⟨r, er, cr⟩ := ok_eq (m_canPlace (y := y) (f := f) (z := z) hf hy hf9 z2 D.r.a H.T)
          rw [m_aP (nI y) (nI f) (nI z) (nI t) e, q1]
          cases r with
          | false =>
            simp (disch := omega) only [D_X7_place_59, D_X7_place_97, D_X7_place_98, li0, li1, li2, li3, li4, li5, li6, li7, li8, li9, li10, li12, li24, li31, li40, li160, n_le, n_lt, n_eq, n_m1, n_add, mr4, mr6, mr7, mr10, mr40, mr160, ml4, ml6, ml7, ml10, ml40, ml160, gu_ib, nI_nat, bi_s, vl_e, gu_t, if_true, if_false, reduceIte, bt1_1, bt1_2, bt1_3, bt1_4, bt1_5, bt1_6, bt1_7, bt1_8, bt1_9, bt1_10, bt1_11, bt1_12, bt14_1, bt14_2, bt14_3, bt14_4, bt14_5, bt14_6, bt14_7, bt14_8, bt14_9, bt14_10, bt14_11, bt14_12, Nat.reduceLeDiff, Nat.reduceEqDiff, Nat.reduceLT, eq_self, Nat.le_refl, Nat.le_zero_eq, Nat.not_lt_zero, b2_t, m_nt h0, eo D, er, Bool.false_eq_true, nf, kd]
            rw [if_neg (by omega)]
          | true =>
            have rf := m_roomF (k := 2) D (show n = 160 by have : ¬ n < 160 := fun z => ok ⟨z, cn.mpr (cr.mp rfl)⟩; omega) h0 (by decide) (by decide)
            simp (disch := omega) only [D_X7_place_59, D_X7_place_97, D_X7_place_98, li0, li1, li2, li3, li4, li5, li6, li7, li8, li9, li10, li12, li24, li31, li40, li160, n_le, n_lt, n_eq, n_m1, n_add, mr4, mr6, mr7, mr10, mr40, mr160, ml4, ml6, ml7, ml10, ml40, ml160, gu_ib, nI_nat, bi_s, vl_e, gu_t, if_true, if_false, reduceIte, bt1_1, bt1_2, bt1_3, bt1_4, bt1_5, bt1_6, bt1_7, bt1_8, bt1_9, bt1_10, bt1_11, bt1_12, bt14_1, bt14_2, bt14_3, bt14_4, bt14_5, bt14_6, bt14_7, bt14_8, bt14_9, bt14_10, bt14_11, bt14_12, Nat.reduceLeDiff, Nat.reduceEqDiff, Nat.reduceLT, eq_self, Nat.le_refl, Nat.le_zero_eq, Nat.not_lt_zero, b2_t, m_nt h0, eo D, er, Bool.false_eq_true, rf, kd]
            rw [if_neg (by omega)]
    · have e40 : cL (run ev n) = 40 := by omega
      obtain ⟨x, w, ew, en, C', F'⟩ := c_doF (e := mkE 0 (cL (run ev n)) y f z t) hf G C (Or.inl ⟨rfl, e40⟩)
      have ew' : D_X2_write_0 (nI 0) (nI (cL (run ev n))) (nI y) (nI f) (nI z) (nI t) μ = some x := ew
      refine WW_q G V (QQ_n w 0 (by decide) ?_ C' F' fun x m e D h0 => ?_)
      · simp only [D_X6_place_43, li0, li1, li2, li3, li4, li5, li6, li7, li8, li9, li10, li12, li24, li31, li40, li160, n_le, n_lt, n_eq, n_m1, n_add, mr4, mr6, mr7, mr10, mr40, mr160, ml4, ml6, ml7, ml10, ml40, ml160, gu_ib, nI_nat, bi_s, vl_e, gu_t, if_true, if_false, reduceIte, bt1_1, bt1_2, bt1_3, bt1_4, bt1_5, bt1_6, bt1_7, bt1_8, bt1_9, bt1_10, bt1_11, bt1_12, bt14_1, bt14_2, bt14_3, bt14_4, bt14_5, bt14_6, bt14_7, bt14_8, bt14_9, bt14_10, bt14_11, bt14_12, Nat.reduceLeDiff, Nat.reduceEqDiff, Nat.reduceLT, eq_self, Nat.le_refl, Nat.le_zero_eq, Nat.not_lt_zero, b2_t, c_rt, tx_l, K_cL C.r, ew', en, tx_r]
      · have nf := m_nf (k := 2) (j := 2) h0 (by decide) (by decide) (by decide)
        rw [m_aP (nI y) (nI f) (nI z) (nI t) e, q1]
        simp (disch := omega) only [D_X7_place_59, D_X7_place_97, D_X7_place_98, li0, li1, li2, li3, li4, li5, li6, li7, li8, li9, li10, li12, li24, li31, li40, li160, n_le, n_lt, n_eq, n_m1, n_add, mr4, mr6, mr7, mr10, mr40, mr160, ml4, ml6, ml7, ml10, ml40, ml160, gu_ib, nI_nat, bi_s, vl_e, gu_t, if_true, if_false, reduceIte, bt1_1, bt1_2, bt1_3, bt1_4, bt1_5, bt1_6, bt1_7, bt1_8, bt1_9, bt1_10, bt1_11, bt1_12, bt14_1, bt14_2, bt14_3, bt14_4, bt14_5, bt14_6, bt14_7, bt14_8, bt14_9, bt14_10, bt14_11, bt14_12, Nat.reduceLeDiff, Nat.reduceEqDiff, Nat.reduceLT, eq_self, Nat.le_refl, Nat.le_zero_eq, Nat.not_lt_zero, b2_t, m_nt h0, eo D, e40, Bool.false_eq_true, nf, kd]
/-! sign -/
def aS (b c : Int32) : Bool := inC b 0 9 && inC c 1 10
theorem aS_n {b c : Int32} (h : aS b c = true) : ∃ j k, b = nI j ∧ c = nI k ∧ j < 10 ∧ 1 ≤ k ∧ k ≤ 10 := by
  unfold aS at h
  rw [Bool.and_eq_true] at h
  obtain ⟨j, e2, -, h2⟩ := inC_n (l := 0) (h := 9) (by decide) (by decide) h.1
  obtain ⟨k, e3, g3, h3⟩ := inC_n (l := 1) (h := 10) (by decide) (by decide) h.2
  exact ⟨j, k, e2, e3, by omega, g3, h3⟩
theorem c_aS {a b c : Int32} (h : D_X6_isLayer_0 μ a = some true) : D_X6_sign_0 fu a b c μ = D_X6_sign_32 fu a b c (b2i (aS b c)) μ := by
  unfold D_X6_sign_0 D_X6_sign_31 D_X6_isInsurer_0 aS
  rw [h, bi_s, b2_t, c_tt, bi_s, tx_l, wC, wC]
  cases inC b 0 9 <;> cases inC c 1 10 <;> rfl
theorem m_aS {x : Mem} {a b c : Int32} (e : wI x 85 0 (nI 0) = m) (h : D_X7_isOne_0 a 1 m = some (true, m)) : D_X7_sign_0 fu a b c x = D_X7_sign_44 fu a b c (b2i (aS b c)) m := by
  unfold D_X7_sign_0 D_X7_sign_43 aS
  rw [show wI x 85 0 0 = m from e, vl_e, h, bi_s]
  show (if true = true then _ else _) = _
  rw [if_pos rfl]
  show ((D_X7_within_0 m b.toInt64 0 9).bind fun x5 => _) = _
  rw [show D_X7_within_0 m b.toInt64 0 9 = some (inC b 0 9) from mWi m b 0 9, show D_X7_within_0 m c.toInt64 1 10 = some (inC c 1 10) from mWi m c 1 10]
  cases inC b 0 9 <;> cases inC c 1 10 <;> rfl
theorem w_sign (hf : 200 < fu) (G : EG ev n) (V : LV ev n) (C : CI ev n μ) (a1 a2 a3 : Int32) : WW ev n (kd 1 2 3) μ (D_X6_sign_0 fu a1 a2 a3 μ) (D_X7_sign_0 fu a1 a2 a3) := by
  have H := run_Iv G
  have T := (run_CT G V n (Nat.le_refl _)).1
  have t40 := T.2.2.1
  have n160 := G.1
  cases q1 : iB a1 (cL (run ev n)) with
  | false =>
    refine WW_q G V (QQ_r (.inr 0) 0 C (ho_r (by decide)) ?_ fun x m e D h0 => ?_)
    · simp only [D_X6_sign_0, c_isL C.r, q1, li0, li1, li2, li3, li4, li5, li6, li7, li8, li9, li10, li12, li24, li31, li40, li160, n_le, n_lt, n_eq, n_m1, n_add, mr4, mr6, mr7, mr10, mr40, mr160, ml4, ml6, ml7, ml10, ml40, ml160, gu_ib, nI_nat, bi_s, vl_e, gu_t, if_true, if_false, reduceIte, bt1_1, bt1_2, bt1_3, bt1_4, bt1_5, bt1_6, bt1_7, bt1_8, bt1_9, bt1_10, bt1_11, bt1_12, bt14_1, bt14_2, bt14_3, bt14_4, bt14_5, bt14_6, bt14_7, bt14_8, bt14_9, bt14_10, bt14_11, bt14_12, Nat.reduceLeDiff, Nat.reduceEqDiff, Nat.reduceLT, eq_self, Nat.le_refl, Nat.le_zero_eq, Nat.not_lt_zero, b2_f, c_tf, tx_r, cAn]
    · have dd := m_isL (d := 1) D.r T H h0 a1 (by decide) (by decide)
      simp only [D_X7_sign_0, e, li0, li1, li2, li3, li4, li5, li6, li7, li8, li9, li10, li12, li24, li31, li40, li160, n_le, n_lt, n_eq, n_m1, n_add, mr4, mr6, mr7, mr10, mr40, mr160, ml4, ml6, ml7, ml10, ml40, ml160, gu_ib, nI_nat, bi_s, vl_e, gu_t, if_true, if_false, reduceIte, bt1_1, bt1_2, bt1_3, bt1_4, bt1_5, bt1_6, bt1_7, bt1_8, bt1_9, bt1_10, bt1_11, bt1_12, bt14_1, bt14_2, bt14_3, bt14_4, bt14_5, bt14_6, bt14_7, bt14_8, bt14_9, bt14_10, bt14_11, bt14_12, Nat.reduceLeDiff, Nat.reduceEqDiff, Nat.reduceLT, eq_self, Nat.le_refl, Nat.le_zero_eq, Nat.not_lt_zero, dd, q1, Bool.false_eq_true, mAn, kd]
  | true =>
    have d1 : ∀ {m : Mem}, MI ev n m → m.1 85 0 = nI 0 → D_X7_isOne_0 a1 1 m = some (true, m) := fun D h0 => (m_isL (d := 1) D.r T H h0 a1 (by decide) (by decide)).trans (by rw [if_pos q1])
    rw [c_aS (by rw [c_isL C.r, q1])]
    cases q2 : aS a2 a3 with
    | false =>
      refine WW_q G V (QQ_r (.inr 1) 0 C (ho_r (by decide)) ?_ fun x m e D h0 => ?_)
      · simp only [D_X6_sign_32, li0, li1, li2, li3, li4, li5, li6, li7, li8, li9, li10, li12, li24, li31, li40, li160, n_le, n_lt, n_eq, n_m1, n_add, mr4, mr6, mr7, mr10, mr40, mr160, ml4, ml6, ml7, ml10, ml40, ml160, gu_ib, nI_nat, bi_s, vl_e, gu_t, if_true, if_false, reduceIte, bt1_1, bt1_2, bt1_3, bt1_4, bt1_5, bt1_6, bt1_7, bt1_8, bt1_9, bt1_10, bt1_11, bt1_12, bt14_1, bt14_2, bt14_3, bt14_4, bt14_5, bt14_6, bt14_7, bt14_8, bt14_9, bt14_10, bt14_11, bt14_12, Nat.reduceLeDiff, Nat.reduceEqDiff, Nat.reduceLT, eq_self, Nat.le_refl, Nat.le_zero_eq, Nat.not_lt_zero, b2_f, c_rf, tx_r, cAn]
      · have nf := m_nf (k := 2) (j := 1) h0 (by decide) (by decide) (by decide)
        rw [m_aS e (d1 D h0), q2]
        simp only [D_X7_sign_44, li0, li1, li2, li3, li4, li5, li6, li7, li8, li9, li10, li12, li24, li31, li40, li160, n_le, n_lt, n_eq, n_m1, n_add, mr4, mr6, mr7, mr10, mr40, mr160, ml4, ml6, ml7, ml10, ml40, ml160, gu_ib, nI_nat, bi_s, vl_e, gu_t, if_true, if_false, reduceIte, bt1_1, bt1_2, bt1_3, bt1_4, bt1_5, bt1_6, bt1_7, bt1_8, bt1_9, bt1_10, bt1_11, bt1_12, bt14_1, bt14_2, bt14_3, bt14_4, bt14_5, bt14_6, bt14_7, bt14_8, bt14_9, bt14_10, bt14_11, bt14_12, Nat.reduceLeDiff, Nat.reduceEqDiff, Nat.reduceLT, eq_self, Nat.le_refl, Nat.le_zero_eq, Nat.not_lt_zero, b2_f, nf, Bool.false_eq_true, mAn, kd]
    | true =>
      obtain ⟨l, rfl, hl⟩ := iB_n (by omega) q1
      obtain ⟨i, v, rfl, rfl, hi, v1, v2⟩ := aS_n q2
      have l1 : isL (run ev n) l = 1 := (T.1 l (by omega)).mpr hl
      have E := ev_1 (show l < 40 by omega) hi v1 v2
      have Q : Num (run ev n) (mkE 1 l i v 0 0) := Num_o (by decide) (by decide)
      have cn : can (run ev n) (mkE 1 l i v 0 0) ↔ isL (run ev n) l = 1 ∧ ng (run ev n) l < 4 ∧ tnI (run ev n) l (ng (run ev n) l) + v ≤ 10 ∧ us (run ev n) l ≤ 0 ∧ ∀ k, k < ng (run ev n) l → sg (run ev n) (4 * l + k) ≠ i := can_1 rfl
      by_cases ok : n < 160 ∧ can (run ev n) (mkE 1 l i v 0 0)
      · obtain ⟨x, w, ew, en, C', F'⟩ := c_doY hf G V C ok.1 E Q ok.2
        have ew' : D_X2_write_0 (nI 1) (nI l) (nI i) (nI v) (nI 0) (nI 0) μ = some x := ew
        have H' := up_Iv G V ok.1 E Q
        have ktt := K_tt C'.r (show l < 40 by omega) (isL_go E l1)
        refine WW_s w (nI 10 - nI (tnI (run (upE ev n (mkE 1 l i v 0 0)) (n + 1)) l (ng (run (upE ev n (mkE 1 l i v 0 0)) (n + 1)) l))) (up_EG G V ok.1 E Q) (up_LV V ok.2 Q) ?_ C' F' fun x m e D h0 => ?_
        · simp (disch := omega) only [D_X6_sign_32, li0, li1, li2, li3, li4, li5, li6, li7, li8, li9, li10, li12, li24, li31, li40, li160, n_le, n_lt, n_eq, n_m1, n_add, mr4, mr6, mr7, mr10, mr40, mr160, ml4, ml6, ml7, ml10, ml40, ml160, gu_ib, nI_nat, bi_s, vl_e, gu_t, if_true, if_false, reduceIte, bt1_1, bt1_2, bt1_3, bt1_4, bt1_5, bt1_6, bt1_7, bt1_8, bt1_9, bt1_10, bt1_11, bt1_12, bt14_1, bt14_2, bt14_3, bt14_4, bt14_5, bt14_6, bt14_7, bt14_8, bt14_9, bt14_10, bt14_11, bt14_12, Nat.reduceLeDiff, Nat.reduceEqDiff, Nat.reduceLT, eq_self, Nat.le_refl, Nat.le_zero_eq, Nat.not_lt_zero, b2_t, c_rt, tx_l, ew', en, ktt]
        · obtain ⟨r, er, cr⟩ := ok_eq (m_canSign (l := l) (i := i) (n := v) hf (by omega) hi v2 D.r H)
          have r' : r = true := cr.mpr (cn.mp ok.2)
          subst r'
          obtain ⟨x2, y2, e1, e2, p⟩ := m_doP hf G V D h0 ok.1 E (by decide) (by decide) ok.2
          have st := m_sgT (l := l) hf (by omega) p.1.r.a H'.T
          refine ⟨y2, ?_, p⟩
          rw [m_aS e (d1 D h0), q2]
          simp (disch := omega) only [D_X7_sign_44, li0, li1, li2, li3, li4, li5, li6, li7, li8, li9, li10, li12, li24, li31, li40, li160, n_le, n_lt, n_eq, n_m1, n_add, mr4, mr6, mr7, mr10, mr40, mr160, ml4, ml6, ml7, ml10, ml40, ml160, gu_ib, nI_nat, bi_s, vl_e, gu_t, if_true, if_false, reduceIte, bt1_1, bt1_2, bt1_3, bt1_4, bt1_5, bt1_6, bt1_7, bt1_8, bt1_9, bt1_10, bt1_11, bt1_12, bt14_1, bt14_2, bt14_3, bt14_4, bt14_5, bt14_6, bt14_7, bt14_8, bt14_9, bt14_10, bt14_11, bt14_12, Nat.reduceLeDiff, Nat.reduceEqDiff, Nat.reduceLT, eq_self, Nat.le_refl, Nat.le_zero_eq, Nat.not_lt_zero, b2_t, m_nt h0, er, m_room D ok.1 h0, e1, e2, st]
      · obtain ⟨x, w, ew, en, C', F'⟩ := c_doN hf G V C E Q ok
        have ew' : D_X2_write_0 (nI 1) (nI l) (nI i) (nI v) (nI 0) (nI 0) μ = some x := ew
        refine WW_q G V (QQ_n w 0 (by decide) ?_ C' F' fun x m e D h0 => ?_)
        · simp (disch := omega) only [D_X6_sign_32, li0, li1, li2, li3, li4, li5, li6, li7, li8, li9, li10, li12, li24, li31, li40, li160, n_le, n_lt, n_eq, n_m1, n_add, mr4, mr6, mr7, mr10, mr40, mr160, ml4, ml6, ml7, ml10, ml40, ml160, gu_ib, nI_nat, bi_s, vl_e, gu_t, if_true, if_false, reduceIte, bt1_1, bt1_2, bt1_3, bt1_4, bt1_5, bt1_6, bt1_7, bt1_8, bt1_9, bt1_10, bt1_11, bt1_12, bt14_1, bt14_2, bt14_3, bt14_4, bt14_5, bt14_6, bt14_7, bt14_8, bt14_9, bt14_10, bt14_11, bt14_12, Nat.reduceLeDiff, Nat.reduceEqDiff, Nat.reduceLT, eq_self, Nat.le_refl, Nat.le_zero_eq, Nat.not_lt_zero, b2_t, c_rt, tx_l, ew', en, tx_r]
        · have nf := m_nf (k := 3) (j := 2) h0 (by decide) (by decide) (by decide)
          obtain ⟨r, er, cr⟩ := ok_eq (m_canSign (l := l) (i := i) (n := v) hf (by omega) hi v2 D.r H)
          rw [m_aS e (d1 D h0), q2]
          cases r with
          | false => simp (disch := omega) only [D_X7_sign_44, li0, li1, li2, li3, li4, li5, li6, li7, li8, li9, li10, li12, li24, li31, li40, li160, n_le, n_lt, n_eq, n_m1, n_add, mr4, mr6, mr7, mr10, mr40, mr160, ml4, ml6, ml7, ml10, ml40, ml160, gu_ib, nI_nat, bi_s, vl_e, gu_t, if_true, if_false, reduceIte, bt1_1, bt1_2, bt1_3, bt1_4, bt1_5, bt1_6, bt1_7, bt1_8, bt1_9, bt1_10, bt1_11, bt1_12, bt14_1, bt14_2, bt14_3, bt14_4, bt14_5, bt14_6, bt14_7, bt14_8, bt14_9, bt14_10, bt14_11, bt14_12, Nat.reduceLeDiff, Nat.reduceEqDiff, Nat.reduceLT, eq_self, Nat.le_refl, Nat.le_zero_eq, Nat.not_lt_zero, b2_t, m_nt h0, er, b2_f, Bool.false_eq_true, nf, kd]
          | true =>
            have rf := m_roomF (k := 3) D (show n = 160 by have : ¬ n < 160 := fun z => ok ⟨z, cn.mpr (cr.mp rfl)⟩; omega) h0 (by decide) (by decide)
            simp (disch := omega) only [D_X7_sign_44, li0, li1, li2, li3, li4, li5, li6, li7, li8, li9, li10, li12, li24, li31, li40, li160, n_le, n_lt, n_eq, n_m1, n_add, mr4, mr6, mr7, mr10, mr40, mr160, ml4, ml6, ml7, ml10, ml40, ml160, gu_ib, nI_nat, bi_s, vl_e, gu_t, if_true, if_false, reduceIte, bt1_1, bt1_2, bt1_3, bt1_4, bt1_5, bt1_6, bt1_7, bt1_8, bt1_9, bt1_10, bt1_11, bt1_12, bt14_1, bt14_2, bt14_3, bt14_4, bt14_5, bt14_6, bt14_7, bt14_8, bt14_9, bt14_10, bt14_11, bt14_12, Nat.reduceLeDiff, Nat.reduceEqDiff, Nat.reduceLT, eq_self, Nat.le_refl, Nat.le_zero_eq, Nat.not_lt_zero, b2_t, m_nt h0, er, Bool.false_eq_true, rf, kd]
/-! harm -/
def aH (a b c d : Int32) : Bool := aY a b c && inC d 1 1000000000
theorem c_aH (a b c d : Int32) : D_X6_harm_0 fu a b c d μ = D_X6_harm_23 fu a b c d (b2i (aH a b c d)) μ := by
  unfold D_X6_harm_0 D_X6_harm_22 D_X6_isAmount_0 aH
  rw [c_aY, wC]
  cases aY a b c <;> cases inC d 1 1000000000 <;> rfl
theorem m_aH {x : Mem} (a b c d : Int32) (e : wI x 85 0 (nI 0) = m) : D_X7_harm_0 fu a b c d x = D_X7_harm_28 fu a b c d (b2i (aH a b c d)) m := by
  unfold D_X7_harm_0 D_X7_harm_27 D_X7_isLoss_0 aH
  rw [show wI x 85 0 0 = m from e, vl_e, m_aY, show D_X7_within_0 m d.toInt64 1 1000000000 = some (inC d 1 1000000000) from mWi m d 1 1000000000]
  cases aY a b c <;> cases inC d 1 1000000000 <;> rfl
theorem w_harm (hf : 200 < fu) (G : EG ev n) (V : LV ev n) (C : CI ev n μ) (a1 a2 a3 a4 : Int32) : WW ev n (kd 0 1 2) μ (D_X6_harm_0 fu a1 a2 a3 a4 μ) (D_X7_harm_0 fu a1 a2 a3 a4) := by
  have TT := run_CT G V n (Nat.le_refl _)
  have t24 := TT.1.2.2.2
  have n160 := G.1
  rw [c_aH]
  cases q1 : aH a1 a2 a3 a4 with
  | false =>
    refine WW_q G V (QQ_r (.inr 1) 0 C (ho_r (by decide)) ?_ fun x m e D h0 => ?_)
    · simp only [D_X6_harm_23, li0, li1, li2, li3, li4, li5, li6, li7, li8, li9, li10, li12, li24, li31, li40, li160, n_le, n_lt, n_eq, n_m1, n_add, mr4, mr6, mr7, mr10, mr40, mr160, ml4, ml6, ml7, ml10, ml40, ml160, gu_ib, nI_nat, bi_s, vl_e, gu_t, if_true, if_false, reduceIte, bt1_1, bt1_2, bt1_3, bt1_4, bt1_5, bt1_6, bt1_7, bt1_8, bt1_9, bt1_10, bt1_11, bt1_12, bt14_1, bt14_2, bt14_3, bt14_4, bt14_5, bt14_6, bt14_7, bt14_8, bt14_9, bt14_10, bt14_11, bt14_12, Nat.reduceLeDiff, Nat.reduceEqDiff, Nat.reduceLT, eq_self, Nat.le_refl, Nat.le_zero_eq, Nat.not_lt_zero, b2_f, c_rf, tx_r, cAn]
    · have nf := m_nf (k := 1) (j := 1) h0 (by decide) (by decide) (by decide)
      rw [m_aH a1 a2 a3 a4 e, q1]
      simp only [D_X7_harm_28, li0, li1, li2, li3, li4, li5, li6, li7, li8, li9, li10, li12, li24, li31, li40, li160, n_le, n_lt, n_eq, n_m1, n_add, mr4, mr6, mr7, mr10, mr40, mr160, ml4, ml6, ml7, ml10, ml40, ml160, gu_ib, nI_nat, bi_s, vl_e, gu_t, if_true, if_false, reduceIte, bt1_1, bt1_2, bt1_3, bt1_4, bt1_5, bt1_6, bt1_7, bt1_8, bt1_9, bt1_10, bt1_11, bt1_12, bt14_1, bt14_2, bt14_3, bt14_4, bt14_5, bt14_6, bt14_7, bt14_8, bt14_9, bt14_10, bt14_11, bt14_12, Nat.reduceLeDiff, Nat.reduceEqDiff, Nat.reduceLT, eq_self, Nat.le_refl, Nat.le_zero_eq, Nat.not_lt_zero, b2_f, nf, Bool.false_eq_true, mAn, kd]
  | true =>
    have q1' := q1
    unfold aH at q1'
    rw [Bool.and_eq_true] at q1'
    obtain ⟨a, b, c, rfl, rfl, rfl, ab, bc, c12⟩ := aY_n q1'.1
    obtain ⟨v, rfl, v1, v2⟩ := inC_n (l := 1) (h := 1000000000) (by decide) (by decide) q1'.2
    have eo : ∀ {m : Mem}, MI ev n m → D_X7_eventsOf_0 fu m (nI 4) = some (nI (cH (run ev n))) := fun D => (m_eventsOf hf (by decide) G D).trans (by rw [TT.2.2])
    by_cases c24 : cH (run ev n) < 24
    · have E := ev_4 c24 ab bc c12 v1 v2
      have Q : Num (run ev n) (mkE 4 (cH (run ev n)) a b c v) := ⟨fun h => absurd (show (4 : Nat) = 0 from h) (by decide), fun _ => rfl⟩
      have can' : can (run ev n) (mkE 4 (cH (run ev n)) a b c v) := (can_3 (Or.inr rfl)).mpr trivial
      by_cases ok : n < 160
      · obtain ⟨x, w, ew, en, C', F'⟩ := c_doY hf G V C ok E Q can'
        have ew' : D_X2_write_0 (nI 4) (nI (cH (run ev n))) (nI a) (nI b) (nI c) (nI v) μ = some x := ew
        refine WW_s w (nI (cH (run ev n))) (up_EG G V ok E Q) (up_LV V can' Q) ?_ C' F' fun x m e D h0 => ?_
        · simp only [D_X6_harm_23, li0, li1, li2, li3, li4, li5, li6, li7, li8, li9, li10, li12, li24, li31, li40, li160, n_le, n_lt, n_eq, n_m1, n_add, mr4, mr6, mr7, mr10, mr40, mr160, ml4, ml6, ml7, ml10, ml40, ml160, gu_ib, nI_nat, bi_s, vl_e, gu_t, if_true, if_false, reduceIte, bt1_1, bt1_2, bt1_3, bt1_4, bt1_5, bt1_6, bt1_7, bt1_8, bt1_9, bt1_10, bt1_11, bt1_12, bt14_1, bt14_2, bt14_3, bt14_4, bt14_5, bt14_6, bt14_7, bt14_8, bt14_9, bt14_10, bt14_11, bt14_12, Nat.reduceLeDiff, Nat.reduceEqDiff, Nat.reduceLT, eq_self, Nat.le_refl, Nat.le_zero_eq, Nat.not_lt_zero, b2_t, c_rt, tx_l, K_cH C.r, ew', en]
        · obtain ⟨x2, y2, e1, e2, p⟩ := m_doY (a2 := nI a) (a3 := nI b) (a4 := nI c) (a5 := nI v) (a6 := nI (cH (run ev n))) hf G V D h0 ok E Q can' (fun _ => ⟨rfl, rfl, rfl, rfl, rfl⟩) (fun h => absurd (Or.inr rfl) h)
          have e1' : D_X7_notes_0 (nI 4) (nI a) (nI b) (nI c) (nI v) (nI (cH (run ev n))) m = some x2 := e1
          have e2' : D_X7_does_0 fu (x2.1 85 5 - nI 1) x2 = some y2 := e2
          refine ⟨y2, ?_, p⟩
          rw [m_aH (nI a) (nI b) (nI c) (nI v) e, q1]
          simp (disch := omega) only [D_X7_harm_28, D_X7_harm_52, li0, li1, li2, li3, li4, li5, li6, li7, li8, li9, li10, li12, li24, li31, li40, li160, n_le, n_lt, n_eq, n_m1, n_add, mr4, mr6, mr7, mr10, mr40, mr160, ml4, ml6, ml7, ml10, ml40, ml160, gu_ib, nI_nat, bi_s, vl_e, gu_t, if_true, if_false, reduceIte, bt1_1, bt1_2, bt1_3, bt1_4, bt1_5, bt1_6, bt1_7, bt1_8, bt1_9, bt1_10, bt1_11, bt1_12, bt14_1, bt14_2, bt14_3, bt14_4, bt14_5, bt14_6, bt14_7, bt14_8, bt14_9, bt14_10, bt14_11, bt14_12, Nat.reduceLeDiff, Nat.reduceEqDiff, Nat.reduceLT, eq_self, Nat.le_refl, Nat.le_zero_eq, Nat.not_lt_zero, b2_t, m_nt h0, eo D, m_room D ok h0, e1', e2']
          rw [if_neg (by omega)]
      · obtain ⟨x, w, ew, en, C', F'⟩ := c_doN hf G V C E Q (fun z => ok z.1)
        have ew' : D_X2_write_0 (nI 4) (nI (cH (run ev n))) (nI a) (nI b) (nI c) (nI v) μ = some x := ew
        refine WW_q G V (QQ_n w 0 (by decide) ?_ C' F' fun x m e D h0 => ?_)
        · simp only [D_X6_harm_23, li0, li1, li2, li3, li4, li5, li6, li7, li8, li9, li10, li12, li24, li31, li40, li160, n_le, n_lt, n_eq, n_m1, n_add, mr4, mr6, mr7, mr10, mr40, mr160, ml4, ml6, ml7, ml10, ml40, ml160, gu_ib, nI_nat, bi_s, vl_e, gu_t, if_true, if_false, reduceIte, bt1_1, bt1_2, bt1_3, bt1_4, bt1_5, bt1_6, bt1_7, bt1_8, bt1_9, bt1_10, bt1_11, bt1_12, bt14_1, bt14_2, bt14_3, bt14_4, bt14_5, bt14_6, bt14_7, bt14_8, bt14_9, bt14_10, bt14_11, bt14_12, Nat.reduceLeDiff, Nat.reduceEqDiff, Nat.reduceLT, eq_self, Nat.le_refl, Nat.le_zero_eq, Nat.not_lt_zero, b2_t, c_rt, tx_l, K_cH C.r, ew', en, tx_r]
        · have rf := m_roomF (k := 2) D (show n = 160 by omega) h0 (by decide) (by decide)
          rw [m_aH (nI a) (nI b) (nI c) (nI v) e, q1]
          simp (disch := omega) only [D_X7_harm_28, D_X7_harm_52, li0, li1, li2, li3, li4, li5, li6, li7, li8, li9, li10, li12, li24, li31, li40, li160, n_le, n_lt, n_eq, n_m1, n_add, mr4, mr6, mr7, mr10, mr40, mr160, ml4, ml6, ml7, ml10, ml40, ml160, gu_ib, nI_nat, bi_s, vl_e, gu_t, if_true, if_false, reduceIte, bt1_1, bt1_2, bt1_3, bt1_4, bt1_5, bt1_6, bt1_7, bt1_8, bt1_9, bt1_10, bt1_11, bt1_12, bt14_1, bt14_2, bt14_3, bt14_4, bt14_5, bt14_6, bt14_7, bt14_8, bt14_9, bt14_10, bt14_11, bt14_12, Nat.reduceLeDiff, Nat.reduceEqDiff, Nat.reduceLT, eq_self, Nat.le_refl, Nat.le_zero_eq, Nat.not_lt_zero, b2_t, m_nt h0, eo D, Bool.false_eq_true, rf, kd]
          rw [if_neg (by omega)]
    · have e24 : cH (run ev n) = 24 := by omega
      obtain ⟨x, w, ew, en, C', F'⟩ := c_doF (e := mkE 4 (cH (run ev n)) a b c v) hf G C (Or.inr ⟨rfl, e24⟩)
      have ew' : D_X2_write_0 (nI 4) (nI (cH (run ev n))) (nI a) (nI b) (nI c) (nI v) μ = some x := ew
      refine WW_q G V (QQ_n w 0 (by decide) ?_ C' F' fun x m e D h0 => ?_)
      · simp only [D_X6_harm_23, li0, li1, li2, li3, li4, li5, li6, li7, li8, li9, li10, li12, li24, li31, li40, li160, n_le, n_lt, n_eq, n_m1, n_add, mr4, mr6, mr7, mr10, mr40, mr160, ml4, ml6, ml7, ml10, ml40, ml160, gu_ib, nI_nat, bi_s, vl_e, gu_t, if_true, if_false, reduceIte, bt1_1, bt1_2, bt1_3, bt1_4, bt1_5, bt1_6, bt1_7, bt1_8, bt1_9, bt1_10, bt1_11, bt1_12, bt14_1, bt14_2, bt14_3, bt14_4, bt14_5, bt14_6, bt14_7, bt14_8, bt14_9, bt14_10, bt14_11, bt14_12, Nat.reduceLeDiff, Nat.reduceEqDiff, Nat.reduceLT, eq_self, Nat.le_refl, Nat.le_zero_eq, Nat.not_lt_zero, b2_t, c_rt, tx_l, K_cH C.r, ew', en, tx_r]
      · have nf := m_nf (k := 2) (j := 2) h0 (by decide) (by decide) (by decide)
        rw [m_aH (nI a) (nI b) (nI c) (nI v) e, q1]
        simp (disch := omega) only [D_X7_harm_28, D_X7_harm_52, li0, li1, li2, li3, li4, li5, li6, li7, li8, li9, li10, li12, li24, li31, li40, li160, n_le, n_lt, n_eq, n_m1, n_add, mr4, mr6, mr7, mr10, mr40, mr160, ml4, ml6, ml7, ml10, ml40, ml160, gu_ib, nI_nat, bi_s, vl_e, gu_t, if_true, if_false, reduceIte, bt1_1, bt1_2, bt1_3, bt1_4, bt1_5, bt1_6, bt1_7, bt1_8, bt1_9, bt1_10, bt1_11, bt1_12, bt14_1, bt14_2, bt14_3, bt14_4, bt14_5, bt14_6, bt14_7, bt14_8, bt14_9, bt14_10, bt14_11, bt14_12, Nat.reduceLeDiff, Nat.reduceEqDiff, Nat.reduceLT, eq_self, Nat.le_refl, Nat.le_zero_eq, Nat.not_lt_zero, b2_t, m_nt h0, eo D, e24, Bool.false_eq_true, nf, kd]
end
