/-! questions that read: told, offs -/
section
variable {fu n N : Nat} {ev : Nat → Ev} {μ m : Mem} {s : Sp}
theorem nE_le (ev : Nat → Ev) (c : Nat) : ∀ n, nE ev c n ≤ n
  | 0 => Nat.le_refl _
  | n + 1 => by
    have := nE_le ev c n
    show nE ev c n + _ ≤ _
    split <;> omega
theorem m_eventsOf {c : Nat} (hf : 200 < fu) (hc : c ≤ 8) (G : EG ev n) (D : MI ev n m) : D_X7_eventsOf_0 fu m (nI c) = some (nI (nE ev c n)) := by
  have n160 := G.1
  unfold D_X7_eventsOf_0
  refine eq_for (fun k i => D_X7_eventsOf_4 fu m k (nI c) (nI (nE ev c i)) (nI i)) n _ ?_ ?_ fu 0 (by omega) (by omega)
  · intro k i hi
    have l1 := nE_le ev c i
    have e8 := (G.2.1 i hi).k
    show _ = D_X7_eventsOf_4 fu m k (nI c) (nI (nE ev c i + if ev i 0 = c then 1 else 0)) (nI (i + 1))
    simp (disch := omega) only [D_X7_eventsOf_4, D_X7_eventsOf_28, li0, li1, li2, li3, li4, li5, li6, li7, li8, li9, li10, li12, li24, li31, li40, li160, n_le, n_lt, n_eq, n_m1, n_add, mr4, mr6, mr7, mr10, mr40, mr160, ml4, ml6, ml7, ml10, ml40, ml160, gu_ib, nI_nat, bi_s, vl_e, gu_t, if_true, if_false, reduceIte, bt1_1, bt1_2, bt1_3, bt1_4, bt1_5, bt1_6, bt1_7, bt1_8, bt1_9, bt1_10, bt1_11, bt1_12, bt14_1, bt14_2, bt14_3, bt14_4, bt14_5, bt14_6, bt14_7, bt14_8, bt14_9, bt14_10, bt14_11, bt14_12, D.n, (D.g i hi).1]
    rw [if_neg (by omega)]
    by_cases q : ev i 0 = c
    · rw [if_pos q, if_pos q]
    · rw [if_neg q, if_neg q]
  · intro k
    simp (disch := omega) only [D_X7_eventsOf_4, li0, li1, li2, li3, li4, li5, li6, li7, li8, li9, li10, li12, li24, li31, li40, li160, n_le, n_lt, n_eq, n_m1, n_add, mr4, mr6, mr7, mr10, mr40, mr160, ml4, ml6, ml7, ml10, ml40, ml160, gu_ib, nI_nat, bi_s, vl_e, gu_t, if_true, if_false, reduceIte, bt1_1, bt1_2, bt1_3, bt1_4, bt1_5, bt1_6, bt1_7, bt1_8, bt1_9, bt1_10, bt1_11, bt1_12, bt14_1, bt14_2, bt14_3, bt14_4, bt14_5, bt14_6, bt14_7, bt14_8, bt14_9, bt14_10, bt14_11, bt14_12, D.n]
    rw [if_pos (by omega)]
theorem m_gapBits (hf : 200 < fu) (R : RM m s) (H : Iv N s) : D_X7_told_143 fu fu 0 0 m = some (nI (orb (fun y => decide (hg s y = 0)) 12), m) := by
  refine eq_for (fun n y => D_X7_told_143 fu n (nI (orb (fun y => decide (hg s y = 0)) y)) (nI y) m) 12 _ ?_ ?_ fu 0 (by omega) (by omega)
  · intro n y hy
    simp (disch := omega) only [D_X7_told_143, D_X7_told_165, li0, li1, li2, li3, li4, li5, li6, li7, li8, li9, li10, li12, li24, li31, li40, li160, n_le, n_lt, n_eq, n_m1, n_add, mr4, mr6, mr7, mr10, mr40, mr160, ml4, ml6, ml7, ml10, ml40, ml160, gu_ib, nI_nat, bi_s, vl_e, gu_t, if_true, if_false, reduceIte, bt1_1, bt1_2, bt1_3, bt1_4, bt1_5, bt1_6, bt1_7, bt1_8, bt1_9, bt1_10, bt1_11, bt1_12, bt14_1, bt14_2, bt14_3, bt14_4, bt14_5, bt14_6, bt14_7, bt14_8, bt14_9, bt14_10, bt14_11, bt14_12, m_gap hy R.a H.T, q_shl, q_or, decide_eq_true_eq]
    rw [if_neg (by omega), orb]
    by_cases q : hg s y = 0
    · rw [if_pos q, if_pos (decide_eq_true q)]
    · rw [if_neg q, if_neg (by rw [decide_eq_false q]; decide)]
  · intro n
    simp (disch := omega) only [D_X7_told_143, li0, li1, li2, li3, li4, li5, li6, li7, li8, li9, li10, li12, li24, li31, li40, li160, n_le, n_lt, n_eq, n_m1, n_add, mr4, mr6, mr7, mr10, mr40, mr160, ml4, ml6, ml7, ml10, ml40, ml160, gu_ib, nI_nat, bi_s, vl_e, gu_t, if_true, if_false, reduceIte, bt1_1, bt1_2, bt1_3, bt1_4, bt1_5, bt1_6, bt1_7, bt1_8, bt1_9, bt1_10, bt1_11, bt1_12, bt14_1, bt14_2, bt14_3, bt14_4, bt14_5, bt14_6, bt14_7, bt14_8, bt14_9, bt14_10, bt14_11, bt14_12]
    rw [if_pos (by omega)]
theorem m_standBits {v : Nat} (hf : 200 < fu) (hv : v < 3) (R : RM m s) (H : Iv N s) : D_X7_standingBits_0 fu m (nI v) = some (nI (orb (fun i => decide (i ≠ 0 ∧ sd s i = v)) 10)) := by
  unfold D_X7_standingBits_0
  have K := eq_for (fun n i => D_X7_standingBits_4 fu m n (nI v) (nI (orb (fun i => decide (i ≠ 0 ∧ sd s i = v)) (i + 1))) (nI (i + 1))) 9 (some (nI (orb (fun i => decide (i ≠ 0 ∧ sd s i = v)) 10))) ?_ ?_ fu 0 (by omega) (by omega)
  · rw [show orb (fun i => decide (i ≠ 0 ∧ sd s i = v)) (0 + 1) = 0 by simp [orb]] at K
    exact K
  · intro n i hi
    have s3 := IvR_sd H.R (i := i + 1) (by omega)
    simp (disch := omega) only [D_X7_standingBits_4, D_X7_standingBits_28, li0, li1, li2, li3, li4, li5, li6, li7, li8, li9, li10, li12, li24, li31, li40, li160, n_le, n_lt, n_eq, n_m1, n_add, mr4, mr6, mr7, mr10, mr40, mr160, ml4, ml6, ml7, ml10, ml40, ml160, gu_ib, nI_nat, bi_s, vl_e, gu_t, if_true, if_false, reduceIte, bt1_1, bt1_2, bt1_3, bt1_4, bt1_5, bt1_6, bt1_7, bt1_8, bt1_9, bt1_10, bt1_11, bt1_12, bt14_1, bt14_2, bt14_3, bt14_4, bt14_5, bt14_6, bt14_7, bt14_8, bt14_9, bt14_10, bt14_11, bt14_12, M_sd R, q_shl, q_or]
    rw [if_neg (by omega)]
    conv => rhs; rw [orb]
    by_cases q : sd s (i + 1) = v
    · rw [if_pos q, if_pos (decide_eq_true ⟨by omega, q⟩)]
    · rw [if_neg q, if_neg (by rw [decide_eq_false (fun z => q z.2)]; decide)]
  · intro n
    simp (disch := omega) only [D_X7_standingBits_4, li0, li1, li2, li3, li4, li5, li6, li7, li8, li9, li10, li12, li24, li31, li40, li160, n_le, n_lt, n_eq, n_m1, n_add, mr4, mr6, mr7, mr10, mr40, mr160, ml4, ml6, ml7, ml10, ml40, ml160, gu_ib, nI_nat, bi_s, vl_e, gu_t, if_true, if_false, reduceIte, bt1_1, bt1_2, bt1_3, bt1_4, bt1_5, bt1_6, bt1_7, bt1_8, bt1_9, bt1_10, bt1_11, bt1_12, bt14_1, bt14_2, bt14_3, bt14_4, bt14_5, bt14_6, bt14_7, bt14_8, bt14_9, bt14_10, bt14_11, bt14_12]
    rw [if_pos (by omega)]
theorem m_signBits (hf : 200 < fu) (T : CT s) (R : RM m s) (H : Iv N s) : D_X7_signersBits_0 fu m = some (nI (sgB s (cL s))) := by
  have t40 := T.2.2.1
  have ext : ∀ d, cL s + d ≤ 40 → sgB s (cL s + d) = sgB s (cL s) := fun d => by
    induction d with
    | zero => exact fun _ => rfl
    | succ d ih =>
      intro hd
      have z : isL s (cL s + d) = 0 := (IvT_is H.T (by omega)).resolve_right fun z => by have := (T.1 _ (by omega)).mp z; omega
      show sgK s (cL s + d) (sgB s (cL s + d)) (ng s (cL s + d)) = _
      rw [IvT_n0 H.T (by omega) z]
      exact ih (by omega)
  rw [← ext (40 - cL s) (by omega), show cL s + (40 - cL s) = 40 by omega]
  unfold D_X7_signersBits_0
  refine eq_for (fun n l => D_X7_signersBits_4 fu m n (nI (sgB s l)) (nI l)) 40 _ ?_ ?_ fu 0 (by omega) (by omega)
  · intro n l hl
    have n4 := IvT_ng H.T hl
    have i2 := IvT_is H.T hl
    simp (disch := omega) only [D_X7_signersBits_4, li0, li1, li2, li3, li4, li5, li6, li7, li8, li9, li10, li12, li24, li31, li40, li160, n_le, n_lt, n_eq, n_m1, n_add, mr4, mr6, mr7, mr10, mr40, mr160, ml4, ml6, ml7, ml10, ml40, ml160, gu_ib, nI_nat, bi_s, vl_e, gu_t, if_true, if_false, reduceIte, bt1_1, bt1_2, bt1_3, bt1_4, bt1_5, bt1_6, bt1_7, bt1_8, bt1_9, bt1_10, bt1_11, bt1_12, bt14_1, bt14_2, bt14_3, bt14_4, bt14_5, bt14_6, bt14_7, bt14_8, bt14_9, bt14_10, bt14_11, bt14_12]
    rw [if_neg (by omega)]
    refine eq_for (fun q k => D_X7_signersBits_12 fu m (D_X7_signersBits_4 fu m n) q (nI (sgK s l (sgB s l) k)) (nI l) (nI k)) (ng s l) _ ?_ ?_ fu 0 (by omega) (by omega)
    · intro q k hk
      have l1 : isL s l = 1 := i2.resolve_left fun z => by have := IvT_n0 H.T hl z; omega
      have s9 := IvT_sg H.T hl hk
      simp (disch := omega) only [D_X7_signersBits_12, li0, li1, li2, li3, li4, li5, li6, li7, li8, li9, li10, li12, li24, li31, li40, li160, n_le, n_lt, n_eq, n_m1, n_add, mr4, mr6, mr7, mr10, mr40, mr160, ml4, ml6, ml7, ml10, ml40, ml160, gu_ib, nI_nat, bi_s, vl_e, gu_t, if_true, if_false, reduceIte, bt1_1, bt1_2, bt1_3, bt1_4, bt1_5, bt1_6, bt1_7, bt1_8, bt1_9, bt1_10, bt1_11, bt1_12, bt14_1, bt14_2, bt14_3, bt14_4, bt14_5, bt14_6, bt14_7, bt14_8, bt14_9, bt14_10, bt14_11, bt14_12, M_is R hl, M_ng R hl, M_sg R hl hk, q_shl, q_or]
      rw [if_neg (by omega), if_neg (by omega)]; rfl
    · intro q
      simp (disch := omega) only [D_X7_signersBits_12, D_X7_signersBits_52, li0, li1, li2, li3, li4, li5, li6, li7, li8, li9, li10, li12, li24, li31, li40, li160, n_le, n_lt, n_eq, n_m1, n_add, mr4, mr6, mr7, mr10, mr40, mr160, ml4, ml6, ml7, ml10, ml40, ml160, gu_ib, nI_nat, bi_s, vl_e, gu_t, if_true, if_false, reduceIte, bt1_1, bt1_2, bt1_3, bt1_4, bt1_5, bt1_6, bt1_7, bt1_8, bt1_9, bt1_10, bt1_11, bt1_12, bt14_1, bt14_2, bt14_3, bt14_4, bt14_5, bt14_6, bt14_7, bt14_8, bt14_9, bt14_10, bt14_11, bt14_12, M_is R hl, M_ng R hl]
      by_cases z : isL s l = 0
      · rw [if_pos z]; rfl
      · rw [if_neg z, if_pos (by omega)]; rfl
  · intro n
    simp (disch := omega) only [D_X7_signersBits_4, li0, li1, li2, li3, li4, li5, li6, li7, li8, li9, li10, li12, li24, li31, li40, li160, n_le, n_lt, n_eq, n_m1, n_add, mr4, mr6, mr7, mr10, mr40, mr160, ml4, ml6, ml7, ml10, ml40, ml160, gu_ib, nI_nat, bi_s, vl_e, gu_t, if_true, if_false, reduceIte, bt1_1, bt1_2, bt1_3, bt1_4, bt1_5, bt1_6, bt1_7, bt1_8, bt1_9, bt1_10, bt1_11, bt1_12, bt14_1, bt14_2, bt14_3, bt14_4, bt14_5, bt14_6, bt14_7, bt14_8, bt14_9, bt14_10, bt14_11, bt14_12]
    rw [if_pos (by omega)]
theorem q_told (hf : 200 < fu) (G : EG ev n) (V : LV ev n) (C : CI ev n μ) (a1 : Int32) : QQ ev n (kd 0 1 0) μ (D_X6_told_0 fu a1 μ) (D_X7_told_0 fu a1) := by
  have TT := run_CT G V n (Nat.le_refl _)
  have T := TT.1
  have H := run_Iv G
  have t40 := T.2.2.1
  have hA : ∀ l, l < cL (run ev n) → isL (run ev n) l = 1 := fun l hl => (T.1 l (by omega)).mpr hl
  cases q1 : inC a1 (nI 0) (nI 10) with
  | false =>
    have w1 := fun m => mWq q1 (L := 0) (H := 10) rfl rfl m
    refine QQ_r (.inr 1) 0 C (ho_r (by decide)) ?_ fun x m e D h0 => ?_
    · simp only [D_X6_told_0, wC, q1, li0, li1, li2, li3, li4, li5, li6, li7, li8, li9, li10, li12, li24, li31, li40, li160, n_le, n_lt, n_eq, n_m1, n_add, mr4, mr6, mr7, mr10, mr40, mr160, ml4, ml6, ml7, ml10, ml40, ml160, gu_ib, nI_nat, bi_s, vl_e, gu_t, if_true, if_false, reduceIte, bt1_1, bt1_2, bt1_3, bt1_4, bt1_5, bt1_6, bt1_7, bt1_8, bt1_9, bt1_10, bt1_11, bt1_12, bt14_1, bt14_2, bt14_3, bt14_4, bt14_5, bt14_6, bt14_7, bt14_8, bt14_9, bt14_10, bt14_11, bt14_12, Nat.reduceLeDiff, Nat.reduceEqDiff, Nat.reduceLT, eq_self, Nat.le_refl, Nat.le_zero_eq, Nat.not_lt_zero, b2_f, c_rf, tx_r, cAn]
    · have nf := m_nf (k := 1) (j := 1) h0 (by decide) (by decide) (by decide)
      simp only [D_X7_told_0, e, li0, li1, li2, li3, li4, li5, li6, li7, li8, li9, li10, li12, li24, li31, li40, li160, n_le, n_lt, n_eq, n_m1, n_add, mr4, mr6, mr7, mr10, mr40, mr160, ml4, ml6, ml7, ml10, ml40, ml160, gu_ib, nI_nat, bi_s, vl_e, gu_t, if_true, if_false, reduceIte, bt1_1, bt1_2, bt1_3, bt1_4, bt1_5, bt1_6, bt1_7, bt1_8, bt1_9, bt1_10, bt1_11, bt1_12, bt14_1, bt14_2, bt14_3, bt14_4, bt14_5, bt14_6, bt14_7, bt14_8, bt14_9, bt14_10, bt14_11, bt14_12, Nat.reduceLeDiff, Nat.reduceEqDiff, Nat.reduceLT, eq_self, Nat.le_refl, Nat.le_zero_eq, Nat.not_lt_zero, w1, b2_f, nf, Bool.false_eq_true, mAn, kd]
  | true =>
    have w1 := fun m => mWq q1 (L := 0) (H := 10) rfl rfl m
    obtain ⟨k, rfl, kl, hk⟩ := inC_n (by decide) (by decide) q1
    rcases (show k = 0 ∨ k = 1 ∨ k = 2 ∨ k = 3 ∨ k = 4 ∨ k = 5 ∨ k = 6 ∨ k = 7 ∨ k = 8 ∨ k = 9 ∨ k = 10 by omega) with rfl | rfl | rfl | rfl | rfl | rfl | rfl | rfl | rfl | rfl | rfl
    · refine QQ_r (.inl (nI (cL (run ev n)))) 0 C ho_l ?_ fun x m e D h0 => ?_
      · simp (disch := omega) only [D_X6_told_0, wC, q1, li0, li1, li2, li3, li4, li5, li6, li7, li8, li9, li10, li12, li24, li31, li40, li160, n_le, n_lt, n_eq, n_m1, n_add, mr4, mr6, mr7, mr10, mr40, mr160, ml4, ml6, ml7, ml10, ml40, ml160, gu_ib, nI_nat, bi_s, vl_e, gu_t, if_true, if_false, reduceIte, bt1_1, bt1_2, bt1_3, bt1_4, bt1_5, bt1_6, bt1_7, bt1_8, bt1_9, bt1_10, bt1_11, bt1_12, bt14_1, bt14_2, bt14_3, bt14_4, bt14_5, bt14_6, bt14_7, bt14_8, bt14_9, bt14_10, bt14_11, bt14_12, Nat.reduceLeDiff, Nat.reduceEqDiff, Nat.reduceLT, eq_self, Nat.le_refl, Nat.le_zero_eq, Nat.not_lt_zero, b2_t, c_rt, tx_l, K_cL C.r, cAn]
      · simp (disch := omega) only [D_X7_told_0, D_X7_told_135, e, li0, li1, li2, li3, li4, li5, li6, li7, li8, li9, li10, li12, li24, li31, li40, li160, n_le, n_lt, n_eq, n_m1, n_add, mr4, mr6, mr7, mr10, mr40, mr160, ml4, ml6, ml7, ml10, ml40, ml160, gu_ib, nI_nat, bi_s, vl_e, gu_t, if_true, if_false, reduceIte, bt1_1, bt1_2, bt1_3, bt1_4, bt1_5, bt1_6, bt1_7, bt1_8, bt1_9, bt1_10, bt1_11, bt1_12, bt14_1, bt14_2, bt14_3, bt14_4, bt14_5, bt14_6, bt14_7, bt14_8, bt14_9, bt14_10, bt14_11, bt14_12, Nat.reduceLeDiff, Nat.reduceEqDiff, Nat.reduceLT, eq_self, Nat.le_refl, Nat.le_zero_eq, Nat.not_lt_zero, w1, b2_t, m_nt h0, (show D_X7_eventsOf_0 fu m (nI 0) = some (nI (cL (run ev n))) from (m_eventsOf hf (by decide) G D).trans (by rw [TT.2.1])), mAn]
    · refine QQ_r (.inl (nI (cH (run ev n)))) 0 C ho_l ?_ fun x m e D h0 => ?_
      · simp (disch := omega) only [D_X6_told_0, wC, q1, li0, li1, li2, li3, li4, li5, li6, li7, li8, li9, li10, li12, li24, li31, li40, li160, n_le, n_lt, n_eq, n_m1, n_add, mr4, mr6, mr7, mr10, mr40, mr160, ml4, ml6, ml7, ml10, ml40, ml160, gu_ib, nI_nat, bi_s, vl_e, gu_t, if_true, if_false, reduceIte, bt1_1, bt1_2, bt1_3, bt1_4, bt1_5, bt1_6, bt1_7, bt1_8, bt1_9, bt1_10, bt1_11, bt1_12, bt14_1, bt14_2, bt14_3, bt14_4, bt14_5, bt14_6, bt14_7, bt14_8, bt14_9, bt14_10, bt14_11, bt14_12, Nat.reduceLeDiff, Nat.reduceEqDiff, Nat.reduceLT, eq_self, Nat.le_refl, Nat.le_zero_eq, Nat.not_lt_zero, b2_t, c_rt, tx_l, K_cH C.r, cAn]
      · simp (disch := omega) only [D_X7_told_0, D_X7_told_135, e, li0, li1, li2, li3, li4, li5, li6, li7, li8, li9, li10, li12, li24, li31, li40, li160, n_le, n_lt, n_eq, n_m1, n_add, mr4, mr6, mr7, mr10, mr40, mr160, ml4, ml6, ml7, ml10, ml40, ml160, gu_ib, nI_nat, bi_s, vl_e, gu_t, if_true, if_false, reduceIte, bt1_1, bt1_2, bt1_3, bt1_4, bt1_5, bt1_6, bt1_7, bt1_8, bt1_9, bt1_10, bt1_11, bt1_12, bt14_1, bt14_2, bt14_3, bt14_4, bt14_5, bt14_6, bt14_7, bt14_8, bt14_9, bt14_10, bt14_11, bt14_12, Nat.reduceLeDiff, Nat.reduceEqDiff, Nat.reduceLT, eq_self, Nat.le_refl, Nat.le_zero_eq, Nat.not_lt_zero, w1, b2_t, m_nt h0, (show D_X7_eventsOf_0 fu m (nI 4) = some (nI (cH (run ev n))) from (m_eventsOf hf (by decide) G D).trans (by rw [TT.2.2])), mAn]
    · refine QQ_r (.inl (nI n)) 0 C ho_l ?_ fun x m e D h0 => ?_
      · simp (disch := omega) only [D_X6_told_0, wC, q1, li0, li1, li2, li3, li4, li5, li6, li7, li8, li9, li10, li12, li24, li31, li40, li160, n_le, n_lt, n_eq, n_m1, n_add, mr4, mr6, mr7, mr10, mr40, mr160, ml4, ml6, ml7, ml10, ml40, ml160, gu_ib, nI_nat, bi_s, vl_e, gu_t, if_true, if_false, reduceIte, bt1_1, bt1_2, bt1_3, bt1_4, bt1_5, bt1_6, bt1_7, bt1_8, bt1_9, bt1_10, bt1_11, bt1_12, bt14_1, bt14_2, bt14_3, bt14_4, bt14_5, bt14_6, bt14_7, bt14_8, bt14_9, bt14_10, bt14_11, bt14_12, Nat.reduceLeDiff, Nat.reduceEqDiff, Nat.reduceLT, eq_self, Nat.le_refl, Nat.le_zero_eq, Nat.not_lt_zero, b2_t, c_rt, tx_l, C.n, cAn]
      · simp (disch := omega) only [D_X7_told_0, D_X7_told_135, e, li0, li1, li2, li3, li4, li5, li6, li7, li8, li9, li10, li12, li24, li31, li40, li160, n_le, n_lt, n_eq, n_m1, n_add, mr4, mr6, mr7, mr10, mr40, mr160, ml4, ml6, ml7, ml10, ml40, ml160, gu_ib, nI_nat, bi_s, vl_e, gu_t, if_true, if_false, reduceIte, bt1_1, bt1_2, bt1_3, bt1_4, bt1_5, bt1_6, bt1_7, bt1_8, bt1_9, bt1_10, bt1_11, bt1_12, bt14_1, bt14_2, bt14_3, bt14_4, bt14_5, bt14_6, bt14_7, bt14_8, bt14_9, bt14_10, bt14_11, bt14_12, Nat.reduceLeDiff, Nat.reduceEqDiff, Nat.reduceLT, eq_self, Nat.le_refl, Nat.le_zero_eq, Nat.not_lt_zero, w1, b2_t, m_nt h0, D.n, mAn]
    · refine QQ_r (.inl (nI (ru (run ev n) 0))) 0 C ho_l ?_ fun x m e D h0 => ?_
      · simp (disch := omega) only [D_X6_told_0, wC, q1, li0, li1, li2, li3, li4, li5, li6, li7, li8, li9, li10, li12, li24, li31, li40, li160, n_le, n_lt, n_eq, n_m1, n_add, mr4, mr6, mr7, mr10, mr40, mr160, ml4, ml6, ml7, ml10, ml40, ml160, gu_ib, nI_nat, bi_s, vl_e, gu_t, if_true, if_false, reduceIte, bt1_1, bt1_2, bt1_3, bt1_4, bt1_5, bt1_6, bt1_7, bt1_8, bt1_9, bt1_10, bt1_11, bt1_12, bt14_1, bt14_2, bt14_3, bt14_4, bt14_5, bt14_6, bt14_7, bt14_8, bt14_9, bt14_10, bt14_11, bt14_12, Nat.reduceLeDiff, Nat.reduceEqDiff, Nat.reduceLT, eq_self, Nat.le_refl, Nat.le_zero_eq, Nat.not_lt_zero, b2_t, c_rt, tx_l, K_r0 C.r, cAn]
      · simp (disch := omega) only [D_X7_told_0, D_X7_told_135, e, li0, li1, li2, li3, li4, li5, li6, li7, li8, li9, li10, li12, li24, li31, li40, li160, n_le, n_lt, n_eq, n_m1, n_add, mr4, mr6, mr7, mr10, mr40, mr160, ml4, ml6, ml7, ml10, ml40, ml160, gu_ib, nI_nat, bi_s, vl_e, gu_t, if_true, if_false, reduceIte, bt1_1, bt1_2, bt1_3, bt1_4, bt1_5, bt1_6, bt1_7, bt1_8, bt1_9, bt1_10, bt1_11, bt1_12, bt14_1, bt14_2, bt14_3, bt14_4, bt14_5, bt14_6, bt14_7, bt14_8, bt14_9, bt14_10, bt14_11, bt14_12, Nat.reduceLeDiff, Nat.reduceEqDiff, Nat.reduceLT, eq_self, Nat.le_refl, Nat.le_zero_eq, Nat.not_lt_zero, w1, b2_t, m_nt h0, M_r0 D.r, mAn]
    · refine QQ_r (.inl (nI (ru (run ev n) 1))) 0 C ho_l ?_ fun x m e D h0 => ?_
      · simp (disch := omega) only [D_X6_told_0, wC, q1, li0, li1, li2, li3, li4, li5, li6, li7, li8, li9, li10, li12, li24, li31, li40, li160, n_le, n_lt, n_eq, n_m1, n_add, mr4, mr6, mr7, mr10, mr40, mr160, ml4, ml6, ml7, ml10, ml40, ml160, gu_ib, nI_nat, bi_s, vl_e, gu_t, if_true, if_false, reduceIte, bt1_1, bt1_2, bt1_3, bt1_4, bt1_5, bt1_6, bt1_7, bt1_8, bt1_9, bt1_10, bt1_11, bt1_12, bt14_1, bt14_2, bt14_3, bt14_4, bt14_5, bt14_6, bt14_7, bt14_8, bt14_9, bt14_10, bt14_11, bt14_12, Nat.reduceLeDiff, Nat.reduceEqDiff, Nat.reduceLT, eq_self, Nat.le_refl, Nat.le_zero_eq, Nat.not_lt_zero, b2_t, c_rt, tx_l, K_r1 C.r, cAn]
      · simp (disch := omega) only [D_X7_told_0, D_X7_told_135, e, li0, li1, li2, li3, li4, li5, li6, li7, li8, li9, li10, li12, li24, li31, li40, li160, n_le, n_lt, n_eq, n_m1, n_add, mr4, mr6, mr7, mr10, mr40, mr160, ml4, ml6, ml7, ml10, ml40, ml160, gu_ib, nI_nat, bi_s, vl_e, gu_t, if_true, if_false, reduceIte, bt1_1, bt1_2, bt1_3, bt1_4, bt1_5, bt1_6, bt1_7, bt1_8, bt1_9, bt1_10, bt1_11, bt1_12, bt14_1, bt14_2, bt14_3, bt14_4, bt14_5, bt14_6, bt14_7, bt14_8, bt14_9, bt14_10, bt14_11, bt14_12, Nat.reduceLeDiff, Nat.reduceEqDiff, Nat.reduceLT, eq_self, Nat.le_refl, Nat.le_zero_eq, Nat.not_lt_zero, w1, b2_t, m_nt h0, M_r1 D.r, mAn]
    · refine QQ_r (.inl (nI (ru (run ev n) 2))) 0 C ho_l ?_ fun x m e D h0 => ?_
      · simp (disch := omega) only [D_X6_told_0, wC, q1, li0, li1, li2, li3, li4, li5, li6, li7, li8, li9, li10, li12, li24, li31, li40, li160, n_le, n_lt, n_eq, n_m1, n_add, mr4, mr6, mr7, mr10, mr40, mr160, ml4, ml6, ml7, ml10, ml40, ml160, gu_ib, nI_nat, bi_s, vl_e, gu_t, if_true, if_false, reduceIte, bt1_1, bt1_2, bt1_3, bt1_4, bt1_5, bt1_6, bt1_7, bt1_8, bt1_9, bt1_10, bt1_11, bt1_12, bt14_1, bt14_2, bt14_3, bt14_4, bt14_5, bt14_6, bt14_7, bt14_8, bt14_9, bt14_10, bt14_11, bt14_12, Nat.reduceLeDiff, Nat.reduceEqDiff, Nat.reduceLT, eq_self, Nat.le_refl, Nat.le_zero_eq, Nat.not_lt_zero, b2_t, c_rt, tx_l, K_r2 C.r, cAn]
      · simp (disch := omega) only [D_X7_told_0, D_X7_told_135, e, li0, li1, li2, li3, li4, li5, li6, li7, li8, li9, li10, li12, li24, li31, li40, li160, n_le, n_lt, n_eq, n_m1, n_add, mr4, mr6, mr7, mr10, mr40, mr160, ml4, ml6, ml7, ml10, ml40, ml160, gu_ib, nI_nat, bi_s, vl_e, gu_t, if_true, if_false, reduceIte, bt1_1, bt1_2, bt1_3, bt1_4, bt1_5, bt1_6, bt1_7, bt1_8, bt1_9, bt1_10, bt1_11, bt1_12, bt14_1, bt14_2, bt14_3, bt14_4, bt14_5, bt14_6, bt14_7, bt14_8, bt14_9, bt14_10, bt14_11, bt14_12, Nat.reduceLeDiff, Nat.reduceEqDiff, Nat.reduceLT, eq_self, Nat.le_refl, Nat.le_zero_eq, Nat.not_lt_zero, w1, b2_t, m_nt h0, M_r2 D.r, mAn]
    · refine QQ_r (.inl (nI (lk (run ev n)))) 0 C ho_l ?_ fun x m e D h0 => ?_
      · simp (disch := omega) only [D_X6_told_0, wC, q1, li0, li1, li2, li3, li4, li5, li6, li7, li8, li9, li10, li12, li24, li31, li40, li160, n_le, n_lt, n_eq, n_m1, n_add, mr4, mr6, mr7, mr10, mr40, mr160, ml4, ml6, ml7, ml10, ml40, ml160, gu_ib, nI_nat, bi_s, vl_e, gu_t, if_true, if_false, reduceIte, bt1_1, bt1_2, bt1_3, bt1_4, bt1_5, bt1_6, bt1_7, bt1_8, bt1_9, bt1_10, bt1_11, bt1_12, bt14_1, bt14_2, bt14_3, bt14_4, bt14_5, bt14_6, bt14_7, bt14_8, bt14_9, bt14_10, bt14_11, bt14_12, Nat.reduceLeDiff, Nat.reduceEqDiff, Nat.reduceLT, eq_self, Nat.le_refl, Nat.le_zero_eq, Nat.not_lt_zero, b2_t, c_rt, tx_l, K_lk C.r, cAn]
      · simp (disch := omega) only [D_X7_told_0, D_X7_told_135, e, li0, li1, li2, li3, li4, li5, li6, li7, li8, li9, li10, li12, li24, li31, li40, li160, n_le, n_lt, n_eq, n_m1, n_add, mr4, mr6, mr7, mr10, mr40, mr160, ml4, ml6, ml7, ml10, ml40, ml160, gu_ib, nI_nat, bi_s, vl_e, gu_t, if_true, if_false, reduceIte, bt1_1, bt1_2, bt1_3, bt1_4, bt1_5, bt1_6, bt1_7, bt1_8, bt1_9, bt1_10, bt1_11, bt1_12, bt14_1, bt14_2, bt14_3, bt14_4, bt14_5, bt14_6, bt14_7, bt14_8, bt14_9, bt14_10, bt14_11, bt14_12, Nat.reduceLeDiff, Nat.reduceEqDiff, Nat.reduceLT, eq_self, Nat.le_refl, Nat.le_zero_eq, Nat.not_lt_zero, w1, b2_t, m_nt h0, M_lk D.r, mAn]
    · refine QQ_r (.inl (nI (orb (fun y => decide (hg (run ev n) y = 0)) 12))) 0 C ho_l ?_ fun x m e D h0 => ?_
      · simp (disch := omega) only [D_X6_told_0, wC, q1, li0, li1, li2, li3, li4, li5, li6, li7, li8, li9, li10, li12, li24, li31, li40, li160, n_le, n_lt, n_eq, n_m1, n_add, mr4, mr6, mr7, mr10, mr40, mr160, ml4, ml6, ml7, ml10, ml40, ml160, gu_ib, nI_nat, bi_s, vl_e, gu_t, if_true, if_false, reduceIte, bt1_1, bt1_2, bt1_3, bt1_4, bt1_5, bt1_6, bt1_7, bt1_8, bt1_9, bt1_10, bt1_11, bt1_12, bt14_1, bt14_2, bt14_3, bt14_4, bt14_5, bt14_6, bt14_7, bt14_8, bt14_9, bt14_10, bt14_11, bt14_12, Nat.reduceLeDiff, Nat.reduceEqDiff, Nat.reduceLT, eq_self, Nat.le_refl, Nat.le_zero_eq, Nat.not_lt_zero, b2_t, c_rt, tx_l, show D_X5_gapBits_0 fu μ 4 = some (nI (orb (fun y => decide (hg (run ev n) y = 0)) 12)) from c_gapBits hf C.r H, cAn]
      · simp (disch := omega) only [D_X7_told_0, D_X7_told_135, e, li0, li1, li2, li3, li4, li5, li6, li7, li8, li9, li10, li12, li24, li31, li40, li160, n_le, n_lt, n_eq, n_m1, n_add, mr4, mr6, mr7, mr10, mr40, mr160, ml4, ml6, ml7, ml10, ml40, ml160, gu_ib, nI_nat, bi_s, vl_e, gu_t, if_true, if_false, reduceIte, bt1_1, bt1_2, bt1_3, bt1_4, bt1_5, bt1_6, bt1_7, bt1_8, bt1_9, bt1_10, bt1_11, bt1_12, bt14_1, bt14_2, bt14_3, bt14_4, bt14_5, bt14_6, bt14_7, bt14_8, bt14_9, bt14_10, bt14_11, bt14_12, Nat.reduceLeDiff, Nat.reduceEqDiff, Nat.reduceLT, eq_self, Nat.le_refl, Nat.le_zero_eq, Nat.not_lt_zero, w1, b2_t, m_nt h0, (show D_X7_told_143 fu fu (nI 0) (nI 0) m = some (nI (orb (fun y => decide (hg (run ev n) y = 0)) 12), m) from m_gapBits hf D.r H), mAn]
    · refine QQ_r (.inl (nI (orb (fun i => decide (i ≠ 0 ∧ sd (run ev n) i = 1)) 10))) 0 C ho_l ?_ fun x m e D h0 => ?_
      · simp (disch := omega) only [D_X6_told_0, wC, q1, li0, li1, li2, li3, li4, li5, li6, li7, li8, li9, li10, li12, li24, li31, li40, li160, n_le, n_lt, n_eq, n_m1, n_add, mr4, mr6, mr7, mr10, mr40, mr160, ml4, ml6, ml7, ml10, ml40, ml160, gu_ib, nI_nat, bi_s, vl_e, gu_t, if_true, if_false, reduceIte, bt1_1, bt1_2, bt1_3, bt1_4, bt1_5, bt1_6, bt1_7, bt1_8, bt1_9, bt1_10, bt1_11, bt1_12, bt14_1, bt14_2, bt14_3, bt14_4, bt14_5, bt14_6, bt14_7, bt14_8, bt14_9, bt14_10, bt14_11, bt14_12, Nat.reduceLeDiff, Nat.reduceEqDiff, Nat.reduceLT, eq_self, Nat.le_refl, Nat.le_zero_eq, Nat.not_lt_zero, b2_t, c_rt, tx_l, show D_X0_thoseWho_0 fu μ 3 (nI 1) = some (nI (orb (fun i => decide (i ≠ 0 ∧ sd (run ev n) i = 1)) 10)) from c_thoseWho hf (by decide) C.r H, cAn]
      · simp (disch := omega) only [D_X7_told_0, D_X7_told_135, e, li0, li1, li2, li3, li4, li5, li6, li7, li8, li9, li10, li12, li24, li31, li40, li160, n_le, n_lt, n_eq, n_m1, n_add, mr4, mr6, mr7, mr10, mr40, mr160, ml4, ml6, ml7, ml10, ml40, ml160, gu_ib, nI_nat, bi_s, vl_e, gu_t, if_true, if_false, reduceIte, bt1_1, bt1_2, bt1_3, bt1_4, bt1_5, bt1_6, bt1_7, bt1_8, bt1_9, bt1_10, bt1_11, bt1_12, bt14_1, bt14_2, bt14_3, bt14_4, bt14_5, bt14_6, bt14_7, bt14_8, bt14_9, bt14_10, bt14_11, bt14_12, Nat.reduceLeDiff, Nat.reduceEqDiff, Nat.reduceLT, eq_self, Nat.le_refl, Nat.le_zero_eq, Nat.not_lt_zero, w1, b2_t, m_nt h0, m_standBits (v := 1) hf (by decide) D.r H, mAn]
    · refine QQ_r (.inl (nI (orb (fun i => decide (i ≠ 0 ∧ sd (run ev n) i = 2)) 10))) 0 C ho_l ?_ fun x m e D h0 => ?_
      · simp (disch := omega) only [D_X6_told_0, wC, q1, li0, li1, li2, li3, li4, li5, li6, li7, li8, li9, li10, li12, li24, li31, li40, li160, n_le, n_lt, n_eq, n_m1, n_add, mr4, mr6, mr7, mr10, mr40, mr160, ml4, ml6, ml7, ml10, ml40, ml160, gu_ib, nI_nat, bi_s, vl_e, gu_t, if_true, if_false, reduceIte, bt1_1, bt1_2, bt1_3, bt1_4, bt1_5, bt1_6, bt1_7, bt1_8, bt1_9, bt1_10, bt1_11, bt1_12, bt14_1, bt14_2, bt14_3, bt14_4, bt14_5, bt14_6, bt14_7, bt14_8, bt14_9, bt14_10, bt14_11, bt14_12, Nat.reduceLeDiff, Nat.reduceEqDiff, Nat.reduceLT, eq_self, Nat.le_refl, Nat.le_zero_eq, Nat.not_lt_zero, b2_t, c_rt, tx_l, show D_X0_thoseWho_0 fu μ 3 (nI 2) = some (nI (orb (fun i => decide (i ≠ 0 ∧ sd (run ev n) i = 2)) 10)) from c_thoseWho hf (by decide) C.r H, cAn]
      · simp (disch := omega) only [D_X7_told_0, D_X7_told_135, e, li0, li1, li2, li3, li4, li5, li6, li7, li8, li9, li10, li12, li24, li31, li40, li160, n_le, n_lt, n_eq, n_m1, n_add, mr4, mr6, mr7, mr10, mr40, mr160, ml4, ml6, ml7, ml10, ml40, ml160, gu_ib, nI_nat, bi_s, vl_e, gu_t, if_true, if_false, reduceIte, bt1_1, bt1_2, bt1_3, bt1_4, bt1_5, bt1_6, bt1_7, bt1_8, bt1_9, bt1_10, bt1_11, bt1_12, bt14_1, bt14_2, bt14_3, bt14_4, bt14_5, bt14_6, bt14_7, bt14_8, bt14_9, bt14_10, bt14_11, bt14_12, Nat.reduceLeDiff, Nat.reduceEqDiff, Nat.reduceLT, eq_self, Nat.le_refl, Nat.le_zero_eq, Nat.not_lt_zero, w1, b2_t, m_nt h0, m_standBits (v := 2) hf (by decide) D.r H, mAn]
    · refine QQ_r (.inl (nI (sgB (run ev n) (cL (run ev n))))) 0 C ho_l ?_ fun x m e D h0 => ?_
      · simp (disch := omega) only [D_X6_told_0, wC, q1, li0, li1, li2, li3, li4, li5, li6, li7, li8, li9, li10, li12, li24, li31, li40, li160, n_le, n_lt, n_eq, n_m1, n_add, mr4, mr6, mr7, mr10, mr40, mr160, ml4, ml6, ml7, ml10, ml40, ml160, gu_ib, nI_nat, bi_s, vl_e, gu_t, if_true, if_false, reduceIte, bt1_1, bt1_2, bt1_3, bt1_4, bt1_5, bt1_6, bt1_7, bt1_8, bt1_9, bt1_10, bt1_11, bt1_12, bt14_1, bt14_2, bt14_3, bt14_4, bt14_5, bt14_6, bt14_7, bt14_8, bt14_9, bt14_10, bt14_11, bt14_12, Nat.reduceLeDiff, Nat.reduceEqDiff, Nat.reduceLT, eq_self, Nat.le_refl, Nat.le_zero_eq, Nat.not_lt_zero, b2_t, c_rt, tx_l, show D_X5_signerBits_0 fu μ 4 = some (nI (sgB (run ev n) (cL (run ev n)))) from c_signerBits hf hA C.r H, cAn]
      · simp (disch := omega) only [D_X7_told_0, D_X7_told_135, e, li0, li1, li2, li3, li4, li5, li6, li7, li8, li9, li10, li12, li24, li31, li40, li160, n_le, n_lt, n_eq, n_m1, n_add, mr4, mr6, mr7, mr10, mr40, mr160, ml4, ml6, ml7, ml10, ml40, ml160, gu_ib, nI_nat, bi_s, vl_e, gu_t, if_true, if_false, reduceIte, bt1_1, bt1_2, bt1_3, bt1_4, bt1_5, bt1_6, bt1_7, bt1_8, bt1_9, bt1_10, bt1_11, bt1_12, bt14_1, bt14_2, bt14_3, bt14_4, bt14_5, bt14_6, bt14_7, bt14_8, bt14_9, bt14_10, bt14_11, bt14_12, Nat.reduceLeDiff, Nat.reduceEqDiff, Nat.reduceLT, eq_self, Nat.le_refl, Nat.le_zero_eq, Nat.not_lt_zero, w1, b2_t, m_nt h0, m_signBits hf T D.r H, mAn]
/-- years of a harm in order -/
def aY (a b c : Int32) : Bool := if a < 0 then false else if b < a then false else if c < b then false else if (12 : Int32) ≤ c then false else true
theorem c_aY (μ : Mem) (a b c : Int32) : D_X6_areHarmYears_0 μ a b c = some (aY a b c) := by
  unfold D_X6_areHarmYears_0 aY
  repeat' split
  all_goals rfl
theorem m_aY (μ : Mem) (a b c : Int32) : D_X7_areYears_0 μ a b c = some (aY a b c) := by
  unfold D_X7_areYears_0 aY
  repeat' split
  all_goals rfl
theorem aY_n {a b c : Int32} (h : aY a b c = true) : ∃ i j k, a = nI i ∧ b = nI j ∧ c = nI k ∧ i ≤ j ∧ j ≤ k ∧ k < 12 := by
  unfold aY at h
  split at h
  · cases h
  · split at h
    · cases h
    · split at h
      · cases h
      · split at h
        · cases h
        · rename_i h1 h2 h3 h4
          have i0 : (0 : Int32).toInt = 0 := rfl
          have i12 : (12 : Int32).toInt = 12 := rfl
          rw [Int32.lt_iff_toInt_lt, i0] at h1
          rw [Int32.lt_iff_toInt_lt] at h2 h3
          rw [Int32.le_iff_toInt_le, i12] at h4
          refine ⟨a.toInt.toNat, b.toInt.toNat, c.toInt.toNat, ?_, ?_, ?_, by omega, by omega, by omega⟩ <;>
          · apply Int32.toInt_inj.mp
            rw [nI_toInt (by omega)]; omega
theorem q_offs (hf : 200 < fu) (C : CI ev n μ) (a1 a2 a3 a4 : Int32) : QQ ev n (kd 0 1 0) μ (D_X6_offs_0 fu a1 a2 a3 a4 μ) (D_X7_offs_0 fu a1 a2 a3 a4) := by
  cases q1 : aY a1 a2 a3 with
  | false =>
    refine QQ_r (.inr 1) 0 C (ho_r (by decide)) ?_ fun x m e D h0 => ?_
    · simp only [D_X6_offs_0, D_X6_offs_22, D_X6_offs_23, c_aY, q1, li0, li1, li2, li3, li4, li5, li6, li7, li8, li9, li10, li12, li24, li31, li40, li160, n_le, n_lt, n_eq, n_m1, n_add, mr4, mr6, mr7, mr10, mr40, mr160, ml4, ml6, ml7, ml10, ml40, ml160, gu_ib, nI_nat, bi_s, vl_e, gu_t, if_true, if_false, reduceIte, bt1_1, bt1_2, bt1_3, bt1_4, bt1_5, bt1_6, bt1_7, bt1_8, bt1_9, bt1_10, bt1_11, bt1_12, bt14_1, bt14_2, bt14_3, bt14_4, bt14_5, bt14_6, bt14_7, bt14_8, bt14_9, bt14_10, bt14_11, bt14_12, Nat.reduceLeDiff, Nat.reduceEqDiff, Nat.reduceLT, eq_self, Nat.le_refl, Nat.le_zero_eq, Nat.not_lt_zero, Bool.false_eq_true, c_rf, tx_r, cAn]
    · have nf := m_nf (k := 1) (j := 1) h0 (by decide) (by decide) (by decide)
      simp only [D_X7_offs_0, D_X7_offs_32, D_X7_offs_33, e, li0, li1, li2, li3, li4, li5, li6, li7, li8, li9, li10, li12, li24, li31, li40, li160, n_le, n_lt, n_eq, n_m1, n_add, mr4, mr6, mr7, mr10, mr40, mr160, ml4, ml6, ml7, ml10, ml40, ml160, gu_ib, nI_nat, bi_s, vl_e, gu_t, if_true, if_false, reduceIte, bt1_1, bt1_2, bt1_3, bt1_4, bt1_5, bt1_6, bt1_7, bt1_8, bt1_9, bt1_10, bt1_11, bt1_12, bt14_1, bt14_2, bt14_3, bt14_4, bt14_5, bt14_6, bt14_7, bt14_8, bt14_9, bt14_10, bt14_11, bt14_12, Nat.reduceLeDiff, Nat.reduceEqDiff, Nat.reduceLT, eq_self, Nat.le_refl, Nat.le_zero_eq, Nat.not_lt_zero, m_aY, q1, nf, Bool.false_eq_true, mAn, kd]
  | true =>
    cases q2 : inC a4 (nI 0) (nI 3) with
    | false =>
      have w2 := fun m => mWq q2 (L := 0) (H := 3) rfl rfl m
      refine QQ_r (.inr 1) 0 C (ho_r (by decide)) ?_ fun x m e D h0 => ?_
      · simp only [D_X6_offs_0, D_X6_offs_22, D_X6_offs_23, D_X6_isRule_0, wC, c_aY, q1, q2, li0, li1, li2, li3, li4, li5, li6, li7, li8, li9, li10, li12, li24, li31, li40, li160, n_le, n_lt, n_eq, n_m1, n_add, mr4, mr6, mr7, mr10, mr40, mr160, ml4, ml6, ml7, ml10, ml40, ml160, gu_ib, nI_nat, bi_s, vl_e, gu_t, if_true, if_false, reduceIte, bt1_1, bt1_2, bt1_3, bt1_4, bt1_5, bt1_6, bt1_7, bt1_8, bt1_9, bt1_10, bt1_11, bt1_12, bt14_1, bt14_2, bt14_3, bt14_4, bt14_5, bt14_6, bt14_7, bt14_8, bt14_9, bt14_10, bt14_11, bt14_12, Nat.reduceLeDiff, Nat.reduceEqDiff, Nat.reduceLT, eq_self, Nat.le_refl, Nat.le_zero_eq, Nat.not_lt_zero, Bool.false_eq_true, c_rf, tx_r, cAn]
      · have nf := m_nf (k := 1) (j := 1) h0 (by decide) (by decide) (by decide)
        simp only [D_X7_offs_0, D_X7_offs_32, D_X7_offs_33, e, li0, li1, li2, li3, li4, li5, li6, li7, li8, li9, li10, li12, li24, li31, li40, li160, n_le, n_lt, n_eq, n_m1, n_add, mr4, mr6, mr7, mr10, mr40, mr160, ml4, ml6, ml7, ml10, ml40, ml160, gu_ib, nI_nat, bi_s, vl_e, gu_t, if_true, if_false, reduceIte, bt1_1, bt1_2, bt1_3, bt1_4, bt1_5, bt1_6, bt1_7, bt1_8, bt1_9, bt1_10, bt1_11, bt1_12, bt14_1, bt14_2, bt14_3, bt14_4, bt14_5, bt14_6, bt14_7, bt14_8, bt14_9, bt14_10, bt14_11, bt14_12, Nat.reduceLeDiff, Nat.reduceEqDiff, Nat.reduceLT, eq_self, Nat.le_refl, Nat.le_zero_eq, Nat.not_lt_zero, m_aY, q1, w2, nf, Bool.false_eq_true, mAn, kd]
    | true =>
      have w2 := fun m => mWq q2 (L := 0) (H := 3) rfl rfl m
      obtain ⟨i, j, k, rfl, rfl, rfl, h1, h2, h3⟩ := aY_n q1
      obtain ⟨t, rfl, tl, ht⟩ := inC_n (by decide) (by decide) q2
      refine QQ_r (.inl (nI (offV i j k t))) 0 C ho_l ?_ fun x m e D h0 => ?_
      · simp only [D_X6_offs_0, D_X6_offs_23, D_X6_isRule_0, wC, c_aY, q1, q2, li0, li1, li2, li3, li4, li5, li6, li7, li8, li9, li10, li12, li24, li31, li40, li160, n_le, n_lt, n_eq, n_m1, n_add, mr4, mr6, mr7, mr10, mr40, mr160, ml4, ml6, ml7, ml10, ml40, ml160, gu_ib, nI_nat, bi_s, vl_e, gu_t, if_true, if_false, reduceIte, bt1_1, bt1_2, bt1_3, bt1_4, bt1_5, bt1_6, bt1_7, bt1_8, bt1_9, bt1_10, bt1_11, bt1_12, bt14_1, bt14_2, bt14_3, bt14_4, bt14_5, bt14_6, bt14_7, bt14_8, bt14_9, bt14_10, bt14_11, bt14_12, Nat.reduceLeDiff, Nat.reduceEqDiff, Nat.reduceLT, eq_self, Nat.le_refl, Nat.le_zero_eq, Nat.not_lt_zero, c_rt, tx_l, cOff (show 13 < fu by omega) μ h1 h2 h3 ht, cAn]
      · simp only [D_X7_offs_0, D_X7_offs_33, e, li0, li1, li2, li3, li4, li5, li6, li7, li8, li9, li10, li12, li24, li31, li40, li160, n_le, n_lt, n_eq, n_m1, n_add, mr4, mr6, mr7, mr10, mr40, mr160, ml4, ml6, ml7, ml10, ml40, ml160, gu_ib, nI_nat, bi_s, vl_e, gu_t, if_true, if_false, reduceIte, bt1_1, bt1_2, bt1_3, bt1_4, bt1_5, bt1_6, bt1_7, bt1_8, bt1_9, bt1_10, bt1_11, bt1_12, bt14_1, bt14_2, bt14_3, bt14_4, bt14_5, bt14_6, bt14_7, bt14_8, bt14_9, bt14_10, bt14_11, bt14_12, Nat.reduceLeDiff, Nat.reduceEqDiff, Nat.reduceLT, eq_self, Nat.le_refl, Nat.le_zero_eq, Nat.not_lt_zero, m_aY, q1, w2, m_nt h0, mOff (show 13 < fu by omega) m h1 h2 h3 ht, mAn]
end
