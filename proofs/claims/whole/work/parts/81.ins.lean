/-! questions that read: at, insurer, rank -/
theorem least {P : Nat → Prop} (h : ∃ l, P l) : ∃ l, P l ∧ ∀ j, j < l → ¬ P j := by
  obtain ⟨l, hl⟩ := h
  induction l using Nat.strongRecOn with
  | ind l ih =>
    by_cases q : ∃ j, j < l ∧ P j
    · obtain ⟨j, hj, pj⟩ := q
      exact ih j hj pj
    · exact ⟨l, hl, fun j hj pj => q ⟨j, hj, pj⟩⟩
section
variable {fu n N : Nat} {ev : Nat → Ev} {μ m : Mem} {s : Sp}
theorem m_atS {y v l : Nat} (hy : y < 12) (hv : v ≤ 1000000000) (hl : l < 40) (R : RM m s) (H : Iv N s) (k : Nat) : D_X7_layerAt_2 fu m (k + 1) (nI y) (nI v) (nI l) = if (isL s l = 1 ∧ yr s l = y) ∧ fr s l ≤ v ∧ v < tp s l then some (nI l) else D_X7_layerAt_2 fu m k (nI y) (nI v) (nI (l + 1)) := by
  simp (disch := omega) only [D_X7_layerAt_2, D_X7_layerAt_38, li0, li1, li2, li3, li4, li5, li6, li7, li8, li9, li10, li12, li24, li31, li40, li160, n_le, n_lt, n_eq, n_m1, n_add, mr4, mr6, mr7, mr10, mr40, mr160, ml4, ml6, ml7, ml10, ml40, ml160, gu_ib, nI_nat, bi_s, vl_e, gu_t, if_true, if_false, reduceIte, bt1_1, bt1_2, bt1_3, bt1_4, bt1_5, bt1_6, bt1_7, bt1_8, bt1_9, bt1_10, bt1_11, bt1_12, bt14_1, bt14_2, bt14_3, bt14_4, bt14_5, bt14_6, bt14_7, bt14_8, bt14_9, bt14_10, bt14_11, bt14_12, m_isIn hl hy R.a H.T]
  rw [if_neg (by omega)]
  by_cases q : isL s l = 1 ∧ yr s l = y
  · have b1 := IvT_sz H.T hl q.1
    have b2 := IvT_fr H.T hl q.1
    have t9 : tp s l < 2147483648 := by unfold tp; omega
    rw [if_pos (decide_eq_true q), M_fr R hl q.1, m_top hl q.1 R.a, bi_s]
    simp (disch := omega) only [n_lt, n_le]
    by_cases c1 : v < fr s l
    · rw [if_pos c1, if_neg (by omega)]
    · rw [if_neg c1]
      by_cases c2 : tp s l ≤ v
      · rw [if_pos c2, if_neg (by omega)]
      · rw [if_neg c2, if_pos ⟨q, by omega, by omega⟩]
  · rw [if_neg (by simp [q]), if_neg (fun z => q z.1)]
theorem m_at57 {y v l : Nat} (hy : y < 12) (hv : v ≤ 1000000000) (hl : l < 40) (R : RM m s) (H : Iv N s) (k : Nat) : D_X7_at_57 fu (k + 1) (nI y) (nI v) (nI l) m = if (isL s l = 1 ∧ yr s l = y) ∧ v < fr s l then some (-1, m) else D_X7_at_57 fu k (nI y) (nI v) (nI (l + 1)) m := by
  rw [D_X7_at_57]
  simp (disch := omega) only [D_X7_at_87, li0, li1, li2, li3, li4, li5, li6, li7, li8, li9, li10, li12, li24, li31, li40, li160, n_le, n_lt, n_eq, n_m1, n_add, mr4, mr6, mr7, mr10, mr40, mr160, ml4, ml6, ml7, ml10, ml40, ml160, gu_ib, nI_nat, bi_s, vl_e, gu_t, if_true, if_false, reduceIte, bt1_1, bt1_2, bt1_3, bt1_4, bt1_5, bt1_6, bt1_7, bt1_8, bt1_9, bt1_10, bt1_11, bt1_12, bt14_1, bt14_2, bt14_3, bt14_4, bt14_5, bt14_6, bt14_7, bt14_8, bt14_9, bt14_10, bt14_11, bt14_12, m_isIn hl hy R.a H.T]
  rw [if_neg (by omega)]
  by_cases q : isL s l = 1 ∧ yr s l = y
  · have b2 := IvT_fr H.T hl q.1
    rw [if_pos (decide_eq_true q), M_fr R hl q.1]
    simp (disch := omega) only [n_lt, n_le]
    by_cases c1 : v < fr s l
    · rw [if_neg (by omega), if_pos ⟨q, c1⟩]
    · rw [if_pos (by omega), if_neg (fun z => c1 z.2)]
  · rw [if_neg (by simp [q]), if_neg (fun z => q z.1)]
theorem m_at {y v : Nat} {r : Int32} (hf : 200 < fu) (hy : y < 12) (hv : v ≤ 1000000000) (A : AH s y v r) (R : RM m s) (H : Iv N s) : ((D_X7_layerAt_0 fu m (nI y) (nI v)).bind fun x9 => if x9 = (-1 : Int32) then D_X7_at_57 fu fu (nI y) (nI v) 0 m else some (x9, m)) = some (r, m) := by
  unfold D_X7_layerAt_0
  have e40 : ∀ k, D_X7_layerAt_2 fu m (k + 1) (nI y) (nI v) (nI 40) = some (-1) := fun k => by
    simp (disch := omega) only [D_X7_layerAt_2, li0, li1, li2, li3, li4, li5, li6, li7, li8, li9, li10, li12, li24, li31, li40, li160, n_le, n_lt, n_eq, n_m1, n_add, mr4, mr6, mr7, mr10, mr40, mr160, ml4, ml6, ml7, ml10, ml40, ml160, gu_ib, nI_nat, bi_s, vl_e, gu_t, if_true, if_false, reduceIte, bt1_1, bt1_2, bt1_3, bt1_4, bt1_5, bt1_6, bt1_7, bt1_8, bt1_9, bt1_10, bt1_11, bt1_12, bt14_1, bt14_2, bt14_3, bt14_4, bt14_5, bt14_6, bt14_7, bt14_8, bt14_9, bt14_10, bt14_11, bt14_12]
    rw [if_pos (by omega)]
  have no : (∀ k, k < hg s y → ¬ (fr s (rg s (6 * y + k)) ≤ v ∧ v < tp s (rg s (6 * y + k)))) → D_X7_layerAt_2 fu m fu (nI y) (nI v) 0 = some (-1) := fun hn => by
    refine eq_for (fun n l => D_X7_layerAt_2 fu m n (nI y) (nI v) (nI l)) 40 _ ?_ ?_ fu 0 (by omega) (by omega)
    · intro n l hl
      show D_X7_layerAt_2 fu m (n + 1) (nI y) (nI v) (nI l) = D_X7_layerAt_2 fu m n (nI y) (nI v) (nI (l + 1))
      rw [m_atS hy hv hl R H, if_neg]
      rintro ⟨⟨h1, h2⟩, h3⟩
      obtain ⟨k, hk, e⟩ := IvT_in H.T hl h1
      rw [h2] at hk e
      exact hn k hk (by rw [e]; exact h3)
    · intro n; exact e40 n
  rcases A with ⟨k, hk, h1, h2, rfl⟩ | ⟨hn, ⟨k, hk, h1⟩, rfl⟩ | ⟨hn, rfl⟩
  · have g4 := IvT_rg H.T hy hk
    have g1 := IvT_ri H.T hy hk
    have gy := IvT_ry H.T hy hk
    have K : D_X7_layerAt_2 fu m fu (nI y) (nI v) 0 = some (nI (rg s (6 * y + k))) := by
      refine eq_for (fun n l => D_X7_layerAt_2 fu m n (nI y) (nI v) (nI l)) (rg s (6 * y + k)) _ ?_ ?_ fu 0 (by omega) (by omega)
      · intro n l hl
        show D_X7_layerAt_2 fu m (n + 1) (nI y) (nI v) (nI l) = D_X7_layerAt_2 fu m n (nI y) (nI v) (nI (l + 1))
        rw [m_atS hy hv (by omega) R H, if_neg]
        rintro ⟨⟨p1, p2⟩, p3⟩
        obtain ⟨j, hj, e⟩ := IvT_in H.T (show l < 40 by omega) p1
        rw [p2] at hj e
        rcases Nat.lt_trichotomy j k with c | c | c
        · have := st_lt H.T hy c hk
          rw [e] at this; omega
        · rw [c] at e; omega
        · have := st_lt H.T hy c hj
          rw [e] at this; omega
      · intro n
        show D_X7_layerAt_2 fu m (n + 1) (nI y) (nI v) (nI (rg s (6 * y + k))) = _
        rw [m_atS hy hv g4 R H, if_pos ⟨⟨g1, gy⟩, h1, h2⟩]
    rw [K, bi_s, if_neg (fun z => by rwa [n_m1 (show rg s (6 * y + k) < 2147483648 by omega)] at z)]
  · rw [no hn, bi_s, if_pos rfl]
    obtain ⟨l1, p1, p2⟩ := least (P := fun l => (isL s l = 1 ∧ yr s l = y) ∧ v < fr s l ∧ l < 40) ⟨rg s (6 * y + k), ⟨IvT_ri H.T hy hk, IvT_ry H.T hy hk⟩, h1, IvT_rg H.T hy hk⟩
    refine eq_for (fun n l => D_X7_at_57 fu n (nI y) (nI v) (nI l) m) l1 _ ?_ ?_ fu 0 (by omega) (by omega)
    · intro n l hl
      show D_X7_at_57 fu (n + 1) (nI y) (nI v) (nI l) m = D_X7_at_57 fu n (nI y) (nI v) (nI (l + 1)) m
      rw [m_at57 hy hv (by omega) R H, if_neg (fun z => p2 l hl ⟨z.1, z.2, by omega⟩)]
    · intro n
      show D_X7_at_57 fu (n + 1) (nI y) (nI v) (nI l1) m = _
      rw [m_at57 hy hv p1.2.2 R H, if_pos ⟨p1.1, p1.2.1⟩]
  · rw [no (fun k hk z => by have := hn k hk; omega), bi_s, if_pos rfl]
    refine eq_for (fun n l => D_X7_at_57 fu n (nI y) (nI v) (nI l) m) 40 _ ?_ ?_ fu 0 (by omega) (by omega)
    · intro n l hl
      show D_X7_at_57 fu (n + 1) (nI y) (nI v) (nI l) m = D_X7_at_57 fu n (nI y) (nI v) (nI (l + 1)) m
      rw [m_at57 hy hv hl R H, if_neg]
      rintro ⟨⟨q1, q2⟩, q3⟩
      obtain ⟨k, hk, e⟩ := IvT_in H.T hl q1
      rw [q2] at hk e
      have a := hn k hk
      have b := fr_tp H.T hl q1
      rw [e] at a; omega
    · intro n
      show D_X7_at_57 fu (n + 1) (nI y) (nI v) (nI 40) m = _
      rw [D_X7_at_57]
      simp (disch := omega) only [li0, li1, li2, li3, li4, li5, li6, li7, li8, li9, li10, li12, li24, li31, li40, li160, n_le, n_lt, n_eq, n_m1, n_add, mr4, mr6, mr7, mr10, mr40, mr160, ml4, ml6, ml7, ml10, ml40, ml160, gu_ib, nI_nat, bi_s, vl_e, gu_t, if_true, if_false, reduceIte, bt1_1, bt1_2, bt1_3, bt1_4, bt1_5, bt1_6, bt1_7, bt1_8, bt1_9, bt1_10, bt1_11, bt1_12, bt14_1, bt14_2, bt14_3, bt14_4, bt14_5, bt14_6, bt14_7, bt14_8, bt14_9, bt14_10, bt14_11, bt14_12]
      rw [if_pos (by omega)]
theorem q_at (hf : 200 < fu) (G : EG ev n) (C : CI ev n μ) (a1 a2 : Int32) : QQ ev n (kd 0 1 0) μ (D_X6_at_0 fu a1 a2 μ) (D_X7_at_0 fu a1 a2) := by
  have H := run_Iv G
  cases q1 : inC a1 (nI 0) (nI 11) with
  | false =>
    have w1 := fun m => mWq q1 (L := 0) (H := 11) rfl rfl m
    refine QQ_r (.inr 1) 0 C (ho_r (by decide)) ?_ fun x m e D h0 => ?_
    · simp only [D_X6_at_0, D_X6_at_19, D_X6_at_20, D_X6_isYear_0, wC, li11, q1, li0, li1, li2, li3, li4, li5, li6, li7, li8, li9, li10, li12, li24, li31, li40, li160, n_le, n_lt, n_eq, n_m1, n_add, mr4, mr6, mr7, mr10, mr40, mr160, ml4, ml6, ml7, ml10, ml40, ml160, gu_ib, nI_nat, bi_s, vl_e, gu_t, if_true, if_false, reduceIte, bt1_1, bt1_2, bt1_3, bt1_4, bt1_5, bt1_6, bt1_7, bt1_8, bt1_9, bt1_10, bt1_11, bt1_12, bt14_1, bt14_2, bt14_3, bt14_4, bt14_5, bt14_6, bt14_7, bt14_8, bt14_9, bt14_10, bt14_11, bt14_12, Nat.reduceLeDiff, Nat.reduceEqDiff, Nat.reduceLT, eq_self, Nat.le_refl, Nat.le_zero_eq, Nat.not_lt_zero, Bool.false_eq_true, c_rf, tx_r, cAn]
    · have nf := m_nf (k := 1) (j := 1) h0 (by decide) (by decide) (by decide)
      simp only [D_X7_at_0, D_X7_at_29, D_X7_at_30, e, li0, li1, li2, li3, li4, li5, li6, li7, li8, li9, li10, li12, li24, li31, li40, li160, n_le, n_lt, n_eq, n_m1, n_add, mr4, mr6, mr7, mr10, mr40, mr160, ml4, ml6, ml7, ml10, ml40, ml160, gu_ib, nI_nat, bi_s, vl_e, gu_t, if_true, if_false, reduceIte, bt1_1, bt1_2, bt1_3, bt1_4, bt1_5, bt1_6, bt1_7, bt1_8, bt1_9, bt1_10, bt1_11, bt1_12, bt14_1, bt14_2, bt14_3, bt14_4, bt14_5, bt14_6, bt14_7, bt14_8, bt14_9, bt14_10, bt14_11, bt14_12, Nat.reduceLeDiff, Nat.reduceEqDiff, Nat.reduceLT, eq_self, Nat.le_refl, Nat.le_zero_eq, Nat.not_lt_zero, w1, nf, Bool.false_eq_true, mAn, kd]
  | true =>
    have w1 := fun m => mWq q1 (L := 0) (H := 11) rfl rfl m
    cases q2 : inC a2 (nI 0) (nI 1000000000) with
    | false =>
      have w2 := fun m => mWq q2 (L := 0) (H := 1000000000) rfl rfl m
      refine QQ_r (.inr 1) 0 C (ho_r (by decide)) ?_ fun x m e D h0 => ?_
      · simp only [D_X6_at_0, D_X6_at_19, D_X6_at_20, D_X6_isYear_0, D_X6_isHeight_0, wC, li11, li1e9, q1, q2, li0, li1, li2, li3, li4, li5, li6, li7, li8, li9, li10, li12, li24, li31, li40, li160, n_le, n_lt, n_eq, n_m1, n_add, mr4, mr6, mr7, mr10, mr40, mr160, ml4, ml6, ml7, ml10, ml40, ml160, gu_ib, nI_nat, bi_s, vl_e, gu_t, if_true, if_false, reduceIte, bt1_1, bt1_2, bt1_3, bt1_4, bt1_5, bt1_6, bt1_7, bt1_8, bt1_9, bt1_10, bt1_11, bt1_12, bt14_1, bt14_2, bt14_3, bt14_4, bt14_5, bt14_6, bt14_7, bt14_8, bt14_9, bt14_10, bt14_11, bt14_12, Nat.reduceLeDiff, Nat.reduceEqDiff, Nat.reduceLT, eq_self, Nat.le_refl, Nat.le_zero_eq, Nat.not_lt_zero, Bool.false_eq_true, c_rf, tx_r, cAn]
      · have nf := m_nf (k := 1) (j := 1) h0 (by decide) (by decide) (by decide)
        simp only [D_X7_at_0, D_X7_at_29, D_X7_at_30, D_X7_isHeight_0, e, li0, li1, li2, li3, li4, li5, li6, li7, li8, li9, li10, li12, li24, li31, li40, li160, n_le, n_lt, n_eq, n_m1, n_add, mr4, mr6, mr7, mr10, mr40, mr160, ml4, ml6, ml7, ml10, ml40, ml160, gu_ib, nI_nat, bi_s, vl_e, gu_t, if_true, if_false, reduceIte, bt1_1, bt1_2, bt1_3, bt1_4, bt1_5, bt1_6, bt1_7, bt1_8, bt1_9, bt1_10, bt1_11, bt1_12, bt14_1, bt14_2, bt14_3, bt14_4, bt14_5, bt14_6, bt14_7, bt14_8, bt14_9, bt14_10, bt14_11, bt14_12, Nat.reduceLeDiff, Nat.reduceEqDiff, Nat.reduceLT, eq_self, Nat.le_refl, Nat.le_zero_eq, Nat.not_lt_zero, w1, w2, nf, Bool.false_eq_true, mAn, kd]
    | true =>
      have w2 := fun m => mWq q2 (L := 0) (H := 1000000000) rfl rfl m
      obtain ⟨y, rfl, yl, hy⟩ := inC_n (by decide) (by decide) q1
      obtain ⟨v, rfl, vl', hv⟩ := inC_n (by decide) (by decide) q2
      obtain ⟨r, er, A⟩ := ok_eq (c_atHeight hf (show y < 12 by omega) hv C.r H)
      refine QQ_r (.inl r) 0 C ho_l ?_ fun x m e D h0 => ?_
      · simp only [D_X6_at_0, D_X6_at_20, D_X6_isYear_0, D_X6_isHeight_0, wC, li11, li1e9, q1, q2, li0, li1, li2, li3, li4, li5, li6, li7, li8, li9, li10, li12, li24, li31, li40, li160, n_le, n_lt, n_eq, n_m1, n_add, mr4, mr6, mr7, mr10, mr40, mr160, ml4, ml6, ml7, ml10, ml40, ml160, gu_ib, nI_nat, bi_s, vl_e, gu_t, if_true, if_false, reduceIte, bt1_1, bt1_2, bt1_3, bt1_4, bt1_5, bt1_6, bt1_7, bt1_8, bt1_9, bt1_10, bt1_11, bt1_12, bt14_1, bt14_2, bt14_3, bt14_4, bt14_5, bt14_6, bt14_7, bt14_8, bt14_9, bt14_10, bt14_11, bt14_12, Nat.reduceLeDiff, Nat.reduceEqDiff, Nat.reduceLT, eq_self, Nat.le_refl, Nat.le_zero_eq, Nat.not_lt_zero, c_rt, tx_l, show D_X5_layerAtHeight_0 fu μ 4 (nI y) (nI v) = some r from er, cAn]
      · have ma := m_at hf (show y < 12 by omega) hv A D.r H
        simp only [D_X7_at_0, D_X7_at_30, D_X7_isHeight_0, e, w1, w2, li0, li1, bi_s, vl_e, reduceIte, m_nt h0, mAn]
        exact ma
theorem m_bearsAll {i : Nat} (hf : 200 < fu) (hi : i < 10) (R : RM m s) (H : Iv N s) : D_X7_bearsAll_0 fu m (nI i) = some (zL (bA s i)) := by
  unfold D_X7_bearsAll_0 bA
  refine eq_for (fun n h => D_X7_bearsAll_5 fu m n (nI i) (zL (sm (fun h => if isH s h = 1 then bO s h i else 0) h)) (nI h)) 24 _ ?_ ?_ fu 0 (by omega) (by omega)
  · intro n h hh
    have i2 := IvH_is H.H (show h < 25 by omega)
    simp (disch := omega) only [D_X7_bearsAll_5, D_X7_bearsAll_34, li0, li1, li2, li3, li4, li5, li6, li7, li8, li9, li10, li12, li24, li31, li40, li160, n_le, n_lt, n_eq, n_m1, n_add, mr4, mr6, mr7, mr10, mr40, mr160, ml4, ml6, ml7, ml10, ml40, ml160, gu_ib, nI_nat, bi_s, vl_e, gu_t, if_true, if_false, reduceIte, bt1_1, bt1_2, bt1_3, bt1_4, bt1_5, bt1_6, bt1_7, bt1_8, bt1_9, bt1_10, bt1_11, bt1_12, bt14_1, bt14_2, bt14_3, bt14_4, bt14_5, bt14_6, bt14_7, bt14_8, bt14_9, bt14_10, bt14_11, bt14_12, ll0, ll1, ll2, ll10, ll2e9, M_ish R, m_bearsOf hf (show h < 25 by omega) hi R, z_add]
    rw [if_neg (by omega), sm_s]
    by_cases q : isH s h = 1
    · rw [if_neg (by omega), if_pos q]
    · rw [if_pos (by omega), if_neg q]
  · intro n
    simp (disch := omega) only [D_X7_bearsAll_5, li0, li1, li2, li3, li4, li5, li6, li7, li8, li9, li10, li12, li24, li31, li40, li160, n_le, n_lt, n_eq, n_m1, n_add, mr4, mr6, mr7, mr10, mr40, mr160, ml4, ml6, ml7, ml10, ml40, ml160, gu_ib, nI_nat, bi_s, vl_e, gu_t, if_true, if_false, reduceIte, bt1_1, bt1_2, bt1_3, bt1_4, bt1_5, bt1_6, bt1_7, bt1_8, bt1_9, bt1_10, bt1_11, bt1_12, bt14_1, bt14_2, bt14_3, bt14_4, bt14_5, bt14_6, bt14_7, bt14_8, bt14_9, bt14_10, bt14_11, bt14_12]
    rw [if_pos (by omega)]
theorem m_cash (hf : 200 < fu) (R : RM m s) (H : Iv N s) : D_X7_cashOf_0 fu m (nI 0) = some (zL (sm (fun i => (cs s (i + 1) : Int)) 9)) := by
  unfold D_X7_cashOf_0
  rw [if_pos (by decide)]
  refine eq_for (fun n i => D_X7_cashOf_17 fu m n (zL (sm (fun i => (cs s (i + 1) : Int)) i)) (nI (i + 1))) 9 _ ?_ ?_ fu 0 (by omega) (by omega)
  · intro n i hi
    have c := IvR_cs H.R (show i + 1 < 10 by omega)
    simp (disch := omega) only [D_X7_cashOf_17, li0, li1, li2, li3, li4, li5, li6, li7, li8, li9, li10, li12, li24, li31, li40, li160, n_le, n_lt, n_eq, n_m1, n_add, mr4, mr6, mr7, mr10, mr40, mr160, ml4, ml6, ml7, ml10, ml40, ml160, gu_ib, nI_nat, bi_s, vl_e, gu_t, if_true, if_false, reduceIte, bt1_1, bt1_2, bt1_3, bt1_4, bt1_5, bt1_6, bt1_7, bt1_8, bt1_9, bt1_10, bt1_11, bt1_12, bt14_1, bt14_2, bt14_3, bt14_4, bt14_5, bt14_6, bt14_7, bt14_8, bt14_9, bt14_10, bt14_11, bt14_12, M_cs R, n_L, z_add]
    rw [if_neg (by omega), sm_s]
  · intro n
    simp (disch := omega) only [D_X7_cashOf_17, li0, li1, li2, li3, li4, li5, li6, li7, li8, li9, li10, li12, li24, li31, li40, li160, n_le, n_lt, n_eq, n_m1, n_add, mr4, mr6, mr7, mr10, mr40, mr160, ml4, ml6, ml7, ml10, ml40, ml160, gu_ib, nI_nat, bi_s, vl_e, gu_t, if_true, if_false, reduceIte, bt1_1, bt1_2, bt1_3, bt1_4, bt1_5, bt1_6, bt1_7, bt1_8, bt1_9, bt1_10, bt1_11, bt1_12, bt14_1, bt14_2, bt14_3, bt14_4, bt14_5, bt14_6, bt14_7, bt14_8, bt14_9, bt14_10, bt14_11, bt14_12]
    rw [if_pos (by omega)]
/-- what a layer brings to a sum over signers -/
def gS (s : Sp) (a l t : Nat) : Int := if 0 < t then (if a = 0 then 1 else lf s l * (t : Int) / 10) else 0
theorem m_signedBy {i a : Nat} (hf : 200 < fu) (hi : i < 10) (ha : a ≤ 1) (R : RM m s) (H : Iv N s) : D_X7_signedBy_0 fu m (nI i) (nI a) = some (zL (sm (fun l => gS s a l (tbS s l i (ng s l))) 40)) := by
  unfold D_X7_signedBy_0
  refine eq_for (fun n l => D_X7_signedBy_5 fu m n (nI i) (nI a) (zL (sm (fun l => gS s a l (tbS s l i (ng s l))) l)) (nI l)) 40 _ ?_ ?_ fu 0 (by omega) (by omega)
  · intro n1 l hl
    have n4 := IvT_ng H.T hl
    have i2 := IvT_is H.T hl
    show D_X7_signedBy_5 fu m (n1 + 1) (nI i) (nI a) _ (nI l) = _
    rw [D_X7_signedBy_5]
    simp (disch := omega) only [li0, li1, li2, li3, li4, li5, li6, li7, li8, li9, li10, li12, li24, li31, li40, li160, n_le, n_lt, n_eq, n_m1, n_add, mr4, mr6, mr7, mr10, mr40, mr160, ml4, ml6, ml7, ml10, ml40, ml160, gu_ib, nI_nat, bi_s, vl_e, gu_t, if_true, if_false, reduceIte, bt1_1, bt1_2, bt1_3, bt1_4, bt1_5, bt1_6, bt1_7, bt1_8, bt1_9, bt1_10, bt1_11, bt1_12, bt14_1, bt14_2, bt14_3, bt14_4, bt14_5, bt14_6, bt14_7, bt14_8, bt14_9, bt14_10, bt14_11, bt14_12]
    rw [if_neg (by omega), sm_s]
    generalize sm (fun l => gS s a l (tbS s l i (ng s l))) l = S
    have K := eq_for (fun n k => D_X7_signedBy_15 fu m (D_X7_signedBy_5 fu m n1) n (nI i) (nI a) (zL (S + gS s a l (tbS s l i k))) (nI l) (nI k)) (ng s l) (D_X7_signedBy_5 fu m n1 (nI i) (nI a) (zL (S + gS s a l (tbS s l i (ng s l)))) (nI (l + 1))) ?_ ?_ fu 0 (by omega) (by omega)
    · have z : S + gS s a l (tbS s l i 0) = S := by unfold gS tbS; rw [if_neg (by omega)]; omega
      rw [z] at K; exact K
    · intro q k hk
      have l1 : isL s l = 1 := i2.resolve_left fun z => by have := IvT_n0 H.T hl z; omega
      have tb := tbS_0 H.T hl (i := i) (n := k) (by omega)
      have t10 := tbS_le H.T hl i (n := ng s l) (Nat.le_refl _)
      have b1 := lf_b hl l1 H
      have s10 := IvT_sg H.T hl hk
      have t1 := IvT_tn H.T hl hk
      have t11 : tn s (4 * l + k) ≤ 10 := tn_le H.T hl hk
      show D_X7_signedBy_15 fu m _ (q + 1) (nI i) (nI a) _ (nI l) (nI k) = _
      rw [D_X7_signedBy_15]
      simp (disch := omega) only [D_X7_signedBy_86, D_X7_signedBy_88, D_X7_signedBy_94, li0, li1, li2, li3, li4, li5, li6, li7, li8, li9, li10, li12, li24, li31, li40, li160, n_le, n_lt, n_eq, n_m1, n_add, mr4, mr6, mr7, mr10, mr40, mr160, ml4, ml6, ml7, ml10, ml40, ml160, gu_ib, nI_nat, bi_s, vl_e, gu_t, if_true, if_false, reduceIte, bt1_1, bt1_2, bt1_3, bt1_4, bt1_5, bt1_6, bt1_7, bt1_8, bt1_9, bt1_10, bt1_11, bt1_12, bt14_1, bt14_2, bt14_3, bt14_4, bt14_5, bt14_6, bt14_7, bt14_8, bt14_9, bt14_10, bt14_11, bt14_12, M_is R hl, M_ng R hl, M_sg R hl hk, M_tn R hl hk]
      rw [if_neg (by omega), if_neg (by omega)]
      have e1 : tbS s l i (k + 1) = if sg s (4 * l + k) = i then tn s (4 * l + k) else tbS s l i k := rfl
      by_cases c : sg s (4 * l + k) = i
      · have z0 : tbS s l i k = 0 := tb.mpr fun j hj z => by have := IvT_sd H.T hl (show j < ng s l by omega) hk (z.trans c.symm); omega
        rw [if_pos c, e1, if_pos c, z0]
        have g0 : gS s a l 0 = 0 := by unfold gS; rw [if_neg (by omega)]
        rw [g0, Int.add_zero]
        have gt : gS s a l (tn s (4 * l + k)) = if a = 0 then 1 else lf s l * (tn s (4 * l + k) : Int) / 10 := by unfold gS; rw [if_pos (by omega)]
        rw [gt]
        by_cases a0 : a = 0
        · rw [if_pos a0, if_pos a0]
          show D_X7_signedBy_15 fu m _ q (nI i) (nI a) (zL S + zL 1) (nI l) (nI (k + 1)) = _
          rw [z_add]
        · have mp : 0 ≤ lf s l * (tn s (4 * l + k) : Int) := Int.mul_nonneg b1.1 (by omega)
          have mb : lf s l * (tn s (4 * l + k) : Int) ≤ 400000000 * 10 := Int.mul_le_mul b1.2.1 (by omega) (by omega) (by omega)
          rw [if_neg a0, if_neg a0, m_leftU hl l1 R.a H.T (M_us R hl), bi_s, n_L (by omega)]
          show D_X7_signedBy_15 fu m _ q (nI i) (nI a) (zL S + zL (lf s l) * zL _ / zL 10) (nI l) (nI (k + 1)) = _
          rw [z_mul, z_div mp (by omega) (by omega) (by omega), z_add]
      · rw [if_neg c, e1, if_neg c]
    · intro q
      show D_X7_signedBy_15 fu m _ (q + 1) (nI i) (nI a) _ (nI l) (nI (ng s l)) = _
      rw [D_X7_signedBy_15]
      simp (disch := omega) only [D_X7_signedBy_94, li0, li1, li2, li3, li4, li5, li6, li7, li8, li9, li10, li12, li24, li31, li40, li160, n_le, n_lt, n_eq, n_m1, n_add, mr4, mr6, mr7, mr10, mr40, mr160, ml4, ml6, ml7, ml10, ml40, ml160, gu_ib, nI_nat, bi_s, vl_e, gu_t, if_true, if_false, reduceIte, bt1_1, bt1_2, bt1_3, bt1_4, bt1_5, bt1_6, bt1_7, bt1_8, bt1_9, bt1_10, bt1_11, bt1_12, bt14_1, bt14_2, bt14_3, bt14_4, bt14_5, bt14_6, bt14_7, bt14_8, bt14_9, bt14_10, bt14_11, bt14_12, M_is R hl, M_ng R hl]
      by_cases z : isL s l = 0
      · rw [if_pos z]
      · rw [if_neg z, if_pos (by omega)]
  · intro n
    simp (disch := omega) only [D_X7_signedBy_5, li0, li1, li2, li3, li4, li5, li6, li7, li8, li9, li10, li12, li24, li31, li40, li160, n_le, n_lt, n_eq, n_m1, n_add, mr4, mr6, mr7, mr10, mr40, mr160, ml4, ml6, ml7, ml10, ml40, ml160, gu_ib, nI_nat, bi_s, vl_e, gu_t, if_true, if_false, reduceIte, bt1_1, bt1_2, bt1_3, bt1_4, bt1_5, bt1_6, bt1_7, bt1_8, bt1_9, bt1_10, bt1_11, bt1_12, bt14_1, bt14_2, bt14_3, bt14_4, bt14_5, bt14_6, bt14_7, bt14_8, bt14_9, bt14_10, bt14_11, bt14_12]
    rw [if_pos (by omega)]
end
