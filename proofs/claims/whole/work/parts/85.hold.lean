/-! questions that read: holds, cover -/
section
variable {fu n N c : Nat} {ev : Nat → Ev} {μ m : Mem} {s : Sp}
theorem m_lAt {y v : Nat} {r : Int32} (hf : 200 < fu) (hy : y < 12) (hv : v ≤ 1000000000) (A : AH s y v r) (R : RM m s) (H : Iv N s) : (∃ l, l < 40 ∧ isL s l = 1 ∧ r = nI l ∧ D_X7_layerAt_0 fu m (nI y) (nI v) = some (nI l)) ∨ (r < 0 ∧ D_X7_layerAt_0 fu m (nI y) (nI v) = some (-1)) := by
  unfold D_X7_layerAt_0
  have no : (∀ k, k < hg s y → ¬ (fr s (rg s (6 * y + k)) ≤ v ∧ v < tp s (rg s (6 * y + k)))) → D_X7_layerAt_2 fu m fu (nI y) (nI v) 0 = some (-1) := fun hn => by
    refine eq_for (fun n l => D_X7_layerAt_2 fu m n (nI y) (nI v) (nI l)) 40 _ ?_ ?_ fu 0 (by omega) (by omega)
    · intro n l hl
      show D_X7_layerAt_2 fu m (n + 1) (nI y) (nI v) (nI l) = D_X7_layerAt_2 fu m n (nI y) (nI v) (nI (l + 1))
      rw [m_atS hy hv hl R H, if_neg]
      rintro ⟨⟨h1, h2⟩, h3⟩
      obtain ⟨k, hk, e⟩ := IvT_in H.T hl h1
      rw [h2] at hk e
      exact hn k hk (by rw [e]; exact h3)
    · intro n
      show D_X7_layerAt_2 fu m (n + 1) (nI y) (nI v) (nI 40) = _
      simp (disch := omega) only [D_X7_layerAt_2, li0, li1, li2, li3, li4, li5, li6, li7, li8, li9, li10, li12, li24, li31, li40, li160, n_le, n_lt, n_eq, n_m1, n_add, mr4, mr6, mr7, mr10, mr40, mr160, ml4, ml6, ml7, ml10, ml40, ml160, gu_ib, nI_nat, bi_s, vl_e, gu_t, if_true, if_false, reduceIte, bt1_1, bt1_2, bt1_3, bt1_4, bt1_5, bt1_6, bt1_7, bt1_8, bt1_9, bt1_10, bt1_11, bt1_12, bt14_1, bt14_2, bt14_3, bt14_4, bt14_5, bt14_6, bt14_7, bt14_8, bt14_9, bt14_10, bt14_11, bt14_12]
      rw [if_pos (by omega)]
  rcases A with ⟨k, hk, h1, h2, rfl⟩ | ⟨hn, ⟨k, hk, h1⟩, rfl⟩ | ⟨hn, rfl⟩
  · have g4 := IvT_rg H.T hy hk
    have g1 := IvT_ri H.T hy hk
    have gy := IvT_ry H.T hy hk
    refine Or.inl ⟨_, g4, g1, rfl, ?_⟩
    refine eq_for (fun n l => D_X7_layerAt_2 fu m n (nI y) (nI v) (nI l)) (rg s (6 * y + k)) _ ?_ ?_ fu 0 (by omega) (by omega)
    · intro n l hl
      show D_X7_layerAt_2 fu m (n + 1) (nI y) (nI v) (nI l) = D_X7_layerAt_2 fu m n (nI y) (nI v) (nI (l + 1))
      rw [m_atS hy hv (by omega) R H, if_neg]
      rintro ⟨⟨p1, p2⟩, p3⟩
      obtain ⟨j, hj, e⟩ := IvT_in H.T (show l < 40 by omega) p1
      rw [p2] at hj e
      rcases Nat.lt_trichotomy j k with c | c | c
      · have := st_lt H.T hy c hk
        rw [e] at this; omega
      · rw [c] at e; omega
      · have := st_lt H.T hy c hj
        rw [e] at this; omega
    · intro n
      show D_X7_layerAt_2 fu m (n + 1) (nI y) (nI v) (nI (rg s (6 * y + k))) = _
      rw [m_atS hy hv g4 R H, if_pos ⟨⟨g1, gy⟩, h1, h2⟩]
  · exact Or.inr ⟨by decide, no hn⟩
  · exact Or.inr ⟨by decide, no fun k hk z => by have := hn k hk; omega⟩
theorem tbS_at {l i k : Nat} (H : IvT s) (hl : l < 40) (e : sg s (4 * l + k) = i) : ∀ {d : Nat}, k < d → d ≤ ng s l → tbS s l i d = tn s (4 * l + k)
  | 0, h, _ => absurd h (Nat.not_lt_zero _)
  | d + 1, h, hd => by
    show (if sg s (4 * l + d) = i then tn s (4 * l + d) else tbS s l i d) = _
    by_cases q : sg s (4 * l + d) = i
    · have := IvT_sd H hl (show d < ng s l by omega) (show k < ng s l by omega) (q.trans e.symm)
      rw [if_pos q, this]
    · have : k ≠ d := fun z => q (by rw [← z]; exact e)
      rw [if_neg q]; exact tbS_at H hl e (by omega) (by omega)
theorem m_holds {l i : Nat} (hf : 200 < fu) (hl : l < 40) (hi : i < 10) (R : RM m s) (H : Iv N s) : D_X7_holds_63 fu fu (nI i) (nI l) 0 m = some (nI (tbS s l i (ng s l)), m) := by
  have n4 := IvT_ng H.T hl
  have m1 : ¬ nI l = -nI 1 := fun z => by have z' : nI l = -1 := z; rwa [n_m1 (show l < 2147483648 by omega)] at z'
  have st : ∀ q k, k < ng s l → D_X7_holds_63 fu (q + 1) (nI i) (nI l) (nI k) m = if sg s (4 * l + k) = i then some (nI (tn s (4 * l + k)), m) else D_X7_holds_63 fu q (nI i) (nI l) (nI (k + 1)) m := fun q k hk => by
    have s10 := IvT_sg H.T hl hk
    rw [D_X7_holds_63]
    simp (disch := omega) only [li0, li1, li2, li3, li4, li5, li6, li7, li8, li9, li10, li12, li24, li31, li40, li160, n_le, n_lt, n_eq, n_m1, n_add, mr4, mr6, mr7, mr10, mr40, mr160, ml4, ml6, ml7, ml10, ml40, ml160, gu_ib, nI_nat, bi_s, vl_e, gu_t, if_true, if_false, reduceIte, bt1_1, bt1_2, bt1_3, bt1_4, bt1_5, bt1_6, bt1_7, bt1_8, bt1_9, bt1_10, bt1_11, bt1_12, bt14_1, bt14_2, bt14_3, bt14_4, bt14_5, bt14_6, bt14_7, bt14_8, bt14_9, bt14_10, bt14_11, bt14_12, M_ng R hl, M_sg R hl hk, M_tn R hl hk]
    rw [if_neg m1, if_neg (show ¬ ng s l ≤ k by omega)]
  by_cases ex : ∃ k, k < ng s l ∧ sg s (4 * l + k) = i
  · obtain ⟨k, hk, e⟩ := ex
    rw [tbS_at H.T hl e hk (Nat.le_refl _)]
    refine eq_for (fun q k => D_X7_holds_63 fu q (nI i) (nI l) (nI k) m) k _ ?_ ?_ fu 0 (by omega) (by omega)
    · intro q j hj
      show D_X7_holds_63 fu (q + 1) (nI i) (nI l) (nI j) m = D_X7_holds_63 fu q (nI i) (nI l) (nI (j + 1)) m
      rw [st q j (by omega), if_neg (fun z => by have := IvT_sd H.T hl (show j < ng s l by omega) hk (z.trans e.symm); omega)]
    · intro q
      show D_X7_holds_63 fu (q + 1) (nI i) (nI l) (nI k) m = _
      rw [st q k hk, if_pos e]
  · have z0 : tbS s l i (ng s l) = 0 := (tbS_0 H.T hl (Nat.le_refl _)).mpr fun k hk z => ex ⟨k, hk, z⟩
    rw [z0]
    refine eq_for (fun q k => D_X7_holds_63 fu q (nI i) (nI l) (nI k) m) (ng s l) _ ?_ ?_ fu 0 (by omega) (by omega)
    · intro q j hj
      show D_X7_holds_63 fu (q + 1) (nI i) (nI l) (nI j) m = D_X7_holds_63 fu q (nI i) (nI l) (nI (j + 1)) m
      rw [st q j hj, if_neg (fun z => ex ⟨j, hj, z⟩)]
    · intro q
      show D_X7_holds_63 fu (q + 1) (nI i) (nI l) (nI (ng s l)) m = _
      rw [D_X7_holds_63]
      simp (disch := omega) only [li0, li1, li2, li3, li4, li5, li6, li7, li8, li9, li10, li12, li24, li31, li40, li160, n_le, n_lt, n_eq, n_m1, n_add, mr4, mr6, mr7, mr10, mr40, mr160, ml4, ml6, ml7, ml10, ml40, ml160, gu_ib, nI_nat, bi_s, vl_e, gu_t, if_true, if_false, reduceIte, bt1_1, bt1_2, bt1_3, bt1_4, bt1_5, bt1_6, bt1_7, bt1_8, bt1_9, bt1_10, bt1_11, bt1_12, bt14_1, bt14_2, bt14_3, bt14_4, bt14_5, bt14_6, bt14_7, bt14_8, bt14_9, bt14_10, bt14_11, bt14_12, M_ng R hl]
      rw [if_neg m1, if_pos (Nat.le_refl (ng s l))]
theorem q_holds (hf : 200 < fu) (G : EG ev n) (C : CI ev n μ) (a1 a2 a3 : Int32) : QQ ev n (kd 0 1 0) μ (D_X6_holds_0 fu a1 a2 a3 μ) (D_X7_holds_0 fu a1 a2 a3) := by
  have H := run_Iv G
  cases q1 : inC a1 (nI 0) (nI 9) with
  | false =>
    have w1 := fun m => mWq q1 (L := 0) (H := 9) rfl rfl m
    refine QQ_r (.inr 1) 0 C (ho_r (by decide)) ?_ fun x m e D h0 => ?_
    · simp only [D_X6_holds_0, D_X6_holds_26, D_X6_holds_27, D_X6_isInsurer_0, wC, q1, li0, li1, li2, li3, li4, li5, li6, li7, li8, li9, li10, li12, li24, li31, li40, li160, n_le, n_lt, n_eq, n_m1, n_add, mr4, mr6, mr7, mr10, mr40, mr160, ml4, ml6, ml7, ml10, ml40, ml160, gu_ib, nI_nat, bi_s, vl_e, gu_t, if_true, if_false, reduceIte, bt1_1, bt1_2, bt1_3, bt1_4, bt1_5, bt1_6, bt1_7, bt1_8, bt1_9, bt1_10, bt1_11, bt1_12, bt14_1, bt14_2, bt14_3, bt14_4, bt14_5, bt14_6, bt14_7, bt14_8, bt14_9, bt14_10, bt14_11, bt14_12, Nat.reduceLeDiff, Nat.reduceEqDiff, Nat.reduceLT, eq_self, Nat.le_refl, Nat.le_zero_eq, Nat.not_lt_zero, Bool.false_eq_true, c_rf, tx_r, cAn]
    · have nf := m_nf (k := 1) (j := 1) h0 (by decide) (by decide) (by decide)
      simp only [D_X7_holds_0, D_X7_holds_41, D_X7_holds_42, e, li0, li1, li2, li3, li4, li5, li6, li7, li8, li9, li10, li12, li24, li31, li40, li160, n_le, n_lt, n_eq, n_m1, n_add, mr4, mr6, mr7, mr10, mr40, mr160, ml4, ml6, ml7, ml10, ml40, ml160, gu_ib, nI_nat, bi_s, vl_e, gu_t, if_true, if_false, reduceIte, bt1_1, bt1_2, bt1_3, bt1_4, bt1_5, bt1_6, bt1_7, bt1_8, bt1_9, bt1_10, bt1_11, bt1_12, bt14_1, bt14_2, bt14_3, bt14_4, bt14_5, bt14_6, bt14_7, bt14_8, bt14_9, bt14_10, bt14_11, bt14_12, Nat.reduceLeDiff, Nat.reduceEqDiff, Nat.reduceLT, eq_self, Nat.le_refl, Nat.le_zero_eq, Nat.not_lt_zero, w1, nf, Bool.false_eq_true, mAn, kd]
  | true =>
    have w1 := fun m => mWq q1 (L := 0) (H := 9) rfl rfl m
    cases q2 : inC a2 (nI 0) (nI 11) with
    | false =>
      have w2 := fun m => mWq q2 (L := 0) (H := 11) rfl rfl m
      refine QQ_r (.inr 1) 0 C (ho_r (by decide)) ?_ fun x m e D h0 => ?_
      · simp only [D_X6_holds_0, D_X6_holds_26, D_X6_holds_27, D_X6_isInsurer_0, D_X6_isYear_0, wC, li11, q1, q2, li0, li1, li2, li3, li4, li5, li6, li7, li8, li9, li10, li12, li24, li31, li40, li160, n_le, n_lt, n_eq, n_m1, n_add, mr4, mr6, mr7, mr10, mr40, mr160, ml4, ml6, ml7, ml10, ml40, ml160, gu_ib, nI_nat, bi_s, vl_e, gu_t, if_true, if_false, reduceIte, bt1_1, bt1_2, bt1_3, bt1_4, bt1_5, bt1_6, bt1_7, bt1_8, bt1_9, bt1_10, bt1_11, bt1_12, bt14_1, bt14_2, bt14_3, bt14_4, bt14_5, bt14_6, bt14_7, bt14_8, bt14_9, bt14_10, bt14_11, bt14_12, Nat.reduceLeDiff, Nat.reduceEqDiff, Nat.reduceLT, eq_self, Nat.le_refl, Nat.le_zero_eq, Nat.not_lt_zero, Bool.false_eq_true, c_rf, tx_r, cAn]
      · have nf := m_nf (k := 1) (j := 1) h0 (by decide) (by decide) (by decide)
        simp only [D_X7_holds_0, D_X7_holds_41, D_X7_holds_42, e, li0, li1, li2, li3, li4, li5, li6, li7, li8, li9, li10, li12, li24, li31, li40, li160, n_le, n_lt, n_eq, n_m1, n_add, mr4, mr6, mr7, mr10, mr40, mr160, ml4, ml6, ml7, ml10, ml40, ml160, gu_ib, nI_nat, bi_s, vl_e, gu_t, if_true, if_false, reduceIte, bt1_1, bt1_2, bt1_3, bt1_4, bt1_5, bt1_6, bt1_7, bt1_8, bt1_9, bt1_10, bt1_11, bt1_12, bt14_1, bt14_2, bt14_3, bt14_4, bt14_5, bt14_6, bt14_7, bt14_8, bt14_9, bt14_10, bt14_11, bt14_12, Nat.reduceLeDiff, Nat.reduceEqDiff, Nat.reduceLT, eq_self, Nat.le_refl, Nat.le_zero_eq, Nat.not_lt_zero, w1, w2, nf, Bool.false_eq_true, mAn, kd]
    | true =>
      have w2 := fun m => mWq q2 (L := 0) (H := 11) rfl rfl m
      cases q3 : inC a3 (nI 0) (nI 1000000000) with
      | false =>
        have w3 := fun m => mWq q3 (L := 0) (H := 1000000000) rfl rfl m
        refine QQ_r (.inr 1) 0 C (ho_r (by decide)) ?_ fun x m e D h0 => ?_
        · simp only [D_X6_holds_0, D_X6_holds_26, D_X6_holds_27, D_X6_isInsurer_0, D_X6_isYear_0, D_X6_isHeight_0, wC, li11, li1e9, q1, q2, q3, li0, li1, li2, li3, li4, li5, li6, li7, li8, li9, li10, li12, li24, li31, li40, li160, n_le, n_lt, n_eq, n_m1, n_add, mr4, mr6, mr7, mr10, mr40, mr160, ml4, ml6, ml7, ml10, ml40, ml160, gu_ib, nI_nat, bi_s, vl_e, gu_t, if_true, if_false, reduceIte, bt1_1, bt1_2, bt1_3, bt1_4, bt1_5, bt1_6, bt1_7, bt1_8, bt1_9, bt1_10, bt1_11, bt1_12, bt14_1, bt14_2, bt14_3, bt14_4, bt14_5, bt14_6, bt14_7, bt14_8, bt14_9, bt14_10, bt14_11, bt14_12, Nat.reduceLeDiff, Nat.reduceEqDiff, Nat.reduceLT, eq_self, Nat.le_refl, Nat.le_zero_eq, Nat.not_lt_zero, Bool.false_eq_true, c_rf, tx_r, cAn]
        · have nf := m_nf (k := 1) (j := 1) h0 (by decide) (by decide) (by decide)
          simp only [D_X7_holds_0, D_X7_holds_41, D_X7_holds_42, D_X7_isHeight_0, e, li0, li1, li2, li3, li4, li5, li6, li7, li8, li9, li10, li12, li24, li31, li40, li160, n_le, n_lt, n_eq, n_m1, n_add, mr4, mr6, mr7, mr10, mr40, mr160, ml4, ml6, ml7, ml10, ml40, ml160, gu_ib, nI_nat, bi_s, vl_e, gu_t, if_true, if_false, reduceIte, bt1_1, bt1_2, bt1_3, bt1_4, bt1_5, bt1_6, bt1_7, bt1_8, bt1_9, bt1_10, bt1_11, bt1_12, bt14_1, bt14_2, bt14_3, bt14_4, bt14_5, bt14_6, bt14_7, bt14_8, bt14_9, bt14_10, bt14_11, bt14_12, Nat.reduceLeDiff, Nat.reduceEqDiff, Nat.reduceLT, eq_self, Nat.le_refl, Nat.le_zero_eq, Nat.not_lt_zero, w1, w2, w3, nf, Bool.false_eq_true, mAn, kd]
      | true =>
        have w3 := fun m => mWq q3 (L := 0) (H := 1000000000) rfl rfl m
        obtain ⟨i, rfl, il, hi⟩ := inC_n (by decide) (by decide) q1
        obtain ⟨y, rfl, yl, hy⟩ := inC_n (by decide) (by decide) q2
        obtain ⟨v, rfl, vl', hv⟩ := inC_n (by decide) (by decide) q3
        obtain ⟨r, er, A⟩ := ok_eq (c_atHeight hf (show y < 12 by omega) hv C.r H)
        have ee : D_X5_layerAtHeight_0 fu μ 4 (nI y) (nI v) = some r := er
        have cc : D_X6_holds_0 fu (nI i) (nI y) (nI v) μ = if r < 0 then some (.inl 0, μ) else (D_X5_tenthsBy_0 fu μ 4 r (nI i)).bind fun x => some (.inl x, μ) := by
          simp only [D_X6_holds_0, D_X6_holds_27, D_X6_isInsurer_0, D_X6_isYear_0, D_X6_isHeight_0, wC, li0, li1, li9, li11, li1e9, q1, q2, q3, bi_s, reduceIte, c_rt, tx_l, ee]
        have mm : ∀ x m, wI x 85 0 (nI 0) = m → m.1 85 0 = nI 0 → D_X7_holds_0 fu (nI i) (nI y) (nI v) x = (D_X7_layerAt_0 fu m (nI y) (nI v)).bind fun x11 => D_X7_holds_63 fu fu (nI i) x11 0 m := fun x m e h0 => by
          simp only [D_X7_holds_0, D_X7_holds_42, D_X7_isHeight_0, e, li0, li1, bi_s, vl_e, reduceIte, w1, w2, w3, m_nt h0]
        by_cases r0 : r < 0
        · refine QQ_r (.inl 0) 0 C ho_l ?_ fun x m e D h0 => ?_
          · rw [cc, if_pos r0]; rfl
          · rw [mm x m e h0]
            rcases m_lAt hf (show y < 12 by omega) hv A D.r H with ⟨l, hl, -, rfl, -⟩ | ⟨-, k⟩
            · exact absurd r0 (by show ¬ nI l < nI 0; rw [n_lt (by omega) (by omega)]; omega)
            · rw [k, bi_s]
              obtain ⟨f, rfl⟩ : ∃ f, fu = f + 1 := ⟨fu - 1, by omega⟩
              rw [D_X7_holds_63, if_pos rfl]; rfl
        · have al : ∃ l, l < 40 ∧ isL (run ev n) l = 1 ∧ r = nI l := by
            rcases A with ⟨k, hk, -, -, rfl⟩ | ⟨-, -, rfl⟩ | ⟨-, rfl⟩
            · exact ⟨_, IvT_rg H.T (by omega) hk, IvT_ri H.T (by omega) hk, rfl⟩
            · exact absurd (by decide) r0
            · exact absurd (by decide) r0
          obtain ⟨l, hl, h1, rfl⟩ := al
          refine QQ_r (.inl (nI (tbS (run ev n) l i (ng (run ev n) l)))) 0 C ho_l ?_ fun x m e D h0 => ?_
          · rw [cc, if_neg r0, show D_X5_tenthsBy_0 fu μ 4 (nI l) (nI i) = _ from c_tenthsBy hf hl h1 (by omega) C.r H]; rfl
          · rw [mm x m e h0]
            rcases m_lAt hf (show y < 12 by omega) hv A D.r H with ⟨l', hl', -, e', k⟩ | ⟨z, -⟩
            · rw [k, bi_s, ← e', m_holds hf hl (by omega) D.r H]; rfl
            · exact absurd z r0
theorem m_cover {y a b : Nat} (hf : 200 < fu) (hy : y < 12) (ha : a ≤ 1000000000) (hb : b ≤ 1000000000) (R : RM m s) (H : Iv N s) : D_X7_cover_59 fu fu (nI y) (nI a) (nI b) 0 0 m = some (nI (cvS s y a b (hg s y)), m) := by
  let F : Nat → Int := fun l => ((min b (tp s l) - max a (fr s l) : Nat) : Int)
  have sF : ∀ k, (cvS s y a b k : Int) = sm (fun j => F (rg s (6 * y + j))) k := fun k => by
    induction k with
    | zero => rfl
    | succ k ih =>
      rw [sm_s, ← ih]
      show ((cvS s y a b k + cov s y a b k : Nat) : Int) = _
      exact Int.natCast_add _ _
  have e := sm_yr H.T hy F
  rw [← sF] at e
  have K := eq_for (fun n l => D_X7_cover_59 fu n (nI y) (nI a) (nI b) (zL (sm (fun l => if isL s l = 1 ∧ yr s l = y then F l else 0) l)) (nI l) m) 40 (some ((zL (sm (fun l => if isL s l = 1 ∧ yr s l = y then F l else 0) 40)).toInt32, m)) ?_ ?_ fu 0 (by omega) (by omega)
  · rw [e, zL_i] at K
    exact K
  · intro n l hl
    show D_X7_cover_59 fu (n + 1) (nI y) (nI a) (nI b) (zL (sm (fun l => if isL s l = 1 ∧ yr s l = y then F l else 0) l)) (nI l) m = D_X7_cover_59 fu n (nI y) (nI a) (nI b) (zL (sm (fun l => if isL s l = 1 ∧ yr s l = y then F l else 0) (l + 1))) (nI (l + 1)) m
    rw [D_X7_cover_59, sm_s]
    generalize sm (fun l => if isL s l = 1 ∧ yr s l = y then F l else 0) l = S
    simp (disch := omega) only [D_X7_cover_141, li0, li1, li2, li3, li4, li5, li6, li7, li8, li9, li10, li12, li24, li31, li40, li160, n_le, n_lt, n_eq, n_m1, n_add, mr4, mr6, mr7, mr10, mr40, mr160, ml4, ml6, ml7, ml10, ml40, ml160, gu_ib, nI_nat, bi_s, vl_e, gu_t, if_true, if_false, reduceIte, bt1_1, bt1_2, bt1_3, bt1_4, bt1_5, bt1_6, bt1_7, bt1_8, bt1_9, bt1_10, bt1_11, bt1_12, bt14_1, bt14_2, bt14_3, bt14_4, bt14_5, bt14_6, bt14_7, bt14_8, bt14_9, bt14_10, bt14_11, bt14_12, m_isIn hl hy R.a H.T]
    rw [if_neg (by omega)]
    by_cases q : isL s l = 1 ∧ yr s l = y
    · have b1 := IvT_sz H.T hl q.1
      have b2 := IvT_fr H.T hl q.1
      have t9 : tp s l ≤ 1000000000 := by unfold tp; omega
      rw [if_pos (decide_eq_true q), if_pos q, M_fr R hl q.1]
      have K : ∀ u : Nat, u ≤ 1000000000 → D_X7_cover_103 fu (D_X7_cover_59 fu n) (nI y) (nI a) (nI b) (zL S) (nI l) (nI u).toInt64 m = D_X7_cover_59 fu n (nI y) (nI a) (nI b) (zL (S + ((min b (tp s l) - u : Nat) : Int))) (nI (l + 1)) m := fun u hu => by
        simp (disch := omega) only [D_X7_cover_103, D_X7_cover_138, D_X7_cover_141, D_X7_least_0, m_top hl q.1 R.a, li0, li1, li2, li3, li4, li5, li6, li7, li8, li9, li10, li12, li24, li31, li40, li160, n_le, n_lt, n_eq, n_m1, n_add, mr4, mr6, mr7, mr10, mr40, mr160, ml4, ml6, ml7, ml10, ml40, ml160, gu_ib, nI_nat, bi_s, vl_e, gu_t, if_true, if_false, reduceIte, bt1_1, bt1_2, bt1_3, bt1_4, bt1_5, bt1_6, bt1_7, bt1_8, bt1_9, bt1_10, bt1_11, bt1_12, bt14_1, bt14_2, bt14_3, bt14_4, bt14_5, bt14_6, bt14_7, bt14_8, bt14_9, bt14_10, bt14_11, bt14_12, ll0, ll1, ll2, ll10, ll2e9, n_L, z_le, z_sub, z_add]
        by_cases c1 : b ≤ tp s l
        · rw [if_pos (by omega), bi_s]
          simp (disch := omega) only [z_le, z_sub, z_add]
          by_cases c2 : b ≤ u
          · rw [if_pos (by omega), show ((min b (tp s l) - u : Nat) : Int) = 0 by omega]
          · rw [if_neg (by omega), show ((min b (tp s l) - u : Nat) : Int) = (b : Int) - (u : Int) by omega]
        · rw [if_neg (by omega), bi_s]
          simp (disch := omega) only [z_le, z_sub, z_add]
          by_cases c2 : tp s l ≤ u
          · rw [if_pos (by omega), show ((min b (tp s l) - u : Nat) : Int) = 0 by omega]
          · rw [if_neg (by omega), show ((min b (tp s l) - u : Nat) : Int) = (tp s l : Int) - (u : Int) by omega]
      simp (disch := omega) only [n_le]
      by_cases c0 : fr s l ≤ a
      · rw [if_pos c0, K a ha]
        show _ = D_X7_cover_59 fu n (nI y) (nI a) (nI b) (zL (S + ((min b (tp s l) - max a (fr s l) : Nat) : Int))) (nI (l + 1)) m
        rw [Nat.max_eq_left c0]
      · rw [if_neg c0, K (fr s l) (by omega)]
        show _ = D_X7_cover_59 fu n (nI y) (nI a) (nI b) (zL (S + ((min b (tp s l) - max a (fr s l) : Nat) : Int))) (nI (l + 1)) m
        rw [Nat.max_eq_right (by omega)]
    · rw [if_neg (by simp [q]), if_neg q, Int.add_zero]
  · intro n
    show D_X7_cover_59 fu (n + 1) (nI y) (nI a) (nI b) _ (nI 40) m = _
    rw [D_X7_cover_59]
    simp (disch := omega) only [li0, li1, li2, li3, li4, li5, li6, li7, li8, li9, li10, li12, li24, li31, li40, li160, n_le, n_lt, n_eq, n_m1, n_add, mr4, mr6, mr7, mr10, mr40, mr160, ml4, ml6, ml7, ml10, ml40, ml160, gu_ib, nI_nat, bi_s, vl_e, gu_t, if_true, if_false, reduceIte, bt1_1, bt1_2, bt1_3, bt1_4, bt1_5, bt1_6, bt1_7, bt1_8, bt1_9, bt1_10, bt1_11, bt1_12, bt14_1, bt14_2, bt14_3, bt14_4, bt14_5, bt14_6, bt14_7, bt14_8, bt14_9, bt14_10, bt14_11, bt14_12]
    rw [if_pos (by omega)]
end
section
variable {fu n : Nat} {ev : Nat → Ev} {μ : Mem}
theorem q_cover (hf : 200 < fu) (G : EG ev n) (C : CI ev n μ) (a1 a2 a3 : Int32) : QQ ev n (kd 0 1 0) μ (D_X6_cover_0 fu a1 a2 a3 μ) (D_X7_cover_0 fu a1 a2 a3) := by
  have H := run_Iv G
  cases q1 : inC a1 (nI 0) (nI 11) with
  | false =>
    have w1 := fun m => mWq q1 (L := 0) (H := 11) rfl rfl m
    refine QQ_r (.inr 1) 0 C (ho_r (by decide)) ?_ fun x m e D h0 => ?_
    · simp only [D_X6_cover_0, D_X6_cover_31, D_X6_cover_32, D_X6_isYear_0, wC, li11, q1, li0, li1, li2, li3, li4, li5, li6, li7, li8, li9, li10, li12, li24, li31, li40, li160, n_le, n_lt, n_eq, n_m1, n_add, mr4, mr6, mr7, mr10, mr40, mr160, ml4, ml6, ml7, ml10, ml40, ml160, gu_ib, nI_nat, bi_s, vl_e, gu_t, if_true, if_false, reduceIte, bt1_1, bt1_2, bt1_3, bt1_4, bt1_5, bt1_6, bt1_7, bt1_8, bt1_9, bt1_10, bt1_11, bt1_12, bt14_1, bt14_2, bt14_3, bt14_4, bt14_5, bt14_6, bt14_7, bt14_8, bt14_9, bt14_10, bt14_11, bt14_12, Nat.reduceLeDiff, Nat.reduceEqDiff, Nat.reduceLT, eq_self, Nat.le_refl, Nat.le_zero_eq, Nat.not_lt_zero, Bool.false_eq_true, c_rf, tx_r, cAn]
    · have nf := m_nf (k := 1) (j := 1) h0 (by decide) (by decide) (by decide)
      simp only [D_X7_cover_0, D_X7_cover_42, D_X7_cover_43, e, li0, li1, li2, li3, li4, li5, li6, li7, li8, li9, li10, li12, li24, li31, li40, li160, n_le, n_lt, n_eq, n_m1, n_add, mr4, mr6, mr7, mr10, mr40, mr160, ml4, ml6, ml7, ml10, ml40, ml160, gu_ib, nI_nat, bi_s, vl_e, gu_t, if_true, if_false, reduceIte, bt1_1, bt1_2, bt1_3, bt1_4, bt1_5, bt1_6, bt1_7, bt1_8, bt1_9, bt1_10, bt1_11, bt1_12, bt14_1, bt14_2, bt14_3, bt14_4, bt14_5, bt14_6, bt14_7, bt14_8, bt14_9, bt14_10, bt14_11, bt14_12, Nat.reduceLeDiff, Nat.reduceEqDiff, Nat.reduceLT, eq_self, Nat.le_refl, Nat.le_zero_eq, Nat.not_lt_zero, w1, nf, Bool.false_eq_true, mAn, kd]
  | true =>
    have w1 := fun m => mWq q1 (L := 0) (H := 11) rfl rfl m
    cases q2 : inC a2 (nI 0) (nI 1000000000) with
    | false =>
      have w2 := fun m => mWq q2 (L := 0) (H := 1000000000) rfl rfl m
      refine QQ_r (.inr 1) 0 C (ho_r (by decide)) ?_ fun x m e D h0 => ?_
      · simp only [D_X6_cover_0, D_X6_cover_31, D_X6_cover_32, D_X6_isYear_0, D_X6_isHeight_0, wC, li11, li1e9, q1, q2, li0, li1, li2, li3, li4, li5, li6, li7, li8, li9, li10, li12, li24, li31, li40, li160, n_le, n_lt, n_eq, n_m1, n_add, mr4, mr6, mr7, mr10, mr40, mr160, ml4, ml6, ml7, ml10, ml40, ml160, gu_ib, nI_nat, bi_s, vl_e, gu_t, if_true, if_false, reduceIte, bt1_1, bt1_2, bt1_3, bt1_4, bt1_5, bt1_6, bt1_7, bt1_8, bt1_9, bt1_10, bt1_11, bt1_12, bt14_1, bt14_2, bt14_3, bt14_4, bt14_5, bt14_6, bt14_7, bt14_8, bt14_9, bt14_10, bt14_11, bt14_12, Nat.reduceLeDiff, Nat.reduceEqDiff, Nat.reduceLT, eq_self, Nat.le_refl, Nat.le_zero_eq, Nat.not_lt_zero, Bool.false_eq_true, c_rf, tx_r, cAn]
      · have nf := m_nf (k := 1) (j := 1) h0 (by decide) (by decide) (by decide)
        simp only [D_X7_cover_0, D_X7_cover_42, D_X7_cover_43, D_X7_isHeight_0, e, li0, li1, li2, li3, li4, li5, li6, li7, li8, li9, li10, li12, li24, li31, li40, li160, n_le, n_lt, n_eq, n_m1, n_add, mr4, mr6, mr7, mr10, mr40, mr160, ml4, ml6, ml7, ml10, ml40, ml160, gu_ib, nI_nat, bi_s, vl_e, gu_t, if_true, if_false, reduceIte, bt1_1, bt1_2, bt1_3, bt1_4, bt1_5, bt1_6, bt1_7, bt1_8, bt1_9, bt1_10, bt1_11, bt1_12, bt14_1, bt14_2, bt14_3, bt14_4, bt14_5, bt14_6, bt14_7, bt14_8, bt14_9, bt14_10, bt14_11, bt14_12, Nat.reduceLeDiff, Nat.reduceEqDiff, Nat.reduceLT, eq_self, Nat.le_refl, Nat.le_zero_eq, Nat.not_lt_zero, w1, w2, nf, Bool.false_eq_true, mAn, kd]
    | true =>
      have w2 := fun m => mWq q2 (L := 0) (H := 1000000000) rfl rfl m
      obtain ⟨y, rfl, yl, hy⟩ := inC_n (by decide) (by decide) q1
      obtain ⟨a, rfl, al, ha⟩ := inC_n (by decide) (by decide) q2
      have no : inC a3 (nI a) (nI 1000000000) = false → ∀ x m, wI x 85 0 (nI 0) = m → m.1 85 0 = nI 0 → D_X7_cover_0 fu (nI y) (nI a) a3 x = some (mAn (fun j => nI (kd 0 1 0 j)) 0 m (.inr 1)) := fun q x m e h0 => by
        have w3 := fun m => mWq q (L := (nI a).toInt64) (H := 1000000000) rfl rfl m
        have nf := m_nf (k := 1) (j := 1) h0 (by decide) (by decide) (by decide)
        simp only [D_X7_cover_0, D_X7_cover_42, D_X7_cover_43, D_X7_isHeight_0, e, li0, li1, li2, li3, li4, li5, li6, li7, li8, li9, li10, li12, li24, li31, li40, li160, n_le, n_lt, n_eq, n_m1, n_add, mr4, mr6, mr7, mr10, mr40, mr160, ml4, ml6, ml7, ml10, ml40, ml160, gu_ib, nI_nat, bi_s, vl_e, gu_t, if_true, if_false, reduceIte, bt1_1, bt1_2, bt1_3, bt1_4, bt1_5, bt1_6, bt1_7, bt1_8, bt1_9, bt1_10, bt1_11, bt1_12, bt14_1, bt14_2, bt14_3, bt14_4, bt14_5, bt14_6, bt14_7, bt14_8, bt14_9, bt14_10, bt14_11, bt14_12, Nat.reduceLeDiff, Nat.reduceEqDiff, Nat.reduceLT, eq_self, Nat.le_refl, Nat.le_zero_eq, Nat.not_lt_zero, w1, w2, w3, nf, Bool.false_eq_true, mAn, kd]
      cases q3 : inC a3 (nI 0) (nI 1000000000) with
      | false =>
        refine QQ_r (.inr 1) 0 C (ho_r (by decide)) ?_ fun x m e D h0 => no ?_ x m e h0
        · simp only [D_X6_cover_0, D_X6_cover_31, D_X6_cover_32, D_X6_isYear_0, D_X6_isHeight_0, wC, li11, li1e9, q1, q2, q3, li0, li1, li2, li3, li4, li5, li6, li7, li8, li9, li10, li12, li24, li31, li40, li160, n_le, n_lt, n_eq, n_m1, n_add, mr4, mr6, mr7, mr10, mr40, mr160, ml4, ml6, ml7, ml10, ml40, ml160, gu_ib, nI_nat, bi_s, vl_e, gu_t, if_true, if_false, reduceIte, bt1_1, bt1_2, bt1_3, bt1_4, bt1_5, bt1_6, bt1_7, bt1_8, bt1_9, bt1_10, bt1_11, bt1_12, bt14_1, bt14_2, bt14_3, bt14_4, bt14_5, bt14_6, bt14_7, bt14_8, bt14_9, bt14_10, bt14_11, bt14_12, Nat.reduceLeDiff, Nat.reduceEqDiff, Nat.reduceLT, eq_self, Nat.le_refl, Nat.le_zero_eq, Nat.not_lt_zero, Bool.false_eq_true, c_rf, tx_r, cAn]
        · cases z : inC a3 (nI a) (nI 1000000000) with
          | false => rfl
          | true =>
            obtain ⟨k, rfl, k1, k2⟩ := inC_n (by omega) (by decide) z
            rw [inC_k (by omega) (by decide) (by decide), decide_eq_true (by omega)] at q3
            cases q3
      | true =>
        obtain ⟨b, rfl, bl, hb⟩ := inC_n (by decide) (by decide) q3
        by_cases c : b < a
        · refine QQ_r (.inr 1) 0 C (ho_r (by decide)) ?_ fun x m e D h0 => no ?_ x m e h0
          · simp (disch := omega) only [D_X6_cover_0, D_X6_cover_31, D_X6_cover_32, D_X6_isYear_0, D_X6_isHeight_0, wC, li11, li1e9, q1, q2, q3, li0, li1, li2, li3, li4, li5, li6, li7, li8, li9, li10, li12, li24, li31, li40, li160, n_le, n_lt, n_eq, n_m1, n_add, mr4, mr6, mr7, mr10, mr40, mr160, ml4, ml6, ml7, ml10, ml40, ml160, gu_ib, nI_nat, bi_s, vl_e, gu_t, if_true, if_false, reduceIte, bt1_1, bt1_2, bt1_3, bt1_4, bt1_5, bt1_6, bt1_7, bt1_8, bt1_9, bt1_10, bt1_11, bt1_12, bt14_1, bt14_2, bt14_3, bt14_4, bt14_5, bt14_6, bt14_7, bt14_8, bt14_9, bt14_10, bt14_11, bt14_12, Nat.reduceLeDiff, Nat.reduceEqDiff, Nat.reduceLT, eq_self, Nat.le_refl, Nat.le_zero_eq, Nat.not_lt_zero, c, Bool.false_eq_true, c_rf, tx_r, cAn]
          · rw [inC_k (by omega) (by omega) (by decide)]; exact decide_eq_false (by omega)
        · have q4 : inC (nI b) (nI a) (nI 1000000000) = true := by rw [inC_k (by omega) (by omega) (by decide)]; exact decide_eq_true (by omega)
          have w3 := fun m => mWq q4 (L := (nI a).toInt64) (H := 1000000000) rfl rfl m
          refine QQ_r (.inl (nI (cvS (run ev n) y a b (hg (run ev n) y)))) 0 C ho_l ?_ fun x m e D h0 => ?_
          · simp (disch := omega) only [D_X6_cover_0, D_X6_cover_32, D_X6_isYear_0, D_X6_isHeight_0, wC, li11, li1e9, q1, q2, q3, li0, li1, li2, li3, li4, li5, li6, li7, li8, li9, li10, li12, li24, li31, li40, li160, n_le, n_lt, n_eq, n_m1, n_add, mr4, mr6, mr7, mr10, mr40, mr160, ml4, ml6, ml7, ml10, ml40, ml160, gu_ib, nI_nat, bi_s, vl_e, gu_t, if_true, if_false, reduceIte, bt1_1, bt1_2, bt1_3, bt1_4, bt1_5, bt1_6, bt1_7, bt1_8, bt1_9, bt1_10, bt1_11, bt1_12, bt14_1, bt14_2, bt14_3, bt14_4, bt14_5, bt14_6, bt14_7, bt14_8, bt14_9, bt14_10, bt14_11, bt14_12, Nat.reduceLeDiff, Nat.reduceEqDiff, Nat.reduceLT, eq_self, Nat.le_refl, Nat.le_zero_eq, Nat.not_lt_zero, c, c_rt, tx_l, show D_X5_coveredIn_0 fu μ 4 (nI y) (nI a) (nI b) = some (nI (cvS (run ev n) y a b (hg (run ev n) y))) from c_covered hf (by omega) ha hb C.r H, cAn]
          · have k := m_cover hf (show y < 12 by omega) ha hb D.r H
            simp only [D_X7_cover_0, D_X7_cover_43, D_X7_isHeight_0, e, li0, li1, bi_s, vl_e, reduceIte, w1, w2, w3, m_nt h0]
            exact k
end
