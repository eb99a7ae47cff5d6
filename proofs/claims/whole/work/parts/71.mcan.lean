/-! the model: what can be done; clearing -/
/-- the model's row of an event -/
def MG (μ : Mem) (k : Nat) (e : Ev) : Prop := μ.1 87 k = nI (e 0) ∧ (e 0 = 0 ∨ e 0 = 4 → μ.1 88 k = nI (e 1) ∧ ∀ j, j < 4 → μ.1 89 (4 * k + j) = nI (e (j + 2))) ∧ (¬ (e 0 = 0 ∨ e 0 = 4) → ∀ j, j < 4 → μ.1 89 (4 * k + j) = nI (e (j + 1)))
theorem MG_F {A : Nat → Prop} {x y : Mem} {k : Nat} {e : Ev} (F : Fr A x y) (hA : ∀ q, A q → q < 87 ∨ 89 < q) (G : MG x k e) : MG y k e := by
  have a := F.I (q := 87) (fun z => by have := hA _ z; omega)
  have b := F.I (q := 88) (fun z => by have := hA _ z; omega)
  have c := F.I (q := 89) (fun z => by have := hA _ z; omega)
  unfold MG at *
  rw [a, b, c]; exact G
section
variable {N fu k : Nat} {μ : Mem} {s : Sp} {e : Ev}
theorem m_tell0 {j : Nat} (hk : k < 160) (hj : j < 4) (h : e 0 = 0 ∨ e 0 = 4) (G : MG μ k e) : D_X7_tell_0 μ (nI k) (nI j) = some (nI (e (j + 2))) := by
  simp (disch := omega) only [D_X7_tell_0, li0, li1, li2, li3, li4, li5, li6, li7, li8, li9, li10, li12, li24, li31, li40, li160, n_le, n_lt, n_eq, n_m1, n_add, mr4, mr6, mr7, mr10, mr40, mr160, ml4, ml6, ml7, ml10, ml40, ml160, gu_ib, nI_nat, bi_s, vl_e, gu_t, if_true, if_false, reduceIte, bt1_1, bt1_2, bt1_3, bt1_4, bt1_5, bt1_6, bt1_7, bt1_8, bt1_9, bt1_10, bt1_11, bt1_12, bt14_1, bt14_2, bt14_3, bt14_4, bt14_5, bt14_6, bt14_7, bt14_8, bt14_9, bt14_10, bt14_11, bt14_12, (G.2.1 h).2 j hj]
theorem m_tell1 {j : Nat} (hk : k < 160) (hj : j < 4) (h : ¬ (e 0 = 0 ∨ e 0 = 4)) (G : MG μ k e) : D_X7_tell_0 μ (nI k) (nI j) = some (nI (e (j + 1))) := by
  simp (disch := omega) only [D_X7_tell_0, li0, li1, li2, li3, li4, li5, li6, li7, li8, li9, li10, li12, li24, li31, li40, li160, n_le, n_lt, n_eq, n_m1, n_add, mr4, mr6, mr7, mr10, mr40, mr160, ml4, ml6, ml7, ml10, ml40, ml160, gu_ib, nI_nat, bi_s, vl_e, gu_t, if_true, if_false, reduceIte, bt1_1, bt1_2, bt1_3, bt1_4, bt1_5, bt1_6, bt1_7, bt1_8, bt1_9, bt1_10, bt1_11, bt1_12, bt14_1, bt14_2, bt14_3, bt14_4, bt14_5, bt14_6, bt14_7, bt14_8, bt14_9, bt14_10, bt14_11, bt14_12, G.2.2 h j hj]
theorem m_canPlace {y f z : Nat} (hf : 200 < fu) (hy : y < 12) (h1 : f ≤ 900000000) (h2 : z ≤ 100000000) (A : RMa μ s.1) (H : IvT s) : Ok (D_X7_canPlace_0 fu μ (nI y) (nI f) (nI z)) (fun r => r = true ↔ lkb s y = false ∧ hg s y < 6 ∧ fre s y f z) := by
  have h6 := IvT_hg H hy
  unfold D_X7_canPlace_0
  rw [m_lacking hy A H, bi_s]
  by_cases q : lkb s y = true
  · rw [if_pos q]
    exact Ok.s ⟨fun z => absurd z (by decide), fun z => by rw [z.1] at q; exact absurd q (by decide)⟩
  · have q' : lkb s y = false := by cases e : lkb s y; rfl; exact absurd e q
    rw [if_neg q, m_layersOf hy A, bi_s]
    by_cases q2 : hg s y = 6
    · rw [if_pos (by rw [q2]; rfl)]
      exact Ok.s ⟨fun z => absurd z (by decide), fun z => by omega⟩
    · rw [if_neg (by rw [li6, n_eq (by omega) (by omega)]; exact q2)]
      refine Ok.for (α := Unit) (fun n i _ => D_X7_canPlace_23 fu μ n (nI y) (nI f) (nI z) (nI i)) 40 (fun i _ => ∀ l, l < i → isL s l = 1 → yr s l = y → ¬ (f < tp s l ∧ fr s l < f + z)) ?_ ?_ fu 0 () (by omega) (by omega) (fun k h => absurd h (Nat.not_lt_zero k))
      · intro n i _ hi P kk
        have ext : (isL s i = 1 → yr s i = y → ¬ (f < tp s i ∧ fr s i < f + z)) → Ok (D_X7_canPlace_23 fu μ n (nI y) (nI f) (nI z) (nI (i + 1))) (fun r => r = true ↔ lkb s y = false ∧ hg s y < 6 ∧ fre s y f z) := fun q => kk () fun l hl a b => by
          by_cases e : l = i
          · rw [e] at a b ⊢; exact q a b
          · exact P l (by omega) a b
        by_cases q3 : isL s i = 1 ∧ yr s i = y
        · have g9 := IvT_fr H hi q3.1
          have t9 := tp_le H hi q3.1
          simp (disch := omega) only [D_X7_canPlace_23, D_X7_canPlace_65, li0, li1, li2, li3, li4, li5, li6, li7, li8, li9, li10, li12, li24, li31, li40, li160, n_le, n_lt, n_eq, n_m1, n_add, mr4, mr6, mr7, mr10, mr40, mr160, ml4, ml6, ml7, ml10, ml40, ml160, gu_ib, nI_nat, bi_s, vl_e, gu_t, if_true, if_false, reduceIte, bt1_1, bt1_2, bt1_3, bt1_4, bt1_5, bt1_6, bt1_7, bt1_8, bt1_9, bt1_10, bt1_11, bt1_12, bt14_1, bt14_2, bt14_3, bt14_4, bt14_5, bt14_6, bt14_7, bt14_8, bt14_9, bt14_10, bt14_11, bt14_12, m_isIn hi hy A H, decide_eq_true q3, m_top hi q3.1 A, show μ.1 93 i = nI (fr s i) from RMa_fr A hi q3.1]
          rw [if_neg (by omega)]
          by_cases q4 : tp s i ≤ f
          · rw [if_pos q4]; exact ext (fun _ _ => by omega)
          · rw [if_neg q4]
            by_cases q5 : f + z ≤ fr s i
            · rw [if_pos q5]; exact ext (fun _ _ => by omega)
            · rw [if_neg q5]
              refine Ok.s ⟨fun z => absurd z (by decide), fun z => ?_⟩
              obtain ⟨k, hk, ek⟩ := IvT_in H hi q3.1
              rw [q3.2] at hk ek
              have := z.2.2 k hk
              rw [ek] at this
              omega
        · have nd : ¬ (decide (isL s i = 1 ∧ yr s i = y) = true) := by rw [decide_eq_false q3]; decide
          simp (disch := omega) only [D_X7_canPlace_23, D_X7_canPlace_65, li0, li1, li2, li3, li4, li5, li6, li7, li8, li9, li10, li12, li24, li31, li40, li160, n_le, n_lt, n_eq, n_m1, n_add, mr4, mr6, mr7, mr10, mr40, mr160, ml4, ml6, ml7, ml10, ml40, ml160, gu_ib, nI_nat, bi_s, vl_e, gu_t, if_true, if_false, reduceIte, bt1_1, bt1_2, bt1_3, bt1_4, bt1_5, bt1_6, bt1_7, bt1_8, bt1_9, bt1_10, bt1_11, bt1_12, bt14_1, bt14_2, bt14_3, bt14_4, bt14_5, bt14_6, bt14_7, bt14_8, bt14_9, bt14_10, bt14_11, bt14_12, m_isIn hi hy A H, nd]
          rw [if_neg (by omega)]
          exact ext (fun a b => absurd ⟨a, b⟩ q3)
      · intro n _ P
        simp (disch := omega) only [D_X7_canPlace_23, li0, li1, li2, li3, li4, li5, li6, li7, li8, li9, li10, li12, li24, li31, li40, li160, n_le, n_lt, n_eq, n_m1, n_add, mr4, mr6, mr7, mr10, mr40, mr160, ml4, ml6, ml7, ml10, ml40, ml160, gu_ib, nI_nat, bi_s, vl_e, gu_t, if_true, if_false, reduceIte, bt1_1, bt1_2, bt1_3, bt1_4, bt1_5, bt1_6, bt1_7, bt1_8, bt1_9, bt1_10, bt1_11, bt1_12, bt14_1, bt14_2, bt14_3, bt14_4, bt14_5, bt14_6, bt14_7, bt14_8, bt14_9, bt14_10, bt14_11, bt14_12]
        rw [if_pos (by omega)]
        exact Ok.s ⟨fun _ => ⟨q', by omega, fun k hk => P _ (IvT_rg H hy hk) (IvT_ri H hy hk) (IvT_ry H hy hk)⟩, fun _ => rfl⟩
theorem m_sgT {l : Nat} (hf : 200 < fu) (hl : l < 40) (A : RMa μ s.1) (H : IvT s) : D_X7_signedTenths_0 fu μ (nI l) = some (nI (tnI s l (ng s l))) := by
  have h4 := IvT_ng H hl
  unfold D_X7_signedTenths_0
  refine eq_for (fun n i => D_X7_signedTenths_4 fu μ n (nI l) (nI (tnI s l i)) (nI i)) (ng s l) _ ?_ ?_ fu 0 (by omega) (by omega)
  · intro n i hi
    simp (disch := omega) only [D_X7_signedTenths_4, li0, li1, li2, li3, li4, li5, li6, li7, li8, li9, li10, li12, li24, li31, li40, li160, n_le, n_lt, n_eq, n_m1, n_add, mr4, mr6, mr7, mr10, mr40, mr160, ml4, ml6, ml7, ml10, ml40, ml160, gu_ib, nI_nat, bi_s, vl_e, gu_t, if_true, if_false, reduceIte, bt1_1, bt1_2, bt1_3, bt1_4, bt1_5, bt1_6, bt1_7, bt1_8, bt1_9, bt1_10, bt1_11, bt1_12, bt14_1, bt14_2, bt14_3, bt14_4, bt14_5, bt14_6, bt14_7, bt14_8, bt14_9, bt14_10, bt14_11, bt14_12, show μ.1 96 l = nI (ng s l) from RMa_ng A hl, show μ.1 98 (4 * l + i) = nI (tn s (4 * l + i)) from RMa_tn A hl hi]
    rw [if_neg (by omega)]; rfl
  · intro n
    simp (disch := omega) only [D_X7_signedTenths_4, li0, li1, li2, li3, li4, li5, li6, li7, li8, li9, li10, li12, li24, li31, li40, li160, n_le, n_lt, n_eq, n_m1, n_add, mr4, mr6, mr7, mr10, mr40, mr160, ml4, ml6, ml7, ml10, ml40, ml160, gu_ib, nI_nat, bi_s, vl_e, gu_t, if_true, if_false, reduceIte, bt1_1, bt1_2, bt1_3, bt1_4, bt1_5, bt1_6, bt1_7, bt1_8, bt1_9, bt1_10, bt1_11, bt1_12, bt14_1, bt14_2, bt14_3, bt14_4, bt14_5, bt14_6, bt14_7, bt14_8, bt14_9, bt14_10, bt14_11, bt14_12, show μ.1 96 l = nI (ng s l) from RMa_ng A hl]
    rw [if_pos (by omega)]
theorem m_canSign {l i n : Nat} (hf : 200 < fu) (hl : l < 40) (hi : i < 10) (hn : n ≤ 10) (R : RM μ s) (H : Iv N s) : Ok (D_X7_canSign_0 fu μ (nI l) (nI i) (nI n)) (fun r => r = true ↔ isL s l = 1 ∧ ng s l < 4 ∧ tnI s l (ng s l) + n ≤ 10 ∧ us s l ≤ 0 ∧ ∀ k, k < ng s l → sg s (4 * l + k) ≠ i) := by
  have A := R.a
  have h4 := IvT_ng H.T hl
  have tt := IvT_tt H.T hl
  have nge : μ.1 96 l = nI (ng s l) := RMa_ng A hl
  have ub : 0 ≤ us s l ∧ us s l < 9223372036854775808 := by
    rcases IvT_is H.T hl with z | z
    · have : us s l = 0 := by rw [IvH_us H.H hl]; exact sm_z fun i hi => IvH_t0 H.H (by omega) hl z
      omega
    · have := us_b H hl z; omega
  rcases IvT_is H.T hl with z | z
  · simp (disch := omega) only [D_X7_canSign_0, li0, li1, li2, li3, li4, li5, li6, li7, li8, li9, li10, li12, li24, li31, li40, li160, n_le, n_lt, n_eq, n_m1, n_add, mr4, mr6, mr7, mr10, mr40, mr160, ml4, ml6, ml7, ml10, ml40, ml160, gu_ib, nI_nat, bi_s, vl_e, gu_t, if_true, if_false, reduceIte, bt1_1, bt1_2, bt1_3, bt1_4, bt1_5, bt1_6, bt1_7, bt1_8, bt1_9, bt1_10, bt1_11, bt1_12, bt14_1, bt14_2, bt14_3, bt14_4, bt14_5, bt14_6, bt14_7, bt14_8, bt14_9, bt14_10, bt14_11, bt14_12, RMa_i A hl, z]
    exact Ok.s ⟨fun z => absurd z (by decide), fun z => by omega⟩
  · simp (disch := omega) only [D_X7_canSign_0, li0, li1, li2, li3, li4, li5, li6, li7, li8, li9, li10, li12, li24, li31, li40, li160, n_le, n_lt, n_eq, n_m1, n_add, mr4, mr6, mr7, mr10, mr40, mr160, ml4, ml6, ml7, ml10, ml40, ml160, gu_ib, nI_nat, bi_s, vl_e, gu_t, if_true, if_false, reduceIte, bt1_1, bt1_2, bt1_3, bt1_4, bt1_5, bt1_6, bt1_7, bt1_8, bt1_9, bt1_10, bt1_11, bt1_12, bt14_1, bt14_2, bt14_3, bt14_4, bt14_5, bt14_6, bt14_7, bt14_8, bt14_9, bt14_10, bt14_11, bt14_12, ll0, ll1, ll2, ll10, ll2e9, RMa_i A hl, z, nge, m_sgT hf hl A H.T, M_us R hl, z_le]
    rw [if_neg (by decide)]
    by_cases q1 : ng s l = 4
    · rw [if_pos q1]; exact Ok.s ⟨fun z => absurd z (by decide), fun z => by omega⟩
    · rw [if_neg q1]
      by_cases q2 : 10 < tnI s l (ng s l) + n
      · rw [if_pos q2]; exact Ok.s ⟨fun z => absurd z (by decide), fun z => by omega⟩
      · rw [if_neg q2]
        by_cases q3 : us s l ≤ 0
        · rw [if_pos q3]
          refine Ok.for (α := Unit) (fun m j _ => D_X7_canSign_47 fu μ m (nI l) (nI i) (nI j)) (ng s l) (fun j _ => ∀ k, k < j → sg s (4 * l + k) ≠ i) ?_ ?_ fu 0 () (by omega) (by omega) (fun k h => absurd h (Nat.not_lt_zero k))
          · intro m j _ hj P kk
            have s10 := IvT_sg H.T hl hj
            simp (disch := omega) only [D_X7_canSign_47, li0, li1, li2, li3, li4, li5, li6, li7, li8, li9, li10, li12, li24, li31, li40, li160, n_le, n_lt, n_eq, n_m1, n_add, mr4, mr6, mr7, mr10, mr40, mr160, ml4, ml6, ml7, ml10, ml40, ml160, gu_ib, nI_nat, bi_s, vl_e, gu_t, if_true, if_false, reduceIte, bt1_1, bt1_2, bt1_3, bt1_4, bt1_5, bt1_6, bt1_7, bt1_8, bt1_9, bt1_10, bt1_11, bt1_12, bt14_1, bt14_2, bt14_3, bt14_4, bt14_5, bt14_6, bt14_7, bt14_8, bt14_9, bt14_10, bt14_11, bt14_12, nge, show μ.1 97 (4 * l + j) = nI (sg s (4 * l + j)) from RMa_sg A hl hj]
            rw [if_neg (by omega)]
            by_cases q4 : sg s (4 * l + j) = i
            · rw [if_pos q4]; exact Ok.s ⟨fun z => absurd z (by decide), fun z => absurd q4 (z.2.2.2.2 j hj)⟩
            · rw [if_neg q4]
              refine kk () fun k hk => ?_
              by_cases e : k = j
              · rw [e]; exact q4
              · exact P k (by omega)
          · intro m _ P
            simp (disch := omega) only [D_X7_canSign_47, li0, li1, li2, li3, li4, li5, li6, li7, li8, li9, li10, li12, li24, li31, li40, li160, n_le, n_lt, n_eq, n_m1, n_add, mr4, mr6, mr7, mr10, mr40, mr160, ml4, ml6, ml7, ml10, ml40, ml160, gu_ib, nI_nat, bi_s, vl_e, gu_t, if_true, if_false, reduceIte, bt1_1, bt1_2, bt1_3, bt1_4, bt1_5, bt1_6, bt1_7, bt1_8, bt1_9, bt1_10, bt1_11, bt1_12, bt14_1, bt14_2, bt14_3, bt14_4, bt14_5, bt14_6, bt14_7, bt14_8, bt14_9, bt14_10, bt14_11, bt14_12, nge]
            rw [if_pos (by omega)]
            exact Ok.s ⟨fun _ => ⟨trivial, by omega, by omega, q3, P⟩, fun _ => rfl⟩
        · rw [if_neg q3]; exact Ok.s ⟨fun z => absurd z (by decide), fun z => by omega⟩
theorem m_can (hf : 200 < fu) (hk : k < 160) (G : MG μ k e) (E : EvOK e) (R : RM μ s) (H : Iv N s) : D_X7_can_0 fu μ (nI k) = some (canB s e) := by
  have tl : ∀ {x : Option Bool}, Ok x (fun r => r = true ↔ can s e) → x = some (canB s e) := fun h => by
    obtain ⟨r, h1, h2⟩ := h
    rw [h1]; congr 1
    cases r
    · refine (canB_f fun z => ?_).symm
      exact absurd (h2.mpr z) (by decide)
    · exact (canB_t.mpr (h2.mp rfl)).symm
  refine tl ?_
  unfold D_X7_can_0
  rw [gu_ib hk (by omega), nI_nat (by omega), G.1]
  rcases ev_cases E with h | h | h | h | h | h | h | h | h <;> rw [h]
  · have kk := E.k0 h
    rw [if_pos (show nI 0 = 0 from rfl), show D_X7_tell_0 μ (nI k) 0 = some (nI (e 2)) from m_tell0 hk (by decide) (Or.inl h) G, bi_s, show D_X7_tell_0 μ (nI k) 1 = some (nI (e 3)) from m_tell0 (j := 1) hk (by decide) (Or.inl h) G, bi_s, show D_X7_tell_0 μ (nI k) 2 = some (nI (e 4)) from m_tell0 (j := 2) hk (by decide) (Or.inl h) G, bi_s]
    refine Ok.b (m_canPlace hf kk.2.1 kk.2.2.1 kk.2.2.2.2.1 R.a H.T) fun r pr => Ok.s ?_
    rw [can_0 h]; exact pr
  · have kk := E.k1 h
    have ne : ¬ (e 0 = 0 ∨ e 0 = 4) := by omega
    rw [if_neg (by decide), if_pos (show nI 1 = 1 from rfl), show D_X7_tell_0 μ (nI k) 0 = some (nI (e 1)) from m_tell1 hk (by decide) ne G, bi_s, show D_X7_tell_0 μ (nI k) 1 = some (nI (e 2)) from m_tell1 (j := 1) hk (by decide) ne G, bi_s, show D_X7_tell_0 μ (nI k) 2 = some (nI (e 3)) from m_tell1 (j := 2) hk (by decide) ne G, bi_s]
    refine Ok.b (m_canSign hf kk.1 kk.2.1 kk.2.2.2 R H) fun r pr => Ok.s ?_
    rw [can_1 h]; exact pr
  · have kk := E.k2 h
    have ne : ¬ (e 0 = 0 ∨ e 0 = 4) := by omega
    rw [if_neg (by decide), if_neg (by decide), if_pos (show nI 2 = 2 from rfl), show D_X7_tell_0 μ (nI k) 0 = some (nI (e 1)) from m_tell1 hk (by decide) ne G, bi_s, m_lacking kk R.a H.T, bi_s, bi_s, m_gap kk R.a H.T, bi_s]
    rw [can_2 h]
    by_cases q : lkb s (e 1) = true
    · rw [if_pos q]
      exact Ok.s ⟨fun z => absurd z (by decide), fun z => by rw [z.1] at q; exact absurd q (by decide)⟩
    · have q' : lkb s (e 1) = false := by cases e : lkb s (e 1); rfl; exact absurd e q
      rw [if_neg q]
      by_cases q2 : hg s (e 1) = 0
      · rw [if_pos (decide_eq_true q2)]; exact Ok.s ⟨fun _ => ⟨q', q2⟩, fun _ => rfl⟩
      · rw [if_neg (by rw [decide_eq_false q2]; decide)]; exact Ok.s ⟨fun z => absurd z (by decide), fun z => absurd z.2 q2⟩
  · rw [if_neg (by decide), if_neg (by decide), if_neg (by decide), if_pos (show nI 3 = 3 from rfl), can_3 (Or.inl h)]
    exact Ok.s ⟨fun _ => trivial, fun _ => rfl⟩
  · rw [if_neg (by decide), if_neg (by decide), if_neg (by decide), if_neg (by decide), if_pos (show nI 4 = 4 from rfl), can_3 (Or.inr h)]
    exact Ok.s ⟨fun _ => trivial, fun _ => rfl⟩
  · have kk := E.k5 h
    have ne : ¬ (e 0 = 0 ∨ e 0 = 4) := by omega
    rw [if_neg (by decide), if_neg (by decide), if_neg (by decide), if_neg (by decide), if_neg (by decide), if_pos (show nI 5 = 5 from rfl), can_5 (Or.inl h)]
    unfold D_X7_can_134
    rw [show D_X7_tell_0 μ (nI k) 0 = some (nI (e 1)) from m_tell1 hk (by decide) ne G, bi_s, gu_ib (show e 1 < 25 by omega) (by decide), nI_nat (by omega), M_ish R (by omega)]
    rcases IvH_is H.H (show e 1 < 25 by omega) with z | z
    · rw [z]; exact Ok.s ⟨fun z => absurd z (by decide), fun z => absurd z (by decide)⟩
    · rw [z]; exact Ok.s ⟨fun _ => rfl, fun _ => by decide⟩
  · have kk := E.k6 h
    have ne : ¬ (e 0 = 0 ∨ e 0 = 4) := by omega
    rw [if_neg (by decide), if_neg (by decide), if_neg (by decide), if_neg (by decide), if_neg (by decide), if_neg (by decide), if_pos (show nI 6 = 6 from rfl), can_6 (Or.inl h)]
    unfold D_X7_can_146
    have s2 := IvR_sd H.R kk.2.1
    rw [show D_X7_tell_0 μ (nI k) 0 = some (nI (e 1)) from m_tell1 hk (by decide) ne G, bi_s, gu_ib kk.2.1 (by decide), nI_nat (by omega), M_sd R kk.2.1]
    simp (disch := omega) only [li0, li1, li2, li3, li4, li5, li6, li7, li8, li9, li10, li12, li24, li31, li40, li160, n_le, n_lt, n_eq, n_m1, n_add, mr4, mr6, mr7, mr10, mr40, mr160, ml4, ml6, ml7, ml10, ml40, ml160, gu_ib, nI_nat, bi_s, vl_e, gu_t, if_true, if_false, reduceIte, bt1_1, bt1_2, bt1_3, bt1_4, bt1_5, bt1_6, bt1_7, bt1_8, bt1_9, bt1_10, bt1_11, bt1_12, bt14_1, bt14_2, bt14_3, bt14_4, bt14_5, bt14_6, bt14_7, bt14_8, bt14_9, bt14_10, bt14_11, bt14_12]
    by_cases q : sd s (e 1) = 0
    · rw [if_pos q]; exact Ok.s ⟨fun _ => q, fun _ => rfl⟩
    · rw [if_neg q]; exact Ok.s ⟨fun z => absurd z (by decide), fun z => absurd z q⟩
  · have kk := E.k7 h
    have ne : ¬ (e 0 = 0 ∨ e 0 = 4) := by omega
    rw [if_neg (by decide), if_neg (by decide), if_neg (by decide), if_neg (by decide), if_neg (by decide), if_neg (by decide), if_neg (by decide), if_pos (show nI 7 = 7 from rfl), can_6 (Or.inr h)]
    unfold D_X7_can_146
    have s2 := IvR_sd H.R kk.2
    rw [show D_X7_tell_0 μ (nI k) 0 = some (nI (e 1)) from m_tell1 hk (by decide) ne G, bi_s, gu_ib kk.2 (by decide), nI_nat (by omega), M_sd R kk.2]
    simp (disch := omega) only [li0, li1, li2, li3, li4, li5, li6, li7, li8, li9, li10, li12, li24, li31, li40, li160, n_le, n_lt, n_eq, n_m1, n_add, mr4, mr6, mr7, mr10, mr40, mr160, ml4, ml6, ml7, ml10, ml40, ml160, gu_ib, nI_nat, bi_s, vl_e, gu_t, if_true, if_false, reduceIte, bt1_1, bt1_2, bt1_3, bt1_4, bt1_5, bt1_6, bt1_7, bt1_8, bt1_9, bt1_10, bt1_11, bt1_12, bt14_1, bt14_2, bt14_3, bt14_4, bt14_5, bt14_6, bt14_7, bt14_8, bt14_9, bt14_10, bt14_11, bt14_12]
    by_cases q : sd s (e 1) = 0
    · rw [if_pos q]; exact Ok.s ⟨fun _ => q, fun _ => rfl⟩
    · rw [if_neg q]; exact Ok.s ⟨fun z => absurd z (by decide), fun z => absurd z q⟩
  · have kk := E.k8 h
    have ne : ¬ (e 0 = 0 ∨ e 0 = 4) := by omega
    rw [if_neg (by decide), if_neg (by decide), if_neg (by decide), if_neg (by decide), if_neg (by decide), if_neg (by decide), if_neg (by decide), if_neg (by decide), if_pos (show nI 8 = 8 from rfl), can_5 (Or.inr h)]
    unfold D_X7_can_134
    rw [show D_X7_tell_0 μ (nI k) 0 = some (nI (e 1)) from m_tell1 hk (by decide) ne G, bi_s, gu_ib (show e 1 < 25 by omega) (by decide), nI_nat (by omega), M_ish R (by omega)]
    rcases IvH_is H.H (show e 1 < 25 by omega) with z | z
    · rw [z]; exact Ok.s ⟨fun z => absurd z (by decide), fun z => absurd z (by decide)⟩
    · rw [z]; exact Ok.s ⟨fun _ => rfl, fun _ => by decide⟩
/-! clearing -/
theorem rw40 {c h i : Nat} {x μ : Mem} {w : Nat} (hi : i < w) (K : ∀ j, x.2.1 c j = if w * h ≤ j ∧ j < w * h + i then zL 0 else μ.2.1 c j) : ∀ j, (wL x c (w * h + i) (zL 0)).2.1 c j = if w * h ≤ j ∧ j < w * h + (i + 1) then zL 0 else μ.2.1 c j := fun j => by
  rw [wL_s, K j]
  by_cases e : j = w * h + i
  · rw [if_pos e, if_pos (by omega)]
  · rw [if_neg e]
    by_cases q : w * h ≤ j ∧ j < w * h + i
    · rw [if_pos q, if_pos (by omega)]
    · rw [if_neg q, if_neg (by omega)]
theorem m_clrH {h : Nat} (hf : 200 < fu) (hh : h < 25) : Ok (D_X7_clearsHarm_0 fu (nI h) μ) (fun x => Fr (fun q => 105 ≤ q ∧ q ≤ 110) μ x ∧ (∀ c, 105 ≤ c → c ≤ 107 → ∀ j, x.2.1 c j = if 40 * h ≤ j ∧ j < 40 * h + 40 then zL 0 else μ.2.1 c j) ∧ (∀ j, x.1 108 j = if 160 * h ≤ j ∧ j < 160 * h + 160 then 0 else μ.1 108 j) ∧ (∀ j, x.2.1 109 j = if 10 * h ≤ j ∧ j < 10 * h + 10 then zL 0 else μ.2.1 109 j) ∧ ∀ j, x.2.1 110 j = if 7 * h ≤ j ∧ j < 7 * h + 7 then zL 0 else μ.2.1 110 j) := by
  unfold D_X7_clearsHarm_0
  refine Ok.for (fun n i x => D_X7_clearsHarm_2 fu n (nI h) (nI i) x) 40 (fun i x => Fr (fun q => 105 ≤ q ∧ q ≤ 107) μ x ∧ (∀ j, x.2.1 105 j = if 40 * h ≤ j ∧ j < 40 * h + i then zL 0 else μ.2.1 105 j) ∧ (∀ j, x.2.1 106 j = if 40 * h ≤ j ∧ j < 40 * h + i then zL 0 else μ.2.1 106 j) ∧ ∀ j, x.2.1 107 j = if 40 * h ≤ j ∧ j < 40 * h + i then zL 0 else μ.2.1 107 j) ?_ ?_ fu 0 μ (by omega) (by omega) ⟨Fr.rfl', fun j => by rw [if_neg (by omega)], fun j => by rw [if_neg (by omega)], fun j => by rw [if_neg (by omega)]⟩
  · intro n i x hi P kk
    simp (disch := omega) only [D_X7_clearsHarm_2, li0, li1, li2, li3, li4, li5, li6, li7, li8, li9, li10, li12, li24, li31, li40, li160, n_le, n_lt, n_eq, n_m1, n_add, mr4, mr6, mr7, mr10, mr40, mr160, ml4, ml6, ml7, ml10, ml40, ml160, gu_ib, nI_nat, bi_s, vl_e, gu_t, if_true, if_false, reduceIte, bt1_1, bt1_2, bt1_3, bt1_4, bt1_5, bt1_6, bt1_7, bt1_8, bt1_9, bt1_10, bt1_11, bt1_12, bt14_1, bt14_2, bt14_3, bt14_4, bt14_5, bt14_6, bt14_7, bt14_8, bt14_9, bt14_10, bt14_11, bt14_12, ll0, ll1, ll2, ll10, ll2e9]
    rw [if_neg (by omega)]
    refine kk _ ⟨Fr.wL (Fr.wL (Fr.wL P.1 (by omega)) (by omega)) (by omega), ?_, ?_, ?_⟩
    · intro j; rw [wL_n (by decide), wL_n (by decide)]; exact rw40 hi P.2.1 j
    · intro j; rw [wL_n (by decide), wL_sw (wL_n (show 106 ≠ 105 by decide))]; exact rw40 hi P.2.2.1 j
    · intro j; rw [wL_sw (show (wL (wL x 105 (40 * h + i) (zL 0)) 106 (40 * h + i) (zL 0)).2.1 107 = x.2.1 107 by rw [wL_n (by decide), wL_n (by decide)])]; exact rw40 hi P.2.2.2 j
  · intro n x1 P1
    simp (disch := omega) only [D_X7_clearsHarm_2, li0, li1, li2, li3, li4, li5, li6, li7, li8, li9, li10, li12, li24, li31, li40, li160, n_le, n_lt, n_eq, n_m1, n_add, mr4, mr6, mr7, mr10, mr40, mr160, ml4, ml6, ml7, ml10, ml40, ml160, gu_ib, nI_nat, bi_s, vl_e, gu_t, if_true, if_false, reduceIte, bt1_1, bt1_2, bt1_3, bt1_4, bt1_5, bt1_6, bt1_7, bt1_8, bt1_9, bt1_10, bt1_11, bt1_12, bt14_1, bt14_2, bt14_3, bt14_4, bt14_5, bt14_6, bt14_7, bt14_8, bt14_9, bt14_10, bt14_11, bt14_12]
    rw [if_pos (by omega)]
    refine Ok.for (fun n i x => D_X7_clearsHarm_52 fu n (nI h) (nI i) x) 160 (fun i x => Fr (fun q => q = 108) x1 x ∧ ∀ j, x.1 108 j = if 160 * h ≤ j ∧ j < 160 * h + i then 0 else μ.1 108 j) ?_ ?_ fu 0 x1 (by omega) (by omega) ⟨Fr.rfl', fun j => by rw [if_neg (by omega), P1.1.I (by omega)]⟩
    · intro n i x hi P kk
      simp (disch := omega) only [D_X7_clearsHarm_52, li0, li1, li2, li3, li4, li5, li6, li7, li8, li9, li10, li12, li24, li31, li40, li160, n_le, n_lt, n_eq, n_m1, n_add, mr4, mr6, mr7, mr10, mr40, mr160, ml4, ml6, ml7, ml10, ml40, ml160, gu_ib, nI_nat, bi_s, vl_e, gu_t, if_true, if_false, reduceIte, bt1_1, bt1_2, bt1_3, bt1_4, bt1_5, bt1_6, bt1_7, bt1_8, bt1_9, bt1_10, bt1_11, bt1_12, bt14_1, bt14_2, bt14_3, bt14_4, bt14_5, bt14_6, bt14_7, bt14_8, bt14_9, bt14_10, bt14_11, bt14_12]
      rw [if_neg (by omega)]
      refine kk _ ⟨Fr.wI P.1 rfl, fun j => ?_⟩
      rw [wI_s, P.2 j]
      by_cases e : j = 160 * h + i
      · rw [if_pos e, if_pos (by omega)]; rfl
      · rw [if_neg e]
        by_cases q : 160 * h ≤ j ∧ j < 160 * h + i
        · rw [if_pos q, if_pos (by omega)]
        · rw [if_neg q, if_neg (by omega)]
    · intro n x2 P2
      simp (disch := omega) only [D_X7_clearsHarm_52, li0, li1, li2, li3, li4, li5, li6, li7, li8, li9, li10, li12, li24, li31, li40, li160, n_le, n_lt, n_eq, n_m1, n_add, mr4, mr6, mr7, mr10, mr40, mr160, ml4, ml6, ml7, ml10, ml40, ml160, gu_ib, nI_nat, bi_s, vl_e, gu_t, if_true, if_false, reduceIte, bt1_1, bt1_2, bt1_3, bt1_4, bt1_5, bt1_6, bt1_7, bt1_8, bt1_9, bt1_10, bt1_11, bt1_12, bt14_1, bt14_2, bt14_3, bt14_4, bt14_5, bt14_6, bt14_7, bt14_8, bt14_9, bt14_10, bt14_11, bt14_12]
      rw [if_pos (by omega)]
      refine Ok.for (fun n i x => D_X7_clearsHarm_80 fu n (nI h) (nI i) x) 10 (fun i x => Fr (fun q => q = 109) x2 x ∧ ∀ j, x.2.1 109 j = if 10 * h ≤ j ∧ j < 10 * h + i then zL 0 else μ.2.1 109 j) ?_ ?_ fu 0 x2 (by omega) (by omega) ⟨Fr.rfl', fun j => by rw [if_neg (by omega), P2.1.L (by omega), P1.1.L (by omega)]⟩
      · intro n i x hi P kk
        simp (disch := omega) only [D_X7_clearsHarm_80, li0, li1, li2, li3, li4, li5, li6, li7, li8, li9, li10, li12, li24, li31, li40, li160, n_le, n_lt, n_eq, n_m1, n_add, mr4, mr6, mr7, mr10, mr40, mr160, ml4, ml6, ml7, ml10, ml40, ml160, gu_ib, nI_nat, bi_s, vl_e, gu_t, if_true, if_false, reduceIte, bt1_1, bt1_2, bt1_3, bt1_4, bt1_5, bt1_6, bt1_7, bt1_8, bt1_9, bt1_10, bt1_11, bt1_12, bt14_1, bt14_2, bt14_3, bt14_4, bt14_5, bt14_6, bt14_7, bt14_8, bt14_9, bt14_10, bt14_11, bt14_12, ll0, ll1, ll2, ll10, ll2e9]
        rw [if_neg (by omega)]
        exact kk _ ⟨Fr.wL P.1 rfl, rw40 hi P.2⟩
      · intro n x3 P3
        simp (disch := omega) only [D_X7_clearsHarm_80, li0, li1, li2, li3, li4, li5, li6, li7, li8, li9, li10, li12, li24, li31, li40, li160, n_le, n_lt, n_eq, n_m1, n_add, mr4, mr6, mr7, mr10, mr40, mr160, ml4, ml6, ml7, ml10, ml40, ml160, gu_ib, nI_nat, bi_s, vl_e, gu_t, if_true, if_false, reduceIte, bt1_1, bt1_2, bt1_3, bt1_4, bt1_5, bt1_6, bt1_7, bt1_8, bt1_9, bt1_10, bt1_11, bt1_12, bt14_1, bt14_2, bt14_3, bt14_4, bt14_5, bt14_6, bt14_7, bt14_8, bt14_9, bt14_10, bt14_11, bt14_12]
        rw [if_pos (by omega)]
        refine Ok.for (fun n i x => D_X7_clearsHarm_106 fu n (nI h) (nI i) x) 7 (fun i x => Fr (fun q => q = 110) x3 x ∧ ∀ j, x.2.1 110 j = if 7 * h ≤ j ∧ j < 7 * h + i then zL 0 else μ.2.1 110 j) ?_ ?_ fu 0 x3 (by omega) (by omega) ⟨Fr.rfl', fun j => by rw [if_neg (by omega), P3.1.L (by omega), P2.1.L (by omega), P1.1.L (by omega)]⟩
        · intro n i x hi P kk
          simp (disch := omega) only [D_X7_clearsHarm_106, li0, li1, li2, li3, li4, li5, li6, li7, li8, li9, li10, li12, li24, li31, li40, li160, n_le, n_lt, n_eq, n_m1, n_add, mr4, mr6, mr7, mr10, mr40, mr160, ml4, ml6, ml7, ml10, ml40, ml160, gu_ib, nI_nat, bi_s, vl_e, gu_t, if_true, if_false, reduceIte, bt1_1, bt1_2, bt1_3, bt1_4, bt1_5, bt1_6, bt1_7, bt1_8, bt1_9, bt1_10, bt1_11, bt1_12, bt14_1, bt14_2, bt14_3, bt14_4, bt14_5, bt14_6, bt14_7, bt14_8, bt14_9, bt14_10, bt14_11, bt14_12, ll0, ll1, ll2, ll10, ll2e9]
          rw [if_neg (by omega)]
          exact kk _ ⟨Fr.wL P.1 rfl, rw40 hi P.2⟩
        · intro n x4 P4
          simp (disch := omega) only [D_X7_clearsHarm_106, li0, li1, li2, li3, li4, li5, li6, li7, li8, li9, li10, li12, li24, li31, li40, li160, n_le, n_lt, n_eq, n_m1, n_add, mr4, mr6, mr7, mr10, mr40, mr160, ml4, ml6, ml7, ml10, ml40, ml160, gu_ib, nI_nat, bi_s, vl_e, gu_t, if_true, if_false, reduceIte, bt1_1, bt1_2, bt1_3, bt1_4, bt1_5, bt1_6, bt1_7, bt1_8, bt1_9, bt1_10, bt1_11, bt1_12, bt14_1, bt14_2, bt14_3, bt14_4, bt14_5, bt14_6, bt14_7, bt14_8, bt14_9, bt14_10, bt14_11, bt14_12]
          rw [if_pos (by omega)]
          refine Ok.s ⟨(((P1.1.mo fun q z => by omega).tr (P2.1.mo fun q z => by omega)).tr (P3.1.mo fun q z => by omega)).tr (P4.1.mo fun q z => by omega), fun c h1 h2 j => ?_, fun j => ?_, fun j => ?_, P4.2⟩
          · have hc : c = 105 ∨ c = 106 ∨ c = 107 := by omega
            rw [P4.1.L (by omega), P3.1.L (by omega), P2.1.L (by omega)]
            rcases hc with e | e | e <;> subst e
            · exact P1.2.1 j
            · exact P1.2.2.1 j
            · exact P1.2.2.2 j
          · rw [P4.1.I (by omega), P3.1.I (by omega)]; exact P2.2 j
          · rw [P4.1.L (by omega)]; exact P3.2 j
theorem m_clears (hf : 200 < fu) : Ok (D_X7_clears_0 fu μ) (fun x => Fr (fun q => q = 85 ∨ 90 ≤ q ∧ q ≤ 114) μ x ∧ (∀ j, j < 29 ∨ 32 < j → x.1 85 j = μ.1 85 j) ∧ RM x sp0) := by
  unfold D_X7_clears_0
  refine Ok.for (fun n i x => D_X7_clears_2 fu n (nI i) x) 40 (fun i x => Fr (fun q => q = 90 ∨ q = 96 ∨ q = 99) μ x ∧ ∀ l, l < i → x.1 90 l = nI 0 ∧ x.1 96 l = nI 0 ∧ x.2.1 99 l = zL 0) ?_ ?_ fu 0 μ (by omega) (by omega) ⟨Fr.rfl', fun j h => absurd h (Nat.not_lt_zero j)⟩
  · intro n i x hi P kk
    simp (disch := omega) only [D_X7_clears_2, li0, li1, li2, li3, li4, li5, li6, li7, li8, li9, li10, li12, li24, li31, li40, li160, n_le, n_lt, n_eq, n_m1, n_add, mr4, mr6, mr7, mr10, mr40, mr160, ml4, ml6, ml7, ml10, ml40, ml160, gu_ib, nI_nat, bi_s, vl_e, gu_t, if_true, if_false, reduceIte, bt1_1, bt1_2, bt1_3, bt1_4, bt1_5, bt1_6, bt1_7, bt1_8, bt1_9, bt1_10, bt1_11, bt1_12, bt14_1, bt14_2, bt14_3, bt14_4, bt14_5, bt14_6, bt14_7, bt14_8, bt14_9, bt14_10, bt14_11, bt14_12, ll0, ll1, ll2, ll10, ll2e9]
    rw [if_neg (by omega)]
    refine kk _ ⟨Fr.wL (Fr.wI (Fr.wI P.1 (by omega)) (by omega)) (by omega), fun l hl => ?_⟩
    simp (disch := omega) only [wL_1, wI_n, wI_s, wL_s, wI_L]
    by_cases e : l = i
    · rw [if_pos e, if_pos e, if_pos e]; exact ⟨rfl, rfl, rfl⟩
    · rw [if_neg e, if_neg e, if_neg e]; exact P.2 l (by omega)
  · intro n x1 P1
    simp (disch := omega) only [D_X7_clears_2, li0, li1, li2, li3, li4, li5, li6, li7, li8, li9, li10, li12, li24, li31, li40, li160, n_le, n_lt, n_eq, n_m1, n_add, mr4, mr6, mr7, mr10, mr40, mr160, ml4, ml6, ml7, ml10, ml40, ml160, gu_ib, nI_nat, bi_s, vl_e, gu_t, if_true, if_false, reduceIte, bt1_1, bt1_2, bt1_3, bt1_4, bt1_5, bt1_6, bt1_7, bt1_8, bt1_9, bt1_10, bt1_11, bt1_12, bt14_1, bt14_2, bt14_3, bt14_4, bt14_5, bt14_6, bt14_7, bt14_8, bt14_9, bt14_10, bt14_11, bt14_12]
    rw [if_pos (by omega)]
    refine Ok.for (fun n i x => D_X7_clears_37 fu n (nI i) x) 25 (fun i x => Fr (fun q => q = 91 ∨ q = 103 ∨ q = 104 ∨ 105 ≤ q ∧ q ≤ 110) x1 x ∧ (∀ h, h < i → x.1 91 h = nI 0 ∧ x.1 103 h = nI 0 ∧ x.2.1 104 h = zL 0) ∧ (∀ c, 105 ≤ c → c ≤ 107 → ∀ j, j < 40 * i → x.2.1 c j = zL 0) ∧ (∀ j, j < 160 * i → x.1 108 j = 0) ∧ (∀ j, j < 10 * i → x.2.1 109 j = zL 0) ∧ ∀ j, j < 7 * i → x.2.1 110 j = zL 0) ?_ ?_ fu 0 x1 (by omega) (by omega) ⟨Fr.rfl', fun j h => absurd h (Nat.not_lt_zero j), fun _ _ _ j h => by omega, fun j h => by omega, fun j h => by omega, fun j h => by omega⟩
    · intro n i x hi P kk
      obtain ⟨P1', P2, P3, P4, P5, P6⟩ := P
      simp (disch := omega) only [D_X7_clears_37, li0, li1, li2, li3, li4, li5, li6, li7, li8, li9, li10, li12, li24, li31, li40, li160, n_le, n_lt, n_eq, n_m1, n_add, mr4, mr6, mr7, mr10, mr40, mr160, ml4, ml6, ml7, ml10, ml40, ml160, gu_ib, nI_nat, bi_s, vl_e, gu_t, if_true, if_false, reduceIte, bt1_1, bt1_2, bt1_3, bt1_4, bt1_5, bt1_6, bt1_7, bt1_8, bt1_9, bt1_10, bt1_11, bt1_12, bt14_1, bt14_2, bt14_3, bt14_4, bt14_5, bt14_6, bt14_7, bt14_8, bt14_9, bt14_10, bt14_11, bt14_12, ll0, ll1, ll2, ll10, ll2e9]
      rw [if_neg (by omega)]
      refine Ok.b (m_clrH hf hi) fun w pw' => ?_
      obtain ⟨W, W1, W2, W3, W4⟩ := pw'
      refine kk _ ⟨Fr.tr (Fr.wL (Fr.wI (Fr.wI P1' (by omega)) (by omega)) (by omega)) (W.mo fun q z => by omega), fun h hh => ?_, fun c h1 h2 j hj => ?_, fun j hj => ?_, fun j hj => ?_, fun j hj => ?_⟩
      · rw [W.I (by omega), W.I (by omega), W.L (by omega)]
        simp (disch := omega) only [wL_1, wI_n, wI_s, wL_s, wI_L]
        by_cases e : h = i
        · rw [if_pos e, if_pos e, if_pos e]; exact ⟨rfl, rfl, rfl⟩
        · rw [if_neg e, if_neg e, if_neg e]; exact P2 h (by omega)
      · rw [W1 c h1 h2 j]
        split
        · rfl
        · rw [wL_n (by omega), wI_L, wI_L]; exact P3 c h1 h2 j (by omega)
      · rw [W2 j]
        split
        · rfl
        · rw [wL_1, wI_n (by decide), wI_n (by decide)]; exact P4 j (by omega)
      · rw [W3 j]
        split
        · rfl
        · rw [wL_n (by omega), wI_L, wI_L]; exact P5 j (by omega)
      · rw [W4 j]
        split
        · rfl
        · rw [wL_n (by omega), wI_L, wI_L]; exact P6 j (by omega)
    · intro n x2 P2
      have q24 : nI 24 < nI 25 := by decide
      rw [D_X7_clears_37, li24, if_pos q24]
      refine Ok.for (fun n i x => D_X7_clears_77 fu n (nI i) x) 10 (fun i x => Fr (fun q => q = 111 ∨ q = 112) x2 x ∧ ∀ l, l < i → x.1 111 l = nI 0 ∧ x.1 112 l = nI 0) ?_ ?_ fu 0 x2 (by omega) (by omega) ⟨Fr.rfl', fun j h => absurd h (Nat.not_lt_zero j)⟩
      · intro n i x hi P kk
        simp (disch := omega) only [D_X7_clears_77, li0, li1, li2, li3, li4, li5, li6, li7, li8, li9, li10, li12, li24, li31, li40, li160, n_le, n_lt, n_eq, n_m1, n_add, mr4, mr6, mr7, mr10, mr40, mr160, ml4, ml6, ml7, ml10, ml40, ml160, gu_ib, nI_nat, bi_s, vl_e, gu_t, if_true, if_false, reduceIte, bt1_1, bt1_2, bt1_3, bt1_4, bt1_5, bt1_6, bt1_7, bt1_8, bt1_9, bt1_10, bt1_11, bt1_12, bt14_1, bt14_2, bt14_3, bt14_4, bt14_5, bt14_6, bt14_7, bt14_8, bt14_9, bt14_10, bt14_11, bt14_12]
        rw [if_neg (by omega)]
        refine kk _ ⟨Fr.wI (Fr.wI P.1 (by omega)) (by omega), fun l hl => ?_⟩
        simp (disch := omega) only [wI_n, wI_s]
        by_cases e : l = i
        · rw [if_pos e, if_pos e]; exact ⟨rfl, rfl⟩
        · rw [if_neg e, if_neg e]; exact P.2 l (by omega)
      · intro n x3 P3
        simp (disch := omega) only [D_X7_clears_77, li0, li1, li2, li3, li4, li5, li6, li7, li8, li9, li10, li12, li24, li31, li40, li160, n_le, n_lt, n_eq, n_m1, n_add, mr4, mr6, mr7, mr10, mr40, mr160, ml4, ml6, ml7, ml10, ml40, ml160, gu_ib, nI_nat, bi_s, vl_e, gu_t, if_true, if_false, reduceIte, bt1_1, bt1_2, bt1_3, bt1_4, bt1_5, bt1_6, bt1_7, bt1_8, bt1_9, bt1_10, bt1_11, bt1_12, bt14_1, bt14_2, bt14_3, bt14_4, bt14_5, bt14_6, bt14_7, bt14_8, bt14_9, bt14_10, bt14_11, bt14_12]
        rw [if_pos (by omega)]
        refine Ok.for (fun n i x => D_X7_clears_105 fu n (nI i) x) 12 (fun i x => Fr (fun q => q = 114) x3 x ∧ ∀ l, l < i → x.1 114 l = nI 0) ?_ ?_ fu 0 x3 (by omega) (by omega) ⟨Fr.rfl', fun j h => absurd h (Nat.not_lt_zero j)⟩
        · intro n i x hi P kk
          simp (disch := omega) only [D_X7_clears_105, li0, li1, li2, li3, li4, li5, li6, li7, li8, li9, li10, li12, li24, li31, li40, li160, n_le, n_lt, n_eq, n_m1, n_add, mr4, mr6, mr7, mr10, mr40, mr160, ml4, ml6, ml7, ml10, ml40, ml160, gu_ib, nI_nat, bi_s, vl_e, gu_t, if_true, if_false, reduceIte, bt1_1, bt1_2, bt1_3, bt1_4, bt1_5, bt1_6, bt1_7, bt1_8, bt1_9, bt1_10, bt1_11, bt1_12, bt14_1, bt14_2, bt14_3, bt14_4, bt14_5, bt14_6, bt14_7, bt14_8, bt14_9, bt14_10, bt14_11, bt14_12]
          rw [if_neg (by omega)]
          refine kk _ ⟨Fr.wI P.1 (by omega), fun l hl => ?_⟩
          rw [wI_s]; split
          · rfl
          · exact P.2 l (by omega)
        · intro n x4 P4
          simp (disch := omega) only [D_X7_clears_105, li0, li1, li2, li3, li4, li5, li6, li7, li8, li9, li10, li12, li24, li31, li40, li160, n_le, n_lt, n_eq, n_m1, n_add, mr4, mr6, mr7, mr10, mr40, mr160, ml4, ml6, ml7, ml10, ml40, ml160, gu_ib, nI_nat, bi_s, vl_e, gu_t, if_true, if_false, reduceIte, bt1_1, bt1_2, bt1_3, bt1_4, bt1_5, bt1_6, bt1_7, bt1_8, bt1_9, bt1_10, bt1_11, bt1_12, bt14_1, bt14_2, bt14_3, bt14_4, bt14_5, bt14_6, bt14_7, bt14_8, bt14_9, bt14_10, bt14_11, bt14_12]
          rw [if_pos (by omega)]
          generalize ew : wI (wI (wI (wI x4 85 29 (nI 0)) 85 30 (nI 0)) 85 31 (nI 0)) 85 32 (nI 0) = w
          have wo : ∀ q, q ≠ 85 → w.1 q = x4.1 q := fun q hq => by subst ew; rw [wI_n hq, wI_n hq, wI_n hq, wI_n hq]
          have wl : w.2.1 = x4.2.1 := by subst ew; rfl
          have w85 : ∀ j, w.1 85 j = if 29 ≤ j ∧ j ≤ 32 then nI 0 else x4.1 85 j := fun j => by
            subst ew
            simp only [wI_s]
            by_cases q : 29 ≤ j ∧ j ≤ 32
            · rw [if_pos q]
              have : j = 29 ∨ j = 30 ∨ j = 31 ∨ j = 32 := by omega
              rcases this with e | e | e | e <;> subst e <;> rfl
            · rw [if_neg q, if_neg (by omega), if_neg (by omega), if_neg (by omega), if_neg (by omega)]
          have F4 : Fr (fun q => q = 85 ∨ 90 ≤ q ∧ q ≤ 114) μ x4 := ((((P1.1.mo fun q z => by omega).tr (P2.1.mo fun q z => by omega))).tr (P3.1.mo fun q z => by omega)).tr (P4.1.mo fun q z => by omega)
          have WF : Fr (fun q => q = 85 ∨ 90 ≤ q ∧ q ≤ 114) μ w := by subst ew; exact Fr.wI (Fr.wI (Fr.wI (Fr.wI F4 (Or.inl rfl)) (Or.inl rfl)) (Or.inl rfl)) (Or.inl rfl)
          have L4 : ∀ q, q ≠ 114 → q ≠ 111 → q ≠ 112 → x4.2.1 q = x2.2.1 q ∧ x4.1 q = x2.1 q := fun q a b c => by
            rw [P4.1.L a, P3.1.L (by omega), P4.1.I a, P3.1.I (by omega)]; exact ⟨rfl, rfl⟩
          refine Ok.s ⟨WF, fun j hj => ?_, ?_, ?_, ?_⟩
          · rw [w85, if_neg (by omega), P4.1.I (by decide), P3.1.I (by decide), P2.1.I (by decide), P1.1.I (by decide)]
          · refine ⟨fun l hl => ?_, fun l hl => ?_, fun _ _ h => absurd h n01, fun _ _ h => absurd h n01, fun _ _ h => absurd h n01, fun _ _ h => absurd h n01, fun _ _ h => absurd h n01, fun _ _ _ h => absurd h (Nat.not_lt_zero _), fun _ _ _ h => absurd h (Nat.not_lt_zero _), fun y hy => ?_, fun _ _ _ h => absurd h (Nat.not_lt_zero _), ?_⟩
            · rw [wo _ (by decide), (L4 90 (by decide) (by decide) (by decide)).2, P2.1.I (by decide)]; exact (P1.2 l hl).1
            · rw [wo _ (by decide), (L4 96 (by decide) (by decide) (by decide)).2, P2.1.I (by decide)]; exact (P1.2 l hl).2.1
            · rw [wo _ (by decide)]; exact P4.2 y hy
            · rw [w85, if_pos (by decide)]; rfl
          · refine ⟨fun h hh => ?_, fun _ _ h => absurd h n01, fun _ _ h => absurd h n01, fun _ _ h => absurd h n01, fun h hh => ?_, fun i hi => ?_, fun i hi => ?_, ?_, ?_, ?_⟩
            · rw [wo _ (by decide), (L4 91 (by decide) (by decide) (by decide)).2]; exact (P2.2.1 h hh).1
            · rw [wo _ (by decide), (L4 103 (by decide) (by decide) (by decide)).2]; exact (P2.2.1 h hh).2.1
            · rw [wo _ (by decide), P4.1.I (by decide)]; exact (P3.2 i hi).1
            · rw [wo _ (by decide), P4.1.I (by decide)]; exact (P3.2 i hi).2
            · rw [w85, if_pos (by decide)]; rfl
            · rw [w85, if_pos (by decide)]; rfl
            · rw [w85, if_pos (by decide)]; rfl
          · refine ⟨fun l hl => ?_, fun h hh => ?_, fun j hj => ?_, fun j hj => ?_, fun j hj => ?_, fun j hj => ?_, fun j hj => ?_, fun j hj => ?_⟩
            · rw [wl, (L4 99 (by decide) (by decide) (by decide)).1, P2.1.L (by decide)]; exact (P1.2 l hl).2.2
            · rw [wl, (L4 104 (by decide) (by decide) (by decide)).1]; exact (P2.2.1 h hh).2.2
            · rw [wl, (L4 105 (by decide) (by decide) (by decide)).1]; exact P2.2.2.1 _ (by decide) (by decide) j hj
            · rw [wl, (L4 106 (by decide) (by decide) (by decide)).1]; exact P2.2.2.1 _ (by decide) (by decide) j hj
            · rw [wl, (L4 107 (by decide) (by decide) (by decide)).1]; exact P2.2.2.1 _ (by decide) (by decide) j hj
            · rw [wo _ (by decide), (L4 108 (by decide) (by decide) (by decide)).2]; exact P2.2.2.2.1 j hj
            · rw [wl, (L4 109 (by decide) (by decide) (by decide)).1]; exact P2.2.2.2.2.1 j hj
            · rw [wl, (L4 110 (by decide) (by decide) (by decide)).1]; exact P2.2.2.2.2.2 j hj
end
