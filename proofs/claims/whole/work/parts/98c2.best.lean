/-! questions that go over: best -/
section
variable {fu n N M : Nat} {ev : Nat → Ev} {μ m : Mem} {s t : Sp} {P : Nat → Prop}
/-- the first least one of k values -/
def bF (W : Nat → Int64) (k : Nat) (v : Int32) (z : Int64) : Prop := (k = 0 ∧ v = -1 ∧ z = 0) ∨ ∃ f, f < k ∧ v = nI f ∧ z = W f ∧ (∀ j, j < k → (W f).toInt ≤ (W j).toInt) ∧ ∀ j, j < f → (W f).toInt < (W j).toInt
theorem bF_u {W : Nat → Int64} {k : Nat} {v v' : Int32} {z z' : Int64} (a : bF W k v z) (b : bF W k v' z') : v = v' ∧ z = z' := by
  rcases a with ⟨h1, h2, h3⟩ | ⟨f, h1, h2, h3, h4, h5⟩ <;> rcases b with ⟨g1, g2, g3⟩ | ⟨g, g1, g2, g3, g4, g5⟩
  · exact ⟨h2.trans g2.symm, h3.trans g3.symm⟩
  · omega
  · omega
  · have : f = g := by
      rcases Nat.lt_trichotomy f g with c | c | c
      · have := g5 f c; have := h4 g g1; omega
      · exact c
      · have := h5 g c; have := g4 f h1; omega
    subst this
    exact ⟨h2.trans g2.symm, h3.trans g3.symm⟩
theorem bF_new {W : Nat → Int64} {k : Nat} {v : Int32} {z : Int64} (hk : k < 1000) (a : bF W k v z) (h : v = -1 ∨ (W k).toInt < z.toInt) : bF W (k + 1) (nI k) (W k) := by
  refine Or.inr ⟨k, by omega, rfl, rfl, ?_⟩
  rcases a with ⟨h1, -, -⟩ | ⟨f, h1, h2, h3, h4, h5⟩
  · subst h1
    exact ⟨fun j hj => by rw [show j = 0 by omega]; exact Int.le_refl _, fun j hj => absurd hj (Nat.not_lt_zero j)⟩
  · rcases h with h | h
    · rw [h2, n_m1 (by omega)] at h; exact h.elim
    · rw [h3] at h
      refine ⟨fun j hj => ?_, fun j hj => ?_⟩
      · by_cases e : j = k
        · rw [e]; exact Int.le_refl _
        · have := h4 j (by omega); omega
      · have := h4 j hj; omega
theorem bF_old {W : Nat → Int64} {k : Nat} {v : Int32} {z : Int64} (a : bF W k v z) (h1 : v ≠ -1) (h2 : z.toInt ≤ (W k).toInt) : bF W (k + 1) v z := by
  rcases a with ⟨g1, g2, g3⟩ | ⟨f, g1, g2, g3, g4, g5⟩
  · exact absurd g2 h1
  · refine Or.inr ⟨f, by omega, g2, g3, fun j hj => ?_, g5⟩
    by_cases e : j = k
    · rw [e, ← g3]; exact h2
    · exact g4 j (by omega)
theorem bF_skip {W : Nat → Int64} {k j : Nat} {v : Int32} {z : Int64} (a : bF W k v z) (hj : j < k) (h : W j = W k) : bF W (k + 1) v z := by
  rcases a with ⟨g1, g2, g3⟩ | ⟨f, g1, g2, g3, g4, g5⟩
  · omega
  · refine Or.inr ⟨f, by omega, g2, g3, fun i hi => ?_, g5⟩
    by_cases e : i = k
    · rw [e, ← h]; exact g4 j hj
    · exact g4 i (by omega)
theorem b64 : ∀ k, k < 64 → (nI k >>> (4 &&& 31) = nI (k / 16) ∧ (nI k >>> (2 &&& 31)) &&& 3 = nI (k / 4 % 4) ∧ nI k &&& 3 = nI (k % 4) ∧ nI k / 16 = nI (k / 16) ∧ nI k / 4 - nI k / 4 / 4 * 4 = nI (k / 4 % 4) ∧ nI k - nI k / 4 * 4 = nI (k % 4)) := by decide +kernel
/-- what one bears by the k-th rules -/
noncomputable def bW (ev : Nat → Ev) (n i k : Nat) : Int64 := zL (bA (rF ev (fun k => decide (ev k 0 ≠ 3)) (ruS sp0 (k / 16) (k / 4 % 4) (k % 4)) n) i)
theorem bW_p {i k : Nat} (G : EG ev n) (h : k / 4 % 4 ≠ 2) : bW ev n i (k - k % 4) = bW ev n i k := by
  unfold bW
  rw [show (k - k % 4) / 16 = k / 16 by omega, show (k - k % 4) / 4 % 4 = k / 4 % 4 by omega, show (k - k % 4) % 4 = 0 by omega, pk_bA (k % 4) i G h]
def bR (w f : Nat) (z : Int64) : Int64 := if w = 0 then (nI (f / 16)).toInt64 else if w = 1 then (nI (f / 4 % 4)).toInt64 else if w = 2 then (nI (f % 4)).toInt64 else z
def bQ (ev : Nat → Ev) (n i w : Nat) (μ : Mem) (r : (Int64 ⊕ String) × Mem) : Prop := ∃ f z, bF (bW ev n i) 64 (nI f) z ∧ f < 64 ∧ r.1 = .inl (bR w f z) ∧ CI ev n r.2 ∧ Fr (fun q => q ≤ 83) μ r.2
theorem nk1 (k : Nat) : nI k + 1 = nI (k + 1) := by rw [li1, n_add]
theorem c_best {i w : Nat} (hf : 200 < fu) (hi : i < 10) (hw : w < 4) (G : EG ev n) (C : CI ev n μ) : Ok (D_X6_best_33 fu fu (nI i) (nI w) (-1) 0 0 μ) (bQ ev n i w μ) := by
  refine Ok.for (α := Int32 × Int64 × Mem) (fun q k s => D_X6_best_33 fu q (nI i) (nI w) s.1 s.2.1 (nI k) s.2.2) 64 (fun k s => bF (bW ev n i) k s.1 s.2.1 ∧ CI ev n s.2.2 ∧ Fr (fun q => q ≤ 83) μ s.2.2) ?_ ?_ fu 0 (-1, 0, μ) (by omega) (by omega) ⟨Or.inl ⟨rfl, rfl, rfl⟩, C, Fr.rfl'⟩
  · rintro q k ⟨v, z, x⟩ hk ⟨B, C', F⟩ kk
    obtain ⟨a1, a2, a3, -, -, -⟩ := b64 k hk
    show Ok (D_X6_best_33 fu (q + 1) (nI i) (nI w) v z (nI k) x) _
    rw [D_X6_best_33, if_neg (show ¬ (64 : Int32) ≤ nI k by rw [li64, n_le (by omega) (by omega)]; omega), a2, a3]
    have vis : Ok (D_X6_best_65 fu (D_X6_best_33 fu q) (nI i) (nI w) v z (nI k) (nI (k / 4 % 4)) (nI (k % 4)) x) (bQ ev n i w μ) := by
      unfold D_X6_best_65
      rw [a1]
      refine Ok.b (c_byRules hf (by omega) (by omega) (by omega) G C'.g C'.n C'.t) fun y S => ?_
      have cb : D_X1_borneInAll_0 fu y 46 (nI i) = some (bW ev n i k) := c_borneAll hf hi S.2.1 S.2.2.1
      rw [cb, bi_s]
      have CX := CI_32 S C'
      have new : (v = -1 ∨ (bW ev n i k).toInt < z.toInt) → Ok (D_X6_best_103 fu (D_X6_best_33 fu q) (nI i) (nI w) (nI k) (bW ev n i k) y) (bQ ev n i w μ) := fun h => by
        unfold D_X6_best_103 D_X6_best_110
        rw [nk1]
        exact kk (nI k, bW ev n i k, y) ⟨bF_new (by omega) B h, CX.1, F.tr CX.2⟩
      by_cases c1 : v = -1
      · rw [if_pos c1]; exact new (Or.inl c1)
      · rw [if_neg c1]
        by_cases c2 : z ≤ bW ev n i k
        · rw [if_pos c2]
          unfold D_X6_best_110
          rw [nk1]
          exact kk (v, z, y) ⟨bF_old B c1 (Int64.le_iff_toInt_le.mp c2), CX.1, F.tr CX.2⟩
        · rw [if_neg c2]
          exact new (Or.inr (by rw [Int64.le_iff_toInt_le] at c2; omega))
    by_cases c1 : k / 4 % 4 = 2
    · rw [if_pos (by rw [c1]; rfl)]; exact vis
    · rw [if_neg (show ¬ nI (k / 4 % 4) = 2 by rw [li2, n_eq (by omega) (by omega)]; exact c1)]
      by_cases c2 : k % 4 = 0
      · rw [if_pos (by rw [c2]; rfl)]; exact vis
      · rw [if_neg (show ¬ nI (k % 4) = 0 by rw [li0, n_eq (by omega) (by omega)]; exact c2)]
        unfold D_X6_best_110
        rw [nk1]
        exact kk (v, z, x) ⟨bF_skip (j := k - k % 4) B (by omega) (bW_p G c1), C', F⟩
  · rintro q ⟨v, z, x⟩ ⟨B, C', F⟩
    show Ok (D_X6_best_33 fu (q + 1) (nI i) (nI w) v z (nI 64) x) _
    have B' := B
    rcases B' with ⟨h, -, -⟩ | ⟨f, h1, h2, -, -, -⟩
    · exact absurd h (by decide)
    · have h2' : v = nI f := h2
      subst h2'
      obtain ⟨a1, a2, a3, -, -, -⟩ := b64 f h1
      rw [D_X6_best_33, if_pos (by decide), a1, a2, a3]
      rcases (show w = 0 ∨ w = 1 ∨ w = 2 ∨ w = 3 by omega) with e | e | e | e
      · subst e; rw [if_pos (show nI 0 = 0 from rfl)]; exact Ok.s ⟨f, z, B, h1, rfl, C', F⟩
      · subst e; rw [if_neg (by decide), if_pos (show nI 1 = 1 from rfl)]; exact Ok.s ⟨f, z, B, h1, rfl, C', F⟩
      · subst e; rw [if_neg (by decide), if_neg (by decide), if_pos (show nI 2 = 2 from rfl)]; exact Ok.s ⟨f, z, B, h1, rfl, C', F⟩
      · subst e; rw [if_neg (by decide), if_neg (by decide), if_neg (by decide)]; exact Ok.s ⟨f, z, B, h1, rfl, C', F⟩
def bM (ev : Nat → Ev) (n i w : Nat) (m : Mem) (r : Int64 × Mem) : Prop := ∃ f z, bF (bW ev n i) 64 (nI f) z ∧ f < 64 ∧ r.1 = bR w f z ∧ MI ev n r.2 ∧ r.2.1 85 0 = nI 0 ∧ Fr (fun q => q = 85 ∨ 87 ≤ q ∧ q ≤ 127) m r.2
theorem m_best {i w : Nat} (hf : 200 < fu) (hi : i < 10) (hw : w < 4) (G : EG ev n) (D : MI ev n m) (h0 : m.1 85 0 = nI 0) : Ok (D_X7_best_53 fu fu (nI i) (nI w) (-1) 0 0 m) (bM ev n i w m) := by
  refine Ok.for (α := Int32 × Int64 × Mem) (fun q k s => D_X7_best_53 fu q (nI i) (nI w) s.1 s.2.1 (nI k) s.2.2) 64 (fun k s => bF (bW ev n i) k s.1 s.2.1 ∧ Fr AG m s.2.2 ∧ E85 m s.2.2) ?_ ?_ fu 0 (-1, 0, m) (by omega) (by omega) ⟨Or.inl ⟨rfl, rfl, rfl⟩, Fr.rfl', E85.rfl'⟩
  · rintro q k ⟨v, z, x⟩ hk ⟨B, F, E⟩ kk
    obtain ⟨-, -, -, a1, a2, a3⟩ := b64 k hk
    show Ok (D_X7_best_53 fu (q + 1) (nI i) (nI w) v z (nI k) x) _
    rw [D_X7_best_53, if_neg (show ¬ (64 : Int32) ≤ nI k by rw [li64, n_le (by omega) (by omega)]; omega), a1, a2, a3]
    refine Ok.b (m_byW hf (by omega) (by omega) (by omega) G (fun j hj => MG_F F (fun q z => by unfold AG at z; omega) (D.g j hj)) (by rw [E 5 (by decide) (by decide)]; exact D.n) (by rw [E 48 (by decide) (by decide)]; exact D.o)) fun y p => ?_
    obtain ⟨F1, E1, R1, H1⟩ := p
    have cb : D_X7_bearsAll_0 fu y (nI i) = some (bW ev n i k) := m_bearsAll hf hi R1 H1
    have new : (v = -1 ∨ (bW ev n i k).toInt < z.toInt) → Ok (D_X7_best_98 fu (D_X7_best_53 fu q) (nI i) (nI w) (nI k) y) (bM ev n i w m) := fun h => by
      unfold D_X7_best_98 D_X7_best_108
      rw [cb, bi_s, nk1]
      exact kk (nI k, bW ev n i k, y) ⟨bF_new (by omega) B h, F.tr F1, E.tr E1⟩
    by_cases c1 : v = -1
    · rw [if_pos c1]; exact new (Or.inl c1)
    · rw [if_neg c1, cb, bi_s]
      by_cases c2 : bW ev n i k < z
      · rw [if_pos c2]; exact new (Or.inr (Int64.lt_iff_toInt_lt.mp c2))
      · rw [if_neg c2]
        unfold D_X7_best_108
        rw [nk1]
        exact kk (v, z, y) ⟨bF_old B c1 (show z.toInt ≤ (bW ev n i k).toInt by rw [Int64.lt_iff_toInt_lt] at c2; omega), F.tr F1, E.tr E1⟩
  · rintro q ⟨v, z, x⟩ ⟨B, F, E⟩
    show Ok (D_X7_best_53 fu (q + 1) (nI i) (nI w) v z (nI 64) x) _
    have B' := B
    rcases B' with ⟨h, -, -⟩ | ⟨f, h1, h2, -, -, -⟩
    · exact absurd h (by decide)
    · have h2' : v = nI f := h2
      subst h2'
      obtain ⟨-, -, -, a1, a2, a3⟩ := b64 f h1
      rw [D_X7_best_53, if_pos (by decide), a1, a2, a3]
      refine Ok.b (m_ret hf G D h0 F E) fun y p => ?_
      rcases (show w = 0 ∨ w = 1 ∨ w = 2 ∨ w = 3 by omega) with e | e | e | e
      · subst e; rw [if_pos (show nI 0 = 0 from rfl)]; exact Ok.s ⟨f, z, B, h1, rfl, p⟩
      · subst e; rw [if_neg (by decide), if_pos (show nI 1 = 1 from rfl)]; exact Ok.s ⟨f, z, B, h1, rfl, p⟩
      · subst e; rw [if_neg (by decide), if_neg (by decide), if_pos (show nI 2 = 2 from rfl)]; exact Ok.s ⟨f, z, B, h1, rfl, p⟩
      · subst e; rw [if_neg (by decide), if_neg (by decide), if_neg (by decide)]; exact Ok.s ⟨f, z, B, h1, rfl, p⟩
theorem q_best (hf : 200 < fu) (G : EG ev n) (C : CI ev n μ) (a1 a2 : Int32) : QQ ev n (kd 0 1 0) μ (D_X6_best_0 fu a1 a2 μ) (D_X7_best_0 fu a1 a2) := by
  cases q1 : inC a1 (nI 0) (nI 9) with
  | false =>
    have w1 := fun m => mWq q1 (L := 0) (H := 9) rfl rfl m
    refine QQ_r (.inr 1) 0 C (ho_r (by decide)) ?_ fun x m e D h0 => ?_
    · simp only [D_X6_best_0, D_X6_best_21, D_X6_best_22, D_X6_isInsurer_0, wC, q1, li0, li1, li2, li3, li4, li5, li6, li7, li8, li9, li10, li12, li24, li31, li40, li160, n_le, n_lt, n_eq, n_m1, n_add, mr4, mr6, mr7, mr10, mr40, mr160, ml4, ml6, ml7, ml10, ml40, ml160, gu_ib, nI_nat, bi_s, vl_e, gu_t, if_true, if_false, reduceIte, bt1_1, bt1_2, bt1_3, bt1_4, bt1_5, bt1_6, bt1_7, bt1_8, bt1_9, bt1_10, bt1_11, bt1_12, bt14_1, bt14_2, bt14_3, bt14_4, bt14_5, bt14_6, bt14_7, bt14_8, bt14_9, bt14_10, bt14_11, bt14_12, Nat.reduceLeDiff, Nat.reduceEqDiff, Nat.reduceLT, eq_self, Nat.le_refl, Nat.le_zero_eq, Nat.not_lt_zero, Bool.false_eq_true, c_rf, tx_r, cAn]
    · have nf := m_nf (k := 1) (j := 1) h0 (by decide) (by decide) (by decide)
      simp only [D_X7_best_0, D_X7_best_34, D_X7_best_35, e, li0, li1, li2, li3, li4, li5, li6, li7, li8, li9, li10, li12, li24, li31, li40, li160, n_le, n_lt, n_eq, n_m1, n_add, mr4, mr6, mr7, mr10, mr40, mr160, ml4, ml6, ml7, ml10, ml40, ml160, gu_ib, nI_nat, bi_s, vl_e, gu_t, if_true, if_false, reduceIte, bt1_1, bt1_2, bt1_3, bt1_4, bt1_5, bt1_6, bt1_7, bt1_8, bt1_9, bt1_10, bt1_11, bt1_12, bt14_1, bt14_2, bt14_3, bt14_4, bt14_5, bt14_6, bt14_7, bt14_8, bt14_9, bt14_10, bt14_11, bt14_12, Nat.reduceLeDiff, Nat.reduceEqDiff, Nat.reduceLT, eq_self, Nat.le_refl, Nat.le_zero_eq, Nat.not_lt_zero, w1, nf, Bool.false_eq_true, mAn, kd]
  | true =>
    have w1 := fun m => mWq q1 (L := 0) (H := 9) rfl rfl m
    cases q2 : inC a2 (nI 0) (nI 3) with
    | false =>
      have w2 := fun m => mWq q2 (L := 0) (H := 3) rfl rfl m
      refine QQ_r (.inr 1) 0 C (ho_r (by decide)) ?_ fun x m e D h0 => ?_
      · simp only [D_X6_best_0, D_X6_best_21, D_X6_best_22, D_X6_isInsurer_0, wC, q1, q2, li0, li1, li2, li3, li4, li5, li6, li7, li8, li9, li10, li12, li24, li31, li40, li160, n_le, n_lt, n_eq, n_m1, n_add, mr4, mr6, mr7, mr10, mr40, mr160, ml4, ml6, ml7, ml10, ml40, ml160, gu_ib, nI_nat, bi_s, vl_e, gu_t, if_true, if_false, reduceIte, bt1_1, bt1_2, bt1_3, bt1_4, bt1_5, bt1_6, bt1_7, bt1_8, bt1_9, bt1_10, bt1_11, bt1_12, bt14_1, bt14_2, bt14_3, bt14_4, bt14_5, bt14_6, bt14_7, bt14_8, bt14_9, bt14_10, bt14_11, bt14_12, Nat.reduceLeDiff, Nat.reduceEqDiff, Nat.reduceLT, eq_self, Nat.le_refl, Nat.le_zero_eq, Nat.not_lt_zero, Bool.false_eq_true, c_rf, tx_r, cAn]
      · have nf := m_nf (k := 1) (j := 1) h0 (by decide) (by decide) (by decide)
        simp only [D_X7_best_0, D_X7_best_34, D_X7_best_35, e, li0, li1, li2, li3, li4, li5, li6, li7, li8, li9, li10, li12, li24, li31, li40, li160, n_le, n_lt, n_eq, n_m1, n_add, mr4, mr6, mr7, mr10, mr40, mr160, ml4, ml6, ml7, ml10, ml40, ml160, gu_ib, nI_nat, bi_s, vl_e, gu_t, if_true, if_false, reduceIte, bt1_1, bt1_2, bt1_3, bt1_4, bt1_5, bt1_6, bt1_7, bt1_8, bt1_9, bt1_10, bt1_11, bt1_12, bt14_1, bt14_2, bt14_3, bt14_4, bt14_5, bt14_6, bt14_7, bt14_8, bt14_9, bt14_10, bt14_11, bt14_12, Nat.reduceLeDiff, Nat.reduceEqDiff, Nat.reduceLT, eq_self, Nat.le_refl, Nat.le_zero_eq, Nat.not_lt_zero, w1, w2, nf, Bool.false_eq_true, mAn, kd]
    | true =>
      have w2 := fun m => mWq q2 (L := 0) (H := 3) rfl rfl m
      obtain ⟨i, rfl, il, hi⟩ := inC_n (by decide) (by decide) q1
      obtain ⟨w, rfl, wl, hw⟩ := inC_n (by decide) (by decide) q2
      obtain ⟨⟨v, x⟩, ex, f, z, B, hf', er, p⟩ := ok_eq (c_best (i := i) (w := w) hf (by omega) (by omega) G C)
      have er' : v = _ := er
      subst er'
      refine QQ_g (bR w f z) x ?_ p fun y m e D h0 => ?_
      · unfold D_X6_best_0 D_X6_isInsurer_0
        rw [wC, bi_s, bi_s, if_pos (show inC (nI i) 0 9 = true from q1), wC, bi_s, if_pos (show inC (nI w) 0 3 = true from q2)]
        unfold D_X6_best_22
        rw [show D_X6_needRight_0 1 μ = some (.inl (), μ) from c_rt μ, bi_s, tx_l]
        exact ex
      · obtain ⟨⟨v2, y2⟩, e2, f2, z2, B2, hf2, er2, p2⟩ := ok_eq (m_best (i := i) (w := w) hf (by omega) (by omega) G D h0)
        have er3 : v2 = _ := er2
        subst er3
        obtain ⟨b1, b2⟩ := bF_u B B2
        rw [n_eq (by omega) (by omega)] at b1
        subst b1 b2
        refine ⟨y2, ?_, p2⟩
        simp only [D_X7_best_0, D_X7_best_35, e, li0, vl_e, w1, w2, bi_s, reduceIte, show D_X7_needs_0 1 1 1 m = some (true, m) from m_nt h0 1 1]
        exact e2
end
