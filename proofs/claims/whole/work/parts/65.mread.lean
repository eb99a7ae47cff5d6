/-! the model, read; what it holds while an amount is spread -/
theorem RMa_i {μ : Mem} {s : Sp} (H : RMa μ s.1) {l : Nat} (hl : l < 40) : μ.1 90 l = nI (isL s l) := RMa_is H hl
/-- amounts while O was spread of a harm -/
def MZ (x : Mem) (s : Sp) (h : Nat) (O : Oc) : Prop := (∀ l, l < 40 → x.2.1 99 l = zL (us s l + O 0 l)) ∧ (∀ g, g < 25 → x.2.1 104 g = zL (lo s g)) ∧ (∀ g l, g < 25 → l < 40 → x.2.1 105 (40 * g + l) = zL (tk s (40 * g + l) + if g = h then O 0 l else 0)) ∧ (∀ g l, g < 25 → l < 40 → x.2.1 106 (40 * g + l) = zL (th s (40 * g + l) + if g = h then O 1 l else 0)) ∧ (∀ g l, g < 25 → l < 40 → x.2.1 107 (40 * g + l) = zL (mv s (40 * g + l) + if g = h then O 2 l else 0)) ∧ (∀ g j, g < 25 → j < 160 → x.1 108 (160 * g + j) = zI (hd s (160 * g + j) + if g = h then O 3 j else 0)) ∧ (∀ g i, g < 25 → i < 10 → x.2.1 109 (10 * g + i) = zL (br s (10 * g + i) + if g = h then O 4 i else 0)) ∧ (∀ g r, g < 25 → r < 7 → x.2.1 110 (7 * g + r) = zL (fl s (7 * g + r) + if g = h then O 5 r else 0))
theorem MZ_R {x : Mem} {s : Sp} {h : Nat} {O : Oc} (Z : MZ x s h O) : RMz x (addO s h O).2 := by
  obtain ⟨z0, z1, z2, z3, z4, z5, z6, z7⟩ := Z
  refine ⟨fun l hl => ?_, fun g hg => ?_, fun j hj => ?_, fun j hj => ?_, fun j hj => ?_, fun j hj => ?_, fun j hj => ?_, fun j hj => ?_⟩
  · show _ = zL (us (addO s h O) l); rw [add_us s h O hl]; exact z0 l hl
  · show _ = zL (lo (addO s h O) g); rw [add_lo]; exact z1 g hg
  · show _ = zL (tk (addO s h O) j)
    rw [show j = 40 * (j / 40) + j % 40 by omega, add_tk s h O _ (by omega)]; exact z2 _ _ (by omega) (by omega)
  · show _ = zL (th (addO s h O) j)
    rw [show j = 40 * (j / 40) + j % 40 by omega, add_th s h O _ (by omega)]; exact z3 _ _ (by omega) (by omega)
  · show _ = zL (mv (addO s h O) j)
    rw [show j = 40 * (j / 40) + j % 40 by omega, add_mv s h O _ (by omega)]; exact z4 _ _ (by omega) (by omega)
  · show _ = zI (hd (addO s h O) j)
    rw [show j = 160 * (j / 160) + j % 160 by omega, add_hd s h O _ (by omega)]; exact z5 _ _ (by omega) (by omega)
  · show _ = zL (br (addO s h O) j)
    rw [show j = 10 * (j / 10) + j % 10 by omega, add_br s h O _ (by omega)]; exact z6 _ _ (by omega) (by omega)
  · show _ = zL (fl (addO s h O) j)
    rw [show j = 7 * (j / 7) + j % 7 by omega, add_fl s h O _ (by omega)]; exact z7 _ _ (by omega) (by omega)
theorem R_MZ {x : Mem} {s : Sp} (h : Nat) (R : RMz x s.2) : MZ x s h oc0 := by
  have e : ∀ (z : Int) (c : Prop) [Decidable c], z + (if c then (0 : Int) else 0) = z := fun z c _ => by split <;> omega
  refine ⟨fun l hl => ?_, fun g hg => RMz_lo R hg, fun g l hg hl => ?_, fun g l hg hl => ?_, fun g l hg hl => ?_, fun g j hg hj => ?_, fun g i hg hi => ?_, fun g r hg hr => ?_⟩
  · show _ = zL (us s l + 0); rw [Int.add_zero]; exact RMz_us R hl
  · show _ = zL (_ + if g = h then 0 else 0); rw [e]; exact RMz_tk R (by omega)
  · show _ = zL (_ + if g = h then 0 else 0); rw [e]; exact RMz_th R (by omega)
  · show _ = zL (_ + if g = h then 0 else 0); rw [e]; exact RMz_mv R (by omega)
  · show _ = zI (_ + if g = h then 0 else 0); rw [e]; exact RMz_hd R (by omega)
  · show _ = zL (_ + if g = h then 0 else 0); rw [e]; exact RMz_br R (by omega)
  · show _ = zL (_ + if g = h then 0 else 0); rw [e]; exact RMz_fl R (by omega)
theorem MZ_c {x : Mem} {s : Sp} {h : Nat} {O P : Oc} (e : ∀ f j, P f j = O f j) (Z : MZ x s h O) : MZ x s h P := by
  simp only [MZ, e] at Z ⊢; exact Z
/-- all that the model holds then -/
def MW (x : Mem) (s : Sp) (h : Nat) (O : Oc) : Prop := RMa x s.1 ∧ RMb x s.1 ∧ MZ x s h O ∧ ∀ l, l < 40 → x.2.1 118 l = zL (O 0 l)
theorem MW_c {x : Mem} {s : Sp} {h : Nat} {O P : Oc} (e : ∀ f j, P f j = O f j) (W : MW x s h O) : MW x s h P := ⟨W.1, W.2.1, MZ_c e W.2.2.1, fun l hl => by rw [e]; exact W.2.2.2 l hl⟩
theorem MZ_F {A : Nat → Prop} {x y : Mem} {s : Sp} {h : Nat} {O : Oc} (F : Fr A x y) (hA : ∀ q, A q → q < 99 ∨ 110 < q) (Z : MZ x s h O) : MZ y s h O := by
  have e99 := F.L (q := 99) (fun z => by have := hA _ z; omega)
  have e104 := F.L (q := 104) (fun z => by have := hA _ z; omega)
  have e105 := F.L (q := 105) (fun z => by have := hA _ z; omega)
  have e106 := F.L (q := 106) (fun z => by have := hA _ z; omega)
  have e107 := F.L (q := 107) (fun z => by have := hA _ z; omega)
  have e108 := F.I (q := 108) (fun z => by have := hA _ z; omega)
  have e109 := F.L (q := 109) (fun z => by have := hA _ z; omega)
  have e110 := F.L (q := 110) (fun z => by have := hA _ z; omega)
  simp only [MZ, e99, e104, e105, e106, e107, e108, e109, e110] at Z ⊢
  exact Z
theorem RMa_F {A : Nat → Prop} {x y : Mem} {n : Nat → Nat → Nat} (F : Fr A x y) (hA : ∀ q, A q → q ≠ 85 ∧ (q < 90 ∨ 98 < q) ∧ (q < 113 ∨ 115 < q)) (H : RMa x n) : RMa y n :=
  RMa_frm (fun q hq => F.I (fun z => by have := hA _ z; omega)) (by rw [F.I (fun z => by have := hA _ z; omega)]) H
theorem RMb_F {A : Nat → Prop} {x y : Mem} {n : Nat → Nat → Nat} (F : Fr A x y) (hA : ∀ q, A q → q ≠ 85 ∧ q ≠ 91 ∧ (q < 100 ∨ 103 < q) ∧ q ≠ 111 ∧ q ≠ 112) (H : RMb x n) : RMb y n :=
  RMb_frm (fun q hq => F.I (fun z => by have := hA _ z; omega)) (fun j _ _ => by rw [F.I (fun z => by have := hA _ z; omega)]) H
/-- nothing of that is changed beside it -/
theorem MW_F {A : Nat → Prop} {x y : Mem} {s : Sp} {h : Nat} {O : Oc} (F : Fr A x y) (hA : ∀ q, A q → q < 85 ∨ 115 < q ∧ q ≠ 118) (W : MW x s h O) : MW y s h O :=
  ⟨RMa_F F (fun q z => by have := hA q z; omega) W.1, RMb_F F (fun q z => by have := hA q z; omega) W.2.1, MZ_F F (fun q z => by have := hA q z; omega) W.2.2.1, fun l hl => by rw [F.L (fun z => by have := hA _ z; omega)]; exact W.2.2.2 l hl⟩
section
variable {N fu h : Nat} {x : Mem} {s : Sp}
theorem m_layersOf {y : Nat} (hy : y < 12) (A : RMa x s.1) : D_X7_layersOf_0 x (nI y) = some (nI (hg s y)) := by
  simp (disch := omega) only [D_X7_layersOf_0, li0, li1, li2, li3, li4, li5, li6, li7, li8, li9, li10, li12, li24, li31, li40, li160, n_le, n_lt, n_eq, n_m1, n_add, mr4, mr6, mr7, mr10, mr40, mr160, ml4, ml6, ml7, ml10, ml40, ml160, gu_ib, nI_nat, bi_s, vl_e, gu_t, if_true, if_false, reduceIte, bt1_1, bt1_2, bt1_3, bt1_4, bt1_5, bt1_6, bt1_7, bt1_8, bt1_9, bt1_10, bt1_11, bt1_12, bt14_1, bt14_2, bt14_3, bt14_4, bt14_5, bt14_6, bt14_7, bt14_8, bt14_9, bt14_10, bt14_11, bt14_12, show x.1 114 y = nI (hg s y) from RMa_hg A hy]
theorem m_gap {y : Nat} (hy : y < 12) (A : RMa x s.1) (H : IvT s) : D_X7_isGap_0 x (nI y) = some (decide (hg s y = 0)) := by
  have h6 := IvT_hg H hy
  simp (disch := omega) only [D_X7_isGap_0, li0, li1, li2, li3, li4, li5, li6, li7, li8, li9, li10, li12, li24, li31, li40, li160, n_le, n_lt, n_eq, n_m1, n_add, mr4, mr6, mr7, mr10, mr40, mr160, ml4, ml6, ml7, ml10, ml40, ml160, gu_ib, nI_nat, bi_s, vl_e, gu_t, if_true, if_false, reduceIte, bt1_1, bt1_2, bt1_3, bt1_4, bt1_5, bt1_6, bt1_7, bt1_8, bt1_9, bt1_10, bt1_11, bt1_12, bt14_1, bt14_2, bt14_3, bt14_4, bt14_5, bt14_6, bt14_7, bt14_8, bt14_9, bt14_10, bt14_11, bt14_12, m_layersOf hy A]
  by_cases q : hg s y = 0
  · rw [if_pos q, decide_eq_true q]
  · rw [if_neg q, decide_eq_false q]
theorem m_rung {y k : Nat} (hy : y < 12) (hk : k < hg s y) (A : RMa x s.1) (H : IvT s) : D_X7_rungOf_0 x (nI y) (nI k) = some (nI (rg s (6 * y + k))) := by
  have h6 := IvT_hg H hy
  simp (disch := omega) only [D_X7_rungOf_0, li0, li1, li2, li3, li4, li5, li6, li7, li8, li9, li10, li12, li24, li31, li40, li160, n_le, n_lt, n_eq, n_m1, n_add, mr4, mr6, mr7, mr10, mr40, mr160, ml4, ml6, ml7, ml10, ml40, ml160, gu_ib, nI_nat, bi_s, vl_e, gu_t, if_true, if_false, reduceIte, bt1_1, bt1_2, bt1_3, bt1_4, bt1_5, bt1_6, bt1_7, bt1_8, bt1_9, bt1_10, bt1_11, bt1_12, bt14_1, bt14_2, bt14_3, bt14_4, bt14_5, bt14_6, bt14_7, bt14_8, bt14_9, bt14_10, bt14_11, bt14_12, show x.1 114 y = nI (hg s y) from RMa_hg A hy, show x.1 113 (6 * y + k) = nI (rg s (6 * y + k)) from RMa_rg A hy hk]
  rw [if_neg (by omega)]
theorem m_rungN {y k : Nat} (hy : y < 12) (hk : hg s y ≤ k) (hk2 : k < 2147483648) (A : RMa x s.1) (H : IvT s) : D_X7_rungOf_0 x (nI y) (nI k) = some (-1) := by
  have h6 := IvT_hg H hy
  simp (disch := omega) only [D_X7_rungOf_0, gu_ib, nI_nat, n_le, show x.1 114 y = nI (hg s y) from RMa_hg A hy]
  rw [if_pos (by omega)]
theorem m_top {l : Nat} (hl : l < 40) (h1 : isL s l = 1) (A : RMa x s.1) : D_X7_top_0 x (nI l) = some (nI (tp s l)) := by
  simp (disch := omega) only [D_X7_top_0, li0, li1, li2, li3, li4, li5, li6, li7, li8, li9, li10, li12, li24, li31, li40, li160, n_le, n_lt, n_eq, n_m1, n_add, mr4, mr6, mr7, mr10, mr40, mr160, ml4, ml6, ml7, ml10, ml40, ml160, gu_ib, nI_nat, bi_s, vl_e, gu_t, if_true, if_false, reduceIte, bt1_1, bt1_2, bt1_3, bt1_4, bt1_5, bt1_6, bt1_7, bt1_8, bt1_9, bt1_10, bt1_11, bt1_12, bt14_1, bt14_2, bt14_3, bt14_4, bt14_5, bt14_6, bt14_7, bt14_8, bt14_9, bt14_10, bt14_11, bt14_12, show x.1 93 l = nI (fr s l) from RMa_fr A hl h1, show x.1 94 l = nI (sz s l) from RMa_sz A hl h1]
  rfl
theorem m_isIn {l y : Nat} (hl : l < 40) (hy : y < 12) (A : RMa x s.1) (H : IvT s) : D_X7_isIn_0 x (nI l) (nI y) = some (decide (isL s l = 1 ∧ yr s l = y)) := by
  rcases IvT_is H hl with z | z
  · simp (disch := omega) only [D_X7_isIn_0, li0, li1, li2, li3, li4, li5, li6, li7, li8, li9, li10, li12, li24, li31, li40, li160, n_le, n_lt, n_eq, n_m1, n_add, mr4, mr6, mr7, mr10, mr40, mr160, ml4, ml6, ml7, ml10, ml40, ml160, gu_ib, nI_nat, bi_s, vl_e, gu_t, if_true, if_false, reduceIte, bt1_1, bt1_2, bt1_3, bt1_4, bt1_5, bt1_6, bt1_7, bt1_8, bt1_9, bt1_10, bt1_11, bt1_12, bt14_1, bt14_2, bt14_3, bt14_4, bt14_5, bt14_6, bt14_7, bt14_8, bt14_9, bt14_10, bt14_11, bt14_12, RMa_i A hl, z]
    rw [decide_eq_false (by omega)]
  · have y12 := IvT_yr H hl z
    simp (disch := omega) only [D_X7_isIn_0, li0, li1, li2, li3, li4, li5, li6, li7, li8, li9, li10, li12, li24, li31, li40, li160, n_le, n_lt, n_eq, n_m1, n_add, mr4, mr6, mr7, mr10, mr40, mr160, ml4, ml6, ml7, ml10, ml40, ml160, gu_ib, nI_nat, bi_s, vl_e, gu_t, if_true, if_false, reduceIte, bt1_1, bt1_2, bt1_3, bt1_4, bt1_5, bt1_6, bt1_7, bt1_8, bt1_9, bt1_10, bt1_11, bt1_12, bt14_1, bt14_2, bt14_3, bt14_4, bt14_5, bt14_6, bt14_7, bt14_8, bt14_9, bt14_10, bt14_11, bt14_12, RMa_i A hl, z, show x.1 92 l = nI (yr s l) from RMa_yr A hl z]
    rw [if_neg (by decide)]
    by_cases q : yr s l = y
    · rw [if_pos q, decide_eq_true ⟨trivial, q⟩]
    · rw [if_neg q, decide_eq_false (fun z => q z.2)]
theorem m_leftU {l : Nat} {u : Int} (hl : l < 40) (h1 : isL s l = 1) (A : RMa x s.1) (H : IvT s) (eu : x.2.1 99 l = zL u) : D_X7_left_0 x (nI l) = some (zL ((sz s l : Int) * (tm s l : Int) - u)) := by
  have b := IvT_sz H hl h1
  have c := IvT_tm H hl h1
  simp (disch := omega) only [D_X7_left_0, li0, li1, li2, li3, li4, li5, li6, li7, li8, li9, li10, li12, li24, li31, li40, li160, n_le, n_lt, n_eq, n_m1, n_add, mr4, mr6, mr7, mr10, mr40, mr160, ml4, ml6, ml7, ml10, ml40, ml160, gu_ib, nI_nat, bi_s, vl_e, gu_t, if_true, if_false, reduceIte, bt1_1, bt1_2, bt1_3, bt1_4, bt1_5, bt1_6, bt1_7, bt1_8, bt1_9, bt1_10, bt1_11, bt1_12, bt14_1, bt14_2, bt14_3, bt14_4, bt14_5, bt14_6, bt14_7, bt14_8, bt14_9, bt14_10, bt14_11, bt14_12, show x.1 94 l = nI (sz s l) from RMa_sz A hl h1, show x.1 95 l = nI (tm s l) from RMa_tm A hl h1, eu, n_L, z_add, z_sub, z_mul, z_neg]
theorem m_canT {l : Nat} {u a : Int} (hh : h < 25) (hl : l < 40) (h1 : isL s l = 1) (A : RMa x s.1) (H : IvT s) (eu : x.2.1 99 l = zL u) (ea : x.2.1 105 (40 * h + l) = zL a) (u0 : 0 ≤ u) (u2 : u ≤ 4000000000) (a0 : 0 ≤ a) (a2 : a ≤ 100000000) : D_X7_canTake_0 x (nI h) (nI l) = some (zL (min ((sz s l : Int) * (tm s l : Int) - u) ((sz s l : Int) - a))) := by
  have b := IvT_sz H hl h1
  have c := IvT_tm H hl h1
  have p : (sz s l : Int) * (tm s l : Int) ≤ 100000000 * 4 := Int.mul_le_mul (by omega) (by omega) (by omega) (by omega)
  have p0 : 0 ≤ (sz s l : Int) * (tm s l : Int) := Int.mul_nonneg (by omega) (by omega)
  simp (disch := omega) only [D_X7_canTake_0, D_X7_least_0, li0, li1, li2, li3, li4, li5, li6, li7, li8, li9, li10, li12, li24, li31, li40, li160, n_le, n_lt, n_eq, n_m1, n_add, mr4, mr6, mr7, mr10, mr40, mr160, ml4, ml6, ml7, ml10, ml40, ml160, gu_ib, nI_nat, bi_s, vl_e, gu_t, if_true, if_false, reduceIte, bt1_1, bt1_2, bt1_3, bt1_4, bt1_5, bt1_6, bt1_7, bt1_8, bt1_9, bt1_10, bt1_11, bt1_12, bt14_1, bt14_2, bt14_3, bt14_4, bt14_5, bt14_6, bt14_7, bt14_8, bt14_9, bt14_10, bt14_11, bt14_12, show x.1 94 l = nI (sz s l) from RMa_sz A hl h1, m_leftU hl h1 A H eu, ea, n_L, z_add, z_sub, z_mul, z_neg, z_le]
  rw [Int.min_def]
  split <;> rfl
theorem m_holeT {l : Nat} {a : Int} (hh : h < 25) (hl' : l < 40) (h1 : isL s l = 1) (A : RMa x s.1) (H : IvT s) (ea : x.2.1 106 (40 * h + l) = zL a) (a0 : 0 ≤ a) (a2 : a ≤ 2000000000) : D_X7_holeLeft_0 x (nI h) (nI l) = some (zL (max ((hl s l : Int) - a) 0)) := by
  have f := hl_fr H hl' h1
  have g := IvT_fr H hl' h1
  simp (disch := omega) only [D_X7_holeLeft_0, D_X7_holeOf_0, li0, li1, li2, li3, li4, li5, li6, li7, li8, li9, li10, li12, li24, li31, li40, li160, n_le, n_lt, n_eq, n_m1, n_add, mr4, mr6, mr7, mr10, mr40, mr160, ml4, ml6, ml7, ml10, ml40, ml160, gu_ib, nI_nat, bi_s, vl_e, gu_t, if_true, if_false, reduceIte, bt1_1, bt1_2, bt1_3, bt1_4, bt1_5, bt1_6, bt1_7, bt1_8, bt1_9, bt1_10, bt1_11, bt1_12, bt14_1, bt14_2, bt14_3, bt14_4, bt14_5, bt14_6, bt14_7, bt14_8, bt14_9, bt14_10, bt14_11, bt14_12, ll0, ll1, ll2, ll10, ll2e9, show x.1 115 l = nI (hl s l) from RMa_hl A hl' h1, ea, n_L, z_add, z_sub, z_mul, z_neg, z_le]
  rw [Int.max_def]
  split <;> rfl
theorem m_sizes {y : Nat} (hf : 200 < fu) (hy : y < 12) (A : RMa x s.1) (H : IvT s) : D_X7_sizesOf_0 fu x (nI y) = some (zL (szS s y)) := by
  have h6 := IvT_hg H hy
  unfold D_X7_sizesOf_0
  refine eq_for (fun n k => D_X7_sizesOf_5 fu x n (nI y) (zL (sm (fun k => (sz s (rg s (6 * y + k)) : Int)) k)) (nI k)) (hg s y) _ ?_ ?_ fu 0 (by omega) (by omega)
  · intro n k hk
    have r4 := IvT_rg H hy hk
    have r1 := IvT_ri H hy hk
    have z9 := IvT_sz H r4 r1
    simp (disch := omega) only [D_X7_sizesOf_5, li0, li1, li2, li3, li4, li5, li6, li7, li8, li9, li10, li12, li24, li31, li40, li160, n_le, n_lt, n_eq, n_m1, n_add, mr4, mr6, mr7, mr10, mr40, mr160, ml4, ml6, ml7, ml10, ml40, ml160, gu_ib, nI_nat, bi_s, vl_e, gu_t, if_true, if_false, reduceIte, bt1_1, bt1_2, bt1_3, bt1_4, bt1_5, bt1_6, bt1_7, bt1_8, bt1_9, bt1_10, bt1_11, bt1_12, bt14_1, bt14_2, bt14_3, bt14_4, bt14_5, bt14_6, bt14_7, bt14_8, bt14_9, bt14_10, bt14_11, bt14_12, m_layersOf hy A, m_rung hy hk A H, show x.1 94 (rg s (6 * y + k)) = nI (sz s (rg s (6 * y + k))) from RMa_sz A r4 r1, n_L, z_add, z_sub, z_mul, z_neg]
    rw [if_neg (by omega), sm_s]
  · intro n
    simp (disch := omega) only [D_X7_sizesOf_5, li0, li1, li2, li3, li4, li5, li6, li7, li8, li9, li10, li12, li24, li31, li40, li160, n_le, n_lt, n_eq, n_m1, n_add, mr4, mr6, mr7, mr10, mr40, mr160, ml4, ml6, ml7, ml10, ml40, ml160, gu_ib, nI_nat, bi_s, vl_e, gu_t, if_true, if_false, reduceIte, bt1_1, bt1_2, bt1_3, bt1_4, bt1_5, bt1_6, bt1_7, bt1_8, bt1_9, bt1_10, bt1_11, bt1_12, bt14_1, bt14_2, bt14_3, bt14_4, bt14_5, bt14_6, bt14_7, bt14_8, bt14_9, bt14_10, bt14_11, bt14_12, m_layersOf hy A]
    rw [if_pos (by omega)]; rfl
theorem m_lacking {y : Nat} (hy : y < 12) (A : RMa x s.1) (H : IvT s) : D_X7_isLacking_0 x (nI y) = some (lkb s y) := by
  have h6 := IvT_lk H
  simp (disch := omega) only [D_X7_isLacking_0, li0, li1, li2, li3, li4, li5, li6, li7, li8, li9, li10, li12, li24, li31, li40, li160, n_le, n_lt, n_eq, n_m1, n_add, mr4, mr6, mr7, mr10, mr40, mr160, ml4, ml6, ml7, ml10, ml40, ml160, gu_ib, nI_nat, bi_s, vl_e, gu_t, if_true, if_false, reduceIte, bt1_1, bt1_2, bt1_3, bt1_4, bt1_5, bt1_6, bt1_7, bt1_8, bt1_9, bt1_10, bt1_11, bt1_12, bt14_1, bt14_2, bt14_3, bt14_4, bt14_5, bt14_6, bt14_7, bt14_8, bt14_9, bt14_10, bt14_11, bt14_12, show x.1 85 29 = nI (lk s) from RMa_lk A, q_b]
  unfold lkb
  cases (lk s).testBit y <;> rfl
/-- years of a harm, as the model has them -/
def MY (x : Mem) (h a b c : Nat) : Prop := x.1 100 h = nI a ∧ x.1 101 h = nI b ∧ x.1 102 h = nI c ∧ a ≤ b ∧ b ≤ c ∧ c < 12
theorem MY_F {A : Nat → Prop} {x y : Mem} {h a b c : Nat} (F : Fr A x y) (hA : ∀ q, A q → q < 100 ∨ 102 < q) (Y : MY x h a b c) : MY y h a b c := by
  obtain ⟨h1, h2, h3, h4⟩ := Y
  exact ⟨by rw [F.I (fun z => by have := hA _ z; omega)]; exact h1, by rw [F.I (fun z => by have := hA _ z; omega)]; exact h2, by rw [F.I (fun z => by have := hA _ z; omega)]; exact h3, h4⟩
theorem m_off {a b c y : Nat} (hf : 200 < fu) (hh : h < 25) (hy : y < 12) (Y : MY x h a b c) (B : RMb x s.1) (H : IvR s) : D_X7_isOff_0 fu x (nI h) (nI y) = some (offB a b c (ru s 0) y) := by
  obtain ⟨y1, y2, y3, y4, y5, y6⟩ := Y
  have r0 := IvR_r0 H
  have ol := offV_lt a b c (ru s 0)
  simp (disch := omega) only [D_X7_isOff_0, gu_ib, nI_nat, y1, y2, y3, show x.1 85 30 = nI (ru s 0) from RMb_r0 B, mOff (show 13 < fu by omega) x y4 y5 y6 r0, bi_s, li1, li31, q_b, offV_b hy]
  cases offB a b c (ru s 0) y <;> rfl
theorem m_roomO {y : Nat} (hf : 200 < fu) (hh : h < 25) (hy : y < 12) (A : RMa x s.1) (H : Iv N s) (e1 : ∀ k, k < hg s y → x.2.1 99 (rg s (6 * y + k)) = zL (us s (rg s (6 * y + k))) ∧ x.2.1 105 (40 * h + rg s (6 * y + k)) = zL (tk s (40 * h + rg s (6 * y + k))) ∧ x.2.1 106 (40 * h + rg s (6 * y + k)) = zL (th s (40 * h + rg s (6 * y + k)))) : D_X7_roomOf_0 fu x (nI h) (nI y) = some (zL (rmS s h y)) := by
  have h6 := IvT_hg H.T hy
  unfold D_X7_roomOf_0
  refine eq_for (fun n k => D_X7_roomOf_5 fu x n (nI h) (nI y) (zL (sm (fun k => cT s h (rg s (6 * y + k)) + hL s h (rg s (6 * y + k))) k)) (nI k)) (hg s y) _ ?_ ?_ fu 0 (by omega) (by omega)
  · intro n k hk
    have r4 := IvT_rg H.T hy hk
    have r1 := IvT_ri H.T hy hk
    obtain ⟨eu, ea, et⟩ := e1 k hk
    have lb := lf_b r4 r1 H
    have tb := IvH_tk H.H hh r4
    have z9 := (IvT_sz H.T r4 r1).2
    have hb := IvH_th H.H hh r4
    have ub : us s (rg s (6 * y + k)) ≤ 4000000000 := by
      have := IvH_ul H.H r4 r1
      have p : (sz s (rg s (6 * y + k)) : Int) * (tm s (rg s (6 * y + k)) : Int) ≤ 100000000 * 4 := Int.mul_le_mul (by omega) (by have := (IvT_tm H.T r4 r1).2; omega) (by omega) (by omega)
      omega
    simp (disch := omega) only [D_X7_roomOf_5, li0, li1, li2, li3, li4, li5, li6, li7, li8, li9, li10, li12, li24, li31, li40, li160, n_le, n_lt, n_eq, n_m1, n_add, mr4, mr6, mr7, mr10, mr40, mr160, ml4, ml6, ml7, ml10, ml40, ml160, gu_ib, nI_nat, bi_s, vl_e, gu_t, if_true, if_false, reduceIte, bt1_1, bt1_2, bt1_3, bt1_4, bt1_5, bt1_6, bt1_7, bt1_8, bt1_9, bt1_10, bt1_11, bt1_12, bt14_1, bt14_2, bt14_3, bt14_4, bt14_5, bt14_6, bt14_7, bt14_8, bt14_9, bt14_10, bt14_11, bt14_12, m_layersOf hy A, m_rung hy hk A H.T, m_canT hh r4 r1 A H.T eu ea lb.2.2 ub tb.1 (by omega), m_holeT hh r4 r1 A H.T et hb.1 (by omega), z_add, z_sub, z_mul, z_neg]
    rw [if_neg (by omega), sm_s]; rfl
  · intro n
    simp (disch := omega) only [D_X7_roomOf_5, li0, li1, li2, li3, li4, li5, li6, li7, li8, li9, li10, li12, li24, li31, li40, li160, n_le, n_lt, n_eq, n_m1, n_add, mr4, mr6, mr7, mr10, mr40, mr160, ml4, ml6, ml7, ml10, ml40, ml160, gu_ib, nI_nat, bi_s, vl_e, gu_t, if_true, if_false, reduceIte, bt1_1, bt1_2, bt1_3, bt1_4, bt1_5, bt1_6, bt1_7, bt1_8, bt1_9, bt1_10, bt1_11, bt1_12, bt14_1, bt14_2, bt14_3, bt14_4, bt14_5, bt14_6, bt14_7, bt14_8, bt14_9, bt14_10, bt14_11, bt14_12, m_layersOf hy A]
    rw [if_pos (by omega)]; rfl
end
/-! writes -/
theorem zi_w {x : Mem} {c w h l G : Nat} {v : Int} {S F : Nat → Int} (hw : ∀ g q, q < w → (w * g + q = w * h + l ↔ g = h ∧ q = l)) (K : ∀ g q, g < G → q < w → x.2.1 c (w * g + q) = zL (S (w * g + q) + if g = h then F q else 0)) : ∀ g q, g < G → q < w → (wL x c (w * h + l) (zL (S (w * h + l) + v))).2.1 c (w * g + q) = zL (S (w * g + q) + if g = h then (if q = l then v else F q) else 0) := fun g q hg hq => by
  rw [wL_s]
  by_cases e : g = h ∧ q = l
  · rw [if_pos ((hw g q hq).mpr e), if_pos e.1, if_pos e.2, e.1, e.2]
  · rw [if_neg (fun z => e ((hw g q hq).mp z)), K g q hg hq]
    by_cases a : g = h
    · rw [if_pos a, if_pos a, if_neg (fun z => e ⟨a, z⟩)]
    · rw [if_neg a, if_neg a]
theorem MZ_1 {x : Mem} {s : Sp} {h l : Nat} {O : Oc} {v : Int} (hl : l < 40) (Z : MZ x s h O) : MZ (wL x 106 (40 * h + l) (zL (th s (40 * h + l) + v))) s h (uO O 1 l v) := by
  obtain ⟨z0, z1, z2, z3, z4, z5, z6, z7⟩ := Z
  refine ⟨fun q hq => ?_, fun g hg => ?_, fun g q hg hq => ?_, fun g q hg hq => ?_, fun g q hg hq => ?_, fun g q hg hq => ?_, fun g q hg hq => ?_, fun g q hg hq => ?_⟩
  · rw [wL_n (by decide), uO_d _ _ (by decide)]; exact z0 q hq
  · rw [wL_n (by decide)]; exact z1 g hg
  · rw [wL_n (by decide), uO_d _ _ (by decide)]; exact z2 g q hg hq
  · rw [uO_s]; exact zi_w (S := th s) (F := O 1) (fun g q hq => by omega) z3 g q hg hq
  · rw [wL_n (by decide), uO_d _ _ (by decide)]; exact z4 g q hg hq
  · rw [wL_1, uO_d _ _ (by decide)]; exact z5 g q hg hq
  · rw [wL_n (by decide), uO_d _ _ (by decide)]; exact z6 g q hg hq
  · rw [wL_n (by decide), uO_d _ _ (by decide)]; exact z7 g q hg hq
theorem MZ_0 {x : Mem} {s : Sp} {h l : Nat} {O : Oc} {v : Int} (hl : l < 40) (Z : MZ x s h O) : MZ (wL (wL x 105 (40 * h + l) (zL (tk s (40 * h + l) + v))) 99 l (zL (us s l + v))) s h (uO O 0 l v) := by
  obtain ⟨z0, z1, z2, z3, z4, z5, z6, z7⟩ := Z
  refine ⟨fun q hq => ?_, fun g hg => ?_, fun g q hg hq => ?_, fun g q hg hq => ?_, fun g q hg hq => ?_, fun g q hg hq => ?_, fun g q hg hq => ?_, fun g q hg hq => ?_⟩
  · rw [wL_s, wL_n (by decide), uO_s]
    split
    · rename_i e; rw [e]
    · exact z0 q hq
  · rw [wL_n (by decide), wL_n (by decide)]; exact z1 g hg
  · rw [wL_n (by decide), uO_s]; exact zi_w (S := tk s) (F := O 0) (fun g q hq => by omega) z2 g q hg hq
  · rw [wL_n (by decide), wL_n (by decide), uO_d _ _ (by decide)]; exact z3 g q hg hq
  · rw [wL_n (by decide), wL_n (by decide), uO_d _ _ (by decide)]; exact z4 g q hg hq
  · rw [wL_1, wL_1, uO_d _ _ (by decide)]; exact z5 g q hg hq
  · rw [wL_n (by decide), wL_n (by decide), uO_d _ _ (by decide)]; exact z6 g q hg hq
  · rw [wL_n (by decide), wL_n (by decide), uO_d _ _ (by decide)]; exact z7 g q hg hq
theorem MZ_2 {x : Mem} {s : Sp} {h l : Nat} {O : Oc} {v : Int} (hl : l < 40) (Z : MZ x s h O) : MZ (wL x 107 (40 * h + l) (zL (mv s (40 * h + l) + v))) s h (uO O 2 l v) := by
  obtain ⟨z0, z1, z2, z3, z4, z5, z6, z7⟩ := Z
  refine ⟨fun q hq => ?_, fun g hg => ?_, fun g q hg hq => ?_, fun g q hg hq => ?_, fun g q hg hq => ?_, fun g q hg hq => ?_, fun g q hg hq => ?_, fun g q hg hq => ?_⟩
  · rw [wL_n (by decide), uO_d _ _ (by decide)]; exact z0 q hq
  · rw [wL_n (by decide)]; exact z1 g hg
  · rw [wL_n (by decide), uO_d _ _ (by decide)]; exact z2 g q hg hq
  · rw [wL_n (by decide), uO_d _ _ (by decide)]; exact z3 g q hg hq
  · rw [uO_s]; exact zi_w (S := mv s) (F := O 2) (fun g q hq => by omega) z4 g q hg hq
  · rw [wL_1, uO_d _ _ (by decide)]; exact z5 g q hg hq
  · rw [wL_n (by decide), uO_d _ _ (by decide)]; exact z6 g q hg hq
  · rw [wL_n (by decide), uO_d _ _ (by decide)]; exact z7 g q hg hq
theorem MZ_4 {x : Mem} {s : Sp} {h l : Nat} {O : Oc} {v : Int} (hl : l < 10) (Z : MZ x s h O) : MZ (wL x 109 (10 * h + l) (zL (br s (10 * h + l) + v))) s h (uO O 4 l v) := by
  obtain ⟨z0, z1, z2, z3, z4, z5, z6, z7⟩ := Z
  refine ⟨fun q hq => ?_, fun g hg => ?_, fun g q hg hq => ?_, fun g q hg hq => ?_, fun g q hg hq => ?_, fun g q hg hq => ?_, fun g q hg hq => ?_, fun g q hg hq => ?_⟩
  · rw [wL_n (by decide), uO_d _ _ (by decide)]; exact z0 q hq
  · rw [wL_n (by decide)]; exact z1 g hg
  · rw [wL_n (by decide), uO_d _ _ (by decide)]; exact z2 g q hg hq
  · rw [wL_n (by decide), uO_d _ _ (by decide)]; exact z3 g q hg hq
  · rw [wL_n (by decide), uO_d _ _ (by decide)]; exact z4 g q hg hq
  · rw [wL_1, uO_d _ _ (by decide)]; exact z5 g q hg hq
  · rw [uO_s]; exact zi_w (S := br s) (F := O 4) (fun g q hq => by omega) z6 g q hg hq
  · rw [wL_n (by decide), uO_d _ _ (by decide)]; exact z7 g q hg hq
theorem MZ_5 {x : Mem} {s : Sp} {h r : Nat} {O : Oc} {v : Int} (hr : r < 7) (Z : MZ x s h O) : MZ (wL x 110 (7 * h + r) (zL (fl s (7 * h + r) + v))) s h (uO O 5 r v) := by
  obtain ⟨z0, z1, z2, z3, z4, z5, z6, z7⟩ := Z
  refine ⟨fun q hq => ?_, fun g hg => ?_, fun g q hg hq => ?_, fun g q hg hq => ?_, fun g q hg hq => ?_, fun g q hg hq => ?_, fun g q hg hq => ?_, fun g q hg hq => ?_⟩
  · rw [wL_n (by decide), uO_d _ _ (by decide)]; exact z0 q hq
  · rw [wL_n (by decide)]; exact z1 g hg
  · rw [wL_n (by decide), uO_d _ _ (by decide)]; exact z2 g q hg hq
  · rw [wL_n (by decide), uO_d _ _ (by decide)]; exact z3 g q hg hq
  · rw [wL_n (by decide), uO_d _ _ (by decide)]; exact z4 g q hg hq
  · rw [wL_1, uO_d _ _ (by decide)]; exact z5 g q hg hq
  · rw [wL_n (by decide), uO_d _ _ (by decide)]; exact z6 g q hg hq
  · rw [uO_s]; exact zi_w (S := fl s) (F := O 5) (fun g q hq => by omega) z7 g q hg hq
theorem MZ_3 {x : Mem} {s : Sp} {h j : Nat} {O : Oc} {v : Int} (hj : j < 160) (Z : MZ x s h O) : MZ (wI x 108 (160 * h + j) (zI (hd s (160 * h + j) + v))) s h (uO O 3 j v) := by
  obtain ⟨z0, z1, z2, z3, z4, z5, z6, z7⟩ := Z
  refine ⟨fun q hq => ?_, fun g hg => ?_, fun g q hg hq => ?_, fun g q hg hq => ?_, fun g q hg hq => ?_, fun g q hg hq => ?_, fun g q hg hq => ?_, fun g q hg hq => ?_⟩
  · rw [wI_L, uO_d _ _ (by decide)]; exact z0 q hq
  · rw [wI_L]; exact z1 g hg
  · rw [wI_L, uO_d _ _ (by decide)]; exact z2 g q hg hq
  · rw [wI_L, uO_d _ _ (by decide)]; exact z3 g q hg hq
  · rw [wI_L, uO_d _ _ (by decide)]; exact z4 g q hg hq
  · rw [uO_s, wI_s]
    by_cases e : g = h ∧ q = j
    · rw [if_pos (by rw [e.1, e.2]), if_pos e.1, if_pos e.2, e.1, e.2]
    · by_cases a : g = h
      · rw [if_neg (by omega), if_pos a, if_neg (fun z => e ⟨a, z⟩)]
        have := z5 g q hg hq
        rw [if_pos a] at this; exact this
      · have := z5 g q hg hq
        rw [if_neg a] at this ⊢
        rw [if_neg (by omega)]; exact this
  · rw [wI_L, uO_d _ _ (by decide)]; exact z6 g q hg hq
  · rw [wI_L, uO_d _ _ (by decide)]; exact z7 g q hg hq
