/-! the model: an event is done -/
def AG (q : Nat) : Prop := q = 85 ∨ 90 ≤ q ∧ q ≤ 127
theorem AS_G {q : Nat} (h : AS q) : AG q := by unfold AS at h; unfold AG; omega
def S85 (x y : Mem) : Prop := ∀ j, j < 29 ∨ 32 < j → y.1 85 j = x.1 85 j
theorem S85_F {A : Nat → Prop} {x y : Mem} (F : Fr A x y) (h : ¬ A 85) : S85 x y := fun j _ => by rw [F.I h]
theorem S85.tr {x y z : Mem} (a : S85 x y) (b : S85 y z) : S85 x z := fun j hj => (b j hj).trans (a j hj)
section
variable {N fu k : Nat} {μ : Mem} {s : Sp} {e : Ev}
theorem RMz_F {A : Nat → Prop} {x y : Mem} {z : Nat → Nat → Int} (F : Fr A x y) (hA : ∀ q, A q → q < 99 ∨ 110 < q ∨ 100 ≤ q ∧ q ≤ 103) (H : RMz x z) : RMz y z := by
  have e99 := F.L (q := 99) (fun z => by have := hA _ z; omega)
  have e104 := F.L (q := 104) (fun z => by have := hA _ z; omega)
  have e105 := F.L (q := 105) (fun z => by have := hA _ z; omega)
  have e106 := F.L (q := 106) (fun z => by have := hA _ z; omega)
  have e107 := F.L (q := 107) (fun z => by have := hA _ z; omega)
  have e108 := F.I (q := 108) (fun z => by have := hA _ z; omega)
  have e109 := F.L (q := 109) (fun z => by have := hA _ z; omega)
  have e110 := F.L (q := 110) (fun z => by have := hA _ z; omega)
  simp only [RMz, e99, e104, e105, e106, e107, e108, e109, e110] at H ⊢
  exact H
/-- the rungs make place -/
theorem m_stk {l y c : Nat} {Q : Mem → Prop} {f : Nat} (hl : l < 40) (hy : y < 12) (hc : c < 6) (hf9 : f ≤ 900000000) (fl' : μ.1 93 l = nI f) (F9 : ∀ j, j < c → rg s (6 * y + j) < 40 ∧ fr s (rg s (6 * y + j)) ≤ 900000000 ∧ μ.1 93 (rg s (6 * y + j)) = nI (fr s (rg s (6 * y + j)))) :
    ∀ (k n : Nat) (x : Mem), k ≤ c → k < n → Fr (fun q => q = 113) μ x → (∀ j, j < k → x.1 113 (6 * y + j) = nI (rg s (6 * y + j))) → (∀ j, k < j → j ≤ c → x.1 113 (6 * y + j) = nI (rg s (6 * y + (j - 1)))) → (∀ j, j < 6 * y ∨ 6 * y + c < j → x.1 113 j = μ.1 113 j) →
      (∀ x', Fr (fun q => q = 113) μ x' → (∀ j, j < insP s y f k → x'.1 113 (6 * y + j) = nI (rg s (6 * y + j))) → (∀ j, insP s y f k < j → j ≤ c → x'.1 113 (6 * y + j) = nI (rg s (6 * y + (j - 1)))) → (∀ j, j < 6 * y ∨ 6 * y + c < j → x'.1 113 j = μ.1 113 j) → Ok (D_X7_stacks_75 fu (nI l) (nI y) (nI (insP s y f k)) x') Q) → Ok (D_X7_stacks_14 fu n (nI l) (nI y) (nI k) x) Q := by
  intro k
  induction k with
  | zero =>
    intro n x _ hn F h1 h2 h3 kk
    cases n with
    | zero => omega
    | succ n =>
      simp (disch := omega) only [D_X7_stacks_14, li0, li1, li2, li3, li4, li5, li6, li7, li8, li9, li10, li12, li24, li31, li40, li160, n_le, n_lt, n_eq, n_m1, n_add, mr4, mr6, mr7, mr10, mr40, mr160, ml4, ml6, ml7, ml10, ml40, ml160, gu_ib, nI_nat, bi_s, vl_e, gu_t, if_true, if_false, reduceIte, bt1_1, bt1_2, bt1_3, bt1_4, bt1_5, bt1_6, bt1_7, bt1_8, bt1_9, bt1_10, bt1_11, bt1_12, bt14_1, bt14_2, bt14_3, bt14_4, bt14_5, bt14_6, bt14_7, bt14_8, bt14_9, bt14_10, bt14_11, bt14_12]
      rw [if_pos (by omega)]
      exact kk x F h1 h2 h3
  | succ k ih =>
    intro n x hk hn F h1 h2 h3 kk
    cases n with
    | zero => omega
    | succ n =>
      have f9 := F9 k (by omega)
      have fm : x.1 93 (rg s (6 * y + k)) = nI (fr s (rg s (6 * y + k))) := by rw [F.I (by decide)]; exact f9.2.2
      have fx : x.1 93 l = nI f := by rw [F.I (by decide)]; exact fl'
      have ix : 6 * y + (k + 1) - 1 = 6 * y + k := by omega
      simp (disch := omega) only [D_X7_stacks_14, li0, li1, li2, li3, li4, li5, li6, li7, li8, li9, li10, li12, li24, li31, li40, li160, n_le, n_lt, n_eq, n_m1, n_add, mr4, mr6, mr7, mr10, mr40, mr160, ml4, ml6, ml7, ml10, ml40, ml160, gu_ib, nI_nat, bi_s, vl_e, gu_t, if_true, if_false, reduceIte, bt1_1, bt1_2, bt1_3, bt1_4, bt1_5, bt1_6, bt1_7, bt1_8, bt1_9, bt1_10, bt1_11, bt1_12, bt14_1, bt14_2, bt14_3, bt14_4, bt14_5, bt14_6, bt14_7, bt14_8, bt14_9, bt14_10, bt14_11, bt14_12, n_sub, ix, h1 k (by omega), fm, fx]
      rw [if_neg (by omega)]
      by_cases q : fr s (rg s (6 * y + k)) ≤ f
      · rw [if_pos q]
        have e : insP s y f (k + 1) = k + 1 := by unfold insP; rw [if_neg (by omega)]
        have := kk x F (by rw [e]; exact h1) (by rw [e]; exact h2) h3
        rwa [e] at this
      · rw [if_neg q, show nI (k + 1) + -nI 1 = nI k from n_dec (by omega)]
        have e : insP s y f (k + 1) = insP s y f k := by
          conv => lhs; unfold insP
          rw [if_pos (by omega)]
        rw [e] at kk
        refine ih n _ (by omega) (by omega) (Fr.wI F rfl) (fun j hj => ?_) (fun j hj hjc => ?_) (fun j hj => ?_) kk
        · rw [wI_s, if_neg (by omega)]; exact h1 j (by omega)
        · rw [wI_s]
          by_cases ej : j = k + 1
          · rw [if_pos (by omega), ej, Nat.add_sub_cancel]
          · rw [if_neg (by omega)]; exact h2 j (by omega) hjc
        · rw [wI_s, if_neg (by omega)]; exact h3 j hj
theorem m_places {l y f z t : Nat} (hf : 200 < fu) (hl' : l < 40) (hy : y < 12) (hf9 : f ≤ 900000000) (hz : 1 ≤ z ∧ z ≤ 100000000) (ht : 1 ≤ t ∧ t ≤ 4) (h0 : isL s l = 0) (hk : lkb s y = false) (h6 : hg s y < 6) (hr : fre s y f z) (R : RM μ s) (H : Iv N s) {w : Mem} (hw : w = wI (wI (wI (wI (wI μ 90 l 1) 92 l (nI y)) 93 l (nI f)) 94 l (nI z)) 95 l (nI t)) : Ok (D_X7_stacks_0 fu (nI l) w) (fun x => Fr (fun q => 90 ≤ q ∧ q ≤ 115) μ x ∧ RM x (ptL s l y f z t)) := by
  have IT := IvT_pt H.T hl' hy hf9 hz ht h0 hk h6 hr
  have hgy : hg (ptL s l y f z t) y = hg s y + 1 := by rw [pt_hg, if_pos rfl]
  obtain ⟨p1, p2, p3⟩ := insP_s H.T hy hz.1 hr
  have nl : ∀ x k, x < 12 → k < hg s x → rg s (6 * x + k) ≠ l := fun x k h1 h2 e => by
    have := IvT_ri H.T h1 h2
    rw [e] at this; omega
  have WF : Fr (fun q => q = 90 ∨ 92 ≤ q ∧ q ≤ 95) μ w := by subst hw; exact Fr.wI (Fr.wI (Fr.wI (Fr.wI (Fr.wI Fr.rfl' (by omega)) (by omega)) (by omega)) (by omega)) (by omega)
  have w90 : ∀ j, w.1 90 j = if j = l then nI 1 else μ.1 90 j := fun j => by subst hw; simp (disch := omega) only [wI_n, wI_s]; rfl
  have w92 : ∀ j, w.1 92 j = if j = l then nI y else μ.1 92 j := fun j => by subst hw; simp (disch := omega) only [wI_n, wI_s]
  have w93 : ∀ j, w.1 93 j = if j = l then nI f else μ.1 93 j := fun j => by subst hw; simp (disch := omega) only [wI_n, wI_s]
  have w94 : ∀ j, w.1 94 j = if j = l then nI z else μ.1 94 j := fun j => by subst hw; simp (disch := omega) only [wI_n, wI_s]
  have w95 : ∀ j, w.1 95 j = if j = l then nI t else μ.1 95 j := fun j => by subst hw; simp (disch := omega) only [wI_n, wI_s]
  have w114 : w.1 114 y = nI (hg s y) := by rw [WF.I (by omega)]; exact M_hg R hy
  have w92l : w.1 92 l = nI y := by rw [w92, if_pos rfl]
  simp (disch := omega) only [D_X7_stacks_0, li0, li1, li2, li3, li4, li5, li6, li7, li8, li9, li10, li12, li24, li31, li40, li160, n_le, n_lt, n_eq, n_m1, n_add, mr4, mr6, mr7, mr10, mr40, mr160, ml4, ml6, ml7, ml10, ml40, ml160, gu_ib, nI_nat, bi_s, vl_e, gu_t, if_true, if_false, reduceIte, bt1_1, bt1_2, bt1_3, bt1_4, bt1_5, bt1_6, bt1_7, bt1_8, bt1_9, bt1_10, bt1_11, bt1_12, bt14_1, bt14_2, bt14_3, bt14_4, bt14_5, bt14_6, bt14_7, bt14_8, bt14_9, bt14_10, bt14_11, bt14_12, w92l, w114]
  refine m_stk (s := s) (f := f) (c := hg s y) hl' hy h6 hf9 (by rw [w93, if_pos rfl]) (fun j hj => ⟨IvT_rg H.T hy hj, IvT_fr H.T (IvT_rg H.T hy hj) (IvT_ri H.T hy hj), by rw [w93, if_neg (nl y j hy hj)]; exact M_fr R (IvT_rg H.T hy hj) (IvT_ri H.T hy hj)⟩) (hg s y) fu w (Nat.le_refl _) (by omega) Fr.rfl' (fun j hj => by rw [WF.I (by omega)]; exact M_rg R hy hj) (fun j h1 h2 => by omega) (fun j _ => rfl) fun x F r1 r2 r3 => ?_
  have x114 : x.1 114 y = nI (hg s y) := by rw [F.I (by omega)]; exact w114
  unfold D_X7_stacks_75
  simp (disch := omega) only [li0, li1, li2, li3, li4, li5, li6, li7, li8, li9, li10, li12, li24, li31, li40, li160, n_le, n_lt, n_eq, n_m1, n_add, mr4, mr6, mr7, mr10, mr40, mr160, ml4, ml6, ml7, ml10, ml40, ml160, gu_ib, nI_nat, bi_s, vl_e, gu_t, if_true, if_false, reduceIte, bt1_1, bt1_2, bt1_3, bt1_4, bt1_5, bt1_6, bt1_7, bt1_8, bt1_9, bt1_10, bt1_11, bt1_12, bt14_1, bt14_2, bt14_3, bt14_4, bt14_5, bt14_6, bt14_7, bt14_8, bt14_9, bt14_10, bt14_11, bt14_12, wI_n, x114]
  generalize eu : wI (wI x 113 (6 * y + insP s y f (hg s y)) (nI l)) 114 y (nI (hg s y + 1)) = u
  have UF : Fr (fun q => q = 113 ∨ q = 114) w u := by subst eu; exact Fr.wI (Fr.wI (F.mo fun q z => Or.inl z) (Or.inl rfl)) (Or.inr rfl)
  have u114 : ∀ j, u.1 114 j = if j = y then nI (hg s y + 1) else μ.1 114 j := fun j => by subst eu; rw [wI_s, wI_n (by decide), F.I (by decide), WF.I (by decide)]
  have u113 : ∀ j, u.1 113 j = if j = 6 * y + insP s y f (hg s y) then nI l else x.1 113 j := fun j => by subst eu; rw [wI_n (by decide), wI_s]
  -- all but the holes
  have rgU : ∀ v k, v < 12 → k < hg (ptL s l y f z t) v → u.1 113 (6 * v + k) = nI (rg (ptL s l y f z t) (6 * v + k)) := fun v k hv hk' => by
    rw [pt_hg] at hk'
    by_cases e : v = y
    · subst e
      rw [if_pos rfl] at hk'
      rw [pt_rgy s l v f z t (by omega), u113]
      rcases Nat.lt_trichotomy k (insP s v f (hg s v)) with c | c | c
      · rw [if_neg (by omega), rgI_l c]; exact r1 k c
      · rw [if_pos (by omega), c, rgI_e]
      · rw [if_neg (by omega), rgI_g c]; exact r2 k c (by omega)
    · rw [if_neg e] at hk'
      have k6 := IvT_hg H.T hv
      rw [pt_rgo s l f z t e (by omega) (by omega), u113, if_neg (by omega), r3 _ (by omega), WF.I (by omega)]
      exact M_rg R hv hk'
  have isO : ∀ q, isL (ptL s l y f z t) q = 1 → q ≠ l → isL s q = 1 := fun q h1 ne => by rwa [pt_is, if_neg ne] at h1
  have U : ∀ {v : Mem}, Fr (fun q => q = 115) u v → (∀ q, q ≠ 113 → q ≠ 114 → q ≠ 115 → v.1 q = w.1 q) := fun Fv q a b c => by rw [Fv.I c, UF.I (by omega)]
  have mk : ∀ v : Mem, Fr (fun q => q = 115) u v → (∀ q, q < 40 → isL (ptL s l y f z t) q = 1 → v.1 115 q = nI (hl (ptL s l y f z t) q)) → RM v (ptL s l y f z t) := fun v Fv hh => by
    have n0 := IvT_n0 H.T hl' h0
    have VU := U Fv
    refine ⟨⟨fun q hq => ?_, fun q hq => ?_, fun q hq h1 => ?_, fun q hq h1 => ?_, fun q hq h1 => ?_, fun q hq h1 => ?_, fun q hq h1 => hh q hq h1, fun q k hq hk' => ?_, fun q k hq hk' => ?_, fun v' hv => ?_, fun v' k hv hk' => ?_, ?_⟩, ?_, ?_⟩
    · show _ = nI (isL (ptL s l y f z t) q)
      rw [VU _ (by decide) (by decide) (by decide), w90, pt_is]; split
      · rfl
      · exact M_is R hq
    · show _ = nI (ng s q)
      rw [VU _ (by decide) (by decide) (by decide), WF.I (by decide)]; exact M_ng R hq
    · show _ = nI (yr (ptL s l y f z t) q)
      rw [VU _ (by decide) (by decide) (by decide), w92, pt_yr]; split
      · rfl
      · rename_i ne; exact M_yr R hq (isO q h1 ne)
    · show _ = nI (fr (ptL s l y f z t) q)
      rw [VU _ (by decide) (by decide) (by decide), w93, pt_fr]; split
      · rfl
      · rename_i ne; exact M_fr R hq (isO q h1 ne)
    · show _ = nI (sz (ptL s l y f z t) q)
      rw [VU _ (by decide) (by decide) (by decide), w94, pt_sz]; split
      · rfl
      · rename_i ne; exact M_sz R hq (isO q h1 ne)
    · show _ = nI (tm (ptL s l y f z t) q)
      rw [VU _ (by decide) (by decide) (by decide), w95, pt_tm]; split
      · rfl
      · rename_i ne; exact M_tm R hq (isO q h1 ne)
    · show _ = nI (sg s (4 * q + k))
      rw [VU _ (by decide) (by decide) (by decide), WF.I (by decide)]; exact M_sg R hq hk'
    · show _ = nI (tn s (4 * q + k))
      rw [VU _ (by decide) (by decide) (by decide), WF.I (by decide)]; exact M_tn R hq hk'
    · show _ = nI (hg (ptL s l y f z t) v')
      rw [Fv.I (by decide), u114, pt_hg]; split
      · rename_i e; rw [e]
      · exact M_hg R hv
    · rw [Fv.I (by decide)]; exact rgU v' k hv hk'
    · show _ = nI (lk s)
      rw [VU _ (by decide) (by decide) (by decide), WF.I (by decide)]; exact M_lk R
    · refine RMb_frm (μ := μ) (fun q hq => ?_) (fun j _ _ => ?_) R.b
      · rw [VU _ (by omega) (by omega) (by omega), WF.I (by omega)]
      · rw [VU _ (by decide) (by decide) (by decide), WF.I (by decide)]
    · have FA : Fr (fun q => q = 90 ∨ 92 ≤ q ∧ q ≤ 95 ∨ 113 ≤ q ∧ q ≤ 115) μ v := Fr.tr (Fr.tr (WF.mo fun q z => by omega) (UF.mo fun q z => by omega)) (Fv.mo fun q z => by omega)
      exact RMz_F FA (fun q z => by omega) R.z
  -- the holes of the year anew
  have inY : ∀ q, q < 40 → isL (ptL s l y f z t) q = 1 → yr (ptL s l y f z t) q = y → ∃ k, k < hg s y + 1 ∧ rg (ptL s l y f z t) (6 * y + k) = q := fun q hq h1 e => by
    obtain ⟨k, a, b⟩ := IvT_in IT hq h1
    rw [e] at a b; rw [hgy] at a
    exact ⟨k, a, b⟩
  refine Ok.for (fun n k v => D_X7_stacks_102 fu n (nI y) (nI k) (nI (flo (ptL s l y f z t) y k)) v) (hg s y + 1) (fun k v => Fr (fun q => q = 115) u v ∧ (∀ j, j < k → v.1 115 (rg (ptL s l y f z t) (6 * y + j)) = nI (hl (ptL s l y f z t) (rg (ptL s l y f z t) (6 * y + j)))) ∧ ∀ q, (∀ j, j < k → q ≠ rg (ptL s l y f z t) (6 * y + j)) → v.1 115 q = u.1 115 q) ?_ ?_ fu 0 u (by omega) (by omega) ⟨Fr.rfl', fun j h => absurd h (Nat.not_lt_zero j), fun _ _ => rfl⟩
  · intro n k v hk' P kk
    obtain ⟨P1, P2, P3⟩ := P
    have kh : k < hg (ptL s l y f z t) y := by rw [hgy]; exact hk'
    have r4 := IvT_rg IT hy kh
    have r1' := IvT_ri IT hy kh
    have fb := flo_b IT hy kh
    have fle := flo_le IT hy (Nat.le_of_lt kh)
    have f9 := IvT_fr IT r4 r1'
    have v114 : v.1 114 y = nI (hg s y + 1) := by rw [P1.I (by decide), u114, if_pos rfl]
    have v113 : v.1 113 (6 * y + k) = nI (rg (ptL s l y f z t) (6 * y + k)) := by rw [P1.I (by decide)]; exact rgU y k hy kh
    have v93 : v.1 93 (rg (ptL s l y f z t) (6 * y + k)) = nI (fr (ptL s l y f z t) (rg (ptL s l y f z t) (6 * y + k))) := by
      rw [U P1 _ (by decide) (by decide) (by decide), w93, pt_fr]; split
      · rfl
      · rename_i ne; exact M_fr R r4 (isO _ r1' ne)
    have v94 : v.1 94 (rg (ptL s l y f z t) (6 * y + k)) = nI (sz (ptL s l y f z t) (rg (ptL s l y f z t) (6 * y + k))) := by
      rw [U P1 _ (by decide) (by decide) (by decide), w94, pt_sz]; split
      · rfl
      · rename_i ne; exact M_sz R r4 (isO _ r1' ne)
    have es := n_sub fb.1
    rw [← fb.2] at es
    simp (disch := omega) only [D_X7_stacks_102, D_X7_rungOf_0, D_X7_top_0, li0, li1, li2, li3, li4, li5, li6, li7, li8, li9, li10, li12, li24, li31, li40, li160, n_le, n_lt, n_eq, n_m1, n_add, mr4, mr6, mr7, mr10, mr40, mr160, ml4, ml6, ml7, ml10, ml40, ml160, gu_ib, nI_nat, bi_s, vl_e, gu_t, if_true, if_false, reduceIte, bt1_1, bt1_2, bt1_3, bt1_4, bt1_5, bt1_6, bt1_7, bt1_8, bt1_9, bt1_10, bt1_11, bt1_12, bt14_1, bt14_2, bt14_3, bt14_4, bt14_5, bt14_6, bt14_7, bt14_8, bt14_9, bt14_10, bt14_11, bt14_12, v114, v113, v93, es, wI_n, v94]
    rw [if_neg (by omega), if_neg (by omega)]
    simp (disch := omega) only [li0, li1, li2, li3, li4, li5, li6, li7, li8, li9, li10, li12, li24, li31, li40, li160, n_le, n_lt, n_eq, n_m1, n_add, mr4, mr6, mr7, mr10, mr40, mr160, ml4, ml6, ml7, ml10, ml40, ml160, gu_ib, nI_nat, bi_s, vl_e, gu_t, if_true, if_false, reduceIte, bt1_1, bt1_2, bt1_3, bt1_4, bt1_5, bt1_6, bt1_7, bt1_8, bt1_9, bt1_10, bt1_11, bt1_12, bt14_1, bt14_2, bt14_3, bt14_4, bt14_5, bt14_6, bt14_7, bt14_8, bt14_9, bt14_10, bt14_11, bt14_12, v93, es, v94]
    have inj : ∀ j, j < k → rg (ptL s l y f z t) (6 * y + j) ≠ rg (ptL s l y f z t) (6 * y + k) := fun j hj e => by have := rg_inj IT hy (by omega) kh e; omega
    refine kk _ ⟨Fr.wI P1 rfl, fun j hj => ?_, fun q hq => ?_⟩
    · rw [wI_s]
      by_cases ej : j = k
      · rw [ej, if_pos rfl]
      · rw [if_neg (inj j (by omega))]; exact P2 j (by omega)
    · rw [wI_s, if_neg (hq k (by omega))]; exact P3 q fun j hj => hq j (by omega)
  · intro n v P
    obtain ⟨P1, P2, P3⟩ := P
    have v114 : v.1 114 y = nI (hg s y + 1) := by rw [P1.I (by decide), u114, if_pos rfl]
    simp (disch := omega) only [D_X7_stacks_102, li0, li1, li2, li3, li4, li5, li6, li7, li8, li9, li10, li12, li24, li31, li40, li160, n_le, n_lt, n_eq, n_m1, n_add, mr4, mr6, mr7, mr10, mr40, mr160, ml4, ml6, ml7, ml10, ml40, ml160, gu_ib, nI_nat, bi_s, vl_e, gu_t, if_true, if_false, reduceIte, bt1_1, bt1_2, bt1_3, bt1_4, bt1_5, bt1_6, bt1_7, bt1_8, bt1_9, bt1_10, bt1_11, bt1_12, bt14_1, bt14_2, bt14_3, bt14_4, bt14_5, bt14_6, bt14_7, bt14_8, bt14_9, bt14_10, bt14_11, bt14_12, v114]
    rw [if_pos (by omega)]
    have F' : Fr (fun q => 90 ≤ q ∧ q ≤ 115) μ v := Fr.tr (Fr.tr (WF.mo fun q z => by omega) (UF.mo fun q z => by omega)) (P1.mo fun q z => by omega)
    refine Ok.s ⟨F', mk v P1 fun q hq h1 => ?_⟩
    by_cases ey : yr (ptL s l y f z t) q = y
    · obtain ⟨k, hk', ek⟩ := inY q hq h1 ey
      rw [← ek]; exact P2 k hk'
    · have ne : q ≠ l := fun e' => by rw [e', pt_yr, if_pos rfl] at ey; exact ey rfl
      rw [P3 q (fun j hj e' => ey (by rw [e']; exact IvT_ry IT hy (by rw [hgy]; exact hj))), UF.I (by decide), WF.I (by decide), pt_hl, if_neg ne, if_neg]
      · exact M_hl R hq (isO q h1 ne)
      · intro c
        have : yr s q = y := by rw [c.2]; exact IvT_ry H.T hy c.1
        rw [pt_yr, if_neg ne] at ey
        exact ey this
end
