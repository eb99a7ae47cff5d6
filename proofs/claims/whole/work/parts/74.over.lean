/-! gone over: runs of events -/
/-- events, filtered, from a start on -/
noncomputable def rF (ev : Nat → Ev) (f : Nat → Bool) (s0 : Sp) : Nat → Sp
  | 0 => s0
  | k + 1 => if f k = true then go (rF ev f s0 k) (ev k) else rF ev f s0 k
theorem rF_s (ev : Nat → Ev) (f : Nat → Bool) (s0 : Sp) (k : Nat) : rF ev f s0 (k + 1) = if f k = true then go (rF ev f s0 k) (ev k) else rF ev f s0 k := rfl
theorem rF_c {ev ev' : Nat → Ev} {f g : Nat → Bool} {s0 : Sp} : ∀ {n : Nat}, (∀ k, k < n → ev k = ev' k ∧ f k = g k) → rF ev f s0 n = rF ev' g s0 n
  | 0, _ => rfl
  | n + 1, h => by rw [rF_s, rF_s, rF_c (fun k hk => h k (by omega)), (h n (by omega)).1, (h n (by omega)).2]
/-- how many of them can't be done -/
noncomputable def nF (ev : Nat → Ev) (f : Nat → Bool) (s0 : Sp) : Nat → Nat
  | 0 => 0
  | k + 1 => nF ev f s0 k + if f k = true ∧ canB (rF ev f s0 k) (ev k) = false then 1 else 0
/-- all events are good, numbers are given once -/
def EG (ev : Nat → Ev) (n : Nat) : Prop := n ≤ 160 ∧ (∀ k, k < n → EvOK (ev k)) ∧ ∀ i j, i < n → j < n → ev i 0 = ev j 0 → (ev i 0 = 0 ∨ ev i 0 = 4) → ev i 1 = ev j 1 → i = j
/-- what is there comes of events in P -/
def DS (ev : Nat → Ev) (n : Nat) (P : Nat → Prop) (t : Sp) : Prop := (∀ l, l < 40 → isL t l = 1 → ∃ i, i < n ∧ P i ∧ ev i 0 = 0 ∧ ev i 1 = l) ∧ ∀ h, h < 25 → isH t h = 1 → ∃ i, i < n ∧ P i ∧ ev i 0 = 4 ∧ ev i 1 = h
theorem doe_isL {s : Sp} {e : Ev} (E : EvOK e) (l : Nat) : isL (doe s e) l = if e 0 = 0 ∧ l = e 1 then 1 else isL s l := by
  rcases ev_cases E with h | h | h | h | h | h | h | h | h
  · rw [doe_0 s h, pt_is]
    by_cases q : l = e 1
    · rw [if_pos q, if_pos ⟨h, q⟩]
    · rw [if_neg q, if_neg (fun z => q z.2)]
  · rw [doe_1 s h, if_neg (by omega)]; simp [isL, uN']
  · rw [doe_2 s h, if_neg (by omega)]; simp [isL, uN']
  · rw [doe_3 s h, if_neg (by omega)]; simp [isL, uN']
  · rw [doe_4 s h, if_neg (by omega)]
    show (hmS s (e 1) (e 2) (e 3) (e 4) (e 5 : Int)).1 0 l = _
    rw [hm_1 s _ _ _ _ _ (by decide)]
  · rw [doe_5 s h, if_neg (by omega)]
    show (grS s (e 1) (e 2 : Int)).1 0 l = _
    rw [gr_1 s _ _ (by decide)]
  · rw [doe_6 s h, if_neg (by omega)]; simp [isL, uN']
  · rw [doe_7 s h, if_neg (by omega)]; simp [isL, uN']
  · rw [doe_8 s h, if_neg (by omega)]; rfl
theorem doe_isH {s : Sp} {e : Ev} (E : EvOK e) (g : Nat) : isH (doe s e) g = if e 0 = 4 ∧ g = e 1 then 1 else isH s g := by
  rcases ev_cases E with h | h | h | h | h | h | h | h | h
  · rw [doe_0 s h, if_neg (by omega)]; rfl
  · rw [doe_1 s h, if_neg (by omega)]; simp [isH, uN']
  · rw [doe_2 s h, if_neg (by omega)]; simp [isH, uN']
  · rw [doe_3 s h, if_neg (by omega)]; simp [isH, uN']
  · rw [doe_4 s h]
    show isH (hmS s (e 1) (e 2) (e 3) (e 4) (e 5 : Int)) g = _
    rw [hm_is]
    by_cases q : g = e 1
    · rw [if_pos q, if_pos ⟨h, q⟩]
    · rw [if_neg q, if_neg (fun z => q z.2)]
  · rw [doe_5 s h, if_neg (by omega)]
    show (grS s (e 1) (e 2 : Int)).1 13 g = _
    rw [gr_1 s _ _ (by decide)]
  · rw [doe_6 s h, if_neg (by omega)]; simp [isH, uN']
  · rw [doe_7 s h, if_neg (by omega)]; simp [isH, uN']
  · rw [doe_8 s h, if_neg (by omega)]; rfl
theorem DS_go {ev : Nat → Ev} {n k : Nat} {P : Nat → Prop} {t : Sp} (E : EvOK (ev k)) (hk : k < n) (D : DS ev n P t) : DS ev n (fun i => P i ∨ i = k) (go t (ev k)) := by
  by_cases C : can t (ev k)
  · rw [go_y C]
    refine ⟨fun l hl h1 => ?_, fun h hh h1 => ?_⟩
    · rw [doe_isL E] at h1
      by_cases q : ev k 0 = 0 ∧ l = ev k 1
      · exact ⟨k, hk, Or.inr rfl, q.1, q.2.symm⟩
      · rw [if_neg q] at h1
        obtain ⟨i, a, b, c⟩ := D.1 l hl h1
        exact ⟨i, a, Or.inl b, c⟩
    · rw [doe_isH E] at h1
      by_cases q : ev k 0 = 4 ∧ h = ev k 1
      · exact ⟨k, hk, Or.inr rfl, q.1, q.2.symm⟩
      · rw [if_neg q] at h1
        obtain ⟨i, a, b, c⟩ := D.2 h hh h1
        exact ⟨i, a, Or.inl b, c⟩
  · rw [go_n C]
    refine ⟨fun l hl h1 => ?_, fun h hh h1 => ?_⟩
    · obtain ⟨i, a, b, c⟩ := D.1 l hl h1; exact ⟨i, a, Or.inl b, c⟩
    · obtain ⟨i, a, b, c⟩ := D.2 h hh h1; exact ⟨i, a, Or.inl b, c⟩
theorem DS_mo {ev : Nat → Ev} {n : Nat} {P Q : Nat → Prop} {t : Sp} (h : ∀ i, i < n → P i → Q i) (D : DS ev n P t) : DS ev n Q t := by
  refine ⟨fun l hl h1 => ?_, fun g hh h1 => ?_⟩
  · obtain ⟨i, a, b, c⟩ := D.1 l hl h1; exact ⟨i, a, h i a b, c⟩
  · obtain ⟨i, a, b, c⟩ := D.2 g hh h1; exact ⟨i, a, h i a b, c⟩
theorem DS_0 (ev : Nat → Ev) (n : Nat) (P : Nat → Prop) {t : Sp} (h1 : ∀ l, isL t l = 0) (h2 : ∀ h, isH t h = 0) : DS ev n P t := ⟨fun l _ h => by rw [h1] at h; exact absurd h n01, fun l _ h => by rw [h2] at h; exact absurd h n01⟩
theorem DS_f {ev : Nat → Ev} {n k N : Nat} {P : Nat → Prop} {t : Sp} (G : EG ev n) (hk : k < n) (hP : ¬ P k) (D : DS ev n P t) (H : Iv N t) : EvF t (ev k) := by
  have E := G.2.1 k hk
  refine ⟨fun h => ?_, fun h => ?_⟩
  · have k1 := (E.k0 h).1
    rcases IvT_is H.T k1 with z | z
    · exact z
    · obtain ⟨i, a, b, c, d⟩ := D.1 _ k1 z
      have := G.2.2 i k a hk (by omega) (Or.inl c) d
      subst this; exact absurd b hP
  · have k1 := (E.k4 h).1
    rcases IvH_is H.H (show ev k 1 < 25 by omega) with z | z
    · exact z
    · obtain ⟨i, a, b, c, d⟩ := D.2 _ (show ev k 1 < 25 by omega) z
      have := G.2.2 i k a hk (by omega) (Or.inr c) d
      subst this; exact absurd b hP
/-! states of the loops -/
def CS (ev : Nat → Ev) (n b : Nat) (μ x : Mem) (t : Sp) (M : Nat) (P : Nat → Prop) : Prop := Fr (AB b) μ x ∧ RC b x t ∧ Iv M t ∧ DS ev n P t
def E85 (μ x : Mem) : Prop := ∀ j, j < 29 ∨ 32 < j → j ≠ 49 → x.1 85 j = μ.1 85 j
theorem E85.rfl' {μ : Mem} : E85 μ μ := fun _ _ _ => rfl
theorem E85.tr {x y z : Mem} (a : E85 x y) (b : E85 y z) : E85 x z := fun j h1 h2 => (b j h1 h2).trans (a j h1 h2)
def MS (ev : Nat → Ev) (n : Nat) (μ x : Mem) (t : Sp) (M : Nat) (P : Nat → Prop) : Prop := Fr AG μ x ∧ E85 μ x ∧ RM x t ∧ Iv M t ∧ DS ev n P t
section
variable {fu n k M : Nat} {ev : Nat → Ev} {μ x : Mem} {t : Sp} {P : Nat → Prop}
theorem cs_step {b : Nat} (hf : 200 < fu) (hb3 : 3 ≤ b) (hb : b + 28 < 61) (G : EG ev n) (L : ∀ k, k < n → LG μ k (ev k)) (hk : k < n) (hP : ¬ P k) (hM : M ≤ 1000) (S : CS ev n b μ x t M P) : Ok (D_X0_carryOut_0 fu b (nI k) x) (fun r => r.1 = canB t (ev k) ∧ CS ev n b μ r.2 (go t (ev k)) (M + 1) (fun i => P i ∨ i = k)) := by
  obtain ⟨F, C, H, D⟩ := S
  have n160 := G.1
  have E := G.2.1 k hk
  have f := DS_f G hk hP D H
  refine (c_carry hf hb3 hb hM (by omega) (LG_F F (by unfold AB; omega) (L k hk)) E f C H).mo fun r p => ⟨p.1, F.tr p.2.1, p.2.2, Iv_go H E f, DS_go E hk D⟩
theorem ms_step (hf : 200 < fu) (G : EG ev n) (L : ∀ k, k < n → MG μ k (ev k)) (hk : k < n) (hP : ¬ P k) (hM : M ≤ 1000) (hr : x.1 85 48 = nI 0 ∨ ev k 0 ≠ 3) (S : MS ev n μ x t M P) : Ok (D_X7_goes_0 fu (nI k) x) (fun y => y.1 85 49 = x.1 85 49 + nI (if canB t (ev k) then 0 else 1) ∧ MS ev n μ y (go t (ev k)) (M + 1) (fun i => P i ∨ i = k)) := by
  obtain ⟨F, E5, R, H, D⟩ := S
  have n160 := G.1
  have E := G.2.1 k hk
  have f := DS_f G hk hP D H
  refine (m_goes hf (by omega) hM (MG_F F (fun q z => by unfold AG at z; omega) (L k hk)) E f hr R H).mo fun y p => ⟨p.2.2.1, F.tr p.1, E5.tr p.2.1, p.2.2.2, Iv_go H E f, DS_go E hk D⟩
theorem m_begins (hf : 200 < fu) : Ok (D_X7_begins_0 fu μ) (fun x => Fr (fun q => q = 85 ∨ 90 ≤ q ∧ q ≤ 114) μ x ∧ E85 μ x ∧ x.1 85 49 = nI 0 ∧ RM x sp0) := by
  unfold D_X7_begins_0
  refine Ok.b (m_clears hf) fun x p => Ok.v (Ok.s ⟨Fr.wI p.1 (Or.inl rfl), fun j h1 h2 => ?_, wI_e, ?_⟩)
  · rw [wI_s, if_neg h2]; exact p.2.1 j h1
  · exact RM_frm (μ := x) (fun q h1 h2 => ⟨by rw [wI_n (by omega)], by rw [wI_L]⟩) (fun j h1 h2 => by rw [wI_s, if_neg (by omega)]) p.2.2
theorem ms_0 (G : EG ev n) {y : Mem} (p : Fr (fun q => q = 85 ∨ 90 ≤ q ∧ q ≤ 114) μ y ∧ E85 μ y ∧ y.1 85 49 = nI 0 ∧ RM y sp0) : MS ev n μ y sp0 0 (fun _ => False) := ⟨p.1.mo fun q z => by unfold AG; omega, p.2.1, p.2.2.2, Iv_0, DS_0 _ _ _ (fun _ => rfl) (fun _ => rfl)⟩
theorem cs_0 {b : Nat} {y : Mem} (p : Fr (fun q => b ≤ q ∧ q ≤ b + 28) μ y ∧ RC b y sp0) : CS ev n b μ y sp0 0 (fun _ => False) := ⟨p.1.mo fun q z => Or.inl z, p.2, Iv_0, DS_0 _ _ _ (fun _ => rfl) (fun _ => rfl)⟩
theorem nF_le (ev : Nat → Ev) (f : Nat → Bool) (s0 : Sp) : ∀ n, nF ev f s0 n ≤ n
  | 0 => Nat.le_refl _
  | n + 1 => by
    have := nF_le ev f s0 n
    show nF ev f s0 n + _ ≤ n + 1
    split <;> omega
/-- the class: without an event -/
theorem c_without {b : Nat} (hf : 200 < fu) (hb : b < 200) (G : EG ev n) (L : ∀ k, k < n → LG μ k (ev k)) (hn : μ.1 1 1 = nI n) (T : ∃ t M, RC 32 μ t ∧ Iv M t) : Ok (D_X6_goOverWithout_0 fu (nI b) μ) (fun r => r.1 = nI (nF ev (fun k => decide (k ≠ b)) sp0 n) ∧ CS ev n 32 μ r.2 (rF ev (fun k => decide (k ≠ b)) sp0 n) n (fun i => i < n)) := by
  obtain ⟨t0, M0, C0, H0⟩ := T
  have n160 := G.1
  unfold D_X6_goOverWithout_0
  refine Ok.b (c_clear hf (by decide) (RC_24 C0 H0)) fun x p => ?_
  refine Ok.for (fun m k x => D_X6_goOverWithout_11 fu m (nI b) (nI (nF ev (fun k => decide (k ≠ b)) sp0 k)) (nI k) x) n (fun k x => CS ev n 32 μ x (rF ev (fun k => decide (k ≠ b)) sp0 k) k (fun i => i < k)) ?_ ?_ fu 0 x (by omega) (by omega) (by
    obtain ⟨a, b, c, d⟩ := cs_0 (ev := ev) (n := n) p
    exact ⟨a, b, c, DS_mo (fun i _ z => absurd z not_false) d⟩)
  · intro m k x hk S kk
    have cn : x.1 1 1 = nI n := by rw [S.1.I (by unfold AB; omega)]; exact hn
    simp (disch := omega) only [D_X6_goOverWithout_11, D_X6_goOverWithout_49, li0, li1, li2, li3, li4, li5, li6, li7, li8, li9, li10, li12, li24, li31, li40, li160, n_le, n_lt, n_eq, n_m1, n_add, mr4, mr6, mr7, mr10, mr40, mr160, ml4, ml6, ml7, ml10, ml40, ml160, gu_ib, nI_nat, bi_s, vl_e, gu_t, if_true, if_false, reduceIte, bt1_1, bt1_2, bt1_3, bt1_4, bt1_5, bt1_6, bt1_7, bt1_8, bt1_9, bt1_10, bt1_11, bt1_12, bt14_1, bt14_2, bt14_3, bt14_4, bt14_5, bt14_6, bt14_7, bt14_8, bt14_9, bt14_10, bt14_11, bt14_12, cn]
    rw [if_neg (by omega)]
    by_cases q : k = b
    · rw [if_pos q]
      have e1 : rF ev (fun k => decide (k ≠ b)) sp0 (k + 1) = rF ev (fun k => decide (k ≠ b)) sp0 k := by rw [rF_s, if_neg (by simp [q])]
      have e2 : nF ev (fun k => decide (k ≠ b)) sp0 (k + 1) = nF ev (fun k => decide (k ≠ b)) sp0 k := by
        show nF ev _ sp0 k + _ = _
        rw [if_neg (by simp [q])]; rfl
      rw [← e2]
      refine kk _ ?_
      rw [e1]
      exact ⟨S.1, S.2.1, Iv_mo (by omega) S.2.2.1, DS_mo (fun i _ z => by omega) S.2.2.2⟩
    · rw [if_neg q]
      refine Ok.b (cs_step hf (by decide) (by decide) G L hk (by omega) (by omega) S) fun r p => ?_
      have e1 : rF ev (fun k => decide (k ≠ b)) sp0 (k + 1) = go (rF ev (fun k => decide (k ≠ b)) sp0 k) (ev k) := by rw [rF_s, if_pos (by simp [q])]
      have S2 : CS ev n 32 μ r.2 (rF ev (fun k => decide (k ≠ b)) sp0 (k + 1)) (k + 1) (fun i => i < k + 1) := by
        rw [e1]; exact ⟨p.2.1, p.2.2.1, p.2.2.2.1, DS_mo (fun i _ z => by omega) p.2.2.2.2⟩
      have e2 : nF ev (fun k => decide (k ≠ b)) sp0 (k + 1) = nF ev (fun k => decide (k ≠ b)) sp0 k + if decide (k ≠ b) = true ∧ canB (rF ev (fun k => decide (k ≠ b)) sp0 k) (ev k) = false then 1 else 0 := rfl
      have := kk _ S2
      rw [e2] at this
      by_cases c : r.1 = true
      · rw [if_pos c]
        rw [c] at p
        rw [if_neg (by rw [← p.1]; simp)] at this; exact this
      · rw [if_neg c]
        have cf : r.1 = false := by cases z : r.1; rfl; exact absurd z c
        rw [cf] at p
        rw [if_pos ⟨by simp [q], p.1.symm⟩] at this; exact this
  · intro m x S
    have cn : x.1 1 1 = nI n := by rw [S.1.I (by unfold AB; omega)]; exact hn
    simp (disch := omega) only [D_X6_goOverWithout_11, li0, li1, li2, li3, li4, li5, li6, li7, li8, li9, li10, li12, li24, li31, li40, li160, n_le, n_lt, n_eq, n_m1, n_add, mr4, mr6, mr7, mr10, mr40, mr160, ml4, ml6, ml7, ml10, ml40, ml160, gu_ib, nI_nat, bi_s, vl_e, gu_t, if_true, if_false, reduceIte, bt1_1, bt1_2, bt1_3, bt1_4, bt1_5, bt1_6, bt1_7, bt1_8, bt1_9, bt1_10, bt1_11, bt1_12, bt14_1, bt14_2, bt14_3, bt14_4, bt14_5, bt14_6, bt14_7, bt14_8, bt14_9, bt14_10, bt14_11, bt14_12, cn]
    rw [if_pos (by omega)]
    exact Ok.s ⟨rfl, S⟩
/-- the class: by told rules -/
def ruS (s : Sp) (a b c : Nat) : Sp := uN' (uN' (uN' s 21 0 a) 21 1 b) 21 2 c
theorem c_byRules {a b c : Nat} (hf : 200 < fu) (ha : a ≤ 3) (hb' : b ≤ 3) (hc : c ≤ 3) (G : EG ev n) (L : ∀ k, k < n → LG μ k (ev k)) (hn : μ.1 1 1 = nI n) (T : ∃ t M, RC 32 μ t ∧ Iv M t) : Ok (D_X6_goOverByRules_0 fu (nI a) (nI b) (nI c) μ) (fun x => CS ev n 32 μ x (rF ev (fun k => decide (ev k 0 ≠ 3)) (ruS sp0 a b c) n) n (fun i => i < n)) := by
  obtain ⟨t0, M0, C0, H0⟩ := T
  have n160 := G.1
  unfold D_X6_goOverByRules_0
  refine Ok.b (c_clear hf (by decide) (RC_24 C0 H0)) fun x p => ?_
  refine Ok.b (c_setRules p.2) fun y q => ?_
  refine Ok.for (fun m k x => D_X6_goOverByRules_20 fu m (nI k) x) n (fun k x => CS ev n 32 μ x (rF ev (fun k => decide (ev k 0 ≠ 3)) (ruS sp0 a b c) k) k (fun i => i < k)) ?_ ?_ fu 0 y (by omega) (by omega) ⟨Fr.tr (p.1.mo fun q z => Or.inl z) (q.1.mo fun q z => Or.inl (by omega)), q.2, Iv_ru Iv_0 ha hb' hc, DS_0 _ _ _ (fun _ => rfl) (fun _ => rfl)⟩
  · intro m k x hk S kk
    have cn : x.1 1 1 = nI n := by rw [S.1.I (by unfold AB; omega)]; exact hn
    have rd : D_X2_read_0 x (nI k) 0 = some (nI (ev k 0)) := c_read (j := 0) (by omega) (by decide) (LG_F S.1 (by unfold AB; omega) (L k hk))
    have e8 := (G.2.1 k hk).k
    rw [D_X6_goOverByRules_20, cn, if_neg (show ¬ nI n ≤ nI k by rw [n_le (by omega) (by omega)]; omega), rd, bi_s]
    simp (disch := omega) only [D_X6_goOverByRules_64, li0, li1, li2, li3, li4, li5, li6, li7, li8, li9, li10, li12, li24, li31, li40, li160, n_le, n_lt, n_eq, n_m1, n_add, mr4, mr6, mr7, mr10, mr40, mr160, ml4, ml6, ml7, ml10, ml40, ml160, gu_ib, nI_nat, bi_s, vl_e, gu_t, if_true, if_false, reduceIte, bt1_1, bt1_2, bt1_3, bt1_4, bt1_5, bt1_6, bt1_7, bt1_8, bt1_9, bt1_10, bt1_11, bt1_12, bt14_1, bt14_2, bt14_3, bt14_4, bt14_5, bt14_6, bt14_7, bt14_8, bt14_9, bt14_10, bt14_11, bt14_12]
    by_cases q3 : ev k 0 = 3
    · rw [if_pos q3]
      refine kk _ ?_
      rw [rF_s, if_neg (by simp [q3])]
      exact ⟨S.1, S.2.1, Iv_mo (by omega) S.2.2.1, DS_mo (fun i _ z => by omega) S.2.2.2⟩
    · rw [if_neg q3]
      refine Ok.b (cs_step hf (by decide) (by decide) G L hk (by omega) (by omega) S) fun r p => ?_
      refine kk _ ?_
      rw [rF_s, if_pos (by simp [q3])]
      exact ⟨p.2.1, p.2.2.1, p.2.2.2.1, DS_mo (fun i _ z => by omega) p.2.2.2.2⟩
  · intro m x S
    have cn : x.1 1 1 = nI n := by rw [S.1.I (by unfold AB; omega)]; exact hn
    simp (disch := omega) only [D_X6_goOverByRules_20, li0, li1, li2, li3, li4, li5, li6, li7, li8, li9, li10, li12, li24, li31, li40, li160, n_le, n_lt, n_eq, n_m1, n_add, mr4, mr6, mr7, mr10, mr40, mr160, ml4, ml6, ml7, ml10, ml40, ml160, gu_ib, nI_nat, bi_s, vl_e, gu_t, if_true, if_false, reduceIte, bt1_1, bt1_2, bt1_3, bt1_4, bt1_5, bt1_6, bt1_7, bt1_8, bt1_9, bt1_10, bt1_11, bt1_12, bt14_1, bt14_2, bt14_3, bt14_4, bt14_5, bt14_6, bt14_7, bt14_8, bt14_9, bt14_10, bt14_11, bt14_12, cn]
    rw [if_pos (by omega)]
    exact Ok.s S
/-- the model: gone over from nothing on, filtered -/
theorem m_over (hf : 200 < fu) (G : EG ev n) (L : ∀ k, k < n → MG μ k (ev k)) (hn : μ.1 85 5 = nI n) (h48 : μ.1 85 48 = nI 0) : Ok (D_X7_goesOver_0 fu μ) (fun x => MS ev n μ x (rF ev (fun _ => true) sp0 n) n (fun i => i < n)) := by
  have n160 := G.1
  unfold D_X7_goesOver_0
  refine Ok.b (m_begins hf) fun x p => ?_
  refine Ok.for (fun m k x => D_X7_goesOver_6 fu m (nI k) x) n (fun k x => MS ev n μ x (rF ev (fun _ => true) sp0 k) k (fun i => i < k)) ?_ ?_ fu 0 x (by omega) (by omega) (by
    obtain ⟨a, b, c, d, e⟩ := ms_0 G p
    exact ⟨a, b, c, d, DS_mo (fun i _ z => absurd z not_false) e⟩)
  · intro m k x hk S kk
    have cn : x.1 85 5 = nI n := by rw [S.2.1 5 (by decide) (by decide)]; exact hn
    have c48 : x.1 85 48 = nI 0 := by rw [S.2.1 48 (by decide) (by decide)]; exact h48
    simp (disch := omega) only [D_X7_goesOver_6, li0, li1, li2, li3, li4, li5, li6, li7, li8, li9, li10, li12, li24, li31, li40, li160, n_le, n_lt, n_eq, n_m1, n_add, mr4, mr6, mr7, mr10, mr40, mr160, ml4, ml6, ml7, ml10, ml40, ml160, gu_ib, nI_nat, bi_s, vl_e, gu_t, if_true, if_false, reduceIte, bt1_1, bt1_2, bt1_3, bt1_4, bt1_5, bt1_6, bt1_7, bt1_8, bt1_9, bt1_10, bt1_11, bt1_12, bt14_1, bt14_2, bt14_3, bt14_4, bt14_5, bt14_6, bt14_7, bt14_8, bt14_9, bt14_10, bt14_11, bt14_12, cn]
    rw [if_neg (by omega)]
    refine Ok.b (ms_step hf G L hk (by omega) (by omega) (Or.inl c48) S) fun y p => ?_
    refine kk _ ?_
    rw [rF_s, if_pos rfl]
    exact ⟨p.2.1, p.2.2.1, p.2.2.2.1, p.2.2.2.2.1, DS_mo (fun i _ z => by omega) p.2.2.2.2.2⟩
  · intro m x S
    have cn : x.1 85 5 = nI n := by rw [S.2.1 5 (by decide) (by decide)]; exact hn
    simp (disch := omega) only [D_X7_goesOver_6, li0, li1, li2, li3, li4, li5, li6, li7, li8, li9, li10, li12, li24, li31, li40, li160, n_le, n_lt, n_eq, n_m1, n_add, mr4, mr6, mr7, mr10, mr40, mr160, ml4, ml6, ml7, ml10, ml40, ml160, gu_ib, nI_nat, bi_s, vl_e, gu_t, if_true, if_false, reduceIte, bt1_1, bt1_2, bt1_3, bt1_4, bt1_5, bt1_6, bt1_7, bt1_8, bt1_9, bt1_10, bt1_11, bt1_12, bt14_1, bt14_2, bt14_3, bt14_4, bt14_5, bt14_6, bt14_7, bt14_8, bt14_9, bt14_10, bt14_11, bt14_12, cn]
    rw [if_pos (by omega)]
    exact Ok.s S
theorem m_without {b : Nat} (hf : 200 < fu) (hb : b < 200) (G : EG ev n) (L : ∀ k, k < n → MG μ k (ev k)) (hn : μ.1 85 5 = nI n) (h48 : μ.1 85 48 = nI 0) : Ok (D_X7_goesWithout_0 fu (nI b) μ) (fun x => x.1 85 49 = nI (nF ev (fun k => decide (k ≠ b)) sp0 n) ∧ MS ev n μ x (rF ev (fun k => decide (k ≠ b)) sp0 n) n (fun i => i < n)) := by
  have n160 := G.1
  unfold D_X7_goesWithout_0
  refine Ok.b (m_begins hf) fun x p => ?_
  refine Ok.for (fun m k x => D_X7_goesWithout_6 fu m (nI b) (nI k) x) n (fun k x => x.1 85 49 = nI (nF ev (fun k => decide (k ≠ b)) sp0 k) ∧ MS ev n μ x (rF ev (fun k => decide (k ≠ b)) sp0 k) k (fun i => i < k)) ?_ ?_ fu 0 x (by omega) (by omega) (by
    obtain ⟨a, b, c, d, e⟩ := ms_0 G p
    exact ⟨p.2.2.1, a, b, c, d, DS_mo (fun i _ z => absurd z not_false) e⟩)
  · intro m k x hk S kk
    have cn : x.1 85 5 = nI n := by rw [S.2.2.1 5 (by decide) (by decide)]; exact hn
    have c48 : x.1 85 48 = nI 0 := by rw [S.2.2.1 48 (by decide) (by decide)]; exact h48
    simp (disch := omega) only [D_X7_goesWithout_6, D_X7_goesWithout_24, li0, li1, li2, li3, li4, li5, li6, li7, li8, li9, li10, li12, li24, li31, li40, li160, n_le, n_lt, n_eq, n_m1, n_add, mr4, mr6, mr7, mr10, mr40, mr160, ml4, ml6, ml7, ml10, ml40, ml160, gu_ib, nI_nat, bi_s, vl_e, gu_t, if_true, if_false, reduceIte, bt1_1, bt1_2, bt1_3, bt1_4, bt1_5, bt1_6, bt1_7, bt1_8, bt1_9, bt1_10, bt1_11, bt1_12, bt14_1, bt14_2, bt14_3, bt14_4, bt14_5, bt14_6, bt14_7, bt14_8, bt14_9, bt14_10, bt14_11, bt14_12, cn]
    rw [if_neg (by omega)]
    by_cases q : k = b
    · rw [if_pos q]
      refine kk _ ⟨?_, ?_⟩
      · rw [S.1]; congr 1
        show _ = nF ev _ sp0 k + _
        rw [if_neg (by simp [q])]; rfl
      · rw [rF_s, if_neg (by simp [q])]
        exact ⟨S.2.1, S.2.2.1, S.2.2.2.1, Iv_mo (by omega) S.2.2.2.2.1, DS_mo (fun i _ z => by omega) S.2.2.2.2.2⟩
    · rw [if_neg q]
      refine Ok.b (ms_step hf G L hk (by omega) (by omega) (Or.inl c48) S.2) fun y p => ?_
      refine kk _ ⟨?_, ?_⟩
      · rw [p.1, S.1, n_add]; congr 1
        show _ = nF ev _ sp0 k + _
        congr 1
        cases e : canB (rF ev (fun k => decide (k ≠ b)) sp0 k) (ev k)
        · rw [if_neg (by decide), if_pos ⟨by simp [q], rfl⟩]
        · rw [if_pos rfl, if_neg (by simp)]
      · rw [rF_s, if_pos (by simp [q])]
        exact ⟨p.2.1, p.2.2.1, p.2.2.2.1, p.2.2.2.2.1, DS_mo (fun i _ z => by omega) p.2.2.2.2.2⟩
  · intro m x S
    have cn : x.1 85 5 = nI n := by rw [S.2.2.1 5 (by decide) (by decide)]; exact hn
    simp (disch := omega) only [D_X7_goesWithout_6, li0, li1, li2, li3, li4, li5, li6, li7, li8, li9, li10, li12, li24, li31, li40, li160, n_le, n_lt, n_eq, n_m1, n_add, mr4, mr6, mr7, mr10, mr40, mr160, ml4, ml6, ml7, ml10, ml40, ml160, gu_ib, nI_nat, bi_s, vl_e, gu_t, if_true, if_false, reduceIte, bt1_1, bt1_2, bt1_3, bt1_4, bt1_5, bt1_6, bt1_7, bt1_8, bt1_9, bt1_10, bt1_11, bt1_12, bt14_1, bt14_2, bt14_3, bt14_4, bt14_5, bt14_6, bt14_7, bt14_8, bt14_9, bt14_10, bt14_11, bt14_12, cn]
    rw [if_pos (by omega)]
    exact Ok.s S
end
