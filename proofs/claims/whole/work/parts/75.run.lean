/-! the run of all told events: what is there -/
noncomputable abbrev run (ev : Nat → Ev) (n : Nat) : Sp := rF ev (fun _ => true) sp0 n
theorem run_s (ev : Nat → Ev) (k : Nat) : run ev (k + 1) = go (run ev k) (ev k) := by rw [run, rF_s, if_pos rfl]
/-- each told event could be done when it was told, numbers are given in order -/
def LV (ev : Nat → Ev) (n : Nat) : Prop := ∀ k, k < n → can (run ev k) (ev k) ∧ (ev k 0 = 0 → ev k 1 = cL (run ev k)) ∧ (ev k 0 = 4 → ev k 1 = cH (run ev k))
theorem rF_Iv {ev : Nat → Ev} {n : Nat} {f : Nat → Bool} {s0 : Sp} (G : EG ev n) (H0 : Iv 0 s0) (h1 : ∀ l, isL s0 l = 0) (h2 : ∀ h, isH s0 h = 0) : ∀ k, k ≤ n → Iv k (rF ev f s0 k) ∧ DS ev n (fun i => i < k) (rF ev f s0 k)
  | 0, _ => ⟨H0, DS_0 _ _ _ h1 h2⟩
  | k + 1, hk => by
    have n160 := G.1
    obtain ⟨H, D⟩ := rF_Iv (f := f) G H0 h1 h2 k (by omega)
    rw [rF_s]
    by_cases q : f k = true
    · rw [if_pos q]
      exact ⟨Iv_go H (G.2.1 k (by omega)) (DS_f G (by omega) (by omega) D H), DS_mo (fun i _ z => by omega) (DS_go (G.2.1 k (by omega)) (by omega) D)⟩
    · rw [if_neg q]
      exact ⟨Iv_mo (by omega) H, DS_mo (fun i _ z => by omega) D⟩
theorem run_Iv {ev : Nat → Ev} {n : Nat} (G : EG ev n) : Iv n (run ev n) := (rF_Iv G Iv_0 (fun _ => rfl) (fun _ => rfl) n (Nat.le_refl _)).1
theorem doe_cL {s : Sp} {e : Ev} (E : EvOK e) : cL (doe s e) = if e 0 = 0 then max (cL s) (e 1 + 1) else cL s := by
  rcases ev_cases E with h | h | h | h | h | h | h | h | h
  · rw [doe_0 s h, pt_cL, if_pos h]
  · rw [doe_1 s h, if_neg (by omega)]; simp [cL, uN']
  · rw [doe_2 s h, if_neg (by omega)]; simp [cL, uN']
  · rw [doe_3 s h, if_neg (by omega)]; simp [cL, uN']
  · rw [doe_4 s h, if_neg (by omega)]
    show (hmS s (e 1) (e 2) (e 3) (e 4) (e 5 : Int)).1 12 0 = _
    rw [hm_1 s _ _ _ _ _ (by decide)]
  · rw [doe_5 s h, if_neg (by omega)]
    show (grS s (e 1) (e 2 : Int)).1 12 0 = _
    rw [gr_1 s _ _ (by decide)]
  · rw [doe_6 s h, if_neg (by omega)]; simp [cL, uN']
  · rw [doe_7 s h, if_neg (by omega)]; simp [cL, uN']
  · rw [doe_8 s h, if_neg (by omega)]; rfl
theorem doe_cH {s : Sp} {e : Ev} (E : EvOK e) : cH (doe s e) = if e 0 = 4 then max (cH s) (e 1 + 1) else cH s := by
  rcases ev_cases E with h | h | h | h | h | h | h | h | h
  · rw [doe_0 s h, if_neg (by omega)]; rfl
  · rw [doe_1 s h, if_neg (by omega)]; simp [cH, uN']
  · rw [doe_2 s h, if_neg (by omega)]; simp [cH, uN']
  · rw [doe_3 s h, if_neg (by omega)]; simp [cH, uN']
  · rw [doe_4 s h, if_pos h]
    show cH (hmS s (e 1) (e 2) (e 3) (e 4) (e 5 : Int)) = _
    rw [hm_cH]
  · rw [doe_5 s h, if_neg (by omega)]
    show (grS s (e 1) (e 2 : Int)).1 18 0 = _
    rw [gr_1 s _ _ (by decide)]
  · rw [doe_6 s h, if_neg (by omega)]; simp [cH, uN']
  · rw [doe_7 s h, if_neg (by omega)]; simp [cH, uN']
  · rw [doe_8 s h, if_neg (by omega)]; rfl
/-- how many events of a kind there are -/
def nE (ev : Nat → Ev) (c : Nat) : Nat → Nat
  | 0 => 0
  | k + 1 => nE ev c k + if ev k 0 = c then 1 else 0
/-- what the counts say -/
def CT (s : Sp) : Prop := (∀ l, l < 40 → (isL s l = 1 ↔ l < cL s)) ∧ (∀ h, h < 24 → (isH s h = 1 ↔ h < cH s)) ∧ cL s ≤ 40 ∧ cH s ≤ 24
theorem run_CT {ev : Nat → Ev} {n : Nat} (G : EG ev n) (V : LV ev n) : ∀ k, k ≤ n → CT (run ev k) ∧ cL (run ev k) = nE ev 0 k ∧ cH (run ev k) = nE ev 4 k
  | 0, _ => ⟨⟨fun l _ => ⟨fun z => absurd z n01, fun z => absurd z (Nat.not_lt_zero _)⟩, fun l _ => ⟨fun z => absurd z n01, fun z => absurd z (Nat.not_lt_zero _)⟩, Nat.zero_le _, Nat.zero_le _⟩, rfl, rfl⟩
  | k + 1, hk => by
    obtain ⟨⟨a, b, c, d⟩, e, f⟩ := run_CT G V k (by omega)
    obtain ⟨v1, v2, v3⟩ := V k (by omega)
    have E := G.2.1 k (by omega)
    have w0 := E.k0
    have w4 := E.k4
    have iL := fun l => doe_isL (s := run ev k) E l
    have iH := fun l => doe_isH (s := run ev k) E l
    have jL := doe_cL (s := run ev k) E
    have jH := doe_cH (s := run ev k) E
    rw [run_s, go_y v1]
    show CT (doe (run ev k) (ev k)) ∧ _ = nE ev 0 k + _ ∧ _ = nE ev 4 k + _
    generalize doe (run ev k) (ev k) = t at *
    generalize run ev k = s at *
    rw [← e, ← f, jL, jH]
    unfold CT
    rw [jL, jH]
    refine ⟨⟨fun l hl => ?_, fun h hh => ?_, ?_, ?_⟩, ?_, ?_⟩
    · rw [iL]
      have := a l hl
      by_cases q : ev k 0 = 0
      · have := v2 q
        by_cases q2 : l = ev k 1
        · rw [if_pos ⟨q, q2⟩, if_pos q]; exact ⟨fun _ => by omega, fun _ => rfl⟩
        · rw [if_neg (fun z => q2 z.2), if_pos q, this]; omega
      · rw [if_neg (fun z => q z.1), if_neg q, this]
    · rw [iH]
      have := b h hh
      by_cases q : ev k 0 = 4
      · have := v3 q
        by_cases q2 : h = ev k 1
        · rw [if_pos ⟨q, q2⟩, if_pos q]; exact ⟨fun _ => by omega, fun _ => rfl⟩
        · rw [if_neg (fun z => q2 z.2), if_pos q, this]; omega
      · rw [if_neg (fun z => q z.1), if_neg q, this]
    · split
      · have := w0 ‹_›; omega
      · exact c
    · split
      · have := w4 ‹_›; omega
      · exact d
    · by_cases q : ev k 0 = 0
      · have := v2 q; rw [if_pos q, if_pos q]; omega
      · rw [if_neg q, if_neg q]; rfl
    · by_cases q : ev k 0 = 4
      · have := v3 q; rw [if_pos q, if_pos q]; omega
      · rw [if_neg q, if_neg q]; rfl
