/-! questions that go over: spared -/
section
variable {fu n N M b : Nat} {ev : Nat → Ev} {μ m : Mem} {s t : Sp} {P : Nat → Prop}
theorem doe_sd {s : Sp} {e : Ev} (E : EvOK e) (i : Nat) : sd (doe s e) i = if e 0 = 6 ∧ i = e 1 then 1 else if e 0 = 7 ∧ i = e 1 then 2 else sd s i := by
  rcases ev_cases E with h | h | h | h | h | h | h | h | h
  · rw [doe_0 s h, if_neg (by omega), if_neg (by omega)]; rfl
  · rw [doe_1 s h, if_neg (by omega), if_neg (by omega)]; simp [sd, uN']
  · rw [doe_2 s h, if_neg (by omega), if_neg (by omega)]; simp [sd, uN']
  · rw [doe_3 s h, if_neg (by omega), if_neg (by omega)]; simp [sd, uN']
  · rw [doe_4 s h, if_neg (by omega), if_neg (by omega)]
    show (hmS s (e 1) (e 2) (e 3) (e 4) (e 5 : Int)).1 19 i = _
    rw [hm_1 s _ _ _ _ _ (by decide)]
  · rw [doe_5 s h, if_neg (by omega), if_neg (by omega)]
    show (grS s (e 1) (e 2 : Int)).1 19 i = _
    rw [gr_1 s _ _ (by decide)]
  · rw [doe_6 s h]
    by_cases q : i = e 1
    · rw [if_pos ⟨h, q⟩, q]; simp [sd, uN']
    · rw [if_neg (fun z => q z.2), if_neg (fun z => q z.2)]; simp [sd, uN', q]
  · rw [doe_7 s h, if_neg (by omega)]
    by_cases q : i = e 1
    · rw [if_pos ⟨h, q⟩, q]; simp [sd, uN']
    · rw [if_neg (fun z => q z.2)]; simp [sd, uN', q]
  · rw [doe_8 s h, if_neg (by omega), if_neg (by omega)]; rfl
/-- who is settled: exactly one event says so -/
theorem run_sd {i : Nat} (G : EG ev n) (V : LV ev n) : ∀ k, k ≤ n → (sd (run ev k) i = 1 → ∃ j, j < k ∧ ev j 0 = 6 ∧ ev j 1 = i ∧ ∀ j', j' < k → ev j' 0 = 6 → ev j' 1 = i → j' = j) ∧ (sd (run ev k) i ≠ 1 → ∀ j, j < k → ¬ (ev j 0 = 6 ∧ ev j 1 = i))
  | 0, _ => ⟨fun z => absurd z n01, fun _ j h => absurd h (Nat.not_lt_zero j)⟩
  | k + 1, hk => by
    obtain ⟨a, b⟩ := run_sd (i := i) G V k (by omega)
    have v1 := (V k (by omega)).1
    have E := G.2.1 k (by omega)
    have d := doe_sd (s := run ev k) E i
    rw [run_s, go_y v1, d]
    by_cases c6 : ev k 0 = 6 ∧ i = ev k 1
    · rw [if_pos c6]
      have z0 := (can_6 (Or.inl c6.1)).mp v1
      rw [← c6.2] at z0
      have b' := b (by omega)
      refine ⟨fun _ => ⟨k, by omega, c6.1, c6.2.symm, fun j' h1 h2 h3 => ?_⟩, fun z => absurd rfl z⟩
      by_cases e : j' = k
      · exact e
      · exact absurd ⟨h2, h3⟩ (b' j' (by omega))
    · rw [if_neg c6]
      by_cases c7 : ev k 0 = 7 ∧ i = ev k 1
      · rw [if_pos c7]
        have z0 := (can_6 (Or.inr c7.1)).mp v1
        rw [← c7.2] at z0
        have b' := b (by omega)
        refine ⟨fun z => absurd z (by decide), fun _ j hj z => ?_⟩
        by_cases e : j = k
        · rw [e] at z; exact c6 ⟨z.1, z.2.symm⟩
        · exact b' j (by omega) z
      · rw [if_neg c7]
        refine ⟨fun z => ?_, fun z j hj w => ?_⟩
        · obtain ⟨j, h1, h2, h3, h4⟩ := a z
          refine ⟨j, by omega, h2, h3, fun j' g1 g2 g3 => ?_⟩
          by_cases e : j' = k
          · rw [e] at g2 g3; exact absurd ⟨g2, g3.symm⟩ c6
          · exact h4 j' (by omega) g2 g3
        · by_cases e : j = k
          · rw [e] at w; exact c6 ⟨w.1, w.2.symm⟩
          · exact b z j (by omega) w
end
