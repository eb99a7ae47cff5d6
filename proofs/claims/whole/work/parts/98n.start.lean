/-! the first memory -/
theorem m0_1 (q j : Nat) : m0.1 q j = if q = 34 then (if j < 40 then -1 else 0) else if q = 5 then (if j < 40 then -1 else 0) else 0 := by
  show (if q = 34 then (fun j => if j < 40 then (-1 : Int32) else (if 34 = 5 then (fun j => if j < 40 then (-1 : Int32) else 0) else fun _ => 0) j) else if q = 5 then (fun j => if j < 40 then (-1 : Int32) else 0) else fun _ => 0) j = _
  by_cases a : q = 34
  · rw [if_pos a, if_pos a]; rfl
  · rw [if_neg a, if_neg a]
    by_cases b : q = 5
    · rw [if_pos b, if_pos b]
    · rw [if_neg b, if_neg b]
theorem m0_z {q : Nat} (h1 : q ≠ 34) (h2 : q ≠ 5) (j : Nat) : m0.1 q j = nI 0 := by rw [m0_1, if_neg h1, if_neg h2]; rfl
theorem m0_2 (q j : Nat) : m0.2.1 q j = zL 0 := rfl
theorem RC_0 {b : Nat} (hb : b = 3 ∨ b = 32) : RC b m0 sp0 := by
  have n1 : ∀ {P : Prop}, (0 : Nat) = 1 → P := fun h => absurd h (by decide)
  refine ⟨⟨fun l hl _ => ?_, fun l _ h => n1 h, fun l _ h => n1 h, fun l _ h => n1 h, fun l _ h => n1 h, fun l _ h => n1 h, fun l _ h => n1 h, fun l k _ h => n1 h, fun l k _ h => n1 h, fun y _ => ?_, fun y k _ h => absurd h (Nat.not_lt_zero k), ?_, ?_⟩, ⟨fun h _ => ?_, fun h _ z => n1 z, fun h _ z => n1 z, fun h _ z => n1 z, fun h _ z => n1 z, ?_, fun i _ => ?_, fun i _ => ?_, ?_, ?_, ?_⟩, ⟨fun l _ h => n1 h, fun l k _ h => n1 h, fun h _ z => n1 z, fun h l _ _ _ => ?_, fun h l _ _ _ => ?_, fun h l _ z => n1 z, fun h j _ z => n1 z, fun h i _ z => n1 z, fun h _ z => n1 z, fun h r _ z => n1 z⟩⟩
  · rcases hb with z | z
    · subst z; rw [m0_1, if_neg (by omega), if_pos rfl, if_pos hl]
    · subst z; rw [m0_1, if_pos rfl, if_pos hl]
  all_goals first | exact m0_z (by omega) (by omega) _ | exact m0_2 _ _
theorem RM_0 : RM m0 sp0 := by
  have n1 : ∀ {P : Prop}, (0 : Nat) = 1 → P := fun h => absurd h (by decide)
  refine ⟨⟨fun l hl => ?_, fun l hl => ?_, fun l _ h => n1 h, fun l _ h => n1 h, fun l _ h => n1 h, fun l _ h => n1 h, fun l _ h => n1 h, fun l k _ h => absurd h (Nat.not_lt_zero k), fun l k _ h => absurd h (Nat.not_lt_zero k), fun y _ => ?_, fun y k _ h => absurd h (Nat.not_lt_zero k), ?_⟩, ⟨fun h _ => ?_, fun h _ z => n1 z, fun h _ z => n1 z, fun h _ z => n1 z, fun h _ => ?_, fun i _ => ?_, fun i _ => ?_, ?_, ?_, ?_⟩, ⟨fun l _ => ?_, fun h _ => ?_, fun j _ => ?_, fun j _ => ?_, fun j _ => ?_, fun j _ => ?_, fun j _ => ?_, fun j _ => ?_⟩⟩
  all_goals first | exact m0_z (by decide) (by decide) _ | exact m0_2 _ _
theorem IX_0 : IX (fun _ _ => 0) 0 0 m0 := by
  refine ⟨⟨by decide, fun k h => absurd h (Nat.not_lt_zero k), fun i j h => absurd h (Nat.not_lt_zero i)⟩, fun k h => absurd h (Nat.not_lt_zero k), ⟨fun k h => absurd h (Nat.not_lt_zero k), m0_z (by decide) (by decide) _, RC_0 (Or.inl rfl), sp0, 0, RC_0 (Or.inr rfl), Iv_0⟩, ⟨fun k h => absurd h (Nat.not_lt_zero k), m0_z (by decide) (by decide) _, RM_0, m0_z (by decide) (by decide) _⟩, fun j _ => (m0_z (by decide) (by decide) _).trans (m0_z (by decide) (by decide) _).symm, ?_, ?_⟩
  · rw [m0_c]; decide
  · rw [m0_c]; decide
theorem law_true : LawTrue := fun G hG hn => by
  obtain ⟨⟨v, μ'⟩, e, h1, h2, h3⟩ := ok_eq (law_loop (fu := 1000) hn (by decide) 1000 0 _ 0 m0 IX_0 (by omega) (by omega))
  have h1' : v = true := h1
  subst h1'
  exact ⟨μ', T_L_law_23 G 1000 hG 1000 0 m0 (true, μ') e, h2, h3⟩
