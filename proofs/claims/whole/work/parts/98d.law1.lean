/-! calls in the law -/
section
variable {fu n c : Nat} {ev : Nat → Ev} {μ : Mem}
theorem l_damage (hf : 200 < fu) (I : IX ev n c μ) (a1 a2 : Int32) : LQ c (D_L_damage_0 a1 a2 μ) (D_X7_damage_0 fu a1 a2) id := by
  refine q_step I (q_damage hf I.1 I.2.1 I.2.2.1 a1 a2) (fun v x h => ?_) fun j x hj hk h => ?_
  · unfold D_L_damage_0; rw [h]; rfl
  · unfold D_L_damage_0; rw [h]
    rcases (show j = 0 ∨ j = 1 ∨ j = 2 by omega) with rfl | rfl | rfl
    · rfl
    · rfl
    · exact absurd rfl hk
end
