/-! calls in the law -/
section
variable {fu n c : Nat} {ev : Nat → Ev} {μ : Mem}
theorem lq_lack (hf : 200 < fu) (I : IX ev n c μ) (a1 : Int32) : LQ c (D_L_lack_0 fu a1 μ) (D_X7_lack_0 fu a1) (fun v : Int32 => v.toInt64) := by
  refine w_step I (w_lack hf I.1 I.2.1 I.2.2.1 a1) (fun v x h => ?_) fun j x hj hk h => ?_
  · unfold D_L_lack_0; rw [h]; rfl
  · unfold D_L_lack_0; rw [h]
    rcases (show j = 0 ∨ j = 1 ∨ j = 2 by omega) with rfl | rfl | rfl
    · exact absurd rfl hk
    · rfl
    · rfl
theorem lq_rules (hf : 200 < fu) (I : IX ev n c μ) (a1 a2 a3 : Int32) : LQ c (D_L_rules_0 fu a1 a2 a3 μ) (D_X7_rules_0 fu a1 a2 a3) (fun v : Int32 => v.toInt64) := by
  refine w_step I (w_rules hf I.1 I.2.1 I.2.2.1 a1 a2 a3) (fun v x h => ?_) fun j x hj hk h => ?_
  · unfold D_L_rules_0; rw [h]; rfl
  · unfold D_L_rules_0; rw [h]
    rcases (show j = 0 ∨ j = 1 ∨ j = 2 by omega) with rfl | rfl | rfl
    · exact absurd rfl hk
    · rfl
    · rfl
theorem lq_settle (hf : 200 < fu) (I : IX ev n c μ) (a1 a2 : Int32) : LQ c (D_L_settle_0 fu a1 a2 μ) (D_X7_settle_0 fu a1 a2) (fun v : Int32 => v.toInt64) := by
  refine w_step I (w_settle hf I.1 I.2.1 I.2.2.1 a1 a2) (fun v x h => ?_) fun j x hj hk h => ?_
  · unfold D_L_settle_0; rw [h]; rfl
  · unfold D_L_settle_0; rw [h]
    rcases (show j = 0 ∨ j = 1 ∨ j = 2 by omega) with rfl | rfl | rfl
    · exact absurd rfl hk
    · rfl
    · rfl
theorem lq_fall (hf : 200 < fu) (I : IX ev n c μ) (a1 : Int32) : LQ c (D_L_fall_0 fu a1 μ) (D_X7_fall_0 fu a1) (fun v : Int32 => v.toInt64) := by
  refine w_step I (w_fall hf I.1 I.2.1 I.2.2.1 a1) (fun v x h => ?_) fun j x hj hk h => ?_
  · unfold D_L_fall_0; rw [h]; rfl
  · unfold D_L_fall_0; rw [h]
    rcases (show j = 0 ∨ j = 1 ∨ j = 2 by omega) with rfl | rfl | rfl
    · exact absurd rfl hk
    · rfl
    · rfl
theorem lq_grow (hf : 200 < fu) (I : IX ev n c μ) (a1 a2 : Int32) : LQ c (D_L_grow_0 fu a1 a2 μ) (D_X7_grow_0 fu a1 a2) id := by
  refine w_step I (w_grow hf I.1 I.2.1 I.2.2.1 a1 a2) (fun v x h => ?_) fun j x hj hk h => ?_
  · unfold D_L_grow_0; rw [h]; rfl
  · unfold D_L_grow_0; rw [h]
    rcases (show j = 0 ∨ j = 1 ∨ j = 2 by omega) with rfl | rfl | rfl
    · rfl
    · rfl
    · rfl
theorem lq_reopen (hf : 200 < fu) (I : IX ev n c μ) (a1 : Int32) : LQ c (D_L_reopen_0 fu a1 μ) (D_X7_reopen_0 fu a1) id := by
  refine w_step I (w_reopen hf I.1 I.2.1 I.2.2.1 a1) (fun v x h => ?_) fun j x hj hk h => ?_
  · unfold D_L_reopen_0; rw [h]; rfl
  · unfold D_L_reopen_0; rw [h]
    rcases (show j = 0 ∨ j = 1 ∨ j = 2 by omega) with rfl | rfl | rfl
    · rfl
    · exact absurd rfl hk
    · rfl
theorem lq_place (hf : 200 < fu) (I : IX ev n c μ) (a1 a2 a3 a4 : Int32) : LQ c (D_L_place_0 fu a1 a2 a3 a4 μ) (D_X7_place_0 fu a1 a2 a3 a4) (fun v : Int32 => v.toInt64) := by
  refine w_step I (w_place hf I.1 I.2.1 I.2.2.1 a1 a2 a3 a4) (fun v x h => ?_) fun j x hj hk h => ?_
  · unfold D_L_place_0; rw [h]; rfl
  · unfold D_L_place_0; rw [h]
    rcases (show j = 0 ∨ j = 1 ∨ j = 2 by omega) with rfl | rfl | rfl
    · exact absurd rfl hk
    · rfl
    · rfl
theorem lq_sign (hf : 200 < fu) (I : IX ev n c μ) (a1 a2 a3 : Int32) : LQ c (D_L_sign_0 fu a1 a2 a3 μ) (D_X7_sign_0 fu a1 a2 a3) (fun v : Int32 => v.toInt64) := by
  refine w_step I (w_sign hf I.1 I.2.1 I.2.2.1 a1 a2 a3) (fun v x h => ?_) fun j x hj hk h => ?_
  · unfold D_L_sign_0; rw [h]; rfl
  · unfold D_L_sign_0; rw [h]
    rcases (show j = 0 ∨ j = 1 ∨ j = 2 by omega) with rfl | rfl | rfl
    · rfl
    · rfl
    · rfl
theorem lq_harm (hf : 200 < fu) (I : IX ev n c μ) (a1 a2 a3 a4 : Int32) : LQ c (D_L_harm_0 fu a1 a2 a3 a4 μ) (D_X7_harm_0 fu a1 a2 a3 a4) (fun v : Int32 => v.toInt64) := by
  refine w_step I (w_harm hf I.1 I.2.1 I.2.2.1 a1 a2 a3 a4) (fun v x h => ?_) fun j x hj hk h => ?_
  · unfold D_L_harm_0; rw [h]; rfl
  · unfold D_L_harm_0; rw [h]
    rcases (show j = 0 ∨ j = 1 ∨ j = 2 by omega) with rfl | rfl | rfl
    · exact absurd rfl hk
    · rfl
    · rfl
end
