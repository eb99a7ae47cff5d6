/-! calls in the law -/
section
variable {fu n c : Nat} {ev : Nat → Ev} {μ : Mem}
theorem lq_damage (hf : 200 < fu) (I : IX ev n c μ) (a1 a2 : Int32) : LQ c (D_L_damage_0 a1 a2 μ) (D_X7_damage_0 fu a1 a2) id := by
  refine q_step I (q_damage hf I.1 I.2.1 I.2.2.1 a1 a2) (fun v x h => ?_) fun j x hj hk h => ?_
  · unfold D_L_damage_0; rw [h]; rfl
  · unfold D_L_damage_0; rw [h]
    rcases (show j = 0 ∨ j = 1 ∨ j = 2 by omega) with rfl | rfl | rfl
    · rfl
    · rfl
    · exact absurd rfl hk
theorem lq_bears (hf : 200 < fu) (I : IX ev n c μ) (a1 a2 : Int32) : LQ c (D_L_bears_0 a1 a2 μ) (D_X7_bears_0 fu a1 a2) id := by
  refine q_step I (q_bears hf I.1 I.2.1 I.2.2.1 a1 a2) (fun v x h => ?_) fun j x hj hk h => ?_
  · unfold D_L_bears_0; rw [h]; rfl
  · unfold D_L_bears_0; rw [h]
    rcases (show j = 0 ∨ j = 1 ∨ j = 2 by omega) with rfl | rfl | rfl
    · rfl
    · rfl
    · exact absurd rfl hk
theorem lq_falls (hf : 200 < fu) (I : IX ev n c μ) (a1 a2 : Int32) : LQ c (D_L_falls_0 a1 a2 μ) (D_X7_falls_0 a1 a2) id := by
  refine q_step I (q_falls hf I.1 I.2.1 I.2.2.1 a1 a2) (fun v x h => ?_) fun j x hj hk h => ?_
  · unfold D_L_falls_0; rw [h]; rfl
  · unfold D_L_falls_0; rw [h]
    rcases (show j = 0 ∨ j = 1 ∨ j = 2 by omega) with rfl | rfl | rfl
    · rfl
    · rfl
    · exact absurd rfl hk
theorem lq_took (hf : 200 < fu) (I : IX ev n c μ) (a1 a2 : Int32) : LQ c (D_L_took_0 a1 a2 μ) (D_X7_took_0 a1 a2) id := by
  refine q_step I (q_took I.1 I.2.1 I.2.2.1 a1 a2) (fun v x h => ?_) fun j x hj hk h => ?_
  · unfold D_L_took_0; rw [h]; rfl
  · unfold D_L_took_0; rw [h]
    rcases (show j = 0 ∨ j = 1 ∨ j = 2 by omega) with rfl | rfl | rfl
    · rfl
    · exact absurd rfl hk
    · exact absurd rfl hk
theorem lq_hole (hf : 200 < fu) (I : IX ev n c μ) (a1 a2 : Int32) : LQ c (D_L_hole_0 a1 a2 μ) (D_X7_hole_0 a1 a2) id := by
  refine q_step I (q_hole I.1 I.2.1 I.2.2.1 a1 a2) (fun v x h => ?_) fun j x hj hk h => ?_
  · unfold D_L_hole_0; rw [h]; rfl
  · unfold D_L_hole_0; rw [h]
    rcases (show j = 0 ∨ j = 1 ∨ j = 2 by omega) with rfl | rfl | rfl
    · rfl
    · exact absurd rfl hk
    · exact absurd rfl hk
theorem lq_moved (hf : 200 < fu) (I : IX ev n c μ) (a1 a2 : Int32) : LQ c (D_L_moved_0 a1 a2 μ) (D_X7_moved_0 a1 a2) id := by
  refine q_step I (q_moved I.1 I.2.1 I.2.2.1 a1 a2) (fun v x h => ?_) fun j x hj hk h => ?_
  · unfold D_L_moved_0; rw [h]; rfl
  · unfold D_L_moved_0; rw [h]
    rcases (show j = 0 ∨ j = 1 ∨ j = 2 by omega) with rfl | rfl | rfl
    · rfl
    · exact absurd rfl hk
    · exact absurd rfl hk
theorem lq_event (hf : 200 < fu) (I : IX ev n c μ) (a1 a2 : Int32) : LQ c (D_L_event_0 a1 a2 μ) (D_X7_event_0 a1 a2) (fun v : Int32 => v.toInt64) := by
  refine q_step I (q_event I.1 I.2.2.1 a1 a2) (fun v x h => ?_) fun j x hj hk h => ?_
  · unfold D_L_event_0; rw [h]; rfl
  · unfold D_L_event_0; rw [h]
    rcases (show j = 0 ∨ j = 1 ∨ j = 2 by omega) with rfl | rfl | rfl
    · rfl
    · rfl
    · exact absurd rfl hk
theorem lq_layer (hf : 200 < fu) (I : IX ev n c μ) (a1 a2 : Int32) : LQ c (D_L_layer_0 fu a1 a2 μ) (D_X7_layer_0 fu a1 a2) id := by
  refine q_step I (q_layer hf I.1 I.2.1 I.2.2.1 a1 a2) (fun v x h => ?_) fun j x hj hk h => ?_
  · unfold D_L_layer_0; rw [h]; rfl
  · unfold D_L_layer_0; rw [h]
    rcases (show j = 0 ∨ j = 1 ∨ j = 2 by omega) with rfl | rfl | rfl
    · rfl
    · rfl
    · exact absurd rfl hk
theorem lq_signed (hf : 200 < fu) (I : IX ev n c μ) (a1 a2 a3 : Int32) : LQ c (D_L_signed_0 a1 a2 a3 μ) (D_X7_signed_0 fu a1 a2 a3) id := by
  refine q_step I (q_signed hf I.1 I.2.1 I.2.2.1 a1 a2 a3) (fun v x h => ?_) fun j x hj hk h => ?_
  · unfold D_L_signed_0; rw [h]; rfl
  · unfold D_L_signed_0; rw [h]
    rcases (show j = 0 ∨ j = 1 ∨ j = 2 by omega) with rfl | rfl | rfl
    · rfl
    · rfl
    · exact absurd rfl hk
theorem lq_rung (hf : 200 < fu) (I : IX ev n c μ) (a1 a2 : Int32) : LQ c (D_L_rung_0 a1 a2 μ) (D_X7_rung_0 a1 a2) (fun v : Int32 => v.toInt64) := by
  refine q_step I (q_rung I.1 I.2.2.1 a1 a2) (fun v x h => ?_) fun j x hj hk h => ?_
  · unfold D_L_rung_0; rw [h]; rfl
  · unfold D_L_rung_0; rw [h]
    rcases (show j = 0 ∨ j = 1 ∨ j = 2 by omega) with rfl | rfl | rfl
    · exact absurd rfl hk
    · rfl
    · exact absurd rfl hk
theorem lq_burden (hf : 200 < fu) (I : IX ev n c μ) (a1 : Int32) : LQ c (D_L_burden_0 fu a1 μ) (D_X7_burden_0 fu a1) id := by
  refine q_step I (q_burden hf I.1 I.2.2.1 a1) (fun v x h => ?_) fun j x hj hk h => ?_
  · unfold D_L_burden_0; rw [h]; rfl
  · unfold D_L_burden_0; rw [h]
    rcases (show j = 0 ∨ j = 1 ∨ j = 2 by omega) with rfl | rfl | rfl
    · exact absurd rfl hk
    · rfl
    · exact absurd rfl hk
theorem lq_year (hf : 200 < fu) (I : IX ev n c μ) (a1 a2 : Int32) : LQ c (D_L_year_0 fu a1 a2 μ) (D_X7_year_0 fu a1 a2) id := by
  refine q_step I (q_year hf I.1 I.2.2.1 a1 a2) (fun v x h => ?_) fun j x hj hk h => ?_
  · unfold D_L_year_0; rw [h]; rfl
  · unfold D_L_year_0; rw [h]
    rcases (show j = 0 ∨ j = 1 ∨ j = 2 by omega) with rfl | rfl | rfl
    · exact absurd rfl hk
    · rfl
    · exact absurd rfl hk
theorem lq_at (hf : 200 < fu) (I : IX ev n c μ) (a1 a2 : Int32) : LQ c (D_L_at_0 fu a1 a2 μ) (D_X7_at_0 fu a1 a2) (fun v : Int32 => v.toInt64) := by
  refine q_step I (q_at hf I.1 I.2.2.1 a1 a2) (fun v x h => ?_) fun j x hj hk h => ?_
  · unfold D_L_at_0; rw [h]; rfl
  · unfold D_L_at_0; rw [h]
    rcases (show j = 0 ∨ j = 1 ∨ j = 2 by omega) with rfl | rfl | rfl
    · exact absurd rfl hk
    · rfl
    · exact absurd rfl hk
theorem lq_insurer (hf : 200 < fu) (I : IX ev n c μ) (a1 a2 : Int32) : LQ c (D_L_insurer_0 fu a1 a2 μ) (D_X7_insurer_0 fu a1 a2) id := by
  refine q_step I (q_insurer hf I.1 I.2.1 I.2.2.1 a1 a2) (fun v x h => ?_) fun j x hj hk h => ?_
  · unfold D_L_insurer_0; rw [h]; rfl
  · unfold D_L_insurer_0; rw [h]
    rcases (show j = 0 ∨ j = 1 ∨ j = 2 by omega) with rfl | rfl | rfl
    · exact absurd rfl hk
    · rfl
    · exact absurd rfl hk
theorem lq_rank (hf : 200 < fu) (I : IX ev n c μ) (a1 : Int32) : LQ c (D_L_rank_0 fu a1 μ) (D_X7_rank_0 fu a1) (fun v : Int32 => v.toInt64) := by
  refine q_step I (q_rank hf I.1 I.2.2.1 a1) (fun v x h => ?_) fun j x hj hk h => ?_
  · unfold D_L_rank_0; rw [h]; rfl
  · unfold D_L_rank_0; rw [h]
    rcases (show j = 0 ∨ j = 1 ∨ j = 2 by omega) with rfl | rfl | rfl
    · exact absurd rfl hk
    · rfl
    · exact absurd rfl hk
theorem lq_told (hf : 200 < fu) (I : IX ev n c μ) (a1 : Int32) : LQ c (D_L_told_0 fu a1 μ) (D_X7_told_0 fu a1) (fun v : Int32 => v.toInt64) := by
  refine q_step I (q_told hf I.1 I.2.1 I.2.2.1 a1) (fun v x h => ?_) fun j x hj hk h => ?_
  · unfold D_L_told_0; rw [h]; rfl
  · unfold D_L_told_0; rw [h]
    rcases (show j = 0 ∨ j = 1 ∨ j = 2 by omega) with rfl | rfl | rfl
    · exact absurd rfl hk
    · rfl
    · exact absurd rfl hk
theorem lq_offs (hf : 200 < fu) (I : IX ev n c μ) (a1 a2 a3 a4 : Int32) : LQ c (D_L_offs_0 fu a1 a2 a3 a4 μ) (D_X7_offs_0 fu a1 a2 a3 a4) (fun v : Int32 => v.toInt64) := by
  refine q_step I (q_offs hf I.2.2.1 a1 a2 a3 a4) (fun v x h => ?_) fun j x hj hk h => ?_
  · unfold D_L_offs_0; rw [h]; rfl
  · unfold D_L_offs_0; rw [h]
    rcases (show j = 0 ∨ j = 1 ∨ j = 2 by omega) with rfl | rfl | rfl
    · exact absurd rfl hk
    · rfl
    · exact absurd rfl hk
theorem lq_widest (hf : 200 < fu) (I : IX ev n c μ) (a1 a2 : Int32) : LQ c (D_L_widest_0 fu a1 a2 μ) (D_X7_widest_0 fu a1 a2) (fun v : Int32 => v.toInt64) := by
  refine q_step I (q_widest hf I.1 I.2.2.1 a1 a2) (fun v x h => ?_) fun j x hj hk h => ?_
  · unfold D_L_widest_0; rw [h]; rfl
  · unfold D_L_widest_0; rw [h]
    rcases (show j = 0 ∨ j = 1 ∨ j = 2 by omega) with rfl | rfl | rfl
    · exact absurd rfl hk
    · rfl
    · exact absurd rfl hk
theorem lq_strongest (hf : 200 < fu) (I : IX ev n c μ) (a1 : Int32) : LQ c (D_L_strongest_0 fu a1 μ) (D_X7_strongest_0 fu a1) id := by
  refine q_step I (q_strongest hf I.1 I.2.2.1 a1) (fun v x h => ?_) fun j x hj hk h => ?_
  · unfold D_L_strongest_0; rw [h]; rfl
  · unfold D_L_strongest_0; rw [h]
    rcases (show j = 0 ∨ j = 1 ∨ j = 2 by omega) with rfl | rfl | rfl
    · exact absurd rfl hk
    · rfl
    · exact absurd rfl hk
theorem lq_holds (hf : 200 < fu) (I : IX ev n c μ) (a1 a2 a3 : Int32) : LQ c (D_L_holds_0 fu a1 a2 a3 μ) (D_X7_holds_0 fu a1 a2 a3) (fun v : Int32 => v.toInt64) := by
  refine q_step I (q_holds hf I.1 I.2.2.1 a1 a2 a3) (fun v x h => ?_) fun j x hj hk h => ?_
  · unfold D_L_holds_0; rw [h]; rfl
  · unfold D_L_holds_0; rw [h]
    rcases (show j = 0 ∨ j = 1 ∨ j = 2 by omega) with rfl | rfl | rfl
    · exact absurd rfl hk
    · rfl
    · exact absurd rfl hk
theorem lq_cover (hf : 200 < fu) (I : IX ev n c μ) (a1 a2 a3 : Int32) : LQ c (D_L_cover_0 fu a1 a2 a3 μ) (D_X7_cover_0 fu a1 a2 a3) (fun v : Int32 => v.toInt64) := by
  refine q_step I (q_cover hf I.1 I.2.2.1 a1 a2 a3) (fun v x h => ?_) fun j x hj hk h => ?_
  · unfold D_L_cover_0; rw [h]; rfl
  · unfold D_L_cover_0; rw [h]
    rcases (show j = 0 ∨ j = 1 ∨ j = 2 by omega) with rfl | rfl | rfl
    · exact absurd rfl hk
    · rfl
    · exact absurd rfl hk
theorem lq_would (hf : 200 < fu) (I : IX ev n c μ) (a1 a2 a3 a4 a5 : Int32) : LQ c (D_L_would_0 fu a1 a2 a3 a4 a5 μ) (D_X7_would_0 fu a1 a2 a3 a4 a5) id := by
  refine q_step I (q_would hf I.1 I.2.2.1 a1 a2 a3 a4 a5) (fun v x h => ?_) fun j x hj hk h => ?_
  · unfold D_L_would_0; rw [h]; rfl
  · unfold D_L_would_0; rw [h]
    rcases (show j = 0 ∨ j = 1 ∨ j = 2 by omega) with rfl | rfl | rfl
    · exact absurd rfl hk
    · rfl
    · exact absurd rfl hk
theorem lq_drops (hf : 200 < fu) (I : IX ev n c μ) (a1 a2 a3 a4 a5 : Int32) : LQ c (D_L_drops_0 fu a1 a2 a3 a4 a5 μ) (D_X7_drops_0 fu a1 a2 a3 a4 a5) id := by
  refine q_step I (q_drops hf I.1 I.2.2.1 a1 a2 a3 a4 a5) (fun v x h => ?_) fun j x hj hk h => ?_
  · unfold D_L_drops_0; rw [h]; rfl
  · unfold D_L_drops_0; rw [h]
    rcases (show j = 0 ∨ j = 1 ∨ j = 2 by omega) with rfl | rfl | rfl
    · exact absurd rfl hk
    · rfl
    · exact absurd rfl hk
theorem lq_takes (hf : 200 < fu) (I : IX ev n c μ) (a1 a2 a3 a4 a5 : Int32) : LQ c (D_L_takes_0 fu a1 a2 a3 a4 a5 μ) (D_X7_takes_0 fu a1 a2 a3 a4 a5) id := by
  refine q_step I (q_takes hf I.1 I.2.1 I.2.2.1 a1 a2 a3 a4 a5) (fun v x h => ?_) fun j x hj hk h => ?_
  · unfold D_L_takes_0; rw [h]; rfl
  · unfold D_L_takes_0; rw [h]
    rcases (show j = 0 ∨ j = 1 ∨ j = 2 by omega) with rfl | rfl | rfl
    · rfl
    · rfl
    · exact absurd rfl hk
theorem lq_weight (hf : 200 < fu) (I : IX ev n c μ) (a1 a2 a3 a4 : Int32) : LQ c (D_L_weight_0 fu a1 a2 a3 a4 μ) (D_X7_weight_0 fu a1 a2 a3 a4) id := by
  refine q_step I (q_weight hf I.1 I.2.2.1 a1 a2 a3 a4) (fun v x h => ?_) fun j x hj hk h => ?_
  · unfold D_L_weight_0; rw [h]; rfl
  · unfold D_L_weight_0; rw [h]
    rcases (show j = 0 ∨ j = 1 ∨ j = 2 by omega) with rfl | rfl | rfl
    · exact absurd rfl hk
    · rfl
    · exact absurd rfl hk
theorem lq_share (hf : 200 < fu) (I : IX ev n c μ) (a1 a2 a3 a4 a5 : Int32) : LQ c (D_L_share_0 fu a1 a2 a3 a4 a5 μ) (D_X7_share_0 fu a1 a2 a3 a4 a5) id := by
  refine q_step I (q_share hf I.1 I.2.2.1 a1 a2 a3 a4 a5) (fun v x h => ?_) fun j x hj hk h => ?_
  · unfold D_L_share_0; rw [h]; rfl
  · unfold D_L_share_0; rw [h]
    rcases (show j = 0 ∨ j = 1 ∨ j = 2 by omega) with rfl | rfl | rfl
    · exact absurd rfl hk
    · rfl
    · exact absurd rfl hk
theorem lq_picks (hf : 200 < fu) (I : IX ev n c μ) (a1 a2 a3 a4 : Int32) : LQ c (D_L_picks_0 fu a1 a2 a3 a4 μ) (D_X7_picks_0 fu a1 a2 a3 a4) (fun v : Int32 => v.toInt64) := by
  refine q_step I (q_picks hf I.1 I.2.2.1 a1 a2 a3 a4) (fun v x h => ?_) fun j x hj hk h => ?_
  · unfold D_L_picks_0; rw [h]; rfl
  · unfold D_L_picks_0; rw [h]
    rcases (show j = 0 ∨ j = 1 ∨ j = 2 by omega) with rfl | rfl | rfl
    · exact absurd rfl hk
    · rfl
    · exact absurd rfl hk
theorem lq_reach (hf : 200 < fu) (I : IX ev n c μ) (a1 : Int32) : LQ c (D_L_reach_0 fu a1 μ) (D_X7_reach_0 fu a1) id := by
  refine q_step I (q_reach hf I.1 I.2.1 I.2.2.1 a1) (fun v x h => ?_) fun j x hj hk h => ?_
  · unfold D_L_reach_0; rw [h]; rfl
  · unfold D_L_reach_0; rw [h]
    rcases (show j = 0 ∨ j = 1 ∨ j = 2 by omega) with rfl | rfl | rfl
    · rfl
    · exact absurd rfl hk
    · exact absurd rfl hk
theorem lq_uneven (hf : 200 < fu) (I : IX ev n c μ) (a1 a2 a3 a4 a5 : Int32) : LQ c (D_L_uneven_0 fu a1 a2 a3 a4 a5 μ) (D_X7_uneven_0 fu a1 a2 a3 a4 a5) id := by
  refine q_step I (q_uneven hf I.1 I.2.1 I.2.2.1 a1 a2 a3 a4 a5) (fun v x h => ?_) fun j x hj hk h => ?_
  · unfold D_L_uneven_0; rw [h]; rfl
  · unfold D_L_uneven_0; rw [h]
    rcases (show j = 0 ∨ j = 1 ∨ j = 2 by omega) with rfl | rfl | rfl
    · rfl
    · rfl
    · exact absurd rfl hk
theorem lq_undone (hf : 200 < fu) (I : IX ev n c μ) (a1 : Int32) : LQ c (D_L_undone_0 fu a1 μ) (D_X7_undone_0 fu a1) (fun v : Int32 => v.toInt64) := by
  refine q_step I (q_undone hf I.1 I.2.2.1 a1) (fun v x h => ?_) fun j x hj hk h => ?_
  · unfold D_L_undone_0; rw [h]; rfl
  · unfold D_L_undone_0; rw [h]
    rcases (show j = 0 ∨ j = 1 ∨ j = 2 by omega) with rfl | rfl | rfl
    · rfl
    · exact absurd rfl hk
    · exact absurd rfl hk
theorem lq_without (hf : 200 < fu) (I : IX ev n c μ) (a1 a2 : Int32) : LQ c (D_L_without_0 fu a1 a2 μ) (D_X7_without_0 fu a1 a2) id := by
  refine q_step I (q_without hf I.1 I.2.2.1 a1 a2) (fun v x h => ?_) fun j x hj hk h => ?_
  · unfold D_L_without_0; rw [h]; rfl
  · unfold D_L_without_0; rw [h]
    rcases (show j = 0 ∨ j = 1 ∨ j = 2 by omega) with rfl | rfl | rfl
    · rfl
    · rfl
    · exact absurd rfl hk
theorem lq_after (hf : 200 < fu) (I : IX ev n c μ) (a1 a2 : Int32) : LQ c (D_L_after_0 fu a1 a2 μ) (D_X7_after_0 fu a1 a2) id := by
  refine q_step I (q_after hf I.1 I.2.2.1 a1 a2) (fun v x h => ?_) fun j x hj hk h => ?_
  · unfold D_L_after_0; rw [h]; rfl
  · unfold D_L_after_0; rw [h]
    rcases (show j = 0 ∨ j = 1 ∨ j = 2 by omega) with rfl | rfl | rfl
    · rfl
    · rfl
    · exact absurd rfl hk
theorem lq_usedUp (hf : 200 < fu) (I : IX ev n c μ) (a1 : Int32) : LQ c (D_L_usedUp_0 fu a1 μ) (D_X7_usedUp_0 fu a1) (fun v : Int32 => v.toInt64) := by
  refine q_step I (q_usedUp hf I.1 I.2.1 I.2.2.1 a1) (fun v x h => ?_) fun j x hj hk h => ?_
  · unfold D_L_usedUp_0; rw [h]; rfl
  · unfold D_L_usedUp_0; rw [h]
    rcases (show j = 0 ∨ j = 1 ∨ j = 2 by omega) with rfl | rfl | rfl
    · rfl
    · exact absurd rfl hk
    · exact absurd rfl hk
theorem lq_shift (hf : 200 < fu) (I : IX ev n c μ) (a1 a2 a3 : Int32) : LQ c (D_L_shift_0 fu a1 a2 a3 μ) (D_X7_shift_0 fu a1 a2 a3) id := by
  refine q_step I (q_shift hf I.1 I.2.2.1 a1 a2 a3) (fun v x h => ?_) fun j x hj hk h => ?_
  · unfold D_L_shift_0; rw [h]; rfl
  · unfold D_L_shift_0; rw [h]
    rcases (show j = 0 ∨ j = 1 ∨ j = 2 by omega) with rfl | rfl | rfl
    · rfl
    · rfl
    · exact absurd rfl hk
theorem lq_spared (hf : 200 < fu) (I : IX ev n c μ) (a1 : Int32) : LQ c (D_L_spared_0 fu a1 μ) (D_X7_spared_0 fu a1) id := by
  refine q_step I (q_spared hf I.1 I.2.1 I.2.2.1 a1) (fun v x h => ?_) fun j x hj hk h => ?_
  · unfold D_L_spared_0; rw [h]; rfl
  · unfold D_L_spared_0; rw [h]
    rcases (show j = 0 ∨ j = 1 ∨ j = 2 by omega) with rfl | rfl | rfl
    · exact absurd rfl hk
    · rfl
    · exact absurd rfl hk
theorem lq_other (hf : 200 < fu) (I : IX ev n c μ) (a1 a2 a3 a4 : Int32) : LQ c (D_L_other_0 fu a1 a2 a3 a4 μ) (D_X7_other_0 fu a1 a2 a3 a4) id := by
  refine q_step I (q_other hf I.1 I.2.2.1 a1 a2 a3 a4) (fun v x h => ?_) fun j x hj hk h => ?_
  · unfold D_L_other_0; rw [h]; rfl
  · unfold D_L_other_0; rw [h]
    rcases (show j = 0 ∨ j = 1 ∨ j = 2 by omega) with rfl | rfl | rfl
    · exact absurd rfl hk
    · rfl
    · exact absurd rfl hk
theorem lq_best (hf : 200 < fu) (I : IX ev n c μ) (a1 a2 : Int32) : LQ c (D_L_best_0 fu a1 a2 μ) (D_X7_best_0 fu a1 a2) id := by
  refine q_step I (q_best hf I.1 I.2.2.1 a1 a2) (fun v x h => ?_) fun j x hj hk h => ?_
  · unfold D_L_best_0; rw [h]; rfl
  · unfold D_L_best_0; rw [h]
    rcases (show j = 0 ∨ j = 1 ∨ j = 2 by omega) with rfl | rfl | rfl
    · exact absurd rfl hk
    · rfl
    · exact absurd rfl hk
theorem lq_heaviest (hf : 200 < fu) (I : IX ev n c μ) (a1 a2 : Int32) : LQ c (D_L_heaviest_0 fu a1 a2 μ) (D_X7_heaviest_0 fu a1 a2) id := by
  refine q_step I (q_heaviest hf I.1 I.2.1 I.2.2.1 a1 a2) (fun v x h => ?_) fun j x hj hk h => ?_
  · unfold D_L_heaviest_0; rw [h]; rfl
  · unfold D_L_heaviest_0; rw [h]
    rcases (show j = 0 ∨ j = 1 ∨ j = 2 by omega) with rfl | rfl | rfl
    · exact absurd rfl hk
    · rfl
    · exact absurd rfl hk
end
