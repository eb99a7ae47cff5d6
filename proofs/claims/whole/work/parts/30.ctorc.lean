def mX3_init : MT := (yX3_init, cX3_init, 1, none, RX3, 1, 12, none)
theorem ok_mX3_init : mOK mX3_init 0 := ⟨bigW_k2 (List.mem_of_getElem? (i := 5) (by decide +kernel)) (by decide +kernel), in_TallTowers_Outcome, ⟨pl_TallTowers_Outcome.2.1, pl_TallTowers_Outcome.2.2, pd_12⟩, pl_TallTowers_Outcome.1, rfl⟩
theorem im_X3 : Cond.instanceMethod yX3_init ∈ bigW := bigW_k2 (List.mem_of_getElem? (i := 4) (by decide +kernel)) (by decide +kernel)
theorem ii_X3 : Cond.instantiable RX3 6 ∈ bigW := bigW_k2 (List.mem_of_getElem? (i := 2) (by decide +kernel)) (by decide +kernel)
theorem oi_X3 : Cond.methodLink RX3 3 Lib.objectInit ∈ bigW := bigW_k2 (List.mem_of_getElem? (i := 6) (by decide +kernel)) (by decide +kernel)
def cX3_T1 (T : List Ent) (q : Nat) : List Ent := aT 1 40 q 0 (T)
def cX3_M1 (L : Nat) (μ : Mem) : Mem := upG (μ) 1 40
theorem cX3_l1 (T : List Ent) (q : Nat) : (cX3_T1 T q).length = T.length + 1 := by rw [cX3_T1, aT_len]
theorem cX3_g1 (T : List Ent) (q : Nat) : Gr T (cX3_T1 T q) q := aT_gr _ _ q _ T
theorem cX3_m1 (L : Nat) (μ : Mem) : (cX3_M1 L μ).2.2 = (μ.2.2.1 + 1, μ.2.2.2 + 40) := by rfl
def cX3_T2 (T : List Ent) (q : Nat) : List Ent := aT 1 40 q 1 (cX3_T1 T q)
def cX3_M2 (L : Nat) (μ : Mem) : Mem := upG (cX3_M1 L μ) 1 40
theorem cX3_l2 (T : List Ent) (q : Nat) : (cX3_T2 T q).length = T.length + 2 := by rw [cX3_T2, aT_len, cX3_l1]
theorem cX3_g2 (T : List Ent) (q : Nat) : Gr T (cX3_T2 T q) q := (cX3_g1 T q).tr (aT_gr _ _ q _ _)
theorem cX3_m2 (L : Nat) (μ : Mem) : (cX3_M2 L μ).2.2 = (μ.2.2.1 + 2, μ.2.2.2 + 80) := by rw [cX3_M2, upG_3, cX3_m1]
def cX3_T3 (T : List Ent) (q : Nat) : List Ent := aT 1 40 q 2 (cX3_T2 T q)
def cX3_M3 (L : Nat) (μ : Mem) : Mem := upG (cX3_M2 L μ) 1 40
theorem cX3_l3 (T : List Ent) (q : Nat) : (cX3_T3 T q).length = T.length + 3 := by rw [cX3_T3, aT_len, cX3_l2]
theorem cX3_g3 (T : List Ent) (q : Nat) : Gr T (cX3_T3 T q) q := (cX3_g2 T q).tr (aT_gr _ _ q _ _)
theorem cX3_m3 (L : Nat) (μ : Mem) : (cX3_M3 L μ).2.2 = (μ.2.2.1 + 3, μ.2.2.2 + 120) := by rw [cX3_M3, upG_3, cX3_m2]
def cX3_T4 (T : List Ent) (q : Nat) : List Ent := aT 1 160 q 3 (cX3_T3 T q)
def cX3_M4 (L : Nat) (μ : Mem) : Mem := upG (cX3_M3 L μ) 1 160
theorem cX3_l4 (T : List Ent) (q : Nat) : (cX3_T4 T q).length = T.length + 4 := by rw [cX3_T4, aT_len, cX3_l3]
theorem cX3_g4 (T : List Ent) (q : Nat) : Gr T (cX3_T4 T q) q := (cX3_g3 T q).tr (aT_gr _ _ q _ _)
theorem cX3_m4 (L : Nat) (μ : Mem) : (cX3_M4 L μ).2.2 = (μ.2.2.1 + 4, μ.2.2.2 + 280) := by rw [cX3_M4, upG_3, cX3_m3]
def cX3_T5 (T : List Ent) (q : Nat) : List Ent := aT 1 10 q 4 (cX3_T4 T q)
def cX3_M5 (L : Nat) (μ : Mem) : Mem := upG (cX3_M4 L μ) 1 10
theorem cX3_l5 (T : List Ent) (q : Nat) : (cX3_T5 T q).length = T.length + 5 := by rw [cX3_T5, aT_len, cX3_l4]
theorem cX3_g5 (T : List Ent) (q : Nat) : Gr T (cX3_T5 T q) q := (cX3_g4 T q).tr (aT_gr _ _ q _ _)
theorem cX3_m5 (L : Nat) (μ : Mem) : (cX3_M5 L μ).2.2 = (μ.2.2.1 + 5, μ.2.2.2 + 290) := by rw [cX3_M5, upG_3, cX3_m4]
def cX3_T6 (T : List Ent) (q : Nat) : List Ent := aT 1 7 q 5 (cX3_T5 T q)
def cX3_M6 (L : Nat) (μ : Mem) : Mem := upG (cX3_M5 L μ) 1 7
theorem cX3_l6 (T : List Ent) (q : Nat) : (cX3_T6 T q).length = T.length + 6 := by rw [cX3_T6, aT_len, cX3_l5]
theorem cX3_g6 (T : List Ent) (q : Nat) : Gr T (cX3_T6 T q) q := (cX3_g5 T q).tr (aT_gr _ _ q _ _)
theorem cX3_m6 (L : Nat) (μ : Mem) : (cX3_M6 L μ).2.2 = (μ.2.2.1 + 6, μ.2.2.2 + 297) := by rw [cX3_M6, upG_3, cX3_m5]
def cX3_T (T : List Ent) (q : Nat) : List Ent := cX3_T6 T q
def cX3_M (L : Nat) (μ : Mem) : Mem := cX3_M6 L μ
def e0_X3 : Ent := .inr (3, [some none, some none, some none, some none, some none, some none])
theorem cX3_l (T : List Ent) (q : Nat) : (cX3_T T q).length = T.length + 6 := cX3_l6 T q
theorem cX3_g (T : List Ent) (q : Nat) : Gr T (cX3_T T q) q := cX3_g6 T q
theorem cX3_m (L : Nat) (μ : Mem) : (cX3_M L μ).2.2 = (μ.2.2.1 + 6, μ.2.2.2 + 297) := cX3_m6 L μ
theorem cX3_z (T : List Ent) (q : Nat) (μ : Mem) (h : zb T μ) : zb (cX3_T T q) (cX3_M T.length μ) := by
  have z1 : zb (cX3_T1 T q) (cX3_M1 T.length μ) := zb_to h (by rw [cX3_T1, aT_len]; exact Nat.le_add_right _ _) (by rw [cX3_M1]; exact upG_1 _ _ _) (by rw [cX3_M1]; exact upG_2 _ _ _)
  have z2 : zb (cX3_T2 T q) (cX3_M2 T.length μ) := zb_to z1 (by rw [cX3_T2, aT_len]; exact Nat.le_add_right _ _) (by rw [cX3_M2]; exact upG_1 _ _ _) (by rw [cX3_M2]; exact upG_2 _ _ _)
  have z3 : zb (cX3_T3 T q) (cX3_M3 T.length μ) := zb_to z2 (by rw [cX3_T3, aT_len]; exact Nat.le_add_right _ _) (by rw [cX3_M3]; exact upG_1 _ _ _) (by rw [cX3_M3]; exact upG_2 _ _ _)
  have z4 : zb (cX3_T4 T q) (cX3_M4 T.length μ) := zb_to z3 (by rw [cX3_T4, aT_len]; exact Nat.le_add_right _ _) (by rw [cX3_M4]; exact upG_1 _ _ _) (by rw [cX3_M4]; exact upG_2 _ _ _)
  have z5 : zb (cX3_T5 T q) (cX3_M5 T.length μ) := zb_to z4 (by rw [cX3_T5, aT_len]; exact Nat.le_add_right _ _) (by rw [cX3_M5]; exact upG_1 _ _ _) (by rw [cX3_M5]; exact upG_2 _ _ _)
  have z6 : zb (cX3_T6 T q) (cX3_M6 T.length μ) := zb_to z5 (by rw [cX3_T6, aT_len]; exact Nat.le_add_right _ _) (by rw [cX3_M6]; exact upG_1 _ _ _) (by rw [cX3_M6]; exact upG_2 _ _ _)
  exact z6
set_option maxRecDepth 20000 in
set_option maxHeartbeats 1500000 in
theorem VMC_X3 (G : GX) (q : Nat) (μ : Mem) (hq : (gt G)[q]? = some (.inr (3, [some none, some none, some none, some none, some none, some none]))) (hz : zb (gt G) μ) : VMC G mX3_init [.ref q] μ (cX3_T (gt G) q) (cX3_M (gt G).length μ) := by
  refine VMC_entry ok_mX3_init rfl rfl rfl (Nat.le_of_ble_eq_true rfl) ?_
  refine VC_aload_n dX3_init_0 rfl ?_
  refine VC_objInit dX3_init_1 oi_X3 ob_i ob_c (by decide) (Nat.le_of_ble_eq_true rfl) ?_
  change VC (gw G (gt G)) mX3_init 4 [some (.ref q)] [] μ True (.inl none) (cX3_T (gt G) q) (cX3_M (gt G).length μ)
  refine VC_fl_long (pcb := 7) (N := 40) (n := 40) (kf := 0) dX3_init_4 rfl (VC_bipush (v := 40) dX3_init_5 rfl) dX3_init_7 aw_long (by decide) (by decide) (Nat.le_of_ble_eq_true rfl) hz k_X3 (by decide) lk_RX3_9 rfl rfl rfl rfl (fun _ => ⟨rfl, rfl⟩) dX3_init_9 hq rfl ?_
  have hq1 : (cX3_T1 (gt G) q)[q]? = some (.inr (3, [some (some (gt G).length), some none, some none, some none, some none, some none])) := aT_get (kd := 1) (N := 40) (kf := 0) hq
  have hz1 : zb (cX3_T1 (gt G) q) (cX3_M1 (gt G).length μ) := zb_to hz (by rw [cX3_T1, aT_len]; exact Nat.le_add_right _ _) (by rw [cX3_M1]; exact upG_1 _ _ _) (by rw [cX3_M1]; exact upG_2 _ _ _)
  change VC (gw G (cX3_T1 (gt G) q)) mX3_init 12 [some (.ref q)] [] (cX3_M1 (gt G).length μ) True (.inl none) (cX3_T (gt G) q) (cX3_M (gt G).length μ)
  refine VC_fl_long (pcb := 15) (N := 40) (n := 40) (kf := 1) dX3_init_12 rfl (VC_bipush (v := 40) dX3_init_13 rfl) dX3_init_15 aw_long (by decide) (by decide) (Nat.le_of_ble_eq_true rfl) hz1 k_X3 (by decide) lk_RX3_15 rfl rfl rfl rfl (fun _ => ⟨rfl, rfl⟩) dX3_init_17 hq1 rfl ?_
  have hq2 : (cX3_T2 (gt G) q)[q]? = some (.inr (3, [some (some (gt G).length), some (some (cX3_T1 (gt G) q).length), some none, some none, some none, some none])) := aT_get (kd := 1) (N := 40) (kf := 1) hq1
  have hz2 : zb (cX3_T2 (gt G) q) (cX3_M2 (gt G).length μ) := zb_to hz1 (by rw [cX3_T2, aT_len]; exact Nat.le_add_right _ _) (by rw [cX3_M2]; exact upG_1 _ _ _) (by rw [cX3_M2]; exact upG_2 _ _ _)
  change VC (gw G (cX3_T2 (gt G) q)) mX3_init 20 [some (.ref q)] [] (cX3_M2 (gt G).length μ) True (.inl none) (cX3_T (gt G) q) (cX3_M (gt G).length μ)
  refine VC_fl_long (pcb := 23) (N := 40) (n := 40) (kf := 2) dX3_init_20 rfl (VC_bipush (v := 40) dX3_init_21 rfl) dX3_init_23 aw_long (by decide) (by decide) (Nat.le_of_ble_eq_true rfl) hz2 k_X3 (by decide) lk_RX3_18 rfl rfl rfl rfl (fun _ => ⟨rfl, rfl⟩) dX3_init_25 hq2 rfl ?_
  have hq3 : (cX3_T3 (gt G) q)[q]? = some (.inr (3, [some (some (gt G).length), some (some (cX3_T1 (gt G) q).length), some (some (cX3_T2 (gt G) q).length), some none, some none, some none])) := aT_get (kd := 1) (N := 40) (kf := 2) hq2
  have hz3 : zb (cX3_T3 (gt G) q) (cX3_M3 (gt G).length μ) := zb_to hz2 (by rw [cX3_T3, aT_len]; exact Nat.le_add_right _ _) (by rw [cX3_M3]; exact upG_1 _ _ _) (by rw [cX3_M3]; exact upG_2 _ _ _)
  change VC (gw G (cX3_T3 (gt G) q)) mX3_init 28 [some (.ref q)] [] (cX3_M3 (gt G).length μ) True (.inl none) (cX3_T (gt G) q) (cX3_M (gt G).length μ)
  refine VC_fl_long (pcb := 32) (N := 160) (n := 160) (kf := 3) dX3_init_28 rfl (VC_sipush (v := 160) dX3_init_29 rfl) dX3_init_32 aw_long (by decide) (by decide) (Nat.le_of_ble_eq_true rfl) hz3 k_X3 (by decide) lk_RX3_21 rfl rfl rfl rfl (fun _ => ⟨rfl, rfl⟩) dX3_init_34 hq3 rfl ?_
  have hq4 : (cX3_T4 (gt G) q)[q]? = some (.inr (3, [some (some (gt G).length), some (some (cX3_T1 (gt G) q).length), some (some (cX3_T2 (gt G) q).length), some (some (cX3_T3 (gt G) q).length), some none, some none])) := aT_get (kd := 1) (N := 160) (kf := 3) hq3
  have hz4 : zb (cX3_T4 (gt G) q) (cX3_M4 (gt G).length μ) := zb_to hz3 (by rw [cX3_T4, aT_len]; exact Nat.le_add_right _ _) (by rw [cX3_M4]; exact upG_1 _ _ _) (by rw [cX3_M4]; exact upG_2 _ _ _)
  change VC (gw G (cX3_T4 (gt G) q)) mX3_init 37 [some (.ref q)] [] (cX3_M4 (gt G).length μ) True (.inl none) (cX3_T (gt G) q) (cX3_M (gt G).length μ)
  refine VC_fl_long (pcb := 40) (N := 10) (n := 10) (kf := 4) dX3_init_37 rfl (VC_bipush (v := 10) dX3_init_38 rfl) dX3_init_40 aw_long (by decide) (by decide) (Nat.le_of_ble_eq_true rfl) hz4 k_X3 (by decide) lk_RX3_24 rfl rfl rfl rfl (fun _ => ⟨rfl, rfl⟩) dX3_init_42 hq4 rfl ?_
  have hq5 : (cX3_T5 (gt G) q)[q]? = some (.inr (3, [some (some (gt G).length), some (some (cX3_T1 (gt G) q).length), some (some (cX3_T2 (gt G) q).length), some (some (cX3_T3 (gt G) q).length), some (some (cX3_T4 (gt G) q).length), some none])) := aT_get (kd := 1) (N := 10) (kf := 4) hq4
  have hz5 : zb (cX3_T5 (gt G) q) (cX3_M5 (gt G).length μ) := zb_to hz4 (by rw [cX3_T5, aT_len]; exact Nat.le_add_right _ _) (by rw [cX3_M5]; exact upG_1 _ _ _) (by rw [cX3_M5]; exact upG_2 _ _ _)
  change VC (gw G (cX3_T5 (gt G) q)) mX3_init 45 [some (.ref q)] [] (cX3_M5 (gt G).length μ) True (.inl none) (cX3_T (gt G) q) (cX3_M (gt G).length μ)
  refine VC_fl_long (pcb := 48) (N := 7) (n := 7) (kf := 5) dX3_init_45 rfl (VC_bipush (v := 7) dX3_init_46 rfl) dX3_init_48 aw_long (by decide) (by decide) (Nat.le_of_ble_eq_true rfl) hz5 k_X3 (by decide) lk_RX3_27 rfl rfl rfl rfl (fun _ => ⟨rfl, rfl⟩) dX3_init_50 hq5 rfl ?_
  have hq6 : (cX3_T6 (gt G) q)[q]? = some (.inr (3, [some (some (gt G).length), some (some (cX3_T1 (gt G) q).length), some (some (cX3_T2 (gt G) q).length), some (some (cX3_T3 (gt G) q).length), some (some (cX3_T4 (gt G) q).length), some (some (cX3_T5 (gt G) q).length)])) := aT_get (kd := 1) (N := 7) (kf := 5) hq5
  have hz6 : zb (cX3_T6 (gt G) q) (cX3_M6 (gt G).length μ) := zb_to hz5 (by rw [cX3_T6, aT_len]; exact Nat.le_add_right _ _) (by rw [cX3_M6]; exact upG_1 _ _ _) (by rw [cX3_M6]; exact upG_2 _ _ _)
  change VC (gw G (cX3_T6 (gt G) q)) mX3_init 53 [some (.ref q)] [] (cX3_M6 (gt G).length μ) True (.inl none) (cX3_T (gt G) q) (cX3_M (gt G).length μ)
  exact VC_vretT rfl dX3_init_53
def mX4_init : MT := (yX4_init, cX4_init, 1, none, RX4, 2, 32, none)
theorem ok_mX4_init : mOK mX4_init 0 := ⟨bigW_k1 (List.mem_of_getElem? (i := 239) (by decide +kernel)) (by decide +kernel), in_TallTowers_Spreader, ⟨pl_TallTowers_Spreader.2.1, pl_TallTowers_Spreader.2.2, pd_12⟩, pl_TallTowers_Spreader.1, rfl⟩
theorem im_X4 : Cond.instanceMethod yX4_init ∈ bigW := bigW_k1 (List.mem_of_getElem? (i := 238) (by decide +kernel)) (by decide +kernel)
theorem ii_X4 : Cond.instantiable RX4 11 ∈ bigW := bigW_k1 (List.mem_of_getElem? (i := 236) (by decide +kernel)) (by decide +kernel)
theorem oi_X4 : Cond.methodLink RX4 3 Lib.objectInit ∈ bigW := bigW_k2 (List.mem_of_getElem? (i := 0) (by decide +kernel)) (by decide +kernel)
theorem cl_RX4_9 : Cond.classLink RX4 9 RX3 ∈ bigW := bigW_k2 (List.mem_of_getElem? (i := 1) (by decide +kernel)) (by decide +kernel)
def cX4_T1 (T : List Ent) (q : Nat) : List Ent := pt (cX3_T (T ++ [e0_X3]) T.length) q 0 T.length
def cX4_M1 (L : Nat) (μ : Mem) : Mem := cX3_M (L + 1) (upG μ 1 6)
theorem cX4_l1 (T : List Ent) (q : Nat) : (cX4_T1 T q).length = T.length + 7 := by rw [cX4_T1, pt_len, cX3_l, List.length_append]; rfl
theorem cX4_g1 (T : List Ent) (q : Nat) : Gr T (cX4_T1 T q) q := (Gr.new (cX3_g _ _)).tr (Gr.put _ q _ _)
theorem cX4_m1 (L : Nat) (μ : Mem) : (cX4_M1 L μ).2.2 = (μ.2.2.1 + 7, μ.2.2.2 + 303) := by simp only [cX4_M1, cX3_m, upG_3, Nat.add_assoc, Nat.reduceAdd]
def cX4_T2 (T : List Ent) (q : Nat) : List Ent := pt (cX3_T ((cX4_T1 T q) ++ [e0_X3]) (cX4_T1 T q).length) q 1 (cX4_T1 T q).length
def cX4_M2 (L : Nat) (μ : Mem) : Mem := cX3_M (L + 8) (upG (cX4_M1 L μ) 1 6)
theorem cX4_l2 (T : List Ent) (q : Nat) : (cX4_T2 T q).length = T.length + 14 := by rw [cX4_T2, pt_len, cX3_l, List.length_append, cX4_l1]; rfl
theorem cX4_g2 (T : List Ent) (q : Nat) : Gr T (cX4_T2 T q) q := (cX4_g1 T q).tr ((Gr.new (cX3_g _ _)).tr (Gr.put _ q _ _))
theorem cX4_m2 (L : Nat) (μ : Mem) : (cX4_M2 L μ).2.2 = (μ.2.2.1 + 14, μ.2.2.2 + 606) := by simp only [cX4_M2, cX3_m, upG_3, cX4_m1, Nat.add_assoc, Nat.reduceAdd]
def cX4_T3 (T : List Ent) (q : Nat) : List Ent := aT 1 12 q 2 (cX4_T2 T q)
def cX4_M3 (L : Nat) (μ : Mem) : Mem := upG (cX4_M2 L μ) 1 12
theorem cX4_l3 (T : List Ent) (q : Nat) : (cX4_T3 T q).length = T.length + 15 := by rw [cX4_T3, aT_len, cX4_l2]
theorem cX4_g3 (T : List Ent) (q : Nat) : Gr T (cX4_T3 T q) q := (cX4_g2 T q).tr (aT_gr _ _ q _ _)
theorem cX4_m3 (L : Nat) (μ : Mem) : (cX4_M3 L μ).2.2 = (μ.2.2.1 + 15, μ.2.2.2 + 618) := by rw [cX4_M3, upG_3, cX4_m2]
def cX4_T4 (T : List Ent) (q : Nat) : List Ent := aT 1 12 q 3 (cX4_T3 T q)
def cX4_M4 (L : Nat) (μ : Mem) : Mem := upG (cX4_M3 L μ) 1 12
theorem cX4_l4 (T : List Ent) (q : Nat) : (cX4_T4 T q).length = T.length + 16 := by rw [cX4_T4, aT_len, cX4_l3]
theorem cX4_g4 (T : List Ent) (q : Nat) : Gr T (cX4_T4 T q) q := (cX4_g3 T q).tr (aT_gr _ _ q _ _)
theorem cX4_m4 (L : Nat) (μ : Mem) : (cX4_M4 L μ).2.2 = (μ.2.2.1 + 16, μ.2.2.2 + 630) := by rw [cX4_M4, upG_3, cX4_m3]
def cX4_T5 (T : List Ent) (q : Nat) : List Ent := aT 1 12 q 4 (cX4_T4 T q)
def cX4_M5 (L : Nat) (μ : Mem) : Mem := upG (cX4_M4 L μ) 1 12
theorem cX4_l5 (T : List Ent) (q : Nat) : (cX4_T5 T q).length = T.length + 17 := by rw [cX4_T5, aT_len, cX4_l4]
theorem cX4_g5 (T : List Ent) (q : Nat) : Gr T (cX4_T5 T q) q := (cX4_g4 T q).tr (aT_gr _ _ q _ _)
theorem cX4_m5 (L : Nat) (μ : Mem) : (cX4_M5 L μ).2.2 = (μ.2.2.1 + 17, μ.2.2.2 + 642) := by rw [cX4_M5, upG_3, cX4_m4]
def cX4_T6 (T : List Ent) (q : Nat) : List Ent := aT 1 12 q 5 (cX4_T5 T q)
def cX4_M6 (L : Nat) (μ : Mem) : Mem := upG (cX4_M5 L μ) 1 12
theorem cX4_l6 (T : List Ent) (q : Nat) : (cX4_T6 T q).length = T.length + 18 := by rw [cX4_T6, aT_len, cX4_l5]
theorem cX4_g6 (T : List Ent) (q : Nat) : Gr T (cX4_T6 T q) q := (cX4_g5 T q).tr (aT_gr _ _ q _ _)
theorem cX4_m6 (L : Nat) (μ : Mem) : (cX4_M6 L μ).2.2 = (μ.2.2.1 + 18, μ.2.2.2 + 654) := by rw [cX4_M6, upG_3, cX4_m5]
def cX4_T7 (T : List Ent) (q : Nat) : List Ent := aT 0 12 q 6 (cX4_T6 T q)
def cX4_M7 (L : Nat) (μ : Mem) : Mem := upG (cX4_M6 L μ) 1 12
theorem cX4_l7 (T : List Ent) (q : Nat) : (cX4_T7 T q).length = T.length + 19 := by rw [cX4_T7, aT_len, cX4_l6]
theorem cX4_g7 (T : List Ent) (q : Nat) : Gr T (cX4_T7 T q) q := (cX4_g6 T q).tr (aT_gr _ _ q _ _)
theorem cX4_m7 (L : Nat) (μ : Mem) : (cX4_M7 L μ).2.2 = (μ.2.2.1 + 19, μ.2.2.2 + 666) := by rw [cX4_M7, upG_3, cX4_m6]
def cX4_T8 (T : List Ent) (q : Nat) : List Ent := aT 1 40 q 8 (cX4_T7 T q)
def cX4_M8 (L : Nat) (μ : Mem) : Mem := upG (cX4_M7 L μ) 1 40
theorem cX4_l8 (T : List Ent) (q : Nat) : (cX4_T8 T q).length = T.length + 20 := by rw [cX4_T8, aT_len, cX4_l7]
theorem cX4_g8 (T : List Ent) (q : Nat) : Gr T (cX4_T8 T q) q := (cX4_g7 T q).tr (aT_gr _ _ q _ _)
theorem cX4_m8 (L : Nat) (μ : Mem) : (cX4_M8 L μ).2.2 = (μ.2.2.1 + 20, μ.2.2.2 + 706) := by rw [cX4_M8, upG_3, cX4_m7]
def cX4_T9 (T : List Ent) (q : Nat) : List Ent := aT 1 40 q 9 (cX4_T8 T q)
def cX4_M9 (L : Nat) (μ : Mem) : Mem := upG (cX4_M8 L μ) 1 40
theorem cX4_l9 (T : List Ent) (q : Nat) : (cX4_T9 T q).length = T.length + 21 := by rw [cX4_T9, aT_len, cX4_l8]
theorem cX4_g9 (T : List Ent) (q : Nat) : Gr T (cX4_T9 T q) q := (cX4_g8 T q).tr (aT_gr _ _ q _ _)
theorem cX4_m9 (L : Nat) (μ : Mem) : (cX4_M9 L μ).2.2 = (μ.2.2.1 + 21, μ.2.2.2 + 746) := by rw [cX4_M9, upG_3, cX4_m8]
def cX4_T10 (T : List Ent) (q : Nat) : List Ent := aT 1 40 q 10 (cX4_T9 T q)
def cX4_M10 (L : Nat) (μ : Mem) : Mem := upG (cX4_M9 L μ) 1 40
theorem cX4_l10 (T : List Ent) (q : Nat) : (cX4_T10 T q).length = T.length + 22 := by rw [cX4_T10, aT_len, cX4_l9]
theorem cX4_g10 (T : List Ent) (q : Nat) : Gr T (cX4_T10 T q) q := (cX4_g9 T q).tr (aT_gr _ _ q _ _)
theorem cX4_m10 (L : Nat) (μ : Mem) : (cX4_M10 L μ).2.2 = (μ.2.2.1 + 22, μ.2.2.2 + 786) := by rw [cX4_M10, upG_3, cX4_m9]
def cX4_T (T : List Ent) (q : Nat) : List Ent := cX4_T10 T q
def cX4_M (L : Nat) (μ : Mem) : Mem := cX4_M10 L μ
def e0_X4 : Ent := .inr (4, [some none, some none, some none, some none, some none, some none, some none, none, some none, some none, some none])
theorem cX4_l (T : List Ent) (q : Nat) : (cX4_T T q).length = T.length + 22 := cX4_l10 T q
theorem cX4_g (T : List Ent) (q : Nat) : Gr T (cX4_T T q) q := cX4_g10 T q
theorem cX4_m (L : Nat) (μ : Mem) : (cX4_M L μ).2.2 = (μ.2.2.1 + 22, μ.2.2.2 + 786) := cX4_m10 L μ
theorem cX4_z (T : List Ent) (q : Nat) (μ : Mem) (h : zb T μ) : zb (cX4_T T q) (cX4_M T.length μ) := by
  have w1 : zb (T ++ [(e0_X3 : Ent)]) (upG μ 1 6) := zb_to h (by rw [List.length_append]; exact Nat.le_add_right _ _) (upG_1 _ _ _) (upG_2 _ _ _)
  have e1 : (T ++ [(e0_X3 : Ent)]).length = T.length + 1 := by rw [List.length_append]; rfl
  have y1 := cX3_z (T ++ [e0_X3]) T.length _ w1
  rw [e1] at y1
  have z1 : zb (cX4_T1 T q) (cX4_M1 T.length μ) := zb_to y1 (by rw [cX4_T1, pt_len]; exact Nat.le_refl _) (by rw [cX4_M1]) (by rw [cX4_M1])
  have w2 : zb ((cX4_T1 T q) ++ [(e0_X3 : Ent)]) (upG (cX4_M1 T.length μ) 1 6) := zb_to z1 (by rw [List.length_append]; exact Nat.le_add_right _ _) (upG_1 _ _ _) (upG_2 _ _ _)
  have e2 : ((cX4_T1 T q) ++ [(e0_X3 : Ent)]).length = T.length + 8 := by rw [List.length_append, cX4_l1]; rfl
  have y2 := cX3_z ((cX4_T1 T q) ++ [e0_X3]) (cX4_T1 T q).length _ w2
  rw [e2] at y2
  have z2 : zb (cX4_T2 T q) (cX4_M2 T.length μ) := zb_to y2 (by rw [cX4_T2, pt_len]; exact Nat.le_refl _) (by rw [cX4_M2]) (by rw [cX4_M2])
  have z3 : zb (cX4_T3 T q) (cX4_M3 T.length μ) := zb_to z2 (by rw [cX4_T3, aT_len]; exact Nat.le_add_right _ _) (by rw [cX4_M3]; exact upG_1 _ _ _) (by rw [cX4_M3]; exact upG_2 _ _ _)
  have z4 : zb (cX4_T4 T q) (cX4_M4 T.length μ) := zb_to z3 (by rw [cX4_T4, aT_len]; exact Nat.le_add_right _ _) (by rw [cX4_M4]; exact upG_1 _ _ _) (by rw [cX4_M4]; exact upG_2 _ _ _)
  have z5 : zb (cX4_T5 T q) (cX4_M5 T.length μ) := zb_to z4 (by rw [cX4_T5, aT_len]; exact Nat.le_add_right _ _) (by rw [cX4_M5]; exact upG_1 _ _ _) (by rw [cX4_M5]; exact upG_2 _ _ _)
  have z6 : zb (cX4_T6 T q) (cX4_M6 T.length μ) := zb_to z5 (by rw [cX4_T6, aT_len]; exact Nat.le_add_right _ _) (by rw [cX4_M6]; exact upG_1 _ _ _) (by rw [cX4_M6]; exact upG_2 _ _ _)
  have z7 : zb (cX4_T7 T q) (cX4_M7 T.length μ) := zb_to z6 (by rw [cX4_T7, aT_len]; exact Nat.le_add_right _ _) (by rw [cX4_M7]; exact upG_1 _ _ _) (by rw [cX4_M7]; exact upG_2 _ _ _)
  have z8 : zb (cX4_T8 T q) (cX4_M8 T.length μ) := zb_to z7 (by rw [cX4_T8, aT_len]; exact Nat.le_add_right _ _) (by rw [cX4_M8]; exact upG_1 _ _ _) (by rw [cX4_M8]; exact upG_2 _ _ _)
  have z9 : zb (cX4_T9 T q) (cX4_M9 T.length μ) := zb_to z8 (by rw [cX4_T9, aT_len]; exact Nat.le_add_right _ _) (by rw [cX4_M9]; exact upG_1 _ _ _) (by rw [cX4_M9]; exact upG_2 _ _ _)
  have z10 : zb (cX4_T10 T q) (cX4_M10 T.length μ) := zb_to z9 (by rw [cX4_T10, aT_len]; exact Nat.le_add_right _ _) (by rw [cX4_M10]; exact upG_1 _ _ _) (by rw [cX4_M10]; exact upG_2 _ _ _)
  exact z10
set_option maxRecDepth 20000 in
set_option maxHeartbeats 1500000 in
theorem VMC_X4 (G : GX) (q : Nat) (μ : Mem) (hq : (gt G)[q]? = some (.inr (4, [some none, some none, some none, some none, some none, some none, some none, none, some none, some none, some none]))) (hz : zb (gt G) μ) : VMC G mX4_init [.ref q] μ (cX4_T (gt G) q) (cX4_M (gt G).length μ) := by
  refine VMC_entry ok_mX4_init rfl rfl rfl (Nat.le_of_ble_eq_true rfl) ?_
  refine VC_aload_n dX4_init_0 rfl ?_
  refine VC_objInit dX4_init_1 oi_X4 ob_i ob_c (by decide) (Nat.le_of_ble_eq_true rfl) ?_
  change VC (gw G (gt G)) mX4_init 4 [some (.ref q)] [] μ True (.inl none) (cX4_T (gt G) q) (cX4_M (gt G).length μ)
  have n1 : (gt G).length = (gt G).length + 0 := rfl
  have w1 : ((gt G) ++ [(e0_X3 : Ent)])[(gt G).length]? = some (e0_X3) := by rw [List.getElem?_append_right (Nat.le_refl _), Nat.sub_self]; rfl
  have v1 : zb ((gt G) ++ [(e0_X3 : Ent)]) (upG μ 1 6) := zb_to hz (by rw [List.length_append]; exact Nat.le_add_right _ _) (upG_1 _ _ _) (upG_2 _ _ _)
  have u1 := VMC_X3 (gw G ((gt G) ++ [e0_X3])) (gt G).length (upG μ 1 6) w1 v1
  have e1 : ((gt G) ++ [(e0_X3 : Ent)]).length = (gt G).length + 1 := by rw [List.length_append, n1]; rfl
  have u1 : VMC (gw G ((gt G) ++ [e0_X3])) mX3_init [.ref (gt G).length] (upG μ 1 6) (cX3_T ((gt G) ++ [e0_X3]) (gt G).length) (cX3_M ((gt G).length + 1) (upG μ 1 6)) := by rw [← e1]; exact u1
  have t1 : (cX3_T ((gt G) ++ [(e0_X3 : Ent)]) (gt G).length).length = ((gt G) ++ [(e0_X3 : Ent)]).length + ((cX3_M ((gt G).length + 1) (upG μ 1 6)).2.2.1 - (upG μ 1 6).2.2.1) := by rw [cX3_l, cX3_m, Nat.add_sub_cancel_left]
  have x1 : q < (gt G).length := (List.getElem?_eq_some_iff.mp hq).1
  have g1 := ((Gr.new (q := (gt G).length) (cX3_g ((gt G) ++ [(e0_X3 : Ent)]) (gt G).length)).2 q x1 (Nat.ne_of_lt x1)).trans hq
  refine VC_fl_obj (T := cX3_T ((gt G) ++ [e0_X3]) (gt G).length) (μ2 := cX3_M ((gt G).length + 1) (upG μ 1 6)) (N := 6) (kf := 0) dX4_init_4 rfl dX4_init_5 k_X3 cl_RX4_9 ii_X3 in_TallTowers_Outcome (by decide) (fun j hj => by (match j, hj with | 0, _ => rfl | 1, _ => rfl | 2, _ => rfl | 3, _ => rfl | 4, _ => rfl | 5, _ => rfl | j + 6, hj => exact absurd hj (by omega))) dX4_init_8 hz (VC_cIN dX4_init_9 ok_mX3_init rfl rfl rfl im_X3 (by decide +kernel) (by decide) (by decide) (Nat.le_of_ble_eq_true rfl) t1 u1) k_X4 (by decide) lk_RX4_12 rfl rfl rfl rfl (fun _ => ⟨rfl, rfl⟩) dX4_init_12 g1 rfl ?_
  have hq1 : (cX4_T1 (gt G) q)[q]? = some (.inr (4, [some (some (gt G).length), some none, some none, some none, some none, some none, some none, none, some none, some none, some none])) := pt_get (kf := 0) (r := (gt G).length) g1
  have y1 := cX3_z ((gt G) ++ [e0_X3]) (gt G).length _ v1
  rw [e1] at y1
  have hz1 : zb (cX4_T1 (gt G) q) (cX4_M1 (gt G).length μ) := zb_to y1 (by rw [cX4_T1, pt_len]; exact Nat.le_refl _) (by rw [cX4_M1]) (by rw [cX4_M1])
  change VC (gw G (cX4_T1 (gt G) q)) mX4_init 15 [some (.ref q)] [] (cX4_M1 (gt G).length μ) True (.inl none) (cX4_T (gt G) q) (cX4_M (gt G).length μ)
  have n2 : (cX4_T1 (gt G) q).length = (gt G).length + 7 := cX4_l1 (gt G) q
  have w2 : ((cX4_T1 (gt G) q) ++ [(e0_X3 : Ent)])[(cX4_T1 (gt G) q).length]? = some (e0_X3) := by rw [List.getElem?_append_right (Nat.le_refl _), Nat.sub_self]; rfl
  have v2 : zb ((cX4_T1 (gt G) q) ++ [(e0_X3 : Ent)]) (upG (cX4_M1 (gt G).length μ) 1 6) := zb_to hz1 (by rw [List.length_append]; exact Nat.le_add_right _ _) (upG_1 _ _ _) (upG_2 _ _ _)
  have u2 := VMC_X3 (gw G ((cX4_T1 (gt G) q) ++ [e0_X3])) (cX4_T1 (gt G) q).length (upG (cX4_M1 (gt G).length μ) 1 6) w2 v2
  have e2 : ((cX4_T1 (gt G) q) ++ [(e0_X3 : Ent)]).length = (gt G).length + 8 := by rw [List.length_append, n2]; rfl
  have u2 : VMC (gw G ((cX4_T1 (gt G) q) ++ [e0_X3])) mX3_init [.ref (cX4_T1 (gt G) q).length] (upG (cX4_M1 (gt G).length μ) 1 6) (cX3_T ((cX4_T1 (gt G) q) ++ [e0_X3]) (cX4_T1 (gt G) q).length) (cX3_M ((gt G).length + 8) (upG (cX4_M1 (gt G).length μ) 1 6)) := by rw [← e2]; exact u2
  have t2 : (cX3_T ((cX4_T1 (gt G) q) ++ [(e0_X3 : Ent)]) (cX4_T1 (gt G) q).length).length = ((cX4_T1 (gt G) q) ++ [(e0_X3 : Ent)]).length + ((cX3_M ((gt G).length + 8) (upG (cX4_M1 (gt G).length μ) 1 6)).2.2.1 - (upG (cX4_M1 (gt G).length μ) 1 6).2.2.1) := by rw [cX3_l, cX3_m, Nat.add_sub_cancel_left]
  have x2 : q < (cX4_T1 (gt G) q).length := (List.getElem?_eq_some_iff.mp hq1).1
  have g2 := ((Gr.new (q := (cX4_T1 (gt G) q).length) (cX3_g ((cX4_T1 (gt G) q) ++ [(e0_X3 : Ent)]) (cX4_T1 (gt G) q).length)).2 q x2 (Nat.ne_of_lt x2)).trans hq1
  refine VC_fl_obj (T := cX3_T ((cX4_T1 (gt G) q) ++ [e0_X3]) (cX4_T1 (gt G) q).length) (μ2 := cX3_M ((gt G).length + 8) (upG (cX4_M1 (gt G).length μ) 1 6)) (N := 6) (kf := 1) dX4_init_15 rfl dX4_init_16 k_X3 cl_RX4_9 ii_X3 in_TallTowers_Outcome (by decide) (fun j hj => by (match j, hj with | 0, _ => rfl | 1, _ => rfl | 2, _ => rfl | 3, _ => rfl | 4, _ => rfl | 5, _ => rfl | j + 6, hj => exact absurd hj (by omega))) dX4_init_19 hz1 (VC_cIN dX4_init_20 ok_mX3_init rfl rfl rfl im_X3 (by decide +kernel) (by decide) (by decide) (Nat.le_of_ble_eq_true rfl) t2 u2) k_X4 (by decide) lk_RX4_18 rfl rfl rfl rfl (fun _ => ⟨rfl, rfl⟩) dX4_init_23 g2 rfl ?_
  have hq2 : (cX4_T2 (gt G) q)[q]? = some (.inr (4, [some (some (gt G).length), some (some (cX4_T1 (gt G) q).length), some none, some none, some none, some none, some none, none, some none, some none, some none])) := pt_get (kf := 1) (r := (cX4_T1 (gt G) q).length) g2
  have y2 := cX3_z ((cX4_T1 (gt G) q) ++ [e0_X3]) (cX4_T1 (gt G) q).length _ v2
  rw [e2] at y2
  have hz2 : zb (cX4_T2 (gt G) q) (cX4_M2 (gt G).length μ) := zb_to y2 (by rw [cX4_T2, pt_len]; exact Nat.le_refl _) (by rw [cX4_M2]) (by rw [cX4_M2])
  change VC (gw G (cX4_T2 (gt G) q)) mX4_init 26 [some (.ref q)] [] (cX4_M2 (gt G).length μ) True (.inl none) (cX4_T (gt G) q) (cX4_M (gt G).length μ)
  refine VC_fl_long (pcb := 29) (N := 12) (n := 12) (kf := 2) dX4_init_26 rfl (VC_bipush (v := 12) dX4_init_27 rfl) dX4_init_29 aw_long (by decide) (by decide) (Nat.le_of_ble_eq_true rfl) hz2 k_X4 (by decide) lk_RX4_21 rfl rfl rfl rfl (fun _ => ⟨rfl, rfl⟩) dX4_init_31 hq2 rfl ?_
  have hq3 : (cX4_T3 (gt G) q)[q]? = some (.inr (4, [some (some (gt G).length), some (some (cX4_T1 (gt G) q).length), some (some (cX4_T2 (gt G) q).length), some none, some none, some none, some none, none, some none, some none, some none])) := aT_get (kd := 1) (N := 12) (kf := 2) hq2
  have hz3 : zb (cX4_T3 (gt G) q) (cX4_M3 (gt G).length μ) := zb_to hz2 (by rw [cX4_T3, aT_len]; exact Nat.le_add_right _ _) (by rw [cX4_M3]; exact upG_1 _ _ _) (by rw [cX4_M3]; exact upG_2 _ _ _)
  change VC (gw G (cX4_T3 (gt G) q)) mX4_init 34 [some (.ref q)] [] (cX4_M3 (gt G).length μ) True (.inl none) (cX4_T (gt G) q) (cX4_M (gt G).length μ)
  refine VC_fl_long (pcb := 37) (N := 12) (n := 12) (kf := 3) dX4_init_34 rfl (VC_bipush (v := 12) dX4_init_35 rfl) dX4_init_37 aw_long (by decide) (by decide) (Nat.le_of_ble_eq_true rfl) hz3 k_X4 (by decide) lk_RX4_25 rfl rfl rfl rfl (fun _ => ⟨rfl, rfl⟩) dX4_init_39 hq3 rfl ?_
  have hq4 : (cX4_T4 (gt G) q)[q]? = some (.inr (4, [some (some (gt G).length), some (some (cX4_T1 (gt G) q).length), some (some (cX4_T2 (gt G) q).length), some (some (cX4_T3 (gt G) q).length), some none, some none, some none, none, some none, some none, some none])) := aT_get (kd := 1) (N := 12) (kf := 3) hq3
  have hz4 : zb (cX4_T4 (gt G) q) (cX4_M4 (gt G).length μ) := zb_to hz3 (by rw [cX4_T4, aT_len]; exact Nat.le_add_right _ _) (by rw [cX4_M4]; exact upG_1 _ _ _) (by rw [cX4_M4]; exact upG_2 _ _ _)
  change VC (gw G (cX4_T4 (gt G) q)) mX4_init 42 [some (.ref q)] [] (cX4_M4 (gt G).length μ) True (.inl none) (cX4_T (gt G) q) (cX4_M (gt G).length μ)
  refine VC_fl_long (pcb := 45) (N := 12) (n := 12) (kf := 4) dX4_init_42 rfl (VC_bipush (v := 12) dX4_init_43 rfl) dX4_init_45 aw_long (by decide) (by decide) (Nat.le_of_ble_eq_true rfl) hz4 k_X4 (by decide) lk_RX4_28 rfl rfl rfl rfl (fun _ => ⟨rfl, rfl⟩) dX4_init_47 hq4 rfl ?_
  have hq5 : (cX4_T5 (gt G) q)[q]? = some (.inr (4, [some (some (gt G).length), some (some (cX4_T1 (gt G) q).length), some (some (cX4_T2 (gt G) q).length), some (some (cX4_T3 (gt G) q).length), some (some (cX4_T4 (gt G) q).length), some none, some none, none, some none, some none, some none])) := aT_get (kd := 1) (N := 12) (kf := 4) hq4
  have hz5 : zb (cX4_T5 (gt G) q) (cX4_M5 (gt G).length μ) := zb_to hz4 (by rw [cX4_T5, aT_len]; exact Nat.le_add_right _ _) (by rw [cX4_M5]; exact upG_1 _ _ _) (by rw [cX4_M5]; exact upG_2 _ _ _)
  change VC (gw G (cX4_T5 (gt G) q)) mX4_init 50 [some (.ref q)] [] (cX4_M5 (gt G).length μ) True (.inl none) (cX4_T (gt G) q) (cX4_M (gt G).length μ)
  refine VC_fl_long (pcb := 53) (N := 12) (n := 12) (kf := 5) dX4_init_50 rfl (VC_bipush (v := 12) dX4_init_51 rfl) dX4_init_53 aw_long (by decide) (by decide) (Nat.le_of_ble_eq_true rfl) hz5 k_X4 (by decide) lk_RX4_31 rfl rfl rfl rfl (fun _ => ⟨rfl, rfl⟩) dX4_init_55 hq5 rfl ?_
  have hq6 : (cX4_T6 (gt G) q)[q]? = some (.inr (4, [some (some (gt G).length), some (some (cX4_T1 (gt G) q).length), some (some (cX4_T2 (gt G) q).length), some (some (cX4_T3 (gt G) q).length), some (some (cX4_T4 (gt G) q).length), some (some (cX4_T5 (gt G) q).length), some none, none, some none, some none, some none])) := aT_get (kd := 1) (N := 12) (kf := 5) hq5
  have hz6 : zb (cX4_T6 (gt G) q) (cX4_M6 (gt G).length μ) := zb_to hz5 (by rw [cX4_T6, aT_len]; exact Nat.le_add_right _ _) (by rw [cX4_M6]; exact upG_1 _ _ _) (by rw [cX4_M6]; exact upG_2 _ _ _)
  change VC (gw G (cX4_T6 (gt G) q)) mX4_init 58 [some (.ref q)] [] (cX4_M6 (gt G).length μ) True (.inl none) (cX4_T (gt G) q) (cX4_M (gt G).length μ)
  refine VC_fl_int (pcb := 61) (N := 12) (n := 12) (kf := 6) dX4_init_58 rfl (VC_bipush (v := 12) dX4_init_59 rfl) dX4_init_61 aw_int (by decide) (by decide) (Nat.le_of_ble_eq_true rfl) hz6 k_X4 (by decide) lk_RX4_34 rfl rfl rfl rfl (fun _ => ⟨rfl, rfl⟩) dX4_init_63 hq6 rfl ?_
  have hq7 : (cX4_T7 (gt G) q)[q]? = some (.inr (4, [some (some (gt G).length), some (some (cX4_T1 (gt G) q).length), some (some (cX4_T2 (gt G) q).length), some (some (cX4_T3 (gt G) q).length), some (some (cX4_T4 (gt G) q).length), some (some (cX4_T5 (gt G) q).length), some (some (cX4_T6 (gt G) q).length), none, some none, some none, some none])) := aT_get (kd := 0) (N := 12) (kf := 6) hq6
  have hz7 : zb (cX4_T7 (gt G) q) (cX4_M7 (gt G).length μ) := zb_to hz6 (by rw [cX4_T7, aT_len]; exact Nat.le_add_right _ _) (by rw [cX4_M7]; exact upG_1 _ _ _) (by rw [cX4_M7]; exact upG_2 _ _ _)
  change VC (gw G (cX4_T7 (gt G) q)) mX4_init 66 [some (.ref q)] [] (cX4_M7 (gt G).length μ) True (.inl none) (cX4_T (gt G) q) (cX4_M (gt G).length μ)
  refine VC_fl_long (pcb := 69) (N := 40) (n := 40) (kf := 8) dX4_init_66 rfl (VC_bipush (v := 40) dX4_init_67 rfl) dX4_init_69 aw_long (by decide) (by decide) (Nat.le_of_ble_eq_true rfl) hz7 k_X4 (by decide) lk_RX4_38 rfl rfl rfl rfl (fun _ => ⟨rfl, rfl⟩) dX4_init_71 hq7 rfl ?_
  have hq8 : (cX4_T8 (gt G) q)[q]? = some (.inr (4, [some (some (gt G).length), some (some (cX4_T1 (gt G) q).length), some (some (cX4_T2 (gt G) q).length), some (some (cX4_T3 (gt G) q).length), some (some (cX4_T4 (gt G) q).length), some (some (cX4_T5 (gt G) q).length), some (some (cX4_T6 (gt G) q).length), none, some (some (cX4_T7 (gt G) q).length), some none, some none])) := aT_get (kd := 1) (N := 40) (kf := 8) hq7
  have hz8 : zb (cX4_T8 (gt G) q) (cX4_M8 (gt G).length μ) := zb_to hz7 (by rw [cX4_T8, aT_len]; exact Nat.le_add_right _ _) (by rw [cX4_M8]; exact upG_1 _ _ _) (by rw [cX4_M8]; exact upG_2 _ _ _)
  change VC (gw G (cX4_T8 (gt G) q)) mX4_init 74 [some (.ref q)] [] (cX4_M8 (gt G).length μ) True (.inl none) (cX4_T (gt G) q) (cX4_M (gt G).length μ)
  refine VC_fl_long (pcb := 77) (N := 40) (n := 40) (kf := 9) dX4_init_74 rfl (VC_bipush (v := 40) dX4_init_75 rfl) dX4_init_77 aw_long (by decide) (by decide) (Nat.le_of_ble_eq_true rfl) hz8 k_X4 (by decide) lk_RX4_41 rfl rfl rfl rfl (fun _ => ⟨rfl, rfl⟩) dX4_init_79 hq8 rfl ?_
  have hq9 : (cX4_T9 (gt G) q)[q]? = some (.inr (4, [some (some (gt G).length), some (some (cX4_T1 (gt G) q).length), some (some (cX4_T2 (gt G) q).length), some (some (cX4_T3 (gt G) q).length), some (some (cX4_T4 (gt G) q).length), some (some (cX4_T5 (gt G) q).length), some (some (cX4_T6 (gt G) q).length), none, some (some (cX4_T7 (gt G) q).length), some (some (cX4_T8 (gt G) q).length), some none])) := aT_get (kd := 1) (N := 40) (kf := 9) hq8
  have hz9 : zb (cX4_T9 (gt G) q) (cX4_M9 (gt G).length μ) := zb_to hz8 (by rw [cX4_T9, aT_len]; exact Nat.le_add_right _ _) (by rw [cX4_M9]; exact upG_1 _ _ _) (by rw [cX4_M9]; exact upG_2 _ _ _)
  change VC (gw G (cX4_T9 (gt G) q)) mX4_init 82 [some (.ref q)] [] (cX4_M9 (gt G).length μ) True (.inl none) (cX4_T (gt G) q) (cX4_M (gt G).length μ)
  refine VC_fl_long (pcb := 85) (N := 40) (n := 40) (kf := 10) dX4_init_82 rfl (VC_bipush (v := 40) dX4_init_83 rfl) dX4_init_85 aw_long (by decide) (by decide) (Nat.le_of_ble_eq_true rfl) hz9 k_X4 (by decide) lk_RX4_44 rfl rfl rfl rfl (fun _ => ⟨rfl, rfl⟩) dX4_init_87 hq9 rfl ?_
  have hq10 : (cX4_T10 (gt G) q)[q]? = some (.inr (4, [some (some (gt G).length), some (some (cX4_T1 (gt G) q).length), some (some (cX4_T2 (gt G) q).length), some (some (cX4_T3 (gt G) q).length), some (some (cX4_T4 (gt G) q).length), some (some (cX4_T5 (gt G) q).length), some (some (cX4_T6 (gt G) q).length), none, some (some (cX4_T7 (gt G) q).length), some (some (cX4_T8 (gt G) q).length), some (some (cX4_T9 (gt G) q).length)])) := aT_get (kd := 1) (N := 40) (kf := 10) hq9
  have hz10 : zb (cX4_T10 (gt G) q) (cX4_M10 (gt G).length μ) := zb_to hz9 (by rw [cX4_T10, aT_len]; exact Nat.le_add_right _ _) (by rw [cX4_M10]; exact upG_1 _ _ _) (by rw [cX4_M10]; exact upG_2 _ _ _)
  change VC (gw G (cX4_T10 (gt G) q)) mX4_init 90 [some (.ref q)] [] (cX4_M10 (gt G).length μ) True (.inl none) (cX4_T (gt G) q) (cX4_M (gt G).length μ)
  exact VC_vretT rfl dX4_init_90
def mX6_init : MT := (yX6_init, cX6_init, 1, none, RX6, 3, 63, none)
theorem ok_mX6_init : mOK mX6_init 0 := ⟨bigW_k1 (List.mem_of_getElem? (i := 22) (by decide +kernel)) (by decide +kernel), in_TallTowers, ⟨pl_TallTowers.2.1, pl_TallTowers.2.2, pd_12⟩, pl_TallTowers.1, rfl⟩
theorem im_X6 : Cond.instanceMethod yX6_init ∈ bigW := bigW_k1 (List.mem_of_getElem? (i := 21) (by decide +kernel)) (by decide +kernel)
theorem ii_X6 : Cond.instantiable RX6 5 ∈ bigW := bigW_k1 (List.mem_of_getElem? (i := 19) (by decide +kernel)) (by decide +kernel)
theorem oi_X6 : Cond.methodLink RX6 3 Lib.objectInit ∈ bigW := bigW_k1 (List.mem_of_getElem? (i := 23) (by decide +kernel)) (by decide +kernel)
theorem cl_RX6_9 : Cond.classLink RX6 9 RX2 ∈ bigW := bigW_k1 (List.mem_of_getElem? (i := 26) (by decide +kernel)) (by decide +kernel)
theorem cl_RX6_16 : Cond.classLink RX6 16 RX0 ∈ bigW := bigW_k1 (List.mem_of_getElem? (i := 41) (by decide +kernel)) (by decide +kernel)
theorem cl_RX6_26 : Cond.classLink RX6 26 RX4 ∈ bigW := bigW_k1 (List.mem_of_getElem? (i := 235) (by decide +kernel)) (by decide +kernel)
def cX6_T1 (T : List Ent) (q : Nat) : List Ent := pt (cX2_T (T ++ [e0_X2]) T.length) q 0 T.length
def cX6_M1 (L : Nat) (μ : Mem) : Mem := cX2_M (L + 1) (upG μ 1 2)
theorem cX6_l1 (T : List Ent) (q : Nat) : (cX6_T1 T q).length = T.length + 2 := by rw [cX6_T1, pt_len, cX2_l, List.length_append]; rfl
theorem cX6_g1 (T : List Ent) (q : Nat) : Gr T (cX6_T1 T q) q := (Gr.new (cX2_g _ _)).tr (Gr.put _ q _ _)
theorem cX6_m1 (L : Nat) (μ : Mem) : (cX6_M1 L μ).2.2 = (μ.2.2.1 + 2, μ.2.2.2 + 962) := by simp only [cX6_M1, cX2_m, upG_3, Nat.add_assoc, Nat.reduceAdd]
def cX6_T2 (T : List Ent) (q : Nat) : List Ent := pt (cX0_T ((cX6_T1 T q) ++ [e0_X0]) (cX6_T1 T q).length) q 1 (cX6_T1 T q).length
def cX6_M2 (L : Nat) (μ : Mem) : Mem := cX0_M (L + 3) (upG (cX6_M1 L μ) 1 7)
theorem cX6_l2 (T : List Ent) (q : Nat) : (cX6_T2 T q).length = T.length + 31 := by rw [cX6_T2, pt_len, cX0_l, List.length_append, cX6_l1]; rfl
theorem cX6_g2 (T : List Ent) (q : Nat) : Gr T (cX6_T2 T q) q := (cX6_g1 T q).tr ((Gr.new (cX0_g _ _)).tr (Gr.put _ q _ _))
theorem cX6_m2 (L : Nat) (μ : Mem) : (cX6_M2 L μ).2.2 = (μ.2.2.1 + 31, μ.2.2.2 + 9212) := by simp only [cX6_M2, cX0_m, upG_3, cX6_m1, Nat.add_assoc, Nat.reduceAdd]
def cX6_T3 (T : List Ent) (q : Nat) : List Ent := pt (cX0_T ((cX6_T2 T q) ++ [e0_X0]) (cX6_T2 T q).length) q 2 (cX6_T2 T q).length
def cX6_M3 (L : Nat) (μ : Mem) : Mem := cX0_M (L + 32) (upG (cX6_M2 L μ) 1 7)
theorem cX6_l3 (T : List Ent) (q : Nat) : (cX6_T3 T q).length = T.length + 60 := by rw [cX6_T3, pt_len, cX0_l, List.length_append, cX6_l2]; rfl
theorem cX6_g3 (T : List Ent) (q : Nat) : Gr T (cX6_T3 T q) q := (cX6_g2 T q).tr ((Gr.new (cX0_g _ _)).tr (Gr.put _ q _ _))
theorem cX6_m3 (L : Nat) (μ : Mem) : (cX6_M3 L μ).2.2 = (μ.2.2.1 + 60, μ.2.2.2 + 17462) := by simp only [cX6_M3, cX0_m, upG_3, cX6_m2, Nat.add_assoc, Nat.reduceAdd]
def cX6_T4 (T : List Ent) (q : Nat) : List Ent := pt (cX4_T ((cX6_T3 T q) ++ [e0_X4]) (cX6_T3 T q).length) q 3 (cX6_T3 T q).length
def cX6_M4 (L : Nat) (μ : Mem) : Mem := cX4_M (L + 61) (upG (cX6_M3 L μ) 1 11)
theorem cX6_l4 (T : List Ent) (q : Nat) : (cX6_T4 T q).length = T.length + 83 := by rw [cX6_T4, pt_len, cX4_l, List.length_append, cX6_l3]; rfl
theorem cX6_g4 (T : List Ent) (q : Nat) : Gr T (cX6_T4 T q) q := (cX6_g3 T q).tr ((Gr.new (cX4_g _ _)).tr (Gr.put _ q _ _))
theorem cX6_m4 (L : Nat) (μ : Mem) : (cX6_M4 L μ).2.2 = (μ.2.2.1 + 83, μ.2.2.2 + 18259) := by simp only [cX6_M4, cX4_m, upG_3, cX6_m3, Nat.add_assoc, Nat.reduceAdd]
def cX6_T5 (T : List Ent) (q : Nat) : List Ent := aT 0 3 q 4 (cX6_T4 T q)
def cX6_M5 (L : Nat) (μ : Mem) : Mem := upG (cX6_M4 L μ) 1 3
theorem cX6_l5 (T : List Ent) (q : Nat) : (cX6_T5 T q).length = T.length + 84 := by rw [cX6_T5, aT_len, cX6_l4]
theorem cX6_g5 (T : List Ent) (q : Nat) : Gr T (cX6_T5 T q) q := (cX6_g4 T q).tr (aT_gr _ _ q _ _)
theorem cX6_m5 (L : Nat) (μ : Mem) : (cX6_M5 L μ).2.2 = (μ.2.2.1 + 84, μ.2.2.2 + 18262) := by rw [cX6_M5, upG_3, cX6_m4]
def cX6_T (T : List Ent) (q : Nat) : List Ent := cX6_T5 T q
def cX6_M (L : Nat) (μ : Mem) : Mem := cX6_M5 L μ
def e0_X6 : Ent := .inr (6, [some none, some none, some none, some none, some none])
theorem cX6_l (T : List Ent) (q : Nat) : (cX6_T T q).length = T.length + 84 := cX6_l5 T q
theorem cX6_g (T : List Ent) (q : Nat) : Gr T (cX6_T T q) q := cX6_g5 T q
theorem cX6_m (L : Nat) (μ : Mem) : (cX6_M L μ).2.2 = (μ.2.2.1 + 84, μ.2.2.2 + 18262) := cX6_m5 L μ
theorem cX6_z (T : List Ent) (q : Nat) (μ : Mem) (h : zb T μ) : zb (cX6_T T q) (cX6_M T.length μ) := by
  have w1 : zb (T ++ [(e0_X2 : Ent)]) (upG μ 1 2) := zb_to h (by rw [List.length_append]; exact Nat.le_add_right _ _) (upG_1 _ _ _) (upG_2 _ _ _)
  have e1 : (T ++ [(e0_X2 : Ent)]).length = T.length + 1 := by rw [List.length_append]; rfl
  have y1 := cX2_z (T ++ [e0_X2]) T.length _ w1
  rw [e1] at y1
  have z1 : zb (cX6_T1 T q) (cX6_M1 T.length μ) := zb_to y1 (by rw [cX6_T1, pt_len]; exact Nat.le_refl _) (by rw [cX6_M1]) (by rw [cX6_M1])
  have w2 : zb ((cX6_T1 T q) ++ [(e0_X0 : Ent)]) (upG (cX6_M1 T.length μ) 1 7) := zb_to z1 (by rw [List.length_append]; exact Nat.le_add_right _ _) (upG_1 _ _ _) (upG_2 _ _ _)
  have e2 : ((cX6_T1 T q) ++ [(e0_X0 : Ent)]).length = T.length + 3 := by rw [List.length_append, cX6_l1]; rfl
  have y2 := cX0_z ((cX6_T1 T q) ++ [e0_X0]) (cX6_T1 T q).length _ w2
  rw [e2] at y2
  have z2 : zb (cX6_T2 T q) (cX6_M2 T.length μ) := zb_to y2 (by rw [cX6_T2, pt_len]; exact Nat.le_refl _) (by rw [cX6_M2]) (by rw [cX6_M2])
  have w3 : zb ((cX6_T2 T q) ++ [(e0_X0 : Ent)]) (upG (cX6_M2 T.length μ) 1 7) := zb_to z2 (by rw [List.length_append]; exact Nat.le_add_right _ _) (upG_1 _ _ _) (upG_2 _ _ _)
  have e3 : ((cX6_T2 T q) ++ [(e0_X0 : Ent)]).length = T.length + 32 := by rw [List.length_append, cX6_l2]; rfl
  have y3 := cX0_z ((cX6_T2 T q) ++ [e0_X0]) (cX6_T2 T q).length _ w3
  rw [e3] at y3
  have z3 : zb (cX6_T3 T q) (cX6_M3 T.length μ) := zb_to y3 (by rw [cX6_T3, pt_len]; exact Nat.le_refl _) (by rw [cX6_M3]) (by rw [cX6_M3])
  have w4 : zb ((cX6_T3 T q) ++ [(e0_X4 : Ent)]) (upG (cX6_M3 T.length μ) 1 11) := zb_to z3 (by rw [List.length_append]; exact Nat.le_add_right _ _) (upG_1 _ _ _) (upG_2 _ _ _)
  have e4 : ((cX6_T3 T q) ++ [(e0_X4 : Ent)]).length = T.length + 61 := by rw [List.length_append, cX6_l3]; rfl
  have y4 := cX4_z ((cX6_T3 T q) ++ [e0_X4]) (cX6_T3 T q).length _ w4
  rw [e4] at y4
  have z4 : zb (cX6_T4 T q) (cX6_M4 T.length μ) := zb_to y4 (by rw [cX6_T4, pt_len]; exact Nat.le_refl _) (by rw [cX6_M4]) (by rw [cX6_M4])
  have z5 : zb (cX6_T5 T q) (cX6_M5 T.length μ) := zb_to z4 (by rw [cX6_T5, aT_len]; exact Nat.le_add_right _ _) (by rw [cX6_M5]; exact upG_1 _ _ _) (by rw [cX6_M5]; exact upG_2 _ _ _)
  exact z5
set_option maxRecDepth 20000 in
set_option maxHeartbeats 1500000 in
theorem VMC_X6 (G : GX) (q : Nat) (μ : Mem) (hq : (gt G)[q]? = some (.inr (6, [some none, some none, some none, some none, some none]))) (hz : zb (gt G) μ) : VMC G mX6_init [.ref q] μ (cX6_T (gt G) q) (cX6_M (gt G).length μ) := by
  refine VMC_entry ok_mX6_init rfl rfl rfl (Nat.le_of_ble_eq_true rfl) ?_
  refine VC_aload_n dX6_init_0 rfl ?_
  refine VC_objInit dX6_init_1 oi_X6 ob_i ob_c (by decide) (Nat.le_of_ble_eq_true rfl) ?_
  change VC (gw G (gt G)) mX6_init 4 [some (.ref q)] [] μ True (.inl none) (cX6_T (gt G) q) (cX6_M (gt G).length μ)
  have n1 : (gt G).length = (gt G).length + 0 := rfl
  have w1 : ((gt G) ++ [(e0_X2 : Ent)])[(gt G).length]? = some (e0_X2) := by rw [List.getElem?_append_right (Nat.le_refl _), Nat.sub_self]; rfl
  have v1 : zb ((gt G) ++ [(e0_X2 : Ent)]) (upG μ 1 2) := zb_to hz (by rw [List.length_append]; exact Nat.le_add_right _ _) (upG_1 _ _ _) (upG_2 _ _ _)
  have u1 := VMC_X2 (gw G ((gt G) ++ [e0_X2])) (gt G).length (upG μ 1 2) w1 v1
  have e1 : ((gt G) ++ [(e0_X2 : Ent)]).length = (gt G).length + 1 := by rw [List.length_append, n1]; rfl
  have u1 : VMC (gw G ((gt G) ++ [e0_X2])) mX2_init [.ref (gt G).length] (upG μ 1 2) (cX2_T ((gt G) ++ [e0_X2]) (gt G).length) (cX2_M ((gt G).length + 1) (upG μ 1 2)) := by rw [← e1]; exact u1
  have t1 : (cX2_T ((gt G) ++ [(e0_X2 : Ent)]) (gt G).length).length = ((gt G) ++ [(e0_X2 : Ent)]).length + ((cX2_M ((gt G).length + 1) (upG μ 1 2)).2.2.1 - (upG μ 1 2).2.2.1) := by rw [cX2_l, cX2_m, Nat.add_sub_cancel_left]
  have x1 : q < (gt G).length := (List.getElem?_eq_some_iff.mp hq).1
  have g1 := ((Gr.new (q := (gt G).length) (cX2_g ((gt G) ++ [(e0_X2 : Ent)]) (gt G).length)).2 q x1 (Nat.ne_of_lt x1)).trans hq
  refine VC_fl_obj (T := cX2_T ((gt G) ++ [e0_X2]) (gt G).length) (μ2 := cX2_M ((gt G).length + 1) (upG μ 1 2)) (N := 2) (kf := 0) dX6_init_4 rfl dX6_init_5 k_X2 cl_RX6_9 ii_X2 in_TallTowers_Log (by decide) (fun j hj => by (match j, hj with | 0, _ => rfl | 1, _ => rfl | j + 2, hj => exact absurd hj (by omega))) dX6_init_8 hz (VC_cIN dX6_init_9 ok_mX2_init rfl rfl rfl im_X2 (by decide +kernel) (by decide) (by decide) (Nat.le_of_ble_eq_true rfl) t1 u1) k_X6 (by decide) lk_RX6_12 rfl rfl rfl rfl (fun _ => ⟨rfl, rfl⟩) dX6_init_12 g1 rfl ?_
  have hq1 : (cX6_T1 (gt G) q)[q]? = some (.inr (6, [some (some (gt G).length), some none, some none, some none, some none])) := pt_get (kf := 0) (r := (gt G).length) g1
  have y1 := cX2_z ((gt G) ++ [e0_X2]) (gt G).length _ v1
  rw [e1] at y1
  have hz1 : zb (cX6_T1 (gt G) q) (cX6_M1 (gt G).length μ) := zb_to y1 (by rw [cX6_T1, pt_len]; exact Nat.le_refl _) (by rw [cX6_M1]) (by rw [cX6_M1])
  change VC (gw G (cX6_T1 (gt G) q)) mX6_init 15 [some (.ref q)] [] (cX6_M1 (gt G).length μ) True (.inl none) (cX6_T (gt G) q) (cX6_M (gt G).length μ)
  have n2 : (cX6_T1 (gt G) q).length = (gt G).length + 2 := cX6_l1 (gt G) q
  have w2 : ((cX6_T1 (gt G) q) ++ [(e0_X0 : Ent)])[(cX6_T1 (gt G) q).length]? = some (e0_X0) := by rw [List.getElem?_append_right (Nat.le_refl _), Nat.sub_self]; rfl
  have v2 : zb ((cX6_T1 (gt G) q) ++ [(e0_X0 : Ent)]) (upG (cX6_M1 (gt G).length μ) 1 7) := zb_to hz1 (by rw [List.length_append]; exact Nat.le_add_right _ _) (upG_1 _ _ _) (upG_2 _ _ _)
  have u2 := VMC_X0 (gw G ((cX6_T1 (gt G) q) ++ [e0_X0])) (cX6_T1 (gt G) q).length (upG (cX6_M1 (gt G).length μ) 1 7) w2 v2
  have e2 : ((cX6_T1 (gt G) q) ++ [(e0_X0 : Ent)]).length = (gt G).length + 3 := by rw [List.length_append, n2]; rfl
  have u2 : VMC (gw G ((cX6_T1 (gt G) q) ++ [e0_X0])) mX0_init [.ref (cX6_T1 (gt G) q).length] (upG (cX6_M1 (gt G).length μ) 1 7) (cX0_T ((cX6_T1 (gt G) q) ++ [e0_X0]) (cX6_T1 (gt G) q).length) (cX0_M ((gt G).length + 3) (upG (cX6_M1 (gt G).length μ) 1 7)) := by rw [← e2]; exact u2
  have t2 : (cX0_T ((cX6_T1 (gt G) q) ++ [(e0_X0 : Ent)]) (cX6_T1 (gt G) q).length).length = ((cX6_T1 (gt G) q) ++ [(e0_X0 : Ent)]).length + ((cX0_M ((gt G).length + 3) (upG (cX6_M1 (gt G).length μ) 1 7)).2.2.1 - (upG (cX6_M1 (gt G).length μ) 1 7).2.2.1) := by rw [cX0_l, cX0_m, Nat.add_sub_cancel_left]
  have x2 : q < (cX6_T1 (gt G) q).length := (List.getElem?_eq_some_iff.mp hq1).1
  have g2 := ((Gr.new (q := (cX6_T1 (gt G) q).length) (cX0_g ((cX6_T1 (gt G) q) ++ [(e0_X0 : Ent)]) (cX6_T1 (gt G) q).length)).2 q x2 (Nat.ne_of_lt x2)).trans hq1
  refine VC_fl_obj (T := cX0_T ((cX6_T1 (gt G) q) ++ [e0_X0]) (cX6_T1 (gt G) q).length) (μ2 := cX0_M ((gt G).length + 3) (upG (cX6_M1 (gt G).length μ) 1 7)) (N := 7) (kf := 1) dX6_init_15 rfl dX6_init_16 k_X0 cl_RX6_16 ii_X0 in_TallTowers_Book (by decide) (fun j hj => by (match j, hj with | 0, _ => rfl | 1, _ => rfl | 2, _ => rfl | 3, _ => rfl | 4, _ => rfl | 5, _ => rfl | 6, _ => rfl | j + 7, hj => exact absurd hj (by omega))) dX6_init_19 hz1 (VC_cIN dX6_init_20 ok_mX0_init rfl rfl rfl im_X0 (by decide +kernel) (by decide) (by decide) (Nat.le_of_ble_eq_true rfl) t2 u2) k_X6 (by decide) lk_RX6_19 rfl rfl rfl rfl (fun _ => ⟨rfl, rfl⟩) dX6_init_23 g2 rfl ?_
  have hq2 : (cX6_T2 (gt G) q)[q]? = some (.inr (6, [some (some (gt G).length), some (some (cX6_T1 (gt G) q).length), some none, some none, some none])) := pt_get (kf := 1) (r := (cX6_T1 (gt G) q).length) g2
  have y2 := cX0_z ((cX6_T1 (gt G) q) ++ [e0_X0]) (cX6_T1 (gt G) q).length _ v2
  rw [e2] at y2
  have hz2 : zb (cX6_T2 (gt G) q) (cX6_M2 (gt G).length μ) := zb_to y2 (by rw [cX6_T2, pt_len]; exact Nat.le_refl _) (by rw [cX6_M2]) (by rw [cX6_M2])
  change VC (gw G (cX6_T2 (gt G) q)) mX6_init 26 [some (.ref q)] [] (cX6_M2 (gt G).length μ) True (.inl none) (cX6_T (gt G) q) (cX6_M (gt G).length μ)
  have n3 : (cX6_T2 (gt G) q).length = (gt G).length + 31 := cX6_l2 (gt G) q
  have w3 : ((cX6_T2 (gt G) q) ++ [(e0_X0 : Ent)])[(cX6_T2 (gt G) q).length]? = some (e0_X0) := by rw [List.getElem?_append_right (Nat.le_refl _), Nat.sub_self]; rfl
  have v3 : zb ((cX6_T2 (gt G) q) ++ [(e0_X0 : Ent)]) (upG (cX6_M2 (gt G).length μ) 1 7) := zb_to hz2 (by rw [List.length_append]; exact Nat.le_add_right _ _) (upG_1 _ _ _) (upG_2 _ _ _)
  have u3 := VMC_X0 (gw G ((cX6_T2 (gt G) q) ++ [e0_X0])) (cX6_T2 (gt G) q).length (upG (cX6_M2 (gt G).length μ) 1 7) w3 v3
  have e3 : ((cX6_T2 (gt G) q) ++ [(e0_X0 : Ent)]).length = (gt G).length + 32 := by rw [List.length_append, n3]; rfl
  have u3 : VMC (gw G ((cX6_T2 (gt G) q) ++ [e0_X0])) mX0_init [.ref (cX6_T2 (gt G) q).length] (upG (cX6_M2 (gt G).length μ) 1 7) (cX0_T ((cX6_T2 (gt G) q) ++ [e0_X0]) (cX6_T2 (gt G) q).length) (cX0_M ((gt G).length + 32) (upG (cX6_M2 (gt G).length μ) 1 7)) := by rw [← e3]; exact u3
  have t3 : (cX0_T ((cX6_T2 (gt G) q) ++ [(e0_X0 : Ent)]) (cX6_T2 (gt G) q).length).length = ((cX6_T2 (gt G) q) ++ [(e0_X0 : Ent)]).length + ((cX0_M ((gt G).length + 32) (upG (cX6_M2 (gt G).length μ) 1 7)).2.2.1 - (upG (cX6_M2 (gt G).length μ) 1 7).2.2.1) := by rw [cX0_l, cX0_m, Nat.add_sub_cancel_left]
  have x3 : q < (cX6_T2 (gt G) q).length := (List.getElem?_eq_some_iff.mp hq2).1
  have g3 := ((Gr.new (q := (cX6_T2 (gt G) q).length) (cX0_g ((cX6_T2 (gt G) q) ++ [(e0_X0 : Ent)]) (cX6_T2 (gt G) q).length)).2 q x3 (Nat.ne_of_lt x3)).trans hq2
  refine VC_fl_obj (T := cX0_T ((cX6_T2 (gt G) q) ++ [e0_X0]) (cX6_T2 (gt G) q).length) (μ2 := cX0_M ((gt G).length + 32) (upG (cX6_M2 (gt G).length μ) 1 7)) (N := 7) (kf := 2) dX6_init_26 rfl dX6_init_27 k_X0 cl_RX6_16 ii_X0 in_TallTowers_Book (by decide) (fun j hj => by (match j, hj with | 0, _ => rfl | 1, _ => rfl | 2, _ => rfl | 3, _ => rfl | 4, _ => rfl | 5, _ => rfl | 6, _ => rfl | j + 7, hj => exact absurd hj (by omega))) dX6_init_30 hz2 (VC_cIN dX6_init_31 ok_mX0_init rfl rfl rfl im_X0 (by decide +kernel) (by decide) (by decide) (Nat.le_of_ble_eq_true rfl) t3 u3) k_X6 (by decide) lk_RX6_23 rfl rfl rfl rfl (fun _ => ⟨rfl, rfl⟩) dX6_init_34 g3 rfl ?_
  have hq3 : (cX6_T3 (gt G) q)[q]? = some (.inr (6, [some (some (gt G).length), some (some (cX6_T1 (gt G) q).length), some (some (cX6_T2 (gt G) q).length), some none, some none])) := pt_get (kf := 2) (r := (cX6_T2 (gt G) q).length) g3
  have y3 := cX0_z ((cX6_T2 (gt G) q) ++ [e0_X0]) (cX6_T2 (gt G) q).length _ v3
  rw [e3] at y3
  have hz3 : zb (cX6_T3 (gt G) q) (cX6_M3 (gt G).length μ) := zb_to y3 (by rw [cX6_T3, pt_len]; exact Nat.le_refl _) (by rw [cX6_M3]) (by rw [cX6_M3])
  change VC (gw G (cX6_T3 (gt G) q)) mX6_init 37 [some (.ref q)] [] (cX6_M3 (gt G).length μ) True (.inl none) (cX6_T (gt G) q) (cX6_M (gt G).length μ)
  have n4 : (cX6_T3 (gt G) q).length = (gt G).length + 60 := cX6_l3 (gt G) q
  have w4 : ((cX6_T3 (gt G) q) ++ [(e0_X4 : Ent)])[(cX6_T3 (gt G) q).length]? = some (e0_X4) := by rw [List.getElem?_append_right (Nat.le_refl _), Nat.sub_self]; rfl
  have v4 : zb ((cX6_T3 (gt G) q) ++ [(e0_X4 : Ent)]) (upG (cX6_M3 (gt G).length μ) 1 11) := zb_to hz3 (by rw [List.length_append]; exact Nat.le_add_right _ _) (upG_1 _ _ _) (upG_2 _ _ _)
  have u4 := VMC_X4 (gw G ((cX6_T3 (gt G) q) ++ [e0_X4])) (cX6_T3 (gt G) q).length (upG (cX6_M3 (gt G).length μ) 1 11) w4 v4
  have e4 : ((cX6_T3 (gt G) q) ++ [(e0_X4 : Ent)]).length = (gt G).length + 61 := by rw [List.length_append, n4]; rfl
  have u4 : VMC (gw G ((cX6_T3 (gt G) q) ++ [e0_X4])) mX4_init [.ref (cX6_T3 (gt G) q).length] (upG (cX6_M3 (gt G).length μ) 1 11) (cX4_T ((cX6_T3 (gt G) q) ++ [e0_X4]) (cX6_T3 (gt G) q).length) (cX4_M ((gt G).length + 61) (upG (cX6_M3 (gt G).length μ) 1 11)) := by rw [← e4]; exact u4
  have t4 : (cX4_T ((cX6_T3 (gt G) q) ++ [(e0_X4 : Ent)]) (cX6_T3 (gt G) q).length).length = ((cX6_T3 (gt G) q) ++ [(e0_X4 : Ent)]).length + ((cX4_M ((gt G).length + 61) (upG (cX6_M3 (gt G).length μ) 1 11)).2.2.1 - (upG (cX6_M3 (gt G).length μ) 1 11).2.2.1) := by rw [cX4_l, cX4_m, Nat.add_sub_cancel_left]
  have x4 : q < (cX6_T3 (gt G) q).length := (List.getElem?_eq_some_iff.mp hq3).1
  have g4 := ((Gr.new (q := (cX6_T3 (gt G) q).length) (cX4_g ((cX6_T3 (gt G) q) ++ [(e0_X4 : Ent)]) (cX6_T3 (gt G) q).length)).2 q x4 (Nat.ne_of_lt x4)).trans hq3
  refine VC_fl_obj (T := cX4_T ((cX6_T3 (gt G) q) ++ [e0_X4]) (cX6_T3 (gt G) q).length) (μ2 := cX4_M ((gt G).length + 61) (upG (cX6_M3 (gt G).length μ) 1 11)) (N := 11) (kf := 3) dX6_init_37 rfl dX6_init_38 k_X4 cl_RX6_26 ii_X4 in_TallTowers_Spreader (by decide) (fun j hj => by (match j, hj with | 0, _ => rfl | 1, _ => rfl | 2, _ => rfl | 3, _ => rfl | 4, _ => rfl | 5, _ => rfl | 6, _ => rfl | 7, _ => rfl | 8, _ => rfl | 9, _ => rfl | 10, _ => rfl | j + 11, hj => exact absurd hj (by omega))) dX6_init_41 hz3 (VC_cIN dX6_init_42 ok_mX4_init rfl rfl rfl im_X4 (by decide +kernel) (by decide) (by decide) (Nat.le_of_ble_eq_true rfl) t4 u4) k_X6 (by decide) lk_RX6_29 rfl rfl rfl rfl (fun _ => ⟨rfl, rfl⟩) dX6_init_45 g4 rfl ?_
  have hq4 : (cX6_T4 (gt G) q)[q]? = some (.inr (6, [some (some (gt G).length), some (some (cX6_T1 (gt G) q).length), some (some (cX6_T2 (gt G) q).length), some (some (cX6_T3 (gt G) q).length), some none])) := pt_get (kf := 3) (r := (cX6_T3 (gt G) q).length) g4
  have y4 := cX4_z ((cX6_T3 (gt G) q) ++ [e0_X4]) (cX6_T3 (gt G) q).length _ v4
  rw [e4] at y4
  have hz4 : zb (cX6_T4 (gt G) q) (cX6_M4 (gt G).length μ) := zb_to y4 (by rw [cX6_T4, pt_len]; exact Nat.le_refl _) (by rw [cX6_M4]) (by rw [cX6_M4])
  change VC (gw G (cX6_T4 (gt G) q)) mX6_init 48 [some (.ref q)] [] (cX6_M4 (gt G).length μ) True (.inl none) (cX6_T (gt G) q) (cX6_M (gt G).length μ)
  refine VC_fl_int (pcb := 50) (N := 3) (n := 3) (kf := 4) dX6_init_48 rfl (VC_iconst (v := 3) dX6_init_49 rfl) dX6_init_50 aw_int (by decide) (by decide) (Nat.le_of_ble_eq_true rfl) hz4 k_X6 (by decide) lk_RX6_33 rfl rfl rfl rfl (fun _ => ⟨rfl, rfl⟩) dX6_init_52 hq4 rfl ?_
  have hq5 : (cX6_T5 (gt G) q)[q]? = some (.inr (6, [some (some (gt G).length), some (some (cX6_T1 (gt G) q).length), some (some (cX6_T2 (gt G) q).length), some (some (cX6_T3 (gt G) q).length), some (some (cX6_T4 (gt G) q).length)])) := aT_get (kd := 0) (N := 3) (kf := 4) hq4
  have hz5 : zb (cX6_T5 (gt G) q) (cX6_M5 (gt G).length μ) := zb_to hz4 (by rw [cX6_T5, aT_len]; exact Nat.le_add_right _ _) (by rw [cX6_M5]; exact upG_1 _ _ _) (by rw [cX6_M5]; exact upG_2 _ _ _)
  change VC (gw G (cX6_T5 (gt G) q)) mX6_init 55 [some (.ref q)] [] (cX6_M5 (gt G).length μ) True (.inl none) (cX6_T (gt G) q) (cX6_M (gt G).length μ)
  exact VC_vretT rfl dX6_init_55
def mX7_init : MT := (yX7_init, cX7_init, 1, none, RX7, 1, 12, none)
theorem ok_mX7_init : mOK mX7_init 0 := ⟨bigW_k5 (List.mem_of_getElem? (i := 235) (by decide +kernel)) (by decide +kernel), in_TallTowersModel, ⟨pl_TallTowersModel.2.1, pl_TallTowersModel.2.2, pd_12⟩, pl_TallTowersModel.1, rfl⟩
theorem im_X7 : Cond.instanceMethod yX7_init ∈ bigW := bigW_k5 (List.mem_of_getElem? (i := 234) (by decide +kernel)) (by decide +kernel)
theorem ii_X7 : Cond.instantiable RX7 50 ∈ bigW := bigW_k5 (List.mem_of_getElem? (i := 232) (by decide +kernel)) (by decide +kernel)
theorem oi_X7 : Cond.methodLink RX7 23 Lib.objectInit ∈ bigW := bigW_k5 (List.mem_of_getElem? (i := 236) (by decide +kernel)) (by decide +kernel)
def cX7_T1 (T : List Ent) (q : Nat) : List Ent := aT 0 3 q 1 (T)
def cX7_M1 (L : Nat) (μ : Mem) : Mem := upG (μ) 1 3
theorem cX7_l1 (T : List Ent) (q : Nat) : (cX7_T1 T q).length = T.length + 1 := by rw [cX7_T1, aT_len]
theorem cX7_g1 (T : List Ent) (q : Nat) : Gr T (cX7_T1 T q) q := aT_gr _ _ q _ T
theorem cX7_m1 (L : Nat) (μ : Mem) : (cX7_M1 L μ).2.2 = (μ.2.2.1 + 1, μ.2.2.2 + 3) := by rfl
def cX7_T2 (T : List Ent) (q : Nat) : List Ent := aT 0 160 q 2 (cX7_T1 T q)
def cX7_M2 (L : Nat) (μ : Mem) : Mem := upG (cX7_M1 L μ) 1 160
theorem cX7_l2 (T : List Ent) (q : Nat) : (cX7_T2 T q).length = T.length + 2 := by rw [cX7_T2, aT_len, cX7_l1]
theorem cX7_g2 (T : List Ent) (q : Nat) : Gr T (cX7_T2 T q) q := (cX7_g1 T q).tr (aT_gr _ _ q _ _)
theorem cX7_m2 (L : Nat) (μ : Mem) : (cX7_M2 L μ).2.2 = (μ.2.2.1 + 2, μ.2.2.2 + 163) := by rw [cX7_M2, upG_3, cX7_m1]
def cX7_T3 (T : List Ent) (q : Nat) : List Ent := aT 0 160 q 3 (cX7_T2 T q)
def cX7_M3 (L : Nat) (μ : Mem) : Mem := upG (cX7_M2 L μ) 1 160
theorem cX7_l3 (T : List Ent) (q : Nat) : (cX7_T3 T q).length = T.length + 3 := by rw [cX7_T3, aT_len, cX7_l2]
theorem cX7_g3 (T : List Ent) (q : Nat) : Gr T (cX7_T3 T q) q := (cX7_g2 T q).tr (aT_gr _ _ q _ _)
theorem cX7_m3 (L : Nat) (μ : Mem) : (cX7_M3 L μ).2.2 = (μ.2.2.1 + 3, μ.2.2.2 + 323) := by rw [cX7_M3, upG_3, cX7_m2]
def cX7_T4 (T : List Ent) (q : Nat) : List Ent := aT 0 640 q 4 (cX7_T3 T q)
def cX7_M4 (L : Nat) (μ : Mem) : Mem := upG (cX7_M3 L μ) 1 640
theorem cX7_l4 (T : List Ent) (q : Nat) : (cX7_T4 T q).length = T.length + 4 := by rw [cX7_T4, aT_len, cX7_l3]
theorem cX7_g4 (T : List Ent) (q : Nat) : Gr T (cX7_T4 T q) q := (cX7_g3 T q).tr (aT_gr _ _ q _ _)
theorem cX7_m4 (L : Nat) (μ : Mem) : (cX7_M4 L μ).2.2 = (μ.2.2.1 + 4, μ.2.2.2 + 963) := by rw [cX7_M4, upG_3, cX7_m3]
def cX7_T5 (T : List Ent) (q : Nat) : List Ent := aT 2 40 q 6 (cX7_T4 T q)
def cX7_M5 (L : Nat) (μ : Mem) : Mem := upG (cX7_M4 L μ) 1 40
theorem cX7_l5 (T : List Ent) (q : Nat) : (cX7_T5 T q).length = T.length + 5 := by rw [cX7_T5, aT_len, cX7_l4]
theorem cX7_g5 (T : List Ent) (q : Nat) : Gr T (cX7_T5 T q) q := (cX7_g4 T q).tr (aT_gr _ _ q _ _)
theorem cX7_m5 (L : Nat) (μ : Mem) : (cX7_M5 L μ).2.2 = (μ.2.2.1 + 5, μ.2.2.2 + 1003) := by rw [cX7_M5, upG_3, cX7_m4]
def cX7_T6 (T : List Ent) (q : Nat) : List Ent := aT 2 25 q 7 (cX7_T5 T q)
def cX7_M6 (L : Nat) (μ : Mem) : Mem := upG (cX7_M5 L μ) 1 25
theorem cX7_l6 (T : List Ent) (q : Nat) : (cX7_T6 T q).length = T.length + 6 := by rw [cX7_T6, aT_len, cX7_l5]
theorem cX7_g6 (T : List Ent) (q : Nat) : Gr T (cX7_T6 T q) q := (cX7_g5 T q).tr (aT_gr _ _ q _ _)
theorem cX7_m6 (L : Nat) (μ : Mem) : (cX7_M6 L μ).2.2 = (μ.2.2.1 + 6, μ.2.2.2 + 1028) := by rw [cX7_M6, upG_3, cX7_m5]
def cX7_T7 (T : List Ent) (q : Nat) : List Ent := aT 0 40 q 8 (cX7_T6 T q)
def cX7_M7 (L : Nat) (μ : Mem) : Mem := upG (cX7_M6 L μ) 1 40
theorem cX7_l7 (T : List Ent) (q : Nat) : (cX7_T7 T q).length = T.length + 7 := by rw [cX7_T7, aT_len, cX7_l6]
theorem cX7_g7 (T : List Ent) (q : Nat) : Gr T (cX7_T7 T q) q := (cX7_g6 T q).tr (aT_gr _ _ q _ _)
theorem cX7_m7 (L : Nat) (μ : Mem) : (cX7_M7 L μ).2.2 = (μ.2.2.1 + 7, μ.2.2.2 + 1068) := by rw [cX7_M7, upG_3, cX7_m6]
def cX7_T8 (T : List Ent) (q : Nat) : List Ent := aT 0 40 q 9 (cX7_T7 T q)
def cX7_M8 (L : Nat) (μ : Mem) : Mem := upG (cX7_M7 L μ) 1 40
theorem cX7_l8 (T : List Ent) (q : Nat) : (cX7_T8 T q).length = T.length + 8 := by rw [cX7_T8, aT_len, cX7_l7]
theorem cX7_g8 (T : List Ent) (q : Nat) : Gr T (cX7_T8 T q) q := (cX7_g7 T q).tr (aT_gr _ _ q _ _)
theorem cX7_m8 (L : Nat) (μ : Mem) : (cX7_M8 L μ).2.2 = (μ.2.2.1 + 8, μ.2.2.2 + 1108) := by rw [cX7_M8, upG_3, cX7_m7]
def cX7_T9 (T : List Ent) (q : Nat) : List Ent := aT 0 40 q 10 (cX7_T8 T q)
def cX7_M9 (L : Nat) (μ : Mem) : Mem := upG (cX7_M8 L μ) 1 40
theorem cX7_l9 (T : List Ent) (q : Nat) : (cX7_T9 T q).length = T.length + 9 := by rw [cX7_T9, aT_len, cX7_l8]
theorem cX7_g9 (T : List Ent) (q : Nat) : Gr T (cX7_T9 T q) q := (cX7_g8 T q).tr (aT_gr _ _ q _ _)
theorem cX7_m9 (L : Nat) (μ : Mem) : (cX7_M9 L μ).2.2 = (μ.2.2.1 + 9, μ.2.2.2 + 1148) := by rw [cX7_M9, upG_3, cX7_m8]
def cX7_T10 (T : List Ent) (q : Nat) : List Ent := aT 0 40 q 11 (cX7_T9 T q)
def cX7_M10 (L : Nat) (μ : Mem) : Mem := upG (cX7_M9 L μ) 1 40
theorem cX7_l10 (T : List Ent) (q : Nat) : (cX7_T10 T q).length = T.length + 10 := by rw [cX7_T10, aT_len, cX7_l9]
theorem cX7_g10 (T : List Ent) (q : Nat) : Gr T (cX7_T10 T q) q := (cX7_g9 T q).tr (aT_gr _ _ q _ _)
theorem cX7_m10 (L : Nat) (μ : Mem) : (cX7_M10 L μ).2.2 = (μ.2.2.1 + 10, μ.2.2.2 + 1188) := by rw [cX7_M10, upG_3, cX7_m9]
def cX7_T11 (T : List Ent) (q : Nat) : List Ent := aT 0 40 q 12 (cX7_T10 T q)
def cX7_M11 (L : Nat) (μ : Mem) : Mem := upG (cX7_M10 L μ) 1 40
theorem cX7_l11 (T : List Ent) (q : Nat) : (cX7_T11 T q).length = T.length + 11 := by rw [cX7_T11, aT_len, cX7_l10]
theorem cX7_g11 (T : List Ent) (q : Nat) : Gr T (cX7_T11 T q) q := (cX7_g10 T q).tr (aT_gr _ _ q _ _)
theorem cX7_m11 (L : Nat) (μ : Mem) : (cX7_M11 L μ).2.2 = (μ.2.2.1 + 11, μ.2.2.2 + 1228) := by rw [cX7_M11, upG_3, cX7_m10]
def cX7_T12 (T : List Ent) (q : Nat) : List Ent := aT 0 160 q 13 (cX7_T11 T q)
def cX7_M12 (L : Nat) (μ : Mem) : Mem := upG (cX7_M11 L μ) 1 160
theorem cX7_l12 (T : List Ent) (q : Nat) : (cX7_T12 T q).length = T.length + 12 := by rw [cX7_T12, aT_len, cX7_l11]
theorem cX7_g12 (T : List Ent) (q : Nat) : Gr T (cX7_T12 T q) q := (cX7_g11 T q).tr (aT_gr _ _ q _ _)
theorem cX7_m12 (L : Nat) (μ : Mem) : (cX7_M12 L μ).2.2 = (μ.2.2.1 + 12, μ.2.2.2 + 1388) := by rw [cX7_M12, upG_3, cX7_m11]
def cX7_T13 (T : List Ent) (q : Nat) : List Ent := aT 0 160 q 14 (cX7_T12 T q)
def cX7_M13 (L : Nat) (μ : Mem) : Mem := upG (cX7_M12 L μ) 1 160
theorem cX7_l13 (T : List Ent) (q : Nat) : (cX7_T13 T q).length = T.length + 13 := by rw [cX7_T13, aT_len, cX7_l12]
theorem cX7_g13 (T : List Ent) (q : Nat) : Gr T (cX7_T13 T q) q := (cX7_g12 T q).tr (aT_gr _ _ q _ _)
theorem cX7_m13 (L : Nat) (μ : Mem) : (cX7_M13 L μ).2.2 = (μ.2.2.1 + 13, μ.2.2.2 + 1548) := by rw [cX7_M13, upG_3, cX7_m12]
def cX7_T14 (T : List Ent) (q : Nat) : List Ent := aT 1 40 q 15 (cX7_T13 T q)
def cX7_M14 (L : Nat) (μ : Mem) : Mem := upG (cX7_M13 L μ) 1 40
theorem cX7_l14 (T : List Ent) (q : Nat) : (cX7_T14 T q).length = T.length + 14 := by rw [cX7_T14, aT_len, cX7_l13]
theorem cX7_g14 (T : List Ent) (q : Nat) : Gr T (cX7_T14 T q) q := (cX7_g13 T q).tr (aT_gr _ _ q _ _)
theorem cX7_m14 (L : Nat) (μ : Mem) : (cX7_M14 L μ).2.2 = (μ.2.2.1 + 14, μ.2.2.2 + 1588) := by rw [cX7_M14, upG_3, cX7_m13]
def cX7_T15 (T : List Ent) (q : Nat) : List Ent := aT 0 25 q 16 (cX7_T14 T q)
def cX7_M15 (L : Nat) (μ : Mem) : Mem := upG (cX7_M14 L μ) 1 25
theorem cX7_l15 (T : List Ent) (q : Nat) : (cX7_T15 T q).length = T.length + 15 := by rw [cX7_T15, aT_len, cX7_l14]
theorem cX7_g15 (T : List Ent) (q : Nat) : Gr T (cX7_T15 T q) q := (cX7_g14 T q).tr (aT_gr _ _ q _ _)
theorem cX7_m15 (L : Nat) (μ : Mem) : (cX7_M15 L μ).2.2 = (μ.2.2.1 + 15, μ.2.2.2 + 1613) := by rw [cX7_M15, upG_3, cX7_m14]
def cX7_T16 (T : List Ent) (q : Nat) : List Ent := aT 0 25 q 17 (cX7_T15 T q)
def cX7_M16 (L : Nat) (μ : Mem) : Mem := upG (cX7_M15 L μ) 1 25
theorem cX7_l16 (T : List Ent) (q : Nat) : (cX7_T16 T q).length = T.length + 16 := by rw [cX7_T16, aT_len, cX7_l15]
theorem cX7_g16 (T : List Ent) (q : Nat) : Gr T (cX7_T16 T q) q := (cX7_g15 T q).tr (aT_gr _ _ q _ _)
theorem cX7_m16 (L : Nat) (μ : Mem) : (cX7_M16 L μ).2.2 = (μ.2.2.1 + 16, μ.2.2.2 + 1638) := by rw [cX7_M16, upG_3, cX7_m15]
def cX7_T17 (T : List Ent) (q : Nat) : List Ent := aT 0 25 q 18 (cX7_T16 T q)
def cX7_M17 (L : Nat) (μ : Mem) : Mem := upG (cX7_M16 L μ) 1 25
theorem cX7_l17 (T : List Ent) (q : Nat) : (cX7_T17 T q).length = T.length + 17 := by rw [cX7_T17, aT_len, cX7_l16]
theorem cX7_g17 (T : List Ent) (q : Nat) : Gr T (cX7_T17 T q) q := (cX7_g16 T q).tr (aT_gr _ _ q _ _)
theorem cX7_m17 (L : Nat) (μ : Mem) : (cX7_M17 L μ).2.2 = (μ.2.2.1 + 17, μ.2.2.2 + 1663) := by rw [cX7_M17, upG_3, cX7_m16]
def cX7_T18 (T : List Ent) (q : Nat) : List Ent := aT 0 25 q 19 (cX7_T17 T q)
def cX7_M18 (L : Nat) (μ : Mem) : Mem := upG (cX7_M17 L μ) 1 25
theorem cX7_l18 (T : List Ent) (q : Nat) : (cX7_T18 T q).length = T.length + 18 := by rw [cX7_T18, aT_len, cX7_l17]
theorem cX7_g18 (T : List Ent) (q : Nat) : Gr T (cX7_T18 T q) q := (cX7_g17 T q).tr (aT_gr _ _ q _ _)
theorem cX7_m18 (L : Nat) (μ : Mem) : (cX7_M18 L μ).2.2 = (μ.2.2.1 + 18, μ.2.2.2 + 1688) := by rw [cX7_M18, upG_3, cX7_m17]
def cX7_T19 (T : List Ent) (q : Nat) : List Ent := aT 1 25 q 20 (cX7_T18 T q)
def cX7_M19 (L : Nat) (μ : Mem) : Mem := upG (cX7_M18 L μ) 1 25
theorem cX7_l19 (T : List Ent) (q : Nat) : (cX7_T19 T q).length = T.length + 19 := by rw [cX7_T19, aT_len, cX7_l18]
theorem cX7_g19 (T : List Ent) (q : Nat) : Gr T (cX7_T19 T q) q := (cX7_g18 T q).tr (aT_gr _ _ q _ _)
theorem cX7_m19 (L : Nat) (μ : Mem) : (cX7_M19 L μ).2.2 = (μ.2.2.1 + 19, μ.2.2.2 + 1713) := by rw [cX7_M19, upG_3, cX7_m18]
def cX7_T20 (T : List Ent) (q : Nat) : List Ent := aT 1 1000 q 21 (cX7_T19 T q)
def cX7_M20 (L : Nat) (μ : Mem) : Mem := upG (cX7_M19 L μ) 1 1000
theorem cX7_l20 (T : List Ent) (q : Nat) : (cX7_T20 T q).length = T.length + 20 := by rw [cX7_T20, aT_len, cX7_l19]
theorem cX7_g20 (T : List Ent) (q : Nat) : Gr T (cX7_T20 T q) q := (cX7_g19 T q).tr (aT_gr _ _ q _ _)
theorem cX7_m20 (L : Nat) (μ : Mem) : (cX7_M20 L μ).2.2 = (μ.2.2.1 + 20, μ.2.2.2 + 2713) := by rw [cX7_M20, upG_3, cX7_m19]
def cX7_T21 (T : List Ent) (q : Nat) : List Ent := aT 1 1000 q 22 (cX7_T20 T q)
def cX7_M21 (L : Nat) (μ : Mem) : Mem := upG (cX7_M20 L μ) 1 1000
theorem cX7_l21 (T : List Ent) (q : Nat) : (cX7_T21 T q).length = T.length + 21 := by rw [cX7_T21, aT_len, cX7_l20]
theorem cX7_g21 (T : List Ent) (q : Nat) : Gr T (cX7_T21 T q) q := (cX7_g20 T q).tr (aT_gr _ _ q _ _)
theorem cX7_m21 (L : Nat) (μ : Mem) : (cX7_M21 L μ).2.2 = (μ.2.2.1 + 21, μ.2.2.2 + 3713) := by rw [cX7_M21, upG_3, cX7_m20]
def cX7_T22 (T : List Ent) (q : Nat) : List Ent := aT 1 1000 q 23 (cX7_T21 T q)
def cX7_M22 (L : Nat) (μ : Mem) : Mem := upG (cX7_M21 L μ) 1 1000
theorem cX7_l22 (T : List Ent) (q : Nat) : (cX7_T22 T q).length = T.length + 22 := by rw [cX7_T22, aT_len, cX7_l21]
theorem cX7_g22 (T : List Ent) (q : Nat) : Gr T (cX7_T22 T q) q := (cX7_g21 T q).tr (aT_gr _ _ q _ _)
theorem cX7_m22 (L : Nat) (μ : Mem) : (cX7_M22 L μ).2.2 = (μ.2.2.1 + 22, μ.2.2.2 + 4713) := by rw [cX7_M22, upG_3, cX7_m21]
def cX7_T23 (T : List Ent) (q : Nat) : List Ent := aT 0 4000 q 24 (cX7_T22 T q)
def cX7_M23 (L : Nat) (μ : Mem) : Mem := upG (cX7_M22 L μ) 1 4000
theorem cX7_l23 (T : List Ent) (q : Nat) : (cX7_T23 T q).length = T.length + 23 := by rw [cX7_T23, aT_len, cX7_l22]
theorem cX7_g23 (T : List Ent) (q : Nat) : Gr T (cX7_T23 T q) q := (cX7_g22 T q).tr (aT_gr _ _ q _ _)
theorem cX7_m23 (L : Nat) (μ : Mem) : (cX7_M23 L μ).2.2 = (μ.2.2.1 + 23, μ.2.2.2 + 8713) := by rw [cX7_M23, upG_3, cX7_m22]
def cX7_T24 (T : List Ent) (q : Nat) : List Ent := aT 1 250 q 25 (cX7_T23 T q)
def cX7_M24 (L : Nat) (μ : Mem) : Mem := upG (cX7_M23 L μ) 1 250
theorem cX7_l24 (T : List Ent) (q : Nat) : (cX7_T24 T q).length = T.length + 24 := by rw [cX7_T24, aT_len, cX7_l23]
theorem cX7_g24 (T : List Ent) (q : Nat) : Gr T (cX7_T24 T q) q := (cX7_g23 T q).tr (aT_gr _ _ q _ _)
theorem cX7_m24 (L : Nat) (μ : Mem) : (cX7_M24 L μ).2.2 = (μ.2.2.1 + 24, μ.2.2.2 + 8963) := by rw [cX7_M24, upG_3, cX7_m23]
def cX7_T25 (T : List Ent) (q : Nat) : List Ent := aT 1 175 q 26 (cX7_T24 T q)
def cX7_M25 (L : Nat) (μ : Mem) : Mem := upG (cX7_M24 L μ) 1 175
theorem cX7_l25 (T : List Ent) (q : Nat) : (cX7_T25 T q).length = T.length + 25 := by rw [cX7_T25, aT_len, cX7_l24]
theorem cX7_g25 (T : List Ent) (q : Nat) : Gr T (cX7_T25 T q) q := (cX7_g24 T q).tr (aT_gr _ _ q _ _)
theorem cX7_m25 (L : Nat) (μ : Mem) : (cX7_M25 L μ).2.2 = (μ.2.2.1 + 25, μ.2.2.2 + 9138) := by rw [cX7_M25, upG_3, cX7_m24]
def cX7_T26 (T : List Ent) (q : Nat) : List Ent := aT 0 10 q 27 (cX7_T25 T q)
def cX7_M26 (L : Nat) (μ : Mem) : Mem := upG (cX7_M25 L μ) 1 10
theorem cX7_l26 (T : List Ent) (q : Nat) : (cX7_T26 T q).length = T.length + 26 := by rw [cX7_T26, aT_len, cX7_l25]
theorem cX7_g26 (T : List Ent) (q : Nat) : Gr T (cX7_T26 T q) q := (cX7_g25 T q).tr (aT_gr _ _ q _ _)
theorem cX7_m26 (L : Nat) (μ : Mem) : (cX7_M26 L μ).2.2 = (μ.2.2.1 + 26, μ.2.2.2 + 9148) := by rw [cX7_M26, upG_3, cX7_m25]
def cX7_T27 (T : List Ent) (q : Nat) : List Ent := aT 0 10 q 28 (cX7_T26 T q)
def cX7_M27 (L : Nat) (μ : Mem) : Mem := upG (cX7_M26 L μ) 1 10
theorem cX7_l27 (T : List Ent) (q : Nat) : (cX7_T27 T q).length = T.length + 27 := by rw [cX7_T27, aT_len, cX7_l26]
theorem cX7_g27 (T : List Ent) (q : Nat) : Gr T (cX7_T27 T q) q := (cX7_g26 T q).tr (aT_gr _ _ q _ _)
theorem cX7_m27 (L : Nat) (μ : Mem) : (cX7_M27 L μ).2.2 = (μ.2.2.1 + 27, μ.2.2.2 + 9158) := by rw [cX7_M27, upG_3, cX7_m26]
def cX7_T28 (T : List Ent) (q : Nat) : List Ent := aT 0 72 q 33 (cX7_T27 T q)
def cX7_M28 (L : Nat) (μ : Mem) : Mem := upG (cX7_M27 L μ) 1 72
theorem cX7_l28 (T : List Ent) (q : Nat) : (cX7_T28 T q).length = T.length + 28 := by rw [cX7_T28, aT_len, cX7_l27]
theorem cX7_g28 (T : List Ent) (q : Nat) : Gr T (cX7_T28 T q) q := (cX7_g27 T q).tr (aT_gr _ _ q _ _)
theorem cX7_m28 (L : Nat) (μ : Mem) : (cX7_M28 L μ).2.2 = (μ.2.2.1 + 28, μ.2.2.2 + 9230) := by rw [cX7_M28, upG_3, cX7_m27]
def cX7_T29 (T : List Ent) (q : Nat) : List Ent := aT 0 12 q 34 (cX7_T28 T q)
def cX7_M29 (L : Nat) (μ : Mem) : Mem := upG (cX7_M28 L μ) 1 12
theorem cX7_l29 (T : List Ent) (q : Nat) : (cX7_T29 T q).length = T.length + 29 := by rw [cX7_T29, aT_len, cX7_l28]
theorem cX7_g29 (T : List Ent) (q : Nat) : Gr T (cX7_T29 T q) q := (cX7_g28 T q).tr (aT_gr _ _ q _ _)
theorem cX7_m29 (L : Nat) (μ : Mem) : (cX7_M29 L μ).2.2 = (μ.2.2.1 + 29, μ.2.2.2 + 9242) := by rw [cX7_M29, upG_3, cX7_m28]
def cX7_T30 (T : List Ent) (q : Nat) : List Ent := aT 0 40 q 35 (cX7_T29 T q)
def cX7_M30 (L : Nat) (μ : Mem) : Mem := upG (cX7_M29 L μ) 1 40
theorem cX7_l30 (T : List Ent) (q : Nat) : (cX7_T30 T q).length = T.length + 30 := by rw [cX7_T30, aT_len, cX7_l29]
theorem cX7_g30 (T : List Ent) (q : Nat) : Gr T (cX7_T30 T q) q := (cX7_g29 T q).tr (aT_gr _ _ q _ _)
theorem cX7_m30 (L : Nat) (μ : Mem) : (cX7_M30 L μ).2.2 = (μ.2.2.1 + 30, μ.2.2.2 + 9282) := by rw [cX7_M30, upG_3, cX7_m29]
def cX7_T31 (T : List Ent) (q : Nat) : List Ent := aT 1 40 q 36 (cX7_T30 T q)
def cX7_M31 (L : Nat) (μ : Mem) : Mem := upG (cX7_M30 L μ) 1 40
theorem cX7_l31 (T : List Ent) (q : Nat) : (cX7_T31 T q).length = T.length + 31 := by rw [cX7_T31, aT_len, cX7_l30]
theorem cX7_g31 (T : List Ent) (q : Nat) : Gr T (cX7_T31 T q) q := (cX7_g30 T q).tr (aT_gr _ _ q _ _)
theorem cX7_m31 (L : Nat) (μ : Mem) : (cX7_M31 L μ).2.2 = (μ.2.2.1 + 31, μ.2.2.2 + 9322) := by rw [cX7_M31, upG_3, cX7_m30]
def cX7_T32 (T : List Ent) (q : Nat) : List Ent := aT 1 40 q 37 (cX7_T31 T q)
def cX7_M32 (L : Nat) (μ : Mem) : Mem := upG (cX7_M31 L μ) 1 40
theorem cX7_l32 (T : List Ent) (q : Nat) : (cX7_T32 T q).length = T.length + 32 := by rw [cX7_T32, aT_len, cX7_l31]
theorem cX7_g32 (T : List Ent) (q : Nat) : Gr T (cX7_T32 T q) q := (cX7_g31 T q).tr (aT_gr _ _ q _ _)
theorem cX7_m32 (L : Nat) (μ : Mem) : (cX7_M32 L μ).2.2 = (μ.2.2.1 + 32, μ.2.2.2 + 9362) := by rw [cX7_M32, upG_3, cX7_m31]
def cX7_T33 (T : List Ent) (q : Nat) : List Ent := aT 1 40 q 38 (cX7_T32 T q)
def cX7_M33 (L : Nat) (μ : Mem) : Mem := upG (cX7_M32 L μ) 1 40
theorem cX7_l33 (T : List Ent) (q : Nat) : (cX7_T33 T q).length = T.length + 33 := by rw [cX7_T33, aT_len, cX7_l32]
theorem cX7_g33 (T : List Ent) (q : Nat) : Gr T (cX7_T33 T q) q := (cX7_g32 T q).tr (aT_gr _ _ q _ _)
theorem cX7_m33 (L : Nat) (μ : Mem) : (cX7_M33 L μ).2.2 = (μ.2.2.1 + 33, μ.2.2.2 + 9402) := by rw [cX7_M33, upG_3, cX7_m32]
def cX7_T34 (T : List Ent) (q : Nat) : List Ent := aT 1 40 q 39 (cX7_T33 T q)
def cX7_M34 (L : Nat) (μ : Mem) : Mem := upG (cX7_M33 L μ) 1 40
theorem cX7_l34 (T : List Ent) (q : Nat) : (cX7_T34 T q).length = T.length + 34 := by rw [cX7_T34, aT_len, cX7_l33]
theorem cX7_g34 (T : List Ent) (q : Nat) : Gr T (cX7_T34 T q) q := (cX7_g33 T q).tr (aT_gr _ _ q _ _)
theorem cX7_m34 (L : Nat) (μ : Mem) : (cX7_M34 L μ).2.2 = (μ.2.2.1 + 34, μ.2.2.2 + 9442) := by rw [cX7_M34, upG_3, cX7_m33]
def cX7_T35 (T : List Ent) (q : Nat) : List Ent := aT 1 12 q 40 (cX7_T34 T q)
def cX7_M35 (L : Nat) (μ : Mem) : Mem := upG (cX7_M34 L μ) 1 12
theorem cX7_l35 (T : List Ent) (q : Nat) : (cX7_T35 T q).length = T.length + 35 := by rw [cX7_T35, aT_len, cX7_l34]
theorem cX7_g35 (T : List Ent) (q : Nat) : Gr T (cX7_T35 T q) q := (cX7_g34 T q).tr (aT_gr _ _ q _ _)
theorem cX7_m35 (L : Nat) (μ : Mem) : (cX7_M35 L μ).2.2 = (μ.2.2.1 + 35, μ.2.2.2 + 9454) := by rw [cX7_M35, upG_3, cX7_m34]
def cX7_T36 (T : List Ent) (q : Nat) : List Ent := aT 0 12 q 41 (cX7_T35 T q)
def cX7_M36 (L : Nat) (μ : Mem) : Mem := upG (cX7_M35 L μ) 1 12
theorem cX7_l36 (T : List Ent) (q : Nat) : (cX7_T36 T q).length = T.length + 36 := by rw [cX7_T36, aT_len, cX7_l35]
theorem cX7_g36 (T : List Ent) (q : Nat) : Gr T (cX7_T36 T q) q := (cX7_g35 T q).tr (aT_gr _ _ q _ _)
theorem cX7_m36 (L : Nat) (μ : Mem) : (cX7_M36 L μ).2.2 = (μ.2.2.1 + 36, μ.2.2.2 + 9466) := by rw [cX7_M36, upG_3, cX7_m35]
def cX7_T37 (T : List Ent) (q : Nat) : List Ent := aT 1 40 q 42 (cX7_T36 T q)
def cX7_M37 (L : Nat) (μ : Mem) : Mem := upG (cX7_M36 L μ) 1 40
theorem cX7_l37 (T : List Ent) (q : Nat) : (cX7_T37 T q).length = T.length + 37 := by rw [cX7_T37, aT_len, cX7_l36]
theorem cX7_g37 (T : List Ent) (q : Nat) : Gr T (cX7_T37 T q) q := (cX7_g36 T q).tr (aT_gr _ _ q _ _)
theorem cX7_m37 (L : Nat) (μ : Mem) : (cX7_M37 L μ).2.2 = (μ.2.2.1 + 37, μ.2.2.2 + 9506) := by rw [cX7_M37, upG_3, cX7_m36]
def cX7_T38 (T : List Ent) (q : Nat) : List Ent := aT 1 40 q 43 (cX7_T37 T q)
def cX7_M38 (L : Nat) (μ : Mem) : Mem := upG (cX7_M37 L μ) 1 40
theorem cX7_l38 (T : List Ent) (q : Nat) : (cX7_T38 T q).length = T.length + 38 := by rw [cX7_T38, aT_len, cX7_l37]
theorem cX7_g38 (T : List Ent) (q : Nat) : Gr T (cX7_T38 T q) q := (cX7_g37 T q).tr (aT_gr _ _ q _ _)
theorem cX7_m38 (L : Nat) (μ : Mem) : (cX7_M38 L μ).2.2 = (μ.2.2.1 + 38, μ.2.2.2 + 9546) := by rw [cX7_M38, upG_3, cX7_m37]
def cX7_T39 (T : List Ent) (q : Nat) : List Ent := aT 1 40 q 44 (cX7_T38 T q)
def cX7_M39 (L : Nat) (μ : Mem) : Mem := upG (cX7_M38 L μ) 1 40
theorem cX7_l39 (T : List Ent) (q : Nat) : (cX7_T39 T q).length = T.length + 39 := by rw [cX7_T39, aT_len, cX7_l38]
theorem cX7_g39 (T : List Ent) (q : Nat) : Gr T (cX7_T39 T q) q := (cX7_g38 T q).tr (aT_gr _ _ q _ _)
theorem cX7_m39 (L : Nat) (μ : Mem) : (cX7_M39 L μ).2.2 = (μ.2.2.1 + 39, μ.2.2.2 + 9586) := by rw [cX7_M39, upG_3, cX7_m38]
def cX7_T40 (T : List Ent) (q : Nat) : List Ent := aT 1 7 q 45 (cX7_T39 T q)
def cX7_M40 (L : Nat) (μ : Mem) : Mem := upG (cX7_M39 L μ) 1 7
theorem cX7_l40 (T : List Ent) (q : Nat) : (cX7_T40 T q).length = T.length + 40 := by rw [cX7_T40, aT_len, cX7_l39]
theorem cX7_g40 (T : List Ent) (q : Nat) : Gr T (cX7_T40 T q) q := (cX7_g39 T q).tr (aT_gr _ _ q _ _)
theorem cX7_m40 (L : Nat) (μ : Mem) : (cX7_M40 L μ).2.2 = (μ.2.2.1 + 40, μ.2.2.2 + 9593) := by rw [cX7_M40, upG_3, cX7_m39]
def cX7_T41 (T : List Ent) (q : Nat) : List Ent := aT 1 40 q 46 (cX7_T40 T q)
def cX7_M41 (L : Nat) (μ : Mem) : Mem := upG (cX7_M40 L μ) 1 40
theorem cX7_l41 (T : List Ent) (q : Nat) : (cX7_T41 T q).length = T.length + 41 := by rw [cX7_T41, aT_len, cX7_l40]
theorem cX7_g41 (T : List Ent) (q : Nat) : Gr T (cX7_T41 T q) q := (cX7_g40 T q).tr (aT_gr _ _ q _ _)
theorem cX7_m41 (L : Nat) (μ : Mem) : (cX7_M41 L μ).2.2 = (μ.2.2.1 + 41, μ.2.2.2 + 9633) := by rw [cX7_M41, upG_3, cX7_m40]
def cX7_T42 (T : List Ent) (q : Nat) : List Ent := aT 1 12 q 47 (cX7_T41 T q)
def cX7_M42 (L : Nat) (μ : Mem) : Mem := upG (cX7_M41 L μ) 1 12
theorem cX7_l42 (T : List Ent) (q : Nat) : (cX7_T42 T q).length = T.length + 42 := by rw [cX7_T42, aT_len, cX7_l41]
theorem cX7_g42 (T : List Ent) (q : Nat) : Gr T (cX7_T42 T q) q := (cX7_g41 T q).tr (aT_gr _ _ q _ _)
theorem cX7_m42 (L : Nat) (μ : Mem) : (cX7_M42 L μ).2.2 = (μ.2.2.1 + 42, μ.2.2.2 + 9645) := by rw [cX7_M42, upG_3, cX7_m41]
def cX7_T (T : List Ent) (q : Nat) : List Ent := cX7_T42 T q
def cX7_M (L : Nat) (μ : Mem) : Mem := cX7_M42 L μ
def e0_X7 : Ent := .inr (7, [none, some none, some none, some none, some none, none, some none, some none, some none, some none, some none, some none, some none, some none, some none, some none, some none, some none, some none, some none, some none, some none, some none, some none, some none, some none, some none, some none, some none, none, none, none, none, some none, some none, some none, some none, some none, some none, some none, some none, some none, some none, some none, some none, some none, some none, some none, none, none])
theorem cX7_l (T : List Ent) (q : Nat) : (cX7_T T q).length = T.length + 42 := cX7_l42 T q
theorem cX7_g (T : List Ent) (q : Nat) : Gr T (cX7_T T q) q := cX7_g42 T q
theorem cX7_m (L : Nat) (μ : Mem) : (cX7_M L μ).2.2 = (μ.2.2.1 + 42, μ.2.2.2 + 9645) := cX7_m42 L μ
theorem cX7_z (T : List Ent) (q : Nat) (μ : Mem) (h : zb T μ) : zb (cX7_T T q) (cX7_M T.length μ) := by
  have z1 : zb (cX7_T1 T q) (cX7_M1 T.length μ) := zb_to h (by rw [cX7_T1, aT_len]; exact Nat.le_add_right _ _) (by rw [cX7_M1]; exact upG_1 _ _ _) (by rw [cX7_M1]; exact upG_2 _ _ _)
  have z2 : zb (cX7_T2 T q) (cX7_M2 T.length μ) := zb_to z1 (by rw [cX7_T2, aT_len]; exact Nat.le_add_right _ _) (by rw [cX7_M2]; exact upG_1 _ _ _) (by rw [cX7_M2]; exact upG_2 _ _ _)
  have z3 : zb (cX7_T3 T q) (cX7_M3 T.length μ) := zb_to z2 (by rw [cX7_T3, aT_len]; exact Nat.le_add_right _ _) (by rw [cX7_M3]; exact upG_1 _ _ _) (by rw [cX7_M3]; exact upG_2 _ _ _)
  have z4 : zb (cX7_T4 T q) (cX7_M4 T.length μ) := zb_to z3 (by rw [cX7_T4, aT_len]; exact Nat.le_add_right _ _) (by rw [cX7_M4]; exact upG_1 _ _ _) (by rw [cX7_M4]; exact upG_2 _ _ _)
  have z5 : zb (cX7_T5 T q) (cX7_M5 T.length μ) := zb_to z4 (by rw [cX7_T5, aT_len]; exact Nat.le_add_right _ _) (by rw [cX7_M5]; exact upG_1 _ _ _) (by rw [cX7_M5]; exact upG_2 _ _ _)
  have z6 : zb (cX7_T6 T q) (cX7_M6 T.length μ) := zb_to z5 (by rw [cX7_T6, aT_len]; exact Nat.le_add_right _ _) (by rw [cX7_M6]; exact upG_1 _ _ _) (by rw [cX7_M6]; exact upG_2 _ _ _)
  have z7 : zb (cX7_T7 T q) (cX7_M7 T.length μ) := zb_to z6 (by rw [cX7_T7, aT_len]; exact Nat.le_add_right _ _) (by rw [cX7_M7]; exact upG_1 _ _ _) (by rw [cX7_M7]; exact upG_2 _ _ _)
  have z8 : zb (cX7_T8 T q) (cX7_M8 T.length μ) := zb_to z7 (by rw [cX7_T8, aT_len]; exact Nat.le_add_right _ _) (by rw [cX7_M8]; exact upG_1 _ _ _) (by rw [cX7_M8]; exact upG_2 _ _ _)
  have z9 : zb (cX7_T9 T q) (cX7_M9 T.length μ) := zb_to z8 (by rw [cX7_T9, aT_len]; exact Nat.le_add_right _ _) (by rw [cX7_M9]; exact upG_1 _ _ _) (by rw [cX7_M9]; exact upG_2 _ _ _)
  have z10 : zb (cX7_T10 T q) (cX7_M10 T.length μ) := zb_to z9 (by rw [cX7_T10, aT_len]; exact Nat.le_add_right _ _) (by rw [cX7_M10]; exact upG_1 _ _ _) (by rw [cX7_M10]; exact upG_2 _ _ _)
  have z11 : zb (cX7_T11 T q) (cX7_M11 T.length μ) := zb_to z10 (by rw [cX7_T11, aT_len]; exact Nat.le_add_right _ _) (by rw [cX7_M11]; exact upG_1 _ _ _) (by rw [cX7_M11]; exact upG_2 _ _ _)
  have z12 : zb (cX7_T12 T q) (cX7_M12 T.length μ) := zb_to z11 (by rw [cX7_T12, aT_len]; exact Nat.le_add_right _ _) (by rw [cX7_M12]; exact upG_1 _ _ _) (by rw [cX7_M12]; exact upG_2 _ _ _)
  have z13 : zb (cX7_T13 T q) (cX7_M13 T.length μ) := zb_to z12 (by rw [cX7_T13, aT_len]; exact Nat.le_add_right _ _) (by rw [cX7_M13]; exact upG_1 _ _ _) (by rw [cX7_M13]; exact upG_2 _ _ _)
  have z14 : zb (cX7_T14 T q) (cX7_M14 T.length μ) := zb_to z13 (by rw [cX7_T14, aT_len]; exact Nat.le_add_right _ _) (by rw [cX7_M14]; exact upG_1 _ _ _) (by rw [cX7_M14]; exact upG_2 _ _ _)
  have z15 : zb (cX7_T15 T q) (cX7_M15 T.length μ) := zb_to z14 (by rw [cX7_T15, aT_len]; exact Nat.le_add_right _ _) (by rw [cX7_M15]; exact upG_1 _ _ _) (by rw [cX7_M15]; exact upG_2 _ _ _)
  have z16 : zb (cX7_T16 T q) (cX7_M16 T.length μ) := zb_to z15 (by rw [cX7_T16, aT_len]; exact Nat.le_add_right _ _) (by rw [cX7_M16]; exact upG_1 _ _ _) (by rw [cX7_M16]; exact upG_2 _ _ _)
  have z17 : zb (cX7_T17 T q) (cX7_M17 T.length μ) := zb_to z16 (by rw [cX7_T17, aT_len]; exact Nat.le_add_right _ _) (by rw [cX7_M17]; exact upG_1 _ _ _) (by rw [cX7_M17]; exact upG_2 _ _ _)
  have z18 : zb (cX7_T18 T q) (cX7_M18 T.length μ) := zb_to z17 (by rw [cX7_T18, aT_len]; exact Nat.le_add_right _ _) (by rw [cX7_M18]; exact upG_1 _ _ _) (by rw [cX7_M18]; exact upG_2 _ _ _)
  have z19 : zb (cX7_T19 T q) (cX7_M19 T.length μ) := zb_to z18 (by rw [cX7_T19, aT_len]; exact Nat.le_add_right _ _) (by rw [cX7_M19]; exact upG_1 _ _ _) (by rw [cX7_M19]; exact upG_2 _ _ _)
  have z20 : zb (cX7_T20 T q) (cX7_M20 T.length μ) := zb_to z19 (by rw [cX7_T20, aT_len]; exact Nat.le_add_right _ _) (by rw [cX7_M20]; exact upG_1 _ _ _) (by rw [cX7_M20]; exact upG_2 _ _ _)
  have z21 : zb (cX7_T21 T q) (cX7_M21 T.length μ) := zb_to z20 (by rw [cX7_T21, aT_len]; exact Nat.le_add_right _ _) (by rw [cX7_M21]; exact upG_1 _ _ _) (by rw [cX7_M21]; exact upG_2 _ _ _)
  have z22 : zb (cX7_T22 T q) (cX7_M22 T.length μ) := zb_to z21 (by rw [cX7_T22, aT_len]; exact Nat.le_add_right _ _) (by rw [cX7_M22]; exact upG_1 _ _ _) (by rw [cX7_M22]; exact upG_2 _ _ _)
  have z23 : zb (cX7_T23 T q) (cX7_M23 T.length μ) := zb_to z22 (by rw [cX7_T23, aT_len]; exact Nat.le_add_right _ _) (by rw [cX7_M23]; exact upG_1 _ _ _) (by rw [cX7_M23]; exact upG_2 _ _ _)
  have z24 : zb (cX7_T24 T q) (cX7_M24 T.length μ) := zb_to z23 (by rw [cX7_T24, aT_len]; exact Nat.le_add_right _ _) (by rw [cX7_M24]; exact upG_1 _ _ _) (by rw [cX7_M24]; exact upG_2 _ _ _)
  have z25 : zb (cX7_T25 T q) (cX7_M25 T.length μ) := zb_to z24 (by rw [cX7_T25, aT_len]; exact Nat.le_add_right _ _) (by rw [cX7_M25]; exact upG_1 _ _ _) (by rw [cX7_M25]; exact upG_2 _ _ _)
  have z26 : zb (cX7_T26 T q) (cX7_M26 T.length μ) := zb_to z25 (by rw [cX7_T26, aT_len]; exact Nat.le_add_right _ _) (by rw [cX7_M26]; exact upG_1 _ _ _) (by rw [cX7_M26]; exact upG_2 _ _ _)
  have z27 : zb (cX7_T27 T q) (cX7_M27 T.length μ) := zb_to z26 (by rw [cX7_T27, aT_len]; exact Nat.le_add_right _ _) (by rw [cX7_M27]; exact upG_1 _ _ _) (by rw [cX7_M27]; exact upG_2 _ _ _)
  have z28 : zb (cX7_T28 T q) (cX7_M28 T.length μ) := zb_to z27 (by rw [cX7_T28, aT_len]; exact Nat.le_add_right _ _) (by rw [cX7_M28]; exact upG_1 _ _ _) (by rw [cX7_M28]; exact upG_2 _ _ _)
  have z29 : zb (cX7_T29 T q) (cX7_M29 T.length μ) := zb_to z28 (by rw [cX7_T29, aT_len]; exact Nat.le_add_right _ _) (by rw [cX7_M29]; exact upG_1 _ _ _) (by rw [cX7_M29]; exact upG_2 _ _ _)
  have z30 : zb (cX7_T30 T q) (cX7_M30 T.length μ) := zb_to z29 (by rw [cX7_T30, aT_len]; exact Nat.le_add_right _ _) (by rw [cX7_M30]; exact upG_1 _ _ _) (by rw [cX7_M30]; exact upG_2 _ _ _)
  have z31 : zb (cX7_T31 T q) (cX7_M31 T.length μ) := zb_to z30 (by rw [cX7_T31, aT_len]; exact Nat.le_add_right _ _) (by rw [cX7_M31]; exact upG_1 _ _ _) (by rw [cX7_M31]; exact upG_2 _ _ _)
  have z32 : zb (cX7_T32 T q) (cX7_M32 T.length μ) := zb_to z31 (by rw [cX7_T32, aT_len]; exact Nat.le_add_right _ _) (by rw [cX7_M32]; exact upG_1 _ _ _) (by rw [cX7_M32]; exact upG_2 _ _ _)
  have z33 : zb (cX7_T33 T q) (cX7_M33 T.length μ) := zb_to z32 (by rw [cX7_T33, aT_len]; exact Nat.le_add_right _ _) (by rw [cX7_M33]; exact upG_1 _ _ _) (by rw [cX7_M33]; exact upG_2 _ _ _)
  have z34 : zb (cX7_T34 T q) (cX7_M34 T.length μ) := zb_to z33 (by rw [cX7_T34, aT_len]; exact Nat.le_add_right _ _) (by rw [cX7_M34]; exact upG_1 _ _ _) (by rw [cX7_M34]; exact upG_2 _ _ _)
  have z35 : zb (cX7_T35 T q) (cX7_M35 T.length μ) := zb_to z34 (by rw [cX7_T35, aT_len]; exact Nat.le_add_right _ _) (by rw [cX7_M35]; exact upG_1 _ _ _) (by rw [cX7_M35]; exact upG_2 _ _ _)
  have z36 : zb (cX7_T36 T q) (cX7_M36 T.length μ) := zb_to z35 (by rw [cX7_T36, aT_len]; exact Nat.le_add_right _ _) (by rw [cX7_M36]; exact upG_1 _ _ _) (by rw [cX7_M36]; exact upG_2 _ _ _)
  have z37 : zb (cX7_T37 T q) (cX7_M37 T.length μ) := zb_to z36 (by rw [cX7_T37, aT_len]; exact Nat.le_add_right _ _) (by rw [cX7_M37]; exact upG_1 _ _ _) (by rw [cX7_M37]; exact upG_2 _ _ _)
  have z38 : zb (cX7_T38 T q) (cX7_M38 T.length μ) := zb_to z37 (by rw [cX7_T38, aT_len]; exact Nat.le_add_right _ _) (by rw [cX7_M38]; exact upG_1 _ _ _) (by rw [cX7_M38]; exact upG_2 _ _ _)
  have z39 : zb (cX7_T39 T q) (cX7_M39 T.length μ) := zb_to z38 (by rw [cX7_T39, aT_len]; exact Nat.le_add_right _ _) (by rw [cX7_M39]; exact upG_1 _ _ _) (by rw [cX7_M39]; exact upG_2 _ _ _)
  have z40 : zb (cX7_T40 T q) (cX7_M40 T.length μ) := zb_to z39 (by rw [cX7_T40, aT_len]; exact Nat.le_add_right _ _) (by rw [cX7_M40]; exact upG_1 _ _ _) (by rw [cX7_M40]; exact upG_2 _ _ _)
  have z41 : zb (cX7_T41 T q) (cX7_M41 T.length μ) := zb_to z40 (by rw [cX7_T41, aT_len]; exact Nat.le_add_right _ _) (by rw [cX7_M41]; exact upG_1 _ _ _) (by rw [cX7_M41]; exact upG_2 _ _ _)
  have z42 : zb (cX7_T42 T q) (cX7_M42 T.length μ) := zb_to z41 (by rw [cX7_T42, aT_len]; exact Nat.le_add_right _ _) (by rw [cX7_M42]; exact upG_1 _ _ _) (by rw [cX7_M42]; exact upG_2 _ _ _)
  exact z42
set_option maxRecDepth 20000 in
set_option maxHeartbeats 1500000 in
theorem VMC_X7 (G : GX) (q : Nat) (μ : Mem) (hq : (gt G)[q]? = some (.inr (7, [none, some none, some none, some none, some none, none, some none, some none, some none, some none, some none, some none, some none, some none, some none, some none, some none, some none, some none, some none, some none, some none, some none, some none, some none, some none, some none, some none, some none, none, none, none, none, some none, some none, some none, some none, some none, some none, some none, some none, some none, some none, some none, some none, some none, some none, some none, none, none]))) (hz : zb (gt G) μ) : VMC G mX7_init [.ref q] μ (cX7_T (gt G) q) (cX7_M (gt G).length μ) := by
  refine VMC_entry ok_mX7_init rfl rfl rfl (Nat.le_of_ble_eq_true rfl) ?_
  refine VC_aload_n dX7_init_0 rfl ?_
  refine VC_objInit dX7_init_1 oi_X7 ob_i ob_c (by decide) (Nat.le_of_ble_eq_true rfl) ?_
  change VC (gw G (gt G)) mX7_init 4 [some (.ref q)] [] μ True (.inl none) (cX7_T (gt G) q) (cX7_M (gt G).length μ)
  refine VC_fl_int (pcb := 6) (N := 3) (n := 3) (kf := 1) dX7_init_4 rfl (VC_iconst (v := 3) dX7_init_5 rfl) dX7_init_6 aw_int (by decide) (by decide) (Nat.le_of_ble_eq_true rfl) hz k_X7 (by decide) lk_RX7_7 rfl rfl rfl rfl (fun _ => ⟨rfl, rfl⟩) dX7_init_8 hq rfl ?_
  have hq1 : (cX7_T1 (gt G) q)[q]? = some (.inr (7, [none, some (some (gt G).length), some none, some none, some none, none, some none, some none, some none, some none, some none, some none, some none, some none, some none, some none, some none, some none, some none, some none, some none, some none, some none, some none, some none, some none, some none, some none, some none, none, none, none, none, some none, some none, some none, some none, some none, some none, some none, some none, some none, some none, some none, some none, some none, some none, some none, none, none])) := aT_get (kd := 0) (N := 3) (kf := 1) hq
  have hz1 : zb (cX7_T1 (gt G) q) (cX7_M1 (gt G).length μ) := zb_to hz (by rw [cX7_T1, aT_len]; exact Nat.le_add_right _ _) (by rw [cX7_M1]; exact upG_1 _ _ _) (by rw [cX7_M1]; exact upG_2 _ _ _)
  change VC (gw G (cX7_T1 (gt G) q)) mX7_init 11 [some (.ref q)] [] (cX7_M1 (gt G).length μ) True (.inl none) (cX7_T (gt G) q) (cX7_M (gt G).length μ)
  refine VC_fl_int (pcb := 15) (N := 160) (n := 160) (kf := 2) dX7_init_11 rfl (VC_sipush (v := 160) dX7_init_12 rfl) dX7_init_15 aw_int (by decide) (by decide) (Nat.le_of_ble_eq_true rfl) hz1 k_X7 (by decide) lk_RX7_14 rfl rfl rfl rfl (fun _ => ⟨rfl, rfl⟩) dX7_init_17 hq1 rfl ?_
  have hq2 : (cX7_T2 (gt G) q)[q]? = some (.inr (7, [none, some (some (gt G).length), some (some (cX7_T1 (gt G) q).length), some none, some none, none, some none, some none, some none, some none, some none, some none, some none, some none, some none, some none, some none, some none, some none, some none, some none, some none, some none, some none, some none, some none, some none, some none, some none, none, none, none, none, some none, some none, some none, some none, some none, some none, some none, some none, some none, some none, some none, some none, some none, some none, some none, none, none])) := aT_get (kd := 0) (N := 160) (kf := 2) hq1
  have hz2 : zb (cX7_T2 (gt G) q) (cX7_M2 (gt G).length μ) := zb_to hz1 (by rw [cX7_T2, aT_len]; exact Nat.le_add_right _ _) (by rw [cX7_M2]; exact upG_1 _ _ _) (by rw [cX7_M2]; exact upG_2 _ _ _)
  change VC (gw G (cX7_T2 (gt G) q)) mX7_init 20 [some (.ref q)] [] (cX7_M2 (gt G).length μ) True (.inl none) (cX7_T (gt G) q) (cX7_M (gt G).length μ)
  refine VC_fl_int (pcb := 24) (N := 160) (n := 160) (kf := 3) dX7_init_20 rfl (VC_sipush (v := 160) dX7_init_21 rfl) dX7_init_24 aw_int (by decide) (by decide) (Nat.le_of_ble_eq_true rfl) hz2 k_X7 (by decide) lk_RX7_20 rfl rfl rfl rfl (fun _ => ⟨rfl, rfl⟩) dX7_init_26 hq2 rfl ?_
  have hq3 : (cX7_T3 (gt G) q)[q]? = some (.inr (7, [none, some (some (gt G).length), some (some (cX7_T1 (gt G) q).length), some (some (cX7_T2 (gt G) q).length), some none, none, some none, some none, some none, some none, some none, some none, some none, some none, some none, some none, some none, some none, some none, some none, some none, some none, some none, some none, some none, some none, some none, some none, some none, none, none, none, none, some none, some none, some none, some none, some none, some none, some none, some none, some none, some none, some none, some none, some none, some none, some none, none, none])) := aT_get (kd := 0) (N := 160) (kf := 3) hq2
  have hz3 : zb (cX7_T3 (gt G) q) (cX7_M3 (gt G).length μ) := zb_to hz2 (by rw [cX7_T3, aT_len]; exact Nat.le_add_right _ _) (by rw [cX7_M3]; exact upG_1 _ _ _) (by rw [cX7_M3]; exact upG_2 _ _ _)
  change VC (gw G (cX7_T3 (gt G) q)) mX7_init 29 [some (.ref q)] [] (cX7_M3 (gt G).length μ) True (.inl none) (cX7_T (gt G) q) (cX7_M (gt G).length μ)
  refine VC_fl_int (pcb := 33) (N := 640) (n := 640) (kf := 4) dX7_init_29 rfl (VC_sipush (v := 640) dX7_init_30 rfl) dX7_init_33 aw_int (by decide) (by decide) (Nat.le_of_ble_eq_true rfl) hz3 k_X7 (by decide) lk_RX7_11 rfl rfl rfl rfl (fun _ => ⟨rfl, rfl⟩) dX7_init_35 hq3 rfl ?_
  have hq4 : (cX7_T4 (gt G) q)[q]? = some (.inr (7, [none, some (some (gt G).length), some (some (cX7_T1 (gt G) q).length), some (some (cX7_T2 (gt G) q).length), some (some (cX7_T3 (gt G) q).length), none, some none, some none, some none, some none, some none, some none, some none, some none, some none, some none, some none, some none, some none, some none, some none, some none, some none, some none, some none, some none, some none, some none, some none, none, none, none, none, some none, some none, some none, some none, some none, some none, some none, some none, some none, some none, some none, some none, some none, some none, some none, none, none])) := aT_get (kd := 0) (N := 640) (kf := 4) hq3
  have hz4 : zb (cX7_T4 (gt G) q) (cX7_M4 (gt G).length μ) := zb_to hz3 (by rw [cX7_T4, aT_len]; exact Nat.le_add_right _ _) (by rw [cX7_M4]; exact upG_1 _ _ _) (by rw [cX7_M4]; exact upG_2 _ _ _)
  change VC (gw G (cX7_T4 (gt G) q)) mX7_init 38 [some (.ref q)] [] (cX7_M4 (gt G).length μ) True (.inl none) (cX7_T (gt G) q) (cX7_M (gt G).length μ)
  refine VC_fl_boolean (pcb := 41) (N := 40) (n := 40) (kf := 6) dX7_init_38 rfl (VC_bipush (v := 40) dX7_init_39 rfl) dX7_init_41 aw_boolean (by decide) (by decide) (Nat.le_of_ble_eq_true rfl) hz4 k_X7 (by decide) lk_RX7_29 rfl rfl rfl rfl (fun _ => ⟨rfl, rfl⟩) dX7_init_43 hq4 rfl ?_
  have hq5 : (cX7_T5 (gt G) q)[q]? = some (.inr (7, [none, some (some (gt G).length), some (some (cX7_T1 (gt G) q).length), some (some (cX7_T2 (gt G) q).length), some (some (cX7_T3 (gt G) q).length), none, some (some (cX7_T4 (gt G) q).length), some none, some none, some none, some none, some none, some none, some none, some none, some none, some none, some none, some none, some none, some none, some none, some none, some none, some none, some none, some none, some none, some none, none, none, none, none, some none, some none, some none, some none, some none, some none, some none, some none, some none, some none, some none, some none, some none, some none, some none, none, none])) := aT_get (kd := 2) (N := 40) (kf := 6) hq4
  have hz5 : zb (cX7_T5 (gt G) q) (cX7_M5 (gt G).length μ) := zb_to hz4 (by rw [cX7_T5, aT_len]; exact Nat.le_add_right _ _) (by rw [cX7_M5]; exact upG_1 _ _ _) (by rw [cX7_M5]; exact upG_2 _ _ _)
  change VC (gw G (cX7_T5 (gt G) q)) mX7_init 46 [some (.ref q)] [] (cX7_M5 (gt G).length μ) True (.inl none) (cX7_T (gt G) q) (cX7_M (gt G).length μ)
  refine VC_fl_boolean (pcb := 49) (N := 25) (n := 25) (kf := 7) dX7_init_46 rfl (VC_bipush (v := 25) dX7_init_47 rfl) dX7_init_49 aw_boolean (by decide) (by decide) (Nat.le_of_ble_eq_true rfl) hz5 k_X7 (by decide) lk_RX7_33 rfl rfl rfl rfl (fun _ => ⟨rfl, rfl⟩) dX7_init_51 hq5 rfl ?_
  have hq6 : (cX7_T6 (gt G) q)[q]? = some (.inr (7, [none, some (some (gt G).length), some (some (cX7_T1 (gt G) q).length), some (some (cX7_T2 (gt G) q).length), some (some (cX7_T3 (gt G) q).length), none, some (some (cX7_T4 (gt G) q).length), some (some (cX7_T5 (gt G) q).length), some none, some none, some none, some none, some none, some none, some none, some none, some none, some none, some none, some none, some none, some none, some none, some none, some none, some none, some none, some none, some none, none, none, none, none, some none, some none, some none, some none, some none, some none, some none, some none, some none, some none, some none, some none, some none, some none, some none, none, none])) := aT_get (kd := 2) (N := 25) (kf := 7) hq5
  have hz6 : zb (cX7_T6 (gt G) q) (cX7_M6 (gt G).length μ) := zb_to hz5 (by rw [cX7_T6, aT_len]; exact Nat.le_add_right _ _) (by rw [cX7_M6]; exact upG_1 _ _ _) (by rw [cX7_M6]; exact upG_2 _ _ _)
  change VC (gw G (cX7_T6 (gt G) q)) mX7_init 54 [some (.ref q)] [] (cX7_M6 (gt G).length μ) True (.inl none) (cX7_T (gt G) q) (cX7_M (gt G).length μ)
  refine VC_fl_int (pcb := 57) (N := 40) (n := 40) (kf := 8) dX7_init_54 rfl (VC_bipush (v := 40) dX7_init_55 rfl) dX7_init_57 aw_int (by decide) (by decide) (Nat.le_of_ble_eq_true rfl) hz6 k_X7 (by decide) lk_RX7_36 rfl rfl rfl rfl (fun _ => ⟨rfl, rfl⟩) dX7_init_59 hq6 rfl ?_
  have hq7 : (cX7_T7 (gt G) q)[q]? = some (.inr (7, [none, some (some (gt G).length), some (some (cX7_T1 (gt G) q).length), some (some (cX7_T2 (gt G) q).length), some (some (cX7_T3 (gt G) q).length), none, some (some (cX7_T4 (gt G) q).length), some (some (cX7_T5 (gt G) q).length), some (some (cX7_T6 (gt G) q).length), some none, some none, some none, some none, some none, some none, some none, some none, some none, some none, some none, some none, some none, some none, some none, some none, some none, some none, some none, some none, none, none, none, none, some none, some none, some none, some none, some none, some none, some none, some none, some none, some none, some none, some none, some none, some none, some none, none, none])) := aT_get (kd := 0) (N := 40) (kf := 8) hq6
  have hz7 : zb (cX7_T7 (gt G) q) (cX7_M7 (gt G).length μ) := zb_to hz6 (by rw [cX7_T7, aT_len]; exact Nat.le_add_right _ _) (by rw [cX7_M7]; exact upG_1 _ _ _) (by rw [cX7_M7]; exact upG_2 _ _ _)
  change VC (gw G (cX7_T7 (gt G) q)) mX7_init 62 [some (.ref q)] [] (cX7_M7 (gt G).length μ) True (.inl none) (cX7_T (gt G) q) (cX7_M (gt G).length μ)
  refine VC_fl_int (pcb := 65) (N := 40) (n := 40) (kf := 9) dX7_init_62 rfl (VC_bipush (v := 40) dX7_init_63 rfl) dX7_init_65 aw_int (by decide) (by decide) (Nat.le_of_ble_eq_true rfl) hz7 k_X7 (by decide) lk_RX7_39 rfl rfl rfl rfl (fun _ => ⟨rfl, rfl⟩) dX7_init_67 hq7 rfl ?_
  have hq8 : (cX7_T8 (gt G) q)[q]? = some (.inr (7, [none, some (some (gt G).length), some (some (cX7_T1 (gt G) q).length), some (some (cX7_T2 (gt G) q).length), some (some (cX7_T3 (gt G) q).length), none, some (some (cX7_T4 (gt G) q).length), some (some (cX7_T5 (gt G) q).length), some (some (cX7_T6 (gt G) q).length), some (some (cX7_T7 (gt G) q).length), some none, some none, some none, some none, some none, some none, some none, some none, some none, some none, some none, some none, some none, some none, some none, some none, some none, some none, some none, none, none, none, none, some none, some none, some none, some none, some none, some none, some none, some none, some none, some none, some none, some none, some none, some none, some none, none, none])) := aT_get (kd := 0) (N := 40) (kf := 9) hq7
  have hz8 : zb (cX7_T8 (gt G) q) (cX7_M8 (gt G).length μ) := zb_to hz7 (by rw [cX7_T8, aT_len]; exact Nat.le_add_right _ _) (by rw [cX7_M8]; exact upG_1 _ _ _) (by rw [cX7_M8]; exact upG_2 _ _ _)
  change VC (gw G (cX7_T8 (gt G) q)) mX7_init 70 [some (.ref q)] [] (cX7_M8 (gt G).length μ) True (.inl none) (cX7_T (gt G) q) (cX7_M (gt G).length μ)
  refine VC_fl_int (pcb := 73) (N := 40) (n := 40) (kf := 10) dX7_init_70 rfl (VC_bipush (v := 40) dX7_init_71 rfl) dX7_init_73 aw_int (by decide) (by decide) (Nat.le_of_ble_eq_true rfl) hz8 k_X7 (by decide) lk_RX7_42 rfl rfl rfl rfl (fun _ => ⟨rfl, rfl⟩) dX7_init_75 hq8 rfl ?_
  have hq9 : (cX7_T9 (gt G) q)[q]? = some (.inr (7, [none, some (some (gt G).length), some (some (cX7_T1 (gt G) q).length), some (some (cX7_T2 (gt G) q).length), some (some (cX7_T3 (gt G) q).length), none, some (some (cX7_T4 (gt G) q).length), some (some (cX7_T5 (gt G) q).length), some (some (cX7_T6 (gt G) q).length), some (some (cX7_T7 (gt G) q).length), some (some (cX7_T8 (gt G) q).length), some none, some none, some none, some none, some none, some none, some none, some none, some none, some none, some none, some none, some none, some none, some none, some none, some none, some none, none, none, none, none, some none, some none, some none, some none, some none, some none, some none, some none, some none, some none, some none, some none, some none, some none, some none, none, none])) := aT_get (kd := 0) (N := 40) (kf := 10) hq8
  have hz9 : zb (cX7_T9 (gt G) q) (cX7_M9 (gt G).length μ) := zb_to hz8 (by rw [cX7_T9, aT_len]; exact Nat.le_add_right _ _) (by rw [cX7_M9]; exact upG_1 _ _ _) (by rw [cX7_M9]; exact upG_2 _ _ _)
  change VC (gw G (cX7_T9 (gt G) q)) mX7_init 78 [some (.ref q)] [] (cX7_M9 (gt G).length μ) True (.inl none) (cX7_T (gt G) q) (cX7_M (gt G).length μ)
  refine VC_fl_int (pcb := 81) (N := 40) (n := 40) (kf := 11) dX7_init_78 rfl (VC_bipush (v := 40) dX7_init_79 rfl) dX7_init_81 aw_int (by decide) (by decide) (Nat.le_of_ble_eq_true rfl) hz9 k_X7 (by decide) lk_RX7_45 rfl rfl rfl rfl (fun _ => ⟨rfl, rfl⟩) dX7_init_83 hq9 rfl ?_
  have hq10 : (cX7_T10 (gt G) q)[q]? = some (.inr (7, [none, some (some (gt G).length), some (some (cX7_T1 (gt G) q).length), some (some (cX7_T2 (gt G) q).length), some (some (cX7_T3 (gt G) q).length), none, some (some (cX7_T4 (gt G) q).length), some (some (cX7_T5 (gt G) q).length), some (some (cX7_T6 (gt G) q).length), some (some (cX7_T7 (gt G) q).length), some (some (cX7_T8 (gt G) q).length), some (some (cX7_T9 (gt G) q).length), some none, some none, some none, some none, some none, some none, some none, some none, some none, some none, some none, some none, some none, some none, some none, some none, some none, none, none, none, none, some none, some none, some none, some none, some none, some none, some none, some none, some none, some none, some none, some none, some none, some none, some none, none, none])) := aT_get (kd := 0) (N := 40) (kf := 11) hq9
  have hz10 : zb (cX7_T10 (gt G) q) (cX7_M10 (gt G).length μ) := zb_to hz9 (by rw [cX7_T10, aT_len]; exact Nat.le_add_right _ _) (by rw [cX7_M10]; exact upG_1 _ _ _) (by rw [cX7_M10]; exact upG_2 _ _ _)
  change VC (gw G (cX7_T10 (gt G) q)) mX7_init 86 [some (.ref q)] [] (cX7_M10 (gt G).length μ) True (.inl none) (cX7_T (gt G) q) (cX7_M (gt G).length μ)
  refine VC_fl_int (pcb := 89) (N := 40) (n := 40) (kf := 12) dX7_init_86 rfl (VC_bipush (v := 40) dX7_init_87 rfl) dX7_init_89 aw_int (by decide) (by decide) (Nat.le_of_ble_eq_true rfl) hz10 k_X7 (by decide) lk_RX7_48 rfl rfl rfl rfl (fun _ => ⟨rfl, rfl⟩) dX7_init_91 hq10 rfl ?_
  have hq11 : (cX7_T11 (gt G) q)[q]? = some (.inr (7, [none, some (some (gt G).length), some (some (cX7_T1 (gt G) q).length), some (some (cX7_T2 (gt G) q).length), some (some (cX7_T3 (gt G) q).length), none, some (some (cX7_T4 (gt G) q).length), some (some (cX7_T5 (gt G) q).length), some (some (cX7_T6 (gt G) q).length), some (some (cX7_T7 (gt G) q).length), some (some (cX7_T8 (gt G) q).length), some (some (cX7_T9 (gt G) q).length), some (some (cX7_T10 (gt G) q).length), some none, some none, some none, some none, some none, some none, some none, some none, some none, some none, some none, some none, some none, some none, some none, some none, none, none, none, none, some none, some none, some none, some none, some none, some none, some none, some none, some none, some none, some none, some none, some none, some none, some none, none, none])) := aT_get (kd := 0) (N := 40) (kf := 12) hq10
  have hz11 : zb (cX7_T11 (gt G) q) (cX7_M11 (gt G).length μ) := zb_to hz10 (by rw [cX7_T11, aT_len]; exact Nat.le_add_right _ _) (by rw [cX7_M11]; exact upG_1 _ _ _) (by rw [cX7_M11]; exact upG_2 _ _ _)
  change VC (gw G (cX7_T11 (gt G) q)) mX7_init 94 [some (.ref q)] [] (cX7_M11 (gt G).length μ) True (.inl none) (cX7_T (gt G) q) (cX7_M (gt G).length μ)
  refine VC_fl_int (pcb := 98) (N := 160) (n := 160) (kf := 13) dX7_init_94 rfl (VC_sipush (v := 160) dX7_init_95 rfl) dX7_init_98 aw_int (by decide) (by decide) (Nat.le_of_ble_eq_true rfl) hz11 k_X7 (by decide) lk_RX7_51 rfl rfl rfl rfl (fun _ => ⟨rfl, rfl⟩) dX7_init_100 hq11 rfl ?_
  have hq12 : (cX7_T12 (gt G) q)[q]? = some (.inr (7, [none, some (some (gt G).length), some (some (cX7_T1 (gt G) q).length), some (some (cX7_T2 (gt G) q).length), some (some (cX7_T3 (gt G) q).length), none, some (some (cX7_T4 (gt G) q).length), some (some (cX7_T5 (gt G) q).length), some (some (cX7_T6 (gt G) q).length), some (some (cX7_T7 (gt G) q).length), some (some (cX7_T8 (gt G) q).length), some (some (cX7_T9 (gt G) q).length), some (some (cX7_T10 (gt G) q).length), some (some (cX7_T11 (gt G) q).length), some none, some none, some none, some none, some none, some none, some none, some none, some none, some none, some none, some none, some none, some none, some none, none, none, none, none, some none, some none, some none, some none, some none, some none, some none, some none, some none, some none, some none, some none, some none, some none, some none, none, none])) := aT_get (kd := 0) (N := 160) (kf := 13) hq11
  have hz12 : zb (cX7_T12 (gt G) q) (cX7_M12 (gt G).length μ) := zb_to hz11 (by rw [cX7_T12, aT_len]; exact Nat.le_add_right _ _) (by rw [cX7_M12]; exact upG_1 _ _ _) (by rw [cX7_M12]; exact upG_2 _ _ _)
  change VC (gw G (cX7_T12 (gt G) q)) mX7_init 103 [some (.ref q)] [] (cX7_M12 (gt G).length μ) True (.inl none) (cX7_T (gt G) q) (cX7_M (gt G).length μ)
  refine VC_fl_int (pcb := 107) (N := 160) (n := 160) (kf := 14) dX7_init_103 rfl (VC_sipush (v := 160) dX7_init_104 rfl) dX7_init_107 aw_int (by decide) (by decide) (Nat.le_of_ble_eq_true rfl) hz12 k_X7 (by decide) lk_RX7_54 rfl rfl rfl rfl (fun _ => ⟨rfl, rfl⟩) dX7_init_109 hq12 rfl ?_
  have hq13 : (cX7_T13 (gt G) q)[q]? = some (.inr (7, [none, some (some (gt G).length), some (some (cX7_T1 (gt G) q).length), some (some (cX7_T2 (gt G) q).length), some (some (cX7_T3 (gt G) q).length), none, some (some (cX7_T4 (gt G) q).length), some (some (cX7_T5 (gt G) q).length), some (some (cX7_T6 (gt G) q).length), some (some (cX7_T7 (gt G) q).length), some (some (cX7_T8 (gt G) q).length), some (some (cX7_T9 (gt G) q).length), some (some (cX7_T10 (gt G) q).length), some (some (cX7_T11 (gt G) q).length), some (some (cX7_T12 (gt G) q).length), some none, some none, some none, some none, some none, some none, some none, some none, some none, some none, some none, some none, some none, some none, none, none, none, none, some none, some none, some none, some none, some none, some none, some none, some none, some none, some none, some none, some none, some none, some none, some none, none, none])) := aT_get (kd := 0) (N := 160) (kf := 14) hq12
  have hz13 : zb (cX7_T13 (gt G) q) (cX7_M13 (gt G).length μ) := zb_to hz12 (by rw [cX7_T13, aT_len]; exact Nat.le_add_right _ _) (by rw [cX7_M13]; exact upG_1 _ _ _) (by rw [cX7_M13]; exact upG_2 _ _ _)
  change VC (gw G (cX7_T13 (gt G) q)) mX7_init 112 [some (.ref q)] [] (cX7_M13 (gt G).length μ) True (.inl none) (cX7_T (gt G) q) (cX7_M (gt G).length μ)
  refine VC_fl_long (pcb := 115) (N := 40) (n := 40) (kf := 15) dX7_init_112 rfl (VC_bipush (v := 40) dX7_init_113 rfl) dX7_init_115 aw_long (by decide) (by decide) (Nat.le_of_ble_eq_true rfl) hz13 k_X7 (by decide) lk_RX7_57 rfl rfl rfl rfl (fun _ => ⟨rfl, rfl⟩) dX7_init_117 hq13 rfl ?_
  have hq14 : (cX7_T14 (gt G) q)[q]? = some (.inr (7, [none, some (some (gt G).length), some (some (cX7_T1 (gt G) q).length), some (some (cX7_T2 (gt G) q).length), some (some (cX7_T3 (gt G) q).length), none, some (some (cX7_T4 (gt G) q).length), some (some (cX7_T5 (gt G) q).length), some (some (cX7_T6 (gt G) q).length), some (some (cX7_T7 (gt G) q).length), some (some (cX7_T8 (gt G) q).length), some (some (cX7_T9 (gt G) q).length), some (some (cX7_T10 (gt G) q).length), some (some (cX7_T11 (gt G) q).length), some (some (cX7_T12 (gt G) q).length), some (some (cX7_T13 (gt G) q).length), some none, some none, some none, some none, some none, some none, some none, some none, some none, some none, some none, some none, some none, none, none, none, none, some none, some none, some none, some none, some none, some none, some none, some none, some none, some none, some none, some none, some none, some none, some none, none, none])) := aT_get (kd := 1) (N := 40) (kf := 15) hq13
  have hz14 : zb (cX7_T14 (gt G) q) (cX7_M14 (gt G).length μ) := zb_to hz13 (by rw [cX7_T14, aT_len]; exact Nat.le_add_right _ _) (by rw [cX7_M14]; exact upG_1 _ _ _) (by rw [cX7_M14]; exact upG_2 _ _ _)
  change VC (gw G (cX7_T14 (gt G) q)) mX7_init 120 [some (.ref q)] [] (cX7_M14 (gt G).length μ) True (.inl none) (cX7_T (gt G) q) (cX7_M (gt G).length μ)
  refine VC_fl_int (pcb := 123) (N := 25) (n := 25) (kf := 16) dX7_init_120 rfl (VC_bipush (v := 25) dX7_init_121 rfl) dX7_init_123 aw_int (by decide) (by decide) (Nat.le_of_ble_eq_true rfl) hz14 k_X7 (by decide) lk_RX7_61 rfl rfl rfl rfl (fun _ => ⟨rfl, rfl⟩) dX7_init_125 hq14 rfl ?_
  have hq15 : (cX7_T15 (gt G) q)[q]? = some (.inr (7, [none, some (some (gt G).length), some (some (cX7_T1 (gt G) q).length), some (some (cX7_T2 (gt G) q).length), some (some (cX7_T3 (gt G) q).length), none, some (some (cX7_T4 (gt G) q).length), some (some (cX7_T5 (gt G) q).length), some (some (cX7_T6 (gt G) q).length), some (some (cX7_T7 (gt G) q).length), some (some (cX7_T8 (gt G) q).length), some (some (cX7_T9 (gt G) q).length), some (some (cX7_T10 (gt G) q).length), some (some (cX7_T11 (gt G) q).length), some (some (cX7_T12 (gt G) q).length), some (some (cX7_T13 (gt G) q).length), some (some (cX7_T14 (gt G) q).length), some none, some none, some none, some none, some none, some none, some none, some none, some none, some none, some none, some none, none, none, none, none, some none, some none, some none, some none, some none, some none, some none, some none, some none, some none, some none, some none, some none, some none, some none, none, none])) := aT_get (kd := 0) (N := 25) (kf := 16) hq14
  have hz15 : zb (cX7_T15 (gt G) q) (cX7_M15 (gt G).length μ) := zb_to hz14 (by rw [cX7_T15, aT_len]; exact Nat.le_add_right _ _) (by rw [cX7_M15]; exact upG_1 _ _ _) (by rw [cX7_M15]; exact upG_2 _ _ _)
  change VC (gw G (cX7_T15 (gt G) q)) mX7_init 128 [some (.ref q)] [] (cX7_M15 (gt G).length μ) True (.inl none) (cX7_T (gt G) q) (cX7_M (gt G).length μ)
  refine VC_fl_int (pcb := 131) (N := 25) (n := 25) (kf := 17) dX7_init_128 rfl (VC_bipush (v := 25) dX7_init_129 rfl) dX7_init_131 aw_int (by decide) (by decide) (Nat.le_of_ble_eq_true rfl) hz15 k_X7 (by decide) lk_RX7_64 rfl rfl rfl rfl (fun _ => ⟨rfl, rfl⟩) dX7_init_133 hq15 rfl ?_
  have hq16 : (cX7_T16 (gt G) q)[q]? = some (.inr (7, [none, some (some (gt G).length), some (some (cX7_T1 (gt G) q).length), some (some (cX7_T2 (gt G) q).length), some (some (cX7_T3 (gt G) q).length), none, some (some (cX7_T4 (gt G) q).length), some (some (cX7_T5 (gt G) q).length), some (some (cX7_T6 (gt G) q).length), some (some (cX7_T7 (gt G) q).length), some (some (cX7_T8 (gt G) q).length), some (some (cX7_T9 (gt G) q).length), some (some (cX7_T10 (gt G) q).length), some (some (cX7_T11 (gt G) q).length), some (some (cX7_T12 (gt G) q).length), some (some (cX7_T13 (gt G) q).length), some (some (cX7_T14 (gt G) q).length), some (some (cX7_T15 (gt G) q).length), some none, some none, some none, some none, some none, some none, some none, some none, some none, some none, some none, none, none, none, none, some none, some none, some none, some none, some none, some none, some none, some none, some none, some none, some none, some none, some none, some none, some none, none, none])) := aT_get (kd := 0) (N := 25) (kf := 17) hq15
  have hz16 : zb (cX7_T16 (gt G) q) (cX7_M16 (gt G).length μ) := zb_to hz15 (by rw [cX7_T16, aT_len]; exact Nat.le_add_right _ _) (by rw [cX7_M16]; exact upG_1 _ _ _) (by rw [cX7_M16]; exact upG_2 _ _ _)
  change VC (gw G (cX7_T16 (gt G) q)) mX7_init 136 [some (.ref q)] [] (cX7_M16 (gt G).length μ) True (.inl none) (cX7_T (gt G) q) (cX7_M (gt G).length μ)
  refine VC_fl_int (pcb := 139) (N := 25) (n := 25) (kf := 18) dX7_init_136 rfl (VC_bipush (v := 25) dX7_init_137 rfl) dX7_init_139 aw_int (by decide) (by decide) (Nat.le_of_ble_eq_true rfl) hz16 k_X7 (by decide) lk_RX7_67 rfl rfl rfl rfl (fun _ => ⟨rfl, rfl⟩) dX7_init_141 hq16 rfl ?_
  have hq17 : (cX7_T17 (gt G) q)[q]? = some (.inr (7, [none, some (some (gt G).length), some (some (cX7_T1 (gt G) q).length), some (some (cX7_T2 (gt G) q).length), some (some (cX7_T3 (gt G) q).length), none, some (some (cX7_T4 (gt G) q).length), some (some (cX7_T5 (gt G) q).length), some (some (cX7_T6 (gt G) q).length), some (some (cX7_T7 (gt G) q).length), some (some (cX7_T8 (gt G) q).length), some (some (cX7_T9 (gt G) q).length), some (some (cX7_T10 (gt G) q).length), some (some (cX7_T11 (gt G) q).length), some (some (cX7_T12 (gt G) q).length), some (some (cX7_T13 (gt G) q).length), some (some (cX7_T14 (gt G) q).length), some (some (cX7_T15 (gt G) q).length), some (some (cX7_T16 (gt G) q).length), some none, some none, some none, some none, some none, some none, some none, some none, some none, some none, none, none, none, none, some none, some none, some none, some none, some none, some none, some none, some none, some none, some none, some none, some none, some none, some none, some none, none, none])) := aT_get (kd := 0) (N := 25) (kf := 18) hq16
  have hz17 : zb (cX7_T17 (gt G) q) (cX7_M17 (gt G).length μ) := zb_to hz16 (by rw [cX7_T17, aT_len]; exact Nat.le_add_right _ _) (by rw [cX7_M17]; exact upG_1 _ _ _) (by rw [cX7_M17]; exact upG_2 _ _ _)
  change VC (gw G (cX7_T17 (gt G) q)) mX7_init 144 [some (.ref q)] [] (cX7_M17 (gt G).length μ) True (.inl none) (cX7_T (gt G) q) (cX7_M (gt G).length μ)
  refine VC_fl_int (pcb := 147) (N := 25) (n := 25) (kf := 19) dX7_init_144 rfl (VC_bipush (v := 25) dX7_init_145 rfl) dX7_init_147 aw_int (by decide) (by decide) (Nat.le_of_ble_eq_true rfl) hz17 k_X7 (by decide) lk_RX7_70 rfl rfl rfl rfl (fun _ => ⟨rfl, rfl⟩) dX7_init_149 hq17 rfl ?_
  have hq18 : (cX7_T18 (gt G) q)[q]? = some (.inr (7, [none, some (some (gt G).length), some (some (cX7_T1 (gt G) q).length), some (some (cX7_T2 (gt G) q).length), some (some (cX7_T3 (gt G) q).length), none, some (some (cX7_T4 (gt G) q).length), some (some (cX7_T5 (gt G) q).length), some (some (cX7_T6 (gt G) q).length), some (some (cX7_T7 (gt G) q).length), some (some (cX7_T8 (gt G) q).length), some (some (cX7_T9 (gt G) q).length), some (some (cX7_T10 (gt G) q).length), some (some (cX7_T11 (gt G) q).length), some (some (cX7_T12 (gt G) q).length), some (some (cX7_T13 (gt G) q).length), some (some (cX7_T14 (gt G) q).length), some (some (cX7_T15 (gt G) q).length), some (some (cX7_T16 (gt G) q).length), some (some (cX7_T17 (gt G) q).length), some none, some none, some none, some none, some none, some none, some none, some none, some none, none, none, none, none, some none, some none, some none, some none, some none, some none, some none, some none, some none, some none, some none, some none, some none, some none, some none, none, none])) := aT_get (kd := 0) (N := 25) (kf := 19) hq17
  have hz18 : zb (cX7_T18 (gt G) q) (cX7_M18 (gt G).length μ) := zb_to hz17 (by rw [cX7_T18, aT_len]; exact Nat.le_add_right _ _) (by rw [cX7_M18]; exact upG_1 _ _ _) (by rw [cX7_M18]; exact upG_2 _ _ _)
  change VC (gw G (cX7_T18 (gt G) q)) mX7_init 152 [some (.ref q)] [] (cX7_M18 (gt G).length μ) True (.inl none) (cX7_T (gt G) q) (cX7_M (gt G).length μ)
  refine VC_fl_long (pcb := 155) (N := 25) (n := 25) (kf := 20) dX7_init_152 rfl (VC_bipush (v := 25) dX7_init_153 rfl) dX7_init_155 aw_long (by decide) (by decide) (Nat.le_of_ble_eq_true rfl) hz18 k_X7 (by decide) lk_RX7_73 rfl rfl rfl rfl (fun _ => ⟨rfl, rfl⟩) dX7_init_157 hq18 rfl ?_
  have hq19 : (cX7_T19 (gt G) q)[q]? = some (.inr (7, [none, some (some (gt G).length), some (some (cX7_T1 (gt G) q).length), some (some (cX7_T2 (gt G) q).length), some (some (cX7_T3 (gt G) q).length), none, some (some (cX7_T4 (gt G) q).length), some (some (cX7_T5 (gt G) q).length), some (some (cX7_T6 (gt G) q).length), some (some (cX7_T7 (gt G) q).length), some (some (cX7_T8 (gt G) q).length), some (some (cX7_T9 (gt G) q).length), some (some (cX7_T10 (gt G) q).length), some (some (cX7_T11 (gt G) q).length), some (some (cX7_T12 (gt G) q).length), some (some (cX7_T13 (gt G) q).length), some (some (cX7_T14 (gt G) q).length), some (some (cX7_T15 (gt G) q).length), some (some (cX7_T16 (gt G) q).length), some (some (cX7_T17 (gt G) q).length), some (some (cX7_T18 (gt G) q).length), some none, some none, some none, some none, some none, some none, some none, some none, none, none, none, none, some none, some none, some none, some none, some none, some none, some none, some none, some none, some none, some none, some none, some none, some none, some none, none, none])) := aT_get (kd := 1) (N := 25) (kf := 20) hq18
  have hz19 : zb (cX7_T19 (gt G) q) (cX7_M19 (gt G).length μ) := zb_to hz18 (by rw [cX7_T19, aT_len]; exact Nat.le_add_right _ _) (by rw [cX7_M19]; exact upG_1 _ _ _) (by rw [cX7_M19]; exact upG_2 _ _ _)
  change VC (gw G (cX7_T19 (gt G) q)) mX7_init 160 [some (.ref q)] [] (cX7_M19 (gt G).length μ) True (.inl none) (cX7_T (gt G) q) (cX7_M (gt G).length μ)
  refine VC_fl_long (pcb := 164) (N := 1000) (n := 1000) (kf := 21) dX7_init_160 rfl (VC_sipush (v := 1000) dX7_init_161 rfl) dX7_init_164 aw_long (by decide) (by decide) (Nat.le_of_ble_eq_true rfl) hz19 k_X7 (by decide) lk_RX7_76 rfl rfl rfl rfl (fun _ => ⟨rfl, rfl⟩) dX7_init_166 hq19 rfl ?_
  have hq20 : (cX7_T20 (gt G) q)[q]? = some (.inr (7, [none, some (some (gt G).length), some (some (cX7_T1 (gt G) q).length), some (some (cX7_T2 (gt G) q).length), some (some (cX7_T3 (gt G) q).length), none, some (some (cX7_T4 (gt G) q).length), some (some (cX7_T5 (gt G) q).length), some (some (cX7_T6 (gt G) q).length), some (some (cX7_T7 (gt G) q).length), some (some (cX7_T8 (gt G) q).length), some (some (cX7_T9 (gt G) q).length), some (some (cX7_T10 (gt G) q).length), some (some (cX7_T11 (gt G) q).length), some (some (cX7_T12 (gt G) q).length), some (some (cX7_T13 (gt G) q).length), some (some (cX7_T14 (gt G) q).length), some (some (cX7_T15 (gt G) q).length), some (some (cX7_T16 (gt G) q).length), some (some (cX7_T17 (gt G) q).length), some (some (cX7_T18 (gt G) q).length), some (some (cX7_T19 (gt G) q).length), some none, some none, some none, some none, some none, some none, some none, none, none, none, none, some none, some none, some none, some none, some none, some none, some none, some none, some none, some none, some none, some none, some none, some none, some none, none, none])) := aT_get (kd := 1) (N := 1000) (kf := 21) hq19
  have hz20 : zb (cX7_T20 (gt G) q) (cX7_M20 (gt G).length μ) := zb_to hz19 (by rw [cX7_T20, aT_len]; exact Nat.le_add_right _ _) (by rw [cX7_M20]; exact upG_1 _ _ _) (by rw [cX7_M20]; exact upG_2 _ _ _)
  change VC (gw G (cX7_T20 (gt G) q)) mX7_init 169 [some (.ref q)] [] (cX7_M20 (gt G).length μ) True (.inl none) (cX7_T (gt G) q) (cX7_M (gt G).length μ)
  refine VC_fl_long (pcb := 173) (N := 1000) (n := 1000) (kf := 22) dX7_init_169 rfl (VC_sipush (v := 1000) dX7_init_170 rfl) dX7_init_173 aw_long (by decide) (by decide) (Nat.le_of_ble_eq_true rfl) hz20 k_X7 (by decide) lk_RX7_79 rfl rfl rfl rfl (fun _ => ⟨rfl, rfl⟩) dX7_init_175 hq20 rfl ?_
  have hq21 : (cX7_T21 (gt G) q)[q]? = some (.inr (7, [none, some (some (gt G).length), some (some (cX7_T1 (gt G) q).length), some (some (cX7_T2 (gt G) q).length), some (some (cX7_T3 (gt G) q).length), none, some (some (cX7_T4 (gt G) q).length), some (some (cX7_T5 (gt G) q).length), some (some (cX7_T6 (gt G) q).length), some (some (cX7_T7 (gt G) q).length), some (some (cX7_T8 (gt G) q).length), some (some (cX7_T9 (gt G) q).length), some (some (cX7_T10 (gt G) q).length), some (some (cX7_T11 (gt G) q).length), some (some (cX7_T12 (gt G) q).length), some (some (cX7_T13 (gt G) q).length), some (some (cX7_T14 (gt G) q).length), some (some (cX7_T15 (gt G) q).length), some (some (cX7_T16 (gt G) q).length), some (some (cX7_T17 (gt G) q).length), some (some (cX7_T18 (gt G) q).length), some (some (cX7_T19 (gt G) q).length), some (some (cX7_T20 (gt G) q).length), some none, some none, some none, some none, some none, some none, none, none, none, none, some none, some none, some none, some none, some none, some none, some none, some none, some none, some none, some none, some none, some none, some none, some none, none, none])) := aT_get (kd := 1) (N := 1000) (kf := 22) hq20
  have hz21 : zb (cX7_T21 (gt G) q) (cX7_M21 (gt G).length μ) := zb_to hz20 (by rw [cX7_T21, aT_len]; exact Nat.le_add_right _ _) (by rw [cX7_M21]; exact upG_1 _ _ _) (by rw [cX7_M21]; exact upG_2 _ _ _)
  change VC (gw G (cX7_T21 (gt G) q)) mX7_init 178 [some (.ref q)] [] (cX7_M21 (gt G).length μ) True (.inl none) (cX7_T (gt G) q) (cX7_M (gt G).length μ)
  refine VC_fl_long (pcb := 182) (N := 1000) (n := 1000) (kf := 23) dX7_init_178 rfl (VC_sipush (v := 1000) dX7_init_179 rfl) dX7_init_182 aw_long (by decide) (by decide) (Nat.le_of_ble_eq_true rfl) hz21 k_X7 (by decide) lk_RX7_82 rfl rfl rfl rfl (fun _ => ⟨rfl, rfl⟩) dX7_init_184 hq21 rfl ?_
  have hq22 : (cX7_T22 (gt G) q)[q]? = some (.inr (7, [none, some (some (gt G).length), some (some (cX7_T1 (gt G) q).length), some (some (cX7_T2 (gt G) q).length), some (some (cX7_T3 (gt G) q).length), none, some (some (cX7_T4 (gt G) q).length), some (some (cX7_T5 (gt G) q).length), some (some (cX7_T6 (gt G) q).length), some (some (cX7_T7 (gt G) q).length), some (some (cX7_T8 (gt G) q).length), some (some (cX7_T9 (gt G) q).length), some (some (cX7_T10 (gt G) q).length), some (some (cX7_T11 (gt G) q).length), some (some (cX7_T12 (gt G) q).length), some (some (cX7_T13 (gt G) q).length), some (some (cX7_T14 (gt G) q).length), some (some (cX7_T15 (gt G) q).length), some (some (cX7_T16 (gt G) q).length), some (some (cX7_T17 (gt G) q).length), some (some (cX7_T18 (gt G) q).length), some (some (cX7_T19 (gt G) q).length), some (some (cX7_T20 (gt G) q).length), some (some (cX7_T21 (gt G) q).length), some none, some none, some none, some none, some none, none, none, none, none, some none, some none, some none, some none, some none, some none, some none, some none, some none, some none, some none, some none, some none, some none, some none, none, none])) := aT_get (kd := 1) (N := 1000) (kf := 23) hq21
  have hz22 : zb (cX7_T22 (gt G) q) (cX7_M22 (gt G).length μ) := zb_to hz21 (by rw [cX7_T22, aT_len]; exact Nat.le_add_right _ _) (by rw [cX7_M22]; exact upG_1 _ _ _) (by rw [cX7_M22]; exact upG_2 _ _ _)
  change VC (gw G (cX7_T22 (gt G) q)) mX7_init 187 [some (.ref q)] [] (cX7_M22 (gt G).length μ) True (.inl none) (cX7_T (gt G) q) (cX7_M (gt G).length μ)
  refine VC_fl_int (pcb := 191) (N := 4000) (n := 4000) (kf := 24) dX7_init_187 rfl (VC_sipush (v := 4000) dX7_init_188 rfl) dX7_init_191 aw_int (by decide) (by decide) (Nat.le_of_ble_eq_true rfl) hz22 k_X7 (by decide) lk_RX7_85 rfl rfl rfl rfl (fun _ => ⟨rfl, rfl⟩) dX7_init_193 hq22 rfl ?_
  have hq23 : (cX7_T23 (gt G) q)[q]? = some (.inr (7, [none, some (some (gt G).length), some (some (cX7_T1 (gt G) q).length), some (some (cX7_T2 (gt G) q).length), some (some (cX7_T3 (gt G) q).length), none, some (some (cX7_T4 (gt G) q).length), some (some (cX7_T5 (gt G) q).length), some (some (cX7_T6 (gt G) q).length), some (some (cX7_T7 (gt G) q).length), some (some (cX7_T8 (gt G) q).length), some (some (cX7_T9 (gt G) q).length), some (some (cX7_T10 (gt G) q).length), some (some (cX7_T11 (gt G) q).length), some (some (cX7_T12 (gt G) q).length), some (some (cX7_T13 (gt G) q).length), some (some (cX7_T14 (gt G) q).length), some (some (cX7_T15 (gt G) q).length), some (some (cX7_T16 (gt G) q).length), some (some (cX7_T17 (gt G) q).length), some (some (cX7_T18 (gt G) q).length), some (some (cX7_T19 (gt G) q).length), some (some (cX7_T20 (gt G) q).length), some (some (cX7_T21 (gt G) q).length), some (some (cX7_T22 (gt G) q).length), some none, some none, some none, some none, none, none, none, none, some none, some none, some none, some none, some none, some none, some none, some none, some none, some none, some none, some none, some none, some none, some none, none, none])) := aT_get (kd := 0) (N := 4000) (kf := 24) hq22
  have hz23 : zb (cX7_T23 (gt G) q) (cX7_M23 (gt G).length μ) := zb_to hz22 (by rw [cX7_T23, aT_len]; exact Nat.le_add_right _ _) (by rw [cX7_M23]; exact upG_1 _ _ _) (by rw [cX7_M23]; exact upG_2 _ _ _)
  change VC (gw G (cX7_T23 (gt G) q)) mX7_init 196 [some (.ref q)] [] (cX7_M23 (gt G).length μ) True (.inl none) (cX7_T (gt G) q) (cX7_M (gt G).length μ)
  refine VC_fl_long (pcb := 200) (N := 250) (n := 250) (kf := 25) dX7_init_196 rfl (VC_sipush (v := 250) dX7_init_197 rfl) dX7_init_200 aw_long (by decide) (by decide) (Nat.le_of_ble_eq_true rfl) hz23 k_X7 (by decide) lk_RX7_88 rfl rfl rfl rfl (fun _ => ⟨rfl, rfl⟩) dX7_init_202 hq23 rfl ?_
  have hq24 : (cX7_T24 (gt G) q)[q]? = some (.inr (7, [none, some (some (gt G).length), some (some (cX7_T1 (gt G) q).length), some (some (cX7_T2 (gt G) q).length), some (some (cX7_T3 (gt G) q).length), none, some (some (cX7_T4 (gt G) q).length), some (some (cX7_T5 (gt G) q).length), some (some (cX7_T6 (gt G) q).length), some (some (cX7_T7 (gt G) q).length), some (some (cX7_T8 (gt G) q).length), some (some (cX7_T9 (gt G) q).length), some (some (cX7_T10 (gt G) q).length), some (some (cX7_T11 (gt G) q).length), some (some (cX7_T12 (gt G) q).length), some (some (cX7_T13 (gt G) q).length), some (some (cX7_T14 (gt G) q).length), some (some (cX7_T15 (gt G) q).length), some (some (cX7_T16 (gt G) q).length), some (some (cX7_T17 (gt G) q).length), some (some (cX7_T18 (gt G) q).length), some (some (cX7_T19 (gt G) q).length), some (some (cX7_T20 (gt G) q).length), some (some (cX7_T21 (gt G) q).length), some (some (cX7_T22 (gt G) q).length), some (some (cX7_T23 (gt G) q).length), some none, some none, some none, none, none, none, none, some none, some none, some none, some none, some none, some none, some none, some none, some none, some none, some none, some none, some none, some none, some none, none, none])) := aT_get (kd := 1) (N := 250) (kf := 25) hq23
  have hz24 : zb (cX7_T24 (gt G) q) (cX7_M24 (gt G).length μ) := zb_to hz23 (by rw [cX7_T24, aT_len]; exact Nat.le_add_right _ _) (by rw [cX7_M24]; exact upG_1 _ _ _) (by rw [cX7_M24]; exact upG_2 _ _ _)
  change VC (gw G (cX7_T24 (gt G) q)) mX7_init 205 [some (.ref q)] [] (cX7_M24 (gt G).length μ) True (.inl none) (cX7_T (gt G) q) (cX7_M (gt G).length μ)
  refine VC_fl_long (pcb := 209) (N := 175) (n := 175) (kf := 26) dX7_init_205 rfl (VC_sipush (v := 175) dX7_init_206 rfl) dX7_init_209 aw_long (by decide) (by decide) (Nat.le_of_ble_eq_true rfl) hz24 k_X7 (by decide) lk_RX7_91 rfl rfl rfl rfl (fun _ => ⟨rfl, rfl⟩) dX7_init_211 hq24 rfl ?_
  have hq25 : (cX7_T25 (gt G) q)[q]? = some (.inr (7, [none, some (some (gt G).length), some (some (cX7_T1 (gt G) q).length), some (some (cX7_T2 (gt G) q).length), some (some (cX7_T3 (gt G) q).length), none, some (some (cX7_T4 (gt G) q).length), some (some (cX7_T5 (gt G) q).length), some (some (cX7_T6 (gt G) q).length), some (some (cX7_T7 (gt G) q).length), some (some (cX7_T8 (gt G) q).length), some (some (cX7_T9 (gt G) q).length), some (some (cX7_T10 (gt G) q).length), some (some (cX7_T11 (gt G) q).length), some (some (cX7_T12 (gt G) q).length), some (some (cX7_T13 (gt G) q).length), some (some (cX7_T14 (gt G) q).length), some (some (cX7_T15 (gt G) q).length), some (some (cX7_T16 (gt G) q).length), some (some (cX7_T17 (gt G) q).length), some (some (cX7_T18 (gt G) q).length), some (some (cX7_T19 (gt G) q).length), some (some (cX7_T20 (gt G) q).length), some (some (cX7_T21 (gt G) q).length), some (some (cX7_T22 (gt G) q).length), some (some (cX7_T23 (gt G) q).length), some (some (cX7_T24 (gt G) q).length), some none, some none, none, none, none, none, some none, some none, some none, some none, some none, some none, some none, some none, some none, some none, some none, some none, some none, some none, some none, none, none])) := aT_get (kd := 1) (N := 175) (kf := 26) hq24
  have hz25 : zb (cX7_T25 (gt G) q) (cX7_M25 (gt G).length μ) := zb_to hz24 (by rw [cX7_T25, aT_len]; exact Nat.le_add_right _ _) (by rw [cX7_M25]; exact upG_1 _ _ _) (by rw [cX7_M25]; exact upG_2 _ _ _)
  change VC (gw G (cX7_T25 (gt G) q)) mX7_init 214 [some (.ref q)] [] (cX7_M25 (gt G).length μ) True (.inl none) (cX7_T (gt G) q) (cX7_M (gt G).length μ)
  refine VC_fl_int (pcb := 217) (N := 10) (n := 10) (kf := 27) dX7_init_214 rfl (VC_bipush (v := 10) dX7_init_215 rfl) dX7_init_217 aw_int (by decide) (by decide) (Nat.le_of_ble_eq_true rfl) hz25 k_X7 (by decide) lk_RX7_94 rfl rfl rfl rfl (fun _ => ⟨rfl, rfl⟩) dX7_init_219 hq25 rfl ?_
  have hq26 : (cX7_T26 (gt G) q)[q]? = some (.inr (7, [none, some (some (gt G).length), some (some (cX7_T1 (gt G) q).length), some (some (cX7_T2 (gt G) q).length), some (some (cX7_T3 (gt G) q).length), none, some (some (cX7_T4 (gt G) q).length), some (some (cX7_T5 (gt G) q).length), some (some (cX7_T6 (gt G) q).length), some (some (cX7_T7 (gt G) q).length), some (some (cX7_T8 (gt G) q).length), some (some (cX7_T9 (gt G) q).length), some (some (cX7_T10 (gt G) q).length), some (some (cX7_T11 (gt G) q).length), some (some (cX7_T12 (gt G) q).length), some (some (cX7_T13 (gt G) q).length), some (some (cX7_T14 (gt G) q).length), some (some (cX7_T15 (gt G) q).length), some (some (cX7_T16 (gt G) q).length), some (some (cX7_T17 (gt G) q).length), some (some (cX7_T18 (gt G) q).length), some (some (cX7_T19 (gt G) q).length), some (some (cX7_T20 (gt G) q).length), some (some (cX7_T21 (gt G) q).length), some (some (cX7_T22 (gt G) q).length), some (some (cX7_T23 (gt G) q).length), some (some (cX7_T24 (gt G) q).length), some (some (cX7_T25 (gt G) q).length), some none, none, none, none, none, some none, some none, some none, some none, some none, some none, some none, some none, some none, some none, some none, some none, some none, some none, some none, none, none])) := aT_get (kd := 0) (N := 10) (kf := 27) hq25
  have hz26 : zb (cX7_T26 (gt G) q) (cX7_M26 (gt G).length μ) := zb_to hz25 (by rw [cX7_T26, aT_len]; exact Nat.le_add_right _ _) (by rw [cX7_M26]; exact upG_1 _ _ _) (by rw [cX7_M26]; exact upG_2 _ _ _)
  change VC (gw G (cX7_T26 (gt G) q)) mX7_init 222 [some (.ref q)] [] (cX7_M26 (gt G).length μ) True (.inl none) (cX7_T (gt G) q) (cX7_M (gt G).length μ)
  refine VC_fl_int (pcb := 225) (N := 10) (n := 10) (kf := 28) dX7_init_222 rfl (VC_bipush (v := 10) dX7_init_223 rfl) dX7_init_225 aw_int (by decide) (by decide) (Nat.le_of_ble_eq_true rfl) hz26 k_X7 (by decide) lk_RX7_97 rfl rfl rfl rfl (fun _ => ⟨rfl, rfl⟩) dX7_init_227 hq26 rfl ?_
  have hq27 : (cX7_T27 (gt G) q)[q]? = some (.inr (7, [none, some (some (gt G).length), some (some (cX7_T1 (gt G) q).length), some (some (cX7_T2 (gt G) q).length), some (some (cX7_T3 (gt G) q).length), none, some (some (cX7_T4 (gt G) q).length), some (some (cX7_T5 (gt G) q).length), some (some (cX7_T6 (gt G) q).length), some (some (cX7_T7 (gt G) q).length), some (some (cX7_T8 (gt G) q).length), some (some (cX7_T9 (gt G) q).length), some (some (cX7_T10 (gt G) q).length), some (some (cX7_T11 (gt G) q).length), some (some (cX7_T12 (gt G) q).length), some (some (cX7_T13 (gt G) q).length), some (some (cX7_T14 (gt G) q).length), some (some (cX7_T15 (gt G) q).length), some (some (cX7_T16 (gt G) q).length), some (some (cX7_T17 (gt G) q).length), some (some (cX7_T18 (gt G) q).length), some (some (cX7_T19 (gt G) q).length), some (some (cX7_T20 (gt G) q).length), some (some (cX7_T21 (gt G) q).length), some (some (cX7_T22 (gt G) q).length), some (some (cX7_T23 (gt G) q).length), some (some (cX7_T24 (gt G) q).length), some (some (cX7_T25 (gt G) q).length), some (some (cX7_T26 (gt G) q).length), none, none, none, none, some none, some none, some none, some none, some none, some none, some none, some none, some none, some none, some none, some none, some none, some none, some none, none, none])) := aT_get (kd := 0) (N := 10) (kf := 28) hq26
  have hz27 : zb (cX7_T27 (gt G) q) (cX7_M27 (gt G).length μ) := zb_to hz26 (by rw [cX7_T27, aT_len]; exact Nat.le_add_right _ _) (by rw [cX7_M27]; exact upG_1 _ _ _) (by rw [cX7_M27]; exact upG_2 _ _ _)
  change VC (gw G (cX7_T27 (gt G) q)) mX7_init 230 [some (.ref q)] [] (cX7_M27 (gt G).length μ) True (.inl none) (cX7_T (gt G) q) (cX7_M (gt G).length μ)
  refine VC_fl_int (pcb := 233) (N := 72) (n := 72) (kf := 33) dX7_init_230 rfl (VC_bipush (v := 72) dX7_init_231 rfl) dX7_init_233 aw_int (by decide) (by decide) (Nat.le_of_ble_eq_true rfl) hz27 k_X7 (by decide) lk_RX7_100 rfl rfl rfl rfl (fun _ => ⟨rfl, rfl⟩) dX7_init_235 hq27 rfl ?_
  have hq28 : (cX7_T28 (gt G) q)[q]? = some (.inr (7, [none, some (some (gt G).length), some (some (cX7_T1 (gt G) q).length), some (some (cX7_T2 (gt G) q).length), some (some (cX7_T3 (gt G) q).length), none, some (some (cX7_T4 (gt G) q).length), some (some (cX7_T5 (gt G) q).length), some (some (cX7_T6 (gt G) q).length), some (some (cX7_T7 (gt G) q).length), some (some (cX7_T8 (gt G) q).length), some (some (cX7_T9 (gt G) q).length), some (some (cX7_T10 (gt G) q).length), some (some (cX7_T11 (gt G) q).length), some (some (cX7_T12 (gt G) q).length), some (some (cX7_T13 (gt G) q).length), some (some (cX7_T14 (gt G) q).length), some (some (cX7_T15 (gt G) q).length), some (some (cX7_T16 (gt G) q).length), some (some (cX7_T17 (gt G) q).length), some (some (cX7_T18 (gt G) q).length), some (some (cX7_T19 (gt G) q).length), some (some (cX7_T20 (gt G) q).length), some (some (cX7_T21 (gt G) q).length), some (some (cX7_T22 (gt G) q).length), some (some (cX7_T23 (gt G) q).length), some (some (cX7_T24 (gt G) q).length), some (some (cX7_T25 (gt G) q).length), some (some (cX7_T26 (gt G) q).length), none, none, none, none, some (some (cX7_T27 (gt G) q).length), some none, some none, some none, some none, some none, some none, some none, some none, some none, some none, some none, some none, some none, some none, none, none])) := aT_get (kd := 0) (N := 72) (kf := 33) hq27
  have hz28 : zb (cX7_T28 (gt G) q) (cX7_M28 (gt G).length μ) := zb_to hz27 (by rw [cX7_T28, aT_len]; exact Nat.le_add_right _ _) (by rw [cX7_M28]; exact upG_1 _ _ _) (by rw [cX7_M28]; exact upG_2 _ _ _)
  change VC (gw G (cX7_T28 (gt G) q)) mX7_init 238 [some (.ref q)] [] (cX7_M28 (gt G).length μ) True (.inl none) (cX7_T (gt G) q) (cX7_M (gt G).length μ)
  refine VC_fl_int (pcb := 241) (N := 12) (n := 12) (kf := 34) dX7_init_238 rfl (VC_bipush (v := 12) dX7_init_239 rfl) dX7_init_241 aw_int (by decide) (by decide) (Nat.le_of_ble_eq_true rfl) hz28 k_X7 (by decide) lk_RX7_103 rfl rfl rfl rfl (fun _ => ⟨rfl, rfl⟩) dX7_init_243 hq28 rfl ?_
  have hq29 : (cX7_T29 (gt G) q)[q]? = some (.inr (7, [none, some (some (gt G).length), some (some (cX7_T1 (gt G) q).length), some (some (cX7_T2 (gt G) q).length), some (some (cX7_T3 (gt G) q).length), none, some (some (cX7_T4 (gt G) q).length), some (some (cX7_T5 (gt G) q).length), some (some (cX7_T6 (gt G) q).length), some (some (cX7_T7 (gt G) q).length), some (some (cX7_T8 (gt G) q).length), some (some (cX7_T9 (gt G) q).length), some (some (cX7_T10 (gt G) q).length), some (some (cX7_T11 (gt G) q).length), some (some (cX7_T12 (gt G) q).length), some (some (cX7_T13 (gt G) q).length), some (some (cX7_T14 (gt G) q).length), some (some (cX7_T15 (gt G) q).length), some (some (cX7_T16 (gt G) q).length), some (some (cX7_T17 (gt G) q).length), some (some (cX7_T18 (gt G) q).length), some (some (cX7_T19 (gt G) q).length), some (some (cX7_T20 (gt G) q).length), some (some (cX7_T21 (gt G) q).length), some (some (cX7_T22 (gt G) q).length), some (some (cX7_T23 (gt G) q).length), some (some (cX7_T24 (gt G) q).length), some (some (cX7_T25 (gt G) q).length), some (some (cX7_T26 (gt G) q).length), none, none, none, none, some (some (cX7_T27 (gt G) q).length), some (some (cX7_T28 (gt G) q).length), some none, some none, some none, some none, some none, some none, some none, some none, some none, some none, some none, some none, some none, none, none])) := aT_get (kd := 0) (N := 12) (kf := 34) hq28
  have hz29 : zb (cX7_T29 (gt G) q) (cX7_M29 (gt G).length μ) := zb_to hz28 (by rw [cX7_T29, aT_len]; exact Nat.le_add_right _ _) (by rw [cX7_M29]; exact upG_1 _ _ _) (by rw [cX7_M29]; exact upG_2 _ _ _)
  change VC (gw G (cX7_T29 (gt G) q)) mX7_init 246 [some (.ref q)] [] (cX7_M29 (gt G).length μ) True (.inl none) (cX7_T (gt G) q) (cX7_M (gt G).length μ)
  refine VC_fl_int (pcb := 249) (N := 40) (n := 40) (kf := 35) dX7_init_246 rfl (VC_bipush (v := 40) dX7_init_247 rfl) dX7_init_249 aw_int (by decide) (by decide) (Nat.le_of_ble_eq_true rfl) hz29 k_X7 (by decide) lk_RX7_106 rfl rfl rfl rfl (fun _ => ⟨rfl, rfl⟩) dX7_init_251 hq29 rfl ?_
  have hq30 : (cX7_T30 (gt G) q)[q]? = some (.inr (7, [none, some (some (gt G).length), some (some (cX7_T1 (gt G) q).length), some (some (cX7_T2 (gt G) q).length), some (some (cX7_T3 (gt G) q).length), none, some (some (cX7_T4 (gt G) q).length), some (some (cX7_T5 (gt G) q).length), some (some (cX7_T6 (gt G) q).length), some (some (cX7_T7 (gt G) q).length), some (some (cX7_T8 (gt G) q).length), some (some (cX7_T9 (gt G) q).length), some (some (cX7_T10 (gt G) q).length), some (some (cX7_T11 (gt G) q).length), some (some (cX7_T12 (gt G) q).length), some (some (cX7_T13 (gt G) q).length), some (some (cX7_T14 (gt G) q).length), some (some (cX7_T15 (gt G) q).length), some (some (cX7_T16 (gt G) q).length), some (some (cX7_T17 (gt G) q).length), some (some (cX7_T18 (gt G) q).length), some (some (cX7_T19 (gt G) q).length), some (some (cX7_T20 (gt G) q).length), some (some (cX7_T21 (gt G) q).length), some (some (cX7_T22 (gt G) q).length), some (some (cX7_T23 (gt G) q).length), some (some (cX7_T24 (gt G) q).length), some (some (cX7_T25 (gt G) q).length), some (some (cX7_T26 (gt G) q).length), none, none, none, none, some (some (cX7_T27 (gt G) q).length), some (some (cX7_T28 (gt G) q).length), some (some (cX7_T29 (gt G) q).length), some none, some none, some none, some none, some none, some none, some none, some none, some none, some none, some none, some none, none, none])) := aT_get (kd := 0) (N := 40) (kf := 35) hq29
  have hz30 : zb (cX7_T30 (gt G) q) (cX7_M30 (gt G).length μ) := zb_to hz29 (by rw [cX7_T30, aT_len]; exact Nat.le_add_right _ _) (by rw [cX7_M30]; exact upG_1 _ _ _) (by rw [cX7_M30]; exact upG_2 _ _ _)
  change VC (gw G (cX7_T30 (gt G) q)) mX7_init 254 [some (.ref q)] [] (cX7_M30 (gt G).length μ) True (.inl none) (cX7_T (gt G) q) (cX7_M (gt G).length μ)
  refine VC_fl_long (pcb := 257) (N := 40) (n := 40) (kf := 36) dX7_init_254 rfl (VC_bipush (v := 40) dX7_init_255 rfl) dX7_init_257 aw_long (by decide) (by decide) (Nat.le_of_ble_eq_true rfl) hz30 k_X7 (by decide) lk_RX7_109 rfl rfl rfl rfl (fun _ => ⟨rfl, rfl⟩) dX7_init_259 hq30 rfl ?_
  have hq31 : (cX7_T31 (gt G) q)[q]? = some (.inr (7, [none, some (some (gt G).length), some (some (cX7_T1 (gt G) q).length), some (some (cX7_T2 (gt G) q).length), some (some (cX7_T3 (gt G) q).length), none, some (some (cX7_T4 (gt G) q).length), some (some (cX7_T5 (gt G) q).length), some (some (cX7_T6 (gt G) q).length), some (some (cX7_T7 (gt G) q).length), some (some (cX7_T8 (gt G) q).length), some (some (cX7_T9 (gt G) q).length), some (some (cX7_T10 (gt G) q).length), some (some (cX7_T11 (gt G) q).length), some (some (cX7_T12 (gt G) q).length), some (some (cX7_T13 (gt G) q).length), some (some (cX7_T14 (gt G) q).length), some (some (cX7_T15 (gt G) q).length), some (some (cX7_T16 (gt G) q).length), some (some (cX7_T17 (gt G) q).length), some (some (cX7_T18 (gt G) q).length), some (some (cX7_T19 (gt G) q).length), some (some (cX7_T20 (gt G) q).length), some (some (cX7_T21 (gt G) q).length), some (some (cX7_T22 (gt G) q).length), some (some (cX7_T23 (gt G) q).length), some (some (cX7_T24 (gt G) q).length), some (some (cX7_T25 (gt G) q).length), some (some (cX7_T26 (gt G) q).length), none, none, none, none, some (some (cX7_T27 (gt G) q).length), some (some (cX7_T28 (gt G) q).length), some (some (cX7_T29 (gt G) q).length), some (some (cX7_T30 (gt G) q).length), some none, some none, some none, some none, some none, some none, some none, some none, some none, some none, some none, none, none])) := aT_get (kd := 1) (N := 40) (kf := 36) hq30
  have hz31 : zb (cX7_T31 (gt G) q) (cX7_M31 (gt G).length μ) := zb_to hz30 (by rw [cX7_T31, aT_len]; exact Nat.le_add_right _ _) (by rw [cX7_M31]; exact upG_1 _ _ _) (by rw [cX7_M31]; exact upG_2 _ _ _)
  change VC (gw G (cX7_T31 (gt G) q)) mX7_init 262 [some (.ref q)] [] (cX7_M31 (gt G).length μ) True (.inl none) (cX7_T (gt G) q) (cX7_M (gt G).length μ)
  refine VC_fl_long (pcb := 265) (N := 40) (n := 40) (kf := 37) dX7_init_262 rfl (VC_bipush (v := 40) dX7_init_263 rfl) dX7_init_265 aw_long (by decide) (by decide) (Nat.le_of_ble_eq_true rfl) hz31 k_X7 (by decide) lk_RX7_112 rfl rfl rfl rfl (fun _ => ⟨rfl, rfl⟩) dX7_init_267 hq31 rfl ?_
  have hq32 : (cX7_T32 (gt G) q)[q]? = some (.inr (7, [none, some (some (gt G).length), some (some (cX7_T1 (gt G) q).length), some (some (cX7_T2 (gt G) q).length), some (some (cX7_T3 (gt G) q).length), none, some (some (cX7_T4 (gt G) q).length), some (some (cX7_T5 (gt G) q).length), some (some (cX7_T6 (gt G) q).length), some (some (cX7_T7 (gt G) q).length), some (some (cX7_T8 (gt G) q).length), some (some (cX7_T9 (gt G) q).length), some (some (cX7_T10 (gt G) q).length), some (some (cX7_T11 (gt G) q).length), some (some (cX7_T12 (gt G) q).length), some (some (cX7_T13 (gt G) q).length), some (some (cX7_T14 (gt G) q).length), some (some (cX7_T15 (gt G) q).length), some (some (cX7_T16 (gt G) q).length), some (some (cX7_T17 (gt G) q).length), some (some (cX7_T18 (gt G) q).length), some (some (cX7_T19 (gt G) q).length), some (some (cX7_T20 (gt G) q).length), some (some (cX7_T21 (gt G) q).length), some (some (cX7_T22 (gt G) q).length), some (some (cX7_T23 (gt G) q).length), some (some (cX7_T24 (gt G) q).length), some (some (cX7_T25 (gt G) q).length), some (some (cX7_T26 (gt G) q).length), none, none, none, none, some (some (cX7_T27 (gt G) q).length), some (some (cX7_T28 (gt G) q).length), some (some (cX7_T29 (gt G) q).length), some (some (cX7_T30 (gt G) q).length), some (some (cX7_T31 (gt G) q).length), some none, some none, some none, some none, some none, some none, some none, some none, some none, some none, none, none])) := aT_get (kd := 1) (N := 40) (kf := 37) hq31
  have hz32 : zb (cX7_T32 (gt G) q) (cX7_M32 (gt G).length μ) := zb_to hz31 (by rw [cX7_T32, aT_len]; exact Nat.le_add_right _ _) (by rw [cX7_M32]; exact upG_1 _ _ _) (by rw [cX7_M32]; exact upG_2 _ _ _)
  change VC (gw G (cX7_T32 (gt G) q)) mX7_init 270 [some (.ref q)] [] (cX7_M32 (gt G).length μ) True (.inl none) (cX7_T (gt G) q) (cX7_M (gt G).length μ)
  refine VC_fl_long (pcb := 273) (N := 40) (n := 40) (kf := 38) dX7_init_270 rfl (VC_bipush (v := 40) dX7_init_271 rfl) dX7_init_273 aw_long (by decide) (by decide) (Nat.le_of_ble_eq_true rfl) hz32 k_X7 (by decide) lk_RX7_115 rfl rfl rfl rfl (fun _ => ⟨rfl, rfl⟩) dX7_init_275 hq32 rfl ?_
  have hq33 : (cX7_T33 (gt G) q)[q]? = some (.inr (7, [none, some (some (gt G).length), some (some (cX7_T1 (gt G) q).length), some (some (cX7_T2 (gt G) q).length), some (some (cX7_T3 (gt G) q).length), none, some (some (cX7_T4 (gt G) q).length), some (some (cX7_T5 (gt G) q).length), some (some (cX7_T6 (gt G) q).length), some (some (cX7_T7 (gt G) q).length), some (some (cX7_T8 (gt G) q).length), some (some (cX7_T9 (gt G) q).length), some (some (cX7_T10 (gt G) q).length), some (some (cX7_T11 (gt G) q).length), some (some (cX7_T12 (gt G) q).length), some (some (cX7_T13 (gt G) q).length), some (some (cX7_T14 (gt G) q).length), some (some (cX7_T15 (gt G) q).length), some (some (cX7_T16 (gt G) q).length), some (some (cX7_T17 (gt G) q).length), some (some (cX7_T18 (gt G) q).length), some (some (cX7_T19 (gt G) q).length), some (some (cX7_T20 (gt G) q).length), some (some (cX7_T21 (gt G) q).length), some (some (cX7_T22 (gt G) q).length), some (some (cX7_T23 (gt G) q).length), some (some (cX7_T24 (gt G) q).length), some (some (cX7_T25 (gt G) q).length), some (some (cX7_T26 (gt G) q).length), none, none, none, none, some (some (cX7_T27 (gt G) q).length), some (some (cX7_T28 (gt G) q).length), some (some (cX7_T29 (gt G) q).length), some (some (cX7_T30 (gt G) q).length), some (some (cX7_T31 (gt G) q).length), some (some (cX7_T32 (gt G) q).length), some none, some none, some none, some none, some none, some none, some none, some none, some none, none, none])) := aT_get (kd := 1) (N := 40) (kf := 38) hq32
  have hz33 : zb (cX7_T33 (gt G) q) (cX7_M33 (gt G).length μ) := zb_to hz32 (by rw [cX7_T33, aT_len]; exact Nat.le_add_right _ _) (by rw [cX7_M33]; exact upG_1 _ _ _) (by rw [cX7_M33]; exact upG_2 _ _ _)
  change VC (gw G (cX7_T33 (gt G) q)) mX7_init 278 [some (.ref q)] [] (cX7_M33 (gt G).length μ) True (.inl none) (cX7_T (gt G) q) (cX7_M (gt G).length μ)
  refine VC_fl_long (pcb := 281) (N := 40) (n := 40) (kf := 39) dX7_init_278 rfl (VC_bipush (v := 40) dX7_init_279 rfl) dX7_init_281 aw_long (by decide) (by decide) (Nat.le_of_ble_eq_true rfl) hz33 k_X7 (by decide) lk_RX7_118 rfl rfl rfl rfl (fun _ => ⟨rfl, rfl⟩) dX7_init_283 hq33 rfl ?_
  have hq34 : (cX7_T34 (gt G) q)[q]? = some (.inr (7, [none, some (some (gt G).length), some (some (cX7_T1 (gt G) q).length), some (some (cX7_T2 (gt G) q).length), some (some (cX7_T3 (gt G) q).length), none, some (some (cX7_T4 (gt G) q).length), some (some (cX7_T5 (gt G) q).length), some (some (cX7_T6 (gt G) q).length), some (some (cX7_T7 (gt G) q).length), some (some (cX7_T8 (gt G) q).length), some (some (cX7_T9 (gt G) q).length), some (some (cX7_T10 (gt G) q).length), some (some (cX7_T11 (gt G) q).length), some (some (cX7_T12 (gt G) q).length), some (some (cX7_T13 (gt G) q).length), some (some (cX7_T14 (gt G) q).length), some (some (cX7_T15 (gt G) q).length), some (some (cX7_T16 (gt G) q).length), some (some (cX7_T17 (gt G) q).length), some (some (cX7_T18 (gt G) q).length), some (some (cX7_T19 (gt G) q).length), some (some (cX7_T20 (gt G) q).length), some (some (cX7_T21 (gt G) q).length), some (some (cX7_T22 (gt G) q).length), some (some (cX7_T23 (gt G) q).length), some (some (cX7_T24 (gt G) q).length), some (some (cX7_T25 (gt G) q).length), some (some (cX7_T26 (gt G) q).length), none, none, none, none, some (some (cX7_T27 (gt G) q).length), some (some (cX7_T28 (gt G) q).length), some (some (cX7_T29 (gt G) q).length), some (some (cX7_T30 (gt G) q).length), some (some (cX7_T31 (gt G) q).length), some (some (cX7_T32 (gt G) q).length), some (some (cX7_T33 (gt G) q).length), some none, some none, some none, some none, some none, some none, some none, some none, none, none])) := aT_get (kd := 1) (N := 40) (kf := 39) hq33
  have hz34 : zb (cX7_T34 (gt G) q) (cX7_M34 (gt G).length μ) := zb_to hz33 (by rw [cX7_T34, aT_len]; exact Nat.le_add_right _ _) (by rw [cX7_M34]; exact upG_1 _ _ _) (by rw [cX7_M34]; exact upG_2 _ _ _)
  change VC (gw G (cX7_T34 (gt G) q)) mX7_init 286 [some (.ref q)] [] (cX7_M34 (gt G).length μ) True (.inl none) (cX7_T (gt G) q) (cX7_M (gt G).length μ)
  refine VC_fl_long (pcb := 289) (N := 12) (n := 12) (kf := 40) dX7_init_286 rfl (VC_bipush (v := 12) dX7_init_287 rfl) dX7_init_289 aw_long (by decide) (by decide) (Nat.le_of_ble_eq_true rfl) hz34 k_X7 (by decide) lk_RX7_121 rfl rfl rfl rfl (fun _ => ⟨rfl, rfl⟩) dX7_init_291 hq34 rfl ?_
  have hq35 : (cX7_T35 (gt G) q)[q]? = some (.inr (7, [none, some (some (gt G).length), some (some (cX7_T1 (gt G) q).length), some (some (cX7_T2 (gt G) q).length), some (some (cX7_T3 (gt G) q).length), none, some (some (cX7_T4 (gt G) q).length), some (some (cX7_T5 (gt G) q).length), some (some (cX7_T6 (gt G) q).length), some (some (cX7_T7 (gt G) q).length), some (some (cX7_T8 (gt G) q).length), some (some (cX7_T9 (gt G) q).length), some (some (cX7_T10 (gt G) q).length), some (some (cX7_T11 (gt G) q).length), some (some (cX7_T12 (gt G) q).length), some (some (cX7_T13 (gt G) q).length), some (some (cX7_T14 (gt G) q).length), some (some (cX7_T15 (gt G) q).length), some (some (cX7_T16 (gt G) q).length), some (some (cX7_T17 (gt G) q).length), some (some (cX7_T18 (gt G) q).length), some (some (cX7_T19 (gt G) q).length), some (some (cX7_T20 (gt G) q).length), some (some (cX7_T21 (gt G) q).length), some (some (cX7_T22 (gt G) q).length), some (some (cX7_T23 (gt G) q).length), some (some (cX7_T24 (gt G) q).length), some (some (cX7_T25 (gt G) q).length), some (some (cX7_T26 (gt G) q).length), none, none, none, none, some (some (cX7_T27 (gt G) q).length), some (some (cX7_T28 (gt G) q).length), some (some (cX7_T29 (gt G) q).length), some (some (cX7_T30 (gt G) q).length), some (some (cX7_T31 (gt G) q).length), some (some (cX7_T32 (gt G) q).length), some (some (cX7_T33 (gt G) q).length), some (some (cX7_T34 (gt G) q).length), some none, some none, some none, some none, some none, some none, some none, none, none])) := aT_get (kd := 1) (N := 12) (kf := 40) hq34
  have hz35 : zb (cX7_T35 (gt G) q) (cX7_M35 (gt G).length μ) := zb_to hz34 (by rw [cX7_T35, aT_len]; exact Nat.le_add_right _ _) (by rw [cX7_M35]; exact upG_1 _ _ _) (by rw [cX7_M35]; exact upG_2 _ _ _)
  change VC (gw G (cX7_T35 (gt G) q)) mX7_init 294 [some (.ref q)] [] (cX7_M35 (gt G).length μ) True (.inl none) (cX7_T (gt G) q) (cX7_M (gt G).length μ)
  refine VC_fl_int (pcb := 297) (N := 12) (n := 12) (kf := 41) dX7_init_294 rfl (VC_bipush (v := 12) dX7_init_295 rfl) dX7_init_297 aw_int (by decide) (by decide) (Nat.le_of_ble_eq_true rfl) hz35 k_X7 (by decide) lk_RX7_124 rfl rfl rfl rfl (fun _ => ⟨rfl, rfl⟩) dX7_init_299 hq35 rfl ?_
  have hq36 : (cX7_T36 (gt G) q)[q]? = some (.inr (7, [none, some (some (gt G).length), some (some (cX7_T1 (gt G) q).length), some (some (cX7_T2 (gt G) q).length), some (some (cX7_T3 (gt G) q).length), none, some (some (cX7_T4 (gt G) q).length), some (some (cX7_T5 (gt G) q).length), some (some (cX7_T6 (gt G) q).length), some (some (cX7_T7 (gt G) q).length), some (some (cX7_T8 (gt G) q).length), some (some (cX7_T9 (gt G) q).length), some (some (cX7_T10 (gt G) q).length), some (some (cX7_T11 (gt G) q).length), some (some (cX7_T12 (gt G) q).length), some (some (cX7_T13 (gt G) q).length), some (some (cX7_T14 (gt G) q).length), some (some (cX7_T15 (gt G) q).length), some (some (cX7_T16 (gt G) q).length), some (some (cX7_T17 (gt G) q).length), some (some (cX7_T18 (gt G) q).length), some (some (cX7_T19 (gt G) q).length), some (some (cX7_T20 (gt G) q).length), some (some (cX7_T21 (gt G) q).length), some (some (cX7_T22 (gt G) q).length), some (some (cX7_T23 (gt G) q).length), some (some (cX7_T24 (gt G) q).length), some (some (cX7_T25 (gt G) q).length), some (some (cX7_T26 (gt G) q).length), none, none, none, none, some (some (cX7_T27 (gt G) q).length), some (some (cX7_T28 (gt G) q).length), some (some (cX7_T29 (gt G) q).length), some (some (cX7_T30 (gt G) q).length), some (some (cX7_T31 (gt G) q).length), some (some (cX7_T32 (gt G) q).length), some (some (cX7_T33 (gt G) q).length), some (some (cX7_T34 (gt G) q).length), some (some (cX7_T35 (gt G) q).length), some none, some none, some none, some none, some none, some none, none, none])) := aT_get (kd := 0) (N := 12) (kf := 41) hq35
  have hz36 : zb (cX7_T36 (gt G) q) (cX7_M36 (gt G).length μ) := zb_to hz35 (by rw [cX7_T36, aT_len]; exact Nat.le_add_right _ _) (by rw [cX7_M36]; exact upG_1 _ _ _) (by rw [cX7_M36]; exact upG_2 _ _ _)
  change VC (gw G (cX7_T36 (gt G) q)) mX7_init 302 [some (.ref q)] [] (cX7_M36 (gt G).length μ) True (.inl none) (cX7_T (gt G) q) (cX7_M (gt G).length μ)
  refine VC_fl_long (pcb := 305) (N := 40) (n := 40) (kf := 42) dX7_init_302 rfl (VC_bipush (v := 40) dX7_init_303 rfl) dX7_init_305 aw_long (by decide) (by decide) (Nat.le_of_ble_eq_true rfl) hz36 k_X7 (by decide) lk_RX7_127 rfl rfl rfl rfl (fun _ => ⟨rfl, rfl⟩) dX7_init_307 hq36 rfl ?_
  have hq37 : (cX7_T37 (gt G) q)[q]? = some (.inr (7, [none, some (some (gt G).length), some (some (cX7_T1 (gt G) q).length), some (some (cX7_T2 (gt G) q).length), some (some (cX7_T3 (gt G) q).length), none, some (some (cX7_T4 (gt G) q).length), some (some (cX7_T5 (gt G) q).length), some (some (cX7_T6 (gt G) q).length), some (some (cX7_T7 (gt G) q).length), some (some (cX7_T8 (gt G) q).length), some (some (cX7_T9 (gt G) q).length), some (some (cX7_T10 (gt G) q).length), some (some (cX7_T11 (gt G) q).length), some (some (cX7_T12 (gt G) q).length), some (some (cX7_T13 (gt G) q).length), some (some (cX7_T14 (gt G) q).length), some (some (cX7_T15 (gt G) q).length), some (some (cX7_T16 (gt G) q).length), some (some (cX7_T17 (gt G) q).length), some (some (cX7_T18 (gt G) q).length), some (some (cX7_T19 (gt G) q).length), some (some (cX7_T20 (gt G) q).length), some (some (cX7_T21 (gt G) q).length), some (some (cX7_T22 (gt G) q).length), some (some (cX7_T23 (gt G) q).length), some (some (cX7_T24 (gt G) q).length), some (some (cX7_T25 (gt G) q).length), some (some (cX7_T26 (gt G) q).length), none, none, none, none, some (some (cX7_T27 (gt G) q).length), some (some (cX7_T28 (gt G) q).length), some (some (cX7_T29 (gt G) q).length), some (some (cX7_T30 (gt G) q).length), some (some (cX7_T31 (gt G) q).length), some (some (cX7_T32 (gt G) q).length), some (some (cX7_T33 (gt G) q).length), some (some (cX7_T34 (gt G) q).length), some (some (cX7_T35 (gt G) q).length), some (some (cX7_T36 (gt G) q).length), some none, some none, some none, some none, some none, none, none])) := aT_get (kd := 1) (N := 40) (kf := 42) hq36
  have hz37 : zb (cX7_T37 (gt G) q) (cX7_M37 (gt G).length μ) := zb_to hz36 (by rw [cX7_T37, aT_len]; exact Nat.le_add_right _ _) (by rw [cX7_M37]; exact upG_1 _ _ _) (by rw [cX7_M37]; exact upG_2 _ _ _)
  change VC (gw G (cX7_T37 (gt G) q)) mX7_init 310 [some (.ref q)] [] (cX7_M37 (gt G).length μ) True (.inl none) (cX7_T (gt G) q) (cX7_M (gt G).length μ)
  refine VC_fl_long (pcb := 313) (N := 40) (n := 40) (kf := 43) dX7_init_310 rfl (VC_bipush (v := 40) dX7_init_311 rfl) dX7_init_313 aw_long (by decide) (by decide) (Nat.le_of_ble_eq_true rfl) hz37 k_X7 (by decide) lk_RX7_130 rfl rfl rfl rfl (fun _ => ⟨rfl, rfl⟩) dX7_init_315 hq37 rfl ?_
  have hq38 : (cX7_T38 (gt G) q)[q]? = some (.inr (7, [none, some (some (gt G).length), some (some (cX7_T1 (gt G) q).length), some (some (cX7_T2 (gt G) q).length), some (some (cX7_T3 (gt G) q).length), none, some (some (cX7_T4 (gt G) q).length), some (some (cX7_T5 (gt G) q).length), some (some (cX7_T6 (gt G) q).length), some (some (cX7_T7 (gt G) q).length), some (some (cX7_T8 (gt G) q).length), some (some (cX7_T9 (gt G) q).length), some (some (cX7_T10 (gt G) q).length), some (some (cX7_T11 (gt G) q).length), some (some (cX7_T12 (gt G) q).length), some (some (cX7_T13 (gt G) q).length), some (some (cX7_T14 (gt G) q).length), some (some (cX7_T15 (gt G) q).length), some (some (cX7_T16 (gt G) q).length), some (some (cX7_T17 (gt G) q).length), some (some (cX7_T18 (gt G) q).length), some (some (cX7_T19 (gt G) q).length), some (some (cX7_T20 (gt G) q).length), some (some (cX7_T21 (gt G) q).length), some (some (cX7_T22 (gt G) q).length), some (some (cX7_T23 (gt G) q).length), some (some (cX7_T24 (gt G) q).length), some (some (cX7_T25 (gt G) q).length), some (some (cX7_T26 (gt G) q).length), none, none, none, none, some (some (cX7_T27 (gt G) q).length), some (some (cX7_T28 (gt G) q).length), some (some (cX7_T29 (gt G) q).length), some (some (cX7_T30 (gt G) q).length), some (some (cX7_T31 (gt G) q).length), some (some (cX7_T32 (gt G) q).length), some (some (cX7_T33 (gt G) q).length), some (some (cX7_T34 (gt G) q).length), some (some (cX7_T35 (gt G) q).length), some (some (cX7_T36 (gt G) q).length), some (some (cX7_T37 (gt G) q).length), some none, some none, some none, some none, none, none])) := aT_get (kd := 1) (N := 40) (kf := 43) hq37
  have hz38 : zb (cX7_T38 (gt G) q) (cX7_M38 (gt G).length μ) := zb_to hz37 (by rw [cX7_T38, aT_len]; exact Nat.le_add_right _ _) (by rw [cX7_M38]; exact upG_1 _ _ _) (by rw [cX7_M38]; exact upG_2 _ _ _)
  change VC (gw G (cX7_T38 (gt G) q)) mX7_init 318 [some (.ref q)] [] (cX7_M38 (gt G).length μ) True (.inl none) (cX7_T (gt G) q) (cX7_M (gt G).length μ)
  refine VC_fl_long (pcb := 321) (N := 40) (n := 40) (kf := 44) dX7_init_318 rfl (VC_bipush (v := 40) dX7_init_319 rfl) dX7_init_321 aw_long (by decide) (by decide) (Nat.le_of_ble_eq_true rfl) hz38 k_X7 (by decide) lk_RX7_133 rfl rfl rfl rfl (fun _ => ⟨rfl, rfl⟩) dX7_init_323 hq38 rfl ?_
  have hq39 : (cX7_T39 (gt G) q)[q]? = some (.inr (7, [none, some (some (gt G).length), some (some (cX7_T1 (gt G) q).length), some (some (cX7_T2 (gt G) q).length), some (some (cX7_T3 (gt G) q).length), none, some (some (cX7_T4 (gt G) q).length), some (some (cX7_T5 (gt G) q).length), some (some (cX7_T6 (gt G) q).length), some (some (cX7_T7 (gt G) q).length), some (some (cX7_T8 (gt G) q).length), some (some (cX7_T9 (gt G) q).length), some (some (cX7_T10 (gt G) q).length), some (some (cX7_T11 (gt G) q).length), some (some (cX7_T12 (gt G) q).length), some (some (cX7_T13 (gt G) q).length), some (some (cX7_T14 (gt G) q).length), some (some (cX7_T15 (gt G) q).length), some (some (cX7_T16 (gt G) q).length), some (some (cX7_T17 (gt G) q).length), some (some (cX7_T18 (gt G) q).length), some (some (cX7_T19 (gt G) q).length), some (some (cX7_T20 (gt G) q).length), some (some (cX7_T21 (gt G) q).length), some (some (cX7_T22 (gt G) q).length), some (some (cX7_T23 (gt G) q).length), some (some (cX7_T24 (gt G) q).length), some (some (cX7_T25 (gt G) q).length), some (some (cX7_T26 (gt G) q).length), none, none, none, none, some (some (cX7_T27 (gt G) q).length), some (some (cX7_T28 (gt G) q).length), some (some (cX7_T29 (gt G) q).length), some (some (cX7_T30 (gt G) q).length), some (some (cX7_T31 (gt G) q).length), some (some (cX7_T32 (gt G) q).length), some (some (cX7_T33 (gt G) q).length), some (some (cX7_T34 (gt G) q).length), some (some (cX7_T35 (gt G) q).length), some (some (cX7_T36 (gt G) q).length), some (some (cX7_T37 (gt G) q).length), some (some (cX7_T38 (gt G) q).length), some none, some none, some none, none, none])) := aT_get (kd := 1) (N := 40) (kf := 44) hq38
  have hz39 : zb (cX7_T39 (gt G) q) (cX7_M39 (gt G).length μ) := zb_to hz38 (by rw [cX7_T39, aT_len]; exact Nat.le_add_right _ _) (by rw [cX7_M39]; exact upG_1 _ _ _) (by rw [cX7_M39]; exact upG_2 _ _ _)
  change VC (gw G (cX7_T39 (gt G) q)) mX7_init 326 [some (.ref q)] [] (cX7_M39 (gt G).length μ) True (.inl none) (cX7_T (gt G) q) (cX7_M (gt G).length μ)
  refine VC_fl_long (pcb := 329) (N := 7) (n := 7) (kf := 45) dX7_init_326 rfl (VC_bipush (v := 7) dX7_init_327 rfl) dX7_init_329 aw_long (by decide) (by decide) (Nat.le_of_ble_eq_true rfl) hz39 k_X7 (by decide) lk_RX7_136 rfl rfl rfl rfl (fun _ => ⟨rfl, rfl⟩) dX7_init_331 hq39 rfl ?_
  have hq40 : (cX7_T40 (gt G) q)[q]? = some (.inr (7, [none, some (some (gt G).length), some (some (cX7_T1 (gt G) q).length), some (some (cX7_T2 (gt G) q).length), some (some (cX7_T3 (gt G) q).length), none, some (some (cX7_T4 (gt G) q).length), some (some (cX7_T5 (gt G) q).length), some (some (cX7_T6 (gt G) q).length), some (some (cX7_T7 (gt G) q).length), some (some (cX7_T8 (gt G) q).length), some (some (cX7_T9 (gt G) q).length), some (some (cX7_T10 (gt G) q).length), some (some (cX7_T11 (gt G) q).length), some (some (cX7_T12 (gt G) q).length), some (some (cX7_T13 (gt G) q).length), some (some (cX7_T14 (gt G) q).length), some (some (cX7_T15 (gt G) q).length), some (some (cX7_T16 (gt G) q).length), some (some (cX7_T17 (gt G) q).length), some (some (cX7_T18 (gt G) q).length), some (some (cX7_T19 (gt G) q).length), some (some (cX7_T20 (gt G) q).length), some (some (cX7_T21 (gt G) q).length), some (some (cX7_T22 (gt G) q).length), some (some (cX7_T23 (gt G) q).length), some (some (cX7_T24 (gt G) q).length), some (some (cX7_T25 (gt G) q).length), some (some (cX7_T26 (gt G) q).length), none, none, none, none, some (some (cX7_T27 (gt G) q).length), some (some (cX7_T28 (gt G) q).length), some (some (cX7_T29 (gt G) q).length), some (some (cX7_T30 (gt G) q).length), some (some (cX7_T31 (gt G) q).length), some (some (cX7_T32 (gt G) q).length), some (some (cX7_T33 (gt G) q).length), some (some (cX7_T34 (gt G) q).length), some (some (cX7_T35 (gt G) q).length), some (some (cX7_T36 (gt G) q).length), some (some (cX7_T37 (gt G) q).length), some (some (cX7_T38 (gt G) q).length), some (some (cX7_T39 (gt G) q).length), some none, some none, none, none])) := aT_get (kd := 1) (N := 7) (kf := 45) hq39
  have hz40 : zb (cX7_T40 (gt G) q) (cX7_M40 (gt G).length μ) := zb_to hz39 (by rw [cX7_T40, aT_len]; exact Nat.le_add_right _ _) (by rw [cX7_M40]; exact upG_1 _ _ _) (by rw [cX7_M40]; exact upG_2 _ _ _)
  change VC (gw G (cX7_T40 (gt G) q)) mX7_init 334 [some (.ref q)] [] (cX7_M40 (gt G).length μ) True (.inl none) (cX7_T (gt G) q) (cX7_M (gt G).length μ)
  refine VC_fl_long (pcb := 337) (N := 40) (n := 40) (kf := 46) dX7_init_334 rfl (VC_bipush (v := 40) dX7_init_335 rfl) dX7_init_337 aw_long (by decide) (by decide) (Nat.le_of_ble_eq_true rfl) hz40 k_X7 (by decide) lk_RX7_139 rfl rfl rfl rfl (fun _ => ⟨rfl, rfl⟩) dX7_init_339 hq40 rfl ?_
  have hq41 : (cX7_T41 (gt G) q)[q]? = some (.inr (7, [none, some (some (gt G).length), some (some (cX7_T1 (gt G) q).length), some (some (cX7_T2 (gt G) q).length), some (some (cX7_T3 (gt G) q).length), none, some (some (cX7_T4 (gt G) q).length), some (some (cX7_T5 (gt G) q).length), some (some (cX7_T6 (gt G) q).length), some (some (cX7_T7 (gt G) q).length), some (some (cX7_T8 (gt G) q).length), some (some (cX7_T9 (gt G) q).length), some (some (cX7_T10 (gt G) q).length), some (some (cX7_T11 (gt G) q).length), some (some (cX7_T12 (gt G) q).length), some (some (cX7_T13 (gt G) q).length), some (some (cX7_T14 (gt G) q).length), some (some (cX7_T15 (gt G) q).length), some (some (cX7_T16 (gt G) q).length), some (some (cX7_T17 (gt G) q).length), some (some (cX7_T18 (gt G) q).length), some (some (cX7_T19 (gt G) q).length), some (some (cX7_T20 (gt G) q).length), some (some (cX7_T21 (gt G) q).length), some (some (cX7_T22 (gt G) q).length), some (some (cX7_T23 (gt G) q).length), some (some (cX7_T24 (gt G) q).length), some (some (cX7_T25 (gt G) q).length), some (some (cX7_T26 (gt G) q).length), none, none, none, none, some (some (cX7_T27 (gt G) q).length), some (some (cX7_T28 (gt G) q).length), some (some (cX7_T29 (gt G) q).length), some (some (cX7_T30 (gt G) q).length), some (some (cX7_T31 (gt G) q).length), some (some (cX7_T32 (gt G) q).length), some (some (cX7_T33 (gt G) q).length), some (some (cX7_T34 (gt G) q).length), some (some (cX7_T35 (gt G) q).length), some (some (cX7_T36 (gt G) q).length), some (some (cX7_T37 (gt G) q).length), some (some (cX7_T38 (gt G) q).length), some (some (cX7_T39 (gt G) q).length), some (some (cX7_T40 (gt G) q).length), some none, none, none])) := aT_get (kd := 1) (N := 40) (kf := 46) hq40
  have hz41 : zb (cX7_T41 (gt G) q) (cX7_M41 (gt G).length μ) := zb_to hz40 (by rw [cX7_T41, aT_len]; exact Nat.le_add_right _ _) (by rw [cX7_M41]; exact upG_1 _ _ _) (by rw [cX7_M41]; exact upG_2 _ _ _)
  change VC (gw G (cX7_T41 (gt G) q)) mX7_init 342 [some (.ref q)] [] (cX7_M41 (gt G).length μ) True (.inl none) (cX7_T (gt G) q) (cX7_M (gt G).length μ)
  refine VC_fl_long (pcb := 345) (N := 12) (n := 12) (kf := 47) dX7_init_342 rfl (VC_bipush (v := 12) dX7_init_343 rfl) dX7_init_345 aw_long (by decide) (by decide) (Nat.le_of_ble_eq_true rfl) hz41 k_X7 (by decide) lk_RX7_142 rfl rfl rfl rfl (fun _ => ⟨rfl, rfl⟩) dX7_init_347 hq41 rfl ?_
  have hq42 : (cX7_T42 (gt G) q)[q]? = some (.inr (7, [none, some (some (gt G).length), some (some (cX7_T1 (gt G) q).length), some (some (cX7_T2 (gt G) q).length), some (some (cX7_T3 (gt G) q).length), none, some (some (cX7_T4 (gt G) q).length), some (some (cX7_T5 (gt G) q).length), some (some (cX7_T6 (gt G) q).length), some (some (cX7_T7 (gt G) q).length), some (some (cX7_T8 (gt G) q).length), some (some (cX7_T9 (gt G) q).length), some (some (cX7_T10 (gt G) q).length), some (some (cX7_T11 (gt G) q).length), some (some (cX7_T12 (gt G) q).length), some (some (cX7_T13 (gt G) q).length), some (some (cX7_T14 (gt G) q).length), some (some (cX7_T15 (gt G) q).length), some (some (cX7_T16 (gt G) q).length), some (some (cX7_T17 (gt G) q).length), some (some (cX7_T18 (gt G) q).length), some (some (cX7_T19 (gt G) q).length), some (some (cX7_T20 (gt G) q).length), some (some (cX7_T21 (gt G) q).length), some (some (cX7_T22 (gt G) q).length), some (some (cX7_T23 (gt G) q).length), some (some (cX7_T24 (gt G) q).length), some (some (cX7_T25 (gt G) q).length), some (some (cX7_T26 (gt G) q).length), none, none, none, none, some (some (cX7_T27 (gt G) q).length), some (some (cX7_T28 (gt G) q).length), some (some (cX7_T29 (gt G) q).length), some (some (cX7_T30 (gt G) q).length), some (some (cX7_T31 (gt G) q).length), some (some (cX7_T32 (gt G) q).length), some (some (cX7_T33 (gt G) q).length), some (some (cX7_T34 (gt G) q).length), some (some (cX7_T35 (gt G) q).length), some (some (cX7_T36 (gt G) q).length), some (some (cX7_T37 (gt G) q).length), some (some (cX7_T38 (gt G) q).length), some (some (cX7_T39 (gt G) q).length), some (some (cX7_T40 (gt G) q).length), some (some (cX7_T41 (gt G) q).length), none, none])) := aT_get (kd := 1) (N := 12) (kf := 47) hq41
  have hz42 : zb (cX7_T42 (gt G) q) (cX7_M42 (gt G).length μ) := zb_to hz41 (by rw [cX7_T42, aT_len]; exact Nat.le_add_right _ _) (by rw [cX7_M42]; exact upG_1 _ _ _) (by rw [cX7_M42]; exact upG_2 _ _ _)
  change VC (gw G (cX7_T42 (gt G) q)) mX7_init 350 [some (.ref q)] [] (cX7_M42 (gt G).length μ) True (.inl none) (cX7_T (gt G) q) (cX7_M (gt G).length μ)
  exact VC_vretT rfl dX7_init_350
