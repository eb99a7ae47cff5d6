def mX0_init : MT := (yX0_init, cX0_init, 1, none, RX0, 2, 43, none)
theorem ok_mX0_init : mOK mX0_init 0 := ⟨bigW_k1 (List.mem_of_getElem? (i := 45) (by decide +kernel)) (by decide +kernel), in_TallTowers_Book, ⟨pl_TallTowers_Book.2.1, pl_TallTowers_Book.2.2, pd_12⟩, pl_TallTowers_Book.1, rfl⟩
theorem im_X0 : Cond.instanceMethod yX0_init ∈ bigW := bigW_k1 (List.mem_of_getElem? (i := 44) (by decide +kernel)) (by decide +kernel)
theorem ii_X0 : Cond.instantiable RX0 7 ∈ bigW := bigW_k1 (List.mem_of_getElem? (i := 42) (by decide +kernel)) (by decide +kernel)
theorem oi_X0 : Cond.methodLink RX0 3 Lib.objectInit ∈ bigW := bigW_k1 (List.mem_of_getElem? (i := 46) (by decide +kernel)) (by decide +kernel)
theorem cl_RX0_9 : Cond.classLink RX0 9 RX5 ∈ bigW := bigW_k1 (List.mem_of_getElem? (i := 47) (by decide +kernel)) (by decide +kernel)
theorem lk_RX0_11 : Cond.methodLink RX0 11 yX5_init ∈ bigW := bigW_k1 (List.mem_of_getElem? (i := 49) (by decide +kernel)) (by decide +kernel)
theorem cl_RX0_18 : Cond.classLink RX0 18 RX1 ∈ bigW := bigW_k1 (List.mem_of_getElem? (i := 134) (by decide +kernel)) (by decide +kernel)
def cX0_T1 (T : List Ent) (q : Nat) : List Ent := pt (cX5_T (T ++ [e0_X5]) T.length) q 0 T.length
def cX0_M1 (L : Nat) (μ : Mem) : Mem := cX5_M (L + 1) (upG μ 1 14)
theorem cX0_l1 (T : List Ent) (q : Nat) : (cX0_T1 T q).length = T.length + 13 := by rw [cX0_T1, pt_len, cX5_l, List.length_append]; rfl
theorem cX0_g1 (T : List Ent) (q : Nat) : Gr T (cX0_T1 T q) q := (Gr.new (cX5_g _ _)).tr (Gr.put _ q _ _)
theorem cX0_m1 (L : Nat) (μ : Mem) : (cX0_M1 L μ).2.2 = (μ.2.2.1 + 13, μ.2.2.2 + 858) := by rw [cX0_M1, cX5_m, upG_3]
def cX0_T2 (T : List Ent) (q : Nat) : List Ent := pt (cX1_T ((cX0_T1 T q) ++ [e0_X1]) (cX0_T1 T q).length) q 1 (cX0_T1 T q).length
def cX0_M2 (L : Nat) (μ : Mem) : Mem := cX1_M (L + 14) (upG (cX0_M1 L μ) 1 13)
theorem cX0_l2 (T : List Ent) (q : Nat) : (cX0_T2 T q).length = T.length + 26 := by rw [cX0_T2, pt_len, cX1_l, List.length_append, cX0_l1]; rfl
theorem cX0_g2 (T : List Ent) (q : Nat) : Gr T (cX0_T2 T q) q := (cX0_g1 T q).tr ((Gr.new (cX1_g _ _)).tr (Gr.put _ q _ _))
theorem cX0_m2 (L : Nat) (μ : Mem) : (cX0_M2 L μ).2.2 = (μ.2.2.1 + 26, μ.2.2.2 + 8223) := by rw [cX0_M2, cX1_m, upG_3, cX0_m1]
def cX0_T3 (T : List Ent) (q : Nat) : List Ent := aT 0 10 q 2 (cX0_T2 T q)
def cX0_M3 (L : Nat) (μ : Mem) : Mem := upG (cX0_M2 L μ) 1 10
theorem cX0_l3 (T : List Ent) (q : Nat) : (cX0_T3 T q).length = T.length + 27 := by rw [cX0_T3, aT_len, cX0_l2]
theorem cX0_g3 (T : List Ent) (q : Nat) : Gr T (cX0_T3 T q) q := (cX0_g2 T q).tr (aT_gr _ _ q _ _)
theorem cX0_m3 (L : Nat) (μ : Mem) : (cX0_M3 L μ).2.2 = (μ.2.2.1 + 27, μ.2.2.2 + 8233) := by rw [cX0_M3, upG_3, cX0_m2]
def cX0_T4 (T : List Ent) (q : Nat) : List Ent := aT 0 10 q 3 (cX0_T3 T q)
def cX0_M4 (L : Nat) (μ : Mem) : Mem := upG (cX0_M3 L μ) 1 10
theorem cX0_l4 (T : List Ent) (q : Nat) : (cX0_T4 T q).length = T.length + 28 := by rw [cX0_T4, aT_len, cX0_l3]
theorem cX0_g4 (T : List Ent) (q : Nat) : Gr T (cX0_T4 T q) q := (cX0_g3 T q).tr (aT_gr _ _ q _ _)
theorem cX0_m4 (L : Nat) (μ : Mem) : (cX0_M4 L μ).2.2 = (μ.2.2.1 + 28, μ.2.2.2 + 8243) := by rw [cX0_M4, upG_3, cX0_m3]
def cX0_T (T : List Ent) (q : Nat) : List Ent := cX0_T4 T q
def cX0_M (L : Nat) (μ : Mem) : Mem := cX0_M4 L μ
def e0_X0 : Ent := .inr (0, [some none, some none, some none, some none, none, none, none])
theorem cX0_l (T : List Ent) (q : Nat) : (cX0_T T q).length = T.length + 28 := cX0_l4 T q
theorem cX0_g (T : List Ent) (q : Nat) : Gr T (cX0_T T q) q := cX0_g4 T q
theorem cX0_m (L : Nat) (μ : Mem) : (cX0_M L μ).2.2 = (μ.2.2.1 + 28, μ.2.2.2 + 8243) := cX0_m4 L μ
set_option maxHeartbeats 100000 in
theorem cX0_z (T : List Ent) (q : Nat) (μ : Mem) (h : zb T μ) : zb (cX0_T T q) (cX0_M T.length μ) := by
  have w1 : zb (T ++ [(e0_X5 : Ent)]) (upG μ 1 14) := zb_to h (by rw [List.length_append]; exact Nat.le_add_right _ _) (upG_1 _ _ _) (upG_2 _ _ _)
  have e1 : (T ++ [(e0_X5 : Ent)]).length = T.length + 1 := by rw [List.length_append]; rfl
  have y1 := cX5_z (T ++ [e0_X5]) T.length _ w1
  rw [e1] at y1
  have z1 : zb (cX0_T1 T q) (cX0_M1 T.length μ) := zb_to y1 (by rw [cX0_T1, pt_len]; exact Nat.le_refl _) (by rw [cX0_M1]) (by rw [cX0_M1])
  have w2 : zb ((cX0_T1 T q) ++ [(e0_X1 : Ent)]) (upG (cX0_M1 T.length μ) 1 13) := zb_to z1 (by rw [List.length_append]; exact Nat.le_add_right _ _) (upG_1 _ _ _) (upG_2 _ _ _)
  have e2 : ((cX0_T1 T q) ++ [(e0_X1 : Ent)]).length = T.length + 14 := by rw [List.length_append, cX0_l1]; rfl
  have y2 := cX1_z ((cX0_T1 T q) ++ [e0_X1]) (cX0_T1 T q).length _ w2
  rw [e2] at y2
  have z2 : zb (cX0_T2 T q) (cX0_M2 T.length μ) := zb_to y2 (by rw [cX0_T2, pt_len]; exact Nat.le_refl _) (by rw [cX0_M2]) (by rw [cX0_M2])
  have z3 : zb (cX0_T3 T q) (cX0_M3 T.length μ) := zb_to z2 (by rw [cX0_T3, aT_len]; exact Nat.le_add_right _ _) (by rw [cX0_M3]; exact upG_1 _ _ _) (by rw [cX0_M3]; exact upG_2 _ _ _)
  have z4 : zb (cX0_T4 T q) (cX0_M4 T.length μ) := zb_to z3 (by rw [cX0_T4, aT_len]; exact Nat.le_add_right _ _) (by rw [cX0_M4]; exact upG_1 _ _ _) (by rw [cX0_M4]; exact upG_2 _ _ _)
  exact z4
set_option maxRecDepth 20000 in
set_option maxHeartbeats 200000 in
theorem VMC_X0 (G : GX) (q : Nat) (μ : Mem) (hq : (gt G)[q]? = some (.inr (0, [some none, some none, some none, some none, none, none, none]))) (hz : zb (gt G) μ) : VMC G mX0_init [.ref q] μ (cX0_T (gt G) q) (cX0_M (gt G).length μ) := by
  refine VMC_entry ok_mX0_init rfl rfl rfl (Nat.le_of_ble_eq_true rfl) ?_
  refine VC_aload_n dX0_init_0 rfl ?_
  refine VC_objInit dX0_init_1 oi_X0 ob_i ob_c (by decide) (Nat.le_of_ble_eq_true rfl) ?_
  change VC (gw G (gt G)) mX0_init 4 [some (.ref q)] [] μ True (.inl none) (cX0_T (gt G) q) (cX0_M (gt G).length μ)
  have n1 : (gt G).length = (gt G).length + 0 := rfl
  have w1 : ((gt G) ++ [(e0_X5 : Ent)])[(gt G).length]? = some (e0_X5) := by rw [List.getElem?_append_right (Nat.le_refl _), Nat.sub_self]; rfl
  have v1 : zb ((gt G) ++ [(e0_X5 : Ent)]) (upG μ 1 14) := zb_to hz (by rw [List.length_append]; exact Nat.le_add_right _ _) (upG_1 _ _ _) (upG_2 _ _ _)
  have u1 := VMC_X5 (gw G ((gt G) ++ [e0_X5])) (gt G).length (upG μ 1 14) w1 v1
  have e1 : ((gt G) ++ [(e0_X5 : Ent)]).length = (gt G).length + 1 := by rw [List.length_append, n1]; rfl
  have u1 : VMC (gw G ((gt G) ++ [e0_X5])) mX5_init [.ref (gt G).length] (upG μ 1 14) (cX5_T ((gt G) ++ [e0_X5]) (gt G).length) (cX5_M ((gt G).length + 1) (upG μ 1 14)) := by rw [← e1]; exact u1
  have t1 : (cX5_T ((gt G) ++ [(e0_X5 : Ent)]) (gt G).length).length = ((gt G) ++ [(e0_X5 : Ent)]).length + ((cX5_M ((gt G).length + 1) (upG μ 1 14)).2.2.1 - (upG μ 1 14).2.2.1) := by rw [cX5_l, cX5_m, Nat.add_sub_cancel_left]
  have x1 : q < (gt G).length := (List.getElem?_eq_some_iff.mp hq).1
  have g1 := ((Gr.new (q := (gt G).length) (cX5_g ((gt G) ++ [(e0_X5 : Ent)]) (gt G).length)).2 q x1 (Nat.ne_of_lt x1)).trans hq
  refine VC_fl_obj (T := cX5_T ((gt G) ++ [e0_X5]) (gt G).length) (μ2 := cX5_M ((gt G).length + 1) (upG μ 1 14)) (N := 14) (kf := 0) dX0_init_4 rfl dX0_init_5 k_X5 cl_RX0_9 ii_X5 in_TallTowers_Towers (by decide) (fun j hj => by (match j, hj with | 0, _ => rfl | 1, _ => rfl | 2, _ => rfl | 3, _ => rfl | 4, _ => rfl | 5, _ => rfl | 6, _ => rfl | 7, _ => rfl | 8, _ => rfl | 9, _ => rfl | 10, _ => rfl | 11, _ => rfl | 12, _ => rfl | 13, _ => rfl | j + 14, hj => exact absurd hj (by omega))) dX0_init_8 hz (VC_cI dX0_init_9 ok_mX5_init rfl rfl rfl im_X5 lk_RX0_11 (by decide) (by decide) (Nat.le_of_ble_eq_true rfl) t1 u1) k_X0 (by decide) lk_RX0_12 rfl rfl rfl rfl (fun _ => ⟨rfl, rfl⟩) dX0_init_12 g1 rfl ?_
  have hq1 : (cX0_T1 (gt G) q)[q]? = some (.inr (0, [some (some (gt G).length), some none, some none, some none, none, none, none])) := pt_get (kf := 0) (r := (gt G).length) g1
  have y1 := cX5_z ((gt G) ++ [e0_X5]) (gt G).length _ v1
  rw [e1] at y1
  have hz1 : zb (cX0_T1 (gt G) q) (cX0_M1 (gt G).length μ) := zb_to y1 (by rw [cX0_T1, pt_len]; exact Nat.le_refl _) (by rw [cX0_M1]) (by rw [cX0_M1])
  change VC (gw G (cX0_T1 (gt G) q)) mX0_init 15 [some (.ref q)] [] (cX0_M1 (gt G).length μ) True (.inl none) (cX0_T (gt G) q) (cX0_M (gt G).length μ)
  have n2 : (cX0_T1 (gt G) q).length = (gt G).length + 13 := cX0_l1 (gt G) q
  have w2 : ((cX0_T1 (gt G) q) ++ [(e0_X1 : Ent)])[(cX0_T1 (gt G) q).length]? = some (e0_X1) := by rw [List.getElem?_append_right (Nat.le_refl _), Nat.sub_self]; rfl
  have v2 : zb ((cX0_T1 (gt G) q) ++ [(e0_X1 : Ent)]) (upG (cX0_M1 (gt G).length μ) 1 13) := zb_to hz1 (by rw [List.length_append]; exact Nat.le_add_right _ _) (upG_1 _ _ _) (upG_2 _ _ _)
  have u2 := VMC_X1 (gw G ((cX0_T1 (gt G) q) ++ [e0_X1])) (cX0_T1 (gt G) q).length (upG (cX0_M1 (gt G).length μ) 1 13) w2 v2
  have e2 : ((cX0_T1 (gt G) q) ++ [(e0_X1 : Ent)]).length = (gt G).length + 14 := by rw [List.length_append, n2]; rfl
  have u2 : VMC (gw G ((cX0_T1 (gt G) q) ++ [e0_X1])) mX1_init [.ref (cX0_T1 (gt G) q).length] (upG (cX0_M1 (gt G).length μ) 1 13) (cX1_T ((cX0_T1 (gt G) q) ++ [e0_X1]) (cX0_T1 (gt G) q).length) (cX1_M ((gt G).length + 14) (upG (cX0_M1 (gt G).length μ) 1 13)) := by rw [← e2]; exact u2
  have t2 : (cX1_T ((cX0_T1 (gt G) q) ++ [(e0_X1 : Ent)]) (cX0_T1 (gt G) q).length).length = ((cX0_T1 (gt G) q) ++ [(e0_X1 : Ent)]).length + ((cX1_M ((gt G).length + 14) (upG (cX0_M1 (gt G).length μ) 1 13)).2.2.1 - (upG (cX0_M1 (gt G).length μ) 1 13).2.2.1) := by rw [cX1_l, cX1_m, Nat.add_sub_cancel_left]
  have x2 : q < (cX0_T1 (gt G) q).length := (List.getElem?_eq_some_iff.mp hq1).1
  have g2 := ((Gr.new (q := (cX0_T1 (gt G) q).length) (cX1_g ((cX0_T1 (gt G) q) ++ [(e0_X1 : Ent)]) (cX0_T1 (gt G) q).length)).2 q x2 (Nat.ne_of_lt x2)).trans hq1
  refine VC_fl_obj (T := cX1_T ((cX0_T1 (gt G) q) ++ [e0_X1]) (cX0_T1 (gt G) q).length) (μ2 := cX1_M ((gt G).length + 14) (upG (cX0_M1 (gt G).length μ) 1 13)) (N := 13) (kf := 1) dX0_init_15 rfl dX0_init_16 k_X1 cl_RX0_18 ii_X1 in_TallTowers_Harms (by decide) (fun j hj => by (match j, hj with | 0, _ => rfl | 1, _ => rfl | 2, _ => rfl | 3, _ => rfl | 4, _ => rfl | 5, _ => rfl | 6, _ => rfl | 7, _ => rfl | 8, _ => rfl | 9, _ => rfl | 10, _ => rfl | 11, _ => rfl | 12, _ => rfl | j + 13, hj => exact absurd hj (by omega))) dX0_init_19 hz1 (VC_cIN dX0_init_20 ok_mX1_init rfl rfl rfl im_X1 (by decide +kernel) (by decide) (by decide) (Nat.le_of_ble_eq_true rfl) t2 u2) k_X0 (by decide) lk_RX0_21 rfl rfl rfl rfl (fun _ => ⟨rfl, rfl⟩) dX0_init_23 g2 rfl ?_
  have hq2 : (cX0_T2 (gt G) q)[q]? = some (.inr (0, [some (some (gt G).length), some (some (cX0_T1 (gt G) q).length), some none, some none, none, none, none])) := pt_get (kf := 1) (r := (cX0_T1 (gt G) q).length) g2
  have y2 := cX1_z ((cX0_T1 (gt G) q) ++ [e0_X1]) (cX0_T1 (gt G) q).length _ v2
  rw [e2] at y2
  have hz2 : zb (cX0_T2 (gt G) q) (cX0_M2 (gt G).length μ) := zb_to y2 (by rw [cX0_T2, pt_len]; exact Nat.le_refl _) (by rw [cX0_M2]) (by rw [cX0_M2])
  change VC (gw G (cX0_T2 (gt G) q)) mX0_init 26 [some (.ref q)] [] (cX0_M2 (gt G).length μ) True (.inl none) (cX0_T (gt G) q) (cX0_M (gt G).length μ)
  refine VC_fl_int (pcb := 29) (N := 10) (n := 10) (kf := 2) dX0_init_26 rfl (VC_bipush (v := 10) dX0_init_27 rfl) dX0_init_29 aw_int (by decide) (by decide) (Nat.le_of_ble_eq_true rfl) hz2 k_X0 (by decide) lk_RX0_25 rfl rfl rfl rfl (fun _ => ⟨rfl, rfl⟩) dX0_init_31 hq2 rfl ?_
  have hq3 : (cX0_T3 (gt G) q)[q]? = some (.inr (0, [some (some (gt G).length), some (some (cX0_T1 (gt G) q).length), some (some (cX0_T2 (gt G) q).length), some none, none, none, none])) := aT_get (kd := 0) (N := 10) (kf := 2) hq2
  have hz3 : zb (cX0_T3 (gt G) q) (cX0_M3 (gt G).length μ) := zb_to hz2 (by rw [cX0_T3, aT_len]; exact Nat.le_add_right _ _) (by rw [cX0_M3]; exact upG_1 _ _ _) (by rw [cX0_M3]; exact upG_2 _ _ _)
  change VC (gw G (cX0_T3 (gt G) q)) mX0_init 34 [some (.ref q)] [] (cX0_M3 (gt G).length μ) True (.inl none) (cX0_T (gt G) q) (cX0_M (gt G).length μ)
  refine VC_fl_int (pcb := 37) (N := 10) (n := 10) (kf := 3) dX0_init_34 rfl (VC_bipush (v := 10) dX0_init_35 rfl) dX0_init_37 aw_int (by decide) (by decide) (Nat.le_of_ble_eq_true rfl) hz3 k_X0 (by decide) lk_RX0_29 rfl rfl rfl rfl (fun _ => ⟨rfl, rfl⟩) dX0_init_39 hq3 rfl ?_
  have hq4 : (cX0_T4 (gt G) q)[q]? = some (.inr (0, [some (some (gt G).length), some (some (cX0_T1 (gt G) q).length), some (some (cX0_T2 (gt G) q).length), some (some (cX0_T3 (gt G) q).length), none, none, none])) := aT_get (kd := 0) (N := 10) (kf := 3) hq3
  have hz4 : zb (cX0_T4 (gt G) q) (cX0_M4 (gt G).length μ) := zb_to hz3 (by rw [cX0_T4, aT_len]; exact Nat.le_add_right _ _) (by rw [cX0_M4]; exact upG_1 _ _ _) (by rw [cX0_M4]; exact upG_2 _ _ _)
  change VC (gw G (cX0_T4 (gt G) q)) mX0_init 42 [some (.ref q)] [] (cX0_M4 (gt G).length μ) True (.inl none) (cX0_T (gt G) q) (cX0_M (gt G).length μ)
  exact VC_vretT rfl dX0_init_42
