theorem upG_1 (μ : Mem) (a b : Nat) : (upG μ a b).1 = μ.1 := rfl
theorem upG_3 (μ : Mem) (a b : Nat) : (upG μ a b).2.2 = (μ.2.2.1 + a, μ.2.2.2 + b) := rfl
theorem upG_2 (μ : Mem) (a b : Nat) : (upG μ a b).2.1 = μ.2.1 := rfl
theorem aw_int : Cond.arrayClass .int ∈ bigW := bigW_k1 (List.mem_of_getElem? (i := 40) (by decide +kernel)) (by decide +kernel)
theorem aw_long : Cond.arrayClass .long ∈ bigW := bigW_k1 (List.mem_of_getElem? (i := 133) (by decide +kernel)) (by decide +kernel)
theorem aw_boolean : Cond.arrayClass .boolean ∈ bigW := bigW_k1 (List.mem_of_getElem? (i := 201) (by decide +kernel)) (by decide +kernel)
theorem ob_i : Cond.instanceMethod Lib.objectInit ∈ bigW := bigW_k1 (List.mem_of_getElem? (i := 24) (by decide +kernel)) (by decide +kernel)
theorem ob_c : Cond.code Lib.objectInit ⟨#[0xb1]⟩ 1 none ∈ bigW := bigW_k1 (List.mem_of_getElem? (i := 25) (by decide +kernel)) (by decide +kernel)
def mX2_init : MT := (yX2_init, cX2_init, 1, none, RX2, 1, 12, none)
theorem ok_mX2_init : mOK mX2_init 0 := ⟨bigW_k1 (List.mem_of_getElem? (i := 30) (by decide +kernel)) (by decide +kernel), in_TallTowers_Log, ⟨pl_TallTowers_Log.2.1, pl_TallTowers_Log.2.2, pd_12⟩, pl_TallTowers_Log.1, rfl⟩
theorem im_X2 : Cond.instanceMethod yX2_init ∈ bigW := bigW_k1 (List.mem_of_getElem? (i := 29) (by decide +kernel)) (by decide +kernel)
theorem ii_X2 : Cond.instantiable RX2 2 ∈ bigW := bigW_k1 (List.mem_of_getElem? (i := 27) (by decide +kernel)) (by decide +kernel)
theorem oi_X2 : Cond.methodLink RX2 3 Lib.objectInit ∈ bigW := bigW_k1 (List.mem_of_getElem? (i := 31) (by decide +kernel)) (by decide +kernel)
def cX2_T1 (T : List Ent) (q : Nat) : List Ent := aT 0 960 q 0 (T)
def cX2_M1 (L : Nat) (μ : Mem) : Mem := upG (μ) 1 960
theorem cX2_l1 (T : List Ent) (q : Nat) : (cX2_T1 T q).length = T.length + 1 := by rw [cX2_T1, aT_len]
theorem cX2_g1 (T : List Ent) (q : Nat) : Gr T (cX2_T1 T q) q := aT_gr _ _ q _ T
theorem cX2_m1 (L : Nat) (μ : Mem) : (cX2_M1 L μ).2.2 = (μ.2.2.1 + 1, μ.2.2.2 + 960) := by rfl
def cX2_T (T : List Ent) (q : Nat) : List Ent := cX2_T1 T q
def cX2_M (L : Nat) (μ : Mem) : Mem := cX2_M1 L μ
def e0_X2 : Ent := .inr (2, [some none, none])
theorem cX2_l (T : List Ent) (q : Nat) : (cX2_T T q).length = T.length + 1 := cX2_l1 T q
theorem cX2_g (T : List Ent) (q : Nat) : Gr T (cX2_T T q) q := cX2_g1 T q
theorem cX2_m (L : Nat) (μ : Mem) : (cX2_M L μ).2.2 = (μ.2.2.1 + 1, μ.2.2.2 + 960) := cX2_m1 L μ
theorem cX2_z (T : List Ent) (q : Nat) (μ : Mem) (h : zb T μ) : zb (cX2_T T q) (cX2_M T.length μ) := by
  have z1 : zb (cX2_T1 T q) (cX2_M1 T.length μ) := zb_to h (by rw [cX2_T1, aT_len]; exact Nat.le_add_right _ _) (by rw [cX2_M1]; exact upG_1 _ _ _) (by rw [cX2_M1]; exact upG_2 _ _ _)
  exact z1
set_option maxRecDepth 20000 in
theorem VMC_X2 (G : GX) (q : Nat) (μ : Mem) (hq : (gt G)[q]? = some (.inr (2, [some none, none]))) (hz : zb (gt G) μ) : VMC G mX2_init [.ref q] μ (cX2_T (gt G) q) (cX2_M (gt G).length μ) := by
  refine VMC_entry ok_mX2_init rfl rfl rfl (Nat.le_of_ble_eq_true rfl) ?_
  refine VC_aload_n dX2_init_0 rfl ?_
  refine VC_objInit dX2_init_1 oi_X2 ob_i ob_c (by decide) (Nat.le_of_ble_eq_true rfl) ?_
  change VC (gw G (gt G)) mX2_init 4 [some (.ref q)] [] μ True (.inl none) (cX2_T (gt G) q) (cX2_M (gt G).length μ)
  refine VC_fl_int (pcb := 8) (N := 960) (n := 960) (kf := 0) dX2_init_4 rfl (VC_sipush (v := 960) dX2_init_5 rfl) dX2_init_8 aw_int (by decide) (by decide) (Nat.le_of_ble_eq_true rfl) hz k_X2 (by decide) lk_RX2_11 rfl rfl rfl rfl (fun _ => ⟨rfl, rfl⟩) dX2_init_10 hq rfl ?_
  have hq1 : (cX2_T1 (gt G) q)[q]? = some (.inr (2, [some (some (gt G).length), none])) := aT_get (kd := 0) (N := 960) (kf := 0) hq
  have hz1 : zb (cX2_T1 (gt G) q) (cX2_M1 (gt G).length μ) := zb_to hz (by rw [cX2_T1, aT_len]; exact Nat.le_add_right _ _) (by rw [cX2_M1]; exact upG_1 _ _ _) (by rw [cX2_M1]; exact upG_2 _ _ _)
  change VC (gw G (cX2_T1 (gt G) q)) mX2_init 13 [some (.ref q)] [] (cX2_M1 (gt G).length μ) True (.inl none) (cX2_T (gt G) q) (cX2_M (gt G).length μ)
  exact VC_vretT rfl dX2_init_13
def mX5_init : MT := (yX5_init, cX5_init, 1, none, RX5, 1, 23, none)
theorem ok_mX5_init : mOK mX5_init 0 := ⟨bigW_k1 (List.mem_of_getElem? (i := 51) (by decide +kernel)) (by decide +kernel), in_TallTowers_Towers, ⟨pl_TallTowers_Towers.2.1, pl_TallTowers_Towers.2.2, pd_12⟩, pl_TallTowers_Towers.1, rfl⟩
theorem im_X5 : Cond.instanceMethod yX5_init ∈ bigW := bigW_k1 (List.mem_of_getElem? (i := 50) (by decide +kernel)) (by decide +kernel)
theorem ii_X5 : Cond.instantiable RX5 14 ∈ bigW := bigW_k1 (List.mem_of_getElem? (i := 48) (by decide +kernel)) (by decide +kernel)
theorem oi_X5 : Cond.methodLink RX5 3 Lib.objectInit ∈ bigW := bigW_k1 (List.mem_of_getElem? (i := 52) (by decide +kernel)) (by decide +kernel)
def cX5_T1 (T : List Ent) (q : Nat) : List Ent := aT 0 40 q 0 (T)
def cX5_M1 (L : Nat) (μ : Mem) : Mem := upG (μ) 1 40
theorem cX5_l1 (T : List Ent) (q : Nat) : (cX5_T1 T q).length = T.length + 1 := by rw [cX5_T1, aT_len]
theorem cX5_g1 (T : List Ent) (q : Nat) : Gr T (cX5_T1 T q) q := aT_gr _ _ q _ T
theorem cX5_m1 (L : Nat) (μ : Mem) : (cX5_M1 L μ).2.2 = (μ.2.2.1 + 1, μ.2.2.2 + 40) := by rfl
def cX5_T2 (T : List Ent) (q : Nat) : List Ent := aT 0 40 q 1 (cX5_T1 T q)
def cX5_M2 (L : Nat) (μ : Mem) : Mem := upG (cX5_M1 L μ) 1 40
theorem cX5_l2 (T : List Ent) (q : Nat) : (cX5_T2 T q).length = T.length + 2 := by rw [cX5_T2, aT_len, cX5_l1]
theorem cX5_g2 (T : List Ent) (q : Nat) : Gr T (cX5_T2 T q) q := (cX5_g1 T q).tr (aT_gr _ _ q _ _)
theorem cX5_m2 (L : Nat) (μ : Mem) : (cX5_M2 L μ).2.2 = (μ.2.2.1 + 2, μ.2.2.2 + 80) := by rw [cX5_M2, upG_3, cX5_m1]
def cX5_T3 (T : List Ent) (q : Nat) : List Ent := aT 0 40 q 2 (cX5_T2 T q)
def cX5_M3 (L : Nat) (μ : Mem) : Mem := upG (cX5_M2 L μ) 1 40
theorem cX5_l3 (T : List Ent) (q : Nat) : (cX5_T3 T q).length = T.length + 3 := by rw [cX5_T3, aT_len, cX5_l2]
theorem cX5_g3 (T : List Ent) (q : Nat) : Gr T (cX5_T3 T q) q := (cX5_g2 T q).tr (aT_gr _ _ q _ _)
theorem cX5_m3 (L : Nat) (μ : Mem) : (cX5_M3 L μ).2.2 = (μ.2.2.1 + 3, μ.2.2.2 + 120) := by rw [cX5_M3, upG_3, cX5_m2]
def cX5_T4 (T : List Ent) (q : Nat) : List Ent := aT 0 40 q 3 (cX5_T3 T q)
def cX5_M4 (L : Nat) (μ : Mem) : Mem := upG (cX5_M3 L μ) 1 40
theorem cX5_l4 (T : List Ent) (q : Nat) : (cX5_T4 T q).length = T.length + 4 := by rw [cX5_T4, aT_len, cX5_l3]
theorem cX5_g4 (T : List Ent) (q : Nat) : Gr T (cX5_T4 T q) q := (cX5_g3 T q).tr (aT_gr _ _ q _ _)
theorem cX5_m4 (L : Nat) (μ : Mem) : (cX5_M4 L μ).2.2 = (μ.2.2.1 + 4, μ.2.2.2 + 160) := by rw [cX5_M4, upG_3, cX5_m3]
def cX5_T5 (T : List Ent) (q : Nat) : List Ent := aT 1 40 q 4 (cX5_T4 T q)
def cX5_M5 (L : Nat) (μ : Mem) : Mem := upG (cX5_M4 L μ) 1 40
theorem cX5_l5 (T : List Ent) (q : Nat) : (cX5_T5 T q).length = T.length + 5 := by rw [cX5_T5, aT_len, cX5_l4]
theorem cX5_g5 (T : List Ent) (q : Nat) : Gr T (cX5_T5 T q) q := (cX5_g4 T q).tr (aT_gr _ _ q _ _)
theorem cX5_m5 (L : Nat) (μ : Mem) : (cX5_M5 L μ).2.2 = (μ.2.2.1 + 5, μ.2.2.2 + 200) := by rw [cX5_M5, upG_3, cX5_m4]
def cX5_T6 (T : List Ent) (q : Nat) : List Ent := aT 0 40 q 5 (cX5_T5 T q)
def cX5_M6 (L : Nat) (μ : Mem) : Mem := upG (cX5_M5 L μ) 1 40
theorem cX5_l6 (T : List Ent) (q : Nat) : (cX5_T6 T q).length = T.length + 6 := by rw [cX5_T6, aT_len, cX5_l5]
theorem cX5_g6 (T : List Ent) (q : Nat) : Gr T (cX5_T6 T q) q := (cX5_g5 T q).tr (aT_gr _ _ q _ _)
theorem cX5_m6 (L : Nat) (μ : Mem) : (cX5_M6 L μ).2.2 = (μ.2.2.1 + 6, μ.2.2.2 + 240) := by rw [cX5_M6, upG_3, cX5_m5]
def cX5_T7 (T : List Ent) (q : Nat) : List Ent := aT 0 40 q 6 (cX5_T6 T q)
def cX5_M7 (L : Nat) (μ : Mem) : Mem := upG (cX5_M6 L μ) 1 40
theorem cX5_l7 (T : List Ent) (q : Nat) : (cX5_T7 T q).length = T.length + 7 := by rw [cX5_T7, aT_len, cX5_l6]
theorem cX5_g7 (T : List Ent) (q : Nat) : Gr T (cX5_T7 T q) q := (cX5_g6 T q).tr (aT_gr _ _ q _ _)
theorem cX5_m7 (L : Nat) (μ : Mem) : (cX5_M7 L μ).2.2 = (μ.2.2.1 + 7, μ.2.2.2 + 280) := by rw [cX5_M7, upG_3, cX5_m6]
def cX5_T8 (T : List Ent) (q : Nat) : List Ent := aT 0 160 q 7 (cX5_T7 T q)
def cX5_M8 (L : Nat) (μ : Mem) : Mem := upG (cX5_M7 L μ) 1 160
theorem cX5_l8 (T : List Ent) (q : Nat) : (cX5_T8 T q).length = T.length + 8 := by rw [cX5_T8, aT_len, cX5_l7]
theorem cX5_g8 (T : List Ent) (q : Nat) : Gr T (cX5_T8 T q) q := (cX5_g7 T q).tr (aT_gr _ _ q _ _)
theorem cX5_m8 (L : Nat) (μ : Mem) : (cX5_M8 L μ).2.2 = (μ.2.2.1 + 8, μ.2.2.2 + 440) := by rw [cX5_M8, upG_3, cX5_m7]
def cX5_T9 (T : List Ent) (q : Nat) : List Ent := aT 0 160 q 8 (cX5_T8 T q)
def cX5_M9 (L : Nat) (μ : Mem) : Mem := upG (cX5_M8 L μ) 1 160
theorem cX5_l9 (T : List Ent) (q : Nat) : (cX5_T9 T q).length = T.length + 9 := by rw [cX5_T9, aT_len, cX5_l8]
theorem cX5_g9 (T : List Ent) (q : Nat) : Gr T (cX5_T9 T q) q := (cX5_g8 T q).tr (aT_gr _ _ q _ _)
theorem cX5_m9 (L : Nat) (μ : Mem) : (cX5_M9 L μ).2.2 = (μ.2.2.1 + 9, μ.2.2.2 + 600) := by rw [cX5_M9, upG_3, cX5_m8]
def cX5_T10 (T : List Ent) (q : Nat) : List Ent := aT 1 160 q 9 (cX5_T9 T q)
def cX5_M10 (L : Nat) (μ : Mem) : Mem := upG (cX5_M9 L μ) 1 160
theorem cX5_l10 (T : List Ent) (q : Nat) : (cX5_T10 T q).length = T.length + 10 := by rw [cX5_T10, aT_len, cX5_l9]
theorem cX5_g10 (T : List Ent) (q : Nat) : Gr T (cX5_T10 T q) q := (cX5_g9 T q).tr (aT_gr _ _ q _ _)
theorem cX5_m10 (L : Nat) (μ : Mem) : (cX5_M10 L μ).2.2 = (μ.2.2.1 + 10, μ.2.2.2 + 760) := by rw [cX5_M10, upG_3, cX5_m9]
def cX5_T11 (T : List Ent) (q : Nat) : List Ent := aT 0 72 q 10 (cX5_T10 T q)
def cX5_M11 (L : Nat) (μ : Mem) : Mem := upG (cX5_M10 L μ) 1 72
theorem cX5_l11 (T : List Ent) (q : Nat) : (cX5_T11 T q).length = T.length + 11 := by rw [cX5_T11, aT_len, cX5_l10]
theorem cX5_g11 (T : List Ent) (q : Nat) : Gr T (cX5_T11 T q) q := (cX5_g10 T q).tr (aT_gr _ _ q _ _)
theorem cX5_m11 (L : Nat) (μ : Mem) : (cX5_M11 L μ).2.2 = (μ.2.2.1 + 11, μ.2.2.2 + 832) := by rw [cX5_M11, upG_3, cX5_m10]
def cX5_T12 (T : List Ent) (q : Nat) : List Ent := aT 0 12 q 11 (cX5_T11 T q)
def cX5_M12 (L : Nat) (μ : Mem) : Mem := upG (cX5_M11 L μ) 1 12
theorem cX5_l12 (T : List Ent) (q : Nat) : (cX5_T12 T q).length = T.length + 12 := by rw [cX5_T12, aT_len, cX5_l11]
theorem cX5_g12 (T : List Ent) (q : Nat) : Gr T (cX5_T12 T q) q := (cX5_g11 T q).tr (aT_gr _ _ q _ _)
theorem cX5_m12 (L : Nat) (μ : Mem) : (cX5_M12 L μ).2.2 = (μ.2.2.1 + 12, μ.2.2.2 + 844) := by rw [cX5_M12, upG_3, cX5_m11]
def cX5_T (T : List Ent) (q : Nat) : List Ent := cX5_T12 T q
def cX5_M (L : Nat) (μ : Mem) : Mem := flM (cX5_M12 L μ) L 40 (-1)
def e0_X5 : Ent := .inr (5, [some none, some none, some none, some none, some none, some none, some none, some none, some none, some none, some none, some none, none, none])
theorem cX5_l (T : List Ent) (q : Nat) : (cX5_T T q).length = T.length + 12 := cX5_l12 T q
theorem cX5_g (T : List Ent) (q : Nat) : Gr T (cX5_T T q) q := cX5_g12 T q
theorem cX5_m (L : Nat) (μ : Mem) : (cX5_M L μ).2.2 = (μ.2.2.1 + 12, μ.2.2.2 + 844) := cX5_m12 L μ
theorem cX5_f (L : Nat) (μ : Mem) : (cX5_M12 L μ).1 = μ.1 ∧ (cX5_M12 L μ).2.1 = μ.2.1 := ⟨rfl, rfl⟩
theorem cX5_z (T : List Ent) (q : Nat) (μ : Mem) (h : zb T μ) : zb (cX5_T T q) (cX5_M T.length μ) := fun c hc => by
  rw [cX5_l] at hc
  have h1 := h c (by omega)
  have h2 : ¬ c = T.length := by omega
  refine ⟨?_, h1.2⟩
  show (if c = T.length then _ else (cX5_M12 T.length μ).1 c) = _
  rw [if_neg h2]
  exact h1.1
theorem fill_cell (T : List Ent) (q : Nat) (hq : q < T.length) : (cX5_T12 T q)[T.length]? = some (.inl (0, 40)) := by
  have h1 : (cX5_T1 T q)[T.length]? = some (.inl (0, 40)) := by
    rw [cX5_T1, aT, (Gr.put _ q _ _).2 T.length (by rw [List.length_append]; exact Nat.lt_succ_self _) (Nat.ne_of_gt hq), List.getElem?_append_right (Nat.le_refl _), Nat.sub_self]
    rfl
  have h2 : (cX5_T2 T q)[T.length]? = some (.inl (0, 40)) := by rw [cX5_T2, (aT_gr _ _ q _ _).2 T.length (by rw [cX5_l1]; omega) (Nat.ne_of_gt hq)]; exact h1
  have h3 : (cX5_T3 T q)[T.length]? = some (.inl (0, 40)) := by rw [cX5_T3, (aT_gr _ _ q _ _).2 T.length (by rw [cX5_l2]; omega) (Nat.ne_of_gt hq)]; exact h2
  have h4 : (cX5_T4 T q)[T.length]? = some (.inl (0, 40)) := by rw [cX5_T4, (aT_gr _ _ q _ _).2 T.length (by rw [cX5_l3]; omega) (Nat.ne_of_gt hq)]; exact h3
  have h5 : (cX5_T5 T q)[T.length]? = some (.inl (0, 40)) := by rw [cX5_T5, (aT_gr _ _ q _ _).2 T.length (by rw [cX5_l4]; omega) (Nat.ne_of_gt hq)]; exact h4
  have h6 : (cX5_T6 T q)[T.length]? = some (.inl (0, 40)) := by rw [cX5_T6, (aT_gr _ _ q _ _).2 T.length (by rw [cX5_l5]; omega) (Nat.ne_of_gt hq)]; exact h5
  have h7 : (cX5_T7 T q)[T.length]? = some (.inl (0, 40)) := by rw [cX5_T7, (aT_gr _ _ q _ _).2 T.length (by rw [cX5_l6]; omega) (Nat.ne_of_gt hq)]; exact h6
  have h8 : (cX5_T8 T q)[T.length]? = some (.inl (0, 40)) := by rw [cX5_T8, (aT_gr _ _ q _ _).2 T.length (by rw [cX5_l7]; omega) (Nat.ne_of_gt hq)]; exact h7
  have h9 : (cX5_T9 T q)[T.length]? = some (.inl (0, 40)) := by rw [cX5_T9, (aT_gr _ _ q _ _).2 T.length (by rw [cX5_l8]; omega) (Nat.ne_of_gt hq)]; exact h8
  have h10 : (cX5_T10 T q)[T.length]? = some (.inl (0, 40)) := by rw [cX5_T10, (aT_gr _ _ q _ _).2 T.length (by rw [cX5_l9]; omega) (Nat.ne_of_gt hq)]; exact h9
  have h11 : (cX5_T11 T q)[T.length]? = some (.inl (0, 40)) := by rw [cX5_T11, (aT_gr _ _ q _ _).2 T.length (by rw [cX5_l10]; omega) (Nat.ne_of_gt hq)]; exact h10
  have h12 : (cX5_T12 T q)[T.length]? = some (.inl (0, 40)) := by rw [cX5_T12, (aT_gr _ _ q _ _).2 T.length (by rw [cX5_l11]; omega) (Nat.ne_of_gt hq)]; exact h11
  exact h12
set_option maxRecDepth 20000 in
theorem VMC_X5 (G : GX) (q : Nat) (μ : Mem) (hq : (gt G)[q]? = some (.inr (5, [some none, some none, some none, some none, some none, some none, some none, some none, some none, some none, some none, some none, none, none]))) (hz : zb (gt G) μ) : VMC G mX5_init [.ref q] μ (cX5_T (gt G) q) (cX5_M (gt G).length μ) := by
  have x0 : q < (gt G).length := (List.getElem?_eq_some_iff.mp hq).1
  refine VMC_entry ok_mX5_init rfl rfl rfl (Nat.le_of_ble_eq_true rfl) ?_
  refine VC_aload_n dX5_init_0 rfl ?_
  refine VC_objInit dX5_init_1 oi_X5 ob_i ob_c (by decide) (Nat.le_of_ble_eq_true rfl) ?_
  change VC (gw G (gt G)) mX5_init 4 [some (.ref q)] [] μ True (.inl none) (cX5_T (gt G) q) (cX5_M (gt G).length μ)
  refine VC_fl_int (pcb := 7) (N := 40) (n := 40) (kf := 0) dX5_init_4 rfl (VC_bipush (v := 40) dX5_init_5 rfl) dX5_init_7 aw_int (by decide) (by decide) (Nat.le_of_ble_eq_true rfl) hz k_X5 (by decide) lk_RX5_9 rfl rfl rfl rfl (fun _ => ⟨rfl, rfl⟩) dX5_init_9 hq rfl ?_
  have hq1 : (cX5_T1 (gt G) q)[q]? = some (.inr (5, [some (some (gt G).length), some none, some none, some none, some none, some none, some none, some none, some none, some none, some none, some none, none, none])) := aT_get (kd := 0) (N := 40) (kf := 0) hq
  have hz1 : zb (cX5_T1 (gt G) q) (cX5_M1 (gt G).length μ) := zb_to hz (by rw [cX5_T1, aT_len]; exact Nat.le_add_right _ _) (by rw [cX5_M1]; exact upG_1 _ _ _) (by rw [cX5_M1]; exact upG_2 _ _ _)
  change VC (gw G (cX5_T1 (gt G) q)) mX5_init 12 [some (.ref q)] [] (cX5_M1 (gt G).length μ) True (.inl none) (cX5_T (gt G) q) (cX5_M (gt G).length μ)
  refine VC_fl_int (pcb := 15) (N := 40) (n := 40) (kf := 1) dX5_init_12 rfl (VC_bipush (v := 40) dX5_init_13 rfl) dX5_init_15 aw_int (by decide) (by decide) (Nat.le_of_ble_eq_true rfl) hz1 k_X5 (by decide) lk_RX5_15 rfl rfl rfl rfl (fun _ => ⟨rfl, rfl⟩) dX5_init_17 hq1 rfl ?_
  have hq2 : (cX5_T2 (gt G) q)[q]? = some (.inr (5, [some (some (gt G).length), some (some (cX5_T1 (gt G) q).length), some none, some none, some none, some none, some none, some none, some none, some none, some none, some none, none, none])) := aT_get (kd := 0) (N := 40) (kf := 1) hq1
  have hz2 : zb (cX5_T2 (gt G) q) (cX5_M2 (gt G).length μ) := zb_to hz1 (by rw [cX5_T2, aT_len]; exact Nat.le_add_right _ _) (by rw [cX5_M2]; exact upG_1 _ _ _) (by rw [cX5_M2]; exact upG_2 _ _ _)
  change VC (gw G (cX5_T2 (gt G) q)) mX5_init 20 [some (.ref q)] [] (cX5_M2 (gt G).length μ) True (.inl none) (cX5_T (gt G) q) (cX5_M (gt G).length μ)
  refine VC_fl_int (pcb := 23) (N := 40) (n := 40) (kf := 2) dX5_init_20 rfl (VC_bipush (v := 40) dX5_init_21 rfl) dX5_init_23 aw_int (by decide) (by decide) (Nat.le_of_ble_eq_true rfl) hz2 k_X5 (by decide) lk_RX5_18 rfl rfl rfl rfl (fun _ => ⟨rfl, rfl⟩) dX5_init_25 hq2 rfl ?_
  have hq3 : (cX5_T3 (gt G) q)[q]? = some (.inr (5, [some (some (gt G).length), some (some (cX5_T1 (gt G) q).length), some (some (cX5_T2 (gt G) q).length), some none, some none, some none, some none, some none, some none, some none, some none, some none, none, none])) := aT_get (kd := 0) (N := 40) (kf := 2) hq2
  have hz3 : zb (cX5_T3 (gt G) q) (cX5_M3 (gt G).length μ) := zb_to hz2 (by rw [cX5_T3, aT_len]; exact Nat.le_add_right _ _) (by rw [cX5_M3]; exact upG_1 _ _ _) (by rw [cX5_M3]; exact upG_2 _ _ _)
  change VC (gw G (cX5_T3 (gt G) q)) mX5_init 28 [some (.ref q)] [] (cX5_M3 (gt G).length μ) True (.inl none) (cX5_T (gt G) q) (cX5_M (gt G).length μ)
  refine VC_fl_int (pcb := 31) (N := 40) (n := 40) (kf := 3) dX5_init_28 rfl (VC_bipush (v := 40) dX5_init_29 rfl) dX5_init_31 aw_int (by decide) (by decide) (Nat.le_of_ble_eq_true rfl) hz3 k_X5 (by decide) lk_RX5_21 rfl rfl rfl rfl (fun _ => ⟨rfl, rfl⟩) dX5_init_33 hq3 rfl ?_
  have hq4 : (cX5_T4 (gt G) q)[q]? = some (.inr (5, [some (some (gt G).length), some (some (cX5_T1 (gt G) q).length), some (some (cX5_T2 (gt G) q).length), some (some (cX5_T3 (gt G) q).length), some none, some none, some none, some none, some none, some none, some none, some none, none, none])) := aT_get (kd := 0) (N := 40) (kf := 3) hq3
  have hz4 : zb (cX5_T4 (gt G) q) (cX5_M4 (gt G).length μ) := zb_to hz3 (by rw [cX5_T4, aT_len]; exact Nat.le_add_right _ _) (by rw [cX5_M4]; exact upG_1 _ _ _) (by rw [cX5_M4]; exact upG_2 _ _ _)
  change VC (gw G (cX5_T4 (gt G) q)) mX5_init 36 [some (.ref q)] [] (cX5_M4 (gt G).length μ) True (.inl none) (cX5_T (gt G) q) (cX5_M (gt G).length μ)
  refine VC_fl_long (pcb := 39) (N := 40) (n := 40) (kf := 4) dX5_init_36 rfl (VC_bipush (v := 40) dX5_init_37 rfl) dX5_init_39 aw_long (by decide) (by decide) (Nat.le_of_ble_eq_true rfl) hz4 k_X5 (by decide) lk_RX5_24 rfl rfl rfl rfl (fun _ => ⟨rfl, rfl⟩) dX5_init_41 hq4 rfl ?_
  have hq5 : (cX5_T5 (gt G) q)[q]? = some (.inr (5, [some (some (gt G).length), some (some (cX5_T1 (gt G) q).length), some (some (cX5_T2 (gt G) q).length), some (some (cX5_T3 (gt G) q).length), some (some (cX5_T4 (gt G) q).length), some none, some none, some none, some none, some none, some none, some none, none, none])) := aT_get (kd := 1) (N := 40) (kf := 4) hq4
  have hz5 : zb (cX5_T5 (gt G) q) (cX5_M5 (gt G).length μ) := zb_to hz4 (by rw [cX5_T5, aT_len]; exact Nat.le_add_right _ _) (by rw [cX5_M5]; exact upG_1 _ _ _) (by rw [cX5_M5]; exact upG_2 _ _ _)
  change VC (gw G (cX5_T5 (gt G) q)) mX5_init 44 [some (.ref q)] [] (cX5_M5 (gt G).length μ) True (.inl none) (cX5_T (gt G) q) (cX5_M (gt G).length μ)
  refine VC_fl_int (pcb := 47) (N := 40) (n := 40) (kf := 5) dX5_init_44 rfl (VC_bipush (v := 40) dX5_init_45 rfl) dX5_init_47 aw_int (by decide) (by decide) (Nat.le_of_ble_eq_true rfl) hz5 k_X5 (by decide) lk_RX5_28 rfl rfl rfl rfl (fun _ => ⟨rfl, rfl⟩) dX5_init_49 hq5 rfl ?_
  have hq6 : (cX5_T6 (gt G) q)[q]? = some (.inr (5, [some (some (gt G).length), some (some (cX5_T1 (gt G) q).length), some (some (cX5_T2 (gt G) q).length), some (some (cX5_T3 (gt G) q).length), some (some (cX5_T4 (gt G) q).length), some (some (cX5_T5 (gt G) q).length), some none, some none, some none, some none, some none, some none, none, none])) := aT_get (kd := 0) (N := 40) (kf := 5) hq5
  have hz6 : zb (cX5_T6 (gt G) q) (cX5_M6 (gt G).length μ) := zb_to hz5 (by rw [cX5_T6, aT_len]; exact Nat.le_add_right _ _) (by rw [cX5_M6]; exact upG_1 _ _ _) (by rw [cX5_M6]; exact upG_2 _ _ _)
  change VC (gw G (cX5_T6 (gt G) q)) mX5_init 52 [some (.ref q)] [] (cX5_M6 (gt G).length μ) True (.inl none) (cX5_T (gt G) q) (cX5_M (gt G).length μ)
  refine VC_fl_int (pcb := 55) (N := 40) (n := 40) (kf := 6) dX5_init_52 rfl (VC_bipush (v := 40) dX5_init_53 rfl) dX5_init_55 aw_int (by decide) (by decide) (Nat.le_of_ble_eq_true rfl) hz6 k_X5 (by decide) lk_RX5_31 rfl rfl rfl rfl (fun _ => ⟨rfl, rfl⟩) dX5_init_57 hq6 rfl ?_
  have hq7 : (cX5_T7 (gt G) q)[q]? = some (.inr (5, [some (some (gt G).length), some (some (cX5_T1 (gt G) q).length), some (some (cX5_T2 (gt G) q).length), some (some (cX5_T3 (gt G) q).length), some (some (cX5_T4 (gt G) q).length), some (some (cX5_T5 (gt G) q).length), some (some (cX5_T6 (gt G) q).length), some none, some none, some none, some none, some none, none, none])) := aT_get (kd := 0) (N := 40) (kf := 6) hq6
  have hz7 : zb (cX5_T7 (gt G) q) (cX5_M7 (gt G).length μ) := zb_to hz6 (by rw [cX5_T7, aT_len]; exact Nat.le_add_right _ _) (by rw [cX5_M7]; exact upG_1 _ _ _) (by rw [cX5_M7]; exact upG_2 _ _ _)
  change VC (gw G (cX5_T7 (gt G) q)) mX5_init 60 [some (.ref q)] [] (cX5_M7 (gt G).length μ) True (.inl none) (cX5_T (gt G) q) (cX5_M (gt G).length μ)
  refine VC_fl_int (pcb := 64) (N := 160) (n := 160) (kf := 7) dX5_init_60 rfl (VC_sipush (v := 160) dX5_init_61 rfl) dX5_init_64 aw_int (by decide) (by decide) (Nat.le_of_ble_eq_true rfl) hz7 k_X5 (by decide) lk_RX5_34 rfl rfl rfl rfl (fun _ => ⟨rfl, rfl⟩) dX5_init_66 hq7 rfl ?_
  have hq8 : (cX5_T8 (gt G) q)[q]? = some (.inr (5, [some (some (gt G).length), some (some (cX5_T1 (gt G) q).length), some (some (cX5_T2 (gt G) q).length), some (some (cX5_T3 (gt G) q).length), some (some (cX5_T4 (gt G) q).length), some (some (cX5_T5 (gt G) q).length), some (some (cX5_T6 (gt G) q).length), some (some (cX5_T7 (gt G) q).length), some none, some none, some none, some none, none, none])) := aT_get (kd := 0) (N := 160) (kf := 7) hq7
  have hz8 : zb (cX5_T8 (gt G) q) (cX5_M8 (gt G).length μ) := zb_to hz7 (by rw [cX5_T8, aT_len]; exact Nat.le_add_right _ _) (by rw [cX5_M8]; exact upG_1 _ _ _) (by rw [cX5_M8]; exact upG_2 _ _ _)
  change VC (gw G (cX5_T8 (gt G) q)) mX5_init 69 [some (.ref q)] [] (cX5_M8 (gt G).length μ) True (.inl none) (cX5_T (gt G) q) (cX5_M (gt G).length μ)
  refine VC_fl_int (pcb := 73) (N := 160) (n := 160) (kf := 8) dX5_init_69 rfl (VC_sipush (v := 160) dX5_init_70 rfl) dX5_init_73 aw_int (by decide) (by decide) (Nat.le_of_ble_eq_true rfl) hz8 k_X5 (by decide) lk_RX5_37 rfl rfl rfl rfl (fun _ => ⟨rfl, rfl⟩) dX5_init_75 hq8 rfl ?_
  have hq9 : (cX5_T9 (gt G) q)[q]? = some (.inr (5, [some (some (gt G).length), some (some (cX5_T1 (gt G) q).length), some (some (cX5_T2 (gt G) q).length), some (some (cX5_T3 (gt G) q).length), some (some (cX5_T4 (gt G) q).length), some (some (cX5_T5 (gt G) q).length), some (some (cX5_T6 (gt G) q).length), some (some (cX5_T7 (gt G) q).length), some (some (cX5_T8 (gt G) q).length), some none, some none, some none, none, none])) := aT_get (kd := 0) (N := 160) (kf := 8) hq8
  have hz9 : zb (cX5_T9 (gt G) q) (cX5_M9 (gt G).length μ) := zb_to hz8 (by rw [cX5_T9, aT_len]; exact Nat.le_add_right _ _) (by rw [cX5_M9]; exact upG_1 _ _ _) (by rw [cX5_M9]; exact upG_2 _ _ _)
  change VC (gw G (cX5_T9 (gt G) q)) mX5_init 78 [some (.ref q)] [] (cX5_M9 (gt G).length μ) True (.inl none) (cX5_T (gt G) q) (cX5_M (gt G).length μ)
  refine VC_fl_long (pcb := 82) (N := 160) (n := 160) (kf := 9) dX5_init_78 rfl (VC_sipush (v := 160) dX5_init_79 rfl) dX5_init_82 aw_long (by decide) (by decide) (Nat.le_of_ble_eq_true rfl) hz9 k_X5 (by decide) lk_RX5_40 rfl rfl rfl rfl (fun _ => ⟨rfl, rfl⟩) dX5_init_84 hq9 rfl ?_
  have hq10 : (cX5_T10 (gt G) q)[q]? = some (.inr (5, [some (some (gt G).length), some (some (cX5_T1 (gt G) q).length), some (some (cX5_T2 (gt G) q).length), some (some (cX5_T3 (gt G) q).length), some (some (cX5_T4 (gt G) q).length), some (some (cX5_T5 (gt G) q).length), some (some (cX5_T6 (gt G) q).length), some (some (cX5_T7 (gt G) q).length), some (some (cX5_T8 (gt G) q).length), some (some (cX5_T9 (gt G) q).length), some none, some none, none, none])) := aT_get (kd := 1) (N := 160) (kf := 9) hq9
  have hz10 : zb (cX5_T10 (gt G) q) (cX5_M10 (gt G).length μ) := zb_to hz9 (by rw [cX5_T10, aT_len]; exact Nat.le_add_right _ _) (by rw [cX5_M10]; exact upG_1 _ _ _) (by rw [cX5_M10]; exact upG_2 _ _ _)
  change VC (gw G (cX5_T10 (gt G) q)) mX5_init 87 [some (.ref q)] [] (cX5_M10 (gt G).length μ) True (.inl none) (cX5_T (gt G) q) (cX5_M (gt G).length μ)
  refine VC_fl_int (pcb := 90) (N := 72) (n := 72) (kf := 10) dX5_init_87 rfl (VC_bipush (v := 72) dX5_init_88 rfl) dX5_init_90 aw_int (by decide) (by decide) (Nat.le_of_ble_eq_true rfl) hz10 k_X5 (by decide) lk_RX5_43 rfl rfl rfl rfl (fun _ => ⟨rfl, rfl⟩) dX5_init_92 hq10 rfl ?_
  have hq11 : (cX5_T11 (gt G) q)[q]? = some (.inr (5, [some (some (gt G).length), some (some (cX5_T1 (gt G) q).length), some (some (cX5_T2 (gt G) q).length), some (some (cX5_T3 (gt G) q).length), some (some (cX5_T4 (gt G) q).length), some (some (cX5_T5 (gt G) q).length), some (some (cX5_T6 (gt G) q).length), some (some (cX5_T7 (gt G) q).length), some (some (cX5_T8 (gt G) q).length), some (some (cX5_T9 (gt G) q).length), some (some (cX5_T10 (gt G) q).length), some none, none, none])) := aT_get (kd := 0) (N := 72) (kf := 10) hq10
  have hz11 : zb (cX5_T11 (gt G) q) (cX5_M11 (gt G).length μ) := zb_to hz10 (by rw [cX5_T11, aT_len]; exact Nat.le_add_right _ _) (by rw [cX5_M11]; exact upG_1 _ _ _) (by rw [cX5_M11]; exact upG_2 _ _ _)
  change VC (gw G (cX5_T11 (gt G) q)) mX5_init 95 [some (.ref q)] [] (cX5_M11 (gt G).length μ) True (.inl none) (cX5_T (gt G) q) (cX5_M (gt G).length μ)
  refine VC_fl_int (pcb := 98) (N := 12) (n := 12) (kf := 11) dX5_init_95 rfl (VC_bipush (v := 12) dX5_init_96 rfl) dX5_init_98 aw_int (by decide) (by decide) (Nat.le_of_ble_eq_true rfl) hz11 k_X5 (by decide) lk_RX5_46 rfl rfl rfl rfl (fun _ => ⟨rfl, rfl⟩) dX5_init_100 hq11 rfl ?_
  have hq12 : (cX5_T12 (gt G) q)[q]? = some (.inr (5, [some (some (gt G).length), some (some (cX5_T1 (gt G) q).length), some (some (cX5_T2 (gt G) q).length), some (some (cX5_T3 (gt G) q).length), some (some (cX5_T4 (gt G) q).length), some (some (cX5_T5 (gt G) q).length), some (some (cX5_T6 (gt G) q).length), some (some (cX5_T7 (gt G) q).length), some (some (cX5_T8 (gt G) q).length), some (some (cX5_T9 (gt G) q).length), some (some (cX5_T10 (gt G) q).length), some (some (cX5_T11 (gt G) q).length), none, none])) := aT_get (kd := 0) (N := 12) (kf := 11) hq11
  have hz12 : zb (cX5_T12 (gt G) q) (cX5_M12 (gt G).length μ) := zb_to hz11 (by rw [cX5_T12, aT_len]; exact Nat.le_add_right _ _) (by rw [cX5_M12]; exact upG_1 _ _ _) (by rw [cX5_M12]; exact upG_2 _ _ _)
  change VC (gw G (cX5_T12 (gt G) q)) mX5_init 103 [some (.ref q)] [] (cX5_M12 (gt G).length μ) True (.inl none) (cX5_T (gt G) q) (cX5_M (gt G).length μ)
  refine VC_aload_n dX5_init_103 rfl ?_
  refine VC_getRT (kf := 0) (r := (gt G).length) k_X5 (by decide) lk_RX5_9 rfl dX5_init_104 hq12 rfl ?_
  refine VC_iconst (v := -1) dX5_init_107 rfl ?_
  have a0 : (cX5_T12 (gt G) q)[(gt G).length]? = some (.inl (0, 40)) := fill_cell (gt G) q x0
  refine VC_fillT (a := (gt G).length) (n := 40) dX5_init_108 lk_RX5_49 (by decide) (by decide) a0 (Nat.le_of_ble_eq_true rfl) ?_
  exact VC_vretT rfl dX5_init_111
def mX1_init : MT := (yX1_init, cX1_init, 1, none, RX1, 1, 12, none)
theorem ok_mX1_init : mOK mX1_init 0 := ⟨bigW_k1 (List.mem_of_getElem? (i := 138) (by decide +kernel)) (by decide +kernel), in_TallTowers_Harms, ⟨pl_TallTowers_Harms.2.1, pl_TallTowers_Harms.2.2, pd_12⟩, pl_TallTowers_Harms.1, rfl⟩
theorem im_X1 : Cond.instanceMethod yX1_init ∈ bigW := bigW_k1 (List.mem_of_getElem? (i := 137) (by decide +kernel)) (by decide +kernel)
theorem ii_X1 : Cond.instantiable RX1 13 ∈ bigW := bigW_k1 (List.mem_of_getElem? (i := 135) (by decide +kernel)) (by decide +kernel)
theorem oi_X1 : Cond.methodLink RX1 3 Lib.objectInit ∈ bigW := bigW_k1 (List.mem_of_getElem? (i := 139) (by decide +kernel)) (by decide +kernel)
def cX1_T1 (T : List Ent) (q : Nat) : List Ent := aT 2 24 q 0 (T)
def cX1_M1 (L : Nat) (μ : Mem) : Mem := upG (μ) 1 24
theorem cX1_l1 (T : List Ent) (q : Nat) : (cX1_T1 T q).length = T.length + 1 := by rw [cX1_T1, aT_len]
theorem cX1_g1 (T : List Ent) (q : Nat) : Gr T (cX1_T1 T q) q := aT_gr _ _ q _ T
theorem cX1_m1 (L : Nat) (μ : Mem) : (cX1_M1 L μ).2.2 = (μ.2.2.1 + 1, μ.2.2.2 + 24) := by rfl
def cX1_T2 (T : List Ent) (q : Nat) : List Ent := aT 0 24 q 1 (cX1_T1 T q)
def cX1_M2 (L : Nat) (μ : Mem) : Mem := upG (cX1_M1 L μ) 1 24
theorem cX1_l2 (T : List Ent) (q : Nat) : (cX1_T2 T q).length = T.length + 2 := by rw [cX1_T2, aT_len, cX1_l1]
theorem cX1_g2 (T : List Ent) (q : Nat) : Gr T (cX1_T2 T q) q := (cX1_g1 T q).tr (aT_gr _ _ q _ _)
theorem cX1_m2 (L : Nat) (μ : Mem) : (cX1_M2 L μ).2.2 = (μ.2.2.1 + 2, μ.2.2.2 + 48) := by rw [cX1_M2, upG_3, cX1_m1]
def cX1_T3 (T : List Ent) (q : Nat) : List Ent := aT 0 24 q 2 (cX1_T2 T q)
def cX1_M3 (L : Nat) (μ : Mem) : Mem := upG (cX1_M2 L μ) 1 24
theorem cX1_l3 (T : List Ent) (q : Nat) : (cX1_T3 T q).length = T.length + 3 := by rw [cX1_T3, aT_len, cX1_l2]
theorem cX1_g3 (T : List Ent) (q : Nat) : Gr T (cX1_T3 T q) q := (cX1_g2 T q).tr (aT_gr _ _ q _ _)
theorem cX1_m3 (L : Nat) (μ : Mem) : (cX1_M3 L μ).2.2 = (μ.2.2.1 + 3, μ.2.2.2 + 72) := by rw [cX1_M3, upG_3, cX1_m2]
def cX1_T4 (T : List Ent) (q : Nat) : List Ent := aT 0 24 q 3 (cX1_T3 T q)
def cX1_M4 (L : Nat) (μ : Mem) : Mem := upG (cX1_M3 L μ) 1 24
theorem cX1_l4 (T : List Ent) (q : Nat) : (cX1_T4 T q).length = T.length + 4 := by rw [cX1_T4, aT_len, cX1_l3]
theorem cX1_g4 (T : List Ent) (q : Nat) : Gr T (cX1_T4 T q) q := (cX1_g3 T q).tr (aT_gr _ _ q _ _)
theorem cX1_m4 (L : Nat) (μ : Mem) : (cX1_M4 L μ).2.2 = (μ.2.2.1 + 4, μ.2.2.2 + 96) := by rw [cX1_M4, upG_3, cX1_m3]
def cX1_T5 (T : List Ent) (q : Nat) : List Ent := aT 1 24 q 4 (cX1_T4 T q)
def cX1_M5 (L : Nat) (μ : Mem) : Mem := upG (cX1_M4 L μ) 1 24
theorem cX1_l5 (T : List Ent) (q : Nat) : (cX1_T5 T q).length = T.length + 5 := by rw [cX1_T5, aT_len, cX1_l4]
theorem cX1_g5 (T : List Ent) (q : Nat) : Gr T (cX1_T5 T q) q := (cX1_g4 T q).tr (aT_gr _ _ q _ _)
theorem cX1_m5 (L : Nat) (μ : Mem) : (cX1_M5 L μ).2.2 = (μ.2.2.1 + 5, μ.2.2.2 + 120) := by rw [cX1_M5, upG_3, cX1_m4]
def cX1_T6 (T : List Ent) (q : Nat) : List Ent := aT 0 24 q 5 (cX1_T5 T q)
def cX1_M6 (L : Nat) (μ : Mem) : Mem := upG (cX1_M5 L μ) 1 24
theorem cX1_l6 (T : List Ent) (q : Nat) : (cX1_T6 T q).length = T.length + 6 := by rw [cX1_T6, aT_len, cX1_l5]
theorem cX1_g6 (T : List Ent) (q : Nat) : Gr T (cX1_T6 T q) q := (cX1_g5 T q).tr (aT_gr _ _ q _ _)
theorem cX1_m6 (L : Nat) (μ : Mem) : (cX1_M6 L μ).2.2 = (μ.2.2.1 + 6, μ.2.2.2 + 144) := by rw [cX1_M6, upG_3, cX1_m5]
def cX1_T7 (T : List Ent) (q : Nat) : List Ent := aT 1 1000 q 6 (cX1_T6 T q)
def cX1_M7 (L : Nat) (μ : Mem) : Mem := upG (cX1_M6 L μ) 1 1000
theorem cX1_l7 (T : List Ent) (q : Nat) : (cX1_T7 T q).length = T.length + 7 := by rw [cX1_T7, aT_len, cX1_l6]
theorem cX1_g7 (T : List Ent) (q : Nat) : Gr T (cX1_T7 T q) q := (cX1_g6 T q).tr (aT_gr _ _ q _ _)
theorem cX1_m7 (L : Nat) (μ : Mem) : (cX1_M7 L μ).2.2 = (μ.2.2.1 + 7, μ.2.2.2 + 1144) := by rw [cX1_M7, upG_3, cX1_m6]
def cX1_T8 (T : List Ent) (q : Nat) : List Ent := aT 1 1000 q 7 (cX1_T7 T q)
def cX1_M8 (L : Nat) (μ : Mem) : Mem := upG (cX1_M7 L μ) 1 1000
theorem cX1_l8 (T : List Ent) (q : Nat) : (cX1_T8 T q).length = T.length + 8 := by rw [cX1_T8, aT_len, cX1_l7]
theorem cX1_g8 (T : List Ent) (q : Nat) : Gr T (cX1_T8 T q) q := (cX1_g7 T q).tr (aT_gr _ _ q _ _)
theorem cX1_m8 (L : Nat) (μ : Mem) : (cX1_M8 L μ).2.2 = (μ.2.2.1 + 8, μ.2.2.2 + 2144) := by rw [cX1_M8, upG_3, cX1_m7]
def cX1_T9 (T : List Ent) (q : Nat) : List Ent := aT 1 960 q 8 (cX1_T8 T q)
def cX1_M9 (L : Nat) (μ : Mem) : Mem := upG (cX1_M8 L μ) 1 960
theorem cX1_l9 (T : List Ent) (q : Nat) : (cX1_T9 T q).length = T.length + 9 := by rw [cX1_T9, aT_len, cX1_l8]
theorem cX1_g9 (T : List Ent) (q : Nat) : Gr T (cX1_T9 T q) q := (cX1_g8 T q).tr (aT_gr _ _ q _ _)
theorem cX1_m9 (L : Nat) (μ : Mem) : (cX1_M9 L μ).2.2 = (μ.2.2.1 + 9, μ.2.2.2 + 3104) := by rw [cX1_M9, upG_3, cX1_m8]
def cX1_T10 (T : List Ent) (q : Nat) : List Ent := aT 1 3840 q 9 (cX1_T9 T q)
def cX1_M10 (L : Nat) (μ : Mem) : Mem := upG (cX1_M9 L μ) 1 3840
theorem cX1_l10 (T : List Ent) (q : Nat) : (cX1_T10 T q).length = T.length + 10 := by rw [cX1_T10, aT_len, cX1_l9]
theorem cX1_g10 (T : List Ent) (q : Nat) : Gr T (cX1_T10 T q) q := (cX1_g9 T q).tr (aT_gr _ _ q _ _)
theorem cX1_m10 (L : Nat) (μ : Mem) : (cX1_M10 L μ).2.2 = (μ.2.2.1 + 10, μ.2.2.2 + 6944) := by rw [cX1_M10, upG_3, cX1_m9]
def cX1_T11 (T : List Ent) (q : Nat) : List Ent := aT 1 240 q 10 (cX1_T10 T q)
def cX1_M11 (L : Nat) (μ : Mem) : Mem := upG (cX1_M10 L μ) 1 240
theorem cX1_l11 (T : List Ent) (q : Nat) : (cX1_T11 T q).length = T.length + 11 := by rw [cX1_T11, aT_len, cX1_l10]
theorem cX1_g11 (T : List Ent) (q : Nat) : Gr T (cX1_T11 T q) q := (cX1_g10 T q).tr (aT_gr _ _ q _ _)
theorem cX1_m11 (L : Nat) (μ : Mem) : (cX1_M11 L μ).2.2 = (μ.2.2.1 + 11, μ.2.2.2 + 7184) := by rw [cX1_M11, upG_3, cX1_m10]
def cX1_T12 (T : List Ent) (q : Nat) : List Ent := aT 1 168 q 11 (cX1_T11 T q)
def cX1_M12 (L : Nat) (μ : Mem) : Mem := upG (cX1_M11 L μ) 1 168
theorem cX1_l12 (T : List Ent) (q : Nat) : (cX1_T12 T q).length = T.length + 12 := by rw [cX1_T12, aT_len, cX1_l11]
theorem cX1_g12 (T : List Ent) (q : Nat) : Gr T (cX1_T12 T q) q := (cX1_g11 T q).tr (aT_gr _ _ q _ _)
theorem cX1_m12 (L : Nat) (μ : Mem) : (cX1_M12 L μ).2.2 = (μ.2.2.1 + 12, μ.2.2.2 + 7352) := by rw [cX1_M12, upG_3, cX1_m11]
def cX1_T (T : List Ent) (q : Nat) : List Ent := cX1_T12 T q
def cX1_M (L : Nat) (μ : Mem) : Mem := cX1_M12 L μ
def e0_X1 : Ent := .inr (1, [some none, some none, some none, some none, some none, some none, some none, some none, some none, some none, some none, some none, none])
theorem cX1_l (T : List Ent) (q : Nat) : (cX1_T T q).length = T.length + 12 := cX1_l12 T q
theorem cX1_g (T : List Ent) (q : Nat) : Gr T (cX1_T T q) q := cX1_g12 T q
theorem cX1_m (L : Nat) (μ : Mem) : (cX1_M L μ).2.2 = (μ.2.2.1 + 12, μ.2.2.2 + 7352) := cX1_m12 L μ
theorem cX1_z (T : List Ent) (q : Nat) (μ : Mem) (h : zb T μ) : zb (cX1_T T q) (cX1_M T.length μ) := by
  have z1 : zb (cX1_T1 T q) (cX1_M1 T.length μ) := zb_to h (by rw [cX1_T1, aT_len]; exact Nat.le_add_right _ _) (by rw [cX1_M1]; exact upG_1 _ _ _) (by rw [cX1_M1]; exact upG_2 _ _ _)
  have z2 : zb (cX1_T2 T q) (cX1_M2 T.length μ) := zb_to z1 (by rw [cX1_T2, aT_len]; exact Nat.le_add_right _ _) (by rw [cX1_M2]; exact upG_1 _ _ _) (by rw [cX1_M2]; exact upG_2 _ _ _)
  have z3 : zb (cX1_T3 T q) (cX1_M3 T.length μ) := zb_to z2 (by rw [cX1_T3, aT_len]; exact Nat.le_add_right _ _) (by rw [cX1_M3]; exact upG_1 _ _ _) (by rw [cX1_M3]; exact upG_2 _ _ _)
  have z4 : zb (cX1_T4 T q) (cX1_M4 T.length μ) := zb_to z3 (by rw [cX1_T4, aT_len]; exact Nat.le_add_right _ _) (by rw [cX1_M4]; exact upG_1 _ _ _) (by rw [cX1_M4]; exact upG_2 _ _ _)
  have z5 : zb (cX1_T5 T q) (cX1_M5 T.length μ) := zb_to z4 (by rw [cX1_T5, aT_len]; exact Nat.le_add_right _ _) (by rw [cX1_M5]; exact upG_1 _ _ _) (by rw [cX1_M5]; exact upG_2 _ _ _)
  have z6 : zb (cX1_T6 T q) (cX1_M6 T.length μ) := zb_to z5 (by rw [cX1_T6, aT_len]; exact Nat.le_add_right _ _) (by rw [cX1_M6]; exact upG_1 _ _ _) (by rw [cX1_M6]; exact upG_2 _ _ _)
  have z7 : zb (cX1_T7 T q) (cX1_M7 T.length μ) := zb_to z6 (by rw [cX1_T7, aT_len]; exact Nat.le_add_right _ _) (by rw [cX1_M7]; exact upG_1 _ _ _) (by rw [cX1_M7]; exact upG_2 _ _ _)
  have z8 : zb (cX1_T8 T q) (cX1_M8 T.length μ) := zb_to z7 (by rw [cX1_T8, aT_len]; exact Nat.le_add_right _ _) (by rw [cX1_M8]; exact upG_1 _ _ _) (by rw [cX1_M8]; exact upG_2 _ _ _)
  have z9 : zb (cX1_T9 T q) (cX1_M9 T.length μ) := zb_to z8 (by rw [cX1_T9, aT_len]; exact Nat.le_add_right _ _) (by rw [cX1_M9]; exact upG_1 _ _ _) (by rw [cX1_M9]; exact upG_2 _ _ _)
  have z10 : zb (cX1_T10 T q) (cX1_M10 T.length μ) := zb_to z9 (by rw [cX1_T10, aT_len]; exact Nat.le_add_right _ _) (by rw [cX1_M10]; exact upG_1 _ _ _) (by rw [cX1_M10]; exact upG_2 _ _ _)
  have z11 : zb (cX1_T11 T q) (cX1_M11 T.length μ) := zb_to z10 (by rw [cX1_T11, aT_len]; exact Nat.le_add_right _ _) (by rw [cX1_M11]; exact upG_1 _ _ _) (by rw [cX1_M11]; exact upG_2 _ _ _)
  have z12 : zb (cX1_T12 T q) (cX1_M12 T.length μ) := zb_to z11 (by rw [cX1_T12, aT_len]; exact Nat.le_add_right _ _) (by rw [cX1_M12]; exact upG_1 _ _ _) (by rw [cX1_M12]; exact upG_2 _ _ _)
  exact z12
set_option maxRecDepth 20000 in
theorem VMC_X1 (G : GX) (q : Nat) (μ : Mem) (hq : (gt G)[q]? = some (.inr (1, [some none, some none, some none, some none, some none, some none, some none, some none, some none, some none, some none, some none, none]))) (hz : zb (gt G) μ) : VMC G mX1_init [.ref q] μ (cX1_T (gt G) q) (cX1_M (gt G).length μ) := by
  refine VMC_entry ok_mX1_init rfl rfl rfl (Nat.le_of_ble_eq_true rfl) ?_
  refine VC_aload_n dX1_init_0 rfl ?_
  refine VC_objInit dX1_init_1 oi_X1 ob_i ob_c (by decide) (Nat.le_of_ble_eq_true rfl) ?_
  change VC (gw G (gt G)) mX1_init 4 [some (.ref q)] [] μ True (.inl none) (cX1_T (gt G) q) (cX1_M (gt G).length μ)
  refine VC_fl_boolean (pcb := 7) (N := 24) (n := 24) (kf := 0) dX1_init_4 rfl (VC_bipush (v := 24) dX1_init_5 rfl) dX1_init_7 aw_boolean (by decide) (by decide) (Nat.le_of_ble_eq_true rfl) hz k_X1 (by decide) lk_RX1_9 rfl rfl rfl rfl (fun _ => ⟨rfl, rfl⟩) dX1_init_9 hq rfl ?_
  have hq1 : (cX1_T1 (gt G) q)[q]? = some (.inr (1, [some (some (gt G).length), some none, some none, some none, some none, some none, some none, some none, some none, some none, some none, some none, none])) := aT_get (kd := 2) (N := 24) (kf := 0) hq
  have hz1 : zb (cX1_T1 (gt G) q) (cX1_M1 (gt G).length μ) := zb_to hz (by rw [cX1_T1, aT_len]; exact Nat.le_add_right _ _) (by rw [cX1_M1]; exact upG_1 _ _ _) (by rw [cX1_M1]; exact upG_2 _ _ _)
  change VC (gw G (cX1_T1 (gt G) q)) mX1_init 12 [some (.ref q)] [] (cX1_M1 (gt G).length μ) True (.inl none) (cX1_T (gt G) q) (cX1_M (gt G).length μ)
  refine VC_fl_int (pcb := 15) (N := 24) (n := 24) (kf := 1) dX1_init_12 rfl (VC_bipush (v := 24) dX1_init_13 rfl) dX1_init_15 aw_int (by decide) (by decide) (Nat.le_of_ble_eq_true rfl) hz1 k_X1 (by decide) lk_RX1_15 rfl rfl rfl rfl (fun _ => ⟨rfl, rfl⟩) dX1_init_17 hq1 rfl ?_
  have hq2 : (cX1_T2 (gt G) q)[q]? = some (.inr (1, [some (some (gt G).length), some (some (cX1_T1 (gt G) q).length), some none, some none, some none, some none, some none, some none, some none, some none, some none, some none, none])) := aT_get (kd := 0) (N := 24) (kf := 1) hq1
  have hz2 : zb (cX1_T2 (gt G) q) (cX1_M2 (gt G).length μ) := zb_to hz1 (by rw [cX1_T2, aT_len]; exact Nat.le_add_right _ _) (by rw [cX1_M2]; exact upG_1 _ _ _) (by rw [cX1_M2]; exact upG_2 _ _ _)
  change VC (gw G (cX1_T2 (gt G) q)) mX1_init 20 [some (.ref q)] [] (cX1_M2 (gt G).length μ) True (.inl none) (cX1_T (gt G) q) (cX1_M (gt G).length μ)
  refine VC_fl_int (pcb := 23) (N := 24) (n := 24) (kf := 2) dX1_init_20 rfl (VC_bipush (v := 24) dX1_init_21 rfl) dX1_init_23 aw_int (by decide) (by decide) (Nat.le_of_ble_eq_true rfl) hz2 k_X1 (by decide) lk_RX1_19 rfl rfl rfl rfl (fun _ => ⟨rfl, rfl⟩) dX1_init_25 hq2 rfl ?_
  have hq3 : (cX1_T3 (gt G) q)[q]? = some (.inr (1, [some (some (gt G).length), some (some (cX1_T1 (gt G) q).length), some (some (cX1_T2 (gt G) q).length), some none, some none, some none, some none, some none, some none, some none, some none, some none, none])) := aT_get (kd := 0) (N := 24) (kf := 2) hq2
  have hz3 : zb (cX1_T3 (gt G) q) (cX1_M3 (gt G).length μ) := zb_to hz2 (by rw [cX1_T3, aT_len]; exact Nat.le_add_right _ _) (by rw [cX1_M3]; exact upG_1 _ _ _) (by rw [cX1_M3]; exact upG_2 _ _ _)
  change VC (gw G (cX1_T3 (gt G) q)) mX1_init 28 [some (.ref q)] [] (cX1_M3 (gt G).length μ) True (.inl none) (cX1_T (gt G) q) (cX1_M (gt G).length μ)
  refine VC_fl_int (pcb := 31) (N := 24) (n := 24) (kf := 3) dX1_init_28 rfl (VC_bipush (v := 24) dX1_init_29 rfl) dX1_init_31 aw_int (by decide) (by decide) (Nat.le_of_ble_eq_true rfl) hz3 k_X1 (by decide) lk_RX1_22 rfl rfl rfl rfl (fun _ => ⟨rfl, rfl⟩) dX1_init_33 hq3 rfl ?_
  have hq4 : (cX1_T4 (gt G) q)[q]? = some (.inr (1, [some (some (gt G).length), some (some (cX1_T1 (gt G) q).length), some (some (cX1_T2 (gt G) q).length), some (some (cX1_T3 (gt G) q).length), some none, some none, some none, some none, some none, some none, some none, some none, none])) := aT_get (kd := 0) (N := 24) (kf := 3) hq3
  have hz4 : zb (cX1_T4 (gt G) q) (cX1_M4 (gt G).length μ) := zb_to hz3 (by rw [cX1_T4, aT_len]; exact Nat.le_add_right _ _) (by rw [cX1_M4]; exact upG_1 _ _ _) (by rw [cX1_M4]; exact upG_2 _ _ _)
  change VC (gw G (cX1_T4 (gt G) q)) mX1_init 36 [some (.ref q)] [] (cX1_M4 (gt G).length μ) True (.inl none) (cX1_T (gt G) q) (cX1_M (gt G).length μ)
  refine VC_fl_long (pcb := 39) (N := 24) (n := 24) (kf := 4) dX1_init_36 rfl (VC_bipush (v := 24) dX1_init_37 rfl) dX1_init_39 aw_long (by decide) (by decide) (Nat.le_of_ble_eq_true rfl) hz4 k_X1 (by decide) lk_RX1_25 rfl rfl rfl rfl (fun _ => ⟨rfl, rfl⟩) dX1_init_41 hq4 rfl ?_
  have hq5 : (cX1_T5 (gt G) q)[q]? = some (.inr (1, [some (some (gt G).length), some (some (cX1_T1 (gt G) q).length), some (some (cX1_T2 (gt G) q).length), some (some (cX1_T3 (gt G) q).length), some (some (cX1_T4 (gt G) q).length), some none, some none, some none, some none, some none, some none, some none, none])) := aT_get (kd := 1) (N := 24) (kf := 4) hq4
  have hz5 : zb (cX1_T5 (gt G) q) (cX1_M5 (gt G).length μ) := zb_to hz4 (by rw [cX1_T5, aT_len]; exact Nat.le_add_right _ _) (by rw [cX1_M5]; exact upG_1 _ _ _) (by rw [cX1_M5]; exact upG_2 _ _ _)
  change VC (gw G (cX1_T5 (gt G) q)) mX1_init 44 [some (.ref q)] [] (cX1_M5 (gt G).length μ) True (.inl none) (cX1_T (gt G) q) (cX1_M (gt G).length μ)
  refine VC_fl_int (pcb := 47) (N := 24) (n := 24) (kf := 5) dX1_init_44 rfl (VC_bipush (v := 24) dX1_init_45 rfl) dX1_init_47 aw_int (by decide) (by decide) (Nat.le_of_ble_eq_true rfl) hz5 k_X1 (by decide) lk_RX1_29 rfl rfl rfl rfl (fun _ => ⟨rfl, rfl⟩) dX1_init_49 hq5 rfl ?_
  have hq6 : (cX1_T6 (gt G) q)[q]? = some (.inr (1, [some (some (gt G).length), some (some (cX1_T1 (gt G) q).length), some (some (cX1_T2 (gt G) q).length), some (some (cX1_T3 (gt G) q).length), some (some (cX1_T4 (gt G) q).length), some (some (cX1_T5 (gt G) q).length), some none, some none, some none, some none, some none, some none, none])) := aT_get (kd := 0) (N := 24) (kf := 5) hq5
  have hz6 : zb (cX1_T6 (gt G) q) (cX1_M6 (gt G).length μ) := zb_to hz5 (by rw [cX1_T6, aT_len]; exact Nat.le_add_right _ _) (by rw [cX1_M6]; exact upG_1 _ _ _) (by rw [cX1_M6]; exact upG_2 _ _ _)
  change VC (gw G (cX1_T6 (gt G) q)) mX1_init 52 [some (.ref q)] [] (cX1_M6 (gt G).length μ) True (.inl none) (cX1_T (gt G) q) (cX1_M (gt G).length μ)
  refine VC_fl_long (pcb := 56) (N := 1000) (n := 1000) (kf := 6) dX1_init_52 rfl (VC_sipush (v := 1000) dX1_init_53 rfl) dX1_init_56 aw_long (by decide) (by decide) (Nat.le_of_ble_eq_true rfl) hz6 k_X1 (by decide) lk_RX1_32 rfl rfl rfl rfl (fun _ => ⟨rfl, rfl⟩) dX1_init_58 hq6 rfl ?_
  have hq7 : (cX1_T7 (gt G) q)[q]? = some (.inr (1, [some (some (gt G).length), some (some (cX1_T1 (gt G) q).length), some (some (cX1_T2 (gt G) q).length), some (some (cX1_T3 (gt G) q).length), some (some (cX1_T4 (gt G) q).length), some (some (cX1_T5 (gt G) q).length), some (some (cX1_T6 (gt G) q).length), some none, some none, some none, some none, some none, none])) := aT_get (kd := 1) (N := 1000) (kf := 6) hq6
  have hz7 : zb (cX1_T7 (gt G) q) (cX1_M7 (gt G).length μ) := zb_to hz6 (by rw [cX1_T7, aT_len]; exact Nat.le_add_right _ _) (by rw [cX1_M7]; exact upG_1 _ _ _) (by rw [cX1_M7]; exact upG_2 _ _ _)
  change VC (gw G (cX1_T7 (gt G) q)) mX1_init 61 [some (.ref q)] [] (cX1_M7 (gt G).length μ) True (.inl none) (cX1_T (gt G) q) (cX1_M (gt G).length μ)
  refine VC_fl_long (pcb := 65) (N := 1000) (n := 1000) (kf := 7) dX1_init_61 rfl (VC_sipush (v := 1000) dX1_init_62 rfl) dX1_init_65 aw_long (by decide) (by decide) (Nat.le_of_ble_eq_true rfl) hz7 k_X1 (by decide) lk_RX1_35 rfl rfl rfl rfl (fun _ => ⟨rfl, rfl⟩) dX1_init_67 hq7 rfl ?_
  have hq8 : (cX1_T8 (gt G) q)[q]? = some (.inr (1, [some (some (gt G).length), some (some (cX1_T1 (gt G) q).length), some (some (cX1_T2 (gt G) q).length), some (some (cX1_T3 (gt G) q).length), some (some (cX1_T4 (gt G) q).length), some (some (cX1_T5 (gt G) q).length), some (some (cX1_T6 (gt G) q).length), some (some (cX1_T7 (gt G) q).length), some none, some none, some none, some none, none])) := aT_get (kd := 1) (N := 1000) (kf := 7) hq7
  have hz8 : zb (cX1_T8 (gt G) q) (cX1_M8 (gt G).length μ) := zb_to hz7 (by rw [cX1_T8, aT_len]; exact Nat.le_add_right _ _) (by rw [cX1_M8]; exact upG_1 _ _ _) (by rw [cX1_M8]; exact upG_2 _ _ _)
  change VC (gw G (cX1_T8 (gt G) q)) mX1_init 70 [some (.ref q)] [] (cX1_M8 (gt G).length μ) True (.inl none) (cX1_T (gt G) q) (cX1_M (gt G).length μ)
  refine VC_fl_long (pcb := 74) (N := 960) (n := 960) (kf := 8) dX1_init_70 rfl (VC_sipush (v := 960) dX1_init_71 rfl) dX1_init_74 aw_long (by decide) (by decide) (Nat.le_of_ble_eq_true rfl) hz8 k_X1 (by decide) lk_RX1_38 rfl rfl rfl rfl (fun _ => ⟨rfl, rfl⟩) dX1_init_76 hq8 rfl ?_
  have hq9 : (cX1_T9 (gt G) q)[q]? = some (.inr (1, [some (some (gt G).length), some (some (cX1_T1 (gt G) q).length), some (some (cX1_T2 (gt G) q).length), some (some (cX1_T3 (gt G) q).length), some (some (cX1_T4 (gt G) q).length), some (some (cX1_T5 (gt G) q).length), some (some (cX1_T6 (gt G) q).length), some (some (cX1_T7 (gt G) q).length), some (some (cX1_T8 (gt G) q).length), some none, some none, some none, none])) := aT_get (kd := 1) (N := 960) (kf := 8) hq8
  have hz9 : zb (cX1_T9 (gt G) q) (cX1_M9 (gt G).length μ) := zb_to hz8 (by rw [cX1_T9, aT_len]; exact Nat.le_add_right _ _) (by rw [cX1_M9]; exact upG_1 _ _ _) (by rw [cX1_M9]; exact upG_2 _ _ _)
  change VC (gw G (cX1_T9 (gt G) q)) mX1_init 79 [some (.ref q)] [] (cX1_M9 (gt G).length μ) True (.inl none) (cX1_T (gt G) q) (cX1_M (gt G).length μ)
  refine VC_fl_long (pcb := 83) (N := 3840) (n := 3840) (kf := 9) dX1_init_79 rfl (VC_sipush (v := 3840) dX1_init_80 rfl) dX1_init_83 aw_long (by decide) (by decide) (Nat.le_of_ble_eq_true rfl) hz9 k_X1 (by decide) lk_RX1_41 rfl rfl rfl rfl (fun _ => ⟨rfl, rfl⟩) dX1_init_85 hq9 rfl ?_
  have hq10 : (cX1_T10 (gt G) q)[q]? = some (.inr (1, [some (some (gt G).length), some (some (cX1_T1 (gt G) q).length), some (some (cX1_T2 (gt G) q).length), some (some (cX1_T3 (gt G) q).length), some (some (cX1_T4 (gt G) q).length), some (some (cX1_T5 (gt G) q).length), some (some (cX1_T6 (gt G) q).length), some (some (cX1_T7 (gt G) q).length), some (some (cX1_T8 (gt G) q).length), some (some (cX1_T9 (gt G) q).length), some none, some none, none])) := aT_get (kd := 1) (N := 3840) (kf := 9) hq9
  have hz10 : zb (cX1_T10 (gt G) q) (cX1_M10 (gt G).length μ) := zb_to hz9 (by rw [cX1_T10, aT_len]; exact Nat.le_add_right _ _) (by rw [cX1_M10]; exact upG_1 _ _ _) (by rw [cX1_M10]; exact upG_2 _ _ _)
  change VC (gw G (cX1_T10 (gt G) q)) mX1_init 88 [some (.ref q)] [] (cX1_M10 (gt G).length μ) True (.inl none) (cX1_T (gt G) q) (cX1_M (gt G).length μ)
  refine VC_fl_long (pcb := 92) (N := 240) (n := 240) (kf := 10) dX1_init_88 rfl (VC_sipush (v := 240) dX1_init_89 rfl) dX1_init_92 aw_long (by decide) (by decide) (Nat.le_of_ble_eq_true rfl) hz10 k_X1 (by decide) lk_RX1_44 rfl rfl rfl rfl (fun _ => ⟨rfl, rfl⟩) dX1_init_94 hq10 rfl ?_
  have hq11 : (cX1_T11 (gt G) q)[q]? = some (.inr (1, [some (some (gt G).length), some (some (cX1_T1 (gt G) q).length), some (some (cX1_T2 (gt G) q).length), some (some (cX1_T3 (gt G) q).length), some (some (cX1_T4 (gt G) q).length), some (some (cX1_T5 (gt G) q).length), some (some (cX1_T6 (gt G) q).length), some (some (cX1_T7 (gt G) q).length), some (some (cX1_T8 (gt G) q).length), some (some (cX1_T9 (gt G) q).length), some (some (cX1_T10 (gt G) q).length), some none, none])) := aT_get (kd := 1) (N := 240) (kf := 10) hq10
  have hz11 : zb (cX1_T11 (gt G) q) (cX1_M11 (gt G).length μ) := zb_to hz10 (by rw [cX1_T11, aT_len]; exact Nat.le_add_right _ _) (by rw [cX1_M11]; exact upG_1 _ _ _) (by rw [cX1_M11]; exact upG_2 _ _ _)
  change VC (gw G (cX1_T11 (gt G) q)) mX1_init 97 [some (.ref q)] [] (cX1_M11 (gt G).length μ) True (.inl none) (cX1_T (gt G) q) (cX1_M (gt G).length μ)
  refine VC_fl_long (pcb := 101) (N := 168) (n := 168) (kf := 11) dX1_init_97 rfl (VC_sipush (v := 168) dX1_init_98 rfl) dX1_init_101 aw_long (by decide) (by decide) (Nat.le_of_ble_eq_true rfl) hz11 k_X1 (by decide) lk_RX1_47 rfl rfl rfl rfl (fun _ => ⟨rfl, rfl⟩) dX1_init_103 hq11 rfl ?_
  have hq12 : (cX1_T12 (gt G) q)[q]? = some (.inr (1, [some (some (gt G).length), some (some (cX1_T1 (gt G) q).length), some (some (cX1_T2 (gt G) q).length), some (some (cX1_T3 (gt G) q).length), some (some (cX1_T4 (gt G) q).length), some (some (cX1_T5 (gt G) q).length), some (some (cX1_T6 (gt G) q).length), some (some (cX1_T7 (gt G) q).length), some (some (cX1_T8 (gt G) q).length), some (some (cX1_T9 (gt G) q).length), some (some (cX1_T10 (gt G) q).length), some (some (cX1_T11 (gt G) q).length), none])) := aT_get (kd := 1) (N := 168) (kf := 11) hq11
  have hz12 : zb (cX1_T12 (gt G) q) (cX1_M12 (gt G).length μ) := zb_to hz11 (by rw [cX1_T12, aT_len]; exact Nat.le_add_right _ _) (by rw [cX1_M12]; exact upG_1 _ _ _) (by rw [cX1_M12]; exact upG_2 _ _ _)
  change VC (gw G (cX1_T12 (gt G) q)) mX1_init 106 [some (.ref q)] [] (cX1_M12 (gt G).length μ) True (.inl none) (cX1_T (gt G) q) (cX1_M (gt G).length μ)
  exact VC_vretT rfl dX1_init_106
