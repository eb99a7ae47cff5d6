theorem aw_int : Cond.arrayClass .int ∈ bigW := bigW_k1 (List.mem_of_getElem? (i := 40) (by decide +kernel)) (by decide +kernel)
theorem aw_long : Cond.arrayClass .long ∈ bigW := bigW_k1 (List.mem_of_getElem? (i := 133) (by decide +kernel)) (by decide +kernel)
theorem aw_boolean : Cond.arrayClass .boolean ∈ bigW := bigW_k1 (List.mem_of_getElem? (i := 201) (by decide +kernel)) (by decide +kernel)
theorem ob_i : Cond.instanceMethod Lib.objectInit ∈ bigW := bigW_k1 (List.mem_of_getElem? (i := 24) (by decide +kernel)) (by decide +kernel)
theorem ob_c : Cond.code Lib.objectInit ⟨#[0xb1]⟩ 1 none ∈ bigW := bigW_k1 (List.mem_of_getElem? (i := 25) (by decide +kernel)) (by decide +kernel)
def mX2_init : MT := (yX2_init, cX2_init, 1, none, RX2, 1, 12, none)
theorem ok_mX2_init : mOK mX2_init 0 := ⟨bigW_k1 (List.mem_of_getElem? (i := 30) (by decide +kernel)) (by decide +kernel), in_TallTowers_Log, ⟨pl_TallTowers_Log.2.1, pl_TallTowers_Log.2.2, pd_12⟩, pl_TallTowers_Log.1, rfl⟩
theorem im_X2 : Cond.instanceMethod yX2_init ∈ bigW := bigW_k1 (List.mem_of_getElem? (i := 29) (by decide +kernel)) (by decide +kernel)
theorem ii_X2 : Cond.instantiable RX2 2 ∈ bigW := bigW_k1 (List.mem_of_getElem? (i := 27) (by decide +kernel)) (by decide +kernel)
theorem oi_X2 : Cond.methodLink RX2 3 Lib.objectInit ∈ bigW := bigW_k1 (List.mem_of_getElem? (i := 31) (by decide +kernel)) (by decide +kernel)
def cX2_T1 (T : List Ent) (q : Nat) : List Ent := aT 0 960 q 0 (T)
def cX2_M1 (L : Nat) (μ : Mem) : Mem := upG (μ) 1 960
theorem cX2_l1 (T : List Ent) (q : Nat) : (cX2_T1 T q).length = T.length + 1 := by rw [cX2_T1, aT_len]
theorem cX2_g1 (T : List Ent) (q : Nat) : Gr T (cX2_T1 T q) q := aT_gr _ _ q _ T
theorem cX2_m1 (L : Nat) (μ : Mem) : (cX2_M1 L μ).2.2 = (μ.2.2.1 + 1, μ.2.2.2 + 960) := by rfl
def cX2_T (T : List Ent) (q : Nat) : List Ent := cX2_T1 T q
def cX2_M (L : Nat) (μ : Mem) : Mem := cX2_M1 L μ
theorem cX2_l (T : List Ent) (q : Nat) : (cX2_T T q).length = T.length + 1 := cX2_l1 T q
theorem cX2_g (T : List Ent) (q : Nat) : Gr T (cX2_T T q) q := cX2_g1 T q
theorem cX2_m (L : Nat) (μ : Mem) : (cX2_M L μ).2.2 = (μ.2.2.1 + 1, μ.2.2.2 + 960) := cX2_m1 L μ
theorem cX2_z (T : List Ent) (q : Nat) (μ : Mem) (h : zb T μ) : zb (cX2_T T q) (cX2_M T.length μ) := by
  have z1 : zb (cX2_T1 T q) (cX2_M1 T.length μ) := zb_to h (by rw [cX2_T1, aT_len]; exact Nat.le_add_right _ _) rfl rfl
  exact z1
set_option maxRecDepth 20000 in
theorem VMC_X2 (G : GX) (q : Nat) (μ : Mem) (hq : (gt G)[q]? = some (.inr (2, [some none, none]))) (hz : zb (gt G) μ) : VMC G mX2_init [.ref q] μ (cX2_T (gt G) q) (cX2_M (gt G).length μ) := by
  refine VMC_entry ok_mX2_init rfl rfl rfl (Nat.le_of_ble_eq_true rfl) ?_
  refine VC_aload_n dX2_init_0 rfl ?_
  refine VC_objInit dX2_init_1 oi_X2 ob_i ob_c (by decide) (Nat.le_of_ble_eq_true rfl) ?_
  refine VC_fld_int (pcb := 8) (N := 960) (n := 960) (kf := 0) dX2_init_4 rfl (VC_sipush (v := 960) dX2_init_5 rfl) dX2_init_8 aw_int (by decide) (by decide) (Nat.le_of_ble_eq_true rfl) hz k_X2 (by decide) lk_RX2_11 rfl rfl rfl rfl (fun _ => ⟨rfl, rfl⟩) dX2_init_10 hq rfl ?_
  have hq1 := aT_get (kd := 0) (N := 960) (kf := 0) hq
  have hz1 : zb (cX2_T1 (gt G) q) (cX2_M1 (gt G).length μ) := zb_to hz (by rw [cX2_T1, aT_len]; exact Nat.le_add_right _ _) rfl rfl
  change VC (gw G (cX2_T1 (gt G) q)) mX2_init 13 [some (.ref q)] [] (cX2_M1 (gt G).length μ) True (.inl none) (cX2_T (gt G) q) (cX2_M (gt G).length μ)
  exact VC_vret rfl dX2_init_13
