theorem tb_k0 {w : Cond} (h : w ∈ k2_sels lw_privs) : w ∈ lw_tbl := List.mem_append_left _ h
theorem tb_k1 {w : Cond} (h : w ∈ tables_1_1) : w ∈ lw_tbl := List.mem_append_right _ (List.mem_append_left _ h)
theorem tb_k2 {w : Cond} (h : w ∈ tables_1_2) : w ∈ lw_tbl := List.mem_append_right _ (List.mem_append_right _ (List.mem_append_left _ h))
theorem tb_k3 {w : Cond} (h : w ∈ tables_1_3) : w ∈ lw_tbl := List.mem_append_right _ (List.mem_append_right _ (List.mem_append_right _ (List.mem_append_left _ h)))
theorem tb_k4 {w : Cond} (h : w ∈ tables_1_4) : w ∈ lw_tbl := List.mem_append_right _ (List.mem_append_right _ (List.mem_append_right _ (List.mem_append_right _ (List.mem_append_left _ h))))
theorem tb_k5 {w : Cond} (h : w ∈ tables_1_5) : w ∈ lw_tbl := List.mem_append_right _ (List.mem_append_right _ (List.mem_append_right _ (List.mem_append_right _ (List.mem_append_right _ (List.mem_append_left _ h)))))
theorem tb_k6 {w : Cond} (h : w ∈ tables_1_6) : w ∈ lw_tbl := List.mem_append_right _ (List.mem_append_right _ (List.mem_append_right _ (List.mem_append_right _ (List.mem_append_right _ (List.mem_append_right _ (List.mem_append_left _ h))))))
theorem tb_k7 {w : Cond} (h : w ∈ tables_1_7) : w ∈ lw_tbl := List.mem_append_right _ (List.mem_append_right _ (List.mem_append_right _ (List.mem_append_right _ (List.mem_append_right _ (List.mem_append_right _ (List.mem_append_right _ (List.mem_append_left _ h)))))))
theorem tb_k8 {w : Cond} (h : w ∈ tables_1_8) : w ∈ lw_tbl := List.mem_append_right _ (List.mem_append_right _ (List.mem_append_right _ (List.mem_append_right _ (List.mem_append_right _ (List.mem_append_right _ (List.mem_append_right _ (List.mem_append_right _ h)))))))
theorem cl_RL_8 : Cond.classLink RL 8 RX6 ∈ bigW := bigW_k1 (List.mem_of_getElem? (i := 18) (by decide +kernel)) (by decide +kernel)
theorem cl_RL_166 : Cond.classLink RL 166 RX7 ∈ bigW := bigW_k5 (List.mem_of_getElem? (i := 231) (by decide +kernel)) (by decide +kernel)
theorem lk_RL_165 : Cond.methodLink RL 165 yX6_init ∈ bigW := bigW_k1 (List.mem_of_getElem? (i := 20) (by decide +kernel)) (by decide +kernel)
theorem lk_RL_168 : Cond.methodLink RL 168 yX7_init ∈ bigW := bigW_k5 (List.mem_of_getElem? (i := 233) (by decide +kernel)) (by decide +kernel)
theorem xw_in : ∀ w ∈ xw, w ∈ lw_tbl := List.forall_mem_cons.mpr ⟨tb_k3 (List.mem_of_getElem? (i := 141) (by decide +kernel)), List.forall_mem_cons.mpr ⟨tb_k3 (List.mem_of_getElem? (i := 123) (by decide +kernel)), List.forall_mem_cons.mpr ⟨tb_k3 (List.mem_of_getElem? (i := 125) (by decide +kernel)), List.forall_mem_cons.mpr ⟨tb_k3 (List.mem_of_getElem? (i := 127) (by decide +kernel)), List.forall_mem_cons.mpr ⟨tb_k3 (List.mem_of_getElem? (i := 229) (by decide +kernel)), List.forall_mem_cons.mpr ⟨tb_k3 (List.mem_of_getElem? (i := 121) (by decide +kernel)), List.forall_mem_cons.mpr ⟨tb_k3 (List.mem_of_getElem? (i := 197) (by decide +kernel)), List.forall_mem_cons.mpr ⟨tb_k2 (List.mem_of_getElem? (i := 205) (by decide +kernel)), List.forall_mem_cons.mpr ⟨tb_k2 (List.mem_of_getElem? (i := 230) (by decide +kernel)), fun w h => absurd h List.not_mem_nil⟩⟩⟩⟩⟩⟩⟩⟩⟩
theorem xwc_in : ∀ w ∈ xwc, w ∈ lw_tbl := List.forall_mem_cons.mpr ⟨tb_k1 (List.mem_of_getElem? (i := 28) (by decide +kernel)), List.forall_mem_cons.mpr ⟨tb_k1 (List.mem_of_getElem? (i := 43) (by decide +kernel)), List.forall_mem_cons.mpr ⟨tb_k1 (List.mem_of_getElem? (i := 237) (by decide +kernel)), List.forall_mem_cons.mpr ⟨tb_k1 (List.mem_of_getElem? (i := 136) (by decide +kernel)), List.forall_mem_cons.mpr ⟨tb_k2 (List.mem_of_getElem? (i := 3) (by decide +kernel)), fun w h => absurd h List.not_mem_nil⟩⟩⟩⟩⟩
theorem xwc_tab : xwc.all (fun w => w.onTables) = true := by decide +kernel
theorem sr_362 : Cond.stringRef "TallTowers" 362 tx0 ∈ lw_tbl := tb_k3 (List.mem_of_getElem? (i := 236) (by decide +kernel))
theorem sr_369 : Cond.stringRef "TallTowers" 369 tx1 ∈ lw_tbl := tb_k3 (List.mem_of_getElem? (i := 160) (by decide +kernel))
theorem sr_374 : Cond.stringRef "TallTowers" 374 tx2 ∈ lw_tbl := tb_k3 (List.mem_of_getElem? (i := 204) (by decide +kernel))
theorem st_us : Cond.laysStatic Bundle.tN "UNASSIGNED_STACK" Bundle.steD ∈ lw_tbl := tb_k3 (List.mem_of_getElem? (i := 146) (by decide +kernel))
theorem st_ss : Cond.laysStatic Bundle.tN "SUPPRESSED_SENTINEL" Bundle.listD ∈ lw_tbl := tb_k3 (List.mem_of_getElem? (i := 148) (by decide +kernel))
theorem in_thr : Cond.initialized Bundle.tN ∈ lw_tbl := tb_k1 (List.mem_of_getElem? (i := 10) (by decide +kernel))
/-! the law's first 23 bytes: the desk, the model, 'out' -/
def m00 : Mem := (fun _ _ => 0, fun _ _ => 0, 0, 0)
def tD : List Ent := cX6_T [e0_X6] 0
def mD : Mem := cX6_M 1 (upG m00 1 5)
def tM : List Ent := cX7_T (tD ++ [e0_X7]) 85
def mM : Mem := cX7_M 86 (upG mD 1 50)
/-- the memory at the law's loop -/
def m0 : Mem := upG mM 1 1
theorem tD_len : tD.length = 85 := cX6_l [e0_X6] 0
theorem tM_len : tM.length = 128 := by rw [tM, cX7_l, List.length_append, tD_len]; rfl
theorem tM_ok : tM ++ [.inl (1, 1)] = tbl := by decide +kernel
theorem mD_c : mD.2.2 = (85, 18267) := by rw [mD, cX6_m, upG_3]; decide +kernel
theorem mM_c : mM.2.2 = (128, 27962) := by rw [mM, cX7_m, upG_3, mD_c]
theorem m0_c : m0.2.2 = (129, 27963) := by rw [m0, upG_3, mM_c]
theorem zb_m00 : zb [] m00 := fun c _ => ⟨rfl, rfl⟩
theorem zb_D0 : zb [e0_X6] (upG m00 1 5) := fun c _ => ⟨rfl, rfl⟩
theorem zb_D : zb tD mD := cX6_z [e0_X6] 0 _ zb_D0
theorem zb_M0 : zb (tD ++ [e0_X7]) (upG mD 1 50) := zb_to zb_D (by rw [List.length_append]; exact Nat.le_add_right _ _) (upG_1 _ _ _) (upG_2 _ _ _)
theorem zb_M : zb tM mM := by
  have h := cX7_z (tD ++ [e0_X7]) 85 _ zb_M0
  rw [List.length_append, tD_len] at h
  exact h
def FX7 : List (Option (Option Nat)) := [none, some none, some none, some none, some none, none, some none, some none, some none, some none, some none, some none, some none, some none, some none, some none, some none, some none, some none, some none, some none, some none, some none, some none, some none, some none, some none, some none, some none, none, none, none, none, some none, some none, some none, some none, some none, some none, some none, some none, some none, some none, some none, some none, some none, some none, some none, none, none]
theorem DX7 (j : Nat) (hj : j < 50) : defaultValue (tyX7 j) = vp_V (FX7.map dv) j := by (match j, hj with | 0, _ => rfl | 1, _ => rfl | 2, _ => rfl | 3, _ => rfl | 4, _ => rfl | 5, _ => rfl | 6, _ => rfl | 7, _ => rfl | 8, _ => rfl | 9, _ => rfl | 10, _ => rfl | 11, _ => rfl | 12, _ => rfl | 13, _ => rfl | 14, _ => rfl | 15, _ => rfl | 16, _ => rfl | 17, _ => rfl | 18, _ => rfl | 19, _ => rfl | 20, _ => rfl | 21, _ => rfl | 22, _ => rfl | 23, _ => rfl | 24, _ => rfl | 25, _ => rfl | 26, _ => rfl | 27, _ => rfl | 28, _ => rfl | 29, _ => rfl | 30, _ => rfl | 31, _ => rfl | 32, _ => rfl | 33, _ => rfl | 34, _ => rfl | 35, _ => rfl | 36, _ => rfl | 37, _ => rfl | 38, _ => rfl | 39, _ => rfl | 40, _ => rfl | 41, _ => rfl | 42, _ => rfl | 43, _ => rfl | 44, _ => rfl | 45, _ => rfl | 46, _ => rfl | 47, _ => rfl | 48, _ => rfl | 49, _ => rfl | j + 50, hj => exact absurd hj (by omega))
theorem FX7_ok : ∀ f ∈ FX7, f = none ∨ f = some none := by
  intro f hf
  simp only [FX7, List.mem_cons, List.not_mem_nil, or_false] at hf
  revert hf
  cases f with
  | none => exact fun _ => Or.inl rfl
  | some a => cases a with
    | none => exact fun _ => Or.inr rfl
    | some b => intro h; exfalso; revert h; simp
theorem VC_of_V {G : GX} {M : MT} {pc : Nat} {lv : List (Option Value)} {st : List Value} {μ μ' : Mem} {o : Ou} {T : List Ent} (h : V (gw G T) M pc lv st μ o μ') : VC (gw G T) M pc lv st μ False o T μ' := ⟨h.1, fun p e R s m args below meth c H locs cells slots ls F hN hl hP hZ hS h1 h2 T9 hT9 X => by
  obtain ⟨t, a1, o9, b1, b2, hq⟩ := h.2 p e R s m args below meth c H locs cells slots ls F hl hP hS h1 h2 T9 hT9 X
  refine ⟨t, a1, o9, b1, b2, ?_⟩
  rcases hq with ⟨hq, hL⟩ | hq
  · exact Or.inl ⟨⟨hq, fun z => z.elim⟩, hL⟩
  · exact Or.inr hq⟩
set_option maxRecDepth 20000 in
theorem law_VC (G : GX) (μ' : Mem) (h : V (gw G tbl) mL_law 23 [some .null, some (.ref 0), some (.ref 85), some (.ref 128), some (.int 0), none, none, none] [] m0 (.inl (some (.int 1))) μ') : VC (gw G []) mL_law 0 [some .null, none, none, none, none, none, none, none] [] m00 False (.inl (some (.int 1))) tbl μ' := by
  refine VC_new (G := gw G []) (fs := [some none, some none, some none, some none, some none]) dL_law_0 k_X6 cl_RL_8 ii_X6 in_TallTowers (by decide) (fun j hj => by (match j, hj with | 0, _ => rfl | 1, _ => rfl | 2, _ => rfl | 3, _ => rfl | 4, _ => rfl | j + 5, hj => exact absurd hj (by omega))) rfl ?_
  change VC (gw G [e0_X6]) mL_law 3 [some .null, none, none, none, none, none, none, none] [.ref 0] (upG m00 1 5) False (.inl (some (.int 1))) tbl μ'
  refine VC_dup dL_law_3 rfl ?_
  have u1 : VMC (gw G [e0_X6]) mX6_init [.ref 0] (upG m00 1 5) tD mD := VMC_X6 (gw G [e0_X6]) 0 (upG m00 1 5) rfl zb_D0
  have t1 : tD.length = [e0_X6].length + (mD.2.2.1 - (upG m00 1 5).2.2.1) := by rw [tD_len, mD_c]; rfl
  refine VC_cI (T0 := [e0_X6]) (T := tD) dL_law_4 ok_mX6_init rfl rfl rfl im_X6 lk_RL_165 (by decide) (Nat.le_of_ble_eq_true rfl) (by decide) t1 u1 ?_
  change VC (gw G tD) mL_law 7 [some .null, none, none, none, none, none, none, none] [.ref 0] mD False (.inl (some (.int 1))) tbl μ'
  refine VC_astore_n (lv2 := [some .null, some (.ref 0), none, none, none, none, none, none]) dL_law_7 (by decide) rfl ?_
  have hz1 : mD.1 tD.length = fun _ => 0 := (zb_D _ (Nat.le_refl _)).1
  have q1 := VC_new (G := gw G tD) (M := mL_law) (pc := 8) (lv := [some .null, some (.ref 0), none, none, none, none, none, none]) (st := []) (μ := mD) (μ1 := μ') (ex := False) (o := .inl (some (.int 1))) (tb := tbl) (fs := FX7) dL_law_8 k_X7 cl_RL_166 ii_X7 in_TallTowersModel FX7_ok DX7 hz1
  rw [gt_gw, tD_len] at q1
  refine q1 ?_
  change VC (gw G (tD ++ [e0_X7])) mL_law 11 [some .null, some (.ref 0), none, none, none, none, none, none] [.ref 85] (upG mD 1 50) False (.inl (some (.int 1))) tbl μ'
  refine VC_dup dL_law_11 rfl ?_
  have w2 : (tD ++ [(e0_X7 : Ent)])[85]? = some e0_X7 := by rw [List.getElem?_append_right (Nat.le_of_eq tD_len), tD_len]; rfl
  have u2 := VMC_X7 (gw G (tD ++ [e0_X7])) 85 (upG mD 1 50) w2 zb_M0
  have e2 : (gt (gw G (tD ++ [e0_X7]))).length = 86 := by rw [gt_gw, List.length_append, tD_len]; rfl
  rw [e2] at u2
  have u2 : VMC (gw G (tD ++ [e0_X7])) mX7_init [.ref 85] (upG mD 1 50) tM mM := u2
  have t2 : tM.length = (tD ++ [e0_X7]).length + (mM.2.2.1 - (upG mD 1 50).2.2.1) := by rw [tM_len, mM_c, upG_3, mD_c, List.length_append, tD_len]; rfl
  refine VC_cI (T0 := tD ++ [e0_X7]) (T := tM) dL_law_12 ok_mX7_init rfl rfl rfl im_X7 lk_RL_168 (by decide) (Nat.le_of_ble_eq_true rfl) (by decide) t2 u2 ?_
  change VC (gw G tM) mL_law 15 [some .null, some (.ref 0), none, none, none, none, none, none] [.ref 85] mM False (.inl (some (.int 1))) tbl μ'
  refine VC_astore_n (lv2 := [some .null, some (.ref 0), some (.ref 85), none, none, none, none, none]) dL_law_15 (by decide) rfl ?_
  refine VC_iconst (v := 1) dL_law_16 rfl ?_
  have hz2 : mM.2.1 tM.length = fun _ => 0 := (zb_M _ (Nat.le_refl _)).2
  have q2 := VC_new_long (G := gw G tM) (M := mL_law) (pc := 17) (lv := [some .null, some (.ref 0), some (.ref 85), none, none, none, none, none]) (st := []) (μ := mM) (μ1 := μ') (ex := False) (o := .inl (some (.int 1))) (tb := tbl) (n := 1) (N := 1) dL_law_17 aw_long (by decide) (by decide) (by decide) hz2
  rw [gt_gw, tM_len] at q2
  refine q2 ?_
  change VC (gw G (tM ++ [.inl (1, 1)])) mL_law 19 [some .null, some (.ref 0), some (.ref 85), none, none, none, none, none] [.ref 128] m0 False (.inl (some (.int 1))) tbl μ'
  rw [tM_ok]
  refine VC_astore_n (lv2 := [some .null, some (.ref 0), some (.ref 85), some (.ref 128), none, none, none, none]) dL_law_19 (by decide) rfl ?_
  refine VC_iconst (v := 0) dL_law_20 rfl ?_
  refine VC_istore (lv2 := [some .null, some (.ref 0), some (.ref 85), some (.ref 128), some (.int 0), none, none, none]) dL_law_21 (by decide) rfl ?_
  exact VC_of_V h

