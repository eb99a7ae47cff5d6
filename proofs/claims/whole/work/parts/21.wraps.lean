def D_L_place_0 (fu : Nat)  (a1 : Int32) (a2 : Int32) (a3 : Int32) (a4 : Int32) (μ : Mem) : Option (Int32 × Mem) :=
  (D_X6_place_0 fu a1 a2 a3 a4 μ).bind fun x1 =>
  match x1.1 with
  | .inl v3 =>
    gu (ib 0 1) <|
    vl (wL x1.2 128 (Int32.toNatClampNeg 0) ((v3 : Int32).toInt64)) fun m5 =>
    some (0, m5)
  | .inr E =>
    if E = "java/lang/IllegalArgumentException" then
      some (1, x1.2)
    else
    if E = "java/lang/IllegalStateException" then
      some (2, x1.2)
    else
      none
set_option maxRecDepth 20000 in
theorem T_L_place_0 (G : GX) (fu : Nat)  (hG : gt G = tbl) : ∀ (a1 : Int32) (a2 : Int32) (a3 : Int32) (a4 : Int32) (μ : Mem) (r : (Int32 × Mem)) , D_L_place_0 fu a1 a2 a3 a4 μ = some r → V G mL_place 0 [some (.ref 0), some (.int a1), some (.int a2), some (.int a3), some (.int a4), some (.ref 128), none] [] μ (.inl (some (.int r.1))) (r.2) := by
  intro a1 a2 a3 a4 μ r h
  unfold D_L_place_0 at h
  refine V_aload dL_place_0 rfl ?_
  refine V_iconst (v := 0) dL_place_2 rfl ?_
  refine V_aload_n dL_place_3 rfl ?_
  refine V_iload_n dL_place_4 rfl ?_
  refine V_iload_n dL_place_5 rfl ?_
  refine V_iload_n dL_place_6 rfl ?_
  refine V_iload dL_place_7 rfl ?_
  obtain ⟨x1, y2, h⟩ := bi_o h
  have z := VM_X6_place G fu hG a1 a2 a3 a4 μ _ y2
  obtain ⟨u1, m1⟩ := x1
  dsimp only at z h
  cases u1 with
  | inl v3 =>
    dsimp only at h
    refine V_callV (as := [.int a1, .int a2, .int a3, .int a4]) (q := 0) (rest := [.int 0, .ref 128]) dL_place_9 ov_mX6_place lk_RL_7 (by decide) (by decide) rfl rfl (Nat.le_of_ble_eq_true rfl) (tq_0 hG) rfl (z) ?_
    refine V_i2l dL_place_12 ?_
    obtain ⟨g4, h⟩ := gu_o h
    obtain ⟨m5, e6, h⟩ := vl_o h
    refine V_lastore (μ2 := m5) dL_place_13 (tq_128 hG) (ib_in g4) e6.symm ?_
    refine V_goto (tgt := 25) dL_place_14 (by decide) ?_
    refine V_iconst (v := 0) dL_place_25 rfl ?_
    cases h
    exact V_iret rfl dL_place_26
  | inr E =>
    dsimp only at h
    by_cases hE0 : E = "java/lang/IllegalArgumentException"
    · rw [if_pos hE0] at h
      subst hE0
      refine V_callVH (as := [.int a1, .int a2, .int a3, .int a4]) (q := 0) (rest := [.int 0, .ref 128]) [] [(0, 14, 21, 15)] dL_place_9 rfl (fun _ h9 => absurd h9 List.not_mem_nil) (by decide) (by decide) cl_RL_13 (by decide +kernel) ov_mX6_place lk_RL_7 (by decide) (by decide) rfl rfl (Nat.le_of_ble_eq_true rfl) (tq_0 hG) rfl z (fun a => ?_)
      refine V_astoreR (lv2 := [some (.ref 0), some (.int a1), some (.int a2), some (.int a3), some (.int a4), some (.ref 128), some (.retAddr a)]) dL_place_17 (by decide) rfl ?_
      refine V_iconst (v := 1) dL_place_19 rfl ?_
      cases h
      exact V_iret rfl dL_place_20
    · rw [if_neg hE0] at h
      by_cases hE1 : E = "java/lang/IllegalStateException"
      · rw [if_pos hE1] at h
        subst hE1
        refine V_callVH (as := [.int a1, .int a2, .int a3, .int a4]) (q := 0) (rest := [.int 0, .ref 128]) [(0, 14, 17, 13)] [] dL_place_9 rfl (List.forall_mem_cons.mpr ⟨⟨by decide, "java/lang/IllegalArgumentException", cl_RL_13, by decide +kernel⟩, (fun _ h9 => absurd h9 List.not_mem_nil)⟩) (by decide) (by decide) cl_RL_15 (by decide +kernel) ov_mX6_place lk_RL_7 (by decide) (by decide) rfl rfl (Nat.le_of_ble_eq_true rfl) (tq_0 hG) rfl z (fun a => ?_)
        refine V_astoreR (lv2 := [some (.ref 0), some (.int a1), some (.int a2), some (.int a3), some (.int a4), some (.ref 128), some (.retAddr a)]) dL_place_21 (by decide) rfl ?_
        refine V_iconst (v := 2) dL_place_23 rfl ?_
        cases h
        exact V_iret rfl dL_place_24
      · rw [if_neg hE1] at h
        cases h
theorem VM_L_place (G : GX) (fu : Nat)  (hG : gt G = tbl) (a1 : Int32) (a2 : Int32) (a3 : Int32) (a4 : Int32) (μ : Mem) (r : (Int32 × Mem)) (h : D_L_place_0 fu a1 a2 a3 a4 μ = some r) : VM G mL_place [.ref 0, .int a1, .int a2, .int a3, .int a4, .ref 128] μ (.inl (some (.int r.1))) (r.2) := V_entryH ok_mL_place rfl rfl (Nat.le_of_ble_eq_true rfl) (T_L_place_0 G fu hG a1 a2 a3 a4 μ r h)
def D_L_sign_0 (fu : Nat)  (a1 : Int32) (a2 : Int32) (a3 : Int32) (μ : Mem) : Option (Int32 × Mem) :=
  (D_X6_sign_0 fu a1 a2 a3 μ).bind fun x1 =>
  match x1.1 with
  | .inl v3 =>
    gu (ib 0 1) <|
    vl (wL x1.2 128 (Int32.toNatClampNeg 0) ((v3 : Int32).toInt64)) fun m5 =>
    some (0, m5)
  | .inr E =>
    if E = "java/util/NoSuchElementException" then
      some (1, x1.2)
    else
    if E = "java/lang/IllegalArgumentException" then
      some (2, x1.2)
    else
    if E = "java/lang/IllegalStateException" then
      some (3, x1.2)
    else
      none
set_option maxRecDepth 20000 in
theorem T_L_sign_0 (G : GX) (fu : Nat)  (hG : gt G = tbl) : ∀ (a1 : Int32) (a2 : Int32) (a3 : Int32) (μ : Mem) (r : (Int32 × Mem)) , D_L_sign_0 fu a1 a2 a3 μ = some r → V G mL_sign 0 [some (.ref 0), some (.int a1), some (.int a2), some (.int a3), some (.ref 128), none] [] μ (.inl (some (.int r.1))) (r.2) := by
  intro a1 a2 a3 μ r h
  unfold D_L_sign_0 at h
  refine V_aload dL_sign_0 rfl ?_
  refine V_iconst (v := 0) dL_sign_2 rfl ?_
  refine V_aload_n dL_sign_3 rfl ?_
  refine V_iload_n dL_sign_4 rfl ?_
  refine V_iload_n dL_sign_5 rfl ?_
  refine V_iload_n dL_sign_6 rfl ?_
  obtain ⟨x1, y2, h⟩ := bi_o h
  have z := VM_X6_sign G fu hG a1 a2 a3 μ _ y2
  obtain ⟨u1, m1⟩ := x1
  dsimp only at z h
  cases u1 with
  | inl v3 =>
    dsimp only at h
    refine V_callV (as := [.int a1, .int a2, .int a3]) (q := 0) (rest := [.int 0, .ref 128]) dL_sign_7 ov_mX6_sign lk_RL_17 (by decide) (by decide) rfl rfl (Nat.le_of_ble_eq_true rfl) (tq_0 hG) rfl (z) ?_
    refine V_i2l dL_sign_10 ?_
    obtain ⟨g4, h⟩ := gu_o h
    obtain ⟨m5, e6, h⟩ := vl_o h
    refine V_lastore (μ2 := m5) dL_sign_11 (tq_128 hG) (ib_in g4) e6.symm ?_
    refine V_goto (tgt := 27) dL_sign_12 (by decide) ?_
    refine V_iconst (v := 0) dL_sign_27 rfl ?_
    cases h
    exact V_iret rfl dL_sign_28
  | inr E =>
    dsimp only at h
    by_cases hE0 : E = "java/util/NoSuchElementException"
    · rw [if_pos hE0] at h
      subst hE0
      refine V_callVH (as := [.int a1, .int a2, .int a3]) (q := 0) (rest := [.int 0, .ref 128]) [] [(0, 12, 19, 13), (0, 12, 23, 15)] dL_sign_7 rfl (fun _ h9 => absurd h9 List.not_mem_nil) (by decide) (by decide) cl_RL_21 (by decide +kernel) ov_mX6_sign lk_RL_17 (by decide) (by decide) rfl rfl (Nat.le_of_ble_eq_true rfl) (tq_0 hG) rfl z (fun a => ?_)
      refine V_astoreR (lv2 := [some (.ref 0), some (.int a1), some (.int a2), some (.int a3), some (.ref 128), some (.retAddr a)]) dL_sign_15 (by decide) rfl ?_
      refine V_iconst (v := 1) dL_sign_17 rfl ?_
      cases h
      exact V_iret rfl dL_sign_18
    · rw [if_neg hE0] at h
      by_cases hE1 : E = "java/lang/IllegalArgumentException"
      · rw [if_pos hE1] at h
        subst hE1
        refine V_callVH (as := [.int a1, .int a2, .int a3]) (q := 0) (rest := [.int 0, .ref 128]) [(0, 12, 15, 21)] [(0, 12, 23, 15)] dL_sign_7 rfl (List.forall_mem_cons.mpr ⟨⟨by decide, "java/util/NoSuchElementException", cl_RL_21, by decide +kernel⟩, (fun _ h9 => absurd h9 List.not_mem_nil)⟩) (by decide) (by decide) cl_RL_13 (by decide +kernel) ov_mX6_sign lk_RL_17 (by decide) (by decide) rfl rfl (Nat.le_of_ble_eq_true rfl) (tq_0 hG) rfl z (fun a => ?_)
        refine V_astoreR (lv2 := [some (.ref 0), some (.int a1), some (.int a2), some (.int a3), some (.ref 128), some (.retAddr a)]) dL_sign_19 (by decide) rfl ?_
        refine V_iconst (v := 2) dL_sign_21 rfl ?_
        cases h
        exact V_iret rfl dL_sign_22
      · rw [if_neg hE1] at h
        by_cases hE2 : E = "java/lang/IllegalStateException"
        · rw [if_pos hE2] at h
          subst hE2
          refine V_callVH (as := [.int a1, .int a2, .int a3]) (q := 0) (rest := [.int 0, .ref 128]) [(0, 12, 15, 21), (0, 12, 19, 13)] [] dL_sign_7 rfl (List.forall_mem_cons.mpr ⟨⟨by decide, "java/util/NoSuchElementException", cl_RL_21, by decide +kernel⟩, (List.forall_mem_cons.mpr ⟨⟨by decide, "java/lang/IllegalArgumentException", cl_RL_13, by decide +kernel⟩, (fun _ h9 => absurd h9 List.not_mem_nil)⟩)⟩) (by decide) (by decide) cl_RL_15 (by decide +kernel) ov_mX6_sign lk_RL_17 (by decide) (by decide) rfl rfl (Nat.le_of_ble_eq_true rfl) (tq_0 hG) rfl z (fun a => ?_)
          refine V_astoreR (lv2 := [some (.ref 0), some (.int a1), some (.int a2), some (.int a3), some (.ref 128), some (.retAddr a)]) dL_sign_23 (by decide) rfl ?_
          refine V_iconst (v := 3) dL_sign_25 rfl ?_
          cases h
          exact V_iret rfl dL_sign_26
        · rw [if_neg hE2] at h
          cases h
theorem VM_L_sign (G : GX) (fu : Nat)  (hG : gt G = tbl) (a1 : Int32) (a2 : Int32) (a3 : Int32) (μ : Mem) (r : (Int32 × Mem)) (h : D_L_sign_0 fu a1 a2 a3 μ = some r) : VM G mL_sign [.ref 0, .int a1, .int a2, .int a3, .ref 128] μ (.inl (some (.int r.1))) (r.2) := V_entryH ok_mL_sign rfl rfl (Nat.le_of_ble_eq_true rfl) (T_L_sign_0 G fu hG a1 a2 a3 μ r h)
def D_L_lack_0 (fu : Nat)  (a1 : Int32) (μ : Mem) : Option (Int32 × Mem) :=
  (D_X6_lack_0 fu a1 μ).bind fun x1 =>
  match x1.1 with
  | .inl v3 =>
    gu (ib 0 1) <|
    vl (wL x1.2 128 (Int32.toNatClampNeg 0) ((v3 : Int32).toInt64)) fun m5 =>
    some (0, m5)
  | .inr E =>
    if E = "java/lang/IllegalArgumentException" then
      some (1, x1.2)
    else
    if E = "java/lang/IllegalStateException" then
      some (2, x1.2)
    else
      none
set_option maxRecDepth 20000 in
theorem T_L_lack_0 (G : GX) (fu : Nat)  (hG : gt G = tbl) : ∀ (a1 : Int32) (μ : Mem) (r : (Int32 × Mem)) , D_L_lack_0 fu a1 μ = some r → V G mL_lack 0 [some (.ref 0), some (.int a1), some (.ref 128), none] [] μ (.inl (some (.int r.1))) (r.2) := by
  intro a1 μ r h
  unfold D_L_lack_0 at h
  refine V_aload_n dL_lack_0 rfl ?_
  refine V_iconst (v := 0) dL_lack_1 rfl ?_
  refine V_aload_n dL_lack_2 rfl ?_
  refine V_iload_n dL_lack_3 rfl ?_
  obtain ⟨x1, y2, h⟩ := bi_o h
  have z := VM_X6_lack G fu hG a1 μ _ y2
  obtain ⟨u1, m1⟩ := x1
  dsimp only at z h
  cases u1 with
  | inl v3 =>
    dsimp only at h
    refine V_callV (as := [.int a1]) (q := 0) (rest := [.int 0, .ref 128]) dL_lack_4 ov_mX6_lack lk_RL_23 (by decide) (by decide) rfl rfl (Nat.le_of_ble_eq_true rfl) (tq_0 hG) rfl (z) ?_
    refine V_i2l dL_lack_7 ?_
    obtain ⟨g4, h⟩ := gu_o h
    obtain ⟨m5, e6, h⟩ := vl_o h
    refine V_lastore (μ2 := m5) dL_lack_8 (tq_128 hG) (ib_in g4) e6.symm ?_
    refine V_goto (tgt := 18) dL_lack_9 (by decide) ?_
    refine V_iconst (v := 0) dL_lack_18 rfl ?_
    cases h
    exact V_iret rfl dL_lack_19
  | inr E =>
    dsimp only at h
    by_cases hE0 : E = "java/lang/IllegalArgumentException"
    · rw [if_pos hE0] at h
      subst hE0
      refine V_callVH (as := [.int a1]) (q := 0) (rest := [.int 0, .ref 128]) [] [(0, 9, 15, 15)] dL_lack_4 rfl (fun _ h9 => absurd h9 List.not_mem_nil) (by decide) (by decide) cl_RL_13 (by decide +kernel) ov_mX6_lack lk_RL_23 (by decide) (by decide) rfl rfl (Nat.le_of_ble_eq_true rfl) (tq_0 hG) rfl z (fun a => ?_)
      refine V_astoreR_n (lv2 := [some (.ref 0), some (.int a1), some (.ref 128), some (.retAddr a)]) dL_lack_12 (by decide) rfl ?_
      refine V_iconst (v := 1) dL_lack_13 rfl ?_
      cases h
      exact V_iret rfl dL_lack_14
    · rw [if_neg hE0] at h
      by_cases hE1 : E = "java/lang/IllegalStateException"
      · rw [if_pos hE1] at h
        subst hE1
        refine V_callVH (as := [.int a1]) (q := 0) (rest := [.int 0, .ref 128]) [(0, 9, 12, 13)] [] dL_lack_4 rfl (List.forall_mem_cons.mpr ⟨⟨by decide, "java/lang/IllegalArgumentException", cl_RL_13, by decide +kernel⟩, (fun _ h9 => absurd h9 List.not_mem_nil)⟩) (by decide) (by decide) cl_RL_15 (by decide +kernel) ov_mX6_lack lk_RL_23 (by decide) (by decide) rfl rfl (Nat.le_of_ble_eq_true rfl) (tq_0 hG) rfl z (fun a => ?_)
        refine V_astoreR_n (lv2 := [some (.ref 0), some (.int a1), some (.ref 128), some (.retAddr a)]) dL_lack_15 (by decide) rfl ?_
        refine V_iconst (v := 2) dL_lack_16 rfl ?_
        cases h
        exact V_iret rfl dL_lack_17
      · rw [if_neg hE1] at h
        cases h
theorem VM_L_lack (G : GX) (fu : Nat)  (hG : gt G = tbl) (a1 : Int32) (μ : Mem) (r : (Int32 × Mem)) (h : D_L_lack_0 fu a1 μ = some r) : VM G mL_lack [.ref 0, .int a1, .ref 128] μ (.inl (some (.int r.1))) (r.2) := V_entryH ok_mL_lack rfl rfl (Nat.le_of_ble_eq_true rfl) (T_L_lack_0 G fu hG a1 μ r h)
def D_L_rules_0 (fu : Nat)  (a1 : Int32) (a2 : Int32) (a3 : Int32) (μ : Mem) : Option (Int32 × Mem) :=
  (D_X6_rules_0 fu a1 a2 a3 μ).bind fun x1 =>
  match x1.1 with
  | .inl v3 =>
    gu (ib 0 1) <|
    vl (wL x1.2 128 (Int32.toNatClampNeg 0) ((v3 : Int32).toInt64)) fun m5 =>
    some (0, m5)
  | .inr E =>
    if E = "java/lang/IllegalArgumentException" then
      some (1, x1.2)
    else
    if E = "java/lang/IllegalStateException" then
      some (2, x1.2)
    else
      none
set_option maxRecDepth 20000 in
theorem T_L_rules_0 (G : GX) (fu : Nat)  (hG : gt G = tbl) : ∀ (a1 : Int32) (a2 : Int32) (a3 : Int32) (μ : Mem) (r : (Int32 × Mem)) , D_L_rules_0 fu a1 a2 a3 μ = some r → V G mL_rules 0 [some (.ref 0), some (.int a1), some (.int a2), some (.int a3), some (.ref 128), none] [] μ (.inl (some (.int r.1))) (r.2) := by
  intro a1 a2 a3 μ r h
  unfold D_L_rules_0 at h
  refine V_aload dL_rules_0 rfl ?_
  refine V_iconst (v := 0) dL_rules_2 rfl ?_
  refine V_aload_n dL_rules_3 rfl ?_
  refine V_iload_n dL_rules_4 rfl ?_
  refine V_iload_n dL_rules_5 rfl ?_
  refine V_iload_n dL_rules_6 rfl ?_
  obtain ⟨x1, y2, h⟩ := bi_o h
  have z := VM_X6_rules G fu hG a1 a2 a3 μ _ y2
  obtain ⟨u1, m1⟩ := x1
  dsimp only at z h
  cases u1 with
  | inl v3 =>
    dsimp only at h
    refine V_callV (as := [.int a1, .int a2, .int a3]) (q := 0) (rest := [.int 0, .ref 128]) dL_rules_7 ov_mX6_rules lk_RL_27 (by decide) (by decide) rfl rfl (Nat.le_of_ble_eq_true rfl) (tq_0 hG) rfl (z) ?_
    refine V_i2l dL_rules_10 ?_
    obtain ⟨g4, h⟩ := gu_o h
    obtain ⟨m5, e6, h⟩ := vl_o h
    refine V_lastore (μ2 := m5) dL_rules_11 (tq_128 hG) (ib_in g4) e6.symm ?_
    refine V_goto (tgt := 23) dL_rules_12 (by decide) ?_
    refine V_iconst (v := 0) dL_rules_23 rfl ?_
    cases h
    exact V_iret rfl dL_rules_24
  | inr E =>
    dsimp only at h
    by_cases hE0 : E = "java/lang/IllegalArgumentException"
    · rw [if_pos hE0] at h
      subst hE0
      refine V_callVH (as := [.int a1, .int a2, .int a3]) (q := 0) (rest := [.int 0, .ref 128]) [] [(0, 12, 19, 15)] dL_rules_7 rfl (fun _ h9 => absurd h9 List.not_mem_nil) (by decide) (by decide) cl_RL_13 (by decide +kernel) ov_mX6_rules lk_RL_27 (by decide) (by decide) rfl rfl (Nat.le_of_ble_eq_true rfl) (tq_0 hG) rfl z (fun a => ?_)
      refine V_astoreR (lv2 := [some (.ref 0), some (.int a1), some (.int a2), some (.int a3), some (.ref 128), some (.retAddr a)]) dL_rules_15 (by decide) rfl ?_
      refine V_iconst (v := 1) dL_rules_17 rfl ?_
      cases h
      exact V_iret rfl dL_rules_18
    · rw [if_neg hE0] at h
      by_cases hE1 : E = "java/lang/IllegalStateException"
      · rw [if_pos hE1] at h
        subst hE1
        refine V_callVH (as := [.int a1, .int a2, .int a3]) (q := 0) (rest := [.int 0, .ref 128]) [(0, 12, 15, 13)] [] dL_rules_7 rfl (List.forall_mem_cons.mpr ⟨⟨by decide, "java/lang/IllegalArgumentException", cl_RL_13, by decide +kernel⟩, (fun _ h9 => absurd h9 List.not_mem_nil)⟩) (by decide) (by decide) cl_RL_15 (by decide +kernel) ov_mX6_rules lk_RL_27 (by decide) (by decide) rfl rfl (Nat.le_of_ble_eq_true rfl) (tq_0 hG) rfl z (fun a => ?_)
        refine V_astoreR (lv2 := [some (.ref 0), some (.int a1), some (.int a2), some (.int a3), some (.ref 128), some (.retAddr a)]) dL_rules_19 (by decide) rfl ?_
        refine V_iconst (v := 2) dL_rules_21 rfl ?_
        cases h
        exact V_iret rfl dL_rules_22
      · rw [if_neg hE1] at h
        cases h
theorem VM_L_rules (G : GX) (fu : Nat)  (hG : gt G = tbl) (a1 : Int32) (a2 : Int32) (a3 : Int32) (μ : Mem) (r : (Int32 × Mem)) (h : D_L_rules_0 fu a1 a2 a3 μ = some r) : VM G mL_rules [.ref 0, .int a1, .int a2, .int a3, .ref 128] μ (.inl (some (.int r.1))) (r.2) := V_entryH ok_mL_rules rfl rfl (Nat.le_of_ble_eq_true rfl) (T_L_rules_0 G fu hG a1 a2 a3 μ r h)
def D_L_harm_0 (fu : Nat)  (a1 : Int32) (a2 : Int32) (a3 : Int32) (a4 : Int32) (μ : Mem) : Option (Int32 × Mem) :=
  (D_X6_harm_0 fu a1 a2 a3 a4 μ).bind fun x1 =>
  match x1.1 with
  | .inl v3 =>
    gu (ib 0 1) <|
    vl (wL x1.2 128 (Int32.toNatClampNeg 0) ((v3 : Int32).toInt64)) fun m5 =>
    some (0, m5)
  | .inr E =>
    if E = "java/lang/IllegalArgumentException" then
      some (1, x1.2)
    else
    if E = "java/lang/IllegalStateException" then
      some (2, x1.2)
    else
      none
set_option maxRecDepth 20000 in
theorem T_L_harm_0 (G : GX) (fu : Nat)  (hG : gt G = tbl) : ∀ (a1 : Int32) (a2 : Int32) (a3 : Int32) (a4 : Int32) (μ : Mem) (r : (Int32 × Mem)) , D_L_harm_0 fu a1 a2 a3 a4 μ = some r → V G mL_harm 0 [some (.ref 0), some (.int a1), some (.int a2), some (.int a3), some (.int a4), some (.ref 128), none] [] μ (.inl (some (.int r.1))) (r.2) := by
  intro a1 a2 a3 a4 μ r h
  unfold D_L_harm_0 at h
  refine V_aload dL_harm_0 rfl ?_
  refine V_iconst (v := 0) dL_harm_2 rfl ?_
  refine V_aload_n dL_harm_3 rfl ?_
  refine V_iload_n dL_harm_4 rfl ?_
  refine V_iload_n dL_harm_5 rfl ?_
  refine V_iload_n dL_harm_6 rfl ?_
  refine V_iload dL_harm_7 rfl ?_
  obtain ⟨x1, y2, h⟩ := bi_o h
  have z := VM_X6_harm G fu hG a1 a2 a3 a4 μ _ y2
  obtain ⟨u1, m1⟩ := x1
  dsimp only at z h
  cases u1 with
  | inl v3 =>
    dsimp only at h
    refine V_callV (as := [.int a1, .int a2, .int a3, .int a4]) (q := 0) (rest := [.int 0, .ref 128]) dL_harm_9 ov_mX6_harm lk_RL_30 (by decide) (by decide) rfl rfl (Nat.le_of_ble_eq_true rfl) (tq_0 hG) rfl (z) ?_
    refine V_i2l dL_harm_12 ?_
    obtain ⟨g4, h⟩ := gu_o h
    obtain ⟨m5, e6, h⟩ := vl_o h
    refine V_lastore (μ2 := m5) dL_harm_13 (tq_128 hG) (ib_in g4) e6.symm ?_
    refine V_goto (tgt := 25) dL_harm_14 (by decide) ?_
    refine V_iconst (v := 0) dL_harm_25 rfl ?_
    cases h
    exact V_iret rfl dL_harm_26
  | inr E =>
    dsimp only at h
    by_cases hE0 : E = "java/lang/IllegalArgumentException"
    · rw [if_pos hE0] at h
      subst hE0
      refine V_callVH (as := [.int a1, .int a2, .int a3, .int a4]) (q := 0) (rest := [.int 0, .ref 128]) [] [(0, 14, 21, 15)] dL_harm_9 rfl (fun _ h9 => absurd h9 List.not_mem_nil) (by decide) (by decide) cl_RL_13 (by decide +kernel) ov_mX6_harm lk_RL_30 (by decide) (by decide) rfl rfl (Nat.le_of_ble_eq_true rfl) (tq_0 hG) rfl z (fun a => ?_)
      refine V_astoreR (lv2 := [some (.ref 0), some (.int a1), some (.int a2), some (.int a3), some (.int a4), some (.ref 128), some (.retAddr a)]) dL_harm_17 (by decide) rfl ?_
      refine V_iconst (v := 1) dL_harm_19 rfl ?_
      cases h
      exact V_iret rfl dL_harm_20
    · rw [if_neg hE0] at h
      by_cases hE1 : E = "java/lang/IllegalStateException"
      · rw [if_pos hE1] at h
        subst hE1
        refine V_callVH (as := [.int a1, .int a2, .int a3, .int a4]) (q := 0) (rest := [.int 0, .ref 128]) [(0, 14, 17, 13)] [] dL_harm_9 rfl (List.forall_mem_cons.mpr ⟨⟨by decide, "java/lang/IllegalArgumentException", cl_RL_13, by decide +kernel⟩, (fun _ h9 => absurd h9 List.not_mem_nil)⟩) (by decide) (by decide) cl_RL_15 (by decide +kernel) ov_mX6_harm lk_RL_30 (by decide) (by decide) rfl rfl (Nat.le_of_ble_eq_true rfl) (tq_0 hG) rfl z (fun a => ?_)
        refine V_astoreR (lv2 := [some (.ref 0), some (.int a1), some (.int a2), some (.int a3), some (.int a4), some (.ref 128), some (.retAddr a)]) dL_harm_21 (by decide) rfl ?_
        refine V_iconst (v := 2) dL_harm_23 rfl ?_
        cases h
        exact V_iret rfl dL_harm_24
      · rw [if_neg hE1] at h
        cases h
theorem VM_L_harm (G : GX) (fu : Nat)  (hG : gt G = tbl) (a1 : Int32) (a2 : Int32) (a3 : Int32) (a4 : Int32) (μ : Mem) (r : (Int32 × Mem)) (h : D_L_harm_0 fu a1 a2 a3 a4 μ = some r) : VM G mL_harm [.ref 0, .int a1, .int a2, .int a3, .int a4, .ref 128] μ (.inl (some (.int r.1))) (r.2) := V_entryH ok_mL_harm rfl rfl (Nat.le_of_ble_eq_true rfl) (T_L_harm_0 G fu hG a1 a2 a3 a4 μ r h)
def D_L_grow_0 (fu : Nat)  (a1 : Int32) (a2 : Int32) (μ : Mem) : Option (Int32 × Mem) :=
  (D_X6_grow_0 fu a1 a2 μ).bind fun x1 =>
  match x1.1 with
  | .inl v3 =>
    gu (ib 0 1) <|
    vl (wL x1.2 128 (Int32.toNatClampNeg 0) v3) fun m5 =>
    some (0, m5)
  | .inr E =>
    if E = "java/util/NoSuchElementException" then
      some (1, x1.2)
    else
    if E = "java/lang/IllegalArgumentException" then
      some (2, x1.2)
    else
    if E = "java/lang/IllegalStateException" then
      some (3, x1.2)
    else
      none
set_option maxRecDepth 20000 in
theorem T_L_grow_0 (G : GX) (fu : Nat)  (hG : gt G = tbl) : ∀ (a1 : Int32) (a2 : Int32) (μ : Mem) (r : (Int32 × Mem)) , D_L_grow_0 fu a1 a2 μ = some r → V G mL_grow 0 [some (.ref 0), some (.int a1), some (.int a2), some (.ref 128), none] [] μ (.inl (some (.int r.1))) (r.2) := by
  intro a1 a2 μ r h
  unfold D_L_grow_0 at h
  refine V_aload_n dL_grow_0 rfl ?_
  refine V_iconst (v := 0) dL_grow_1 rfl ?_
  refine V_aload_n dL_grow_2 rfl ?_
  refine V_iload_n dL_grow_3 rfl ?_
  refine V_iload_n dL_grow_4 rfl ?_
  obtain ⟨x1, y2, h⟩ := bi_o h
  have z := VM_X6_grow G fu hG a1 a2 μ _ y2
  obtain ⟨u1, m1⟩ := x1
  dsimp only at z h
  cases u1 with
  | inl v3 =>
    dsimp only at h
    refine V_callV (as := [.int a1, .int a2]) (q := 0) (rest := [.int 0, .ref 128]) dL_grow_5 ov_mX6_grow lk_RL_33 (by decide) (by decide) rfl rfl (Nat.le_of_ble_eq_true rfl) (tq_0 hG) rfl (z) ?_
    obtain ⟨g4, h⟩ := gu_o h
    obtain ⟨m5, e6, h⟩ := vl_o h
    refine V_lastore (μ2 := m5) dL_grow_8 (tq_128 hG) (ib_in g4) e6.symm ?_
    refine V_goto (tgt := 24) dL_grow_9 (by decide) ?_
    refine V_iconst (v := 0) dL_grow_24 rfl ?_
    cases h
    exact V_iret rfl dL_grow_25
  | inr E =>
    dsimp only at h
    by_cases hE0 : E = "java/util/NoSuchElementException"
    · rw [if_pos hE0] at h
      subst hE0
      refine V_callVH (as := [.int a1, .int a2]) (q := 0) (rest := [.int 0, .ref 128]) [] [(0, 9, 16, 13), (0, 9, 20, 15)] dL_grow_5 rfl (fun _ h9 => absurd h9 List.not_mem_nil) (by decide) (by decide) cl_RL_21 (by decide +kernel) ov_mX6_grow lk_RL_33 (by decide) (by decide) rfl rfl (Nat.le_of_ble_eq_true rfl) (tq_0 hG) rfl z (fun a => ?_)
      refine V_astoreR (lv2 := [some (.ref 0), some (.int a1), some (.int a2), some (.ref 128), some (.retAddr a)]) dL_grow_12 (by decide) rfl ?_
      refine V_iconst (v := 1) dL_grow_14 rfl ?_
      cases h
      exact V_iret rfl dL_grow_15
    · rw [if_neg hE0] at h
      by_cases hE1 : E = "java/lang/IllegalArgumentException"
      · rw [if_pos hE1] at h
        subst hE1
        refine V_callVH (as := [.int a1, .int a2]) (q := 0) (rest := [.int 0, .ref 128]) [(0, 9, 12, 21)] [(0, 9, 20, 15)] dL_grow_5 rfl (List.forall_mem_cons.mpr ⟨⟨by decide, "java/util/NoSuchElementException", cl_RL_21, by decide +kernel⟩, (fun _ h9 => absurd h9 List.not_mem_nil)⟩) (by decide) (by decide) cl_RL_13 (by decide +kernel) ov_mX6_grow lk_RL_33 (by decide) (by decide) rfl rfl (Nat.le_of_ble_eq_true rfl) (tq_0 hG) rfl z (fun a => ?_)
        refine V_astoreR (lv2 := [some (.ref 0), some (.int a1), some (.int a2), some (.ref 128), some (.retAddr a)]) dL_grow_16 (by decide) rfl ?_
        refine V_iconst (v := 2) dL_grow_18 rfl ?_
        cases h
        exact V_iret rfl dL_grow_19
      · rw [if_neg hE1] at h
        by_cases hE2 : E = "java/lang/IllegalStateException"
        · rw [if_pos hE2] at h
          subst hE2
          refine V_callVH (as := [.int a1, .int a2]) (q := 0) (rest := [.int 0, .ref 128]) [(0, 9, 12, 21), (0, 9, 16, 13)] [] dL_grow_5 rfl (List.forall_mem_cons.mpr ⟨⟨by decide, "java/util/NoSuchElementException", cl_RL_21, by decide +kernel⟩, (List.forall_mem_cons.mpr ⟨⟨by decide, "java/lang/IllegalArgumentException", cl_RL_13, by decide +kernel⟩, (fun _ h9 => absurd h9 List.not_mem_nil)⟩)⟩) (by decide) (by decide) cl_RL_15 (by decide +kernel) ov_mX6_grow lk_RL_33 (by decide) (by decide) rfl rfl (Nat.le_of_ble_eq_true rfl) (tq_0 hG) rfl z (fun a => ?_)
          refine V_astoreR (lv2 := [some (.ref 0), some (.int a1), some (.int a2), some (.ref 128), some (.retAddr a)]) dL_grow_20 (by decide) rfl ?_
          refine V_iconst (v := 3) dL_grow_22 rfl ?_
          cases h
          exact V_iret rfl dL_grow_23
        · rw [if_neg hE2] at h
          cases h
theorem VM_L_grow (G : GX) (fu : Nat)  (hG : gt G = tbl) (a1 : Int32) (a2 : Int32) (μ : Mem) (r : (Int32 × Mem)) (h : D_L_grow_0 fu a1 a2 μ = some r) : VM G mL_grow [.ref 0, .int a1, .int a2, .ref 128] μ (.inl (some (.int r.1))) (r.2) := V_entryH ok_mL_grow rfl rfl (Nat.le_of_ble_eq_true rfl) (T_L_grow_0 G fu hG a1 a2 μ r h)
def D_L_settle_0 (fu : Nat)  (a1 : Int32) (a2 : Int32) (μ : Mem) : Option (Int32 × Mem) :=
  (D_X6_settle_0 fu a1 a2 μ).bind fun x1 =>
  match x1.1 with
  | .inl v3 =>
    gu (ib 0 1) <|
    vl (wL x1.2 128 (Int32.toNatClampNeg 0) ((v3 : Int32).toInt64)) fun m5 =>
    some (0, m5)
  | .inr E =>
    if E = "java/lang/IllegalArgumentException" then
      some (1, x1.2)
    else
    if E = "java/lang/IllegalStateException" then
      some (2, x1.2)
    else
      none
set_option maxRecDepth 20000 in
theorem T_L_settle_0 (G : GX) (fu : Nat)  (hG : gt G = tbl) : ∀ (a1 : Int32) (a2 : Int32) (μ : Mem) (r : (Int32 × Mem)) , D_L_settle_0 fu a1 a2 μ = some r → V G mL_settle 0 [some (.ref 0), some (.int a1), some (.int a2), some (.ref 128), none] [] μ (.inl (some (.int r.1))) (r.2) := by
  intro a1 a2 μ r h
  unfold D_L_settle_0 at h
  refine V_aload_n dL_settle_0 rfl ?_
  refine V_iconst (v := 0) dL_settle_1 rfl ?_
  refine V_aload_n dL_settle_2 rfl ?_
  refine V_iload_n dL_settle_3 rfl ?_
  refine V_iload_n dL_settle_4 rfl ?_
  obtain ⟨x1, y2, h⟩ := bi_o h
  have z := VM_X6_settle G fu hG a1 a2 μ _ y2
  obtain ⟨u1, m1⟩ := x1
  dsimp only at z h
  cases u1 with
  | inl v3 =>
    dsimp only at h
    refine V_callV (as := [.int a1, .int a2]) (q := 0) (rest := [.int 0, .ref 128]) dL_settle_5 ov_mX6_settle lk_RL_37 (by decide) (by decide) rfl rfl (Nat.le_of_ble_eq_true rfl) (tq_0 hG) rfl (z) ?_
    refine V_i2l dL_settle_8 ?_
    obtain ⟨g4, h⟩ := gu_o h
    obtain ⟨m5, e6, h⟩ := vl_o h
    refine V_lastore (μ2 := m5) dL_settle_9 (tq_128 hG) (ib_in g4) e6.symm ?_
    refine V_goto (tgt := 21) dL_settle_10 (by decide) ?_
    refine V_iconst (v := 0) dL_settle_21 rfl ?_
    cases h
    exact V_iret rfl dL_settle_22
  | inr E =>
    dsimp only at h
    by_cases hE0 : E = "java/lang/IllegalArgumentException"
    · rw [if_pos hE0] at h
      subst hE0
      refine V_callVH (as := [.int a1, .int a2]) (q := 0) (rest := [.int 0, .ref 128]) [] [(0, 10, 17, 15)] dL_settle_5 rfl (fun _ h9 => absurd h9 List.not_mem_nil) (by decide) (by decide) cl_RL_13 (by decide +kernel) ov_mX6_settle lk_RL_37 (by decide) (by decide) rfl rfl (Nat.le_of_ble_eq_true rfl) (tq_0 hG) rfl z (fun a => ?_)
      refine V_astoreR (lv2 := [some (.ref 0), some (.int a1), some (.int a2), some (.ref 128), some (.retAddr a)]) dL_settle_13 (by decide) rfl ?_
      refine V_iconst (v := 1) dL_settle_15 rfl ?_
      cases h
      exact V_iret rfl dL_settle_16
    · rw [if_neg hE0] at h
      by_cases hE1 : E = "java/lang/IllegalStateException"
      · rw [if_pos hE1] at h
        subst hE1
        refine V_callVH (as := [.int a1, .int a2]) (q := 0) (rest := [.int 0, .ref 128]) [(0, 10, 13, 13)] [] dL_settle_5 rfl (List.forall_mem_cons.mpr ⟨⟨by decide, "java/lang/IllegalArgumentException", cl_RL_13, by decide +kernel⟩, (fun _ h9 => absurd h9 List.not_mem_nil)⟩) (by decide) (by decide) cl_RL_15 (by decide +kernel) ov_mX6_settle lk_RL_37 (by decide) (by decide) rfl rfl (Nat.le_of_ble_eq_true rfl) (tq_0 hG) rfl z (fun a => ?_)
        refine V_astoreR (lv2 := [some (.ref 0), some (.int a1), some (.int a2), some (.ref 128), some (.retAddr a)]) dL_settle_17 (by decide) rfl ?_
        refine V_iconst (v := 2) dL_settle_19 rfl ?_
        cases h
        exact V_iret rfl dL_settle_20
      · rw [if_neg hE1] at h
        cases h
theorem VM_L_settle (G : GX) (fu : Nat)  (hG : gt G = tbl) (a1 : Int32) (a2 : Int32) (μ : Mem) (r : (Int32 × Mem)) (h : D_L_settle_0 fu a1 a2 μ = some r) : VM G mL_settle [.ref 0, .int a1, .int a2, .ref 128] μ (.inl (some (.int r.1))) (r.2) := V_entryH ok_mL_settle rfl rfl (Nat.le_of_ble_eq_true rfl) (T_L_settle_0 G fu hG a1 a2 μ r h)
def D_L_fall_0 (fu : Nat)  (a1 : Int32) (μ : Mem) : Option (Int32 × Mem) :=
  (D_X6_fall_0 fu a1 μ).bind fun x1 =>
  match x1.1 with
  | .inl v3 =>
    gu (ib 0 1) <|
    vl (wL x1.2 128 (Int32.toNatClampNeg 0) ((v3 : Int32).toInt64)) fun m5 =>
    some (0, m5)
  | .inr E =>
    if E = "java/lang/IllegalArgumentException" then
      some (1, x1.2)
    else
    if E = "java/lang/IllegalStateException" then
      some (2, x1.2)
    else
      none
set_option maxRecDepth 20000 in
theorem T_L_fall_0 (G : GX) (fu : Nat)  (hG : gt G = tbl) : ∀ (a1 : Int32) (μ : Mem) (r : (Int32 × Mem)) , D_L_fall_0 fu a1 μ = some r → V G mL_fall 0 [some (.ref 0), some (.int a1), some (.ref 128), none] [] μ (.inl (some (.int r.1))) (r.2) := by
  intro a1 μ r h
  unfold D_L_fall_0 at h
  refine V_aload_n dL_fall_0 rfl ?_
  refine V_iconst (v := 0) dL_fall_1 rfl ?_
  refine V_aload_n dL_fall_2 rfl ?_
  refine V_iload_n dL_fall_3 rfl ?_
  obtain ⟨x1, y2, h⟩ := bi_o h
  have z := VM_X6_fall G fu hG a1 μ _ y2
  obtain ⟨u1, m1⟩ := x1
  dsimp only at z h
  cases u1 with
  | inl v3 =>
    dsimp only at h
    refine V_callV (as := [.int a1]) (q := 0) (rest := [.int 0, .ref 128]) dL_fall_4 ov_mX6_fall lk_RL_41 (by decide) (by decide) rfl rfl (Nat.le_of_ble_eq_true rfl) (tq_0 hG) rfl (z) ?_
    refine V_i2l dL_fall_7 ?_
    obtain ⟨g4, h⟩ := gu_o h
    obtain ⟨m5, e6, h⟩ := vl_o h
    refine V_lastore (μ2 := m5) dL_fall_8 (tq_128 hG) (ib_in g4) e6.symm ?_
    refine V_goto (tgt := 18) dL_fall_9 (by decide) ?_
    refine V_iconst (v := 0) dL_fall_18 rfl ?_
    cases h
    exact V_iret rfl dL_fall_19
  | inr E =>
    dsimp only at h
    by_cases hE0 : E = "java/lang/IllegalArgumentException"
    · rw [if_pos hE0] at h
      subst hE0
      refine V_callVH (as := [.int a1]) (q := 0) (rest := [.int 0, .ref 128]) [] [(0, 9, 15, 15)] dL_fall_4 rfl (fun _ h9 => absurd h9 List.not_mem_nil) (by decide) (by decide) cl_RL_13 (by decide +kernel) ov_mX6_fall lk_RL_41 (by decide) (by decide) rfl rfl (Nat.le_of_ble_eq_true rfl) (tq_0 hG) rfl z (fun a => ?_)
      refine V_astoreR_n (lv2 := [some (.ref 0), some (.int a1), some (.ref 128), some (.retAddr a)]) dL_fall_12 (by decide) rfl ?_
      refine V_iconst (v := 1) dL_fall_13 rfl ?_
      cases h
      exact V_iret rfl dL_fall_14
    · rw [if_neg hE0] at h
      by_cases hE1 : E = "java/lang/IllegalStateException"
      · rw [if_pos hE1] at h
        subst hE1
        refine V_callVH (as := [.int a1]) (q := 0) (rest := [.int 0, .ref 128]) [(0, 9, 12, 13)] [] dL_fall_4 rfl (List.forall_mem_cons.mpr ⟨⟨by decide, "java/lang/IllegalArgumentException", cl_RL_13, by decide +kernel⟩, (fun _ h9 => absurd h9 List.not_mem_nil)⟩) (by decide) (by decide) cl_RL_15 (by decide +kernel) ov_mX6_fall lk_RL_41 (by decide) (by decide) rfl rfl (Nat.le_of_ble_eq_true rfl) (tq_0 hG) rfl z (fun a => ?_)
        refine V_astoreR_n (lv2 := [some (.ref 0), some (.int a1), some (.ref 128), some (.retAddr a)]) dL_fall_15 (by decide) rfl ?_
        refine V_iconst (v := 2) dL_fall_16 rfl ?_
        cases h
        exact V_iret rfl dL_fall_17
      · rw [if_neg hE1] at h
        cases h
theorem VM_L_fall (G : GX) (fu : Nat)  (hG : gt G = tbl) (a1 : Int32) (μ : Mem) (r : (Int32 × Mem)) (h : D_L_fall_0 fu a1 μ = some r) : VM G mL_fall [.ref 0, .int a1, .ref 128] μ (.inl (some (.int r.1))) (r.2) := V_entryH ok_mL_fall rfl rfl (Nat.le_of_ble_eq_true rfl) (T_L_fall_0 G fu hG a1 μ r h)
def D_L_reopen_0 (fu : Nat)  (a1 : Int32) (μ : Mem) : Option (Int32 × Mem) :=
  (D_X6_reopen_0 fu a1 μ).bind fun x1 =>
  match x1.1 with
  | .inl v3 =>
    gu (ib 0 1) <|
    vl (wL x1.2 128 (Int32.toNatClampNeg 0) v3) fun m5 =>
    some (0, m5)
  | .inr E =>
    if E = "java/util/NoSuchElementException" then
      some (1, x1.2)
    else
    if E = "java/lang/IllegalStateException" then
      some (2, x1.2)
    else
      none
set_option maxRecDepth 20000 in
theorem T_L_reopen_0 (G : GX) (fu : Nat)  (hG : gt G = tbl) : ∀ (a1 : Int32) (μ : Mem) (r : (Int32 × Mem)) , D_L_reopen_0 fu a1 μ = some r → V G mL_reopen 0 [some (.ref 0), some (.int a1), some (.ref 128), none] [] μ (.inl (some (.int r.1))) (r.2) := by
  intro a1 μ r h
  unfold D_L_reopen_0 at h
  refine V_aload_n dL_reopen_0 rfl ?_
  refine V_iconst (v := 0) dL_reopen_1 rfl ?_
  refine V_aload_n dL_reopen_2 rfl ?_
  refine V_iload_n dL_reopen_3 rfl ?_
  obtain ⟨x1, y2, h⟩ := bi_o h
  have z := VM_X6_reopen G fu hG a1 μ _ y2
  obtain ⟨u1, m1⟩ := x1
  dsimp only at z h
  cases u1 with
  | inl v3 =>
    dsimp only at h
    refine V_callV (as := [.int a1]) (q := 0) (rest := [.int 0, .ref 128]) dL_reopen_4 ov_mX6_reopen lk_RL_44 (by decide) (by decide) rfl rfl (Nat.le_of_ble_eq_true rfl) (tq_0 hG) rfl (z) ?_
    obtain ⟨g4, h⟩ := gu_o h
    obtain ⟨m5, e6, h⟩ := vl_o h
    refine V_lastore (μ2 := m5) dL_reopen_7 (tq_128 hG) (ib_in g4) e6.symm ?_
    refine V_goto (tgt := 17) dL_reopen_8 (by decide) ?_
    refine V_iconst (v := 0) dL_reopen_17 rfl ?_
    cases h
    exact V_iret rfl dL_reopen_18
  | inr E =>
    dsimp only at h
    by_cases hE0 : E = "java/util/NoSuchElementException"
    · rw [if_pos hE0] at h
      subst hE0
      refine V_callVH (as := [.int a1]) (q := 0) (rest := [.int 0, .ref 128]) [] [(0, 8, 14, 15)] dL_reopen_4 rfl (fun _ h9 => absurd h9 List.not_mem_nil) (by decide) (by decide) cl_RL_21 (by decide +kernel) ov_mX6_reopen lk_RL_44 (by decide) (by decide) rfl rfl (Nat.le_of_ble_eq_true rfl) (tq_0 hG) rfl z (fun a => ?_)
      refine V_astoreR_n (lv2 := [some (.ref 0), some (.int a1), some (.ref 128), some (.retAddr a)]) dL_reopen_11 (by decide) rfl ?_
      refine V_iconst (v := 1) dL_reopen_12 rfl ?_
      cases h
      exact V_iret rfl dL_reopen_13
    · rw [if_neg hE0] at h
      by_cases hE1 : E = "java/lang/IllegalStateException"
      · rw [if_pos hE1] at h
        subst hE1
        refine V_callVH (as := [.int a1]) (q := 0) (rest := [.int 0, .ref 128]) [(0, 8, 11, 21)] [] dL_reopen_4 rfl (List.forall_mem_cons.mpr ⟨⟨by decide, "java/util/NoSuchElementException", cl_RL_21, by decide +kernel⟩, (fun _ h9 => absurd h9 List.not_mem_nil)⟩) (by decide) (by decide) cl_RL_15 (by decide +kernel) ov_mX6_reopen lk_RL_44 (by decide) (by decide) rfl rfl (Nat.le_of_ble_eq_true rfl) (tq_0 hG) rfl z (fun a => ?_)
        refine V_astoreR_n (lv2 := [some (.ref 0), some (.int a1), some (.ref 128), some (.retAddr a)]) dL_reopen_14 (by decide) rfl ?_
        refine V_iconst (v := 2) dL_reopen_15 rfl ?_
        cases h
        exact V_iret rfl dL_reopen_16
      · rw [if_neg hE1] at h
        cases h
theorem VM_L_reopen (G : GX) (fu : Nat)  (hG : gt G = tbl) (a1 : Int32) (μ : Mem) (r : (Int32 × Mem)) (h : D_L_reopen_0 fu a1 μ = some r) : VM G mL_reopen [.ref 0, .int a1, .ref 128] μ (.inl (some (.int r.1))) (r.2) := V_entryH ok_mL_reopen rfl rfl (Nat.le_of_ble_eq_true rfl) (T_L_reopen_0 G fu hG a1 μ r h)
def D_L_told_0 (fu : Nat)  (a1 : Int32) (μ : Mem) : Option (Int32 × Mem) :=
  (D_X6_told_0 fu a1 μ).bind fun x1 =>
  match x1.1 with
  | .inl v3 =>
    gu (ib 0 1) <|
    vl (wL x1.2 128 (Int32.toNatClampNeg 0) ((v3 : Int32).toInt64)) fun m5 =>
    some (0, m5)
  | .inr E =>
    if E = "java/lang/IllegalArgumentException" then
      some (1, x1.2)
    else
      none
set_option maxRecDepth 20000 in
theorem T_L_told_0 (G : GX) (fu : Nat)  (hG : gt G = tbl) : ∀ (a1 : Int32) (μ : Mem) (r : (Int32 × Mem)) , D_L_told_0 fu a1 μ = some r → V G mL_told 0 [some (.ref 0), some (.int a1), some (.ref 128), none] [] μ (.inl (some (.int r.1))) (r.2) := by
  intro a1 μ r h
  unfold D_L_told_0 at h
  refine V_aload_n dL_told_0 rfl ?_
  refine V_iconst (v := 0) dL_told_1 rfl ?_
  refine V_aload_n dL_told_2 rfl ?_
  refine V_iload_n dL_told_3 rfl ?_
  obtain ⟨x1, y2, h⟩ := bi_o h
  have z := VM_X6_told G fu hG a1 μ _ y2
  obtain ⟨u1, m1⟩ := x1
  dsimp only at z h
  cases u1 with
  | inl v3 =>
    dsimp only at h
    refine V_callV (as := [.int a1]) (q := 0) (rest := [.int 0, .ref 128]) dL_told_4 ov_mX6_told lk_RL_48 (by decide) (by decide) rfl rfl (Nat.le_of_ble_eq_true rfl) (tq_0 hG) rfl (z) ?_
    refine V_i2l dL_told_7 ?_
    obtain ⟨g4, h⟩ := gu_o h
    obtain ⟨m5, e6, h⟩ := vl_o h
    refine V_lastore (μ2 := m5) dL_told_8 (tq_128 hG) (ib_in g4) e6.symm ?_
    refine V_goto (tgt := 15) dL_told_9 (by decide) ?_
    refine V_iconst (v := 0) dL_told_15 rfl ?_
    cases h
    exact V_iret rfl dL_told_16
  | inr E =>
    dsimp only at h
    by_cases hE0 : E = "java/lang/IllegalArgumentException"
    · rw [if_pos hE0] at h
      subst hE0
      refine V_callVH (as := [.int a1]) (q := 0) (rest := [.int 0, .ref 128]) [] [] dL_told_4 rfl (fun _ h9 => absurd h9 List.not_mem_nil) (by decide) (by decide) cl_RL_13 (by decide +kernel) ov_mX6_told lk_RL_48 (by decide) (by decide) rfl rfl (Nat.le_of_ble_eq_true rfl) (tq_0 hG) rfl z (fun a => ?_)
      refine V_astoreR_n (lv2 := [some (.ref 0), some (.int a1), some (.ref 128), some (.retAddr a)]) dL_told_12 (by decide) rfl ?_
      refine V_iconst (v := 1) dL_told_13 rfl ?_
      cases h
      exact V_iret rfl dL_told_14
    · rw [if_neg hE0] at h
      cases h
theorem VM_L_told (G : GX) (fu : Nat)  (hG : gt G = tbl) (a1 : Int32) (μ : Mem) (r : (Int32 × Mem)) (h : D_L_told_0 fu a1 μ = some r) : VM G mL_told [.ref 0, .int a1, .ref 128] μ (.inl (some (.int r.1))) (r.2) := V_entryH ok_mL_told rfl rfl (Nat.le_of_ble_eq_true rfl) (T_L_told_0 G fu hG a1 μ r h)
def D_L_event_0  (a1 : Int32) (a2 : Int32) (μ : Mem) : Option (Int32 × Mem) :=
  (D_X6_event_0 a1 a2 μ).bind fun x1 =>
  match x1.1 with
  | .inl v3 =>
    gu (ib 0 1) <|
    vl (wL x1.2 128 (Int32.toNatClampNeg 0) ((v3 : Int32).toInt64)) fun m5 =>
    some (0, m5)
  | .inr E =>
    if E = "java/util/NoSuchElementException" then
      some (1, x1.2)
    else
    if E = "java/lang/IllegalArgumentException" then
      some (2, x1.2)
    else
      none
set_option maxRecDepth 20000 in
theorem T_L_event_0 (G : GX)  (hG : gt G = tbl) : ∀ (a1 : Int32) (a2 : Int32) (μ : Mem) (r : (Int32 × Mem)) , D_L_event_0  a1 a2 μ = some r → V G mL_event 0 [some (.ref 0), some (.int a1), some (.int a2), some (.ref 128), none] [] μ (.inl (some (.int r.1))) (r.2) := by
  intro a1 a2 μ r h
  unfold D_L_event_0 at h
  refine V_aload_n dL_event_0 rfl ?_
  refine V_iconst (v := 0) dL_event_1 rfl ?_
  refine V_aload_n dL_event_2 rfl ?_
  refine V_iload_n dL_event_3 rfl ?_
  refine V_iload_n dL_event_4 rfl ?_
  obtain ⟨x1, y2, h⟩ := bi_o h
  have z := VM_X6_event G hG a1 a2 μ _ y2
  obtain ⟨u1, m1⟩ := x1
  dsimp only at z h
  cases u1 with
  | inl v3 =>
    dsimp only at h
    refine V_callV (as := [.int a1, .int a2]) (q := 0) (rest := [.int 0, .ref 128]) dL_event_5 ov_mX6_event lk_RL_51 (by decide) (by decide) rfl rfl (Nat.le_of_ble_eq_true rfl) (tq_0 hG) rfl (z) ?_
    refine V_i2l dL_event_8 ?_
    obtain ⟨g4, h⟩ := gu_o h
    obtain ⟨m5, e6, h⟩ := vl_o h
    refine V_lastore (μ2 := m5) dL_event_9 (tq_128 hG) (ib_in g4) e6.symm ?_
    refine V_goto (tgt := 21) dL_event_10 (by decide) ?_
    refine V_iconst (v := 0) dL_event_21 rfl ?_
    cases h
    exact V_iret rfl dL_event_22
  | inr E =>
    dsimp only at h
    by_cases hE0 : E = "java/util/NoSuchElementException"
    · rw [if_pos hE0] at h
      subst hE0
      refine V_callVH (as := [.int a1, .int a2]) (q := 0) (rest := [.int 0, .ref 128]) [] [(0, 10, 17, 13)] dL_event_5 rfl (fun _ h9 => absurd h9 List.not_mem_nil) (by decide) (by decide) cl_RL_21 (by decide +kernel) ov_mX6_event lk_RL_51 (by decide) (by decide) rfl rfl (Nat.le_of_ble_eq_true rfl) (tq_0 hG) rfl z (fun a => ?_)
      refine V_astoreR (lv2 := [some (.ref 0), some (.int a1), some (.int a2), some (.ref 128), some (.retAddr a)]) dL_event_13 (by decide) rfl ?_
      refine V_iconst (v := 1) dL_event_15 rfl ?_
      cases h
      exact V_iret rfl dL_event_16
    · rw [if_neg hE0] at h
      by_cases hE1 : E = "java/lang/IllegalArgumentException"
      · rw [if_pos hE1] at h
        subst hE1
        refine V_callVH (as := [.int a1, .int a2]) (q := 0) (rest := [.int 0, .ref 128]) [(0, 10, 13, 21)] [] dL_event_5 rfl (List.forall_mem_cons.mpr ⟨⟨by decide, "java/util/NoSuchElementException", cl_RL_21, by decide +kernel⟩, (fun _ h9 => absurd h9 List.not_mem_nil)⟩) (by decide) (by decide) cl_RL_13 (by decide +kernel) ov_mX6_event lk_RL_51 (by decide) (by decide) rfl rfl (Nat.le_of_ble_eq_true rfl) (tq_0 hG) rfl z (fun a => ?_)
        refine V_astoreR (lv2 := [some (.ref 0), some (.int a1), some (.int a2), some (.ref 128), some (.retAddr a)]) dL_event_17 (by decide) rfl ?_
        refine V_iconst (v := 2) dL_event_19 rfl ?_
        cases h
        exact V_iret rfl dL_event_20
      · rw [if_neg hE1] at h
        cases h
theorem VM_L_event (G : GX)  (hG : gt G = tbl) (a1 : Int32) (a2 : Int32) (μ : Mem) (r : (Int32 × Mem)) (h : D_L_event_0  a1 a2 μ = some r) : VM G mL_event [.ref 0, .int a1, .int a2, .ref 128] μ (.inl (some (.int r.1))) (r.2) := V_entryH ok_mL_event rfl rfl (Nat.le_of_ble_eq_true rfl) (T_L_event_0 G hG a1 a2 μ r h)
def D_L_layer_0 (fu : Nat)  (a1 : Int32) (a2 : Int32) (μ : Mem) : Option (Int32 × Mem) :=
  (D_X6_layer_0 fu a1 a2 μ).bind fun x1 =>
  match x1.1 with
  | .inl v3 =>
    gu (ib 0 1) <|
    vl (wL x1.2 128 (Int32.toNatClampNeg 0) v3) fun m5 =>
    some (0, m5)
  | .inr E =>
    if E = "java/util/NoSuchElementException" then
      some (1, x1.2)
    else
    if E = "java/lang/IllegalArgumentException" then
      some (2, x1.2)
    else
      none
set_option maxRecDepth 20000 in
theorem T_L_layer_0 (G : GX) (fu : Nat)  (hG : gt G = tbl) : ∀ (a1 : Int32) (a2 : Int32) (μ : Mem) (r : (Int32 × Mem)) , D_L_layer_0 fu a1 a2 μ = some r → V G mL_layer 0 [some (.ref 0), some (.int a1), some (.int a2), some (.ref 128), none] [] μ (.inl (some (.int r.1))) (r.2) := by
  intro a1 a2 μ r h
  unfold D_L_layer_0 at h
  refine V_aload_n dL_layer_0 rfl ?_
  refine V_iconst (v := 0) dL_layer_1 rfl ?_
  refine V_aload_n dL_layer_2 rfl ?_
  refine V_iload_n dL_layer_3 rfl ?_
  refine V_iload_n dL_layer_4 rfl ?_
  obtain ⟨x1, y2, h⟩ := bi_o h
  have z := VM_X6_layer G fu hG a1 a2 μ _ y2
  obtain ⟨u1, m1⟩ := x1
  dsimp only at z h
  cases u1 with
  | inl v3 =>
    dsimp only at h
    refine V_callV (as := [.int a1, .int a2]) (q := 0) (rest := [.int 0, .ref 128]) dL_layer_5 ov_mX6_layer lk_RL_54 (by decide) (by decide) rfl rfl (Nat.le_of_ble_eq_true rfl) (tq_0 hG) rfl (z) ?_
    obtain ⟨g4, h⟩ := gu_o h
    obtain ⟨m5, e6, h⟩ := vl_o h
    refine V_lastore (μ2 := m5) dL_layer_8 (tq_128 hG) (ib_in g4) e6.symm ?_
    refine V_goto (tgt := 20) dL_layer_9 (by decide) ?_
    refine V_iconst (v := 0) dL_layer_20 rfl ?_
    cases h
    exact V_iret rfl dL_layer_21
  | inr E =>
    dsimp only at h
    by_cases hE0 : E = "java/util/NoSuchElementException"
    · rw [if_pos hE0] at h
      subst hE0
      refine V_callVH (as := [.int a1, .int a2]) (q := 0) (rest := [.int 0, .ref 128]) [] [(0, 9, 16, 13)] dL_layer_5 rfl (fun _ h9 => absurd h9 List.not_mem_nil) (by decide) (by decide) cl_RL_21 (by decide +kernel) ov_mX6_layer lk_RL_54 (by decide) (by decide) rfl rfl (Nat.le_of_ble_eq_true rfl) (tq_0 hG) rfl z (fun a => ?_)
      refine V_astoreR (lv2 := [some (.ref 0), some (.int a1), some (.int a2), some (.ref 128), some (.retAddr a)]) dL_layer_12 (by decide) rfl ?_
      refine V_iconst (v := 1) dL_layer_14 rfl ?_
      cases h
      exact V_iret rfl dL_layer_15
    · rw [if_neg hE0] at h
      by_cases hE1 : E = "java/lang/IllegalArgumentException"
      · rw [if_pos hE1] at h
        subst hE1
        refine V_callVH (as := [.int a1, .int a2]) (q := 0) (rest := [.int 0, .ref 128]) [(0, 9, 12, 21)] [] dL_layer_5 rfl (List.forall_mem_cons.mpr ⟨⟨by decide, "java/util/NoSuchElementException", cl_RL_21, by decide +kernel⟩, (fun _ h9 => absurd h9 List.not_mem_nil)⟩) (by decide) (by decide) cl_RL_13 (by decide +kernel) ov_mX6_layer lk_RL_54 (by decide) (by decide) rfl rfl (Nat.le_of_ble_eq_true rfl) (tq_0 hG) rfl z (fun a => ?_)
        refine V_astoreR (lv2 := [some (.ref 0), some (.int a1), some (.int a2), some (.ref 128), some (.retAddr a)]) dL_layer_16 (by decide) rfl ?_
        refine V_iconst (v := 2) dL_layer_18 rfl ?_
        cases h
        exact V_iret rfl dL_layer_19
      · rw [if_neg hE1] at h
        cases h
theorem VM_L_layer (G : GX) (fu : Nat)  (hG : gt G = tbl) (a1 : Int32) (a2 : Int32) (μ : Mem) (r : (Int32 × Mem)) (h : D_L_layer_0 fu a1 a2 μ = some r) : VM G mL_layer [.ref 0, .int a1, .int a2, .ref 128] μ (.inl (some (.int r.1))) (r.2) := V_entryH ok_mL_layer rfl rfl (Nat.le_of_ble_eq_true rfl) (T_L_layer_0 G fu hG a1 a2 μ r h)
def D_L_signed_0  (a1 : Int32) (a2 : Int32) (a3 : Int32) (μ : Mem) : Option (Int32 × Mem) :=
  (D_X6_signed_0 a1 a2 a3 μ).bind fun x1 =>
  match x1.1 with
  | .inl v3 =>
    gu (ib 0 1) <|
    vl (wL x1.2 128 (Int32.toNatClampNeg 0) v3) fun m5 =>
    some (0, m5)
  | .inr E =>
    if E = "java/util/NoSuchElementException" then
      some (1, x1.2)
    else
    if E = "java/lang/IllegalArgumentException" then
      some (2, x1.2)
    else
      none
set_option maxRecDepth 20000 in
theorem T_L_signed_0 (G : GX)  (hG : gt G = tbl) : ∀ (a1 : Int32) (a2 : Int32) (a3 : Int32) (μ : Mem) (r : (Int32 × Mem)) , D_L_signed_0  a1 a2 a3 μ = some r → V G mL_signed 0 [some (.ref 0), some (.int a1), some (.int a2), some (.int a3), some (.ref 128), none] [] μ (.inl (some (.int r.1))) (r.2) := by
  intro a1 a2 a3 μ r h
  unfold D_L_signed_0 at h
  refine V_aload dL_signed_0 rfl ?_
  refine V_iconst (v := 0) dL_signed_2 rfl ?_
  refine V_aload_n dL_signed_3 rfl ?_
  refine V_iload_n dL_signed_4 rfl ?_
  refine V_iload_n dL_signed_5 rfl ?_
  refine V_iload_n dL_signed_6 rfl ?_
  obtain ⟨x1, y2, h⟩ := bi_o h
  have z := VM_X6_signed G hG a1 a2 a3 μ _ y2
  obtain ⟨u1, m1⟩ := x1
  dsimp only at z h
  cases u1 with
  | inl v3 =>
    dsimp only at h
    refine V_callV (as := [.int a1, .int a2, .int a3]) (q := 0) (rest := [.int 0, .ref 128]) dL_signed_7 ov_mX6_signed lk_RL_57 (by decide) (by decide) rfl rfl (Nat.le_of_ble_eq_true rfl) (tq_0 hG) rfl (z) ?_
    obtain ⟨g4, h⟩ := gu_o h
    obtain ⟨m5, e6, h⟩ := vl_o h
    refine V_lastore (μ2 := m5) dL_signed_10 (tq_128 hG) (ib_in g4) e6.symm ?_
    refine V_goto (tgt := 22) dL_signed_11 (by decide) ?_
    refine V_iconst (v := 0) dL_signed_22 rfl ?_
    cases h
    exact V_iret rfl dL_signed_23
  | inr E =>
    dsimp only at h
    by_cases hE0 : E = "java/util/NoSuchElementException"
    · rw [if_pos hE0] at h
      subst hE0
      refine V_callVH (as := [.int a1, .int a2, .int a3]) (q := 0) (rest := [.int 0, .ref 128]) [] [(0, 11, 18, 13)] dL_signed_7 rfl (fun _ h9 => absurd h9 List.not_mem_nil) (by decide) (by decide) cl_RL_21 (by decide +kernel) ov_mX6_signed lk_RL_57 (by decide) (by decide) rfl rfl (Nat.le_of_ble_eq_true rfl) (tq_0 hG) rfl z (fun a => ?_)
      refine V_astoreR (lv2 := [some (.ref 0), some (.int a1), some (.int a2), some (.int a3), some (.ref 128), some (.retAddr a)]) dL_signed_14 (by decide) rfl ?_
      refine V_iconst (v := 1) dL_signed_16 rfl ?_
      cases h
      exact V_iret rfl dL_signed_17
    · rw [if_neg hE0] at h
      by_cases hE1 : E = "java/lang/IllegalArgumentException"
      · rw [if_pos hE1] at h
        subst hE1
        refine V_callVH (as := [.int a1, .int a2, .int a3]) (q := 0) (rest := [.int 0, .ref 128]) [(0, 11, 14, 21)] [] dL_signed_7 rfl (List.forall_mem_cons.mpr ⟨⟨by decide, "java/util/NoSuchElementException", cl_RL_21, by decide +kernel⟩, (fun _ h9 => absurd h9 List.not_mem_nil)⟩) (by decide) (by decide) cl_RL_13 (by decide +kernel) ov_mX6_signed lk_RL_57 (by decide) (by decide) rfl rfl (Nat.le_of_ble_eq_true rfl) (tq_0 hG) rfl z (fun a => ?_)
        refine V_astoreR (lv2 := [some (.ref 0), some (.int a1), some (.int a2), some (.int a3), some (.ref 128), some (.retAddr a)]) dL_signed_18 (by decide) rfl ?_
        refine V_iconst (v := 2) dL_signed_20 rfl ?_
        cases h
        exact V_iret rfl dL_signed_21
      · rw [if_neg hE1] at h
        cases h
theorem VM_L_signed (G : GX)  (hG : gt G = tbl) (a1 : Int32) (a2 : Int32) (a3 : Int32) (μ : Mem) (r : (Int32 × Mem)) (h : D_L_signed_0  a1 a2 a3 μ = some r) : VM G mL_signed [.ref 0, .int a1, .int a2, .int a3, .ref 128] μ (.inl (some (.int r.1))) (r.2) := V_entryH ok_mL_signed rfl rfl (Nat.le_of_ble_eq_true rfl) (T_L_signed_0 G hG a1 a2 a3 μ r h)
def D_L_year_0 (fu : Nat)  (a1 : Int32) (a2 : Int32) (μ : Mem) : Option (Int32 × Mem) :=
  (D_X6_year_0 fu a1 a2 μ).bind fun x1 =>
  match x1.1 with
  | .inl v3 =>
    gu (ib 0 1) <|
    vl (wL x1.2 128 (Int32.toNatClampNeg 0) v3) fun m5 =>
    some (0, m5)
  | .inr E =>
    if E = "java/lang/IllegalArgumentException" then
      some (1, x1.2)
    else
      none
set_option maxRecDepth 20000 in
theorem T_L_year_0 (G : GX) (fu : Nat)  (hG : gt G = tbl) : ∀ (a1 : Int32) (a2 : Int32) (μ : Mem) (r : (Int32 × Mem)) , D_L_year_0 fu a1 a2 μ = some r → V G mL_year 0 [some (.ref 0), some (.int a1), some (.int a2), some (.ref 128), none] [] μ (.inl (some (.int r.1))) (r.2) := by
  intro a1 a2 μ r h
  unfold D_L_year_0 at h
  refine V_aload_n dL_year_0 rfl ?_
  refine V_iconst (v := 0) dL_year_1 rfl ?_
  refine V_aload_n dL_year_2 rfl ?_
  refine V_iload_n dL_year_3 rfl ?_
  refine V_iload_n dL_year_4 rfl ?_
  obtain ⟨x1, y2, h⟩ := bi_o h
  have z := VM_X6_year G fu hG a1 a2 μ _ y2
  obtain ⟨u1, m1⟩ := x1
  dsimp only at z h
  cases u1 with
  | inl v3 =>
    dsimp only at h
    refine V_callV (as := [.int a1, .int a2]) (q := 0) (rest := [.int 0, .ref 128]) dL_year_5 ov_mX6_year lk_RL_61 (by decide) (by decide) rfl rfl (Nat.le_of_ble_eq_true rfl) (tq_0 hG) rfl (z) ?_
    obtain ⟨g4, h⟩ := gu_o h
    obtain ⟨m5, e6, h⟩ := vl_o h
    refine V_lastore (μ2 := m5) dL_year_8 (tq_128 hG) (ib_in g4) e6.symm ?_
    refine V_goto (tgt := 16) dL_year_9 (by decide) ?_
    refine V_iconst (v := 0) dL_year_16 rfl ?_
    cases h
    exact V_iret rfl dL_year_17
  | inr E =>
    dsimp only at h
    by_cases hE0 : E = "java/lang/IllegalArgumentException"
    · rw [if_pos hE0] at h
      subst hE0
      refine V_callVH (as := [.int a1, .int a2]) (q := 0) (rest := [.int 0, .ref 128]) [] [] dL_year_5 rfl (fun _ h9 => absurd h9 List.not_mem_nil) (by decide) (by decide) cl_RL_13 (by decide +kernel) ov_mX6_year lk_RL_61 (by decide) (by decide) rfl rfl (Nat.le_of_ble_eq_true rfl) (tq_0 hG) rfl z (fun a => ?_)
      refine V_astoreR (lv2 := [some (.ref 0), some (.int a1), some (.int a2), some (.ref 128), some (.retAddr a)]) dL_year_12 (by decide) rfl ?_
      refine V_iconst (v := 1) dL_year_14 rfl ?_
      cases h
      exact V_iret rfl dL_year_15
    · rw [if_neg hE0] at h
      cases h
theorem VM_L_year (G : GX) (fu : Nat)  (hG : gt G = tbl) (a1 : Int32) (a2 : Int32) (μ : Mem) (r : (Int32 × Mem)) (h : D_L_year_0 fu a1 a2 μ = some r) : VM G mL_year [.ref 0, .int a1, .int a2, .ref 128] μ (.inl (some (.int r.1))) (r.2) := V_entryH ok_mL_year rfl rfl (Nat.le_of_ble_eq_true rfl) (T_L_year_0 G fu hG a1 a2 μ r h)
def D_L_at_0 (fu : Nat)  (a1 : Int32) (a2 : Int32) (μ : Mem) : Option (Int32 × Mem) :=
  (D_X6_at_0 fu a1 a2 μ).bind fun x1 =>
  match x1.1 with
  | .inl v3 =>
    gu (ib 0 1) <|
    vl (wL x1.2 128 (Int32.toNatClampNeg 0) ((v3 : Int32).toInt64)) fun m5 =>
    some (0, m5)
  | .inr E =>
    if E = "java/lang/IllegalArgumentException" then
      some (1, x1.2)
    else
      none
set_option maxRecDepth 20000 in
theorem T_L_at_0 (G : GX) (fu : Nat)  (hG : gt G = tbl) : ∀ (a1 : Int32) (a2 : Int32) (μ : Mem) (r : (Int32 × Mem)) , D_L_at_0 fu a1 a2 μ = some r → V G mL_at 0 [some (.ref 0), some (.int a1), some (.int a2), some (.ref 128), none] [] μ (.inl (some (.int r.1))) (r.2) := by
  intro a1 a2 μ r h
  unfold D_L_at_0 at h
  refine V_aload_n dL_at_0 rfl ?_
  refine V_iconst (v := 0) dL_at_1 rfl ?_
  refine V_aload_n dL_at_2 rfl ?_
  refine V_iload_n dL_at_3 rfl ?_
  refine V_iload_n dL_at_4 rfl ?_
  obtain ⟨x1, y2, h⟩ := bi_o h
  have z := VM_X6_at G fu hG a1 a2 μ _ y2
  obtain ⟨u1, m1⟩ := x1
  dsimp only at z h
  cases u1 with
  | inl v3 =>
    dsimp only at h
    refine V_callV (as := [.int a1, .int a2]) (q := 0) (rest := [.int 0, .ref 128]) dL_at_5 ov_mX6_at lk_RL_64 (by decide) (by decide) rfl rfl (Nat.le_of_ble_eq_true rfl) (tq_0 hG) rfl (z) ?_
    refine V_i2l dL_at_8 ?_
    obtain ⟨g4, h⟩ := gu_o h
    obtain ⟨m5, e6, h⟩ := vl_o h
    refine V_lastore (μ2 := m5) dL_at_9 (tq_128 hG) (ib_in g4) e6.symm ?_
    refine V_goto (tgt := 17) dL_at_10 (by decide) ?_
    refine V_iconst (v := 0) dL_at_17 rfl ?_
    cases h
    exact V_iret rfl dL_at_18
  | inr E =>
    dsimp only at h
    by_cases hE0 : E = "java/lang/IllegalArgumentException"
    · rw [if_pos hE0] at h
      subst hE0
      refine V_callVH (as := [.int a1, .int a2]) (q := 0) (rest := [.int 0, .ref 128]) [] [] dL_at_5 rfl (fun _ h9 => absurd h9 List.not_mem_nil) (by decide) (by decide) cl_RL_13 (by decide +kernel) ov_mX6_at lk_RL_64 (by decide) (by decide) rfl rfl (Nat.le_of_ble_eq_true rfl) (tq_0 hG) rfl z (fun a => ?_)
      refine V_astoreR (lv2 := [some (.ref 0), some (.int a1), some (.int a2), some (.ref 128), some (.retAddr a)]) dL_at_13 (by decide) rfl ?_
      refine V_iconst (v := 1) dL_at_15 rfl ?_
      cases h
      exact V_iret rfl dL_at_16
    · rw [if_neg hE0] at h
      cases h
theorem VM_L_at (G : GX) (fu : Nat)  (hG : gt G = tbl) (a1 : Int32) (a2 : Int32) (μ : Mem) (r : (Int32 × Mem)) (h : D_L_at_0 fu a1 a2 μ = some r) : VM G mL_at [.ref 0, .int a1, .int a2, .ref 128] μ (.inl (some (.int r.1))) (r.2) := V_entryH ok_mL_at rfl rfl (Nat.le_of_ble_eq_true rfl) (T_L_at_0 G fu hG a1 a2 μ r h)
def D_L_rung_0  (a1 : Int32) (a2 : Int32) (μ : Mem) : Option (Int32 × Mem) :=
  (D_X6_rung_0 a1 a2 μ).bind fun x1 =>
  match x1.1 with
  | .inl v3 =>
    gu (ib 0 1) <|
    vl (wL x1.2 128 (Int32.toNatClampNeg 0) ((v3 : Int32).toInt64)) fun m5 =>
    some (0, m5)
  | .inr E =>
    if E = "java/lang/IllegalArgumentException" then
      some (1, x1.2)
    else
      none
set_option maxRecDepth 20000 in
theorem T_L_rung_0 (G : GX)  (hG : gt G = tbl) : ∀ (a1 : Int32) (a2 : Int32) (μ : Mem) (r : (Int32 × Mem)) , D_L_rung_0  a1 a2 μ = some r → V G mL_rung 0 [some (.ref 0), some (.int a1), some (.int a2), some (.ref 128), none] [] μ (.inl (some (.int r.1))) (r.2) := by
  intro a1 a2 μ r h
  unfold D_L_rung_0 at h
  refine V_aload_n dL_rung_0 rfl ?_
  refine V_iconst (v := 0) dL_rung_1 rfl ?_
  refine V_aload_n dL_rung_2 rfl ?_
  refine V_iload_n dL_rung_3 rfl ?_
  refine V_iload_n dL_rung_4 rfl ?_
  obtain ⟨x1, y2, h⟩ := bi_o h
  have z := VM_X6_rung G hG a1 a2 μ _ y2
  obtain ⟨u1, m1⟩ := x1
  dsimp only at z h
  cases u1 with
  | inl v3 =>
    dsimp only at h
    refine V_callV (as := [.int a1, .int a2]) (q := 0) (rest := [.int 0, .ref 128]) dL_rung_5 ov_mX6_rung lk_RL_67 (by decide) (by decide) rfl rfl (Nat.le_of_ble_eq_true rfl) (tq_0 hG) rfl (z) ?_
    refine V_i2l dL_rung_8 ?_
    obtain ⟨g4, h⟩ := gu_o h
    obtain ⟨m5, e6, h⟩ := vl_o h
    refine V_lastore (μ2 := m5) dL_rung_9 (tq_128 hG) (ib_in g4) e6.symm ?_
    refine V_goto (tgt := 17) dL_rung_10 (by decide) ?_
    refine V_iconst (v := 0) dL_rung_17 rfl ?_
    cases h
    exact V_iret rfl dL_rung_18
  | inr E =>
    dsimp only at h
    by_cases hE0 : E = "java/lang/IllegalArgumentException"
    · rw [if_pos hE0] at h
      subst hE0
      refine V_callVH (as := [.int a1, .int a2]) (q := 0) (rest := [.int 0, .ref 128]) [] [] dL_rung_5 rfl (fun _ h9 => absurd h9 List.not_mem_nil) (by decide) (by decide) cl_RL_13 (by decide +kernel) ov_mX6_rung lk_RL_67 (by decide) (by decide) rfl rfl (Nat.le_of_ble_eq_true rfl) (tq_0 hG) rfl z (fun a => ?_)
      refine V_astoreR (lv2 := [some (.ref 0), some (.int a1), some (.int a2), some (.ref 128), some (.retAddr a)]) dL_rung_13 (by decide) rfl ?_
      refine V_iconst (v := 1) dL_rung_15 rfl ?_
      cases h
      exact V_iret rfl dL_rung_16
    · rw [if_neg hE0] at h
      cases h
theorem VM_L_rung (G : GX)  (hG : gt G = tbl) (a1 : Int32) (a2 : Int32) (μ : Mem) (r : (Int32 × Mem)) (h : D_L_rung_0  a1 a2 μ = some r) : VM G mL_rung [.ref 0, .int a1, .int a2, .ref 128] μ (.inl (some (.int r.1))) (r.2) := V_entryH ok_mL_rung rfl rfl (Nat.le_of_ble_eq_true rfl) (T_L_rung_0 G hG a1 a2 μ r h)
def D_L_damage_0  (a1 : Int32) (a2 : Int32) (μ : Mem) : Option (Int32 × Mem) :=
  (D_X6_damage_0 a1 a2 μ).bind fun x1 =>
  match x1.1 with
  | .inl v3 =>
    gu (ib 0 1) <|
    vl (wL x1.2 128 (Int32.toNatClampNeg 0) v3) fun m5 =>
    some (0, m5)
  | .inr E =>
    if E = "java/util/NoSuchElementException" then
      some (1, x1.2)
    else
    if E = "java/lang/IllegalArgumentException" then
      some (2, x1.2)
    else
      none
set_option maxRecDepth 20000 in
theorem T_L_damage_0 (G : GX)  (hG : gt G = tbl) : ∀ (a1 : Int32) (a2 : Int32) (μ : Mem) (r : (Int32 × Mem)) , D_L_damage_0  a1 a2 μ = some r → V G mL_damage 0 [some (.ref 0), some (.int a1), some (.int a2), some (.ref 128), none] [] μ (.inl (some (.int r.1))) (r.2) := by
  intro a1 a2 μ r h
  unfold D_L_damage_0 at h
  refine V_aload_n dL_damage_0 rfl ?_
  refine V_iconst (v := 0) dL_damage_1 rfl ?_
  refine V_aload_n dL_damage_2 rfl ?_
  refine V_iload_n dL_damage_3 rfl ?_
  refine V_iload_n dL_damage_4 rfl ?_
  obtain ⟨x1, y2, h⟩ := bi_o h
  have z := VM_X6_damage G hG a1 a2 μ _ y2
  obtain ⟨u1, m1⟩ := x1
  dsimp only at z h
  cases u1 with
  | inl v3 =>
    dsimp only at h
    refine V_callV (as := [.int a1, .int a2]) (q := 0) (rest := [.int 0, .ref 128]) dL_damage_5 ov_mX6_damage lk_RL_70 (by decide) (by decide) rfl rfl (Nat.le_of_ble_eq_true rfl) (tq_0 hG) rfl (z) ?_
    obtain ⟨g4, h⟩ := gu_o h
    obtain ⟨m5, e6, h⟩ := vl_o h
    refine V_lastore (μ2 := m5) dL_damage_8 (tq_128 hG) (ib_in g4) e6.symm ?_
    refine V_goto (tgt := 20) dL_damage_9 (by decide) ?_
    refine V_iconst (v := 0) dL_damage_20 rfl ?_
    cases h
    exact V_iret rfl dL_damage_21
  | inr E =>
    dsimp only at h
    by_cases hE0 : E = "java/util/NoSuchElementException"
    · rw [if_pos hE0] at h
      subst hE0
      refine V_callVH (as := [.int a1, .int a2]) (q := 0) (rest := [.int 0, .ref 128]) [] [(0, 9, 16, 13)] dL_damage_5 rfl (fun _ h9 => absurd h9 List.not_mem_nil) (by decide) (by decide) cl_RL_21 (by decide +kernel) ov_mX6_damage lk_RL_70 (by decide) (by decide) rfl rfl (Nat.le_of_ble_eq_true rfl) (tq_0 hG) rfl z (fun a => ?_)
      refine V_astoreR (lv2 := [some (.ref 0), some (.int a1), some (.int a2), some (.ref 128), some (.retAddr a)]) dL_damage_12 (by decide) rfl ?_
      refine V_iconst (v := 1) dL_damage_14 rfl ?_
      cases h
      exact V_iret rfl dL_damage_15
    · rw [if_neg hE0] at h
      by_cases hE1 : E = "java/lang/IllegalArgumentException"
      · rw [if_pos hE1] at h
        subst hE1
        refine V_callVH (as := [.int a1, .int a2]) (q := 0) (rest := [.int 0, .ref 128]) [(0, 9, 12, 21)] [] dL_damage_5 rfl (List.forall_mem_cons.mpr ⟨⟨by decide, "java/util/NoSuchElementException", cl_RL_21, by decide +kernel⟩, (fun _ h9 => absurd h9 List.not_mem_nil)⟩) (by decide) (by decide) cl_RL_13 (by decide +kernel) ov_mX6_damage lk_RL_70 (by decide) (by decide) rfl rfl (Nat.le_of_ble_eq_true rfl) (tq_0 hG) rfl z (fun a => ?_)
        refine V_astoreR (lv2 := [some (.ref 0), some (.int a1), some (.int a2), some (.ref 128), some (.retAddr a)]) dL_damage_16 (by decide) rfl ?_
        refine V_iconst (v := 2) dL_damage_18 rfl ?_
        cases h
        exact V_iret rfl dL_damage_19
      · rw [if_neg hE1] at h
        cases h
theorem VM_L_damage (G : GX)  (hG : gt G = tbl) (a1 : Int32) (a2 : Int32) (μ : Mem) (r : (Int32 × Mem)) (h : D_L_damage_0  a1 a2 μ = some r) : VM G mL_damage [.ref 0, .int a1, .int a2, .ref 128] μ (.inl (some (.int r.1))) (r.2) := V_entryH ok_mL_damage rfl rfl (Nat.le_of_ble_eq_true rfl) (T_L_damage_0 G hG a1 a2 μ r h)
def D_L_took_0  (a1 : Int32) (a2 : Int32) (μ : Mem) : Option (Int32 × Mem) :=
  (D_X6_took_0 a1 a2 μ).bind fun x1 =>
  match x1.1 with
  | .inl v3 =>
    gu (ib 0 1) <|
    vl (wL x1.2 128 (Int32.toNatClampNeg 0) v3) fun m5 =>
    some (0, m5)
  | .inr E =>
    if E = "java/util/NoSuchElementException" then
      some (1, x1.2)
    else
      none
set_option maxRecDepth 20000 in
theorem T_L_took_0 (G : GX)  (hG : gt G = tbl) : ∀ (a1 : Int32) (a2 : Int32) (μ : Mem) (r : (Int32 × Mem)) , D_L_took_0  a1 a2 μ = some r → V G mL_took 0 [some (.ref 0), some (.int a1), some (.int a2), some (.ref 128), none] [] μ (.inl (some (.int r.1))) (r.2) := by
  intro a1 a2 μ r h
  unfold D_L_took_0 at h
  refine V_aload_n dL_took_0 rfl ?_
  refine V_iconst (v := 0) dL_took_1 rfl ?_
  refine V_aload_n dL_took_2 rfl ?_
  refine V_iload_n dL_took_3 rfl ?_
  refine V_iload_n dL_took_4 rfl ?_
  obtain ⟨x1, y2, h⟩ := bi_o h
  have z := VM_X6_took G hG a1 a2 μ _ y2
  obtain ⟨u1, m1⟩ := x1
  dsimp only at z h
  cases u1 with
  | inl v3 =>
    dsimp only at h
    refine V_callV (as := [.int a1, .int a2]) (q := 0) (rest := [.int 0, .ref 128]) dL_took_5 ov_mX6_took lk_RL_73 (by decide) (by decide) rfl rfl (Nat.le_of_ble_eq_true rfl) (tq_0 hG) rfl (z) ?_
    obtain ⟨g4, h⟩ := gu_o h
    obtain ⟨m5, e6, h⟩ := vl_o h
    refine V_lastore (μ2 := m5) dL_took_8 (tq_128 hG) (ib_in g4) e6.symm ?_
    refine V_goto (tgt := 16) dL_took_9 (by decide) ?_
    refine V_iconst (v := 0) dL_took_16 rfl ?_
    cases h
    exact V_iret rfl dL_took_17
  | inr E =>
    dsimp only at h
    by_cases hE0 : E = "java/util/NoSuchElementException"
    · rw [if_pos hE0] at h
      subst hE0
      refine V_callVH (as := [.int a1, .int a2]) (q := 0) (rest := [.int 0, .ref 128]) [] [] dL_took_5 rfl (fun _ h9 => absurd h9 List.not_mem_nil) (by decide) (by decide) cl_RL_21 (by decide +kernel) ov_mX6_took lk_RL_73 (by decide) (by decide) rfl rfl (Nat.le_of_ble_eq_true rfl) (tq_0 hG) rfl z (fun a => ?_)
      refine V_astoreR (lv2 := [some (.ref 0), some (.int a1), some (.int a2), some (.ref 128), some (.retAddr a)]) dL_took_12 (by decide) rfl ?_
      refine V_iconst (v := 1) dL_took_14 rfl ?_
      cases h
      exact V_iret rfl dL_took_15
    · rw [if_neg hE0] at h
      cases h
theorem VM_L_took (G : GX)  (hG : gt G = tbl) (a1 : Int32) (a2 : Int32) (μ : Mem) (r : (Int32 × Mem)) (h : D_L_took_0  a1 a2 μ = some r) : VM G mL_took [.ref 0, .int a1, .int a2, .ref 128] μ (.inl (some (.int r.1))) (r.2) := V_entryH ok_mL_took rfl rfl (Nat.le_of_ble_eq_true rfl) (T_L_took_0 G hG a1 a2 μ r h)
def D_L_hole_0  (a1 : Int32) (a2 : Int32) (μ : Mem) : Option (Int32 × Mem) :=
  (D_X6_hole_0 a1 a2 μ).bind fun x1 =>
  match x1.1 with
  | .inl v3 =>
    gu (ib 0 1) <|
    vl (wL x1.2 128 (Int32.toNatClampNeg 0) v3) fun m5 =>
    some (0, m5)
  | .inr E =>
    if E = "java/util/NoSuchElementException" then
      some (1, x1.2)
    else
      none
set_option maxRecDepth 20000 in
theorem T_L_hole_0 (G : GX)  (hG : gt G = tbl) : ∀ (a1 : Int32) (a2 : Int32) (μ : Mem) (r : (Int32 × Mem)) , D_L_hole_0  a1 a2 μ = some r → V G mL_hole 0 [some (.ref 0), some (.int a1), some (.int a2), some (.ref 128), none] [] μ (.inl (some (.int r.1))) (r.2) := by
  intro a1 a2 μ r h
  unfold D_L_hole_0 at h
  refine V_aload_n dL_hole_0 rfl ?_
  refine V_iconst (v := 0) dL_hole_1 rfl ?_
  refine V_aload_n dL_hole_2 rfl ?_
  refine V_iload_n dL_hole_3 rfl ?_
  refine V_iload_n dL_hole_4 rfl ?_
  obtain ⟨x1, y2, h⟩ := bi_o h
  have z := VM_X6_hole G hG a1 a2 μ _ y2
  obtain ⟨u1, m1⟩ := x1
  dsimp only at z h
  cases u1 with
  | inl v3 =>
    dsimp only at h
    refine V_callV (as := [.int a1, .int a2]) (q := 0) (rest := [.int 0, .ref 128]) dL_hole_5 ov_mX6_hole lk_RL_76 (by decide) (by decide) rfl rfl (Nat.le_of_ble_eq_true rfl) (tq_0 hG) rfl (z) ?_
    obtain ⟨g4, h⟩ := gu_o h
    obtain ⟨m5, e6, h⟩ := vl_o h
    refine V_lastore (μ2 := m5) dL_hole_8 (tq_128 hG) (ib_in g4) e6.symm ?_
    refine V_goto (tgt := 16) dL_hole_9 (by decide) ?_
    refine V_iconst (v := 0) dL_hole_16 rfl ?_
    cases h
    exact V_iret rfl dL_hole_17
  | inr E =>
    dsimp only at h
    by_cases hE0 : E = "java/util/NoSuchElementException"
    · rw [if_pos hE0] at h
      subst hE0
      refine V_callVH (as := [.int a1, .int a2]) (q := 0) (rest := [.int 0, .ref 128]) [] [] dL_hole_5 rfl (fun _ h9 => absurd h9 List.not_mem_nil) (by decide) (by decide) cl_RL_21 (by decide +kernel) ov_mX6_hole lk_RL_76 (by decide) (by decide) rfl rfl (Nat.le_of_ble_eq_true rfl) (tq_0 hG) rfl z (fun a => ?_)
      refine V_astoreR (lv2 := [some (.ref 0), some (.int a1), some (.int a2), some (.ref 128), some (.retAddr a)]) dL_hole_12 (by decide) rfl ?_
      refine V_iconst (v := 1) dL_hole_14 rfl ?_
      cases h
      exact V_iret rfl dL_hole_15
    · rw [if_neg hE0] at h
      cases h
theorem VM_L_hole (G : GX)  (hG : gt G = tbl) (a1 : Int32) (a2 : Int32) (μ : Mem) (r : (Int32 × Mem)) (h : D_L_hole_0  a1 a2 μ = some r) : VM G mL_hole [.ref 0, .int a1, .int a2, .ref 128] μ (.inl (some (.int r.1))) (r.2) := V_entryH ok_mL_hole rfl rfl (Nat.le_of_ble_eq_true rfl) (T_L_hole_0 G hG a1 a2 μ r h)
def D_L_moved_0  (a1 : Int32) (a2 : Int32) (μ : Mem) : Option (Int32 × Mem) :=
  (D_X6_moved_0 a1 a2 μ).bind fun x1 =>
  match x1.1 with
  | .inl v3 =>
    gu (ib 0 1) <|
    vl (wL x1.2 128 (Int32.toNatClampNeg 0) v3) fun m5 =>
    some (0, m5)
  | .inr E =>
    if E = "java/util/NoSuchElementException" then
      some (1, x1.2)
    else
      none
set_option maxRecDepth 20000 in
theorem T_L_moved_0 (G : GX)  (hG : gt G = tbl) : ∀ (a1 : Int32) (a2 : Int32) (μ : Mem) (r : (Int32 × Mem)) , D_L_moved_0  a1 a2 μ = some r → V G mL_moved 0 [some (.ref 0), some (.int a1), some (.int a2), some (.ref 128), none] [] μ (.inl (some (.int r.1))) (r.2) := by
  intro a1 a2 μ r h
  unfold D_L_moved_0 at h
  refine V_aload_n dL_moved_0 rfl ?_
  refine V_iconst (v := 0) dL_moved_1 rfl ?_
  refine V_aload_n dL_moved_2 rfl ?_
  refine V_iload_n dL_moved_3 rfl ?_
  refine V_iload_n dL_moved_4 rfl ?_
  obtain ⟨x1, y2, h⟩ := bi_o h
  have z := VM_X6_moved G hG a1 a2 μ _ y2
  obtain ⟨u1, m1⟩ := x1
  dsimp only at z h
  cases u1 with
  | inl v3 =>
    dsimp only at h
    refine V_callV (as := [.int a1, .int a2]) (q := 0) (rest := [.int 0, .ref 128]) dL_moved_5 ov_mX6_moved lk_RL_79 (by decide) (by decide) rfl rfl (Nat.le_of_ble_eq_true rfl) (tq_0 hG) rfl (z) ?_
    obtain ⟨g4, h⟩ := gu_o h
    obtain ⟨m5, e6, h⟩ := vl_o h
    refine V_lastore (μ2 := m5) dL_moved_8 (tq_128 hG) (ib_in g4) e6.symm ?_
    refine V_goto (tgt := 16) dL_moved_9 (by decide) ?_
    refine V_iconst (v := 0) dL_moved_16 rfl ?_
    cases h
    exact V_iret rfl dL_moved_17
  | inr E =>
    dsimp only at h
    by_cases hE0 : E = "java/util/NoSuchElementException"
    · rw [if_pos hE0] at h
      subst hE0
      refine V_callVH (as := [.int a1, .int a2]) (q := 0) (rest := [.int 0, .ref 128]) [] [] dL_moved_5 rfl (fun _ h9 => absurd h9 List.not_mem_nil) (by decide) (by decide) cl_RL_21 (by decide +kernel) ov_mX6_moved lk_RL_79 (by decide) (by decide) rfl rfl (Nat.le_of_ble_eq_true rfl) (tq_0 hG) rfl z (fun a => ?_)
      refine V_astoreR (lv2 := [some (.ref 0), some (.int a1), some (.int a2), some (.ref 128), some (.retAddr a)]) dL_moved_12 (by decide) rfl ?_
      refine V_iconst (v := 1) dL_moved_14 rfl ?_
      cases h
      exact V_iret rfl dL_moved_15
    · rw [if_neg hE0] at h
      cases h
theorem VM_L_moved (G : GX)  (hG : gt G = tbl) (a1 : Int32) (a2 : Int32) (μ : Mem) (r : (Int32 × Mem)) (h : D_L_moved_0  a1 a2 μ = some r) : VM G mL_moved [.ref 0, .int a1, .int a2, .ref 128] μ (.inl (some (.int r.1))) (r.2) := V_entryH ok_mL_moved rfl rfl (Nat.le_of_ble_eq_true rfl) (T_L_moved_0 G hG a1 a2 μ r h)
def D_L_bears_0  (a1 : Int32) (a2 : Int32) (μ : Mem) : Option (Int32 × Mem) :=
  (D_X6_bears_0 a1 a2 μ).bind fun x1 =>
  match x1.1 with
  | .inl v3 =>
    gu (ib 0 1) <|
    vl (wL x1.2 128 (Int32.toNatClampNeg 0) v3) fun m5 =>
    some (0, m5)
  | .inr E =>
    if E = "java/util/NoSuchElementException" then
      some (1, x1.2)
    else
    if E = "java/lang/IllegalArgumentException" then
      some (2, x1.2)
    else
      none
set_option maxRecDepth 20000 in
theorem T_L_bears_0 (G : GX)  (hG : gt G = tbl) : ∀ (a1 : Int32) (a2 : Int32) (μ : Mem) (r : (Int32 × Mem)) , D_L_bears_0  a1 a2 μ = some r → V G mL_bears 0 [some (.ref 0), some (.int a1), some (.int a2), some (.ref 128), none] [] μ (.inl (some (.int r.1))) (r.2) := by
  intro a1 a2 μ r h
  unfold D_L_bears_0 at h
  refine V_aload_n dL_bears_0 rfl ?_
  refine V_iconst (v := 0) dL_bears_1 rfl ?_
  refine V_aload_n dL_bears_2 rfl ?_
  refine V_iload_n dL_bears_3 rfl ?_
  refine V_iload_n dL_bears_4 rfl ?_
  obtain ⟨x1, y2, h⟩ := bi_o h
  have z := VM_X6_bears G hG a1 a2 μ _ y2
  obtain ⟨u1, m1⟩ := x1
  dsimp only at z h
  cases u1 with
  | inl v3 =>
    dsimp only at h
    refine V_callV (as := [.int a1, .int a2]) (q := 0) (rest := [.int 0, .ref 128]) dL_bears_5 ov_mX6_bears lk_RL_82 (by decide) (by decide) rfl rfl (Nat.le_of_ble_eq_true rfl) (tq_0 hG) rfl (z) ?_
    obtain ⟨g4, h⟩ := gu_o h
    obtain ⟨m5, e6, h⟩ := vl_o h
    refine V_lastore (μ2 := m5) dL_bears_8 (tq_128 hG) (ib_in g4) e6.symm ?_
    refine V_goto (tgt := 20) dL_bears_9 (by decide) ?_
    refine V_iconst (v := 0) dL_bears_20 rfl ?_
    cases h
    exact V_iret rfl dL_bears_21
  | inr E =>
    dsimp only at h
    by_cases hE0 : E = "java/util/NoSuchElementException"
    · rw [if_pos hE0] at h
      subst hE0
      refine V_callVH (as := [.int a1, .int a2]) (q := 0) (rest := [.int 0, .ref 128]) [] [(0, 9, 16, 13)] dL_bears_5 rfl (fun _ h9 => absurd h9 List.not_mem_nil) (by decide) (by decide) cl_RL_21 (by decide +kernel) ov_mX6_bears lk_RL_82 (by decide) (by decide) rfl rfl (Nat.le_of_ble_eq_true rfl) (tq_0 hG) rfl z (fun a => ?_)
      refine V_astoreR (lv2 := [some (.ref 0), some (.int a1), some (.int a2), some (.ref 128), some (.retAddr a)]) dL_bears_12 (by decide) rfl ?_
      refine V_iconst (v := 1) dL_bears_14 rfl ?_
      cases h
      exact V_iret rfl dL_bears_15
    · rw [if_neg hE0] at h
      by_cases hE1 : E = "java/lang/IllegalArgumentException"
      · rw [if_pos hE1] at h
        subst hE1
        refine V_callVH (as := [.int a1, .int a2]) (q := 0) (rest := [.int 0, .ref 128]) [(0, 9, 12, 21)] [] dL_bears_5 rfl (List.forall_mem_cons.mpr ⟨⟨by decide, "java/util/NoSuchElementException", cl_RL_21, by decide +kernel⟩, (fun _ h9 => absurd h9 List.not_mem_nil)⟩) (by decide) (by decide) cl_RL_13 (by decide +kernel) ov_mX6_bears lk_RL_82 (by decide) (by decide) rfl rfl (Nat.le_of_ble_eq_true rfl) (tq_0 hG) rfl z (fun a => ?_)
        refine V_astoreR (lv2 := [some (.ref 0), some (.int a1), some (.int a2), some (.ref 128), some (.retAddr a)]) dL_bears_16 (by decide) rfl ?_
        refine V_iconst (v := 2) dL_bears_18 rfl ?_
        cases h
        exact V_iret rfl dL_bears_19
      · rw [if_neg hE1] at h
        cases h
theorem VM_L_bears (G : GX)  (hG : gt G = tbl) (a1 : Int32) (a2 : Int32) (μ : Mem) (r : (Int32 × Mem)) (h : D_L_bears_0  a1 a2 μ = some r) : VM G mL_bears [.ref 0, .int a1, .int a2, .ref 128] μ (.inl (some (.int r.1))) (r.2) := V_entryH ok_mL_bears rfl rfl (Nat.le_of_ble_eq_true rfl) (T_L_bears_0 G hG a1 a2 μ r h)
def D_L_falls_0  (a1 : Int32) (a2 : Int32) (μ : Mem) : Option (Int32 × Mem) :=
  (D_X6_falls_0 a1 a2 μ).bind fun x1 =>
  match x1.1 with
  | .inl v3 =>
    gu (ib 0 1) <|
    vl (wL x1.2 128 (Int32.toNatClampNeg 0) v3) fun m5 =>
    some (0, m5)
  | .inr E =>
    if E = "java/util/NoSuchElementException" then
      some (1, x1.2)
    else
    if E = "java/lang/IllegalArgumentException" then
      some (2, x1.2)
    else
      none
set_option maxRecDepth 20000 in
theorem T_L_falls_0 (G : GX)  (hG : gt G = tbl) : ∀ (a1 : Int32) (a2 : Int32) (μ : Mem) (r : (Int32 × Mem)) , D_L_falls_0  a1 a2 μ = some r → V G mL_falls 0 [some (.ref 0), some (.int a1), some (.int a2), some (.ref 128), none] [] μ (.inl (some (.int r.1))) (r.2) := by
  intro a1 a2 μ r h
  unfold D_L_falls_0 at h
  refine V_aload_n dL_falls_0 rfl ?_
  refine V_iconst (v := 0) dL_falls_1 rfl ?_
  refine V_aload_n dL_falls_2 rfl ?_
  refine V_iload_n dL_falls_3 rfl ?_
  refine V_iload_n dL_falls_4 rfl ?_
  obtain ⟨x1, y2, h⟩ := bi_o h
  have z := VM_X6_falls G hG a1 a2 μ _ y2
  obtain ⟨u1, m1⟩ := x1
  dsimp only at z h
  cases u1 with
  | inl v3 =>
    dsimp only at h
    refine V_callV (as := [.int a1, .int a2]) (q := 0) (rest := [.int 0, .ref 128]) dL_falls_5 ov_mX6_falls lk_RL_85 (by decide) (by decide) rfl rfl (Nat.le_of_ble_eq_true rfl) (tq_0 hG) rfl (z) ?_
    obtain ⟨g4, h⟩ := gu_o h
    obtain ⟨m5, e6, h⟩ := vl_o h
    refine V_lastore (μ2 := m5) dL_falls_8 (tq_128 hG) (ib_in g4) e6.symm ?_
    refine V_goto (tgt := 20) dL_falls_9 (by decide) ?_
    refine V_iconst (v := 0) dL_falls_20 rfl ?_
    cases h
    exact V_iret rfl dL_falls_21
  | inr E =>
    dsimp only at h
    by_cases hE0 : E = "java/util/NoSuchElementException"
    · rw [if_pos hE0] at h
      subst hE0
      refine V_callVH (as := [.int a1, .int a2]) (q := 0) (rest := [.int 0, .ref 128]) [] [(0, 9, 16, 13)] dL_falls_5 rfl (fun _ h9 => absurd h9 List.not_mem_nil) (by decide) (by decide) cl_RL_21 (by decide +kernel) ov_mX6_falls lk_RL_85 (by decide) (by decide) rfl rfl (Nat.le_of_ble_eq_true rfl) (tq_0 hG) rfl z (fun a => ?_)
      refine V_astoreR (lv2 := [some (.ref 0), some (.int a1), some (.int a2), some (.ref 128), some (.retAddr a)]) dL_falls_12 (by decide) rfl ?_
      refine V_iconst (v := 1) dL_falls_14 rfl ?_
      cases h
      exact V_iret rfl dL_falls_15
    · rw [if_neg hE0] at h
      by_cases hE1 : E = "java/lang/IllegalArgumentException"
      · rw [if_pos hE1] at h
        subst hE1
        refine V_callVH (as := [.int a1, .int a2]) (q := 0) (rest := [.int 0, .ref 128]) [(0, 9, 12, 21)] [] dL_falls_5 rfl (List.forall_mem_cons.mpr ⟨⟨by decide, "java/util/NoSuchElementException", cl_RL_21, by decide +kernel⟩, (fun _ h9 => absurd h9 List.not_mem_nil)⟩) (by decide) (by decide) cl_RL_13 (by decide +kernel) ov_mX6_falls lk_RL_85 (by decide) (by decide) rfl rfl (Nat.le_of_ble_eq_true rfl) (tq_0 hG) rfl z (fun a => ?_)
        refine V_astoreR (lv2 := [some (.ref 0), some (.int a1), some (.int a2), some (.ref 128), some (.retAddr a)]) dL_falls_16 (by decide) rfl ?_
        refine V_iconst (v := 2) dL_falls_18 rfl ?_
        cases h
        exact V_iret rfl dL_falls_19
      · rw [if_neg hE1] at h
        cases h
theorem VM_L_falls (G : GX)  (hG : gt G = tbl) (a1 : Int32) (a2 : Int32) (μ : Mem) (r : (Int32 × Mem)) (h : D_L_falls_0  a1 a2 μ = some r) : VM G mL_falls [.ref 0, .int a1, .int a2, .ref 128] μ (.inl (some (.int r.1))) (r.2) := V_entryH ok_mL_falls rfl rfl (Nat.le_of_ble_eq_true rfl) (T_L_falls_0 G hG a1 a2 μ r h)
def D_L_insurer_0 (fu : Nat)  (a1 : Int32) (a2 : Int32) (μ : Mem) : Option (Int32 × Mem) :=
  (D_X6_insurer_0 fu a1 a2 μ).bind fun x1 =>
  match x1.1 with
  | .inl v3 =>
    gu (ib 0 1) <|
    vl (wL x1.2 128 (Int32.toNatClampNeg 0) v3) fun m5 =>
    some (0, m5)
  | .inr E =>
    if E = "java/lang/IllegalArgumentException" then
      some (1, x1.2)
    else
      none
set_option maxRecDepth 20000 in
theorem T_L_insurer_0 (G : GX) (fu : Nat)  (hG : gt G = tbl) : ∀ (a1 : Int32) (a2 : Int32) (μ : Mem) (r : (Int32 × Mem)) , D_L_insurer_0 fu a1 a2 μ = some r → V G mL_insurer 0 [some (.ref 0), some (.int a1), some (.int a2), some (.ref 128), none] [] μ (.inl (some (.int r.1))) (r.2) := by
  intro a1 a2 μ r h
  unfold D_L_insurer_0 at h
  refine V_aload_n dL_insurer_0 rfl ?_
  refine V_iconst (v := 0) dL_insurer_1 rfl ?_
  refine V_aload_n dL_insurer_2 rfl ?_
  refine V_iload_n dL_insurer_3 rfl ?_
  refine V_iload_n dL_insurer_4 rfl ?_
  obtain ⟨x1, y2, h⟩ := bi_o h
  have z := VM_X6_insurer G fu hG a1 a2 μ _ y2
  obtain ⟨u1, m1⟩ := x1
  dsimp only at z h
  cases u1 with
  | inl v3 =>
    dsimp only at h
    refine V_callV (as := [.int a1, .int a2]) (q := 0) (rest := [.int 0, .ref 128]) dL_insurer_5 ov_mX6_insurer lk_RL_88 (by decide) (by decide) rfl rfl (Nat.le_of_ble_eq_true rfl) (tq_0 hG) rfl (z) ?_
    obtain ⟨g4, h⟩ := gu_o h
    obtain ⟨m5, e6, h⟩ := vl_o h
    refine V_lastore (μ2 := m5) dL_insurer_8 (tq_128 hG) (ib_in g4) e6.symm ?_
    refine V_goto (tgt := 16) dL_insurer_9 (by decide) ?_
    refine V_iconst (v := 0) dL_insurer_16 rfl ?_
    cases h
    exact V_iret rfl dL_insurer_17
  | inr E =>
    dsimp only at h
    by_cases hE0 : E = "java/lang/IllegalArgumentException"
    · rw [if_pos hE0] at h
      subst hE0
      refine V_callVH (as := [.int a1, .int a2]) (q := 0) (rest := [.int 0, .ref 128]) [] [] dL_insurer_5 rfl (fun _ h9 => absurd h9 List.not_mem_nil) (by decide) (by decide) cl_RL_13 (by decide +kernel) ov_mX6_insurer lk_RL_88 (by decide) (by decide) rfl rfl (Nat.le_of_ble_eq_true rfl) (tq_0 hG) rfl z (fun a => ?_)
      refine V_astoreR (lv2 := [some (.ref 0), some (.int a1), some (.int a2), some (.ref 128), some (.retAddr a)]) dL_insurer_12 (by decide) rfl ?_
      refine V_iconst (v := 1) dL_insurer_14 rfl ?_
      cases h
      exact V_iret rfl dL_insurer_15
    · rw [if_neg hE0] at h
      cases h
theorem VM_L_insurer (G : GX) (fu : Nat)  (hG : gt G = tbl) (a1 : Int32) (a2 : Int32) (μ : Mem) (r : (Int32 × Mem)) (h : D_L_insurer_0 fu a1 a2 μ = some r) : VM G mL_insurer [.ref 0, .int a1, .int a2, .ref 128] μ (.inl (some (.int r.1))) (r.2) := V_entryH ok_mL_insurer rfl rfl (Nat.le_of_ble_eq_true rfl) (T_L_insurer_0 G fu hG a1 a2 μ r h)
def D_L_burden_0 (fu : Nat)  (a1 : Int32) (μ : Mem) : Option (Int32 × Mem) :=
  (D_X6_burden_0 fu a1 μ).bind fun x1 =>
  match x1.1 with
  | .inl v3 =>
    gu (ib 0 1) <|
    vl (wL x1.2 128 (Int32.toNatClampNeg 0) v3) fun m5 =>
    some (0, m5)
  | .inr E =>
    if E = "java/lang/IllegalArgumentException" then
      some (1, x1.2)
    else
      none
set_option maxRecDepth 20000 in
theorem T_L_burden_0 (G : GX) (fu : Nat)  (hG : gt G = tbl) : ∀ (a1 : Int32) (μ : Mem) (r : (Int32 × Mem)) , D_L_burden_0 fu a1 μ = some r → V G mL_burden 0 [some (.ref 0), some (.int a1), some (.ref 128), none] [] μ (.inl (some (.int r.1))) (r.2) := by
  intro a1 μ r h
  unfold D_L_burden_0 at h
  refine V_aload_n dL_burden_0 rfl ?_
  refine V_iconst (v := 0) dL_burden_1 rfl ?_
  refine V_aload_n dL_burden_2 rfl ?_
  refine V_iload_n dL_burden_3 rfl ?_
  obtain ⟨x1, y2, h⟩ := bi_o h
  have z := VM_X6_burden G fu hG a1 μ _ y2
  obtain ⟨u1, m1⟩ := x1
  dsimp only at z h
  cases u1 with
  | inl v3 =>
    dsimp only at h
    refine V_callV (as := [.int a1]) (q := 0) (rest := [.int 0, .ref 128]) dL_burden_4 ov_mX6_burden lk_RL_91 (by decide) (by decide) rfl rfl (Nat.le_of_ble_eq_true rfl) (tq_0 hG) rfl (z) ?_
    obtain ⟨g4, h⟩ := gu_o h
    obtain ⟨m5, e6, h⟩ := vl_o h
    refine V_lastore (μ2 := m5) dL_burden_7 (tq_128 hG) (ib_in g4) e6.symm ?_
    refine V_goto (tgt := 14) dL_burden_8 (by decide) ?_
    refine V_iconst (v := 0) dL_burden_14 rfl ?_
    cases h
    exact V_iret rfl dL_burden_15
  | inr E =>
    dsimp only at h
    by_cases hE0 : E = "java/lang/IllegalArgumentException"
    · rw [if_pos hE0] at h
      subst hE0
      refine V_callVH (as := [.int a1]) (q := 0) (rest := [.int 0, .ref 128]) [] [] dL_burden_4 rfl (fun _ h9 => absurd h9 List.not_mem_nil) (by decide) (by decide) cl_RL_13 (by decide +kernel) ov_mX6_burden lk_RL_91 (by decide) (by decide) rfl rfl (Nat.le_of_ble_eq_true rfl) (tq_0 hG) rfl z (fun a => ?_)
      refine V_astoreR_n (lv2 := [some (.ref 0), some (.int a1), some (.ref 128), some (.retAddr a)]) dL_burden_11 (by decide) rfl ?_
      refine V_iconst (v := 1) dL_burden_12 rfl ?_
      cases h
      exact V_iret rfl dL_burden_13
    · rw [if_neg hE0] at h
      cases h
theorem VM_L_burden (G : GX) (fu : Nat)  (hG : gt G = tbl) (a1 : Int32) (μ : Mem) (r : (Int32 × Mem)) (h : D_L_burden_0 fu a1 μ = some r) : VM G mL_burden [.ref 0, .int a1, .ref 128] μ (.inl (some (.int r.1))) (r.2) := V_entryH ok_mL_burden rfl rfl (Nat.le_of_ble_eq_true rfl) (T_L_burden_0 G fu hG a1 μ r h)
def D_L_rank_0 (fu : Nat)  (a1 : Int32) (μ : Mem) : Option (Int32 × Mem) :=
  (D_X6_rank_0 fu a1 μ).bind fun x1 =>
  match x1.1 with
  | .inl v3 =>
    gu (ib 0 1) <|
    vl (wL x1.2 128 (Int32.toNatClampNeg 0) ((v3 : Int32).toInt64)) fun m5 =>
    some (0, m5)
  | .inr E =>
    if E = "java/lang/IllegalArgumentException" then
      some (1, x1.2)
    else
      none
set_option maxRecDepth 20000 in
theorem T_L_rank_0 (G : GX) (fu : Nat)  (hG : gt G = tbl) : ∀ (a1 : Int32) (μ : Mem) (r : (Int32 × Mem)) , D_L_rank_0 fu a1 μ = some r → V G mL_rank 0 [some (.ref 0), some (.int a1), some (.ref 128), none] [] μ (.inl (some (.int r.1))) (r.2) := by
  intro a1 μ r h
  unfold D_L_rank_0 at h
  refine V_aload_n dL_rank_0 rfl ?_
  refine V_iconst (v := 0) dL_rank_1 rfl ?_
  refine V_aload_n dL_rank_2 rfl ?_
  refine V_iload_n dL_rank_3 rfl ?_
  obtain ⟨x1, y2, h⟩ := bi_o h
  have z := VM_X6_rank G fu hG a1 μ _ y2
  obtain ⟨u1, m1⟩ := x1
  dsimp only at z h
  cases u1 with
  | inl v3 =>
    dsimp only at h
    refine V_callV (as := [.int a1]) (q := 0) (rest := [.int 0, .ref 128]) dL_rank_4 ov_mX6_rank lk_RL_94 (by decide) (by decide) rfl rfl (Nat.le_of_ble_eq_true rfl) (tq_0 hG) rfl (z) ?_
    refine V_i2l dL_rank_7 ?_
    obtain ⟨g4, h⟩ := gu_o h
    obtain ⟨m5, e6, h⟩ := vl_o h
    refine V_lastore (μ2 := m5) dL_rank_8 (tq_128 hG) (ib_in g4) e6.symm ?_
    refine V_goto (tgt := 15) dL_rank_9 (by decide) ?_
    refine V_iconst (v := 0) dL_rank_15 rfl ?_
    cases h
    exact V_iret rfl dL_rank_16
  | inr E =>
    dsimp only at h
    by_cases hE0 : E = "java/lang/IllegalArgumentException"
    · rw [if_pos hE0] at h
      subst hE0
      refine V_callVH (as := [.int a1]) (q := 0) (rest := [.int 0, .ref 128]) [] [] dL_rank_4 rfl (fun _ h9 => absurd h9 List.not_mem_nil) (by decide) (by decide) cl_RL_13 (by decide +kernel) ov_mX6_rank lk_RL_94 (by decide) (by decide) rfl rfl (Nat.le_of_ble_eq_true rfl) (tq_0 hG) rfl z (fun a => ?_)
      refine V_astoreR_n (lv2 := [some (.ref 0), some (.int a1), some (.ref 128), some (.retAddr a)]) dL_rank_12 (by decide) rfl ?_
      refine V_iconst (v := 1) dL_rank_13 rfl ?_
      cases h
      exact V_iret rfl dL_rank_14
    · rw [if_neg hE0] at h
      cases h
theorem VM_L_rank (G : GX) (fu : Nat)  (hG : gt G = tbl) (a1 : Int32) (μ : Mem) (r : (Int32 × Mem)) (h : D_L_rank_0 fu a1 μ = some r) : VM G mL_rank [.ref 0, .int a1, .ref 128] μ (.inl (some (.int r.1))) (r.2) := V_entryH ok_mL_rank rfl rfl (Nat.le_of_ble_eq_true rfl) (T_L_rank_0 G fu hG a1 μ r h)
def D_L_offs_0 (fu : Nat)  (a1 : Int32) (a2 : Int32) (a3 : Int32) (a4 : Int32) (μ : Mem) : Option (Int32 × Mem) :=
  (D_X6_offs_0 fu a1 a2 a3 a4 μ).bind fun x1 =>
  match x1.1 with
  | .inl v3 =>
    gu (ib 0 1) <|
    vl (wL x1.2 128 (Int32.toNatClampNeg 0) ((v3 : Int32).toInt64)) fun m5 =>
    some (0, m5)
  | .inr E =>
    if E = "java/lang/IllegalArgumentException" then
      some (1, x1.2)
    else
      none
set_option maxRecDepth 20000 in
theorem T_L_offs_0 (G : GX) (fu : Nat)  (hG : gt G = tbl) : ∀ (a1 : Int32) (a2 : Int32) (a3 : Int32) (a4 : Int32) (μ : Mem) (r : (Int32 × Mem)) , D_L_offs_0 fu a1 a2 a3 a4 μ = some r → V G mL_offs 0 [some (.ref 0), some (.int a1), some (.int a2), some (.int a3), some (.int a4), some (.ref 128), none] [] μ (.inl (some (.int r.1))) (r.2) := by
  intro a1 a2 a3 a4 μ r h
  unfold D_L_offs_0 at h
  refine V_aload dL_offs_0 rfl ?_
  refine V_iconst (v := 0) dL_offs_2 rfl ?_
  refine V_aload_n dL_offs_3 rfl ?_
  refine V_iload_n dL_offs_4 rfl ?_
  refine V_iload_n dL_offs_5 rfl ?_
  refine V_iload_n dL_offs_6 rfl ?_
  refine V_iload dL_offs_7 rfl ?_
  obtain ⟨x1, y2, h⟩ := bi_o h
  have z := VM_X6_offs G fu hG a1 a2 a3 a4 μ _ y2
  obtain ⟨u1, m1⟩ := x1
  dsimp only at z h
  cases u1 with
  | inl v3 =>
    dsimp only at h
    refine V_callV (as := [.int a1, .int a2, .int a3, .int a4]) (q := 0) (rest := [.int 0, .ref 128]) dL_offs_9 ov_mX6_offs lk_RL_97 (by decide) (by decide) rfl rfl (Nat.le_of_ble_eq_true rfl) (tq_0 hG) rfl (z) ?_
    refine V_i2l dL_offs_12 ?_
    obtain ⟨g4, h⟩ := gu_o h
    obtain ⟨m5, e6, h⟩ := vl_o h
    refine V_lastore (μ2 := m5) dL_offs_13 (tq_128 hG) (ib_in g4) e6.symm ?_
    refine V_goto (tgt := 21) dL_offs_14 (by decide) ?_
    refine V_iconst (v := 0) dL_offs_21 rfl ?_
    cases h
    exact V_iret rfl dL_offs_22
  | inr E =>
    dsimp only at h
    by_cases hE0 : E = "java/lang/IllegalArgumentException"
    · rw [if_pos hE0] at h
      subst hE0
      refine V_callVH (as := [.int a1, .int a2, .int a3, .int a4]) (q := 0) (rest := [.int 0, .ref 128]) [] [] dL_offs_9 rfl (fun _ h9 => absurd h9 List.not_mem_nil) (by decide) (by decide) cl_RL_13 (by decide +kernel) ov_mX6_offs lk_RL_97 (by decide) (by decide) rfl rfl (Nat.le_of_ble_eq_true rfl) (tq_0 hG) rfl z (fun a => ?_)
      refine V_astoreR (lv2 := [some (.ref 0), some (.int a1), some (.int a2), some (.int a3), some (.int a4), some (.ref 128), some (.retAddr a)]) dL_offs_17 (by decide) rfl ?_
      refine V_iconst (v := 1) dL_offs_19 rfl ?_
      cases h
      exact V_iret rfl dL_offs_20
    · rw [if_neg hE0] at h
      cases h
theorem VM_L_offs (G : GX) (fu : Nat)  (hG : gt G = tbl) (a1 : Int32) (a2 : Int32) (a3 : Int32) (a4 : Int32) (μ : Mem) (r : (Int32 × Mem)) (h : D_L_offs_0 fu a1 a2 a3 a4 μ = some r) : VM G mL_offs [.ref 0, .int a1, .int a2, .int a3, .int a4, .ref 128] μ (.inl (some (.int r.1))) (r.2) := V_entryH ok_mL_offs rfl rfl (Nat.le_of_ble_eq_true rfl) (T_L_offs_0 G fu hG a1 a2 a3 a4 μ r h)
def D_L_would_0 (fu : Nat)  (a1 : Int32) (a2 : Int32) (a3 : Int32) (a4 : Int32) (a5 : Int32) (μ : Mem) : Option (Int32 × Mem) :=
  (D_X6_would_0 fu a1 a2 a3 a4 a5 μ).bind fun x1 =>
  match x1.1 with
  | .inl v3 =>
    gu (ib 0 1) <|
    vl (wL x1.2 128 (Int32.toNatClampNeg 0) v3) fun m5 =>
    some (0, m5)
  | .inr E =>
    if E = "java/lang/IllegalArgumentException" then
      some (1, x1.2)
    else
      none
set_option maxRecDepth 20000 in
theorem T_L_would_0 (G : GX) (fu : Nat)  (hG : gt G = tbl) : ∀ (a1 : Int32) (a2 : Int32) (a3 : Int32) (a4 : Int32) (a5 : Int32) (μ : Mem) (r : (Int32 × Mem)) , D_L_would_0 fu a1 a2 a3 a4 a5 μ = some r → V G mL_would 0 [some (.ref 0), some (.int a1), some (.int a2), some (.int a3), some (.int a4), some (.int a5), some (.ref 128), none] [] μ (.inl (some (.int r.1))) (r.2) := by
  intro a1 a2 a3 a4 a5 μ r h
  unfold D_L_would_0 at h
  refine V_aload dL_would_0 rfl ?_
  refine V_iconst (v := 0) dL_would_2 rfl ?_
  refine V_aload_n dL_would_3 rfl ?_
  refine V_iload_n dL_would_4 rfl ?_
  refine V_iload_n dL_would_5 rfl ?_
  refine V_iload_n dL_would_6 rfl ?_
  refine V_iload dL_would_7 rfl ?_
  refine V_iload dL_would_9 rfl ?_
  obtain ⟨x1, y2, h⟩ := bi_o h
  have z := VM_X6_would G fu hG a1 a2 a3 a4 a5 μ _ y2
  obtain ⟨u1, m1⟩ := x1
  dsimp only at z h
  cases u1 with
  | inl v3 =>
    dsimp only at h
    refine V_callV (as := [.int a1, .int a2, .int a3, .int a4, .int a5]) (q := 0) (rest := [.int 0, .ref 128]) dL_would_11 ov_mX6_would lk_RL_100 (by decide) (by decide) rfl rfl (Nat.le_of_ble_eq_true rfl) (tq_0 hG) rfl (z) ?_
    obtain ⟨g4, h⟩ := gu_o h
    obtain ⟨m5, e6, h⟩ := vl_o h
    refine V_lastore (μ2 := m5) dL_would_14 (tq_128 hG) (ib_in g4) e6.symm ?_
    refine V_goto (tgt := 22) dL_would_15 (by decide) ?_
    refine V_iconst (v := 0) dL_would_22 rfl ?_
    cases h
    exact V_iret rfl dL_would_23
  | inr E =>
    dsimp only at h
    by_cases hE0 : E = "java/lang/IllegalArgumentException"
    · rw [if_pos hE0] at h
      subst hE0
      refine V_callVH (as := [.int a1, .int a2, .int a3, .int a4, .int a5]) (q := 0) (rest := [.int 0, .ref 128]) [] [] dL_would_11 rfl (fun _ h9 => absurd h9 List.not_mem_nil) (by decide) (by decide) cl_RL_13 (by decide +kernel) ov_mX6_would lk_RL_100 (by decide) (by decide) rfl rfl (Nat.le_of_ble_eq_true rfl) (tq_0 hG) rfl z (fun a => ?_)
      refine V_astoreR (lv2 := [some (.ref 0), some (.int a1), some (.int a2), some (.int a3), some (.int a4), some (.int a5), some (.ref 128), some (.retAddr a)]) dL_would_18 (by decide) rfl ?_
      refine V_iconst (v := 1) dL_would_20 rfl ?_
      cases h
      exact V_iret rfl dL_would_21
    · rw [if_neg hE0] at h
      cases h
theorem VM_L_would (G : GX) (fu : Nat)  (hG : gt G = tbl) (a1 : Int32) (a2 : Int32) (a3 : Int32) (a4 : Int32) (a5 : Int32) (μ : Mem) (r : (Int32 × Mem)) (h : D_L_would_0 fu a1 a2 a3 a4 a5 μ = some r) : VM G mL_would [.ref 0, .int a1, .int a2, .int a3, .int a4, .int a5, .ref 128] μ (.inl (some (.int r.1))) (r.2) := V_entryH ok_mL_would rfl rfl (Nat.le_of_ble_eq_true rfl) (T_L_would_0 G fu hG a1 a2 a3 a4 a5 μ r h)
def D_L_takes_0 (fu : Nat)  (a1 : Int32) (a2 : Int32) (a3 : Int32) (a4 : Int32) (a5 : Int32) (μ : Mem) : Option (Int32 × Mem) :=
  (D_X6_takes_0 fu a1 a2 a3 a4 a5 μ).bind fun x1 =>
  match x1.1 with
  | .inl v3 =>
    gu (ib 0 1) <|
    vl (wL x1.2 128 (Int32.toNatClampNeg 0) v3) fun m5 =>
    some (0, m5)
  | .inr E =>
    if E = "java/util/NoSuchElementException" then
      some (1, x1.2)
    else
    if E = "java/lang/IllegalArgumentException" then
      some (2, x1.2)
    else
      none
set_option maxRecDepth 20000 in
theorem T_L_takes_0 (G : GX) (fu : Nat)  (hG : gt G = tbl) : ∀ (a1 : Int32) (a2 : Int32) (a3 : Int32) (a4 : Int32) (a5 : Int32) (μ : Mem) (r : (Int32 × Mem)) , D_L_takes_0 fu a1 a2 a3 a4 a5 μ = some r → V G mL_takes 0 [some (.ref 0), some (.int a1), some (.int a2), some (.int a3), some (.int a4), some (.int a5), some (.ref 128), none] [] μ (.inl (some (.int r.1))) (r.2) := by
  intro a1 a2 a3 a4 a5 μ r h
  unfold D_L_takes_0 at h
  refine V_aload dL_takes_0 rfl ?_
  refine V_iconst (v := 0) dL_takes_2 rfl ?_
  refine V_aload_n dL_takes_3 rfl ?_
  refine V_iload_n dL_takes_4 rfl ?_
  refine V_iload_n dL_takes_5 rfl ?_
  refine V_iload_n dL_takes_6 rfl ?_
  refine V_iload dL_takes_7 rfl ?_
  refine V_iload dL_takes_9 rfl ?_
  obtain ⟨x1, y2, h⟩ := bi_o h
  have z := VM_X6_takes G fu hG a1 a2 a3 a4 a5 μ _ y2
  obtain ⟨u1, m1⟩ := x1
  dsimp only at z h
  cases u1 with
  | inl v3 =>
    dsimp only at h
    refine V_callV (as := [.int a1, .int a2, .int a3, .int a4, .int a5]) (q := 0) (rest := [.int 0, .ref 128]) dL_takes_11 ov_mX6_takes lk_RL_104 (by decide) (by decide) rfl rfl (Nat.le_of_ble_eq_true rfl) (tq_0 hG) rfl (z) ?_
    obtain ⟨g4, h⟩ := gu_o h
    obtain ⟨m5, e6, h⟩ := vl_o h
    refine V_lastore (μ2 := m5) dL_takes_14 (tq_128 hG) (ib_in g4) e6.symm ?_
    refine V_goto (tgt := 26) dL_takes_15 (by decide) ?_
    refine V_iconst (v := 0) dL_takes_26 rfl ?_
    cases h
    exact V_iret rfl dL_takes_27
  | inr E =>
    dsimp only at h
    by_cases hE0 : E = "java/util/NoSuchElementException"
    · rw [if_pos hE0] at h
      subst hE0
      refine V_callVH (as := [.int a1, .int a2, .int a3, .int a4, .int a5]) (q := 0) (rest := [.int 0, .ref 128]) [] [(0, 15, 22, 13)] dL_takes_11 rfl (fun _ h9 => absurd h9 List.not_mem_nil) (by decide) (by decide) cl_RL_21 (by decide +kernel) ov_mX6_takes lk_RL_104 (by decide) (by decide) rfl rfl (Nat.le_of_ble_eq_true rfl) (tq_0 hG) rfl z (fun a => ?_)
      refine V_astoreR (lv2 := [some (.ref 0), some (.int a1), some (.int a2), some (.int a3), some (.int a4), some (.int a5), some (.ref 128), some (.retAddr a)]) dL_takes_18 (by decide) rfl ?_
      refine V_iconst (v := 1) dL_takes_20 rfl ?_
      cases h
      exact V_iret rfl dL_takes_21
    · rw [if_neg hE0] at h
      by_cases hE1 : E = "java/lang/IllegalArgumentException"
      · rw [if_pos hE1] at h
        subst hE1
        refine V_callVH (as := [.int a1, .int a2, .int a3, .int a4, .int a5]) (q := 0) (rest := [.int 0, .ref 128]) [(0, 15, 18, 21)] [] dL_takes_11 rfl (List.forall_mem_cons.mpr ⟨⟨by decide, "java/util/NoSuchElementException", cl_RL_21, by decide +kernel⟩, (fun _ h9 => absurd h9 List.not_mem_nil)⟩) (by decide) (by decide) cl_RL_13 (by decide +kernel) ov_mX6_takes lk_RL_104 (by decide) (by decide) rfl rfl (Nat.le_of_ble_eq_true rfl) (tq_0 hG) rfl z (fun a => ?_)
        refine V_astoreR (lv2 := [some (.ref 0), some (.int a1), some (.int a2), some (.int a3), some (.int a4), some (.int a5), some (.ref 128), some (.retAddr a)]) dL_takes_22 (by decide) rfl ?_
        refine V_iconst (v := 2) dL_takes_24 rfl ?_
        cases h
        exact V_iret rfl dL_takes_25
      · rw [if_neg hE1] at h
        cases h
theorem VM_L_takes (G : GX) (fu : Nat)  (hG : gt G = tbl) (a1 : Int32) (a2 : Int32) (a3 : Int32) (a4 : Int32) (a5 : Int32) (μ : Mem) (r : (Int32 × Mem)) (h : D_L_takes_0 fu a1 a2 a3 a4 a5 μ = some r) : VM G mL_takes [.ref 0, .int a1, .int a2, .int a3, .int a4, .int a5, .ref 128] μ (.inl (some (.int r.1))) (r.2) := V_entryH ok_mL_takes rfl rfl (Nat.le_of_ble_eq_true rfl) (T_L_takes_0 G fu hG a1 a2 a3 a4 a5 μ r h)
def D_L_drops_0 (fu : Nat)  (a1 : Int32) (a2 : Int32) (a3 : Int32) (a4 : Int32) (a5 : Int32) (μ : Mem) : Option (Int32 × Mem) :=
  (D_X6_drops_0 fu a1 a2 a3 a4 a5 μ).bind fun x1 =>
  match x1.1 with
  | .inl v3 =>
    gu (ib 0 1) <|
    vl (wL x1.2 128 (Int32.toNatClampNeg 0) v3) fun m5 =>
    some (0, m5)
  | .inr E =>
    if E = "java/lang/IllegalArgumentException" then
      some (1, x1.2)
    else
      none
set_option maxRecDepth 20000 in
theorem T_L_drops_0 (G : GX) (fu : Nat)  (hG : gt G = tbl) : ∀ (a1 : Int32) (a2 : Int32) (a3 : Int32) (a4 : Int32) (a5 : Int32) (μ : Mem) (r : (Int32 × Mem)) , D_L_drops_0 fu a1 a2 a3 a4 a5 μ = some r → V G mL_drops 0 [some (.ref 0), some (.int a1), some (.int a2), some (.int a3), some (.int a4), some (.int a5), some (.ref 128), none] [] μ (.inl (some (.int r.1))) (r.2) := by
  intro a1 a2 a3 a4 a5 μ r h
  unfold D_L_drops_0 at h
  refine V_aload dL_drops_0 rfl ?_
  refine V_iconst (v := 0) dL_drops_2 rfl ?_
  refine V_aload_n dL_drops_3 rfl ?_
  refine V_iload_n dL_drops_4 rfl ?_
  refine V_iload_n dL_drops_5 rfl ?_
  refine V_iload_n dL_drops_6 rfl ?_
  refine V_iload dL_drops_7 rfl ?_
  refine V_iload dL_drops_9 rfl ?_
  obtain ⟨x1, y2, h⟩ := bi_o h
  have z := VM_X6_drops G fu hG a1 a2 a3 a4 a5 μ _ y2
  obtain ⟨u1, m1⟩ := x1
  dsimp only at z h
  cases u1 with
  | inl v3 =>
    dsimp only at h
    refine V_callV (as := [.int a1, .int a2, .int a3, .int a4, .int a5]) (q := 0) (rest := [.int 0, .ref 128]) dL_drops_11 ov_mX6_drops lk_RL_107 (by decide) (by decide) rfl rfl (Nat.le_of_ble_eq_true rfl) (tq_0 hG) rfl (z) ?_
    obtain ⟨g4, h⟩ := gu_o h
    obtain ⟨m5, e6, h⟩ := vl_o h
    refine V_lastore (μ2 := m5) dL_drops_14 (tq_128 hG) (ib_in g4) e6.symm ?_
    refine V_goto (tgt := 22) dL_drops_15 (by decide) ?_
    refine V_iconst (v := 0) dL_drops_22 rfl ?_
    cases h
    exact V_iret rfl dL_drops_23
  | inr E =>
    dsimp only at h
    by_cases hE0 : E = "java/lang/IllegalArgumentException"
    · rw [if_pos hE0] at h
      subst hE0
      refine V_callVH (as := [.int a1, .int a2, .int a3, .int a4, .int a5]) (q := 0) (rest := [.int 0, .ref 128]) [] [] dL_drops_11 rfl (fun _ h9 => absurd h9 List.not_mem_nil) (by decide) (by decide) cl_RL_13 (by decide +kernel) ov_mX6_drops lk_RL_107 (by decide) (by decide) rfl rfl (Nat.le_of_ble_eq_true rfl) (tq_0 hG) rfl z (fun a => ?_)
      refine V_astoreR (lv2 := [some (.ref 0), some (.int a1), some (.int a2), some (.int a3), some (.int a4), some (.int a5), some (.ref 128), some (.retAddr a)]) dL_drops_18 (by decide) rfl ?_
      refine V_iconst (v := 1) dL_drops_20 rfl ?_
      cases h
      exact V_iret rfl dL_drops_21
    · rw [if_neg hE0] at h
      cases h
theorem VM_L_drops (G : GX) (fu : Nat)  (hG : gt G = tbl) (a1 : Int32) (a2 : Int32) (a3 : Int32) (a4 : Int32) (a5 : Int32) (μ : Mem) (r : (Int32 × Mem)) (h : D_L_drops_0 fu a1 a2 a3 a4 a5 μ = some r) : VM G mL_drops [.ref 0, .int a1, .int a2, .int a3, .int a4, .int a5, .ref 128] μ (.inl (some (.int r.1))) (r.2) := V_entryH ok_mL_drops rfl rfl (Nat.le_of_ble_eq_true rfl) (T_L_drops_0 G fu hG a1 a2 a3 a4 a5 μ r h)
def D_L_share_0 (fu : Nat)  (a1 : Int32) (a2 : Int32) (a3 : Int32) (a4 : Int32) (a5 : Int32) (μ : Mem) : Option (Int32 × Mem) :=
  (D_X6_share_0 fu a1 a2 a3 a4 a5 μ).bind fun x1 =>
  match x1.1 with
  | .inl v3 =>
    gu (ib 0 1) <|
    vl (wL x1.2 128 (Int32.toNatClampNeg 0) v3) fun m5 =>
    some (0, m5)
  | .inr E =>
    if E = "java/lang/IllegalArgumentException" then
      some (1, x1.2)
    else
      none
set_option maxRecDepth 20000 in
theorem T_L_share_0 (G : GX) (fu : Nat)  (hG : gt G = tbl) : ∀ (a1 : Int32) (a2 : Int32) (a3 : Int32) (a4 : Int32) (a5 : Int32) (μ : Mem) (r : (Int32 × Mem)) , D_L_share_0 fu a1 a2 a3 a4 a5 μ = some r → V G mL_share 0 [some (.ref 0), some (.int a1), some (.int a2), some (.int a3), some (.int a4), some (.int a5), some (.ref 128), none] [] μ (.inl (some (.int r.1))) (r.2) := by
  intro a1 a2 a3 a4 a5 μ r h
  unfold D_L_share_0 at h
  refine V_aload dL_share_0 rfl ?_
  refine V_iconst (v := 0) dL_share_2 rfl ?_
  refine V_aload_n dL_share_3 rfl ?_
  refine V_iload_n dL_share_4 rfl ?_
  refine V_iload_n dL_share_5 rfl ?_
  refine V_iload_n dL_share_6 rfl ?_
  refine V_iload dL_share_7 rfl ?_
  refine V_iload dL_share_9 rfl ?_
  obtain ⟨x1, y2, h⟩ := bi_o h
  have z := VM_X6_share G fu hG a1 a2 a3 a4 a5 μ _ y2
  obtain ⟨u1, m1⟩ := x1
  dsimp only at z h
  cases u1 with
  | inl v3 =>
    dsimp only at h
    refine V_callV (as := [.int a1, .int a2, .int a3, .int a4, .int a5]) (q := 0) (rest := [.int 0, .ref 128]) dL_share_11 ov_mX6_share lk_RL_110 (by decide) (by decide) rfl rfl (Nat.le_of_ble_eq_true rfl) (tq_0 hG) rfl (z) ?_
    obtain ⟨g4, h⟩ := gu_o h
    obtain ⟨m5, e6, h⟩ := vl_o h
    refine V_lastore (μ2 := m5) dL_share_14 (tq_128 hG) (ib_in g4) e6.symm ?_
    refine V_goto (tgt := 22) dL_share_15 (by decide) ?_
    refine V_iconst (v := 0) dL_share_22 rfl ?_
    cases h
    exact V_iret rfl dL_share_23
  | inr E =>
    dsimp only at h
    by_cases hE0 : E = "java/lang/IllegalArgumentException"
    · rw [if_pos hE0] at h
      subst hE0
      refine V_callVH (as := [.int a1, .int a2, .int a3, .int a4, .int a5]) (q := 0) (rest := [.int 0, .ref 128]) [] [] dL_share_11 rfl (fun _ h9 => absurd h9 List.not_mem_nil) (by decide) (by decide) cl_RL_13 (by decide +kernel) ov_mX6_share lk_RL_110 (by decide) (by decide) rfl rfl (Nat.le_of_ble_eq_true rfl) (tq_0 hG) rfl z (fun a => ?_)
      refine V_astoreR (lv2 := [some (.ref 0), some (.int a1), some (.int a2), some (.int a3), some (.int a4), some (.int a5), some (.ref 128), some (.retAddr a)]) dL_share_18 (by decide) rfl ?_
      refine V_iconst (v := 1) dL_share_20 rfl ?_
      cases h
      exact V_iret rfl dL_share_21
    · rw [if_neg hE0] at h
      cases h
theorem VM_L_share (G : GX) (fu : Nat)  (hG : gt G = tbl) (a1 : Int32) (a2 : Int32) (a3 : Int32) (a4 : Int32) (a5 : Int32) (μ : Mem) (r : (Int32 × Mem)) (h : D_L_share_0 fu a1 a2 a3 a4 a5 μ = some r) : VM G mL_share [.ref 0, .int a1, .int a2, .int a3, .int a4, .int a5, .ref 128] μ (.inl (some (.int r.1))) (r.2) := V_entryH ok_mL_share rfl rfl (Nat.le_of_ble_eq_true rfl) (T_L_share_0 G fu hG a1 a2 a3 a4 a5 μ r h)
def D_L_weight_0 (fu : Nat)  (a1 : Int32) (a2 : Int32) (a3 : Int32) (a4 : Int32) (μ : Mem) : Option (Int32 × Mem) :=
  (D_X6_weight_0 fu a1 a2 a3 a4 μ).bind fun x1 =>
  match x1.1 with
  | .inl v3 =>
    gu (ib 0 1) <|
    vl (wL x1.2 128 (Int32.toNatClampNeg 0) v3) fun m5 =>
    some (0, m5)
  | .inr E =>
    if E = "java/lang/IllegalArgumentException" then
      some (1, x1.2)
    else
      none
set_option maxRecDepth 20000 in
theorem T_L_weight_0 (G : GX) (fu : Nat)  (hG : gt G = tbl) : ∀ (a1 : Int32) (a2 : Int32) (a3 : Int32) (a4 : Int32) (μ : Mem) (r : (Int32 × Mem)) , D_L_weight_0 fu a1 a2 a3 a4 μ = some r → V G mL_weight 0 [some (.ref 0), some (.int a1), some (.int a2), some (.int a3), some (.int a4), some (.ref 128), none] [] μ (.inl (some (.int r.1))) (r.2) := by
  intro a1 a2 a3 a4 μ r h
  unfold D_L_weight_0 at h
  refine V_aload dL_weight_0 rfl ?_
  refine V_iconst (v := 0) dL_weight_2 rfl ?_
  refine V_aload_n dL_weight_3 rfl ?_
  refine V_iload_n dL_weight_4 rfl ?_
  refine V_iload_n dL_weight_5 rfl ?_
  refine V_iload_n dL_weight_6 rfl ?_
  refine V_iload dL_weight_7 rfl ?_
  obtain ⟨x1, y2, h⟩ := bi_o h
  have z := VM_X6_weight G fu hG a1 a2 a3 a4 μ _ y2
  obtain ⟨u1, m1⟩ := x1
  dsimp only at z h
  cases u1 with
  | inl v3 =>
    dsimp only at h
    refine V_callV (as := [.int a1, .int a2, .int a3, .int a4]) (q := 0) (rest := [.int 0, .ref 128]) dL_weight_9 ov_mX6_weight lk_RL_113 (by decide) (by decide) rfl rfl (Nat.le_of_ble_eq_true rfl) (tq_0 hG) rfl (z) ?_
    obtain ⟨g4, h⟩ := gu_o h
    obtain ⟨m5, e6, h⟩ := vl_o h
    refine V_lastore (μ2 := m5) dL_weight_12 (tq_128 hG) (ib_in g4) e6.symm ?_
    refine V_goto (tgt := 20) dL_weight_13 (by decide) ?_
    refine V_iconst (v := 0) dL_weight_20 rfl ?_
    cases h
    exact V_iret rfl dL_weight_21
  | inr E =>
    dsimp only at h
    by_cases hE0 : E = "java/lang/IllegalArgumentException"
    · rw [if_pos hE0] at h
      subst hE0
      refine V_callVH (as := [.int a1, .int a2, .int a3, .int a4]) (q := 0) (rest := [.int 0, .ref 128]) [] [] dL_weight_9 rfl (fun _ h9 => absurd h9 List.not_mem_nil) (by decide) (by decide) cl_RL_13 (by decide +kernel) ov_mX6_weight lk_RL_113 (by decide) (by decide) rfl rfl (Nat.le_of_ble_eq_true rfl) (tq_0 hG) rfl z (fun a => ?_)
      refine V_astoreR (lv2 := [some (.ref 0), some (.int a1), some (.int a2), some (.int a3), some (.int a4), some (.ref 128), some (.retAddr a)]) dL_weight_16 (by decide) rfl ?_
      refine V_iconst (v := 1) dL_weight_18 rfl ?_
      cases h
      exact V_iret rfl dL_weight_19
    · rw [if_neg hE0] at h
      cases h
theorem VM_L_weight (G : GX) (fu : Nat)  (hG : gt G = tbl) (a1 : Int32) (a2 : Int32) (a3 : Int32) (a4 : Int32) (μ : Mem) (r : (Int32 × Mem)) (h : D_L_weight_0 fu a1 a2 a3 a4 μ = some r) : VM G mL_weight [.ref 0, .int a1, .int a2, .int a3, .int a4, .ref 128] μ (.inl (some (.int r.1))) (r.2) := V_entryH ok_mL_weight rfl rfl (Nat.le_of_ble_eq_true rfl) (T_L_weight_0 G fu hG a1 a2 a3 a4 μ r h)
def D_L_picks_0 (fu : Nat)  (a1 : Int32) (a2 : Int32) (a3 : Int32) (a4 : Int32) (μ : Mem) : Option (Int32 × Mem) :=
  (D_X6_picks_0 fu a1 a2 a3 a4 μ).bind fun x1 =>
  match x1.1 with
  | .inl v3 =>
    gu (ib 0 1) <|
    vl (wL x1.2 128 (Int32.toNatClampNeg 0) ((v3 : Int32).toInt64)) fun m5 =>
    some (0, m5)
  | .inr E =>
    if E = "java/lang/IllegalArgumentException" then
      some (1, x1.2)
    else
      none
set_option maxRecDepth 20000 in
theorem T_L_picks_0 (G : GX) (fu : Nat)  (hG : gt G = tbl) : ∀ (a1 : Int32) (a2 : Int32) (a3 : Int32) (a4 : Int32) (μ : Mem) (r : (Int32 × Mem)) , D_L_picks_0 fu a1 a2 a3 a4 μ = some r → V G mL_picks 0 [some (.ref 0), some (.int a1), some (.int a2), some (.int a3), some (.int a4), some (.ref 128), none] [] μ (.inl (some (.int r.1))) (r.2) := by
  intro a1 a2 a3 a4 μ r h
  unfold D_L_picks_0 at h
  refine V_aload dL_picks_0 rfl ?_
  refine V_iconst (v := 0) dL_picks_2 rfl ?_
  refine V_aload_n dL_picks_3 rfl ?_
  refine V_iload_n dL_picks_4 rfl ?_
  refine V_iload_n dL_picks_5 rfl ?_
  refine V_iload_n dL_picks_6 rfl ?_
  refine V_iload dL_picks_7 rfl ?_
  obtain ⟨x1, y2, h⟩ := bi_o h
  have z := VM_X6_picks G fu hG a1 a2 a3 a4 μ _ y2
  obtain ⟨u1, m1⟩ := x1
  dsimp only at z h
  cases u1 with
  | inl v3 =>
    dsimp only at h
    refine V_callV (as := [.int a1, .int a2, .int a3, .int a4]) (q := 0) (rest := [.int 0, .ref 128]) dL_picks_9 ov_mX6_picks lk_RL_117 (by decide) (by decide) rfl rfl (Nat.le_of_ble_eq_true rfl) (tq_0 hG) rfl (z) ?_
    refine V_i2l dL_picks_12 ?_
    obtain ⟨g4, h⟩ := gu_o h
    obtain ⟨m5, e6, h⟩ := vl_o h
    refine V_lastore (μ2 := m5) dL_picks_13 (tq_128 hG) (ib_in g4) e6.symm ?_
    refine V_goto (tgt := 21) dL_picks_14 (by decide) ?_
    refine V_iconst (v := 0) dL_picks_21 rfl ?_
    cases h
    exact V_iret rfl dL_picks_22
  | inr E =>
    dsimp only at h
    by_cases hE0 : E = "java/lang/IllegalArgumentException"
    · rw [if_pos hE0] at h
      subst hE0
      refine V_callVH (as := [.int a1, .int a2, .int a3, .int a4]) (q := 0) (rest := [.int 0, .ref 128]) [] [] dL_picks_9 rfl (fun _ h9 => absurd h9 List.not_mem_nil) (by decide) (by decide) cl_RL_13 (by decide +kernel) ov_mX6_picks lk_RL_117 (by decide) (by decide) rfl rfl (Nat.le_of_ble_eq_true rfl) (tq_0 hG) rfl z (fun a => ?_)
      refine V_astoreR (lv2 := [some (.ref 0), some (.int a1), some (.int a2), some (.int a3), some (.int a4), some (.ref 128), some (.retAddr a)]) dL_picks_17 (by decide) rfl ?_
      refine V_iconst (v := 1) dL_picks_19 rfl ?_
      cases h
      exact V_iret rfl dL_picks_20
    · rw [if_neg hE0] at h
      cases h
theorem VM_L_picks (G : GX) (fu : Nat)  (hG : gt G = tbl) (a1 : Int32) (a2 : Int32) (a3 : Int32) (a4 : Int32) (μ : Mem) (r : (Int32 × Mem)) (h : D_L_picks_0 fu a1 a2 a3 a4 μ = some r) : VM G mL_picks [.ref 0, .int a1, .int a2, .int a3, .int a4, .ref 128] μ (.inl (some (.int r.1))) (r.2) := V_entryH ok_mL_picks rfl rfl (Nat.le_of_ble_eq_true rfl) (T_L_picks_0 G fu hG a1 a2 a3 a4 μ r h)
def D_L_other_0 (fu : Nat)  (a1 : Int32) (a2 : Int32) (a3 : Int32) (a4 : Int32) (μ : Mem) : Option (Int32 × Mem) :=
  (D_X6_other_0 fu a1 a2 a3 a4 μ).bind fun x1 =>
  match x1.1 with
  | .inl v3 =>
    gu (ib 0 1) <|
    vl (wL x1.2 128 (Int32.toNatClampNeg 0) v3) fun m5 =>
    some (0, m5)
  | .inr E =>
    if E = "java/lang/IllegalArgumentException" then
      some (1, x1.2)
    else
      none
set_option maxRecDepth 20000 in
theorem T_L_other_0 (G : GX) (fu : Nat)  (hG : gt G = tbl) : ∀ (a1 : Int32) (a2 : Int32) (a3 : Int32) (a4 : Int32) (μ : Mem) (r : (Int32 × Mem)) , D_L_other_0 fu a1 a2 a3 a4 μ = some r → V G mL_other 0 [some (.ref 0), some (.int a1), some (.int a2), some (.int a3), some (.int a4), some (.ref 128), none] [] μ (.inl (some (.int r.1))) (r.2) := by
  intro a1 a2 a3 a4 μ r h
  unfold D_L_other_0 at h
  refine V_aload dL_other_0 rfl ?_
  refine V_iconst (v := 0) dL_other_2 rfl ?_
  refine V_aload_n dL_other_3 rfl ?_
  refine V_iload_n dL_other_4 rfl ?_
  refine V_iload_n dL_other_5 rfl ?_
  refine V_iload_n dL_other_6 rfl ?_
  refine V_iload dL_other_7 rfl ?_
  obtain ⟨x1, y2, h⟩ := bi_o h
  have z := VM_X6_other G fu hG a1 a2 a3 a4 μ _ y2
  obtain ⟨u1, m1⟩ := x1
  dsimp only at z h
  cases u1 with
  | inl v3 =>
    dsimp only at h
    refine V_callV (as := [.int a1, .int a2, .int a3, .int a4]) (q := 0) (rest := [.int 0, .ref 128]) dL_other_9 ov_mX6_other lk_RL_120 (by decide) (by decide) rfl rfl (Nat.le_of_ble_eq_true rfl) (tq_0 hG) rfl (z) ?_
    obtain ⟨g4, h⟩ := gu_o h
    obtain ⟨m5, e6, h⟩ := vl_o h
    refine V_lastore (μ2 := m5) dL_other_12 (tq_128 hG) (ib_in g4) e6.symm ?_
    refine V_goto (tgt := 20) dL_other_13 (by decide) ?_
    refine V_iconst (v := 0) dL_other_20 rfl ?_
    cases h
    exact V_iret rfl dL_other_21
  | inr E =>
    dsimp only at h
    by_cases hE0 : E = "java/lang/IllegalArgumentException"
    · rw [if_pos hE0] at h
      subst hE0
      refine V_callVH (as := [.int a1, .int a2, .int a3, .int a4]) (q := 0) (rest := [.int 0, .ref 128]) [] [] dL_other_9 rfl (fun _ h9 => absurd h9 List.not_mem_nil) (by decide) (by decide) cl_RL_13 (by decide +kernel) ov_mX6_other lk_RL_120 (by decide) (by decide) rfl rfl (Nat.le_of_ble_eq_true rfl) (tq_0 hG) rfl z (fun a => ?_)
      refine V_astoreR (lv2 := [some (.ref 0), some (.int a1), some (.int a2), some (.int a3), some (.int a4), some (.ref 128), some (.retAddr a)]) dL_other_16 (by decide) rfl ?_
      refine V_iconst (v := 1) dL_other_18 rfl ?_
      cases h
      exact V_iret rfl dL_other_19
    · rw [if_neg hE0] at h
      cases h
theorem VM_L_other (G : GX) (fu : Nat)  (hG : gt G = tbl) (a1 : Int32) (a2 : Int32) (a3 : Int32) (a4 : Int32) (μ : Mem) (r : (Int32 × Mem)) (h : D_L_other_0 fu a1 a2 a3 a4 μ = some r) : VM G mL_other [.ref 0, .int a1, .int a2, .int a3, .int a4, .ref 128] μ (.inl (some (.int r.1))) (r.2) := V_entryH ok_mL_other rfl rfl (Nat.le_of_ble_eq_true rfl) (T_L_other_0 G fu hG a1 a2 a3 a4 μ r h)
def D_L_best_0 (fu : Nat)  (a1 : Int32) (a2 : Int32) (μ : Mem) : Option (Int32 × Mem) :=
  (D_X6_best_0 fu a1 a2 μ).bind fun x1 =>
  match x1.1 with
  | .inl v3 =>
    gu (ib 0 1) <|
    vl (wL x1.2 128 (Int32.toNatClampNeg 0) v3) fun m5 =>
    some (0, m5)
  | .inr E =>
    if E = "java/lang/IllegalArgumentException" then
      some (1, x1.2)
    else
      none
set_option maxRecDepth 20000 in
theorem T_L_best_0 (G : GX) (fu : Nat)  (hG : gt G = tbl) : ∀ (a1 : Int32) (a2 : Int32) (μ : Mem) (r : (Int32 × Mem)) , D_L_best_0 fu a1 a2 μ = some r → V G mL_best 0 [some (.ref 0), some (.int a1), some (.int a2), some (.ref 128), none] [] μ (.inl (some (.int r.1))) (r.2) := by
  intro a1 a2 μ r h
  unfold D_L_best_0 at h
  refine V_aload_n dL_best_0 rfl ?_
  refine V_iconst (v := 0) dL_best_1 rfl ?_
  refine V_aload_n dL_best_2 rfl ?_
  refine V_iload_n dL_best_3 rfl ?_
  refine V_iload_n dL_best_4 rfl ?_
  obtain ⟨x1, y2, h⟩ := bi_o h
  have z := VM_X6_best G fu hG a1 a2 μ _ y2
  obtain ⟨u1, m1⟩ := x1
  dsimp only at z h
  cases u1 with
  | inl v3 =>
    dsimp only at h
    refine V_callV (as := [.int a1, .int a2]) (q := 0) (rest := [.int 0, .ref 128]) dL_best_5 ov_mX6_best lk_RL_123 (by decide) (by decide) rfl rfl (Nat.le_of_ble_eq_true rfl) (tq_0 hG) rfl (z) ?_
    obtain ⟨g4, h⟩ := gu_o h
    obtain ⟨m5, e6, h⟩ := vl_o h
    refine V_lastore (μ2 := m5) dL_best_8 (tq_128 hG) (ib_in g4) e6.symm ?_
    refine V_goto (tgt := 16) dL_best_9 (by decide) ?_
    refine V_iconst (v := 0) dL_best_16 rfl ?_
    cases h
    exact V_iret rfl dL_best_17
  | inr E =>
    dsimp only at h
    by_cases hE0 : E = "java/lang/IllegalArgumentException"
    · rw [if_pos hE0] at h
      subst hE0
      refine V_callVH (as := [.int a1, .int a2]) (q := 0) (rest := [.int 0, .ref 128]) [] [] dL_best_5 rfl (fun _ h9 => absurd h9 List.not_mem_nil) (by decide) (by decide) cl_RL_13 (by decide +kernel) ov_mX6_best lk_RL_123 (by decide) (by decide) rfl rfl (Nat.le_of_ble_eq_true rfl) (tq_0 hG) rfl z (fun a => ?_)
      refine V_astoreR (lv2 := [some (.ref 0), some (.int a1), some (.int a2), some (.ref 128), some (.retAddr a)]) dL_best_12 (by decide) rfl ?_
      refine V_iconst (v := 1) dL_best_14 rfl ?_
      cases h
      exact V_iret rfl dL_best_15
    · rw [if_neg hE0] at h
      cases h
theorem VM_L_best (G : GX) (fu : Nat)  (hG : gt G = tbl) (a1 : Int32) (a2 : Int32) (μ : Mem) (r : (Int32 × Mem)) (h : D_L_best_0 fu a1 a2 μ = some r) : VM G mL_best [.ref 0, .int a1, .int a2, .ref 128] μ (.inl (some (.int r.1))) (r.2) := V_entryH ok_mL_best rfl rfl (Nat.le_of_ble_eq_true rfl) (T_L_best_0 G fu hG a1 a2 μ r h)
def D_L_without_0 (fu : Nat)  (a1 : Int32) (a2 : Int32) (μ : Mem) : Option (Int32 × Mem) :=
  (D_X6_without_0 fu a1 a2 μ).bind fun x1 =>
  match x1.1 with
  | .inl v3 =>
    gu (ib 0 1) <|
    vl (wL x1.2 128 (Int32.toNatClampNeg 0) v3) fun m5 =>
    some (0, m5)
  | .inr E =>
    if E = "java/util/NoSuchElementException" then
      some (1, x1.2)
    else
    if E = "java/lang/IllegalArgumentException" then
      some (2, x1.2)
    else
      none
set_option maxRecDepth 20000 in
theorem T_L_without_0 (G : GX) (fu : Nat)  (hG : gt G = tbl) : ∀ (a1 : Int32) (a2 : Int32) (μ : Mem) (r : (Int32 × Mem)) , D_L_without_0 fu a1 a2 μ = some r → V G mL_without 0 [some (.ref 0), some (.int a1), some (.int a2), some (.ref 128), none] [] μ (.inl (some (.int r.1))) (r.2) := by
  intro a1 a2 μ r h
  unfold D_L_without_0 at h
  refine V_aload_n dL_without_0 rfl ?_
  refine V_iconst (v := 0) dL_without_1 rfl ?_
  refine V_aload_n dL_without_2 rfl ?_
  refine V_iload_n dL_without_3 rfl ?_
  refine V_iload_n dL_without_4 rfl ?_
  obtain ⟨x1, y2, h⟩ := bi_o h
  have z := VM_X6_without G fu hG a1 a2 μ _ y2
  obtain ⟨u1, m1⟩ := x1
  dsimp only at z h
  cases u1 with
  | inl v3 =>
    dsimp only at h
    refine V_callV (as := [.int a1, .int a2]) (q := 0) (rest := [.int 0, .ref 128]) dL_without_5 ov_mX6_without lk_RL_126 (by decide) (by decide) rfl rfl (Nat.le_of_ble_eq_true rfl) (tq_0 hG) rfl (z) ?_
    obtain ⟨g4, h⟩ := gu_o h
    obtain ⟨m5, e6, h⟩ := vl_o h
    refine V_lastore (μ2 := m5) dL_without_8 (tq_128 hG) (ib_in g4) e6.symm ?_
    refine V_goto (tgt := 20) dL_without_9 (by decide) ?_
    refine V_iconst (v := 0) dL_without_20 rfl ?_
    cases h
    exact V_iret rfl dL_without_21
  | inr E =>
    dsimp only at h
    by_cases hE0 : E = "java/util/NoSuchElementException"
    · rw [if_pos hE0] at h
      subst hE0
      refine V_callVH (as := [.int a1, .int a2]) (q := 0) (rest := [.int 0, .ref 128]) [] [(0, 9, 16, 13)] dL_without_5 rfl (fun _ h9 => absurd h9 List.not_mem_nil) (by decide) (by decide) cl_RL_21 (by decide +kernel) ov_mX6_without lk_RL_126 (by decide) (by decide) rfl rfl (Nat.le_of_ble_eq_true rfl) (tq_0 hG) rfl z (fun a => ?_)
      refine V_astoreR (lv2 := [some (.ref 0), some (.int a1), some (.int a2), some (.ref 128), some (.retAddr a)]) dL_without_12 (by decide) rfl ?_
      refine V_iconst (v := 1) dL_without_14 rfl ?_
      cases h
      exact V_iret rfl dL_without_15
    · rw [if_neg hE0] at h
      by_cases hE1 : E = "java/lang/IllegalArgumentException"
      · rw [if_pos hE1] at h
        subst hE1
        refine V_callVH (as := [.int a1, .int a2]) (q := 0) (rest := [.int 0, .ref 128]) [(0, 9, 12, 21)] [] dL_without_5 rfl (List.forall_mem_cons.mpr ⟨⟨by decide, "java/util/NoSuchElementException", cl_RL_21, by decide +kernel⟩, (fun _ h9 => absurd h9 List.not_mem_nil)⟩) (by decide) (by decide) cl_RL_13 (by decide +kernel) ov_mX6_without lk_RL_126 (by decide) (by decide) rfl rfl (Nat.le_of_ble_eq_true rfl) (tq_0 hG) rfl z (fun a => ?_)
        refine V_astoreR (lv2 := [some (.ref 0), some (.int a1), some (.int a2), some (.ref 128), some (.retAddr a)]) dL_without_16 (by decide) rfl ?_
        refine V_iconst (v := 2) dL_without_18 rfl ?_
        cases h
        exact V_iret rfl dL_without_19
      · rw [if_neg hE1] at h
        cases h
theorem VM_L_without (G : GX) (fu : Nat)  (hG : gt G = tbl) (a1 : Int32) (a2 : Int32) (μ : Mem) (r : (Int32 × Mem)) (h : D_L_without_0 fu a1 a2 μ = some r) : VM G mL_without [.ref 0, .int a1, .int a2, .ref 128] μ (.inl (some (.int r.1))) (r.2) := V_entryH ok_mL_without rfl rfl (Nat.le_of_ble_eq_true rfl) (T_L_without_0 G fu hG a1 a2 μ r h)
def D_L_undone_0 (fu : Nat)  (a1 : Int32) (μ : Mem) : Option (Int32 × Mem) :=
  (D_X6_undone_0 fu a1 μ).bind fun x1 =>
  match x1.1 with
  | .inl v3 =>
    gu (ib 0 1) <|
    vl (wL x1.2 128 (Int32.toNatClampNeg 0) ((v3 : Int32).toInt64)) fun m5 =>
    some (0, m5)
  | .inr E =>
    if E = "java/util/NoSuchElementException" then
      some (1, x1.2)
    else
      none
set_option maxRecDepth 20000 in
theorem T_L_undone_0 (G : GX) (fu : Nat)  (hG : gt G = tbl) : ∀ (a1 : Int32) (μ : Mem) (r : (Int32 × Mem)) , D_L_undone_0 fu a1 μ = some r → V G mL_undone 0 [some (.ref 0), some (.int a1), some (.ref 128), none] [] μ (.inl (some (.int r.1))) (r.2) := by
  intro a1 μ r h
  unfold D_L_undone_0 at h
  refine V_aload_n dL_undone_0 rfl ?_
  refine V_iconst (v := 0) dL_undone_1 rfl ?_
  refine V_aload_n dL_undone_2 rfl ?_
  refine V_iload_n dL_undone_3 rfl ?_
  obtain ⟨x1, y2, h⟩ := bi_o h
  have z := VM_X6_undone G fu hG a1 μ _ y2
  obtain ⟨u1, m1⟩ := x1
  dsimp only at z h
  cases u1 with
  | inl v3 =>
    dsimp only at h
    refine V_callV (as := [.int a1]) (q := 0) (rest := [.int 0, .ref 128]) dL_undone_4 ov_mX6_undone lk_RL_129 (by decide) (by decide) rfl rfl (Nat.le_of_ble_eq_true rfl) (tq_0 hG) rfl (z) ?_
    refine V_i2l dL_undone_7 ?_
    obtain ⟨g4, h⟩ := gu_o h
    obtain ⟨m5, e6, h⟩ := vl_o h
    refine V_lastore (μ2 := m5) dL_undone_8 (tq_128 hG) (ib_in g4) e6.symm ?_
    refine V_goto (tgt := 15) dL_undone_9 (by decide) ?_
    refine V_iconst (v := 0) dL_undone_15 rfl ?_
    cases h
    exact V_iret rfl dL_undone_16
  | inr E =>
    dsimp only at h
    by_cases hE0 : E = "java/util/NoSuchElementException"
    · rw [if_pos hE0] at h
      subst hE0
      refine V_callVH (as := [.int a1]) (q := 0) (rest := [.int 0, .ref 128]) [] [] dL_undone_4 rfl (fun _ h9 => absurd h9 List.not_mem_nil) (by decide) (by decide) cl_RL_21 (by decide +kernel) ov_mX6_undone lk_RL_129 (by decide) (by decide) rfl rfl (Nat.le_of_ble_eq_true rfl) (tq_0 hG) rfl z (fun a => ?_)
      refine V_astoreR_n (lv2 := [some (.ref 0), some (.int a1), some (.ref 128), some (.retAddr a)]) dL_undone_12 (by decide) rfl ?_
      refine V_iconst (v := 1) dL_undone_13 rfl ?_
      cases h
      exact V_iret rfl dL_undone_14
    · rw [if_neg hE0] at h
      cases h
theorem VM_L_undone (G : GX) (fu : Nat)  (hG : gt G = tbl) (a1 : Int32) (μ : Mem) (r : (Int32 × Mem)) (h : D_L_undone_0 fu a1 μ = some r) : VM G mL_undone [.ref 0, .int a1, .ref 128] μ (.inl (some (.int r.1))) (r.2) := V_entryH ok_mL_undone rfl rfl (Nat.le_of_ble_eq_true rfl) (T_L_undone_0 G fu hG a1 μ r h)
def D_L_spared_0 (fu : Nat)  (a1 : Int32) (μ : Mem) : Option (Int32 × Mem) :=
  (D_X6_spared_0 fu a1 μ).bind fun x1 =>
  match x1.1 with
  | .inl v3 =>
    gu (ib 0 1) <|
    vl (wL x1.2 128 (Int32.toNatClampNeg 0) v3) fun m5 =>
    some (0, m5)
  | .inr E =>
    if E = "java/lang/IllegalArgumentException" then
      some (1, x1.2)
    else
      none
set_option maxRecDepth 20000 in
theorem T_L_spared_0 (G : GX) (fu : Nat)  (hG : gt G = tbl) : ∀ (a1 : Int32) (μ : Mem) (r : (Int32 × Mem)) , D_L_spared_0 fu a1 μ = some r → V G mL_spared 0 [some (.ref 0), some (.int a1), some (.ref 128), none] [] μ (.inl (some (.int r.1))) (r.2) := by
  intro a1 μ r h
  unfold D_L_spared_0 at h
  refine V_aload_n dL_spared_0 rfl ?_
  refine V_iconst (v := 0) dL_spared_1 rfl ?_
  refine V_aload_n dL_spared_2 rfl ?_
  refine V_iload_n dL_spared_3 rfl ?_
  obtain ⟨x1, y2, h⟩ := bi_o h
  have z := VM_X6_spared G fu hG a1 μ _ y2
  obtain ⟨u1, m1⟩ := x1
  dsimp only at z h
  cases u1 with
  | inl v3 =>
    dsimp only at h
    refine V_callV (as := [.int a1]) (q := 0) (rest := [.int 0, .ref 128]) dL_spared_4 ov_mX6_spared lk_RL_132 (by decide) (by decide) rfl rfl (Nat.le_of_ble_eq_true rfl) (tq_0 hG) rfl (z) ?_
    obtain ⟨g4, h⟩ := gu_o h
    obtain ⟨m5, e6, h⟩ := vl_o h
    refine V_lastore (μ2 := m5) dL_spared_7 (tq_128 hG) (ib_in g4) e6.symm ?_
    refine V_goto (tgt := 14) dL_spared_8 (by decide) ?_
    refine V_iconst (v := 0) dL_spared_14 rfl ?_
    cases h
    exact V_iret rfl dL_spared_15
  | inr E =>
    dsimp only at h
    by_cases hE0 : E = "java/lang/IllegalArgumentException"
    · rw [if_pos hE0] at h
      subst hE0
      refine V_callVH (as := [.int a1]) (q := 0) (rest := [.int 0, .ref 128]) [] [] dL_spared_4 rfl (fun _ h9 => absurd h9 List.not_mem_nil) (by decide) (by decide) cl_RL_13 (by decide +kernel) ov_mX6_spared lk_RL_132 (by decide) (by decide) rfl rfl (Nat.le_of_ble_eq_true rfl) (tq_0 hG) rfl z (fun a => ?_)
      refine V_astoreR_n (lv2 := [some (.ref 0), some (.int a1), some (.ref 128), some (.retAddr a)]) dL_spared_11 (by decide) rfl ?_
      refine V_iconst (v := 1) dL_spared_12 rfl ?_
      cases h
      exact V_iret rfl dL_spared_13
    · rw [if_neg hE0] at h
      cases h
theorem VM_L_spared (G : GX) (fu : Nat)  (hG : gt G = tbl) (a1 : Int32) (μ : Mem) (r : (Int32 × Mem)) (h : D_L_spared_0 fu a1 μ = some r) : VM G mL_spared [.ref 0, .int a1, .ref 128] μ (.inl (some (.int r.1))) (r.2) := V_entryH ok_mL_spared rfl rfl (Nat.le_of_ble_eq_true rfl) (T_L_spared_0 G fu hG a1 μ r h)
def D_L_shift_0 (fu : Nat)  (a1 : Int32) (a2 : Int32) (a3 : Int32) (μ : Mem) : Option (Int32 × Mem) :=
  (D_X6_shift_0 fu a1 a2 a3 μ).bind fun x1 =>
  match x1.1 with
  | .inl v3 =>
    gu (ib 0 1) <|
    vl (wL x1.2 128 (Int32.toNatClampNeg 0) v3) fun m5 =>
    some (0, m5)
  | .inr E =>
    if E = "java/util/NoSuchElementException" then
      some (1, x1.2)
    else
    if E = "java/lang/IllegalArgumentException" then
      some (2, x1.2)
    else
      none
set_option maxRecDepth 20000 in
theorem T_L_shift_0 (G : GX) (fu : Nat)  (hG : gt G = tbl) : ∀ (a1 : Int32) (a2 : Int32) (a3 : Int32) (μ : Mem) (r : (Int32 × Mem)) , D_L_shift_0 fu a1 a2 a3 μ = some r → V G mL_shift 0 [some (.ref 0), some (.int a1), some (.int a2), some (.int a3), some (.ref 128), none] [] μ (.inl (some (.int r.1))) (r.2) := by
  intro a1 a2 a3 μ r h
  unfold D_L_shift_0 at h
  refine V_aload dL_shift_0 rfl ?_
  refine V_iconst (v := 0) dL_shift_2 rfl ?_
  refine V_aload_n dL_shift_3 rfl ?_
  refine V_iload_n dL_shift_4 rfl ?_
  refine V_iload_n dL_shift_5 rfl ?_
  refine V_iload_n dL_shift_6 rfl ?_
  obtain ⟨x1, y2, h⟩ := bi_o h
  have z := VM_X6_shift G fu hG a1 a2 a3 μ _ y2
  obtain ⟨u1, m1⟩ := x1
  dsimp only at z h
  cases u1 with
  | inl v3 =>
    dsimp only at h
    refine V_callV (as := [.int a1, .int a2, .int a3]) (q := 0) (rest := [.int 0, .ref 128]) dL_shift_7 ov_mX6_shift lk_RL_135 (by decide) (by decide) rfl rfl (Nat.le_of_ble_eq_true rfl) (tq_0 hG) rfl (z) ?_
    obtain ⟨g4, h⟩ := gu_o h
    obtain ⟨m5, e6, h⟩ := vl_o h
    refine V_lastore (μ2 := m5) dL_shift_10 (tq_128 hG) (ib_in g4) e6.symm ?_
    refine V_goto (tgt := 22) dL_shift_11 (by decide) ?_
    refine V_iconst (v := 0) dL_shift_22 rfl ?_
    cases h
    exact V_iret rfl dL_shift_23
  | inr E =>
    dsimp only at h
    by_cases hE0 : E = "java/util/NoSuchElementException"
    · rw [if_pos hE0] at h
      subst hE0
      refine V_callVH (as := [.int a1, .int a2, .int a3]) (q := 0) (rest := [.int 0, .ref 128]) [] [(0, 11, 18, 13)] dL_shift_7 rfl (fun _ h9 => absurd h9 List.not_mem_nil) (by decide) (by decide) cl_RL_21 (by decide +kernel) ov_mX6_shift lk_RL_135 (by decide) (by decide) rfl rfl (Nat.le_of_ble_eq_true rfl) (tq_0 hG) rfl z (fun a => ?_)
      refine V_astoreR (lv2 := [some (.ref 0), some (.int a1), some (.int a2), some (.int a3), some (.ref 128), some (.retAddr a)]) dL_shift_14 (by decide) rfl ?_
      refine V_iconst (v := 1) dL_shift_16 rfl ?_
      cases h
      exact V_iret rfl dL_shift_17
    · rw [if_neg hE0] at h
      by_cases hE1 : E = "java/lang/IllegalArgumentException"
      · rw [if_pos hE1] at h
        subst hE1
        refine V_callVH (as := [.int a1, .int a2, .int a3]) (q := 0) (rest := [.int 0, .ref 128]) [(0, 11, 14, 21)] [] dL_shift_7 rfl (List.forall_mem_cons.mpr ⟨⟨by decide, "java/util/NoSuchElementException", cl_RL_21, by decide +kernel⟩, (fun _ h9 => absurd h9 List.not_mem_nil)⟩) (by decide) (by decide) cl_RL_13 (by decide +kernel) ov_mX6_shift lk_RL_135 (by decide) (by decide) rfl rfl (Nat.le_of_ble_eq_true rfl) (tq_0 hG) rfl z (fun a => ?_)
        refine V_astoreR (lv2 := [some (.ref 0), some (.int a1), some (.int a2), some (.int a3), some (.ref 128), some (.retAddr a)]) dL_shift_18 (by decide) rfl ?_
        refine V_iconst (v := 2) dL_shift_20 rfl ?_
        cases h
        exact V_iret rfl dL_shift_21
      · rw [if_neg hE1] at h
        cases h
theorem VM_L_shift (G : GX) (fu : Nat)  (hG : gt G = tbl) (a1 : Int32) (a2 : Int32) (a3 : Int32) (μ : Mem) (r : (Int32 × Mem)) (h : D_L_shift_0 fu a1 a2 a3 μ = some r) : VM G mL_shift [.ref 0, .int a1, .int a2, .int a3, .ref 128] μ (.inl (some (.int r.1))) (r.2) := V_entryH ok_mL_shift rfl rfl (Nat.le_of_ble_eq_true rfl) (T_L_shift_0 G fu hG a1 a2 a3 μ r h)
def D_L_after_0 (fu : Nat)  (a1 : Int32) (a2 : Int32) (μ : Mem) : Option (Int32 × Mem) :=
  (D_X6_after_0 fu a1 a2 μ).bind fun x1 =>
  match x1.1 with
  | .inl v3 =>
    gu (ib 0 1) <|
    vl (wL x1.2 128 (Int32.toNatClampNeg 0) v3) fun m5 =>
    some (0, m5)
  | .inr E =>
    if E = "java/util/NoSuchElementException" then
      some (1, x1.2)
    else
    if E = "java/lang/IllegalArgumentException" then
      some (2, x1.2)
    else
      none
set_option maxRecDepth 20000 in
theorem T_L_after_0 (G : GX) (fu : Nat)  (hG : gt G = tbl) : ∀ (a1 : Int32) (a2 : Int32) (μ : Mem) (r : (Int32 × Mem)) , D_L_after_0 fu a1 a2 μ = some r → V G mL_after 0 [some (.ref 0), some (.int a1), some (.int a2), some (.ref 128), none] [] μ (.inl (some (.int r.1))) (r.2) := by
  intro a1 a2 μ r h
  unfold D_L_after_0 at h
  refine V_aload_n dL_after_0 rfl ?_
  refine V_iconst (v := 0) dL_after_1 rfl ?_
  refine V_aload_n dL_after_2 rfl ?_
  refine V_iload_n dL_after_3 rfl ?_
  refine V_iload_n dL_after_4 rfl ?_
  obtain ⟨x1, y2, h⟩ := bi_o h
  have z := VM_X6_after G fu hG a1 a2 μ _ y2
  obtain ⟨u1, m1⟩ := x1
  dsimp only at z h
  cases u1 with
  | inl v3 =>
    dsimp only at h
    refine V_callV (as := [.int a1, .int a2]) (q := 0) (rest := [.int 0, .ref 128]) dL_after_5 ov_mX6_after lk_RL_138 (by decide) (by decide) rfl rfl (Nat.le_of_ble_eq_true rfl) (tq_0 hG) rfl (z) ?_
    obtain ⟨g4, h⟩ := gu_o h
    obtain ⟨m5, e6, h⟩ := vl_o h
    refine V_lastore (μ2 := m5) dL_after_8 (tq_128 hG) (ib_in g4) e6.symm ?_
    refine V_goto (tgt := 20) dL_after_9 (by decide) ?_
    refine V_iconst (v := 0) dL_after_20 rfl ?_
    cases h
    exact V_iret rfl dL_after_21
  | inr E =>
    dsimp only at h
    by_cases hE0 : E = "java/util/NoSuchElementException"
    · rw [if_pos hE0] at h
      subst hE0
      refine V_callVH (as := [.int a1, .int a2]) (q := 0) (rest := [.int 0, .ref 128]) [] [(0, 9, 16, 13)] dL_after_5 rfl (fun _ h9 => absurd h9 List.not_mem_nil) (by decide) (by decide) cl_RL_21 (by decide +kernel) ov_mX6_after lk_RL_138 (by decide) (by decide) rfl rfl (Nat.le_of_ble_eq_true rfl) (tq_0 hG) rfl z (fun a => ?_)
      refine V_astoreR (lv2 := [some (.ref 0), some (.int a1), some (.int a2), some (.ref 128), some (.retAddr a)]) dL_after_12 (by decide) rfl ?_
      refine V_iconst (v := 1) dL_after_14 rfl ?_
      cases h
      exact V_iret rfl dL_after_15
    · rw [if_neg hE0] at h
      by_cases hE1 : E = "java/lang/IllegalArgumentException"
      · rw [if_pos hE1] at h
        subst hE1
        refine V_callVH (as := [.int a1, .int a2]) (q := 0) (rest := [.int 0, .ref 128]) [(0, 9, 12, 21)] [] dL_after_5 rfl (List.forall_mem_cons.mpr ⟨⟨by decide, "java/util/NoSuchElementException", cl_RL_21, by decide +kernel⟩, (fun _ h9 => absurd h9 List.not_mem_nil)⟩) (by decide) (by decide) cl_RL_13 (by decide +kernel) ov_mX6_after lk_RL_138 (by decide) (by decide) rfl rfl (Nat.le_of_ble_eq_true rfl) (tq_0 hG) rfl z (fun a => ?_)
        refine V_astoreR (lv2 := [some (.ref 0), some (.int a1), some (.int a2), some (.ref 128), some (.retAddr a)]) dL_after_16 (by decide) rfl ?_
        refine V_iconst (v := 2) dL_after_18 rfl ?_
        cases h
        exact V_iret rfl dL_after_19
      · rw [if_neg hE1] at h
        cases h
theorem VM_L_after (G : GX) (fu : Nat)  (hG : gt G = tbl) (a1 : Int32) (a2 : Int32) (μ : Mem) (r : (Int32 × Mem)) (h : D_L_after_0 fu a1 a2 μ = some r) : VM G mL_after [.ref 0, .int a1, .int a2, .ref 128] μ (.inl (some (.int r.1))) (r.2) := V_entryH ok_mL_after rfl rfl (Nat.le_of_ble_eq_true rfl) (T_L_after_0 G fu hG a1 a2 μ r h)
def D_L_usedUp_0 (fu : Nat)  (a1 : Int32) (μ : Mem) : Option (Int32 × Mem) :=
  (D_X6_usedUp_0 fu a1 μ).bind fun x1 =>
  match x1.1 with
  | .inl v3 =>
    gu (ib 0 1) <|
    vl (wL x1.2 128 (Int32.toNatClampNeg 0) ((v3 : Int32).toInt64)) fun m5 =>
    some (0, m5)
  | .inr E =>
    if E = "java/util/NoSuchElementException" then
      some (1, x1.2)
    else
      none
set_option maxRecDepth 20000 in
theorem T_L_usedUp_0 (G : GX) (fu : Nat)  (hG : gt G = tbl) : ∀ (a1 : Int32) (μ : Mem) (r : (Int32 × Mem)) , D_L_usedUp_0 fu a1 μ = some r → V G mL_usedUp 0 [some (.ref 0), some (.int a1), some (.ref 128), none] [] μ (.inl (some (.int r.1))) (r.2) := by
  intro a1 μ r h
  unfold D_L_usedUp_0 at h
  refine V_aload_n dL_usedUp_0 rfl ?_
  refine V_iconst (v := 0) dL_usedUp_1 rfl ?_
  refine V_aload_n dL_usedUp_2 rfl ?_
  refine V_iload_n dL_usedUp_3 rfl ?_
  obtain ⟨x1, y2, h⟩ := bi_o h
  have z := VM_X6_usedUp G fu hG a1 μ _ y2
  obtain ⟨u1, m1⟩ := x1
  dsimp only at z h
  cases u1 with
  | inl v3 =>
    dsimp only at h
    refine V_callV (as := [.int a1]) (q := 0) (rest := [.int 0, .ref 128]) dL_usedUp_4 ov_mX6_usedUp lk_RL_141 (by decide) (by decide) rfl rfl (Nat.le_of_ble_eq_true rfl) (tq_0 hG) rfl (z) ?_
    refine V_i2l dL_usedUp_7 ?_
    obtain ⟨g4, h⟩ := gu_o h
    obtain ⟨m5, e6, h⟩ := vl_o h
    refine V_lastore (μ2 := m5) dL_usedUp_8 (tq_128 hG) (ib_in g4) e6.symm ?_
    refine V_goto (tgt := 15) dL_usedUp_9 (by decide) ?_
    refine V_iconst (v := 0) dL_usedUp_15 rfl ?_
    cases h
    exact V_iret rfl dL_usedUp_16
  | inr E =>
    dsimp only at h
    by_cases hE0 : E = "java/util/NoSuchElementException"
    · rw [if_pos hE0] at h
      subst hE0
      refine V_callVH (as := [.int a1]) (q := 0) (rest := [.int 0, .ref 128]) [] [] dL_usedUp_4 rfl (fun _ h9 => absurd h9 List.not_mem_nil) (by decide) (by decide) cl_RL_21 (by decide +kernel) ov_mX6_usedUp lk_RL_141 (by decide) (by decide) rfl rfl (Nat.le_of_ble_eq_true rfl) (tq_0 hG) rfl z (fun a => ?_)
      refine V_astoreR_n (lv2 := [some (.ref 0), some (.int a1), some (.ref 128), some (.retAddr a)]) dL_usedUp_12 (by decide) rfl ?_
      refine V_iconst (v := 1) dL_usedUp_13 rfl ?_
      cases h
      exact V_iret rfl dL_usedUp_14
    · rw [if_neg hE0] at h
      cases h
theorem VM_L_usedUp (G : GX) (fu : Nat)  (hG : gt G = tbl) (a1 : Int32) (μ : Mem) (r : (Int32 × Mem)) (h : D_L_usedUp_0 fu a1 μ = some r) : VM G mL_usedUp [.ref 0, .int a1, .ref 128] μ (.inl (some (.int r.1))) (r.2) := V_entryH ok_mL_usedUp rfl rfl (Nat.le_of_ble_eq_true rfl) (T_L_usedUp_0 G fu hG a1 μ r h)
def D_L_heaviest_0 (fu : Nat)  (a1 : Int32) (a2 : Int32) (μ : Mem) : Option (Int32 × Mem) :=
  (D_X6_heaviest_0 fu a1 a2 μ).bind fun x1 =>
  match x1.1 with
  | .inl v3 =>
    gu (ib 0 1) <|
    vl (wL x1.2 128 (Int32.toNatClampNeg 0) v3) fun m5 =>
    some (0, m5)
  | .inr E =>
    if E = "java/lang/IllegalArgumentException" then
      some (1, x1.2)
    else
      none
set_option maxRecDepth 20000 in
theorem T_L_heaviest_0 (G : GX) (fu : Nat)  (hG : gt G = tbl) : ∀ (a1 : Int32) (a2 : Int32) (μ : Mem) (r : (Int32 × Mem)) , D_L_heaviest_0 fu a1 a2 μ = some r → V G mL_heaviest 0 [some (.ref 0), some (.int a1), some (.int a2), some (.ref 128), none] [] μ (.inl (some (.int r.1))) (r.2) := by
  intro a1 a2 μ r h
  unfold D_L_heaviest_0 at h
  refine V_aload_n dL_heaviest_0 rfl ?_
  refine V_iconst (v := 0) dL_heaviest_1 rfl ?_
  refine V_aload_n dL_heaviest_2 rfl ?_
  refine V_iload_n dL_heaviest_3 rfl ?_
  refine V_iload_n dL_heaviest_4 rfl ?_
  obtain ⟨x1, y2, h⟩ := bi_o h
  have z := VM_X6_heaviest G fu hG a1 a2 μ _ y2
  obtain ⟨u1, m1⟩ := x1
  dsimp only at z h
  cases u1 with
  | inl v3 =>
    dsimp only at h
    refine V_callV (as := [.int a1, .int a2]) (q := 0) (rest := [.int 0, .ref 128]) dL_heaviest_5 ov_mX6_heaviest lk_RL_144 (by decide) (by decide) rfl rfl (Nat.le_of_ble_eq_true rfl) (tq_0 hG) rfl (z) ?_
    obtain ⟨g4, h⟩ := gu_o h
    obtain ⟨m5, e6, h⟩ := vl_o h
    refine V_lastore (μ2 := m5) dL_heaviest_8 (tq_128 hG) (ib_in g4) e6.symm ?_
    refine V_goto (tgt := 16) dL_heaviest_9 (by decide) ?_
    refine V_iconst (v := 0) dL_heaviest_16 rfl ?_
    cases h
    exact V_iret rfl dL_heaviest_17
  | inr E =>
    dsimp only at h
    by_cases hE0 : E = "java/lang/IllegalArgumentException"
    · rw [if_pos hE0] at h
      subst hE0
      refine V_callVH (as := [.int a1, .int a2]) (q := 0) (rest := [.int 0, .ref 128]) [] [] dL_heaviest_5 rfl (fun _ h9 => absurd h9 List.not_mem_nil) (by decide) (by decide) cl_RL_13 (by decide +kernel) ov_mX6_heaviest lk_RL_144 (by decide) (by decide) rfl rfl (Nat.le_of_ble_eq_true rfl) (tq_0 hG) rfl z (fun a => ?_)
      refine V_astoreR (lv2 := [some (.ref 0), some (.int a1), some (.int a2), some (.ref 128), some (.retAddr a)]) dL_heaviest_12 (by decide) rfl ?_
      refine V_iconst (v := 1) dL_heaviest_14 rfl ?_
      cases h
      exact V_iret rfl dL_heaviest_15
    · rw [if_neg hE0] at h
      cases h
theorem VM_L_heaviest (G : GX) (fu : Nat)  (hG : gt G = tbl) (a1 : Int32) (a2 : Int32) (μ : Mem) (r : (Int32 × Mem)) (h : D_L_heaviest_0 fu a1 a2 μ = some r) : VM G mL_heaviest [.ref 0, .int a1, .int a2, .ref 128] μ (.inl (some (.int r.1))) (r.2) := V_entryH ok_mL_heaviest rfl rfl (Nat.le_of_ble_eq_true rfl) (T_L_heaviest_0 G fu hG a1 a2 μ r h)
def D_L_cover_0 (fu : Nat)  (a1 : Int32) (a2 : Int32) (a3 : Int32) (μ : Mem) : Option (Int32 × Mem) :=
  (D_X6_cover_0 fu a1 a2 a3 μ).bind fun x1 =>
  match x1.1 with
  | .inl v3 =>
    gu (ib 0 1) <|
    vl (wL x1.2 128 (Int32.toNatClampNeg 0) ((v3 : Int32).toInt64)) fun m5 =>
    some (0, m5)
  | .inr E =>
    if E = "java/lang/IllegalArgumentException" then
      some (1, x1.2)
    else
      none
set_option maxRecDepth 20000 in
theorem T_L_cover_0 (G : GX) (fu : Nat)  (hG : gt G = tbl) : ∀ (a1 : Int32) (a2 : Int32) (a3 : Int32) (μ : Mem) (r : (Int32 × Mem)) , D_L_cover_0 fu a1 a2 a3 μ = some r → V G mL_cover 0 [some (.ref 0), some (.int a1), some (.int a2), some (.int a3), some (.ref 128), none] [] μ (.inl (some (.int r.1))) (r.2) := by
  intro a1 a2 a3 μ r h
  unfold D_L_cover_0 at h
  refine V_aload dL_cover_0 rfl ?_
  refine V_iconst (v := 0) dL_cover_2 rfl ?_
  refine V_aload_n dL_cover_3 rfl ?_
  refine V_iload_n dL_cover_4 rfl ?_
  refine V_iload_n dL_cover_5 rfl ?_
  refine V_iload_n dL_cover_6 rfl ?_
  obtain ⟨x1, y2, h⟩ := bi_o h
  have z := VM_X6_cover G fu hG a1 a2 a3 μ _ y2
  obtain ⟨u1, m1⟩ := x1
  dsimp only at z h
  cases u1 with
  | inl v3 =>
    dsimp only at h
    refine V_callV (as := [.int a1, .int a2, .int a3]) (q := 0) (rest := [.int 0, .ref 128]) dL_cover_7 ov_mX6_cover lk_RL_147 (by decide) (by decide) rfl rfl (Nat.le_of_ble_eq_true rfl) (tq_0 hG) rfl (z) ?_
    refine V_i2l dL_cover_10 ?_
    obtain ⟨g4, h⟩ := gu_o h
    obtain ⟨m5, e6, h⟩ := vl_o h
    refine V_lastore (μ2 := m5) dL_cover_11 (tq_128 hG) (ib_in g4) e6.symm ?_
    refine V_goto (tgt := 19) dL_cover_12 (by decide) ?_
    refine V_iconst (v := 0) dL_cover_19 rfl ?_
    cases h
    exact V_iret rfl dL_cover_20
  | inr E =>
    dsimp only at h
    by_cases hE0 : E = "java/lang/IllegalArgumentException"
    · rw [if_pos hE0] at h
      subst hE0
      refine V_callVH (as := [.int a1, .int a2, .int a3]) (q := 0) (rest := [.int 0, .ref 128]) [] [] dL_cover_7 rfl (fun _ h9 => absurd h9 List.not_mem_nil) (by decide) (by decide) cl_RL_13 (by decide +kernel) ov_mX6_cover lk_RL_147 (by decide) (by decide) rfl rfl (Nat.le_of_ble_eq_true rfl) (tq_0 hG) rfl z (fun a => ?_)
      refine V_astoreR (lv2 := [some (.ref 0), some (.int a1), some (.int a2), some (.int a3), some (.ref 128), some (.retAddr a)]) dL_cover_15 (by decide) rfl ?_
      refine V_iconst (v := 1) dL_cover_17 rfl ?_
      cases h
      exact V_iret rfl dL_cover_18
    · rw [if_neg hE0] at h
      cases h
theorem VM_L_cover (G : GX) (fu : Nat)  (hG : gt G = tbl) (a1 : Int32) (a2 : Int32) (a3 : Int32) (μ : Mem) (r : (Int32 × Mem)) (h : D_L_cover_0 fu a1 a2 a3 μ = some r) : VM G mL_cover [.ref 0, .int a1, .int a2, .int a3, .ref 128] μ (.inl (some (.int r.1))) (r.2) := V_entryH ok_mL_cover rfl rfl (Nat.le_of_ble_eq_true rfl) (T_L_cover_0 G fu hG a1 a2 a3 μ r h)
def D_L_reach_0 (fu : Nat)  (a1 : Int32) (μ : Mem) : Option (Int32 × Mem) :=
  (D_X6_reach_0 fu a1 μ).bind fun x1 =>
  match x1.1 with
  | .inl v3 =>
    gu (ib 0 1) <|
    vl (wL x1.2 128 (Int32.toNatClampNeg 0) v3) fun m5 =>
    some (0, m5)
  | .inr E =>
    if E = "java/util/NoSuchElementException" then
      some (1, x1.2)
    else
      none
set_option maxRecDepth 20000 in
theorem T_L_reach_0 (G : GX) (fu : Nat)  (hG : gt G = tbl) : ∀ (a1 : Int32) (μ : Mem) (r : (Int32 × Mem)) , D_L_reach_0 fu a1 μ = some r → V G mL_reach 0 [some (.ref 0), some (.int a1), some (.ref 128), none] [] μ (.inl (some (.int r.1))) (r.2) := by
  intro a1 μ r h
  unfold D_L_reach_0 at h
  refine V_aload_n dL_reach_0 rfl ?_
  refine V_iconst (v := 0) dL_reach_1 rfl ?_
  refine V_aload_n dL_reach_2 rfl ?_
  refine V_iload_n dL_reach_3 rfl ?_
  obtain ⟨x1, y2, h⟩ := bi_o h
  have z := VM_X6_reach G fu hG a1 μ _ y2
  obtain ⟨u1, m1⟩ := x1
  dsimp only at z h
  cases u1 with
  | inl v3 =>
    dsimp only at h
    refine V_callV (as := [.int a1]) (q := 0) (rest := [.int 0, .ref 128]) dL_reach_4 ov_mX6_reach lk_RL_150 (by decide) (by decide) rfl rfl (Nat.le_of_ble_eq_true rfl) (tq_0 hG) rfl (z) ?_
    obtain ⟨g4, h⟩ := gu_o h
    obtain ⟨m5, e6, h⟩ := vl_o h
    refine V_lastore (μ2 := m5) dL_reach_7 (tq_128 hG) (ib_in g4) e6.symm ?_
    refine V_goto (tgt := 14) dL_reach_8 (by decide) ?_
    refine V_iconst (v := 0) dL_reach_14 rfl ?_
    cases h
    exact V_iret rfl dL_reach_15
  | inr E =>
    dsimp only at h
    by_cases hE0 : E = "java/util/NoSuchElementException"
    · rw [if_pos hE0] at h
      subst hE0
      refine V_callVH (as := [.int a1]) (q := 0) (rest := [.int 0, .ref 128]) [] [] dL_reach_4 rfl (fun _ h9 => absurd h9 List.not_mem_nil) (by decide) (by decide) cl_RL_21 (by decide +kernel) ov_mX6_reach lk_RL_150 (by decide) (by decide) rfl rfl (Nat.le_of_ble_eq_true rfl) (tq_0 hG) rfl z (fun a => ?_)
      refine V_astoreR_n (lv2 := [some (.ref 0), some (.int a1), some (.ref 128), some (.retAddr a)]) dL_reach_11 (by decide) rfl ?_
      refine V_iconst (v := 1) dL_reach_12 rfl ?_
      cases h
      exact V_iret rfl dL_reach_13
    · rw [if_neg hE0] at h
      cases h
theorem VM_L_reach (G : GX) (fu : Nat)  (hG : gt G = tbl) (a1 : Int32) (μ : Mem) (r : (Int32 × Mem)) (h : D_L_reach_0 fu a1 μ = some r) : VM G mL_reach [.ref 0, .int a1, .ref 128] μ (.inl (some (.int r.1))) (r.2) := V_entryH ok_mL_reach rfl rfl (Nat.le_of_ble_eq_true rfl) (T_L_reach_0 G fu hG a1 μ r h)
def D_L_uneven_0 (fu : Nat)  (a1 : Int32) (a2 : Int32) (a3 : Int32) (a4 : Int32) (a5 : Int32) (μ : Mem) : Option (Int32 × Mem) :=
  (D_X6_uneven_0 fu a1 a2 a3 a4 a5 μ).bind fun x1 =>
  match x1.1 with
  | .inl v3 =>
    gu (ib 0 1) <|
    vl (wL x1.2 128 (Int32.toNatClampNeg 0) v3) fun m5 =>
    some (0, m5)
  | .inr E =>
    if E = "java/util/NoSuchElementException" then
      some (1, x1.2)
    else
    if E = "java/lang/IllegalArgumentException" then
      some (2, x1.2)
    else
      none
set_option maxRecDepth 20000 in
theorem T_L_uneven_0 (G : GX) (fu : Nat)  (hG : gt G = tbl) : ∀ (a1 : Int32) (a2 : Int32) (a3 : Int32) (a4 : Int32) (a5 : Int32) (μ : Mem) (r : (Int32 × Mem)) , D_L_uneven_0 fu a1 a2 a3 a4 a5 μ = some r → V G mL_uneven 0 [some (.ref 0), some (.int a1), some (.int a2), some (.int a3), some (.int a4), some (.int a5), some (.ref 128), none] [] μ (.inl (some (.int r.1))) (r.2) := by
  intro a1 a2 a3 a4 a5 μ r h
  unfold D_L_uneven_0 at h
  refine V_aload dL_uneven_0 rfl ?_
  refine V_iconst (v := 0) dL_uneven_2 rfl ?_
  refine V_aload_n dL_uneven_3 rfl ?_
  refine V_iload_n dL_uneven_4 rfl ?_
  refine V_iload_n dL_uneven_5 rfl ?_
  refine V_iload_n dL_uneven_6 rfl ?_
  refine V_iload dL_uneven_7 rfl ?_
  refine V_iload dL_uneven_9 rfl ?_
  obtain ⟨x1, y2, h⟩ := bi_o h
  have z := VM_X6_uneven G fu hG a1 a2 a3 a4 a5 μ _ y2
  obtain ⟨u1, m1⟩ := x1
  dsimp only at z h
  cases u1 with
  | inl v3 =>
    dsimp only at h
    refine V_callV (as := [.int a1, .int a2, .int a3, .int a4, .int a5]) (q := 0) (rest := [.int 0, .ref 128]) dL_uneven_11 ov_mX6_uneven lk_RL_153 (by decide) (by decide) rfl rfl (Nat.le_of_ble_eq_true rfl) (tq_0 hG) rfl (z) ?_
    obtain ⟨g4, h⟩ := gu_o h
    obtain ⟨m5, e6, h⟩ := vl_o h
    refine V_lastore (μ2 := m5) dL_uneven_14 (tq_128 hG) (ib_in g4) e6.symm ?_
    refine V_goto (tgt := 26) dL_uneven_15 (by decide) ?_
    refine V_iconst (v := 0) dL_uneven_26 rfl ?_
    cases h
    exact V_iret rfl dL_uneven_27
  | inr E =>
    dsimp only at h
    by_cases hE0 : E = "java/util/NoSuchElementException"
    · rw [if_pos hE0] at h
      subst hE0
      refine V_callVH (as := [.int a1, .int a2, .int a3, .int a4, .int a5]) (q := 0) (rest := [.int 0, .ref 128]) [] [(0, 15, 22, 13)] dL_uneven_11 rfl (fun _ h9 => absurd h9 List.not_mem_nil) (by decide) (by decide) cl_RL_21 (by decide +kernel) ov_mX6_uneven lk_RL_153 (by decide) (by decide) rfl rfl (Nat.le_of_ble_eq_true rfl) (tq_0 hG) rfl z (fun a => ?_)
      refine V_astoreR (lv2 := [some (.ref 0), some (.int a1), some (.int a2), some (.int a3), some (.int a4), some (.int a5), some (.ref 128), some (.retAddr a)]) dL_uneven_18 (by decide) rfl ?_
      refine V_iconst (v := 1) dL_uneven_20 rfl ?_
      cases h
      exact V_iret rfl dL_uneven_21
    · rw [if_neg hE0] at h
      by_cases hE1 : E = "java/lang/IllegalArgumentException"
      · rw [if_pos hE1] at h
        subst hE1
        refine V_callVH (as := [.int a1, .int a2, .int a3, .int a4, .int a5]) (q := 0) (rest := [.int 0, .ref 128]) [(0, 15, 18, 21)] [] dL_uneven_11 rfl (List.forall_mem_cons.mpr ⟨⟨by decide, "java/util/NoSuchElementException", cl_RL_21, by decide +kernel⟩, (fun _ h9 => absurd h9 List.not_mem_nil)⟩) (by decide) (by decide) cl_RL_13 (by decide +kernel) ov_mX6_uneven lk_RL_153 (by decide) (by decide) rfl rfl (Nat.le_of_ble_eq_true rfl) (tq_0 hG) rfl z (fun a => ?_)
        refine V_astoreR (lv2 := [some (.ref 0), some (.int a1), some (.int a2), some (.int a3), some (.int a4), some (.int a5), some (.ref 128), some (.retAddr a)]) dL_uneven_22 (by decide) rfl ?_
        refine V_iconst (v := 2) dL_uneven_24 rfl ?_
        cases h
        exact V_iret rfl dL_uneven_25
      · rw [if_neg hE1] at h
        cases h
theorem VM_L_uneven (G : GX) (fu : Nat)  (hG : gt G = tbl) (a1 : Int32) (a2 : Int32) (a3 : Int32) (a4 : Int32) (a5 : Int32) (μ : Mem) (r : (Int32 × Mem)) (h : D_L_uneven_0 fu a1 a2 a3 a4 a5 μ = some r) : VM G mL_uneven [.ref 0, .int a1, .int a2, .int a3, .int a4, .int a5, .ref 128] μ (.inl (some (.int r.1))) (r.2) := V_entryH ok_mL_uneven rfl rfl (Nat.le_of_ble_eq_true rfl) (T_L_uneven_0 G fu hG a1 a2 a3 a4 a5 μ r h)
def D_L_widest_0 (fu : Nat)  (a1 : Int32) (a2 : Int32) (μ : Mem) : Option (Int32 × Mem) :=
  (D_X6_widest_0 fu a1 a2 μ).bind fun x1 =>
  match x1.1 with
  | .inl v3 =>
    gu (ib 0 1) <|
    vl (wL x1.2 128 (Int32.toNatClampNeg 0) ((v3 : Int32).toInt64)) fun m5 =>
    some (0, m5)
  | .inr E =>
    if E = "java/lang/IllegalArgumentException" then
      some (1, x1.2)
    else
      none
set_option maxRecDepth 20000 in
theorem T_L_widest_0 (G : GX) (fu : Nat)  (hG : gt G = tbl) : ∀ (a1 : Int32) (a2 : Int32) (μ : Mem) (r : (Int32 × Mem)) , D_L_widest_0 fu a1 a2 μ = some r → V G mL_widest 0 [some (.ref 0), some (.int a1), some (.int a2), some (.ref 128), none] [] μ (.inl (some (.int r.1))) (r.2) := by
  intro a1 a2 μ r h
  unfold D_L_widest_0 at h
  refine V_aload_n dL_widest_0 rfl ?_
  refine V_iconst (v := 0) dL_widest_1 rfl ?_
  refine V_aload_n dL_widest_2 rfl ?_
  refine V_iload_n dL_widest_3 rfl ?_
  refine V_iload_n dL_widest_4 rfl ?_
  obtain ⟨x1, y2, h⟩ := bi_o h
  have z := VM_X6_widest G fu hG a1 a2 μ _ y2
  obtain ⟨u1, m1⟩ := x1
  dsimp only at z h
  cases u1 with
  | inl v3 =>
    dsimp only at h
    refine V_callV (as := [.int a1, .int a2]) (q := 0) (rest := [.int 0, .ref 128]) dL_widest_5 ov_mX6_widest lk_RL_156 (by decide) (by decide) rfl rfl (Nat.le_of_ble_eq_true rfl) (tq_0 hG) rfl (z) ?_
    refine V_i2l dL_widest_8 ?_
    obtain ⟨g4, h⟩ := gu_o h
    obtain ⟨m5, e6, h⟩ := vl_o h
    refine V_lastore (μ2 := m5) dL_widest_9 (tq_128 hG) (ib_in g4) e6.symm ?_
    refine V_goto (tgt := 17) dL_widest_10 (by decide) ?_
    refine V_iconst (v := 0) dL_widest_17 rfl ?_
    cases h
    exact V_iret rfl dL_widest_18
  | inr E =>
    dsimp only at h
    by_cases hE0 : E = "java/lang/IllegalArgumentException"
    · rw [if_pos hE0] at h
      subst hE0
      refine V_callVH (as := [.int a1, .int a2]) (q := 0) (rest := [.int 0, .ref 128]) [] [] dL_widest_5 rfl (fun _ h9 => absurd h9 List.not_mem_nil) (by decide) (by decide) cl_RL_13 (by decide +kernel) ov_mX6_widest lk_RL_156 (by decide) (by decide) rfl rfl (Nat.le_of_ble_eq_true rfl) (tq_0 hG) rfl z (fun a => ?_)
      refine V_astoreR (lv2 := [some (.ref 0), some (.int a1), some (.int a2), some (.ref 128), some (.retAddr a)]) dL_widest_13 (by decide) rfl ?_
      refine V_iconst (v := 1) dL_widest_15 rfl ?_
      cases h
      exact V_iret rfl dL_widest_16
    · rw [if_neg hE0] at h
      cases h
theorem VM_L_widest (G : GX) (fu : Nat)  (hG : gt G = tbl) (a1 : Int32) (a2 : Int32) (μ : Mem) (r : (Int32 × Mem)) (h : D_L_widest_0 fu a1 a2 μ = some r) : VM G mL_widest [.ref 0, .int a1, .int a2, .ref 128] μ (.inl (some (.int r.1))) (r.2) := V_entryH ok_mL_widest rfl rfl (Nat.le_of_ble_eq_true rfl) (T_L_widest_0 G fu hG a1 a2 μ r h)
def D_L_strongest_0 (fu : Nat)  (a1 : Int32) (μ : Mem) : Option (Int32 × Mem) :=
  (D_X6_strongest_0 fu a1 μ).bind fun x1 =>
  match x1.1 with
  | .inl v3 =>
    gu (ib 0 1) <|
    vl (wL x1.2 128 (Int32.toNatClampNeg 0) v3) fun m5 =>
    some (0, m5)
  | .inr E =>
    if E = "java/lang/IllegalArgumentException" then
      some (1, x1.2)
    else
      none
set_option maxRecDepth 20000 in
theorem T_L_strongest_0 (G : GX) (fu : Nat)  (hG : gt G = tbl) : ∀ (a1 : Int32) (μ : Mem) (r : (Int32 × Mem)) , D_L_strongest_0 fu a1 μ = some r → V G mL_strongest 0 [some (.ref 0), some (.int a1), some (.ref 128), none] [] μ (.inl (some (.int r.1))) (r.2) := by
  intro a1 μ r h
  unfold D_L_strongest_0 at h
  refine V_aload_n dL_strongest_0 rfl ?_
  refine V_iconst (v := 0) dL_strongest_1 rfl ?_
  refine V_aload_n dL_strongest_2 rfl ?_
  refine V_iload_n dL_strongest_3 rfl ?_
  obtain ⟨x1, y2, h⟩ := bi_o h
  have z := VM_X6_strongest G fu hG a1 μ _ y2
  obtain ⟨u1, m1⟩ := x1
  dsimp only at z h
  cases u1 with
  | inl v3 =>
    dsimp only at h
    refine V_callV (as := [.int a1]) (q := 0) (rest := [.int 0, .ref 128]) dL_strongest_4 ov_mX6_strongest lk_RL_159 (by decide) (by decide) rfl rfl (Nat.le_of_ble_eq_true rfl) (tq_0 hG) rfl (z) ?_
    obtain ⟨g4, h⟩ := gu_o h
    obtain ⟨m5, e6, h⟩ := vl_o h
    refine V_lastore (μ2 := m5) dL_strongest_7 (tq_128 hG) (ib_in g4) e6.symm ?_
    refine V_goto (tgt := 14) dL_strongest_8 (by decide) ?_
    refine V_iconst (v := 0) dL_strongest_14 rfl ?_
    cases h
    exact V_iret rfl dL_strongest_15
  | inr E =>
    dsimp only at h
    by_cases hE0 : E = "java/lang/IllegalArgumentException"
    · rw [if_pos hE0] at h
      subst hE0
      refine V_callVH (as := [.int a1]) (q := 0) (rest := [.int 0, .ref 128]) [] [] dL_strongest_4 rfl (fun _ h9 => absurd h9 List.not_mem_nil) (by decide) (by decide) cl_RL_13 (by decide +kernel) ov_mX6_strongest lk_RL_159 (by decide) (by decide) rfl rfl (Nat.le_of_ble_eq_true rfl) (tq_0 hG) rfl z (fun a => ?_)
      refine V_astoreR_n (lv2 := [some (.ref 0), some (.int a1), some (.ref 128), some (.retAddr a)]) dL_strongest_11 (by decide) rfl ?_
      refine V_iconst (v := 1) dL_strongest_12 rfl ?_
      cases h
      exact V_iret rfl dL_strongest_13
    · rw [if_neg hE0] at h
      cases h
theorem VM_L_strongest (G : GX) (fu : Nat)  (hG : gt G = tbl) (a1 : Int32) (μ : Mem) (r : (Int32 × Mem)) (h : D_L_strongest_0 fu a1 μ = some r) : VM G mL_strongest [.ref 0, .int a1, .ref 128] μ (.inl (some (.int r.1))) (r.2) := V_entryH ok_mL_strongest rfl rfl (Nat.le_of_ble_eq_true rfl) (T_L_strongest_0 G fu hG a1 μ r h)
def D_L_holds_0 (fu : Nat)  (a1 : Int32) (a2 : Int32) (a3 : Int32) (μ : Mem) : Option (Int32 × Mem) :=
  (D_X6_holds_0 fu a1 a2 a3 μ).bind fun x1 =>
  match x1.1 with
  | .inl v3 =>
    gu (ib 0 1) <|
    vl (wL x1.2 128 (Int32.toNatClampNeg 0) ((v3 : Int32).toInt64)) fun m5 =>
    some (0, m5)
  | .inr E =>
    if E = "java/lang/IllegalArgumentException" then
      some (1, x1.2)
    else
      none
set_option maxRecDepth 20000 in
theorem T_L_holds_0 (G : GX) (fu : Nat)  (hG : gt G = tbl) : ∀ (a1 : Int32) (a2 : Int32) (a3 : Int32) (μ : Mem) (r : (Int32 × Mem)) , D_L_holds_0 fu a1 a2 a3 μ = some r → V G mL_holds 0 [some (.ref 0), some (.int a1), some (.int a2), some (.int a3), some (.ref 128), none] [] μ (.inl (some (.int r.1))) (r.2) := by
  intro a1 a2 a3 μ r h
  unfold D_L_holds_0 at h
  refine V_aload dL_holds_0 rfl ?_
  refine V_iconst (v := 0) dL_holds_2 rfl ?_
  refine V_aload_n dL_holds_3 rfl ?_
  refine V_iload_n dL_holds_4 rfl ?_
  refine V_iload_n dL_holds_5 rfl ?_
  refine V_iload_n dL_holds_6 rfl ?_
  obtain ⟨x1, y2, h⟩ := bi_o h
  have z := VM_X6_holds G fu hG a1 a2 a3 μ _ y2
  obtain ⟨u1, m1⟩ := x1
  dsimp only at z h
  cases u1 with
  | inl v3 =>
    dsimp only at h
    refine V_callV (as := [.int a1, .int a2, .int a3]) (q := 0) (rest := [.int 0, .ref 128]) dL_holds_7 ov_mX6_holds lk_RL_162 (by decide) (by decide) rfl rfl (Nat.le_of_ble_eq_true rfl) (tq_0 hG) rfl (z) ?_
    refine V_i2l dL_holds_10 ?_
    obtain ⟨g4, h⟩ := gu_o h
    obtain ⟨m5, e6, h⟩ := vl_o h
    refine V_lastore (μ2 := m5) dL_holds_11 (tq_128 hG) (ib_in g4) e6.symm ?_
    refine V_goto (tgt := 19) dL_holds_12 (by decide) ?_
    refine V_iconst (v := 0) dL_holds_19 rfl ?_
    cases h
    exact V_iret rfl dL_holds_20
  | inr E =>
    dsimp only at h
    by_cases hE0 : E = "java/lang/IllegalArgumentException"
    · rw [if_pos hE0] at h
      subst hE0
      refine V_callVH (as := [.int a1, .int a2, .int a3]) (q := 0) (rest := [.int 0, .ref 128]) [] [] dL_holds_7 rfl (fun _ h9 => absurd h9 List.not_mem_nil) (by decide) (by decide) cl_RL_13 (by decide +kernel) ov_mX6_holds lk_RL_162 (by decide) (by decide) rfl rfl (Nat.le_of_ble_eq_true rfl) (tq_0 hG) rfl z (fun a => ?_)
      refine V_astoreR (lv2 := [some (.ref 0), some (.int a1), some (.int a2), some (.int a3), some (.ref 128), some (.retAddr a)]) dL_holds_15 (by decide) rfl ?_
      refine V_iconst (v := 1) dL_holds_17 rfl ?_
      cases h
      exact V_iret rfl dL_holds_18
    · rw [if_neg hE0] at h
      cases h
theorem VM_L_holds (G : GX) (fu : Nat)  (hG : gt G = tbl) (a1 : Int32) (a2 : Int32) (a3 : Int32) (μ : Mem) (r : (Int32 × Mem)) (h : D_L_holds_0 fu a1 a2 a3 μ = some r) : VM G mL_holds [.ref 0, .int a1, .int a2, .int a3, .ref 128] μ (.inl (some (.int r.1))) (r.2) := V_entryH ok_mL_holds rfl rfl (Nat.le_of_ble_eq_true rfl) (T_L_holds_0 G fu hG a1 a2 a3 μ r h)
