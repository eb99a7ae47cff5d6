def D_X6_isWithin_0 (μ : Mem)  (a0 : Int32) (a1 : Int32) (a2 : Int32) : Option Bool :=
  if a0 < a1 then
    some false
  else
    if a2 < a0 then
      some false
    else
      some true
set_option maxRecDepth 20000 in
theorem T_X6_isWithin_0 (G : GX) (μ : Mem)  (hG : gt G = tbl) : ∀ (a0 : Int32) (a1 : Int32) (a2 : Int32) (r : Bool) , D_X6_isWithin_0 μ a0 a1 a2 = some r → V G mX6_isWithin 0 [some (.int a0), some (.int a1), some (.int a2)] [] μ (.inl (some (.int (b2i r)))) (μ) := by
  intro a0 a1 a2 r h
  unfold D_X6_isWithin_0 at h
  refine V_iload_n dX6_isWithin_0 rfl ?_
  refine V_iload_n dX6_isWithin_1 rfl ?_
  by_cases c2 : a0 < a1
  · rw [if_pos c2] at h
    refine V_icmplt_t (tgt := 14) dX6_isWithin_2 (by decide) c2 ?_
    refine V_iconst (v := 0) dX6_isWithin_14 rfl ?_
    cases h
    exact V_zret rfl (by decide) dX6_isWithin_15
  · rw [if_neg c2] at h
    refine V_icmplt_f (tgt := 14) dX6_isWithin_2 (by decide) c2 ?_
    refine V_iload_n dX6_isWithin_5 rfl ?_
    refine V_iload_n dX6_isWithin_6 rfl ?_
    by_cases c7 : a2 < a0
    · rw [if_pos c7] at h
      refine V_icmpgt_t (tgt := 14) dX6_isWithin_7 (by decide) c7 ?_
      refine V_iconst (v := 0) dX6_isWithin_14 rfl ?_
      cases h
      exact V_zret rfl (by decide) dX6_isWithin_15
    · rw [if_neg c7] at h
      refine V_icmpgt_f (tgt := 14) dX6_isWithin_7 (by decide) c7 ?_
      refine V_iconst (v := 1) dX6_isWithin_10 rfl ?_
      refine V_goto (tgt := 15) dX6_isWithin_11 (by decide) ?_
      cases h
      exact V_zret rfl (by decide) dX6_isWithin_15
theorem VM_X6_isWithin (G : GX) (μ : Mem)  (hG : gt G = tbl) (a0 : Int32) (a1 : Int32) (a2 : Int32) (r : Bool) (h : D_X6_isWithin_0 μ a0 a1 a2 = some r) : VM G mX6_isWithin [.int a0, .int a1, .int a2] μ (.inl (some (.int (b2i r)))) (μ) := V_entry ok_mX6_isWithin rfl rfl (Nat.le_of_ble_eq_true rfl) (T_X6_isWithin_0 G μ hG a0 a1 a2 r h)
def D_X6_isYear_0 (μ : Mem)  (a0 : Int32) : Option Bool :=
  (D_X6_isWithin_0 μ a0 0 11).bind fun x1 =>
  some x1
set_option maxRecDepth 20000 in
theorem T_X6_isYear_0 (G : GX) (μ : Mem)  (hG : gt G = tbl) : ∀ (a0 : Int32) (r : Bool) , D_X6_isYear_0 μ a0 = some r → V G mX6_isYear 0 [some (.int a0)] [] μ (.inl (some (.int (b2i r)))) (μ) := by
  intro a0 r h
  unfold D_X6_isYear_0 at h
  refine V_iload_n dX6_isYear_0 rfl ?_
  refine V_iconst (v := 0) dX6_isYear_1 rfl ?_
  refine V_bipush (v := 11) dX6_isYear_2 rfl ?_
  obtain ⟨x1, y2, h⟩ := bi_o h
  refine V_callS (as := [.int a0, .int 0, .int 11]) (rest := []) dX6_isYear_4 os_mX6_isWithin rfl lk_RX6_42 (by decide) (by decide) rfl rfl (Nat.le_of_ble_eq_true rfl) (VM_X6_isWithin G μ hG a0 0 11 _ y2) ?_
  cases h
  exact V_zret rfl (b2i_nar _) dX6_isYear_7
theorem VM_X6_isYear (G : GX) (μ : Mem)  (hG : gt G = tbl) (a0 : Int32) (r : Bool) (h : D_X6_isYear_0 μ a0 = some r) : VM G mX6_isYear [.int a0] μ (.inl (some (.int (b2i r)))) (μ) := V_entry ok_mX6_isYear rfl rfl (Nat.le_of_ble_eq_true rfl) (T_X6_isYear_0 G μ hG a0 r h)
def D_X6_needRight_0  (a1 : Int32) (μ : Mem) : Option ((Unit ⊕ String) × Mem) :=
  if a1 = 0 then
    gu (ib 1 3) <|
    gu (ib 1 3) <|
    vl (wI μ 84 (Int32.toNatClampNeg 1) ((μ.1 84 (Int32.toNatClampNeg 1)) + 1)) fun m3 =>
    some (.inr "java/lang/IllegalArgumentException", (m3.1, m3.2.1, m3.2.2.1 + 1, m3.2.2.2 + 6))
  else
    some (.inl (), μ)
set_option maxRecDepth 20000 in
theorem T_X6_needRight_0 (G : GX)  (hG : gt G = tbl) : ∀ (a1 : Int32) (μ : Mem) (r : ((Unit ⊕ String) × Mem)) , D_X6_needRight_0  a1 μ = some r → V G mX6_needRight 0 [some (.ref 0), some (.int a1)] [] μ (ouV r.1) (r.2) := by
  intro a1 μ r h
  unfold D_X6_needRight_0 at h
  refine V_iload_n dX6_needRight_0 rfl ?_
  by_cases c1 : a1 = 0
  · rw [if_pos c1] at h
    refine V_ifne_f (tgt := 25) dX6_needRight_1 (by decide) c1 ?_
    refine V_aload_n dX6_needRight_4 rfl ?_
    refine V_getR (kf := 4) k_X6 (by decide) lk_RX6_33 rfl dX6_needRight_5 (tq_0 hG) rfl ?_
    refine V_iconst (v := 1) dX6_needRight_8 rfl ?_
    refine V_dup2 dX6_needRight_9 rfl rfl ?_
    obtain ⟨g1, h⟩ := gu_o h
    refine V_iaload dX6_needRight_10 (tq_84 hG) (ib_in g1) ?_
    refine V_iconst (v := 1) dX6_needRight_11 rfl ?_
    refine V_iadd dX6_needRight_12 ?_
    obtain ⟨g2, h⟩ := gu_o h
    obtain ⟨m3, e4, h⟩ := vl_o h
    refine V_iastore (μ2 := m3) dX6_needRight_13 (tq_84 hG) (ib_in g2) e4.symm ?_
    cases h
    exact thr_IllegalArgumentException rfl rfl (by decide) (by decide) dX6_needRight_14 dX6_needRight_17 dX6_needRight_18 dX6_needRight_21 dX6_needRight_24
  · rw [if_neg c1] at h
    refine V_ifne_t (tgt := 25) dX6_needRight_1 (by decide) c1 ?_
    cases h
    exact V_vret rfl dX6_needRight_25
theorem VM_X6_needRight (G : GX)  (hG : gt G = tbl) (a1 : Int32) (μ : Mem) (r : ((Unit ⊕ String) × Mem)) (h : D_X6_needRight_0  a1 μ = some r) : VM G mX6_needRight [.ref 0, .int a1] μ (ouV r.1) (r.2) := V_entry ok_mX6_needRight rfl rfl (Nat.le_of_ble_eq_true rfl) (T_X6_needRight_0 G hG a1 μ r h)
def D_X6_enter_38 (fu : Nat)  (μ : Mem) : Option ((Unit ⊕ String) × Mem) :=
  gu (ib 2 3) <|
  gu (ib 2 3) <|
  vl (wI μ 84 (Int32.toNatClampNeg 2) ((μ.1 84 (Int32.toNatClampNeg 2)) + 1)) fun m3 =>
  some (.inr "java/lang/IllegalStateException", (m3.1, m3.2.1, m3.2.2.1 + 1, m3.2.2.2 + 6))
set_option maxRecDepth 20000 in
theorem T_X6_enter_38 (G : GX) (fu : Nat)  (hG : gt G = tbl) : ∀ (μ : Mem) (r : ((Unit ⊕ String) × Mem)) , D_X6_enter_38 fu μ = some r → V G mX6_enter 38 [some (.ref 0)] [] μ (ouV r.1) (r.2) := by
  intro μ r h
  unfold D_X6_enter_38 at h
  refine V_aload_n dX6_enter_38 rfl ?_
  refine V_getR (kf := 4) k_X6 (by decide) lk_RX6_33 rfl dX6_enter_39 (tq_0 hG) rfl ?_
  refine V_iconst (v := 2) dX6_enter_42 rfl ?_
  refine V_dup2 dX6_enter_43 rfl rfl ?_
  obtain ⟨g1, h⟩ := gu_o h
  refine V_iaload dX6_enter_44 (tq_84 hG) (ib_in g1) ?_
  refine V_iconst (v := 1) dX6_enter_45 rfl ?_
  refine V_iadd dX6_enter_46 ?_
  obtain ⟨g2, h⟩ := gu_o h
  obtain ⟨m3, e4, h⟩ := vl_o h
  refine V_iastore (μ2 := m3) dX6_enter_47 (tq_84 hG) (ib_in g2) e4.symm ?_
  cases h
  exact thr_IllegalStateException rfl rfl (by decide) (by decide) dX6_enter_48 dX6_enter_51 dX6_enter_52 dX6_enter_55 dX6_enter_58
def D_X6_enter_0 (fu : Nat)  (μ : Mem) : Option ((Unit ⊕ String) × Mem) :=
  if (160 : Int32) ≤ (μ.1 1 1) then
    D_X6_enter_38 fu μ
  else
    (D_X0_carryOut_0 fu 3 (μ.1 1 1) μ).bind fun x5 =>
    if x5.1 = true then
      vl (wI x5.2 1 1 ((x5.2.1 1 1) + 1)) fun m7 =>
      some (.inl (), m7)
    else
      D_X6_enter_38 fu x5.2
set_option maxRecDepth 20000 in
theorem T_X6_enter_0 (G : GX) (fu : Nat)  (hG : gt G = tbl) : ∀ (μ : Mem) (r : ((Unit ⊕ String) × Mem)) , D_X6_enter_0 fu μ = some r → V G mX6_enter 0 [some (.ref 0)] [] μ (ouV r.1) (r.2) := by
  intro μ r h
  unfold D_X6_enter_0 at h
  refine V_aload_n dX6_enter_0 rfl ?_
  refine V_getR (kf := 0) k_X6 (by decide) lk_RX6_12 rfl dX6_enter_1 (tq_0 hG) rfl ?_
  refine V_getI (kf := 1) k_X2 (by decide) lk_RX6_128 rfl dX6_enter_4 (tq_1 hG) rfl ?_
  refine V_sipush (v := 160) dX6_enter_7 rfl ?_
  by_cases c10 : (160 : Int32) ≤ (μ.1 1 1)
  · rw [if_pos c10] at h
    refine V_icmpge_t (tgt := 38) dX6_enter_10 (by decide) c10 ?_
    exact V_wk [true] rfl (T_X6_enter_38 G fu hG _ _ h)
  · rw [if_neg c10] at h
    refine V_icmpge_f (tgt := 38) dX6_enter_10 (by decide) c10 ?_
    refine V_aload_n dX6_enter_13 rfl ?_
    refine V_getR (kf := 1) k_X6 (by decide) lk_RX6_19 rfl dX6_enter_14 (tq_0 hG) rfl ?_
    refine V_aload_n dX6_enter_17 rfl ?_
    refine V_getR (kf := 0) k_X6 (by decide) lk_RX6_12 rfl dX6_enter_18 (tq_0 hG) rfl ?_
    refine V_aload_n dX6_enter_21 rfl ?_
    refine V_getR (kf := 0) k_X6 (by decide) lk_RX6_12 rfl dX6_enter_22 (tq_0 hG) rfl ?_
    refine V_getI (kf := 1) k_X2 (by decide) lk_RX6_128 rfl dX6_enter_25 (tq_1 hG) rfl ?_
    refine V_aload_n dX6_enter_28 rfl ?_
    refine V_getR (kf := 3) k_X6 (by decide) lk_RX6_29 rfl dX6_enter_29 (tq_0 hG) rfl ?_
    obtain ⟨x5, y6, h⟩ := bi_o h
    refine V_callV (as := [.ref 1, .int (μ.1 1 1), .ref 61]) (q := 3) (rest := []) dX6_enter_32 ov_mX0_carryOut lk_RX6_132 (by decide) (by decide) rfl rfl (Nat.le_of_ble_eq_true rfl) (tq_3 hG) rfl (VM_X0_carryOut G fu 3 hG (Or.inl rfl) (μ.1 1 1) μ _ y6) ?_
    by_cases c35 : x5.1 = true
    · rw [if_pos c35] at h
      refine V_ifne_t (tgt := 59) dX6_enter_35 (by decide) (b2i_t.mp c35) ?_
      refine V_aload_n dX6_enter_59 rfl ?_
      refine V_getR (kf := 0) k_X6 (by decide) lk_RX6_12 rfl dX6_enter_60 (tq_0 hG) rfl ?_
      refine V_dup dX6_enter_63 rfl ?_
      refine V_getI (kf := 1) k_X2 (by decide) lk_RX6_128 rfl dX6_enter_64 (tq_1 hG) rfl ?_
      refine V_iconst (v := 1) dX6_enter_67 rfl ?_
      refine V_iadd dX6_enter_68 ?_
      obtain ⟨m7, e8, h⟩ := vl_o h
      refine V_putI (kf := 1) k_X2 (by decide) lk_RX6_128 rfl rfl (by decide +kernel) dX6_enter_69 (tq_1 hG) rfl e8.symm ?_
      cases h
      exact V_vret rfl dX6_enter_72
    · rw [if_neg c35] at h
      refine V_ifne_f (tgt := 59) dX6_enter_35 (by decide) (b2i_f.mp c35) ?_
      exact V_wk [true] rfl (T_X6_enter_38 G fu hG _ _ h)
theorem VM_X6_enter (G : GX) (fu : Nat)  (hG : gt G = tbl) (μ : Mem) (r : ((Unit ⊕ String) × Mem)) (h : D_X6_enter_0 fu μ = some r) : VM G mX6_enter [.ref 0] μ (ouV r.1) (r.2) := V_entry ok_mX6_enter rfl rfl (Nat.le_of_ble_eq_true rfl) (T_X6_enter_0 G fu hG μ r h)
def D_X6_place_43 (fu : Nat)  (v1 : Int32) (v2 : Int32) (v3 : Int32) (v4 : Int32) (s1 : Int32) (μ : Mem) : Option ((Int32 ⊕ String) × Mem) :=
  (D_X6_needRight_0 s1 μ).bind fun x9 =>
  tx x9 fun v11 m12 =>
  (D_X2_write_0 0 (m12.1 4 13) v1 v2 v3 v4 m12).bind fun x15 =>
  (D_X6_enter_0 fu x15).bind fun x17 =>
  tx x17 fun v19 m20 =>
  some (.inl (m12.1 4 13), m20)
set_option maxRecDepth 20000 in
theorem T_X6_place_43 (G : GX) (fu : Nat)  (hG : gt G = tbl) : ∀ (v1 : Int32) (v2 : Int32) (v3 : Int32) (v4 : Int32) (s1 : Int32) (μ : Mem) (r : ((Int32 ⊕ String) × Mem)) , D_X6_place_43 fu v1 v2 v3 v4 s1 μ = some r → V G mX6_place 43 [some (.ref 0), some (.int v1), some (.int v2), some (.int v3), some (.int v4), none] [.int s1, .ref 0] μ (ouI r.1) (r.2) := by
  intro v1 v2 v3 v4 s1 μ r h
  unfold D_X6_place_43 at h
  obtain ⟨x9, y10, h⟩ := bi_o h
  have z13 := VM_X6_needRight G hG s1 μ _ y10
  rcases tx_o h with ⟨v11, q14, h⟩ | ⟨E, q14, h⟩
  · rw [q14] at z13
    generalize x9.2 = m12 at h z13
    refine V_callV (as := [.int s1]) (q := 0) (rest := []) dX6_place_43 ov_mX6_needRight lk_RX6_47 (by decide) (by decide) rfl rfl (Nat.le_of_ble_eq_true rfl) (tq_0 hG) rfl (z13) ?_
    refine V_aload_n dX6_place_46 rfl ?_
    refine V_getR (kf := 1) k_X6 (by decide) lk_RX6_19 rfl dX6_place_47 (tq_0 hG) rfl ?_
    refine V_getR (kf := 0) k_X0 (by decide) lk_RX6_51 rfl dX6_place_50 (tq_3 hG) rfl ?_
    refine V_getI (kf := 13) k_X5 (by decide) lk_RX6_55 rfl dX6_place_53 (tq_4 hG) rfl ?_
    refine V_istore (lv2 := [some (.ref 0), some (.int v1), some (.int v2), some (.int v3), some (.int v4), some (.int (m12.1 4 13))]) dX6_place_56 (by decide) rfl ?_
    refine V_aload_n dX6_place_58 rfl ?_
    refine V_getR (kf := 0) k_X6 (by decide) lk_RX6_12 rfl dX6_place_59 (tq_0 hG) rfl ?_
    refine V_iconst (v := 0) dX6_place_62 rfl ?_
    refine V_iload dX6_place_63 rfl ?_
    refine V_iload_n dX6_place_65 rfl ?_
    refine V_iload_n dX6_place_66 rfl ?_
    refine V_iload_n dX6_place_67 rfl ?_
    refine V_iload dX6_place_68 rfl ?_
    obtain ⟨x15, y16, h⟩ := bi_o h
    refine V_callV (as := [.int 0, .int (m12.1 4 13), .int v1, .int v2, .int v3, .int v4]) (q := 1) (rest := []) dX6_place_70 ov_mX2_write lk_RX6_61 (by decide) (by decide) rfl rfl (Nat.le_of_ble_eq_true rfl) (tq_1 hG) rfl (VM_X2_write G hG 0 (m12.1 4 13) v1 v2 v3 v4 m12 _ y16) ?_
    refine V_aload_n dX6_place_73 rfl ?_
    obtain ⟨x17, y18, h⟩ := bi_o h
    have z21 := VM_X6_enter G fu hG x15 _ y18
    rcases tx_o h with ⟨v19, q22, h⟩ | ⟨E, q22, h⟩
    · rw [q22] at z21
      generalize x17.2 = m20 at h z21
      refine V_callV (as := []) (q := 0) (rest := []) dX6_place_74 ov_mX6_enter lk_RX6_65 (by decide) (by decide) rfl rfl (Nat.le_of_ble_eq_true rfl) (tq_0 hG) rfl (z21) ?_
      refine V_iload dX6_place_77 rfl ?_
      cases h
      exact V_iret rfl dX6_place_79
    · rw [q22] at z21
      cases h
      exact V_callVX (as := []) (q := 0) (rest := []) dX6_place_74 rfl ov_mX6_enter lk_RX6_65 (by decide) (by decide) rfl rfl (Nat.le_of_ble_eq_true rfl) (tq_0 hG) rfl (z21)
  · rw [q14] at z13
    cases h
    exact V_callVX (as := [.int s1]) (q := 0) (rest := []) dX6_place_43 rfl ov_mX6_needRight lk_RX6_47 (by decide) (by decide) rfl rfl (Nat.le_of_ble_eq_true rfl) (tq_0 hG) rfl (z13)
def D_X6_place_42 (fu : Nat)  (v1 : Int32) (v2 : Int32) (v3 : Int32) (v4 : Int32) (μ : Mem) : Option ((Int32 ⊕ String) × Mem) :=
  D_X6_place_43 fu v1 v2 v3 v4 0 μ
set_option maxRecDepth 20000 in
theorem T_X6_place_42 (G : GX) (fu : Nat)  (hG : gt G = tbl) : ∀ (v1 : Int32) (v2 : Int32) (v3 : Int32) (v4 : Int32) (μ : Mem) (r : ((Int32 ⊕ String) × Mem)) , D_X6_place_42 fu v1 v2 v3 v4 μ = some r → V G mX6_place 42 [some (.ref 0), some (.int v1), some (.int v2), some (.int v3), some (.int v4), none] [.ref 0] μ (ouI r.1) (r.2) := by
  intro v1 v2 v3 v4 μ r h
  unfold D_X6_place_42 at h
  refine V_iconst (v := 0) dX6_place_42 rfl ?_
  exact V_wk [true, true, true, true, true, false] rfl (T_X6_place_43 G fu hG _ _ _ _ _ _ _ h)
def D_X6_place_0 (fu : Nat)  (a1 : Int32) (a2 : Int32) (a3 : Int32) (a4 : Int32) (μ : Mem) : Option ((Int32 ⊕ String) × Mem) :=
  (D_X6_isYear_0 μ a1).bind fun x1 =>
  if x1 = true then
    (D_X6_isWithin_0 μ a2 0 900000000).bind fun x3 =>
    if x3 = true then
      (D_X6_isWithin_0 μ a3 1 100000000).bind fun x5 =>
      if x5 = true then
        (D_X6_isWithin_0 μ a4 1 4).bind fun x7 =>
        if x7 = true then
          D_X6_place_43 fu a1 a2 a3 a4 1 μ
        else
          D_X6_place_42 fu a1 a2 a3 a4 μ
      else
        D_X6_place_42 fu a1 a2 a3 a4 μ
    else
      D_X6_place_42 fu a1 a2 a3 a4 μ
  else
    D_X6_place_42 fu a1 a2 a3 a4 μ
set_option maxRecDepth 20000 in
theorem T_X6_place_0 (G : GX) (fu : Nat)  (hG : gt G = tbl) : ∀ (a1 : Int32) (a2 : Int32) (a3 : Int32) (a4 : Int32) (μ : Mem) (r : ((Int32 ⊕ String) × Mem)) , D_X6_place_0 fu a1 a2 a3 a4 μ = some r → V G mX6_place 0 [some (.ref 0), some (.int a1), some (.int a2), some (.int a3), some (.int a4), none] [] μ (ouI r.1) (r.2) := by
  intro a1 a2 a3 a4 μ r h
  unfold D_X6_place_0 at h
  refine V_aload_n dX6_place_0 rfl ?_
  refine V_iload_n dX6_place_1 rfl ?_
  obtain ⟨x1, y2, h⟩ := bi_o h
  refine V_callS (as := [.int a1]) (rest := [.ref 0]) dX6_place_2 os_mX6_isYear rfl lk_RX6_37 (by decide) (by decide) rfl rfl (Nat.le_of_ble_eq_true rfl) (VM_X6_isYear G μ hG a1 _ y2) ?_
  by_cases c5 : x1 = true
  · rw [if_pos c5] at h
    refine V_ifeq_f (tgt := 42) dX6_place_5 (by decide) (b2i_t.mp c5) ?_
    refine V_iload_n dX6_place_8 rfl ?_
    refine V_iconst (v := 0) dX6_place_9 rfl ?_
    refine V_ldc (v := 900000000) dX6_place_10 lk_RX6_41 ?_
    obtain ⟨x3, y4, h⟩ := bi_o h
    refine V_callS (as := [.int a2, .int 0, .int 900000000]) (rest := [.ref 0]) dX6_place_12 os_mX6_isWithin rfl lk_RX6_42 (by decide) (by decide) rfl rfl (Nat.le_of_ble_eq_true rfl) (VM_X6_isWithin G μ hG a2 0 900000000 _ y4) ?_
    by_cases c15 : x3 = true
    · rw [if_pos c15] at h
      refine V_ifeq_f (tgt := 42) dX6_place_15 (by decide) (b2i_t.mp c15) ?_
      refine V_iload_n dX6_place_18 rfl ?_
      refine V_iconst (v := 1) dX6_place_19 rfl ?_
      refine V_ldc (v := 100000000) dX6_place_20 lk_RX6_46 ?_
      obtain ⟨x5, y6, h⟩ := bi_o h
      refine V_callS (as := [.int a3, .int 1, .int 100000000]) (rest := [.ref 0]) dX6_place_22 os_mX6_isWithin rfl lk_RX6_42 (by decide) (by decide) rfl rfl (Nat.le_of_ble_eq_true rfl) (VM_X6_isWithin G μ hG a3 1 100000000 _ y6) ?_
      by_cases c25 : x5 = true
      · rw [if_pos c25] at h
        refine V_ifeq_f (tgt := 42) dX6_place_25 (by decide) (b2i_t.mp c25) ?_
        refine V_iload dX6_place_28 rfl ?_
        refine V_iconst (v := 1) dX6_place_30 rfl ?_
        refine V_iconst (v := 4) dX6_place_31 rfl ?_
        obtain ⟨x7, y8, h⟩ := bi_o h
        refine V_callS (as := [.int a4, .int 1, .int 4]) (rest := [.ref 0]) dX6_place_32 os_mX6_isWithin rfl lk_RX6_42 (by decide) (by decide) rfl rfl (Nat.le_of_ble_eq_true rfl) (VM_X6_isWithin G μ hG a4 1 4 _ y8) ?_
        by_cases c35 : x7 = true
        · rw [if_pos c35] at h
          refine V_ifeq_f (tgt := 42) dX6_place_35 (by decide) (b2i_t.mp c35) ?_
          refine V_iconst (v := 1) dX6_place_38 rfl ?_
          refine V_goto (tgt := 43) dX6_place_39 (by decide) ?_
          exact V_wk [true, true, true, true, true, false] rfl (T_X6_place_43 G fu hG _ _ _ _ _ _ _ h)
        · rw [if_neg c35] at h
          refine V_ifeq_t (tgt := 42) dX6_place_35 (by decide) (b2i_f.mp c35) ?_
          exact V_wk [true, true, true, true, true, false] rfl (T_X6_place_42 G fu hG _ _ _ _ _ _ h)
      · rw [if_neg c25] at h
        refine V_ifeq_t (tgt := 42) dX6_place_25 (by decide) (b2i_f.mp c25) ?_
        exact V_wk [true, true, true, true, true, false] rfl (T_X6_place_42 G fu hG _ _ _ _ _ _ h)
    · rw [if_neg c15] at h
      refine V_ifeq_t (tgt := 42) dX6_place_15 (by decide) (b2i_f.mp c15) ?_
      exact V_wk [true, true, true, true, true, false] rfl (T_X6_place_42 G fu hG _ _ _ _ _ _ h)
  · rw [if_neg c5] at h
    refine V_ifeq_t (tgt := 42) dX6_place_5 (by decide) (b2i_f.mp c5) ?_
    exact V_wk [true, true, true, true, true, false] rfl (T_X6_place_42 G fu hG _ _ _ _ _ _ h)
theorem VM_X6_place (G : GX) (fu : Nat)  (hG : gt G = tbl) (a1 : Int32) (a2 : Int32) (a3 : Int32) (a4 : Int32) (μ : Mem) (r : ((Int32 ⊕ String) × Mem)) (h : D_X6_place_0 fu a1 a2 a3 a4 μ = some r) : VM G mX6_place [.ref 0, .int a1, .int a2, .int a3, .int a4] μ (ouI r.1) (r.2) := V_entry ok_mX6_place rfl rfl (Nat.le_of_ble_eq_true rfl) (T_X6_place_0 G fu hG a1 a2 a3 a4 μ r h)
def D_X6_isLayer_0 (μ : Mem)  (a1 : Int32) : Option Bool :=
  if a1 < 0 then
    some false
  else
    if (μ.1 4 13) ≤ a1 then
      some false
    else
      some true
set_option maxRecDepth 20000 in
theorem T_X6_isLayer_0 (G : GX) (μ : Mem)  (hG : gt G = tbl) : ∀ (a1 : Int32) (r : Bool) , D_X6_isLayer_0 μ a1 = some r → V G mX6_isLayer 0 [some (.ref 0), some (.int a1)] [] μ (.inl (some (.int (b2i r)))) (μ) := by
  intro a1 r h
  unfold D_X6_isLayer_0 at h
  refine V_iload_n dX6_isLayer_0 rfl ?_
  by_cases c1 : a1 < 0
  · rw [if_pos c1] at h
    refine V_iflt_t (tgt := 22) dX6_isLayer_1 (by decide) c1 ?_
    refine V_iconst (v := 0) dX6_isLayer_22 rfl ?_
    cases h
    exact V_zret rfl (by decide) dX6_isLayer_23
  · rw [if_neg c1] at h
    refine V_iflt_f (tgt := 22) dX6_isLayer_1 (by decide) c1 ?_
    refine V_iload_n dX6_isLayer_4 rfl ?_
    refine V_aload_n dX6_isLayer_5 rfl ?_
    refine V_getR (kf := 1) k_X6 (by decide) lk_RX6_19 rfl dX6_isLayer_6 (tq_0 hG) rfl ?_
    refine V_getR (kf := 0) k_X0 (by decide) lk_RX6_51 rfl dX6_isLayer_9 (tq_3 hG) rfl ?_
    refine V_getI (kf := 13) k_X5 (by decide) lk_RX6_55 rfl dX6_isLayer_12 (tq_4 hG) rfl ?_
    by_cases c15 : (μ.1 4 13) ≤ a1
    · rw [if_pos c15] at h
      refine V_icmpge_t (tgt := 22) dX6_isLayer_15 (by decide) c15 ?_
      refine V_iconst (v := 0) dX6_isLayer_22 rfl ?_
      cases h
      exact V_zret rfl (by decide) dX6_isLayer_23
    · rw [if_neg c15] at h
      refine V_icmpge_f (tgt := 22) dX6_isLayer_15 (by decide) c15 ?_
      refine V_iconst (v := 1) dX6_isLayer_18 rfl ?_
      refine V_goto (tgt := 23) dX6_isLayer_19 (by decide) ?_
      cases h
      exact V_zret rfl (by decide) dX6_isLayer_23
theorem VM_X6_isLayer (G : GX) (μ : Mem)  (hG : gt G = tbl) (a1 : Int32) (r : Bool) (h : D_X6_isLayer_0 μ a1 = some r) : VM G mX6_isLayer [.ref 0, .int a1] μ (.inl (some (.int (b2i r)))) (μ) := V_entry ok_mX6_isLayer rfl rfl (Nat.le_of_ble_eq_true rfl) (T_X6_isLayer_0 G μ hG a1 r h)
def D_X6_needThere_0  (a1 : Int32) (μ : Mem) : Option ((Unit ⊕ String) × Mem) :=
  if a1 = 0 then
    gu (ib 0 3) <|
    gu (ib 0 3) <|
    vl (wI μ 84 (Int32.toNatClampNeg 0) ((μ.1 84 (Int32.toNatClampNeg 0)) + 1)) fun m3 =>
    some (.inr "java/util/NoSuchElementException", (m3.1, m3.2.1, m3.2.2.1 + 1, m3.2.2.2 + 6))
  else
    some (.inl (), μ)
set_option maxRecDepth 20000 in
theorem T_X6_needThere_0 (G : GX)  (hG : gt G = tbl) : ∀ (a1 : Int32) (μ : Mem) (r : ((Unit ⊕ String) × Mem)) , D_X6_needThere_0  a1 μ = some r → V G mX6_needThere 0 [some (.ref 0), some (.int a1)] [] μ (ouV r.1) (r.2) := by
  intro a1 μ r h
  unfold D_X6_needThere_0 at h
  refine V_iload_n dX6_needThere_0 rfl ?_
  by_cases c1 : a1 = 0
  · rw [if_pos c1] at h
    refine V_ifne_f (tgt := 25) dX6_needThere_1 (by decide) c1 ?_
    refine V_aload_n dX6_needThere_4 rfl ?_
    refine V_getR (kf := 4) k_X6 (by decide) lk_RX6_33 rfl dX6_needThere_5 (tq_0 hG) rfl ?_
    refine V_iconst (v := 0) dX6_needThere_8 rfl ?_
    refine V_dup2 dX6_needThere_9 rfl rfl ?_
    obtain ⟨g1, h⟩ := gu_o h
    refine V_iaload dX6_needThere_10 (tq_84 hG) (ib_in g1) ?_
    refine V_iconst (v := 1) dX6_needThere_11 rfl ?_
    refine V_iadd dX6_needThere_12 ?_
    obtain ⟨g2, h⟩ := gu_o h
    obtain ⟨m3, e4, h⟩ := vl_o h
    refine V_iastore (μ2 := m3) dX6_needThere_13 (tq_84 hG) (ib_in g2) e4.symm ?_
    cases h
    exact thr_NoSuchElementException rfl rfl (by decide) (by decide) dX6_needThere_14 dX6_needThere_17 dX6_needThere_18 dX6_needThere_21 dX6_needThere_24
  · rw [if_neg c1] at h
    refine V_ifne_t (tgt := 25) dX6_needThere_1 (by decide) c1 ?_
    cases h
    exact V_vret rfl dX6_needThere_25
theorem VM_X6_needThere (G : GX)  (hG : gt G = tbl) (a1 : Int32) (μ : Mem) (r : ((Unit ⊕ String) × Mem)) (h : D_X6_needThere_0  a1 μ = some r) : VM G mX6_needThere [.ref 0, .int a1] μ (ouV r.1) (r.2) := V_entry ok_mX6_needThere rfl rfl (Nat.le_of_ble_eq_true rfl) (T_X6_needThere_0 G hG a1 μ r h)
def D_X6_isInsurer_0 (μ : Mem)  (a0 : Int32) : Option Bool :=
  (D_X6_isWithin_0 μ a0 0 9).bind fun x1 =>
  some x1
set_option maxRecDepth 20000 in
theorem T_X6_isInsurer_0 (G : GX) (μ : Mem)  (hG : gt G = tbl) : ∀ (a0 : Int32) (r : Bool) , D_X6_isInsurer_0 μ a0 = some r → V G mX6_isInsurer 0 [some (.int a0)] [] μ (.inl (some (.int (b2i r)))) (μ) := by
  intro a0 r h
  unfold D_X6_isInsurer_0 at h
  refine V_iload_n dX6_isInsurer_0 rfl ?_
  refine V_iconst (v := 0) dX6_isInsurer_1 rfl ?_
  refine V_bipush (v := 9) dX6_isInsurer_2 rfl ?_
  obtain ⟨x1, y2, h⟩ := bi_o h
  refine V_callS (as := [.int a0, .int 0, .int 9]) (rest := []) dX6_isInsurer_4 os_mX6_isWithin rfl lk_RX6_42 (by decide) (by decide) rfl rfl (Nat.le_of_ble_eq_true rfl) (VM_X6_isWithin G μ hG a0 0 9 _ y2) ?_
  cases h
  exact V_zret rfl (b2i_nar _) dX6_isInsurer_7
theorem VM_X6_isInsurer (G : GX) (μ : Mem)  (hG : gt G = tbl) (a0 : Int32) (r : Bool) (h : D_X6_isInsurer_0 μ a0 = some r) : VM G mX6_isInsurer [.int a0] μ (.inl (some (.int (b2i r)))) (μ) := V_entry ok_mX6_isInsurer rfl rfl (Nat.le_of_ble_eq_true rfl) (T_X6_isInsurer_0 G μ hG a0 r h)
def D_X6_sign_32 (fu : Nat)  (v1 : Int32) (v2 : Int32) (v3 : Int32) (s1 : Int32) (μ : Mem) : Option ((Int32 ⊕ String) × Mem) :=
  (D_X6_needRight_0 s1 μ).bind fun x13 =>
  tx x13 fun v15 m16 =>
  (D_X2_write_0 1 v1 v2 v3 0 0 m16).bind fun x19 =>
  (D_X6_enter_0 fu x19).bind fun x21 =>
  tx x21 fun v23 m24 =>
  gu (ib v1 40) <|
  some (.inl (10 - (m24.1 11 (Int32.toNatClampNeg v1))), m24)
set_option maxRecDepth 20000 in
theorem T_X6_sign_32 (G : GX) (fu : Nat)  (hG : gt G = tbl) : ∀ (v1 : Int32) (v2 : Int32) (v3 : Int32) (s1 : Int32) (μ : Mem) (r : ((Int32 ⊕ String) × Mem)) , D_X6_sign_32 fu v1 v2 v3 s1 μ = some r → V G mX6_sign 32 [some (.ref 0), some (.int v1), some (.int v2), some (.int v3)] [.int s1, .ref 0] μ (ouI r.1) (r.2) := by
  intro v1 v2 v3 s1 μ r h
  unfold D_X6_sign_32 at h
  obtain ⟨x13, y14, h⟩ := bi_o h
  have z17 := VM_X6_needRight G hG s1 μ _ y14
  rcases tx_o h with ⟨v15, q18, h⟩ | ⟨E, q18, h⟩
  · rw [q18] at z17
    generalize x13.2 = m16 at h z17
    refine V_callV (as := [.int s1]) (q := 0) (rest := []) dX6_sign_32 ov_mX6_needRight lk_RX6_47 (by decide) (by decide) rfl rfl (Nat.le_of_ble_eq_true rfl) (tq_0 hG) rfl (z17) ?_
    refine V_aload_n dX6_sign_35 rfl ?_
    refine V_getR (kf := 0) k_X6 (by decide) lk_RX6_12 rfl dX6_sign_36 (tq_0 hG) rfl ?_
    refine V_iconst (v := 1) dX6_sign_39 rfl ?_
    refine V_iload_n dX6_sign_40 rfl ?_
    refine V_iload_n dX6_sign_41 rfl ?_
    refine V_iload_n dX6_sign_42 rfl ?_
    refine V_iconst (v := 0) dX6_sign_43 rfl ?_
    refine V_iconst (v := 0) dX6_sign_44 rfl ?_
    obtain ⟨x19, y20, h⟩ := bi_o h
    refine V_callV (as := [.int 1, .int v1, .int v2, .int v3, .int 0, .int 0]) (q := 1) (rest := []) dX6_sign_45 ov_mX2_write lk_RX6_61 (by decide) (by decide) rfl rfl (Nat.le_of_ble_eq_true rfl) (tq_1 hG) rfl (VM_X2_write G hG 1 v1 v2 v3 0 0 m16 _ y20) ?_
    refine V_aload_n dX6_sign_48 rfl ?_
    obtain ⟨x21, y22, h⟩ := bi_o h
    have z25 := VM_X6_enter G fu hG x19 _ y22
    rcases tx_o h with ⟨v23, q26, h⟩ | ⟨E, q26, h⟩
    · rw [q26] at z25
      generalize x21.2 = m24 at h z25
      refine V_callV (as := []) (q := 0) (rest := []) dX6_sign_49 ov_mX6_enter lk_RX6_65 (by decide) (by decide) rfl rfl (Nat.le_of_ble_eq_true rfl) (tq_0 hG) rfl (z25) ?_
      refine V_bipush (v := 10) dX6_sign_52 rfl ?_
      refine V_aload_n dX6_sign_54 rfl ?_
      refine V_getR (kf := 1) k_X6 (by decide) lk_RX6_19 rfl dX6_sign_55 (tq_0 hG) rfl ?_
      refine V_getR (kf := 0) k_X0 (by decide) lk_RX6_51 rfl dX6_sign_58 (tq_3 hG) rfl ?_
      refine V_getR (kf := 6) k_X5 (by decide) lk_RX6_77 rfl dX6_sign_61 (tq_4 hG) rfl ?_
      refine V_iload_n dX6_sign_64 rfl ?_
      obtain ⟨g27, h⟩ := gu_o h
      refine V_iaload dX6_sign_65 (tq_11 hG) (ib_in g27) ?_
      refine V_isub dX6_sign_66 ?_
      cases h
      exact V_iret rfl dX6_sign_67
    · rw [q26] at z25
      cases h
      exact V_callVX (as := []) (q := 0) (rest := []) dX6_sign_49 rfl ov_mX6_enter lk_RX6_65 (by decide) (by decide) rfl rfl (Nat.le_of_ble_eq_true rfl) (tq_0 hG) rfl (z25)
  · rw [q18] at z17
    cases h
    exact V_callVX (as := [.int s1]) (q := 0) (rest := []) dX6_sign_32 rfl ov_mX6_needRight lk_RX6_47 (by decide) (by decide) rfl rfl (Nat.le_of_ble_eq_true rfl) (tq_0 hG) rfl (z17)
def D_X6_sign_31 (fu : Nat)  (v1 : Int32) (v2 : Int32) (v3 : Int32) (μ : Mem) : Option ((Int32 ⊕ String) × Mem) :=
  D_X6_sign_32 fu v1 v2 v3 0 μ
set_option maxRecDepth 20000 in
theorem T_X6_sign_31 (G : GX) (fu : Nat)  (hG : gt G = tbl) : ∀ (v1 : Int32) (v2 : Int32) (v3 : Int32) (μ : Mem) (r : ((Int32 ⊕ String) × Mem)) , D_X6_sign_31 fu v1 v2 v3 μ = some r → V G mX6_sign 31 [some (.ref 0), some (.int v1), some (.int v2), some (.int v3)] [.ref 0] μ (ouI r.1) (r.2) := by
  intro v1 v2 v3 μ r h
  unfold D_X6_sign_31 at h
  refine V_iconst (v := 0) dX6_sign_31 rfl ?_
  exact V_wk [true, true, true, true] rfl (T_X6_sign_32 G fu hG _ _ _ _ _ _ h)
def D_X6_sign_0 (fu : Nat)  (a1 : Int32) (a2 : Int32) (a3 : Int32) (μ : Mem) : Option ((Int32 ⊕ String) × Mem) :=
  (D_X6_isLayer_0 μ a1).bind fun x1 =>
  (D_X6_needThere_0 (b2i x1) μ).bind fun x3 =>
  tx x3 fun v5 m6 =>
  (D_X6_isInsurer_0 m6 a2).bind fun x9 =>
  if x9 = true then
    (D_X6_isWithin_0 m6 a3 1 10).bind fun x11 =>
    if x11 = true then
      D_X6_sign_32 fu a1 a2 a3 1 m6
    else
      D_X6_sign_31 fu a1 a2 a3 m6
  else
    D_X6_sign_31 fu a1 a2 a3 m6
set_option maxRecDepth 20000 in
theorem T_X6_sign_0 (G : GX) (fu : Nat)  (hG : gt G = tbl) : ∀ (a1 : Int32) (a2 : Int32) (a3 : Int32) (μ : Mem) (r : ((Int32 ⊕ String) × Mem)) , D_X6_sign_0 fu a1 a2 a3 μ = some r → V G mX6_sign 0 [some (.ref 0), some (.int a1), some (.int a2), some (.int a3)] [] μ (ouI r.1) (r.2) := by
  intro a1 a2 a3 μ r h
  unfold D_X6_sign_0 at h
  refine V_aload_n dX6_sign_0 rfl ?_
  refine V_aload_n dX6_sign_1 rfl ?_
  refine V_iload_n dX6_sign_2 rfl ?_
  obtain ⟨x1, y2, h⟩ := bi_o h
  refine V_callV (as := [.int a1]) (q := 0) (rest := [.ref 0]) dX6_sign_3 ov_mX6_isLayer lk_RX6_68 (by decide) (by decide) rfl rfl (Nat.le_of_ble_eq_true rfl) (tq_0 hG) rfl (VM_X6_isLayer G μ hG a1 _ y2) ?_
  obtain ⟨x3, y4, h⟩ := bi_o h
  have z7 := VM_X6_needThere G hG (b2i x1) μ _ y4
  rcases tx_o h with ⟨v5, q8, h⟩ | ⟨E, q8, h⟩
  · rw [q8] at z7
    generalize x3.2 = m6 at h z7
    refine V_callV (as := [.int (b2i x1)]) (q := 0) (rest := []) dX6_sign_6 ov_mX6_needThere lk_RX6_71 (by decide) (by decide) rfl rfl (Nat.le_of_ble_eq_true rfl) (tq_0 hG) rfl (z7) ?_
    refine V_aload_n dX6_sign_9 rfl ?_
    refine V_iload_n dX6_sign_10 rfl ?_
    obtain ⟨x9, y10, h⟩ := bi_o h
    refine V_callS (as := [.int a2]) (rest := [.ref 0]) dX6_sign_11 os_mX6_isInsurer rfl lk_RX6_74 (by decide) (by decide) rfl rfl (Nat.le_of_ble_eq_true rfl) (VM_X6_isInsurer G m6 hG a2 _ y10) ?_
    by_cases c14 : x9 = true
    · rw [if_pos c14] at h
      refine V_ifeq_f (tgt := 31) dX6_sign_14 (by decide) (b2i_t.mp c14) ?_
      refine V_iload_n dX6_sign_17 rfl ?_
      refine V_iconst (v := 1) dX6_sign_18 rfl ?_
      refine V_bipush (v := 10) dX6_sign_19 rfl ?_
      obtain ⟨x11, y12, h⟩ := bi_o h
      refine V_callS (as := [.int a3, .int 1, .int 10]) (rest := [.ref 0]) dX6_sign_21 os_mX6_isWithin rfl lk_RX6_42 (by decide) (by decide) rfl rfl (Nat.le_of_ble_eq_true rfl) (VM_X6_isWithin G m6 hG a3 1 10 _ y12) ?_
      by_cases c24 : x11 = true
      · rw [if_pos c24] at h
        refine V_ifeq_f (tgt := 31) dX6_sign_24 (by decide) (b2i_t.mp c24) ?_
        refine V_iconst (v := 1) dX6_sign_27 rfl ?_
        refine V_goto (tgt := 32) dX6_sign_28 (by decide) ?_
        exact V_wk [true, true, true, true] rfl (T_X6_sign_32 G fu hG _ _ _ _ _ _ h)
      · rw [if_neg c24] at h
        refine V_ifeq_t (tgt := 31) dX6_sign_24 (by decide) (b2i_f.mp c24) ?_
        exact V_wk [true, true, true, true] rfl (T_X6_sign_31 G fu hG _ _ _ _ _ h)
    · rw [if_neg c14] at h
      refine V_ifeq_t (tgt := 31) dX6_sign_14 (by decide) (b2i_f.mp c14) ?_
      exact V_wk [true, true, true, true] rfl (T_X6_sign_31 G fu hG _ _ _ _ _ h)
  · rw [q8] at z7
    cases h
    exact V_callVX (as := [.int (b2i x1)]) (q := 0) (rest := []) dX6_sign_6 rfl ov_mX6_needThere lk_RX6_71 (by decide) (by decide) rfl rfl (Nat.le_of_ble_eq_true rfl) (tq_0 hG) rfl (z7)
theorem VM_X6_sign (G : GX) (fu : Nat)  (hG : gt G = tbl) (a1 : Int32) (a2 : Int32) (a3 : Int32) (μ : Mem) (r : ((Int32 ⊕ String) × Mem)) (h : D_X6_sign_0 fu a1 a2 a3 μ = some r) : VM G mX6_sign [.ref 0, .int a1, .int a2, .int a3] μ (ouI r.1) (r.2) := V_entry ok_mX6_sign rfl rfl (Nat.le_of_ble_eq_true rfl) (T_X6_sign_0 G fu hG a1 a2 a3 μ r h)
def D_X6_lack_0 (fu : Nat)  (a1 : Int32) (μ : Mem) : Option ((Int32 ⊕ String) × Mem) :=
  (D_X6_isYear_0 μ a1).bind fun x1 =>
  (D_X6_needRight_0 (b2i x1) μ).bind fun x3 =>
  tx x3 fun v5 m6 =>
  (D_X2_write_0 2 a1 0 0 0 0 m6).bind fun x9 =>
  (D_X6_enter_0 fu x9).bind fun x11 =>
  tx x11 fun v13 m14 =>
  (D_J6_bitCount_0f7a4_0 m14 (m14.1 4 12)).bind fun x17 =>
  some (.inl x17, m14)
set_option maxRecDepth 20000 in
theorem T_X6_lack_0 (G : GX) (fu : Nat)  (hG : gt G = tbl) : ∀ (a1 : Int32) (μ : Mem) (r : ((Int32 ⊕ String) × Mem)) , D_X6_lack_0 fu a1 μ = some r → V G mX6_lack 0 [some (.ref 0), some (.int a1)] [] μ (ouI r.1) (r.2) := by
  intro a1 μ r h
  unfold D_X6_lack_0 at h
  refine V_aload_n dX6_lack_0 rfl ?_
  refine V_iload_n dX6_lack_1 rfl ?_
  obtain ⟨x1, y2, h⟩ := bi_o h
  refine V_callS (as := [.int a1]) (rest := [.ref 0]) dX6_lack_2 os_mX6_isYear rfl lk_RX6_37 (by decide) (by decide) rfl rfl (Nat.le_of_ble_eq_true rfl) (VM_X6_isYear G μ hG a1 _ y2) ?_
  obtain ⟨x3, y4, h⟩ := bi_o h
  have z7 := VM_X6_needRight G hG (b2i x1) μ _ y4
  rcases tx_o h with ⟨v5, q8, h⟩ | ⟨E, q8, h⟩
  · rw [q8] at z7
    generalize x3.2 = m6 at h z7
    refine V_callV (as := [.int (b2i x1)]) (q := 0) (rest := []) dX6_lack_5 ov_mX6_needRight lk_RX6_47 (by decide) (by decide) rfl rfl (Nat.le_of_ble_eq_true rfl) (tq_0 hG) rfl (z7) ?_
    refine V_aload_n dX6_lack_8 rfl ?_
    refine V_getR (kf := 0) k_X6 (by decide) lk_RX6_12 rfl dX6_lack_9 (tq_0 hG) rfl ?_
    refine V_iconst (v := 2) dX6_lack_12 rfl ?_
    refine V_iload_n dX6_lack_13 rfl ?_
    refine V_iconst (v := 0) dX6_lack_14 rfl ?_
    refine V_iconst (v := 0) dX6_lack_15 rfl ?_
    refine V_iconst (v := 0) dX6_lack_16 rfl ?_
    refine V_iconst (v := 0) dX6_lack_17 rfl ?_
    obtain ⟨x9, y10, h⟩ := bi_o h
    refine V_callV (as := [.int 2, .int a1, .int 0, .int 0, .int 0, .int 0]) (q := 1) (rest := []) dX6_lack_18 ov_mX2_write lk_RX6_61 (by decide) (by decide) rfl rfl (Nat.le_of_ble_eq_true rfl) (tq_1 hG) rfl (VM_X2_write G hG 2 a1 0 0 0 0 m6 _ y10) ?_
    refine V_aload_n dX6_lack_21 rfl ?_
    obtain ⟨x11, y12, h⟩ := bi_o h
    have z15 := VM_X6_enter G fu hG x9 _ y12
    rcases tx_o h with ⟨v13, q16, h⟩ | ⟨E, q16, h⟩
    · rw [q16] at z15
      generalize x11.2 = m14 at h z15
      refine V_callV (as := []) (q := 0) (rest := []) dX6_lack_22 ov_mX6_enter lk_RX6_65 (by decide) (by decide) rfl rfl (Nat.le_of_ble_eq_true rfl) (tq_0 hG) rfl (z15) ?_
      refine V_aload_n dX6_lack_25 rfl ?_
      refine V_getR (kf := 1) k_X6 (by decide) lk_RX6_19 rfl dX6_lack_26 (tq_0 hG) rfl ?_
      refine V_getR (kf := 0) k_X0 (by decide) lk_RX6_51 rfl dX6_lack_29 (tq_3 hG) rfl ?_
      refine V_getI (kf := 12) k_X5 (by decide) lk_RX6_80 rfl dX6_lack_32 (tq_4 hG) rfl ?_
      obtain ⟨x17, y18, h⟩ := bi_o h
      refine V_callS (as := [.int (m14.1 4 12)]) (rest := []) dX6_lack_35 os_mJ6_bitCount_0f7a4 rfl lk_RX6_83 (by decide) (by decide) rfl rfl (Nat.le_of_ble_eq_true rfl) (VM_J6_bitCount_0f7a4 G m14 (m14.1 4 12) _ y18) ?_
      cases h
      exact V_iret rfl dX6_lack_38
    · rw [q16] at z15
      cases h
      exact V_callVX (as := []) (q := 0) (rest := []) dX6_lack_22 rfl ov_mX6_enter lk_RX6_65 (by decide) (by decide) rfl rfl (Nat.le_of_ble_eq_true rfl) (tq_0 hG) rfl (z15)
  · rw [q8] at z7
    cases h
    exact V_callVX (as := [.int (b2i x1)]) (q := 0) (rest := []) dX6_lack_5 rfl ov_mX6_needRight lk_RX6_47 (by decide) (by decide) rfl rfl (Nat.le_of_ble_eq_true rfl) (tq_0 hG) rfl (z7)
theorem VM_X6_lack (G : GX) (fu : Nat)  (hG : gt G = tbl) (a1 : Int32) (μ : Mem) (r : ((Int32 ⊕ String) × Mem)) (h : D_X6_lack_0 fu a1 μ = some r) : VM G mX6_lack [.ref 0, .int a1] μ (ouI r.1) (r.2) := V_entry ok_mX6_lack rfl rfl (Nat.le_of_ble_eq_true rfl) (T_X6_lack_0 G fu hG a1 μ r h)
def D_X6_isRule_0 (μ : Mem)  (a0 : Int32) : Option Bool :=
  (D_X6_isWithin_0 μ a0 0 3).bind fun x1 =>
  some x1
set_option maxRecDepth 20000 in
theorem T_X6_isRule_0 (G : GX) (μ : Mem)  (hG : gt G = tbl) : ∀ (a0 : Int32) (r : Bool) , D_X6_isRule_0 μ a0 = some r → V G mX6_isRule 0 [some (.int a0)] [] μ (.inl (some (.int (b2i r)))) (μ) := by
  intro a0 r h
  unfold D_X6_isRule_0 at h
  refine V_iload_n dX6_isRule_0 rfl ?_
  refine V_iconst (v := 0) dX6_isRule_1 rfl ?_
  refine V_iconst (v := 3) dX6_isRule_2 rfl ?_
  obtain ⟨x1, y2, h⟩ := bi_o h
  refine V_callS (as := [.int a0, .int 0, .int 3]) (rest := []) dX6_isRule_3 os_mX6_isWithin rfl lk_RX6_42 (by decide) (by decide) rfl rfl (Nat.le_of_ble_eq_true rfl) (VM_X6_isWithin G μ hG a0 0 3 _ y2) ?_
  cases h
  exact V_zret rfl (b2i_nar _) dX6_isRule_6
theorem VM_X6_isRule (G : GX) (μ : Mem)  (hG : gt G = tbl) (a0 : Int32) (r : Bool) (h : D_X6_isRule_0 μ a0 = some r) : VM G mX6_isRule [.int a0] μ (.inl (some (.int (b2i r)))) (μ) := V_entry ok_mX6_isRule rfl rfl (Nat.le_of_ble_eq_true rfl) (T_X6_isRule_0 G μ hG a0 r h)
def D_X6_areRules_0 (μ : Mem)  (a0 : Int32) (a1 : Int32) (a2 : Int32) : Option Bool :=
  (D_X6_isRule_0 μ a0).bind fun x1 =>
  if x1 = true then
    (D_X6_isRule_0 μ a1).bind fun x3 =>
    if x3 = true then
      (D_X6_isRule_0 μ a2).bind fun x5 =>
      if x5 = true then
        some true
      else
        some false
    else
      some false
  else
    some false
set_option maxRecDepth 20000 in
theorem T_X6_areRules_0 (G : GX) (μ : Mem)  (hG : gt G = tbl) : ∀ (a0 : Int32) (a1 : Int32) (a2 : Int32) (r : Bool) , D_X6_areRules_0 μ a0 a1 a2 = some r → V G mX6_areRules 0 [some (.int a0), some (.int a1), some (.int a2)] [] μ (.inl (some (.int (b2i r)))) (μ) := by
  intro a0 a1 a2 r h
  unfold D_X6_areRules_0 at h
  refine V_iload_n dX6_areRules_0 rfl ?_
  obtain ⟨x1, y2, h⟩ := bi_o h
  refine V_callS (as := [.int a0]) (rest := []) dX6_areRules_1 os_mX6_isRule rfl lk_RX6_275 (by decide) (by decide) rfl rfl (Nat.le_of_ble_eq_true rfl) (VM_X6_isRule G μ hG a0 _ y2) ?_
  by_cases c4 : x1 = true
  · rw [if_pos c4] at h
    refine V_ifeq_f (tgt := 25) dX6_areRules_4 (by decide) (b2i_t.mp c4) ?_
    refine V_iload_n dX6_areRules_7 rfl ?_
    obtain ⟨x3, y4, h⟩ := bi_o h
    refine V_callS (as := [.int a1]) (rest := []) dX6_areRules_8 os_mX6_isRule rfl lk_RX6_275 (by decide) (by decide) rfl rfl (Nat.le_of_ble_eq_true rfl) (VM_X6_isRule G μ hG a1 _ y4) ?_
    by_cases c11 : x3 = true
    · rw [if_pos c11] at h
      refine V_ifeq_f (tgt := 25) dX6_areRules_11 (by decide) (b2i_t.mp c11) ?_
      refine V_iload_n dX6_areRules_14 rfl ?_
      obtain ⟨x5, y6, h⟩ := bi_o h
      refine V_callS (as := [.int a2]) (rest := []) dX6_areRules_15 os_mX6_isRule rfl lk_RX6_275 (by decide) (by decide) rfl rfl (Nat.le_of_ble_eq_true rfl) (VM_X6_isRule G μ hG a2 _ y6) ?_
      by_cases c18 : x5 = true
      · rw [if_pos c18] at h
        refine V_ifeq_f (tgt := 25) dX6_areRules_18 (by decide) (b2i_t.mp c18) ?_
        refine V_iconst (v := 1) dX6_areRules_21 rfl ?_
        refine V_goto (tgt := 26) dX6_areRules_22 (by decide) ?_
        cases h
        exact V_zret rfl (by decide) dX6_areRules_26
      · rw [if_neg c18] at h
        refine V_ifeq_t (tgt := 25) dX6_areRules_18 (by decide) (b2i_f.mp c18) ?_
        refine V_iconst (v := 0) dX6_areRules_25 rfl ?_
        cases h
        exact V_zret rfl (by decide) dX6_areRules_26
    · rw [if_neg c11] at h
      refine V_ifeq_t (tgt := 25) dX6_areRules_11 (by decide) (b2i_f.mp c11) ?_
      refine V_iconst (v := 0) dX6_areRules_25 rfl ?_
      cases h
      exact V_zret rfl (by decide) dX6_areRules_26
  · rw [if_neg c4] at h
    refine V_ifeq_t (tgt := 25) dX6_areRules_4 (by decide) (b2i_f.mp c4) ?_
    refine V_iconst (v := 0) dX6_areRules_25 rfl ?_
    cases h
    exact V_zret rfl (by decide) dX6_areRules_26
theorem VM_X6_areRules (G : GX) (μ : Mem)  (hG : gt G = tbl) (a0 : Int32) (a1 : Int32) (a2 : Int32) (r : Bool) (h : D_X6_areRules_0 μ a0 a1 a2 = some r) : VM G mX6_areRules [.int a0, .int a1, .int a2] μ (.inl (some (.int (b2i r)))) (μ) := V_entry ok_mX6_areRules rfl rfl (Nat.le_of_ble_eq_true rfl) (T_X6_areRules_0 G μ hG a0 a1 a2 r h)
def D_X6_rules_45 (fu : Nat)  (v1 : Int32) (v2 : Int32) (v3 : Int32) (μ : Mem) : Option ((Int32 ⊕ String) × Mem) :=
  (D_X2_write_0 3 v1 v2 v3 0 0 μ).bind fun x9 =>
  (D_X6_enter_0 fu x9).bind fun x11 =>
  tx x11 fun v13 m14 =>
  some (.inl 1, m14)
set_option maxRecDepth 20000 in
theorem T_X6_rules_45 (G : GX) (fu : Nat)  (hG : gt G = tbl) : ∀ (v1 : Int32) (v2 : Int32) (v3 : Int32) (μ : Mem) (r : ((Int32 ⊕ String) × Mem)) , D_X6_rules_45 fu v1 v2 v3 μ = some r → V G mX6_rules 45 [some (.ref 0), some (.int v1), some (.int v2), some (.int v3)] [] μ (ouI r.1) (r.2) := by
  intro v1 v2 v3 μ r h
  unfold D_X6_rules_45 at h
  refine V_aload_n dX6_rules_45 rfl ?_
  refine V_getR (kf := 0) k_X6 (by decide) lk_RX6_12 rfl dX6_rules_46 (tq_0 hG) rfl ?_
  refine V_iconst (v := 3) dX6_rules_49 rfl ?_
  refine V_iload_n dX6_rules_50 rfl ?_
  refine V_iload_n dX6_rules_51 rfl ?_
  refine V_iload_n dX6_rules_52 rfl ?_
  refine V_iconst (v := 0) dX6_rules_53 rfl ?_
  refine V_iconst (v := 0) dX6_rules_54 rfl ?_
  obtain ⟨x9, y10, h⟩ := bi_o h
  refine V_callV (as := [.int 3, .int v1, .int v2, .int v3, .int 0, .int 0]) (q := 1) (rest := []) dX6_rules_55 ov_mX2_write lk_RX6_61 (by decide) (by decide) rfl rfl (Nat.le_of_ble_eq_true rfl) (tq_1 hG) rfl (VM_X2_write G hG 3 v1 v2 v3 0 0 μ _ y10) ?_
  refine V_aload_n dX6_rules_58 rfl ?_
  obtain ⟨x11, y12, h⟩ := bi_o h
  have z15 := VM_X6_enter G fu hG x9 _ y12
  rcases tx_o h with ⟨v13, q16, h⟩ | ⟨E, q16, h⟩
  · rw [q16] at z15
    generalize x11.2 = m14 at h z15
    refine V_callV (as := []) (q := 0) (rest := []) dX6_rules_59 ov_mX6_enter lk_RX6_65 (by decide) (by decide) rfl rfl (Nat.le_of_ble_eq_true rfl) (tq_0 hG) rfl (z15) ?_
    refine V_iconst (v := 1) dX6_rules_62 rfl ?_
    cases h
    exact V_iret rfl dX6_rules_63
  · rw [q16] at z15
    cases h
    exact V_callVX (as := []) (q := 0) (rest := []) dX6_rules_59 rfl ov_mX6_enter lk_RX6_65 (by decide) (by decide) rfl rfl (Nat.le_of_ble_eq_true rfl) (tq_0 hG) rfl (z15)
def D_X6_rules_0 (fu : Nat)  (a1 : Int32) (a2 : Int32) (a3 : Int32) (μ : Mem) : Option ((Int32 ⊕ String) × Mem) :=
  (D_X6_areRules_0 μ a1 a2 a3).bind fun x1 =>
  (D_X6_needRight_0 (b2i x1) μ).bind fun x3 =>
  tx x3 fun v5 m6 =>
  if a1 = (m6.1 3 4) then
    if a2 = (m6.1 3 5) then
      if a3 = (m6.1 3 6) then
        some (.inl 0, m6)
      else
        D_X6_rules_45 fu a1 a2 a3 m6
    else
      D_X6_rules_45 fu a1 a2 a3 m6
  else
    D_X6_rules_45 fu a1 a2 a3 m6
set_option maxRecDepth 20000 in
theorem T_X6_rules_0 (G : GX) (fu : Nat)  (hG : gt G = tbl) : ∀ (a1 : Int32) (a2 : Int32) (a3 : Int32) (μ : Mem) (r : ((Int32 ⊕ String) × Mem)) , D_X6_rules_0 fu a1 a2 a3 μ = some r → V G mX6_rules 0 [some (.ref 0), some (.int a1), some (.int a2), some (.int a3)] [] μ (ouI r.1) (r.2) := by
  intro a1 a2 a3 μ r h
  unfold D_X6_rules_0 at h
  refine V_aload_n dX6_rules_0 rfl ?_
  refine V_iload_n dX6_rules_1 rfl ?_
  refine V_iload_n dX6_rules_2 rfl ?_
  refine V_iload_n dX6_rules_3 rfl ?_
  obtain ⟨x1, y2, h⟩ := bi_o h
  refine V_callS (as := [.int a1, .int a2, .int a3]) (rest := [.ref 0]) dX6_rules_4 os_mX6_areRules rfl lk_RX6_89 (by decide) (by decide) rfl rfl (Nat.le_of_ble_eq_true rfl) (VM_X6_areRules G μ hG a1 a2 a3 _ y2) ?_
  obtain ⟨x3, y4, h⟩ := bi_o h
  have z7 := VM_X6_needRight G hG (b2i x1) μ _ y4
  rcases tx_o h with ⟨v5, q8, h⟩ | ⟨E, q8, h⟩
  · rw [q8] at z7
    generalize x3.2 = m6 at h z7
    refine V_callV (as := [.int (b2i x1)]) (q := 0) (rest := []) dX6_rules_7 ov_mX6_needRight lk_RX6_47 (by decide) (by decide) rfl rfl (Nat.le_of_ble_eq_true rfl) (tq_0 hG) rfl (z7) ?_
    refine V_iload_n dX6_rules_10 rfl ?_
    refine V_aload_n dX6_rules_11 rfl ?_
    refine V_getR (kf := 1) k_X6 (by decide) lk_RX6_19 rfl dX6_rules_12 (tq_0 hG) rfl ?_
    refine V_getI (kf := 4) k_X0 (by decide) lk_RX6_92 rfl dX6_rules_15 (tq_3 hG) rfl ?_
    by_cases c18 : a1 = (m6.1 3 4)
    · rw [if_pos c18] at h
      refine V_icmpne_f (tgt := 45) dX6_rules_18 (by decide) c18 ?_
      refine V_iload_n dX6_rules_21 rfl ?_
      refine V_aload_n dX6_rules_22 rfl ?_
      refine V_getR (kf := 1) k_X6 (by decide) lk_RX6_19 rfl dX6_rules_23 (tq_0 hG) rfl ?_
      refine V_getI (kf := 5) k_X0 (by decide) lk_RX6_95 rfl dX6_rules_26 (tq_3 hG) rfl ?_
      by_cases c29 : a2 = (m6.1 3 5)
      · rw [if_pos c29] at h
        refine V_icmpne_f (tgt := 45) dX6_rules_29 (by decide) c29 ?_
        refine V_iload_n dX6_rules_32 rfl ?_
        refine V_aload_n dX6_rules_33 rfl ?_
        refine V_getR (kf := 1) k_X6 (by decide) lk_RX6_19 rfl dX6_rules_34 (tq_0 hG) rfl ?_
        refine V_getI (kf := 6) k_X0 (by decide) lk_RX6_98 rfl dX6_rules_37 (tq_3 hG) rfl ?_
        by_cases c40 : a3 = (m6.1 3 6)
        · rw [if_pos c40] at h
          refine V_icmpne_f (tgt := 45) dX6_rules_40 (by decide) c40 ?_
          refine V_iconst (v := 0) dX6_rules_43 rfl ?_
          cases h
          exact V_iret rfl dX6_rules_44
        · rw [if_neg c40] at h
          refine V_icmpne_t (tgt := 45) dX6_rules_40 (by decide) c40 ?_
          exact V_wk [true, true, true, true] rfl (T_X6_rules_45 G fu hG _ _ _ _ _ h)
      · rw [if_neg c29] at h
        refine V_icmpne_t (tgt := 45) dX6_rules_29 (by decide) c29 ?_
        exact V_wk [true, true, true, true] rfl (T_X6_rules_45 G fu hG _ _ _ _ _ h)
    · rw [if_neg c18] at h
      refine V_icmpne_t (tgt := 45) dX6_rules_18 (by decide) c18 ?_
      exact V_wk [true, true, true, true] rfl (T_X6_rules_45 G fu hG _ _ _ _ _ h)
  · rw [q8] at z7
    cases h
    exact V_callVX (as := [.int (b2i x1)]) (q := 0) (rest := []) dX6_rules_7 rfl ov_mX6_needRight lk_RX6_47 (by decide) (by decide) rfl rfl (Nat.le_of_ble_eq_true rfl) (tq_0 hG) rfl (z7)
theorem VM_X6_rules (G : GX) (fu : Nat)  (hG : gt G = tbl) (a1 : Int32) (a2 : Int32) (a3 : Int32) (μ : Mem) (r : ((Int32 ⊕ String) × Mem)) (h : D_X6_rules_0 fu a1 a2 a3 μ = some r) : VM G mX6_rules [.ref 0, .int a1, .int a2, .int a3] μ (ouI r.1) (r.2) := V_entry ok_mX6_rules rfl rfl (Nat.le_of_ble_eq_true rfl) (T_X6_rules_0 G fu hG a1 a2 a3 μ r h)
def D_X6_areHarmYears_0 (μ : Mem)  (a0 : Int32) (a1 : Int32) (a2 : Int32) : Option Bool :=
  if a0 < 0 then
    some false
  else
    if a1 < a0 then
      some false
    else
      if a2 < a1 then
        some false
      else
        if (12 : Int32) ≤ a2 then
          some false
        else
          some true
set_option maxRecDepth 20000 in
theorem T_X6_areHarmYears_0 (G : GX) (μ : Mem)  (hG : gt G = tbl) : ∀ (a0 : Int32) (a1 : Int32) (a2 : Int32) (r : Bool) , D_X6_areHarmYears_0 μ a0 a1 a2 = some r → V G mX6_areHarmYears 0 [some (.int a0), some (.int a1), some (.int a2)] [] μ (.inl (some (.int (b2i r)))) (μ) := by
  intro a0 a1 a2 r h
  unfold D_X6_areHarmYears_0 at h
  refine V_iload_n dX6_areHarmYears_0 rfl ?_
  by_cases c1 : a0 < 0
  · rw [if_pos c1] at h
    refine V_iflt_t (tgt := 24) dX6_areHarmYears_1 (by decide) c1 ?_
    refine V_iconst (v := 0) dX6_areHarmYears_24 rfl ?_
    cases h
    exact V_zret rfl (by decide) dX6_areHarmYears_25
  · rw [if_neg c1] at h
    refine V_iflt_f (tgt := 24) dX6_areHarmYears_1 (by decide) c1 ?_
    refine V_iload_n dX6_areHarmYears_4 rfl ?_
    refine V_iload_n dX6_areHarmYears_5 rfl ?_
    by_cases c6 : a1 < a0
    · rw [if_pos c6] at h
      refine V_icmpgt_t (tgt := 24) dX6_areHarmYears_6 (by decide) c6 ?_
      refine V_iconst (v := 0) dX6_areHarmYears_24 rfl ?_
      cases h
      exact V_zret rfl (by decide) dX6_areHarmYears_25
    · rw [if_neg c6] at h
      refine V_icmpgt_f (tgt := 24) dX6_areHarmYears_6 (by decide) c6 ?_
      refine V_iload_n dX6_areHarmYears_9 rfl ?_
      refine V_iload_n dX6_areHarmYears_10 rfl ?_
      by_cases c11 : a2 < a1
      · rw [if_pos c11] at h
        refine V_icmpgt_t (tgt := 24) dX6_areHarmYears_11 (by decide) c11 ?_
        refine V_iconst (v := 0) dX6_areHarmYears_24 rfl ?_
        cases h
        exact V_zret rfl (by decide) dX6_areHarmYears_25
      · rw [if_neg c11] at h
        refine V_icmpgt_f (tgt := 24) dX6_areHarmYears_11 (by decide) c11 ?_
        refine V_iload_n dX6_areHarmYears_14 rfl ?_
        refine V_bipush (v := 12) dX6_areHarmYears_15 rfl ?_
        by_cases c17 : (12 : Int32) ≤ a2
        · rw [if_pos c17] at h
          refine V_icmpge_t (tgt := 24) dX6_areHarmYears_17 (by decide) c17 ?_
          refine V_iconst (v := 0) dX6_areHarmYears_24 rfl ?_
          cases h
          exact V_zret rfl (by decide) dX6_areHarmYears_25
        · rw [if_neg c17] at h
          refine V_icmpge_f (tgt := 24) dX6_areHarmYears_17 (by decide) c17 ?_
          refine V_iconst (v := 1) dX6_areHarmYears_20 rfl ?_
          refine V_goto (tgt := 25) dX6_areHarmYears_21 (by decide) ?_
          cases h
          exact V_zret rfl (by decide) dX6_areHarmYears_25
theorem VM_X6_areHarmYears (G : GX) (μ : Mem)  (hG : gt G = tbl) (a0 : Int32) (a1 : Int32) (a2 : Int32) (r : Bool) (h : D_X6_areHarmYears_0 μ a0 a1 a2 = some r) : VM G mX6_areHarmYears [.int a0, .int a1, .int a2] μ (.inl (some (.int (b2i r)))) (μ) := V_entry ok_mX6_areHarmYears rfl rfl (Nat.le_of_ble_eq_true rfl) (T_X6_areHarmYears_0 G μ hG a0 a1 a2 r h)
def D_X6_isAmount_0 (μ : Mem)  (a0 : Int32) : Option Bool :=
  (D_X6_isWithin_0 μ a0 1 1000000000).bind fun x1 =>
  some x1
set_option maxRecDepth 20000 in
theorem T_X6_isAmount_0 (G : GX) (μ : Mem)  (hG : gt G = tbl) : ∀ (a0 : Int32) (r : Bool) , D_X6_isAmount_0 μ a0 = some r → V G mX6_isAmount 0 [some (.int a0)] [] μ (.inl (some (.int (b2i r)))) (μ) := by
  intro a0 r h
  unfold D_X6_isAmount_0 at h
  refine V_iload_n dX6_isAmount_0 rfl ?_
  refine V_iconst (v := 1) dX6_isAmount_1 rfl ?_
  refine V_ldc (v := 1000000000) dX6_isAmount_2 lk_RX6_124 ?_
  obtain ⟨x1, y2, h⟩ := bi_o h
  refine V_callS (as := [.int a0, .int 1, .int 1000000000]) (rest := []) dX6_isAmount_4 os_mX6_isWithin rfl lk_RX6_42 (by decide) (by decide) rfl rfl (Nat.le_of_ble_eq_true rfl) (VM_X6_isWithin G μ hG a0 1 1000000000 _ y2) ?_
  cases h
  exact V_zret rfl (b2i_nar _) dX6_isAmount_7
theorem VM_X6_isAmount (G : GX) (μ : Mem)  (hG : gt G = tbl) (a0 : Int32) (r : Bool) (h : D_X6_isAmount_0 μ a0 = some r) : VM G mX6_isAmount [.int a0] μ (.inl (some (.int (b2i r)))) (μ) := V_entry ok_mX6_isAmount rfl rfl (Nat.le_of_ble_eq_true rfl) (T_X6_isAmount_0 G μ hG a0 r h)
def D_X6_harm_23 (fu : Nat)  (v1 : Int32) (v2 : Int32) (v3 : Int32) (v4 : Int32) (s1 : Int32) (μ : Mem) : Option ((Int32 ⊕ String) × Mem) :=
  (D_X6_needRight_0 s1 μ).bind fun x5 =>
  tx x5 fun v7 m8 =>
  (D_X2_write_0 4 (m8.1 17 12) v1 v2 v3 v4 m8).bind fun x11 =>
  (D_X6_enter_0 fu x11).bind fun x13 =>
  tx x13 fun v15 m16 =>
  some (.inl (m8.1 17 12), m16)
set_option maxRecDepth 20000 in
theorem T_X6_harm_23 (G : GX) (fu : Nat)  (hG : gt G = tbl) : ∀ (v1 : Int32) (v2 : Int32) (v3 : Int32) (v4 : Int32) (s1 : Int32) (μ : Mem) (r : ((Int32 ⊕ String) × Mem)) , D_X6_harm_23 fu v1 v2 v3 v4 s1 μ = some r → V G mX6_harm 23 [some (.ref 0), some (.int v1), some (.int v2), some (.int v3), some (.int v4), none] [.int s1, .ref 0] μ (ouI r.1) (r.2) := by
  intro v1 v2 v3 v4 s1 μ r h
  unfold D_X6_harm_23 at h
  obtain ⟨x5, y6, h⟩ := bi_o h
  have z9 := VM_X6_needRight G hG s1 μ _ y6
  rcases tx_o h with ⟨v7, q10, h⟩ | ⟨E, q10, h⟩
  · rw [q10] at z9
    generalize x5.2 = m8 at h z9
    refine V_callV (as := [.int s1]) (q := 0) (rest := []) dX6_harm_23 ov_mX6_needRight lk_RX6_47 (by decide) (by decide) rfl rfl (Nat.le_of_ble_eq_true rfl) (tq_0 hG) rfl (z9) ?_
    refine V_aload_n dX6_harm_26 rfl ?_
    refine V_getR (kf := 1) k_X6 (by decide) lk_RX6_19 rfl dX6_harm_27 (tq_0 hG) rfl ?_
    refine V_getR (kf := 1) k_X0 (by decide) lk_RX6_107 rfl dX6_harm_30 (tq_3 hG) rfl ?_
    refine V_getI (kf := 12) k_X1 (by decide) lk_RX6_111 rfl dX6_harm_33 (tq_17 hG) rfl ?_
    refine V_istore (lv2 := [some (.ref 0), some (.int v1), some (.int v2), some (.int v3), some (.int v4), some (.int (m8.1 17 12))]) dX6_harm_36 (by decide) rfl ?_
    refine V_aload_n dX6_harm_38 rfl ?_
    refine V_getR (kf := 0) k_X6 (by decide) lk_RX6_12 rfl dX6_harm_39 (tq_0 hG) rfl ?_
    refine V_iconst (v := 4) dX6_harm_42 rfl ?_
    refine V_iload dX6_harm_43 rfl ?_
    refine V_iload_n dX6_harm_45 rfl ?_
    refine V_iload_n dX6_harm_46 rfl ?_
    refine V_iload_n dX6_harm_47 rfl ?_
    refine V_iload dX6_harm_48 rfl ?_
    obtain ⟨x11, y12, h⟩ := bi_o h
    refine V_callV (as := [.int 4, .int (m8.1 17 12), .int v1, .int v2, .int v3, .int v4]) (q := 1) (rest := []) dX6_harm_50 ov_mX2_write lk_RX6_61 (by decide) (by decide) rfl rfl (Nat.le_of_ble_eq_true rfl) (tq_1 hG) rfl (VM_X2_write G hG 4 (m8.1 17 12) v1 v2 v3 v4 m8 _ y12) ?_
    refine V_aload_n dX6_harm_53 rfl ?_
    obtain ⟨x13, y14, h⟩ := bi_o h
    have z17 := VM_X6_enter G fu hG x11 _ y14
    rcases tx_o h with ⟨v15, q18, h⟩ | ⟨E, q18, h⟩
    · rw [q18] at z17
      generalize x13.2 = m16 at h z17
      refine V_callV (as := []) (q := 0) (rest := []) dX6_harm_54 ov_mX6_enter lk_RX6_65 (by decide) (by decide) rfl rfl (Nat.le_of_ble_eq_true rfl) (tq_0 hG) rfl (z17) ?_
      refine V_iload dX6_harm_57 rfl ?_
      cases h
      exact V_iret rfl dX6_harm_59
    · rw [q18] at z17
      cases h
      exact V_callVX (as := []) (q := 0) (rest := []) dX6_harm_54 rfl ov_mX6_enter lk_RX6_65 (by decide) (by decide) rfl rfl (Nat.le_of_ble_eq_true rfl) (tq_0 hG) rfl (z17)
  · rw [q10] at z9
    cases h
    exact V_callVX (as := [.int s1]) (q := 0) (rest := []) dX6_harm_23 rfl ov_mX6_needRight lk_RX6_47 (by decide) (by decide) rfl rfl (Nat.le_of_ble_eq_true rfl) (tq_0 hG) rfl (z9)
def D_X6_harm_22 (fu : Nat)  (v1 : Int32) (v2 : Int32) (v3 : Int32) (v4 : Int32) (μ : Mem) : Option ((Int32 ⊕ String) × Mem) :=
  D_X6_harm_23 fu v1 v2 v3 v4 0 μ
set_option maxRecDepth 20000 in
theorem T_X6_harm_22 (G : GX) (fu : Nat)  (hG : gt G = tbl) : ∀ (v1 : Int32) (v2 : Int32) (v3 : Int32) (v4 : Int32) (μ : Mem) (r : ((Int32 ⊕ String) × Mem)) , D_X6_harm_22 fu v1 v2 v3 v4 μ = some r → V G mX6_harm 22 [some (.ref 0), some (.int v1), some (.int v2), some (.int v3), some (.int v4), none] [.ref 0] μ (ouI r.1) (r.2) := by
  intro v1 v2 v3 v4 μ r h
  unfold D_X6_harm_22 at h
  refine V_iconst (v := 0) dX6_harm_22 rfl ?_
  exact V_wk [true, true, true, true, true, false] rfl (T_X6_harm_23 G fu hG _ _ _ _ _ _ _ h)
def D_X6_harm_0 (fu : Nat)  (a1 : Int32) (a2 : Int32) (a3 : Int32) (a4 : Int32) (μ : Mem) : Option ((Int32 ⊕ String) × Mem) :=
  (D_X6_areHarmYears_0 μ a1 a2 a3).bind fun x1 =>
  if x1 = true then
    (D_X6_isAmount_0 μ a4).bind fun x3 =>
    if x3 = true then
      D_X6_harm_23 fu a1 a2 a3 a4 1 μ
    else
      D_X6_harm_22 fu a1 a2 a3 a4 μ
  else
    D_X6_harm_22 fu a1 a2 a3 a4 μ
set_option maxRecDepth 20000 in
theorem T_X6_harm_0 (G : GX) (fu : Nat)  (hG : gt G = tbl) : ∀ (a1 : Int32) (a2 : Int32) (a3 : Int32) (a4 : Int32) (μ : Mem) (r : ((Int32 ⊕ String) × Mem)) , D_X6_harm_0 fu a1 a2 a3 a4 μ = some r → V G mX6_harm 0 [some (.ref 0), some (.int a1), some (.int a2), some (.int a3), some (.int a4), none] [] μ (ouI r.1) (r.2) := by
  intro a1 a2 a3 a4 μ r h
  unfold D_X6_harm_0 at h
  refine V_aload_n dX6_harm_0 rfl ?_
  refine V_iload_n dX6_harm_1 rfl ?_
  refine V_iload_n dX6_harm_2 rfl ?_
  refine V_iload_n dX6_harm_3 rfl ?_
  obtain ⟨x1, y2, h⟩ := bi_o h
  refine V_callS (as := [.int a1, .int a2, .int a3]) (rest := [.ref 0]) dX6_harm_4 os_mX6_areHarmYears rfl lk_RX6_101 (by decide) (by decide) rfl rfl (Nat.le_of_ble_eq_true rfl) (VM_X6_areHarmYears G μ hG a1 a2 a3 _ y2) ?_
  by_cases c7 : x1 = true
  · rw [if_pos c7] at h
    refine V_ifeq_f (tgt := 22) dX6_harm_7 (by decide) (b2i_t.mp c7) ?_
    refine V_iload dX6_harm_10 rfl ?_
    obtain ⟨x3, y4, h⟩ := bi_o h
    refine V_callS (as := [.int a4]) (rest := [.ref 0]) dX6_harm_12 os_mX6_isAmount rfl lk_RX6_104 (by decide) (by decide) rfl rfl (Nat.le_of_ble_eq_true rfl) (VM_X6_isAmount G μ hG a4 _ y4) ?_
    by_cases c15 : x3 = true
    · rw [if_pos c15] at h
      refine V_ifeq_f (tgt := 22) dX6_harm_15 (by decide) (b2i_t.mp c15) ?_
      refine V_iconst (v := 1) dX6_harm_18 rfl ?_
      refine V_goto (tgt := 23) dX6_harm_19 (by decide) ?_
      exact V_wk [true, true, true, true, true, false] rfl (T_X6_harm_23 G fu hG _ _ _ _ _ _ _ h)
    · rw [if_neg c15] at h
      refine V_ifeq_t (tgt := 22) dX6_harm_15 (by decide) (b2i_f.mp c15) ?_
      exact V_wk [true, true, true, true, true, false] rfl (T_X6_harm_22 G fu hG _ _ _ _ _ _ h)
  · rw [if_neg c7] at h
    refine V_ifeq_t (tgt := 22) dX6_harm_7 (by decide) (b2i_f.mp c7) ?_
    exact V_wk [true, true, true, true, true, false] rfl (T_X6_harm_22 G fu hG _ _ _ _ _ _ h)
theorem VM_X6_harm (G : GX) (fu : Nat)  (hG : gt G = tbl) (a1 : Int32) (a2 : Int32) (a3 : Int32) (a4 : Int32) (μ : Mem) (r : ((Int32 ⊕ String) × Mem)) (h : D_X6_harm_0 fu a1 a2 a3 a4 μ = some r) : VM G mX6_harm [.ref 0, .int a1, .int a2, .int a3, .int a4] μ (ouI r.1) (r.2) := V_entry ok_mX6_harm rfl rfl (Nat.le_of_ble_eq_true rfl) (T_X6_harm_0 G fu hG a1 a2 a3 a4 μ r h)
def D_X6_isHarm_0 (μ : Mem)  (a1 : Int32) : Option Bool :=
  if a1 < 0 then
    some false
  else
    if (μ.1 17 12) ≤ a1 then
      some false
    else
      some true
set_option maxRecDepth 20000 in
theorem T_X6_isHarm_0 (G : GX) (μ : Mem)  (hG : gt G = tbl) : ∀ (a1 : Int32) (r : Bool) , D_X6_isHarm_0 μ a1 = some r → V G mX6_isHarm 0 [some (.ref 0), some (.int a1)] [] μ (.inl (some (.int (b2i r)))) (μ) := by
  intro a1 r h
  unfold D_X6_isHarm_0 at h
  refine V_iload_n dX6_isHarm_0 rfl ?_
  by_cases c1 : a1 < 0
  · rw [if_pos c1] at h
    refine V_iflt_t (tgt := 22) dX6_isHarm_1 (by decide) c1 ?_
    refine V_iconst (v := 0) dX6_isHarm_22 rfl ?_
    cases h
    exact V_zret rfl (by decide) dX6_isHarm_23
  · rw [if_neg c1] at h
    refine V_iflt_f (tgt := 22) dX6_isHarm_1 (by decide) c1 ?_
    refine V_iload_n dX6_isHarm_4 rfl ?_
    refine V_aload_n dX6_isHarm_5 rfl ?_
    refine V_getR (kf := 1) k_X6 (by decide) lk_RX6_19 rfl dX6_isHarm_6 (tq_0 hG) rfl ?_
    refine V_getR (kf := 1) k_X0 (by decide) lk_RX6_107 rfl dX6_isHarm_9 (tq_3 hG) rfl ?_
    refine V_getI (kf := 12) k_X1 (by decide) lk_RX6_111 rfl dX6_isHarm_12 (tq_17 hG) rfl ?_
    by_cases c15 : (μ.1 17 12) ≤ a1
    · rw [if_pos c15] at h
      refine V_icmpge_t (tgt := 22) dX6_isHarm_15 (by decide) c15 ?_
      refine V_iconst (v := 0) dX6_isHarm_22 rfl ?_
      cases h
      exact V_zret rfl (by decide) dX6_isHarm_23
    · rw [if_neg c15] at h
      refine V_icmpge_f (tgt := 22) dX6_isHarm_15 (by decide) c15 ?_
      refine V_iconst (v := 1) dX6_isHarm_18 rfl ?_
      refine V_goto (tgt := 23) dX6_isHarm_19 (by decide) ?_
      cases h
      exact V_zret rfl (by decide) dX6_isHarm_23
theorem VM_X6_isHarm (G : GX) (μ : Mem)  (hG : gt G = tbl) (a1 : Int32) (r : Bool) (h : D_X6_isHarm_0 μ a1 = some r) : VM G mX6_isHarm [.ref 0, .int a1] μ (.inl (some (.int (b2i r)))) (μ) := V_entry ok_mX6_isHarm rfl rfl (Nat.le_of_ble_eq_true rfl) (T_X6_isHarm_0 G μ hG a1 r h)
def D_X6_grow_0 (fu : Nat)  (a1 : Int32) (a2 : Int32) (μ : Mem) : Option ((Int64 ⊕ String) × Mem) :=
  (D_X6_isHarm_0 μ a1).bind fun x1 =>
  (D_X6_needThere_0 (b2i x1) μ).bind fun x3 =>
  tx x3 fun v5 m6 =>
  (D_X6_isAmount_0 m6 a2).bind fun x9 =>
  (D_X6_needRight_0 (b2i x9) m6).bind fun x11 =>
  tx x11 fun v13 m14 =>
  (D_X1_borneOf_0 m14 17 a1 0).bind fun x17 =>
  (D_X2_write_0 5 a1 a2 0 0 0 m14).bind fun x19 =>
  (D_X6_enter_0 fu x19).bind fun x21 =>
  tx x21 fun v23 m24 =>
  (D_X1_borneOf_0 m24 17 a1 0).bind fun x27 =>
  some (.inl (x27 - x17), m24)
set_option maxRecDepth 20000 in
theorem T_X6_grow_0 (G : GX) (fu : Nat)  (hG : gt G = tbl) : ∀ (a1 : Int32) (a2 : Int32) (μ : Mem) (r : ((Int64 ⊕ String) × Mem)) , D_X6_grow_0 fu a1 a2 μ = some r → V G mX6_grow 0 [some (.ref 0), some (.int a1), some (.int a2), none, none] [] μ (ouL r.1) (r.2) := by
  intro a1 a2 μ r h
  unfold D_X6_grow_0 at h
  refine V_aload_n dX6_grow_0 rfl ?_
  refine V_aload_n dX6_grow_1 rfl ?_
  refine V_iload_n dX6_grow_2 rfl ?_
  obtain ⟨x1, y2, h⟩ := bi_o h
  refine V_callV (as := [.int a1]) (q := 0) (rest := [.ref 0]) dX6_grow_3 ov_mX6_isHarm lk_RX6_114 (by decide) (by decide) rfl rfl (Nat.le_of_ble_eq_true rfl) (tq_0 hG) rfl (VM_X6_isHarm G μ hG a1 _ y2) ?_
  obtain ⟨x3, y4, h⟩ := bi_o h
  have z7 := VM_X6_needThere G hG (b2i x1) μ _ y4
  rcases tx_o h with ⟨v5, q8, h⟩ | ⟨E, q8, h⟩
  · rw [q8] at z7
    generalize x3.2 = m6 at h z7
    refine V_callV (as := [.int (b2i x1)]) (q := 0) (rest := []) dX6_grow_6 ov_mX6_needThere lk_RX6_71 (by decide) (by decide) rfl rfl (Nat.le_of_ble_eq_true rfl) (tq_0 hG) rfl (z7) ?_
    refine V_aload_n dX6_grow_9 rfl ?_
    refine V_iload_n dX6_grow_10 rfl ?_
    obtain ⟨x9, y10, h⟩ := bi_o h
    refine V_callS (as := [.int a2]) (rest := [.ref 0]) dX6_grow_11 os_mX6_isAmount rfl lk_RX6_104 (by decide) (by decide) rfl rfl (Nat.le_of_ble_eq_true rfl) (VM_X6_isAmount G m6 hG a2 _ y10) ?_
    obtain ⟨x11, y12, h⟩ := bi_o h
    have z15 := VM_X6_needRight G hG (b2i x9) m6 _ y12
    rcases tx_o h with ⟨v13, q16, h⟩ | ⟨E, q16, h⟩
    · rw [q16] at z15
      generalize x11.2 = m14 at h z15
      refine V_callV (as := [.int (b2i x9)]) (q := 0) (rest := []) dX6_grow_14 ov_mX6_needRight lk_RX6_47 (by decide) (by decide) rfl rfl (Nat.le_of_ble_eq_true rfl) (tq_0 hG) rfl (z15) ?_
      refine V_aload_n dX6_grow_17 rfl ?_
      refine V_getR (kf := 1) k_X6 (by decide) lk_RX6_19 rfl dX6_grow_18 (tq_0 hG) rfl ?_
      refine V_getR (kf := 1) k_X0 (by decide) lk_RX6_107 rfl dX6_grow_21 (tq_3 hG) rfl ?_
      refine V_iload_n dX6_grow_24 rfl ?_
      refine V_iconst (v := 0) dX6_grow_25 rfl ?_
      obtain ⟨x17, y18, h⟩ := bi_o h
      refine V_callV (as := [.int a1, .int 0]) (q := 17) (rest := []) dX6_grow_26 ov_mX1_borneOf lk_RX6_117 (by decide) (by decide) rfl rfl (Nat.le_of_ble_eq_true rfl) (tq_17 hG) rfl (VM_X1_borneOf G m14 17 hG (Or.inl rfl) a1 0 _ y18) ?_
      refine V_lstore_n (lv2 := [some (.ref 0), some (.int a1), some (.int a2), some (.long x17), none]) dX6_grow_29 (by decide) rfl ?_
      refine V_aload_n dX6_grow_30 rfl ?_
      refine V_getR (kf := 0) k_X6 (by decide) lk_RX6_12 rfl dX6_grow_31 (tq_0 hG) rfl ?_
      refine V_iconst (v := 5) dX6_grow_34 rfl ?_
      refine V_iload_n dX6_grow_35 rfl ?_
      refine V_iload_n dX6_grow_36 rfl ?_
      refine V_iconst (v := 0) dX6_grow_37 rfl ?_
      refine V_iconst (v := 0) dX6_grow_38 rfl ?_
      refine V_iconst (v := 0) dX6_grow_39 rfl ?_
      obtain ⟨x19, y20, h⟩ := bi_o h
      refine V_callV (as := [.int 5, .int a1, .int a2, .int 0, .int 0, .int 0]) (q := 1) (rest := []) dX6_grow_40 ov_mX2_write lk_RX6_61 (by decide) (by decide) rfl rfl (Nat.le_of_ble_eq_true rfl) (tq_1 hG) rfl (VM_X2_write G hG 5 a1 a2 0 0 0 m14 _ y20) ?_
      refine V_aload_n dX6_grow_43 rfl ?_
      obtain ⟨x21, y22, h⟩ := bi_o h
      have z25 := VM_X6_enter G fu hG x19 _ y22
      rcases tx_o h with ⟨v23, q26, h⟩ | ⟨E, q26, h⟩
      · rw [q26] at z25
        generalize x21.2 = m24 at h z25
        refine V_callV (as := []) (q := 0) (rest := []) dX6_grow_44 ov_mX6_enter lk_RX6_65 (by decide) (by decide) rfl rfl (Nat.le_of_ble_eq_true rfl) (tq_0 hG) rfl (z25) ?_
        refine V_aload_n dX6_grow_47 rfl ?_
        refine V_getR (kf := 1) k_X6 (by decide) lk_RX6_19 rfl dX6_grow_48 (tq_0 hG) rfl ?_
        refine V_getR (kf := 1) k_X0 (by decide) lk_RX6_107 rfl dX6_grow_51 (tq_3 hG) rfl ?_
        refine V_iload_n dX6_grow_54 rfl ?_
        refine V_iconst (v := 0) dX6_grow_55 rfl ?_
        obtain ⟨x27, y28, h⟩ := bi_o h
        refine V_callV (as := [.int a1, .int 0]) (q := 17) (rest := []) dX6_grow_56 ov_mX1_borneOf lk_RX6_117 (by decide) (by decide) rfl rfl (Nat.le_of_ble_eq_true rfl) (tq_17 hG) rfl (VM_X1_borneOf G m24 17 hG (Or.inl rfl) a1 0 _ y28) ?_
        refine V_lload_n dX6_grow_59 rfl ?_
        refine V_lsub dX6_grow_60 ?_
        cases h
        exact V_lret rfl dX6_grow_61
      · rw [q26] at z25
        cases h
        exact V_callVX (as := []) (q := 0) (rest := []) dX6_grow_44 rfl ov_mX6_enter lk_RX6_65 (by decide) (by decide) rfl rfl (Nat.le_of_ble_eq_true rfl) (tq_0 hG) rfl (z25)
    · rw [q16] at z15
      cases h
      exact V_callVX (as := [.int (b2i x9)]) (q := 0) (rest := []) dX6_grow_14 rfl ov_mX6_needRight lk_RX6_47 (by decide) (by decide) rfl rfl (Nat.le_of_ble_eq_true rfl) (tq_0 hG) rfl (z15)
  · rw [q8] at z7
    cases h
    exact V_callVX (as := [.int (b2i x1)]) (q := 0) (rest := []) dX6_grow_6 rfl ov_mX6_needThere lk_RX6_71 (by decide) (by decide) rfl rfl (Nat.le_of_ble_eq_true rfl) (tq_0 hG) rfl (z7)
theorem VM_X6_grow (G : GX) (fu : Nat)  (hG : gt G = tbl) (a1 : Int32) (a2 : Int32) (μ : Mem) (r : ((Int64 ⊕ String) × Mem)) (h : D_X6_grow_0 fu a1 a2 μ = some r) : VM G mX6_grow [.ref 0, .int a1, .int a2] μ (ouL r.1) (r.2) := V_entry ok_mX6_grow rfl rfl (Nat.le_of_ble_eq_true rfl) (T_X6_grow_0 G fu hG a1 a2 μ r h)
def D_X6_isOutsider_0 (μ : Mem)  (a0 : Int32) : Option Bool :=
  (D_X6_isWithin_0 μ a0 1 9).bind fun x1 =>
  some x1
set_option maxRecDepth 20000 in
theorem T_X6_isOutsider_0 (G : GX) (μ : Mem)  (hG : gt G = tbl) : ∀ (a0 : Int32) (r : Bool) , D_X6_isOutsider_0 μ a0 = some r → V G mX6_isOutsider 0 [some (.int a0)] [] μ (.inl (some (.int (b2i r)))) (μ) := by
  intro a0 r h
  unfold D_X6_isOutsider_0 at h
  refine V_iload_n dX6_isOutsider_0 rfl ?_
  refine V_iconst (v := 1) dX6_isOutsider_1 rfl ?_
  refine V_bipush (v := 9) dX6_isOutsider_2 rfl ?_
  obtain ⟨x1, y2, h⟩ := bi_o h
  refine V_callS (as := [.int a0, .int 1, .int 9]) (rest := []) dX6_isOutsider_4 os_mX6_isWithin rfl lk_RX6_42 (by decide) (by decide) rfl rfl (Nat.le_of_ble_eq_true rfl) (VM_X6_isWithin G μ hG a0 1 9 _ y2) ?_
  cases h
  exact V_zret rfl (b2i_nar _) dX6_isOutsider_7
theorem VM_X6_isOutsider (G : GX) (μ : Mem)  (hG : gt G = tbl) (a0 : Int32) (r : Bool) (h : D_X6_isOutsider_0 μ a0 = some r) : VM G mX6_isOutsider [.int a0] μ (.inl (some (.int (b2i r)))) (μ) := V_entry ok_mX6_isOutsider rfl rfl (Nat.le_of_ble_eq_true rfl) (T_X6_isOutsider_0 G μ hG a0 r h)
def D_X6_settle_23 (fu : Nat)  (v1 : Int32) (v2 : Int32) (s1 : Int32) (μ : Mem) : Option ((Int32 ⊕ String) × Mem) :=
  (D_X6_needRight_0 s1 μ).bind fun x5 =>
  tx x5 fun v7 m8 =>
  (D_X2_write_0 6 v1 v2 0 0 0 m8).bind fun x11 =>
  (D_X6_enter_0 fu x11).bind fun x13 =>
  tx x13 fun v15 m16 =>
  (D_X0_thoseWho_0 fu m16 3 1).bind fun x19 =>
  (D_J6_bitCount_0f7a4_0 m16 x19).bind fun x21 =>
  some (.inl x21, m16)
set_option maxRecDepth 20000 in
theorem T_X6_settle_23 (G : GX) (fu : Nat)  (hG : gt G = tbl) : ∀ (v1 : Int32) (v2 : Int32) (s1 : Int32) (μ : Mem) (r : ((Int32 ⊕ String) × Mem)) , D_X6_settle_23 fu v1 v2 s1 μ = some r → V G mX6_settle 23 [some (.ref 0), some (.int v1), some (.int v2)] [.int s1, .ref 0] μ (ouI r.1) (r.2) := by
  intro v1 v2 s1 μ r h
  unfold D_X6_settle_23 at h
  obtain ⟨x5, y6, h⟩ := bi_o h
  have z9 := VM_X6_needRight G hG s1 μ _ y6
  rcases tx_o h with ⟨v7, q10, h⟩ | ⟨E, q10, h⟩
  · rw [q10] at z9
    generalize x5.2 = m8 at h z9
    refine V_callV (as := [.int s1]) (q := 0) (rest := []) dX6_settle_23 ov_mX6_needRight lk_RX6_47 (by decide) (by decide) rfl rfl (Nat.le_of_ble_eq_true rfl) (tq_0 hG) rfl (z9) ?_
    refine V_aload_n dX6_settle_26 rfl ?_
    refine V_getR (kf := 0) k_X6 (by decide) lk_RX6_12 rfl dX6_settle_27 (tq_0 hG) rfl ?_
    refine V_bipush (v := 6) dX6_settle_30 rfl ?_
    refine V_iload_n dX6_settle_32 rfl ?_
    refine V_iload_n dX6_settle_33 rfl ?_
    refine V_iconst (v := 0) dX6_settle_34 rfl ?_
    refine V_iconst (v := 0) dX6_settle_35 rfl ?_
    refine V_iconst (v := 0) dX6_settle_36 rfl ?_
    obtain ⟨x11, y12, h⟩ := bi_o h
    refine V_callV (as := [.int 6, .int v1, .int v2, .int 0, .int 0, .int 0]) (q := 1) (rest := []) dX6_settle_37 ov_mX2_write lk_RX6_61 (by decide) (by decide) rfl rfl (Nat.le_of_ble_eq_true rfl) (tq_1 hG) rfl (VM_X2_write G hG 6 v1 v2 0 0 0 m8 _ y12) ?_
    refine V_aload_n dX6_settle_40 rfl ?_
    obtain ⟨x13, y14, h⟩ := bi_o h
    have z17 := VM_X6_enter G fu hG x11 _ y14
    rcases tx_o h with ⟨v15, q18, h⟩ | ⟨E, q18, h⟩
    · rw [q18] at z17
      generalize x13.2 = m16 at h z17
      refine V_callV (as := []) (q := 0) (rest := []) dX6_settle_41 ov_mX6_enter lk_RX6_65 (by decide) (by decide) rfl rfl (Nat.le_of_ble_eq_true rfl) (tq_0 hG) rfl (z17) ?_
      refine V_aload_n dX6_settle_44 rfl ?_
      refine V_getR (kf := 1) k_X6 (by decide) lk_RX6_19 rfl dX6_settle_45 (tq_0 hG) rfl ?_
      refine V_iconst (v := 1) dX6_settle_48 rfl ?_
      obtain ⟨x19, y20, h⟩ := bi_o h
      refine V_callV (as := [.int 1]) (q := 3) (rest := []) dX6_settle_49 ov_mX0_thoseWho lk_RX6_125 (by decide) (by decide) rfl rfl (Nat.le_of_ble_eq_true rfl) (tq_3 hG) rfl (VM_X0_thoseWho G fu m16 3 hG (Or.inl rfl) 1 _ y20) ?_
      obtain ⟨x21, y22, h⟩ := bi_o h
      refine V_callS (as := [.int x19]) (rest := []) dX6_settle_52 os_mJ6_bitCount_0f7a4 rfl lk_RX6_83 (by decide) (by decide) rfl rfl (Nat.le_of_ble_eq_true rfl) (VM_J6_bitCount_0f7a4 G m16 x19 _ y22) ?_
      cases h
      exact V_iret rfl dX6_settle_55
    · rw [q18] at z17
      cases h
      exact V_callVX (as := []) (q := 0) (rest := []) dX6_settle_41 rfl ov_mX6_enter lk_RX6_65 (by decide) (by decide) rfl rfl (Nat.le_of_ble_eq_true rfl) (tq_0 hG) rfl (z17)
  · rw [q10] at z9
    cases h
    exact V_callVX (as := [.int s1]) (q := 0) (rest := []) dX6_settle_23 rfl ov_mX6_needRight lk_RX6_47 (by decide) (by decide) rfl rfl (Nat.le_of_ble_eq_true rfl) (tq_0 hG) rfl (z9)
def D_X6_settle_22 (fu : Nat)  (v1 : Int32) (v2 : Int32) (μ : Mem) : Option ((Int32 ⊕ String) × Mem) :=
  D_X6_settle_23 fu v1 v2 0 μ
set_option maxRecDepth 20000 in
theorem T_X6_settle_22 (G : GX) (fu : Nat)  (hG : gt G = tbl) : ∀ (v1 : Int32) (v2 : Int32) (μ : Mem) (r : ((Int32 ⊕ String) × Mem)) , D_X6_settle_22 fu v1 v2 μ = some r → V G mX6_settle 22 [some (.ref 0), some (.int v1), some (.int v2)] [.ref 0] μ (ouI r.1) (r.2) := by
  intro v1 v2 μ r h
  unfold D_X6_settle_22 at h
  refine V_iconst (v := 0) dX6_settle_22 rfl ?_
  exact V_wk [true, true, true] rfl (T_X6_settle_23 G fu hG _ _ _ _ _ h)
def D_X6_settle_0 (fu : Nat)  (a1 : Int32) (a2 : Int32) (μ : Mem) : Option ((Int32 ⊕ String) × Mem) :=
  (D_X6_isOutsider_0 μ a1).bind fun x1 =>
  if x1 = true then
    (D_X6_isWithin_0 μ a2 0 1000000000).bind fun x3 =>
    if x3 = true then
      D_X6_settle_23 fu a1 a2 1 μ
    else
      D_X6_settle_22 fu a1 a2 μ
  else
    D_X6_settle_22 fu a1 a2 μ
set_option maxRecDepth 20000 in
theorem T_X6_settle_0 (G : GX) (fu : Nat)  (hG : gt G = tbl) : ∀ (a1 : Int32) (a2 : Int32) (μ : Mem) (r : ((Int32 ⊕ String) × Mem)) , D_X6_settle_0 fu a1 a2 μ = some r → V G mX6_settle 0 [some (.ref 0), some (.int a1), some (.int a2)] [] μ (ouI r.1) (r.2) := by
  intro a1 a2 μ r h
  unfold D_X6_settle_0 at h
  refine V_aload_n dX6_settle_0 rfl ?_
  refine V_iload_n dX6_settle_1 rfl ?_
  obtain ⟨x1, y2, h⟩ := bi_o h
  refine V_callS (as := [.int a1]) (rest := [.ref 0]) dX6_settle_2 os_mX6_isOutsider rfl lk_RX6_121 (by decide) (by decide) rfl rfl (Nat.le_of_ble_eq_true rfl) (VM_X6_isOutsider G μ hG a1 _ y2) ?_
  by_cases c5 : x1 = true
  · rw [if_pos c5] at h
    refine V_ifeq_f (tgt := 22) dX6_settle_5 (by decide) (b2i_t.mp c5) ?_
    refine V_iload_n dX6_settle_8 rfl ?_
    refine V_iconst (v := 0) dX6_settle_9 rfl ?_
    refine V_ldc (v := 1000000000) dX6_settle_10 lk_RX6_124 ?_
    obtain ⟨x3, y4, h⟩ := bi_o h
    refine V_callS (as := [.int a2, .int 0, .int 1000000000]) (rest := [.ref 0]) dX6_settle_12 os_mX6_isWithin rfl lk_RX6_42 (by decide) (by decide) rfl rfl (Nat.le_of_ble_eq_true rfl) (VM_X6_isWithin G μ hG a2 0 1000000000 _ y4) ?_
    by_cases c15 : x3 = true
    · rw [if_pos c15] at h
      refine V_ifeq_f (tgt := 22) dX6_settle_15 (by decide) (b2i_t.mp c15) ?_
      refine V_iconst (v := 1) dX6_settle_18 rfl ?_
      refine V_goto (tgt := 23) dX6_settle_19 (by decide) ?_
      exact V_wk [true, true, true] rfl (T_X6_settle_23 G fu hG _ _ _ _ _ h)
    · rw [if_neg c15] at h
      refine V_ifeq_t (tgt := 22) dX6_settle_15 (by decide) (b2i_f.mp c15) ?_
      exact V_wk [true, true, true] rfl (T_X6_settle_22 G fu hG _ _ _ _ h)
  · rw [if_neg c5] at h
    refine V_ifeq_t (tgt := 22) dX6_settle_5 (by decide) (b2i_f.mp c5) ?_
    exact V_wk [true, true, true] rfl (T_X6_settle_22 G fu hG _ _ _ _ h)
theorem VM_X6_settle (G : GX) (fu : Nat)  (hG : gt G = tbl) (a1 : Int32) (a2 : Int32) (μ : Mem) (r : ((Int32 ⊕ String) × Mem)) (h : D_X6_settle_0 fu a1 a2 μ = some r) : VM G mX6_settle [.ref 0, .int a1, .int a2] μ (ouI r.1) (r.2) := V_entry ok_mX6_settle rfl rfl (Nat.le_of_ble_eq_true rfl) (T_X6_settle_0 G fu hG a1 a2 μ r h)
def D_X6_fall_0 (fu : Nat)  (a1 : Int32) (μ : Mem) : Option ((Int32 ⊕ String) × Mem) :=
  (D_X6_isOutsider_0 μ a1).bind fun x1 =>
  (D_X6_needRight_0 (b2i x1) μ).bind fun x3 =>
  tx x3 fun v5 m6 =>
  (D_X2_write_0 7 a1 0 0 0 0 m6).bind fun x9 =>
  (D_X6_enter_0 fu x9).bind fun x11 =>
  tx x11 fun v13 m14 =>
  (D_X0_thoseWho_0 fu m14 3 2).bind fun x17 =>
  (D_J6_bitCount_0f7a4_0 m14 x17).bind fun x19 =>
  some (.inl x19, m14)
set_option maxRecDepth 20000 in
theorem T_X6_fall_0 (G : GX) (fu : Nat)  (hG : gt G = tbl) : ∀ (a1 : Int32) (μ : Mem) (r : ((Int32 ⊕ String) × Mem)) , D_X6_fall_0 fu a1 μ = some r → V G mX6_fall 0 [some (.ref 0), some (.int a1)] [] μ (ouI r.1) (r.2) := by
  intro a1 μ r h
  unfold D_X6_fall_0 at h
  refine V_aload_n dX6_fall_0 rfl ?_
  refine V_iload_n dX6_fall_1 rfl ?_
  obtain ⟨x1, y2, h⟩ := bi_o h
  refine V_callS (as := [.int a1]) (rest := [.ref 0]) dX6_fall_2 os_mX6_isOutsider rfl lk_RX6_121 (by decide) (by decide) rfl rfl (Nat.le_of_ble_eq_true rfl) (VM_X6_isOutsider G μ hG a1 _ y2) ?_
  obtain ⟨x3, y4, h⟩ := bi_o h
  have z7 := VM_X6_needRight G hG (b2i x1) μ _ y4
  rcases tx_o h with ⟨v5, q8, h⟩ | ⟨E, q8, h⟩
  · rw [q8] at z7
    generalize x3.2 = m6 at h z7
    refine V_callV (as := [.int (b2i x1)]) (q := 0) (rest := []) dX6_fall_5 ov_mX6_needRight lk_RX6_47 (by decide) (by decide) rfl rfl (Nat.le_of_ble_eq_true rfl) (tq_0 hG) rfl (z7) ?_
    refine V_aload_n dX6_fall_8 rfl ?_
    refine V_getR (kf := 0) k_X6 (by decide) lk_RX6_12 rfl dX6_fall_9 (tq_0 hG) rfl ?_
    refine V_bipush (v := 7) dX6_fall_12 rfl ?_
    refine V_iload_n dX6_fall_14 rfl ?_
    refine V_iconst (v := 0) dX6_fall_15 rfl ?_
    refine V_iconst (v := 0) dX6_fall_16 rfl ?_
    refine V_iconst (v := 0) dX6_fall_17 rfl ?_
    refine V_iconst (v := 0) dX6_fall_18 rfl ?_
    obtain ⟨x9, y10, h⟩ := bi_o h
    refine V_callV (as := [.int 7, .int a1, .int 0, .int 0, .int 0, .int 0]) (q := 1) (rest := []) dX6_fall_19 ov_mX2_write lk_RX6_61 (by decide) (by decide) rfl rfl (Nat.le_of_ble_eq_true rfl) (tq_1 hG) rfl (VM_X2_write G hG 7 a1 0 0 0 0 m6 _ y10) ?_
    refine V_aload_n dX6_fall_22 rfl ?_
    obtain ⟨x11, y12, h⟩ := bi_o h
    have z15 := VM_X6_enter G fu hG x9 _ y12
    rcases tx_o h with ⟨v13, q16, h⟩ | ⟨E, q16, h⟩
    · rw [q16] at z15
      generalize x11.2 = m14 at h z15
      refine V_callV (as := []) (q := 0) (rest := []) dX6_fall_23 ov_mX6_enter lk_RX6_65 (by decide) (by decide) rfl rfl (Nat.le_of_ble_eq_true rfl) (tq_0 hG) rfl (z15) ?_
      refine V_aload_n dX6_fall_26 rfl ?_
      refine V_getR (kf := 1) k_X6 (by decide) lk_RX6_19 rfl dX6_fall_27 (tq_0 hG) rfl ?_
      refine V_iconst (v := 2) dX6_fall_30 rfl ?_
      obtain ⟨x17, y18, h⟩ := bi_o h
      refine V_callV (as := [.int 2]) (q := 3) (rest := []) dX6_fall_31 ov_mX0_thoseWho lk_RX6_125 (by decide) (by decide) rfl rfl (Nat.le_of_ble_eq_true rfl) (tq_3 hG) rfl (VM_X0_thoseWho G fu m14 3 hG (Or.inl rfl) 2 _ y18) ?_
      obtain ⟨x19, y20, h⟩ := bi_o h
      refine V_callS (as := [.int x17]) (rest := []) dX6_fall_34 os_mJ6_bitCount_0f7a4 rfl lk_RX6_83 (by decide) (by decide) rfl rfl (Nat.le_of_ble_eq_true rfl) (VM_J6_bitCount_0f7a4 G m14 x17 _ y20) ?_
      cases h
      exact V_iret rfl dX6_fall_37
    · rw [q16] at z15
      cases h
      exact V_callVX (as := []) (q := 0) (rest := []) dX6_fall_23 rfl ov_mX6_enter lk_RX6_65 (by decide) (by decide) rfl rfl (Nat.le_of_ble_eq_true rfl) (tq_0 hG) rfl (z15)
  · rw [q8] at z7
    cases h
    exact V_callVX (as := [.int (b2i x1)]) (q := 0) (rest := []) dX6_fall_5 rfl ov_mX6_needRight lk_RX6_47 (by decide) (by decide) rfl rfl (Nat.le_of_ble_eq_true rfl) (tq_0 hG) rfl (z7)
theorem VM_X6_fall (G : GX) (fu : Nat)  (hG : gt G = tbl) (a1 : Int32) (μ : Mem) (r : ((Int32 ⊕ String) × Mem)) (h : D_X6_fall_0 fu a1 μ = some r) : VM G mX6_fall [.ref 0, .int a1] μ (ouI r.1) (r.2) := V_entry ok_mX6_fall rfl rfl (Nat.le_of_ble_eq_true rfl) (T_X6_fall_0 G fu hG a1 μ r h)
def D_X6_reopen_0 (fu : Nat)  (a1 : Int32) (μ : Mem) : Option ((Int64 ⊕ String) × Mem) :=
  (D_X6_isHarm_0 μ a1).bind fun x1 =>
  (D_X6_needThere_0 (b2i x1) μ).bind fun x3 =>
  tx x3 fun v5 m6 =>
  (D_X1_borneOf_0 m6 17 a1 0).bind fun x9 =>
  (D_X2_write_0 8 a1 0 0 0 0 m6).bind fun x11 =>
  (D_X6_enter_0 fu x11).bind fun x13 =>
  tx x13 fun v15 m16 =>
  (D_X1_borneOf_0 m16 17 a1 0).bind fun x19 =>
  some (.inl (x19 - x9), m16)
set_option maxRecDepth 20000 in
theorem T_X6_reopen_0 (G : GX) (fu : Nat)  (hG : gt G = tbl) : ∀ (a1 : Int32) (μ : Mem) (r : ((Int64 ⊕ String) × Mem)) , D_X6_reopen_0 fu a1 μ = some r → V G mX6_reopen 0 [some (.ref 0), some (.int a1), none, none] [] μ (ouL r.1) (r.2) := by
  intro a1 μ r h
  unfold D_X6_reopen_0 at h
  refine V_aload_n dX6_reopen_0 rfl ?_
  refine V_aload_n dX6_reopen_1 rfl ?_
  refine V_iload_n dX6_reopen_2 rfl ?_
  obtain ⟨x1, y2, h⟩ := bi_o h
  refine V_callV (as := [.int a1]) (q := 0) (rest := [.ref 0]) dX6_reopen_3 ov_mX6_isHarm lk_RX6_114 (by decide) (by decide) rfl rfl (Nat.le_of_ble_eq_true rfl) (tq_0 hG) rfl (VM_X6_isHarm G μ hG a1 _ y2) ?_
  obtain ⟨x3, y4, h⟩ := bi_o h
  have z7 := VM_X6_needThere G hG (b2i x1) μ _ y4
  rcases tx_o h with ⟨v5, q8, h⟩ | ⟨E, q8, h⟩
  · rw [q8] at z7
    generalize x3.2 = m6 at h z7
    refine V_callV (as := [.int (b2i x1)]) (q := 0) (rest := []) dX6_reopen_6 ov_mX6_needThere lk_RX6_71 (by decide) (by decide) rfl rfl (Nat.le_of_ble_eq_true rfl) (tq_0 hG) rfl (z7) ?_
    refine V_aload_n dX6_reopen_9 rfl ?_
    refine V_getR (kf := 1) k_X6 (by decide) lk_RX6_19 rfl dX6_reopen_10 (tq_0 hG) rfl ?_
    refine V_getR (kf := 1) k_X0 (by decide) lk_RX6_107 rfl dX6_reopen_13 (tq_3 hG) rfl ?_
    refine V_iload_n dX6_reopen_16 rfl ?_
    refine V_iconst (v := 0) dX6_reopen_17 rfl ?_
    obtain ⟨x9, y10, h⟩ := bi_o h
    refine V_callV (as := [.int a1, .int 0]) (q := 17) (rest := []) dX6_reopen_18 ov_mX1_borneOf lk_RX6_117 (by decide) (by decide) rfl rfl (Nat.le_of_ble_eq_true rfl) (tq_17 hG) rfl (VM_X1_borneOf G m6 17 hG (Or.inl rfl) a1 0 _ y10) ?_
    refine V_lstore_n (lv2 := [some (.ref 0), some (.int a1), some (.long x9), none]) dX6_reopen_21 (by decide) rfl ?_
    refine V_aload_n dX6_reopen_22 rfl ?_
    refine V_getR (kf := 0) k_X6 (by decide) lk_RX6_12 rfl dX6_reopen_23 (tq_0 hG) rfl ?_
    refine V_bipush (v := 8) dX6_reopen_26 rfl ?_
    refine V_iload_n dX6_reopen_28 rfl ?_
    refine V_iconst (v := 0) dX6_reopen_29 rfl ?_
    refine V_iconst (v := 0) dX6_reopen_30 rfl ?_
    refine V_iconst (v := 0) dX6_reopen_31 rfl ?_
    refine V_iconst (v := 0) dX6_reopen_32 rfl ?_
    obtain ⟨x11, y12, h⟩ := bi_o h
    refine V_callV (as := [.int 8, .int a1, .int 0, .int 0, .int 0, .int 0]) (q := 1) (rest := []) dX6_reopen_33 ov_mX2_write lk_RX6_61 (by decide) (by decide) rfl rfl (Nat.le_of_ble_eq_true rfl) (tq_1 hG) rfl (VM_X2_write G hG 8 a1 0 0 0 0 m6 _ y12) ?_
    refine V_aload_n dX6_reopen_36 rfl ?_
    obtain ⟨x13, y14, h⟩ := bi_o h
    have z17 := VM_X6_enter G fu hG x11 _ y14
    rcases tx_o h with ⟨v15, q18, h⟩ | ⟨E, q18, h⟩
    · rw [q18] at z17
      generalize x13.2 = m16 at h z17
      refine V_callV (as := []) (q := 0) (rest := []) dX6_reopen_37 ov_mX6_enter lk_RX6_65 (by decide) (by decide) rfl rfl (Nat.le_of_ble_eq_true rfl) (tq_0 hG) rfl (z17) ?_
      refine V_aload_n dX6_reopen_40 rfl ?_
      refine V_getR (kf := 1) k_X6 (by decide) lk_RX6_19 rfl dX6_reopen_41 (tq_0 hG) rfl ?_
      refine V_getR (kf := 1) k_X0 (by decide) lk_RX6_107 rfl dX6_reopen_44 (tq_3 hG) rfl ?_
      refine V_iload_n dX6_reopen_47 rfl ?_
      refine V_iconst (v := 0) dX6_reopen_48 rfl ?_
      obtain ⟨x19, y20, h⟩ := bi_o h
      refine V_callV (as := [.int a1, .int 0]) (q := 17) (rest := []) dX6_reopen_49 ov_mX1_borneOf lk_RX6_117 (by decide) (by decide) rfl rfl (Nat.le_of_ble_eq_true rfl) (tq_17 hG) rfl (VM_X1_borneOf G m16 17 hG (Or.inl rfl) a1 0 _ y20) ?_
      refine V_lload_n dX6_reopen_52 rfl ?_
      refine V_lsub dX6_reopen_53 ?_
      cases h
      exact V_lret rfl dX6_reopen_54
    · rw [q18] at z17
      cases h
      exact V_callVX (as := []) (q := 0) (rest := []) dX6_reopen_37 rfl ov_mX6_enter lk_RX6_65 (by decide) (by decide) rfl rfl (Nat.le_of_ble_eq_true rfl) (tq_0 hG) rfl (z17)
  · rw [q8] at z7
    cases h
    exact V_callVX (as := [.int (b2i x1)]) (q := 0) (rest := []) dX6_reopen_6 rfl ov_mX6_needThere lk_RX6_71 (by decide) (by decide) rfl rfl (Nat.le_of_ble_eq_true rfl) (tq_0 hG) rfl (z7)
theorem VM_X6_reopen (G : GX) (fu : Nat)  (hG : gt G = tbl) (a1 : Int32) (μ : Mem) (r : ((Int64 ⊕ String) × Mem)) (h : D_X6_reopen_0 fu a1 μ = some r) : VM G mX6_reopen [.ref 0, .int a1] μ (ouL r.1) (r.2) := V_entry ok_mX6_reopen rfl rfl (Nat.le_of_ble_eq_true rfl) (T_X6_reopen_0 G fu hG a1 μ r h)
def D_X6_back_34 (fu : Nat)  : Nat → Int32 → Mem → Option (Int32 × Mem)
  | 0, _, _ => none
  | n + 1, v1, μ =>
    if (μ.1 1 1) ≤ v1 then
      some (μ.1 1 1, μ)
    else
      (D_X0_carryOut_0 fu 3 v1 μ).bind fun x5 =>
      (D_X6_back_34 fu n) (v1 + 1) x5.2
set_option maxRecDepth 20000 in
theorem T_X6_back_34 (G : GX) (fu : Nat)  (hG : gt G = tbl) : ∀ (n : Nat) (v1 : Int32) (μ : Mem) (r : (Int32 × Mem)) , D_X6_back_34 fu n v1 μ = some r → V G mX6_back 34 [some (.ref 0), some (.int v1)] [] μ (.inl (some (.int r.1))) (r.2) := by
  intro n
  induction n with
  | zero =>
    intro v1 μ r h
    exact nomatch (show (none : Option (Int32 × Mem)) = some r from h)
  | succ n ih =>
    intro v1 μ r h
    rw [D_X6_back_34] at h
    refine V_iload_n dX6_back_34 rfl ?_
    refine V_aload_n dX6_back_35 rfl ?_
    refine V_getR (kf := 0) k_X6 (by decide) lk_RX6_12 rfl dX6_back_36 (tq_0 hG) rfl ?_
    refine V_getI (kf := 1) k_X2 (by decide) lk_RX6_128 rfl dX6_back_39 (tq_1 hG) rfl ?_
    by_cases c42 : (μ.1 1 1) ≤ v1
    · rw [if_pos c42] at h
      refine V_icmpge_t (tgt := 68) dX6_back_42 (by decide) c42 ?_
      refine V_aload_n dX6_back_68 rfl ?_
      refine V_getR (kf := 0) k_X6 (by decide) lk_RX6_12 rfl dX6_back_69 (tq_0 hG) rfl ?_
      refine V_getI (kf := 1) k_X2 (by decide) lk_RX6_128 rfl dX6_back_72 (tq_1 hG) rfl ?_
      cases h
      exact V_iret rfl dX6_back_75
    · rw [if_neg c42] at h
      refine V_icmpge_f (tgt := 68) dX6_back_42 (by decide) c42 ?_
      refine V_aload_n dX6_back_45 rfl ?_
      refine V_getR (kf := 1) k_X6 (by decide) lk_RX6_19 rfl dX6_back_46 (tq_0 hG) rfl ?_
      refine V_aload_n dX6_back_49 rfl ?_
      refine V_getR (kf := 0) k_X6 (by decide) lk_RX6_12 rfl dX6_back_50 (tq_0 hG) rfl ?_
      refine V_iload_n dX6_back_53 rfl ?_
      refine V_aload_n dX6_back_54 rfl ?_
      refine V_getR (kf := 3) k_X6 (by decide) lk_RX6_29 rfl dX6_back_55 (tq_0 hG) rfl ?_
      obtain ⟨x5, y6, h⟩ := bi_o h
      refine V_callV (as := [.ref 1, .int v1, .ref 61]) (q := 3) (rest := []) dX6_back_58 ov_mX0_carryOut lk_RX6_132 (by decide) (by decide) rfl rfl (Nat.le_of_ble_eq_true rfl) (tq_3 hG) rfl (VM_X0_carryOut G fu 3 hG (Or.inl rfl) v1 μ _ y6) ?_
      refine V_pop dX6_back_61 rfl ?_
      refine V_iinc (v := v1 + 1) (lv2 := [some (.ref 0), some (.int (v1 + 1))]) dX6_back_62 rfl rfl (by decide) rfl ?_
      refine V_goto (tgt := 34) dX6_back_65 (by decide) ?_
      exact V_wk [true, true] rfl (ih _ _ _ h)
def D_X6_back_0 (fu : Nat)  (μ : Mem) : Option (Int32 × Mem) :=
  if 0 < (μ.1 1 1) then
    vl (wI μ 1 1 ((μ.1 1 1) - 1)) fun m1 =>
    (D_X0_clear_0 fu 3 m1).bind fun x3 =>
    D_X6_back_34 fu fu 0 x3
  else
    some ((-1), μ)
set_option maxRecDepth 20000 in
theorem T_X6_back_0 (G : GX) (fu : Nat)  (hG : gt G = tbl) : ∀ (μ : Mem) (r : (Int32 × Mem)) , D_X6_back_0 fu μ = some r → V G mX6_back 0 [some (.ref 0), none] [] μ (.inl (some (.int r.1))) (r.2) := by
  intro μ r h
  unfold D_X6_back_0 at h
  refine V_aload_n dX6_back_0 rfl ?_
  refine V_getR (kf := 0) k_X6 (by decide) lk_RX6_12 rfl dX6_back_1 (tq_0 hG) rfl ?_
  refine V_getI (kf := 1) k_X2 (by decide) lk_RX6_128 rfl dX6_back_4 (tq_1 hG) rfl ?_
  by_cases c7 : 0 < (μ.1 1 1)
  · rw [if_pos c7] at h
    refine V_ifgt_t (tgt := 12) dX6_back_7 (by decide) c7 ?_
    refine V_aload_n dX6_back_12 rfl ?_
    refine V_getR (kf := 0) k_X6 (by decide) lk_RX6_12 rfl dX6_back_13 (tq_0 hG) rfl ?_
    refine V_dup dX6_back_16 rfl ?_
    refine V_getI (kf := 1) k_X2 (by decide) lk_RX6_128 rfl dX6_back_17 (tq_1 hG) rfl ?_
    refine V_iconst (v := 1) dX6_back_20 rfl ?_
    refine V_isub dX6_back_21 ?_
    obtain ⟨m1, e2, h⟩ := vl_o h
    refine V_putI (kf := 1) k_X2 (by decide) lk_RX6_128 rfl rfl (by decide +kernel) dX6_back_22 (tq_1 hG) rfl e2.symm ?_
    refine V_aload_n dX6_back_25 rfl ?_
    refine V_getR (kf := 1) k_X6 (by decide) lk_RX6_19 rfl dX6_back_26 (tq_0 hG) rfl ?_
    obtain ⟨x3, y4, h⟩ := bi_o h
    refine V_callV (as := []) (q := 3) (rest := []) dX6_back_29 ov_mX0_clear lk_RX6_129 (by decide) (by decide) rfl rfl (Nat.le_of_ble_eq_true rfl) (tq_3 hG) rfl (VM_X0_clear G fu 3 hG (Or.inl rfl) m1 _ y4) ?_
    refine V_iconst (v := 0) dX6_back_32 rfl ?_
    refine V_istore_n (lv2 := [some (.ref 0), some (.int 0)]) dX6_back_33 (by decide) rfl ?_
    exact V_wk [true, true] rfl (T_X6_back_34 G fu hG fu _ _ _ h)
  · rw [if_neg c7] at h
    refine V_ifgt_f (tgt := 12) dX6_back_7 (by decide) c7 ?_
    refine V_iconst (v := (-1)) dX6_back_10 rfl ?_
    cases h
    exact V_iret rfl dX6_back_11
theorem VM_X6_back (G : GX) (fu : Nat)  (hG : gt G = tbl) (μ : Mem) (r : (Int32 × Mem)) (h : D_X6_back_0 fu μ = some r) : VM G mX6_back [.ref 0] μ (.inl (some (.int r.1))) (r.2) := V_entry ok_mX6_back rfl rfl (Nat.le_of_ble_eq_true rfl) (T_X6_back_0 G fu hG μ r h)
def D_X6_told_0 (fu : Nat)  (a1 : Int32) (μ : Mem) : Option ((Int32 ⊕ String) × Mem) :=
  (D_X6_isWithin_0 μ a1 0 10).bind fun x1 =>
  (D_X6_needRight_0 (b2i x1) μ).bind fun x3 =>
  tx x3 fun v5 m6 =>
  if a1 = 0 then
    some (.inl (m6.1 4 13), m6)
  else
  if a1 = 1 then
    some (.inl (m6.1 17 12), m6)
  else
  if a1 = 2 then
    some (.inl (m6.1 1 1), m6)
  else
  if a1 = 3 then
    some (.inl (m6.1 3 4), m6)
  else
  if a1 = 4 then
    some (.inl (m6.1 3 5), m6)
  else
  if a1 = 5 then
    some (.inl (m6.1 3 6), m6)
  else
  if a1 = 6 then
    some (.inl (m6.1 4 12), m6)
  else
  if a1 = 7 then
    (D_X5_gapBits_0 fu m6 4).bind fun x9 =>
    some (.inl x9, m6)
  else
  if a1 = 8 then
    (D_X0_thoseWho_0 fu m6 3 1).bind fun x11 =>
    some (.inl x11, m6)
  else
  if a1 = 9 then
    (D_X0_thoseWho_0 fu m6 3 2).bind fun x13 =>
    some (.inl x13, m6)
  else
    (D_X5_signerBits_0 fu m6 4).bind fun x15 =>
    some (.inl x15, m6)
set_option maxRecDepth 20000 in
theorem T_X6_told_0 (G : GX) (fu : Nat)  (hG : gt G = tbl) : ∀ (a1 : Int32) (μ : Mem) (r : ((Int32 ⊕ String) × Mem)) , D_X6_told_0 fu a1 μ = some r → V G mX6_told 0 [some (.ref 0), some (.int a1)] [] μ (ouI r.1) (r.2) := by
  intro a1 μ r h
  unfold D_X6_told_0 at h
  refine V_aload_n dX6_told_0 rfl ?_
  refine V_iload_n dX6_told_1 rfl ?_
  refine V_iconst (v := 0) dX6_told_2 rfl ?_
  refine V_bipush (v := 10) dX6_told_3 rfl ?_
  obtain ⟨x1, y2, h⟩ := bi_o h
  refine V_callS (as := [.int a1, .int 0, .int 10]) (rest := [.ref 0]) dX6_told_5 os_mX6_isWithin rfl lk_RX6_42 (by decide) (by decide) rfl rfl (Nat.le_of_ble_eq_true rfl) (VM_X6_isWithin G μ hG a1 0 10 _ y2) ?_
  obtain ⟨x3, y4, h⟩ := bi_o h
  have z7 := VM_X6_needRight G hG (b2i x1) μ _ y4
  rcases tx_o h with ⟨v5, q8, h⟩ | ⟨E, q8, h⟩
  · rw [q8] at z7
    generalize x3.2 = m6 at h z7
    refine V_callV (as := [.int (b2i x1)]) (q := 0) (rest := []) dX6_told_8 ov_mX6_needRight lk_RX6_47 (by decide) (by decide) rfl rfl (Nat.le_of_ble_eq_true rfl) (tq_0 hG) rfl (z7) ?_
    refine V_iload_n dX6_told_11 rfl ?_
    by_cases c12_0 : a1 = 0
    · rw [if_pos c12_0] at h
      have qc12_0 : (a1 : Int32).toInt = 0 := by rw [c12_0]; decide
      refine V_tabIn (tgt := 68) dX6_told_12 (by rw [qc12_0]; decide) (by rw [qc12_0]; decide) (by rw [qc12_0]; rfl) (by decide) ?_
      refine V_aload_n dX6_told_68 rfl ?_
      refine V_getR (kf := 1) k_X6 (by decide) lk_RX6_19 rfl dX6_told_69 (tq_0 hG) rfl ?_
      refine V_getR (kf := 0) k_X0 (by decide) lk_RX6_51 rfl dX6_told_72 (tq_3 hG) rfl ?_
      refine V_getI (kf := 13) k_X5 (by decide) lk_RX6_55 rfl dX6_told_75 (tq_4 hG) rfl ?_
      cases h
      exact V_iret rfl dX6_told_78
    · rw [if_neg c12_0] at h
      by_cases c12_1 : a1 = 1
      · rw [if_pos c12_1] at h
        have qc12_1 : (a1 : Int32).toInt = 1 := by rw [c12_1]; decide
        refine V_tabIn (tgt := 79) dX6_told_12 (by rw [qc12_1]; decide) (by rw [qc12_1]; decide) (by rw [qc12_1]; rfl) (by decide) ?_
        refine V_aload_n dX6_told_79 rfl ?_
        refine V_getR (kf := 1) k_X6 (by decide) lk_RX6_19 rfl dX6_told_80 (tq_0 hG) rfl ?_
        refine V_getR (kf := 1) k_X0 (by decide) lk_RX6_107 rfl dX6_told_83 (tq_3 hG) rfl ?_
        refine V_getI (kf := 12) k_X1 (by decide) lk_RX6_111 rfl dX6_told_86 (tq_17 hG) rfl ?_
        cases h
        exact V_iret rfl dX6_told_89
      · rw [if_neg c12_1] at h
        by_cases c12_2 : a1 = 2
        · rw [if_pos c12_2] at h
          have qc12_2 : (a1 : Int32).toInt = 2 := by rw [c12_2]; decide
          refine V_tabIn (tgt := 90) dX6_told_12 (by rw [qc12_2]; decide) (by rw [qc12_2]; decide) (by rw [qc12_2]; rfl) (by decide) ?_
          refine V_aload_n dX6_told_90 rfl ?_
          refine V_getR (kf := 0) k_X6 (by decide) lk_RX6_12 rfl dX6_told_91 (tq_0 hG) rfl ?_
          refine V_getI (kf := 1) k_X2 (by decide) lk_RX6_128 rfl dX6_told_94 (tq_1 hG) rfl ?_
          cases h
          exact V_iret rfl dX6_told_97
        · rw [if_neg c12_2] at h
          by_cases c12_3 : a1 = 3
          · rw [if_pos c12_3] at h
            have qc12_3 : (a1 : Int32).toInt = 3 := by rw [c12_3]; decide
            refine V_tabIn (tgt := 98) dX6_told_12 (by rw [qc12_3]; decide) (by rw [qc12_3]; decide) (by rw [qc12_3]; rfl) (by decide) ?_
            refine V_aload_n dX6_told_98 rfl ?_
            refine V_getR (kf := 1) k_X6 (by decide) lk_RX6_19 rfl dX6_told_99 (tq_0 hG) rfl ?_
            refine V_getI (kf := 4) k_X0 (by decide) lk_RX6_92 rfl dX6_told_102 (tq_3 hG) rfl ?_
            cases h
            exact V_iret rfl dX6_told_105
          · rw [if_neg c12_3] at h
            by_cases c12_4 : a1 = 4
            · rw [if_pos c12_4] at h
              have qc12_4 : (a1 : Int32).toInt = 4 := by rw [c12_4]; decide
              refine V_tabIn (tgt := 106) dX6_told_12 (by rw [qc12_4]; decide) (by rw [qc12_4]; decide) (by rw [qc12_4]; rfl) (by decide) ?_
              refine V_aload_n dX6_told_106 rfl ?_
              refine V_getR (kf := 1) k_X6 (by decide) lk_RX6_19 rfl dX6_told_107 (tq_0 hG) rfl ?_
              refine V_getI (kf := 5) k_X0 (by decide) lk_RX6_95 rfl dX6_told_110 (tq_3 hG) rfl ?_
              cases h
              exact V_iret rfl dX6_told_113
            · rw [if_neg c12_4] at h
              by_cases c12_5 : a1 = 5
              · rw [if_pos c12_5] at h
                have qc12_5 : (a1 : Int32).toInt = 5 := by rw [c12_5]; decide
                refine V_tabIn (tgt := 114) dX6_told_12 (by rw [qc12_5]; decide) (by rw [qc12_5]; decide) (by rw [qc12_5]; rfl) (by decide) ?_
                refine V_aload_n dX6_told_114 rfl ?_
                refine V_getR (kf := 1) k_X6 (by decide) lk_RX6_19 rfl dX6_told_115 (tq_0 hG) rfl ?_
                refine V_getI (kf := 6) k_X0 (by decide) lk_RX6_98 rfl dX6_told_118 (tq_3 hG) rfl ?_
                cases h
                exact V_iret rfl dX6_told_121
              · rw [if_neg c12_5] at h
                by_cases c12_6 : a1 = 6
                · rw [if_pos c12_6] at h
                  have qc12_6 : (a1 : Int32).toInt = 6 := by rw [c12_6]; decide
                  refine V_tabIn (tgt := 122) dX6_told_12 (by rw [qc12_6]; decide) (by rw [qc12_6]; decide) (by rw [qc12_6]; rfl) (by decide) ?_
                  refine V_aload_n dX6_told_122 rfl ?_
                  refine V_getR (kf := 1) k_X6 (by decide) lk_RX6_19 rfl dX6_told_123 (tq_0 hG) rfl ?_
                  refine V_getR (kf := 0) k_X0 (by decide) lk_RX6_51 rfl dX6_told_126 (tq_3 hG) rfl ?_
                  refine V_getI (kf := 12) k_X5 (by decide) lk_RX6_80 rfl dX6_told_129 (tq_4 hG) rfl ?_
                  cases h
                  exact V_iret rfl dX6_told_132
                · rw [if_neg c12_6] at h
                  by_cases c12_7 : a1 = 7
                  · rw [if_pos c12_7] at h
                    have qc12_7 : (a1 : Int32).toInt = 7 := by rw [c12_7]; decide
                    refine V_tabIn (tgt := 133) dX6_told_12 (by rw [qc12_7]; decide) (by rw [qc12_7]; decide) (by rw [qc12_7]; rfl) (by decide) ?_
                    refine V_aload_n dX6_told_133 rfl ?_
                    refine V_getR (kf := 1) k_X6 (by decide) lk_RX6_19 rfl dX6_told_134 (tq_0 hG) rfl ?_
                    refine V_getR (kf := 0) k_X0 (by decide) lk_RX6_51 rfl dX6_told_137 (tq_3 hG) rfl ?_
                    obtain ⟨x9, y10, h⟩ := bi_o h
                    refine V_callV (as := []) (q := 4) (rest := []) dX6_told_140 ov_mX5_gapBits lk_RX6_136 (by decide) (by decide) rfl rfl (Nat.le_of_ble_eq_true rfl) (tq_4 hG) rfl (VM_X5_gapBits G fu m6 4 hG (Or.inl rfl) _ y10) ?_
                    cases h
                    exact V_iret rfl dX6_told_143
                  · rw [if_neg c12_7] at h
                    by_cases c12_8 : a1 = 8
                    · rw [if_pos c12_8] at h
                      have qc12_8 : (a1 : Int32).toInt = 8 := by rw [c12_8]; decide
                      refine V_tabIn (tgt := 144) dX6_told_12 (by rw [qc12_8]; decide) (by rw [qc12_8]; decide) (by rw [qc12_8]; rfl) (by decide) ?_
                      refine V_aload_n dX6_told_144 rfl ?_
                      refine V_getR (kf := 1) k_X6 (by decide) lk_RX6_19 rfl dX6_told_145 (tq_0 hG) rfl ?_
                      refine V_iconst (v := 1) dX6_told_148 rfl ?_
                      obtain ⟨x11, y12, h⟩ := bi_o h
                      refine V_callV (as := [.int 1]) (q := 3) (rest := []) dX6_told_149 ov_mX0_thoseWho lk_RX6_125 (by decide) (by decide) rfl rfl (Nat.le_of_ble_eq_true rfl) (tq_3 hG) rfl (VM_X0_thoseWho G fu m6 3 hG (Or.inl rfl) 1 _ y12) ?_
                      cases h
                      exact V_iret rfl dX6_told_152
                    · rw [if_neg c12_8] at h
                      by_cases c12_9 : a1 = 9
                      · rw [if_pos c12_9] at h
                        have qc12_9 : (a1 : Int32).toInt = 9 := by rw [c12_9]; decide
                        refine V_tabIn (tgt := 153) dX6_told_12 (by rw [qc12_9]; decide) (by rw [qc12_9]; decide) (by rw [qc12_9]; rfl) (by decide) ?_
                        refine V_aload_n dX6_told_153 rfl ?_
                        refine V_getR (kf := 1) k_X6 (by decide) lk_RX6_19 rfl dX6_told_154 (tq_0 hG) rfl ?_
                        refine V_iconst (v := 2) dX6_told_157 rfl ?_
                        obtain ⟨x13, y14, h⟩ := bi_o h
                        refine V_callV (as := [.int 2]) (q := 3) (rest := []) dX6_told_158 ov_mX0_thoseWho lk_RX6_125 (by decide) (by decide) rfl rfl (Nat.le_of_ble_eq_true rfl) (tq_3 hG) rfl (VM_X0_thoseWho G fu m6 3 hG (Or.inl rfl) 2 _ y14) ?_
                        cases h
                        exact V_iret rfl dX6_told_161
                      · rw [if_neg c12_9] at h
                        refine V_tabOut (tgt := 162) dX6_told_12 (tab_out 10 9 (by decide) (fun j hj => ?_)) (by decide) ?_
                        · match j, hj with
                          | 0, _ => exact fun z => c12_0 (Int32.toInt_inj.mp (by rw [z]; decide))
                          | 1, _ => exact fun z => c12_1 (Int32.toInt_inj.mp (by rw [z]; decide))
                          | 2, _ => exact fun z => c12_2 (Int32.toInt_inj.mp (by rw [z]; decide))
                          | 3, _ => exact fun z => c12_3 (Int32.toInt_inj.mp (by rw [z]; decide))
                          | 4, _ => exact fun z => c12_4 (Int32.toInt_inj.mp (by rw [z]; decide))
                          | 5, _ => exact fun z => c12_5 (Int32.toInt_inj.mp (by rw [z]; decide))
                          | 6, _ => exact fun z => c12_6 (Int32.toInt_inj.mp (by rw [z]; decide))
                          | 7, _ => exact fun z => c12_7 (Int32.toInt_inj.mp (by rw [z]; decide))
                          | 8, _ => exact fun z => c12_8 (Int32.toInt_inj.mp (by rw [z]; decide))
                          | 9, _ => exact fun z => c12_9 (Int32.toInt_inj.mp (by rw [z]; decide))
                          | j + 10, hj => exact absurd hj (by omega)
                        refine V_aload_n dX6_told_162 rfl ?_
                        refine V_getR (kf := 1) k_X6 (by decide) lk_RX6_19 rfl dX6_told_163 (tq_0 hG) rfl ?_
                        refine V_getR (kf := 0) k_X0 (by decide) lk_RX6_51 rfl dX6_told_166 (tq_3 hG) rfl ?_
                        obtain ⟨x15, y16, h⟩ := bi_o h
                        refine V_callV (as := []) (q := 4) (rest := []) dX6_told_169 ov_mX5_signerBits lk_RX6_140 (by decide) (by decide) rfl rfl (Nat.le_of_ble_eq_true rfl) (tq_4 hG) rfl (VM_X5_signerBits G fu m6 4 hG (Or.inl rfl) _ y16) ?_
                        cases h
                        exact V_iret rfl dX6_told_172
  · rw [q8] at z7
    cases h
    exact V_callVX (as := [.int (b2i x1)]) (q := 0) (rest := []) dX6_told_8 rfl ov_mX6_needRight lk_RX6_47 (by decide) (by decide) rfl rfl (Nat.le_of_ble_eq_true rfl) (tq_0 hG) rfl (z7)
theorem VM_X6_told (G : GX) (fu : Nat)  (hG : gt G = tbl) (a1 : Int32) (μ : Mem) (r : ((Int32 ⊕ String) × Mem)) (h : D_X6_told_0 fu a1 μ = some r) : VM G mX6_told [.ref 0, .int a1] μ (ouI r.1) (r.2) := V_entry ok_mX6_told rfl rfl (Nat.le_of_ble_eq_true rfl) (T_X6_told_0 G fu hG a1 μ r h)
def D_X6_isEvent_0 (μ : Mem)  (a1 : Int32) : Option Bool :=
  if a1 < 0 then
    some false
  else
    if (μ.1 1 1) ≤ a1 then
      some false
    else
      some true
set_option maxRecDepth 20000 in
theorem T_X6_isEvent_0 (G : GX) (μ : Mem)  (hG : gt G = tbl) : ∀ (a1 : Int32) (r : Bool) , D_X6_isEvent_0 μ a1 = some r → V G mX6_isEvent 0 [some (.ref 0), some (.int a1)] [] μ (.inl (some (.int (b2i r)))) (μ) := by
  intro a1 r h
  unfold D_X6_isEvent_0 at h
  refine V_iload_n dX6_isEvent_0 rfl ?_
  by_cases c1 : a1 < 0
  · rw [if_pos c1] at h
    refine V_iflt_t (tgt := 19) dX6_isEvent_1 (by decide) c1 ?_
    refine V_iconst (v := 0) dX6_isEvent_19 rfl ?_
    cases h
    exact V_zret rfl (by decide) dX6_isEvent_20
  · rw [if_neg c1] at h
    refine V_iflt_f (tgt := 19) dX6_isEvent_1 (by decide) c1 ?_
    refine V_iload_n dX6_isEvent_4 rfl ?_
    refine V_aload_n dX6_isEvent_5 rfl ?_
    refine V_getR (kf := 0) k_X6 (by decide) lk_RX6_12 rfl dX6_isEvent_6 (tq_0 hG) rfl ?_
    refine V_getI (kf := 1) k_X2 (by decide) lk_RX6_128 rfl dX6_isEvent_9 (tq_1 hG) rfl ?_
    by_cases c12 : (μ.1 1 1) ≤ a1
    · rw [if_pos c12] at h
      refine V_icmpge_t (tgt := 19) dX6_isEvent_12 (by decide) c12 ?_
      refine V_iconst (v := 0) dX6_isEvent_19 rfl ?_
      cases h
      exact V_zret rfl (by decide) dX6_isEvent_20
    · rw [if_neg c12] at h
      refine V_icmpge_f (tgt := 19) dX6_isEvent_12 (by decide) c12 ?_
      refine V_iconst (v := 1) dX6_isEvent_15 rfl ?_
      refine V_goto (tgt := 20) dX6_isEvent_16 (by decide) ?_
      cases h
      exact V_zret rfl (by decide) dX6_isEvent_20
theorem VM_X6_isEvent (G : GX) (μ : Mem)  (hG : gt G = tbl) (a1 : Int32) (r : Bool) (h : D_X6_isEvent_0 μ a1 = some r) : VM G mX6_isEvent [.ref 0, .int a1] μ (.inl (some (.int (b2i r)))) (μ) := V_entry ok_mX6_isEvent rfl rfl (Nat.le_of_ble_eq_true rfl) (T_X6_isEvent_0 G μ hG a1 r h)
def D_X6_event_0  (a1 : Int32) (a2 : Int32) (μ : Mem) : Option ((Int32 ⊕ String) × Mem) :=
  (D_X6_isEvent_0 μ a1).bind fun x1 =>
  (D_X6_needThere_0 (b2i x1) μ).bind fun x3 =>
  tx x3 fun v5 m6 =>
  (D_X6_isWithin_0 m6 a2 0 1).bind fun x9 =>
  (D_X6_needRight_0 (b2i x9) m6).bind fun x11 =>
  tx x11 fun v13 m14 =>
  (D_X2_read_0 m14 a1 a2).bind fun x17 =>
  some (.inl x17, m14)
set_option maxRecDepth 20000 in
theorem T_X6_event_0 (G : GX)  (hG : gt G = tbl) : ∀ (a1 : Int32) (a2 : Int32) (μ : Mem) (r : ((Int32 ⊕ String) × Mem)) , D_X6_event_0  a1 a2 μ = some r → V G mX6_event 0 [some (.ref 0), some (.int a1), some (.int a2)] [] μ (ouI r.1) (r.2) := by
  intro a1 a2 μ r h
  unfold D_X6_event_0 at h
  refine V_aload_n dX6_event_0 rfl ?_
  refine V_aload_n dX6_event_1 rfl ?_
  refine V_iload_n dX6_event_2 rfl ?_
  obtain ⟨x1, y2, h⟩ := bi_o h
  refine V_callV (as := [.int a1]) (q := 0) (rest := [.ref 0]) dX6_event_3 ov_mX6_isEvent lk_RX6_143 (by decide) (by decide) rfl rfl (Nat.le_of_ble_eq_true rfl) (tq_0 hG) rfl (VM_X6_isEvent G μ hG a1 _ y2) ?_
  obtain ⟨x3, y4, h⟩ := bi_o h
  have z7 := VM_X6_needThere G hG (b2i x1) μ _ y4
  rcases tx_o h with ⟨v5, q8, h⟩ | ⟨E, q8, h⟩
  · rw [q8] at z7
    generalize x3.2 = m6 at h z7
    refine V_callV (as := [.int (b2i x1)]) (q := 0) (rest := []) dX6_event_6 ov_mX6_needThere lk_RX6_71 (by decide) (by decide) rfl rfl (Nat.le_of_ble_eq_true rfl) (tq_0 hG) rfl (z7) ?_
    refine V_aload_n dX6_event_9 rfl ?_
    refine V_iload_n dX6_event_10 rfl ?_
    refine V_iconst (v := 0) dX6_event_11 rfl ?_
    refine V_iconst (v := 1) dX6_event_12 rfl ?_
    obtain ⟨x9, y10, h⟩ := bi_o h
    refine V_callS (as := [.int a2, .int 0, .int 1]) (rest := [.ref 0]) dX6_event_13 os_mX6_isWithin rfl lk_RX6_42 (by decide) (by decide) rfl rfl (Nat.le_of_ble_eq_true rfl) (VM_X6_isWithin G m6 hG a2 0 1 _ y10) ?_
    obtain ⟨x11, y12, h⟩ := bi_o h
    have z15 := VM_X6_needRight G hG (b2i x9) m6 _ y12
    rcases tx_o h with ⟨v13, q16, h⟩ | ⟨E, q16, h⟩
    · rw [q16] at z15
      generalize x11.2 = m14 at h z15
      refine V_callV (as := [.int (b2i x9)]) (q := 0) (rest := []) dX6_event_16 ov_mX6_needRight lk_RX6_47 (by decide) (by decide) rfl rfl (Nat.le_of_ble_eq_true rfl) (tq_0 hG) rfl (z15) ?_
      refine V_aload_n dX6_event_19 rfl ?_
      refine V_getR (kf := 0) k_X6 (by decide) lk_RX6_12 rfl dX6_event_20 (tq_0 hG) rfl ?_
      refine V_iload_n dX6_event_23 rfl ?_
      refine V_iload_n dX6_event_24 rfl ?_
      obtain ⟨x17, y18, h⟩ := bi_o h
      refine V_callV (as := [.int a1, .int a2]) (q := 1) (rest := []) dX6_event_25 ov_mX2_read lk_RX6_146 (by decide) (by decide) rfl rfl (Nat.le_of_ble_eq_true rfl) (tq_1 hG) rfl (VM_X2_read G m14 hG a1 a2 _ y18) ?_
      cases h
      exact V_iret rfl dX6_event_28
    · rw [q16] at z15
      cases h
      exact V_callVX (as := [.int (b2i x9)]) (q := 0) (rest := []) dX6_event_16 rfl ov_mX6_needRight lk_RX6_47 (by decide) (by decide) rfl rfl (Nat.le_of_ble_eq_true rfl) (tq_0 hG) rfl (z15)
  · rw [q8] at z7
    cases h
    exact V_callVX (as := [.int (b2i x1)]) (q := 0) (rest := []) dX6_event_6 rfl ov_mX6_needThere lk_RX6_71 (by decide) (by decide) rfl rfl (Nat.le_of_ble_eq_true rfl) (tq_0 hG) rfl (z7)
theorem VM_X6_event (G : GX)  (hG : gt G = tbl) (a1 : Int32) (a2 : Int32) (μ : Mem) (r : ((Int32 ⊕ String) × Mem)) (h : D_X6_event_0  a1 a2 μ = some r) : VM G mX6_event [.ref 0, .int a1, .int a2] μ (ouI r.1) (r.2) := V_entry ok_mX6_event rfl rfl (Nat.le_of_ble_eq_true rfl) (T_X6_event_0 G hG a1 a2 μ r h)
def D_X6_layer_0 (fu : Nat)  (a1 : Int32) (a2 : Int32) (μ : Mem) : Option ((Int64 ⊕ String) × Mem) :=
  (D_X6_isLayer_0 μ a1).bind fun x1 =>
  (D_X6_needThere_0 (b2i x1) μ).bind fun x3 =>
  tx x3 fun v5 m6 =>
  (D_X6_isWithin_0 m6 a2 0 10).bind fun x9 =>
  (D_X6_needRight_0 (b2i x9) m6).bind fun x11 =>
  tx x11 fun v13 m14 =>
  if a2 = 0 then
    gu (ib a1 40) <|
    some (.inl ((m14.1 5 (Int32.toNatClampNeg a1) : Int32).toInt64), m14)
  else
  if a2 = 1 then
    gu (ib a1 40) <|
    some (.inl ((m14.1 6 (Int32.toNatClampNeg a1) : Int32).toInt64), m14)
  else
  if a2 = 2 then
    gu (ib a1 40) <|
    some (.inl ((m14.1 7 (Int32.toNatClampNeg a1) : Int32).toInt64), m14)
  else
  if a2 = 3 then
    gu (ib a1 40) <|
    some (.inl ((m14.1 8 (Int32.toNatClampNeg a1) : Int32).toInt64), m14)
  else
  if a2 = 4 then
    gu (ib a1 40) <|
    some (.inl (m14.2.1 9 (Int32.toNatClampNeg a1)), m14)
  else
  if a2 = 5 then
    (D_X5_leftOf_0 m14 4 a1).bind fun x22 =>
    some (.inl x22, m14)
  else
  if a2 = 6 then
    gu (ib a1 40) <|
    (D_X5_standOf_0 fu m14 4 a1).bind fun x25 =>
    (D_X5_widthBelow_0 m14 4 (m14.1 5 (Int32.toNatClampNeg a1)) x25).bind fun x27 =>
    some (.inl ((x27 : Int32).toInt64), m14)
  else
  if a2 = 7 then
    gu (ib a1 40) <|
    some (.inl ((m14.1 10 (Int32.toNatClampNeg a1) : Int32).toInt64), m14)
  else
  if a2 = 8 then
    gu (ib a1 40) <|
    some (.inl ((10 - (m14.1 11 (Int32.toNatClampNeg a1)) : Int32).toInt64), m14)
  else
  if a2 = 9 then
    (D_X5_standOf_0 fu m14 4 a1).bind fun x31 =>
    some (.inl ((x31 : Int32).toInt64), m14)
  else
    (D_X5_isUsedUp_0 m14 4 a1).bind fun x33 =>
    if x33 = true then
      some (.inl 1, m14)
    else
      some (.inl 0, m14)
set_option maxRecDepth 20000 in
theorem T_X6_layer_0 (G : GX) (fu : Nat)  (hG : gt G = tbl) : ∀ (a1 : Int32) (a2 : Int32) (μ : Mem) (r : ((Int64 ⊕ String) × Mem)) , D_X6_layer_0 fu a1 a2 μ = some r → V G mX6_layer 0 [some (.ref 0), some (.int a1), some (.int a2), none] [] μ (ouL r.1) (r.2) := by
  intro a1 a2 μ r h
  unfold D_X6_layer_0 at h
  refine V_aload_n dX6_layer_0 rfl ?_
  refine V_aload_n dX6_layer_1 rfl ?_
  refine V_iload_n dX6_layer_2 rfl ?_
  obtain ⟨x1, y2, h⟩ := bi_o h
  refine V_callV (as := [.int a1]) (q := 0) (rest := [.ref 0]) dX6_layer_3 ov_mX6_isLayer lk_RX6_68 (by decide) (by decide) rfl rfl (Nat.le_of_ble_eq_true rfl) (tq_0 hG) rfl (VM_X6_isLayer G μ hG a1 _ y2) ?_
  obtain ⟨x3, y4, h⟩ := bi_o h
  have z7 := VM_X6_needThere G hG (b2i x1) μ _ y4
  rcases tx_o h with ⟨v5, q8, h⟩ | ⟨E, q8, h⟩
  · rw [q8] at z7
    generalize x3.2 = m6 at h z7
    refine V_callV (as := [.int (b2i x1)]) (q := 0) (rest := []) dX6_layer_6 ov_mX6_needThere lk_RX6_71 (by decide) (by decide) rfl rfl (Nat.le_of_ble_eq_true rfl) (tq_0 hG) rfl (z7) ?_
    refine V_aload_n dX6_layer_9 rfl ?_
    refine V_iload_n dX6_layer_10 rfl ?_
    refine V_iconst (v := 0) dX6_layer_11 rfl ?_
    refine V_bipush (v := 10) dX6_layer_12 rfl ?_
    obtain ⟨x9, y10, h⟩ := bi_o h
    refine V_callS (as := [.int a2, .int 0, .int 10]) (rest := [.ref 0]) dX6_layer_14 os_mX6_isWithin rfl lk_RX6_42 (by decide) (by decide) rfl rfl (Nat.le_of_ble_eq_true rfl) (VM_X6_isWithin G m6 hG a2 0 10 _ y10) ?_
    obtain ⟨x11, y12, h⟩ := bi_o h
    have z15 := VM_X6_needRight G hG (b2i x9) m6 _ y12
    rcases tx_o h with ⟨v13, q16, h⟩ | ⟨E, q16, h⟩
    · rw [q16] at z15
      generalize x11.2 = m14 at h z15
      refine V_callV (as := [.int (b2i x9)]) (q := 0) (rest := []) dX6_layer_17 ov_mX6_needRight lk_RX6_47 (by decide) (by decide) rfl rfl (Nat.le_of_ble_eq_true rfl) (tq_0 hG) rfl (z15) ?_
      refine V_aload_n dX6_layer_20 rfl ?_
      refine V_getR (kf := 1) k_X6 (by decide) lk_RX6_19 rfl dX6_layer_21 (tq_0 hG) rfl ?_
      refine V_getR (kf := 0) k_X0 (by decide) lk_RX6_51 rfl dX6_layer_24 (tq_3 hG) rfl ?_
      refine V_astore_n (lv2 := [some (.ref 0), some (.int a1), some (.int a2), some (.ref 4)]) dX6_layer_27 (by decide) rfl ?_
      refine V_iload_n dX6_layer_28 rfl ?_
      by_cases c29_0 : a2 = 0
      · rw [if_pos c29_0] at h
        have qc29_0 : (a2 : Int32).toInt = 0 := by rw [c29_0]; decide
        refine V_tabIn (tgt := 84) dX6_layer_29 (by rw [qc29_0]; decide) (by rw [qc29_0]; decide) (by rw [qc29_0]; rfl) (by decide) ?_
        refine V_aload_n dX6_layer_84 rfl ?_
        refine V_getR (kf := 0) k_X5 (by decide) lk_RX6_150 rfl dX6_layer_85 (tq_4 hG) rfl ?_
        refine V_iload_n dX6_layer_88 rfl ?_
        obtain ⟨g17, h⟩ := gu_o h
        refine V_iaload dX6_layer_89 (tq_5 hG) (ib_in g17) ?_
        refine V_i2l dX6_layer_90 ?_
        cases h
        exact V_lret rfl dX6_layer_91
      · rw [if_neg c29_0] at h
        by_cases c29_1 : a2 = 1
        · rw [if_pos c29_1] at h
          have qc29_1 : (a2 : Int32).toInt = 1 := by rw [c29_1]; decide
          refine V_tabIn (tgt := 92) dX6_layer_29 (by rw [qc29_1]; decide) (by rw [qc29_1]; decide) (by rw [qc29_1]; rfl) (by decide) ?_
          refine V_aload_n dX6_layer_92 rfl ?_
          refine V_getR (kf := 1) k_X5 (by decide) lk_RX6_153 rfl dX6_layer_93 (tq_4 hG) rfl ?_
          refine V_iload_n dX6_layer_96 rfl ?_
          obtain ⟨g18, h⟩ := gu_o h
          refine V_iaload dX6_layer_97 (tq_6 hG) (ib_in g18) ?_
          refine V_i2l dX6_layer_98 ?_
          cases h
          exact V_lret rfl dX6_layer_99
        · rw [if_neg c29_1] at h
          by_cases c29_2 : a2 = 2
          · rw [if_pos c29_2] at h
            have qc29_2 : (a2 : Int32).toInt = 2 := by rw [c29_2]; decide
            refine V_tabIn (tgt := 100) dX6_layer_29 (by rw [qc29_2]; decide) (by rw [qc29_2]; decide) (by rw [qc29_2]; rfl) (by decide) ?_
            refine V_aload_n dX6_layer_100 rfl ?_
            refine V_getR (kf := 2) k_X5 (by decide) lk_RX6_156 rfl dX6_layer_101 (tq_4 hG) rfl ?_
            refine V_iload_n dX6_layer_104 rfl ?_
            obtain ⟨g19, h⟩ := gu_o h
            refine V_iaload dX6_layer_105 (tq_7 hG) (ib_in g19) ?_
            refine V_i2l dX6_layer_106 ?_
            cases h
            exact V_lret rfl dX6_layer_107
          · rw [if_neg c29_2] at h
            by_cases c29_3 : a2 = 3
            · rw [if_pos c29_3] at h
              have qc29_3 : (a2 : Int32).toInt = 3 := by rw [c29_3]; decide
              refine V_tabIn (tgt := 108) dX6_layer_29 (by rw [qc29_3]; decide) (by rw [qc29_3]; decide) (by rw [qc29_3]; rfl) (by decide) ?_
              refine V_aload_n dX6_layer_108 rfl ?_
              refine V_getR (kf := 3) k_X5 (by decide) lk_RX6_159 rfl dX6_layer_109 (tq_4 hG) rfl ?_
              refine V_iload_n dX6_layer_112 rfl ?_
              obtain ⟨g20, h⟩ := gu_o h
              refine V_iaload dX6_layer_113 (tq_8 hG) (ib_in g20) ?_
              refine V_i2l dX6_layer_114 ?_
              cases h
              exact V_lret rfl dX6_layer_115
            · rw [if_neg c29_3] at h
              by_cases c29_4 : a2 = 4
              · rw [if_pos c29_4] at h
                have qc29_4 : (a2 : Int32).toInt = 4 := by rw [c29_4]; decide
                refine V_tabIn (tgt := 116) dX6_layer_29 (by rw [qc29_4]; decide) (by rw [qc29_4]; decide) (by rw [qc29_4]; rfl) (by decide) ?_
                refine V_aload_n dX6_layer_116 rfl ?_
                refine V_getR (kf := 4) k_X5 (by decide) lk_RX6_162 rfl dX6_layer_117 (tq_4 hG) rfl ?_
                refine V_iload_n dX6_layer_120 rfl ?_
                obtain ⟨g21, h⟩ := gu_o h
                refine V_laload dX6_layer_121 (tq_9 hG) (ib_in g21) ?_
                cases h
                exact V_lret rfl dX6_layer_122
              · rw [if_neg c29_4] at h
                by_cases c29_5 : a2 = 5
                · rw [if_pos c29_5] at h
                  have qc29_5 : (a2 : Int32).toInt = 5 := by rw [c29_5]; decide
                  refine V_tabIn (tgt := 123) dX6_layer_29 (by rw [qc29_5]; decide) (by rw [qc29_5]; decide) (by rw [qc29_5]; rfl) (by decide) ?_
                  refine V_aload_n dX6_layer_123 rfl ?_
                  refine V_iload_n dX6_layer_124 rfl ?_
                  obtain ⟨x22, y23, h⟩ := bi_o h
                  refine V_callV (as := [.int a1]) (q := 4) (rest := []) dX6_layer_125 ov_mX5_leftOf lk_RX6_166 (by decide) (by decide) rfl rfl (Nat.le_of_ble_eq_true rfl) (tq_4 hG) rfl (VM_X5_leftOf G m14 4 hG (Or.inl rfl) a1 _ y23) ?_
                  cases h
                  exact V_lret rfl dX6_layer_128
                · rw [if_neg c29_5] at h
                  by_cases c29_6 : a2 = 6
                  · rw [if_pos c29_6] at h
                    have qc29_6 : (a2 : Int32).toInt = 6 := by rw [c29_6]; decide
                    refine V_tabIn (tgt := 129) dX6_layer_29 (by rw [qc29_6]; decide) (by rw [qc29_6]; decide) (by rw [qc29_6]; rfl) (by decide) ?_
                    refine V_aload_n dX6_layer_129 rfl ?_
                    refine V_aload_n dX6_layer_130 rfl ?_
                    refine V_getR (kf := 0) k_X5 (by decide) lk_RX6_150 rfl dX6_layer_131 (tq_4 hG) rfl ?_
                    refine V_iload_n dX6_layer_134 rfl ?_
                    obtain ⟨g24, h⟩ := gu_o h
                    refine V_iaload dX6_layer_135 (tq_5 hG) (ib_in g24) ?_
                    refine V_aload_n dX6_layer_136 rfl ?_
                    refine V_iload_n dX6_layer_137 rfl ?_
                    obtain ⟨x25, y26, h⟩ := bi_o h
                    refine V_callV (as := [.int a1]) (q := 4) (rest := [.int (m14.1 5 (Int32.toNatClampNeg a1)), .ref 4]) dX6_layer_138 ov_mX5_standOf lk_RX6_170 (by decide) (by decide) rfl rfl (Nat.le_of_ble_eq_true rfl) (tq_4 hG) rfl (VM_X5_standOf G fu m14 4 hG (Or.inl rfl) a1 _ y26) ?_
                    obtain ⟨x27, y28, h⟩ := bi_o h
                    refine V_callV (as := [.int (m14.1 5 (Int32.toNatClampNeg a1)), .int x25]) (q := 4) (rest := []) dX6_layer_141 ov_mX5_widthBelow lk_RX6_173 (by decide) (by decide) rfl rfl (Nat.le_of_ble_eq_true rfl) (tq_4 hG) rfl (VM_X5_widthBelow G m14 4 hG (Or.inl rfl) (m14.1 5 (Int32.toNatClampNeg a1)) x25 _ y28) ?_
                    refine V_i2l dX6_layer_144 ?_
                    cases h
                    exact V_lret rfl dX6_layer_145
                  · rw [if_neg c29_6] at h
                    by_cases c29_7 : a2 = 7
                    · rw [if_pos c29_7] at h
                      have qc29_7 : (a2 : Int32).toInt = 7 := by rw [c29_7]; decide
                      refine V_tabIn (tgt := 146) dX6_layer_29 (by rw [qc29_7]; decide) (by rw [qc29_7]; decide) (by rw [qc29_7]; rfl) (by decide) ?_
                      refine V_aload_n dX6_layer_146 rfl ?_
                      refine V_getR (kf := 5) k_X5 (by decide) lk_RX6_176 rfl dX6_layer_147 (tq_4 hG) rfl ?_
                      refine V_iload_n dX6_layer_150 rfl ?_
                      obtain ⟨g29, h⟩ := gu_o h
                      refine V_iaload dX6_layer_151 (tq_10 hG) (ib_in g29) ?_
                      refine V_i2l dX6_layer_152 ?_
                      cases h
                      exact V_lret rfl dX6_layer_153
                    · rw [if_neg c29_7] at h
                      by_cases c29_8 : a2 = 8
                      · rw [if_pos c29_8] at h
                        have qc29_8 : (a2 : Int32).toInt = 8 := by rw [c29_8]; decide
                        refine V_tabIn (tgt := 154) dX6_layer_29 (by rw [qc29_8]; decide) (by rw [qc29_8]; decide) (by rw [qc29_8]; rfl) (by decide) ?_
                        refine V_bipush (v := 10) dX6_layer_154 rfl ?_
                        refine V_aload_n dX6_layer_156 rfl ?_
                        refine V_getR (kf := 6) k_X5 (by decide) lk_RX6_77 rfl dX6_layer_157 (tq_4 hG) rfl ?_
                        refine V_iload_n dX6_layer_160 rfl ?_
                        obtain ⟨g30, h⟩ := gu_o h
                        refine V_iaload dX6_layer_161 (tq_11 hG) (ib_in g30) ?_
                        refine V_isub dX6_layer_162 ?_
                        refine V_i2l dX6_layer_163 ?_
                        cases h
                        exact V_lret rfl dX6_layer_164
                      · rw [if_neg c29_8] at h
                        by_cases c29_9 : a2 = 9
                        · rw [if_pos c29_9] at h
                          have qc29_9 : (a2 : Int32).toInt = 9 := by rw [c29_9]; decide
                          refine V_tabIn (tgt := 165) dX6_layer_29 (by rw [qc29_9]; decide) (by rw [qc29_9]; decide) (by rw [qc29_9]; rfl) (by decide) ?_
                          refine V_aload_n dX6_layer_165 rfl ?_
                          refine V_iload_n dX6_layer_166 rfl ?_
                          obtain ⟨x31, y32, h⟩ := bi_o h
                          refine V_callV (as := [.int a1]) (q := 4) (rest := []) dX6_layer_167 ov_mX5_standOf lk_RX6_170 (by decide) (by decide) rfl rfl (Nat.le_of_ble_eq_true rfl) (tq_4 hG) rfl (VM_X5_standOf G fu m14 4 hG (Or.inl rfl) a1 _ y32) ?_
                          refine V_i2l dX6_layer_170 ?_
                          cases h
                          exact V_lret rfl dX6_layer_171
                        · rw [if_neg c29_9] at h
                          refine V_tabOut (tgt := 172) dX6_layer_29 (tab_out 10 9 (by decide) (fun j hj => ?_)) (by decide) ?_
                          · match j, hj with
                            | 0, _ => exact fun z => c29_0 (Int32.toInt_inj.mp (by rw [z]; decide))
                            | 1, _ => exact fun z => c29_1 (Int32.toInt_inj.mp (by rw [z]; decide))
                            | 2, _ => exact fun z => c29_2 (Int32.toInt_inj.mp (by rw [z]; decide))
                            | 3, _ => exact fun z => c29_3 (Int32.toInt_inj.mp (by rw [z]; decide))
                            | 4, _ => exact fun z => c29_4 (Int32.toInt_inj.mp (by rw [z]; decide))
                            | 5, _ => exact fun z => c29_5 (Int32.toInt_inj.mp (by rw [z]; decide))
                            | 6, _ => exact fun z => c29_6 (Int32.toInt_inj.mp (by rw [z]; decide))
                            | 7, _ => exact fun z => c29_7 (Int32.toInt_inj.mp (by rw [z]; decide))
                            | 8, _ => exact fun z => c29_8 (Int32.toInt_inj.mp (by rw [z]; decide))
                            | 9, _ => exact fun z => c29_9 (Int32.toInt_inj.mp (by rw [z]; decide))
                            | j + 10, hj => exact absurd hj (by omega)
                          refine V_aload_n dX6_layer_172 rfl ?_
                          refine V_iload_n dX6_layer_173 rfl ?_
                          obtain ⟨x33, y34, h⟩ := bi_o h
                          refine V_callV (as := [.int a1]) (q := 4) (rest := []) dX6_layer_174 ov_mX5_isUsedUp lk_RX6_179 (by decide) (by decide) rfl rfl (Nat.le_of_ble_eq_true rfl) (tq_4 hG) rfl (VM_X5_isUsedUp G m14 4 hG (Or.inl rfl) a1 _ y34) ?_
                          by_cases c177 : x33 = true
                          · rw [if_pos c177] at h
                            refine V_ifeq_f (tgt := 184) dX6_layer_177 (by decide) (b2i_t.mp c177) ?_
                            refine V_lconst (v := 1) dX6_layer_180 rfl ?_
                            refine V_goto (tgt := 185) dX6_layer_181 (by decide) ?_
                            cases h
                            exact V_lret rfl dX6_layer_185
                          · rw [if_neg c177] at h
                            refine V_ifeq_t (tgt := 184) dX6_layer_177 (by decide) (b2i_f.mp c177) ?_
                            refine V_lconst (v := 0) dX6_layer_184 rfl ?_
                            cases h
                            exact V_lret rfl dX6_layer_185
    · rw [q16] at z15
      cases h
      exact V_callVX (as := [.int (b2i x9)]) (q := 0) (rest := []) dX6_layer_17 rfl ov_mX6_needRight lk_RX6_47 (by decide) (by decide) rfl rfl (Nat.le_of_ble_eq_true rfl) (tq_0 hG) rfl (z15)
  · rw [q8] at z7
    cases h
    exact V_callVX (as := [.int (b2i x1)]) (q := 0) (rest := []) dX6_layer_6 rfl ov_mX6_needThere lk_RX6_71 (by decide) (by decide) rfl rfl (Nat.le_of_ble_eq_true rfl) (tq_0 hG) rfl (z7)
theorem VM_X6_layer (G : GX) (fu : Nat)  (hG : gt G = tbl) (a1 : Int32) (a2 : Int32) (μ : Mem) (r : ((Int64 ⊕ String) × Mem)) (h : D_X6_layer_0 fu a1 a2 μ = some r) : VM G mX6_layer [.ref 0, .int a1, .int a2] μ (ouL r.1) (r.2) := V_entry ok_mX6_layer rfl rfl (Nat.le_of_ble_eq_true rfl) (T_X6_layer_0 G fu hG a1 a2 μ r h)
def D_X6_signed_28  (v1 : Int32) (v2 : Int32) (v3 : Int32) (s1 : Int32) (μ : Mem) : Option ((Int64 ⊕ String) × Mem) :=
  (D_X6_needRight_0 s1 μ).bind fun x9 =>
  tx x9 fun v11 m12 =>
  gu (ib v1 40) <|
  if v2 < (m12.1 10 (Int32.toNatClampNeg v1)) then
    if v3 = 0 then
      gu (ib ((v1 * 4) + v2) 160) <|
      some (.inl ((m12.1 12 (Int32.toNatClampNeg ((v1 * 4) + v2)) : Int32).toInt64), m12)
    else
    if v3 = 1 then
      gu (ib ((v1 * 4) + v2) 160) <|
      some (.inl ((m12.1 13 (Int32.toNatClampNeg ((v1 * 4) + v2)) : Int32).toInt64), m12)
    else
      gu (ib ((v1 * 4) + v2) 160) <|
      some (.inl (m12.2.1 14 (Int32.toNatClampNeg ((v1 * 4) + v2))), m12)
  else
    some (.inl (-1), m12)
set_option maxRecDepth 20000 in
theorem T_X6_signed_28 (G : GX)  (hG : gt G = tbl) : ∀ (v1 : Int32) (v2 : Int32) (v3 : Int32) (s1 : Int32) (μ : Mem) (r : ((Int64 ⊕ String) × Mem)) , D_X6_signed_28  v1 v2 v3 s1 μ = some r → V G mX6_signed 28 [some (.ref 0), some (.int v1), some (.int v2), some (.int v3), none, none] [.int s1, .ref 0] μ (ouL r.1) (r.2) := by
  intro v1 v2 v3 s1 μ r h
  unfold D_X6_signed_28 at h
  obtain ⟨x9, y10, h⟩ := bi_o h
  have z13 := VM_X6_needRight G hG s1 μ _ y10
  rcases tx_o h with ⟨v11, q14, h⟩ | ⟨E, q14, h⟩
  · rw [q14] at z13
    generalize x9.2 = m12 at h z13
    refine V_callV (as := [.int s1]) (q := 0) (rest := []) dX6_signed_28 ov_mX6_needRight lk_RX6_47 (by decide) (by decide) rfl rfl (Nat.le_of_ble_eq_true rfl) (tq_0 hG) rfl (z13) ?_
    refine V_aload_n dX6_signed_31 rfl ?_
    refine V_getR (kf := 1) k_X6 (by decide) lk_RX6_19 rfl dX6_signed_32 (tq_0 hG) rfl ?_
    refine V_getR (kf := 0) k_X0 (by decide) lk_RX6_51 rfl dX6_signed_35 (tq_3 hG) rfl ?_
    refine V_astore (lv2 := [some (.ref 0), some (.int v1), some (.int v2), some (.int v3), some (.ref 4), none]) dX6_signed_38 (by decide) rfl ?_
    refine V_iload_n dX6_signed_40 rfl ?_
    refine V_aload dX6_signed_41 rfl ?_
    refine V_getR (kf := 5) k_X5 (by decide) lk_RX6_176 rfl dX6_signed_43 (tq_4 hG) rfl ?_
    refine V_iload_n dX6_signed_46 rfl ?_
    obtain ⟨g15, h⟩ := gu_o h
    refine V_iaload dX6_signed_47 (tq_10 hG) (ib_in g15) ?_
    by_cases c48 : v2 < (m12.1 10 (Int32.toNatClampNeg v1))
    · rw [if_pos c48] at h
      refine V_icmplt_t (tgt := 55) dX6_signed_48 (by decide) c48 ?_
      refine V_iload_n dX6_signed_55 rfl ?_
      refine V_iconst (v := 4) dX6_signed_56 rfl ?_
      refine V_imul dX6_signed_57 ?_
      refine V_iload_n dX6_signed_58 rfl ?_
      refine V_iadd dX6_signed_59 ?_
      refine V_istore (lv2 := [some (.ref 0), some (.int v1), some (.int v2), some (.int v3), some (.ref 4), some (.int ((v1 * 4) + v2))]) dX6_signed_60 (by decide) rfl ?_
      refine V_iload_n dX6_signed_62 rfl ?_
      by_cases c63_0 : v3 = 0
      · rw [if_pos c63_0] at h
        have qc63_0 : (v3 : Int32).toInt = 0 := by rw [c63_0]; decide
        refine V_look (tgt := 88) (off := 25) dX6_signed_63 (by decide) (by rw [qc63_0]; decide) (by decide) ?_
        refine V_aload dX6_signed_88 rfl ?_
        refine V_getR (kf := 7) k_X5 (by decide) lk_RX6_184 rfl dX6_signed_90 (tq_4 hG) rfl ?_
        refine V_iload dX6_signed_93 rfl ?_
        obtain ⟨g16, h⟩ := gu_o h
        refine V_iaload dX6_signed_95 (tq_12 hG) (ib_in g16) ?_
        refine V_i2l dX6_signed_96 ?_
        cases h
        exact V_lret rfl dX6_signed_97
      · rw [if_neg c63_0] at h
        by_cases c63_1 : v3 = 1
        · rw [if_pos c63_1] at h
          have qc63_1 : (v3 : Int32).toInt = 1 := by rw [c63_1]; decide
          refine V_look (tgt := 98) (off := 35) dX6_signed_63 (by decide) (by rw [qc63_1]; decide) (by decide) ?_
          refine V_aload dX6_signed_98 rfl ?_
          refine V_getR (kf := 8) k_X5 (by decide) lk_RX6_187 rfl dX6_signed_100 (tq_4 hG) rfl ?_
          refine V_iload dX6_signed_103 rfl ?_
          obtain ⟨g17, h⟩ := gu_o h
          refine V_iaload dX6_signed_105 (tq_13 hG) (ib_in g17) ?_
          refine V_i2l dX6_signed_106 ?_
          cases h
          exact V_lret rfl dX6_signed_107
        · rw [if_neg c63_1] at h
          refine V_look (tgt := 108) dX6_signed_63 (by decide) (show Op.lookupswitch.offset [(0, 25), (1, 35)] 45 _ = 45 by rw [Op.lookupswitch.offset_cons, if_neg (fun z => c63_0 (Int32.toInt_inj.mp (z.symm.trans (by decide)))), Op.lookupswitch.offset_cons, if_neg (fun z => c63_1 (Int32.toInt_inj.mp (z.symm.trans (by decide)))), Op.lookupswitch.offset_nil]) (by decide) ?_
          refine V_aload dX6_signed_108 rfl ?_
          refine V_getR (kf := 9) k_X5 (by decide) lk_RX6_190 rfl dX6_signed_110 (tq_4 hG) rfl ?_
          refine V_iload dX6_signed_113 rfl ?_
          obtain ⟨g18, h⟩ := gu_o h
          refine V_laload dX6_signed_115 (tq_14 hG) (ib_in g18) ?_
          cases h
          exact V_lret rfl dX6_signed_116
    · rw [if_neg c48] at h
      refine V_icmplt_f (tgt := 55) dX6_signed_48 (by decide) c48 ?_
      refine V_ldc2 (v := (-1)) dX6_signed_51 lk_RX6_182 ?_
      cases h
      exact V_lret rfl dX6_signed_54
  · rw [q14] at z13
    cases h
    exact V_callVX (as := [.int s1]) (q := 0) (rest := []) dX6_signed_28 rfl ov_mX6_needRight lk_RX6_47 (by decide) (by decide) rfl rfl (Nat.le_of_ble_eq_true rfl) (tq_0 hG) rfl (z13)
def D_X6_signed_27  (v1 : Int32) (v2 : Int32) (v3 : Int32) (μ : Mem) : Option ((Int64 ⊕ String) × Mem) :=
  D_X6_signed_28 v1 v2 v3 0 μ
set_option maxRecDepth 20000 in
theorem T_X6_signed_27 (G : GX)  (hG : gt G = tbl) : ∀ (v1 : Int32) (v2 : Int32) (v3 : Int32) (μ : Mem) (r : ((Int64 ⊕ String) × Mem)) , D_X6_signed_27  v1 v2 v3 μ = some r → V G mX6_signed 27 [some (.ref 0), some (.int v1), some (.int v2), some (.int v3), none, none] [.ref 0] μ (ouL r.1) (r.2) := by
  intro v1 v2 v3 μ r h
  unfold D_X6_signed_27 at h
  refine V_iconst (v := 0) dX6_signed_27 rfl ?_
  exact V_wk [true, true, true, true, false, false] rfl (T_X6_signed_28 G hG _ _ _ _ _ _ h)
def D_X6_signed_0  (a1 : Int32) (a2 : Int32) (a3 : Int32) (μ : Mem) : Option ((Int64 ⊕ String) × Mem) :=
  (D_X6_isLayer_0 μ a1).bind fun x1 =>
  (D_X6_needThere_0 (b2i x1) μ).bind fun x3 =>
  tx x3 fun v5 m6 =>
  if a2 < 0 then
    D_X6_signed_27 a1 a2 a3 m6
  else
    (D_X6_isWithin_0 m6 a3 0 2).bind fun x19 =>
    if x19 = true then
      D_X6_signed_28 a1 a2 a3 1 m6
    else
      D_X6_signed_27 a1 a2 a3 m6
set_option maxRecDepth 20000 in
theorem T_X6_signed_0 (G : GX)  (hG : gt G = tbl) : ∀ (a1 : Int32) (a2 : Int32) (a3 : Int32) (μ : Mem) (r : ((Int64 ⊕ String) × Mem)) , D_X6_signed_0  a1 a2 a3 μ = some r → V G mX6_signed 0 [some (.ref 0), some (.int a1), some (.int a2), some (.int a3), none, none] [] μ (ouL r.1) (r.2) := by
  intro a1 a2 a3 μ r h
  unfold D_X6_signed_0 at h
  refine V_aload_n dX6_signed_0 rfl ?_
  refine V_aload_n dX6_signed_1 rfl ?_
  refine V_iload_n dX6_signed_2 rfl ?_
  obtain ⟨x1, y2, h⟩ := bi_o h
  refine V_callV (as := [.int a1]) (q := 0) (rest := [.ref 0]) dX6_signed_3 ov_mX6_isLayer lk_RX6_68 (by decide) (by decide) rfl rfl (Nat.le_of_ble_eq_true rfl) (tq_0 hG) rfl (VM_X6_isLayer G μ hG a1 _ y2) ?_
  obtain ⟨x3, y4, h⟩ := bi_o h
  have z7 := VM_X6_needThere G hG (b2i x1) μ _ y4
  rcases tx_o h with ⟨v5, q8, h⟩ | ⟨E, q8, h⟩
  · rw [q8] at z7
    generalize x3.2 = m6 at h z7
    refine V_callV (as := [.int (b2i x1)]) (q := 0) (rest := []) dX6_signed_6 ov_mX6_needThere lk_RX6_71 (by decide) (by decide) rfl rfl (Nat.le_of_ble_eq_true rfl) (tq_0 hG) rfl (z7) ?_
    refine V_aload_n dX6_signed_9 rfl ?_
    refine V_iload_n dX6_signed_10 rfl ?_
    by_cases c11 : a2 < 0
    · rw [if_pos c11] at h
      refine V_iflt_t (tgt := 27) dX6_signed_11 (by decide) c11 ?_
      exact V_wk [true, true, true, true, false, false] rfl (T_X6_signed_27 G hG _ _ _ _ _ h)
    · rw [if_neg c11] at h
      refine V_iflt_f (tgt := 27) dX6_signed_11 (by decide) c11 ?_
      refine V_iload_n dX6_signed_14 rfl ?_
      refine V_iconst (v := 0) dX6_signed_15 rfl ?_
      refine V_iconst (v := 2) dX6_signed_16 rfl ?_
      obtain ⟨x19, y20, h⟩ := bi_o h
      refine V_callS (as := [.int a3, .int 0, .int 2]) (rest := [.ref 0]) dX6_signed_17 os_mX6_isWithin rfl lk_RX6_42 (by decide) (by decide) rfl rfl (Nat.le_of_ble_eq_true rfl) (VM_X6_isWithin G m6 hG a3 0 2 _ y20) ?_
      by_cases c20 : x19 = true
      · rw [if_pos c20] at h
        refine V_ifeq_f (tgt := 27) dX6_signed_20 (by decide) (b2i_t.mp c20) ?_
        refine V_iconst (v := 1) dX6_signed_23 rfl ?_
        refine V_goto (tgt := 28) dX6_signed_24 (by decide) ?_
        exact V_wk [true, true, true, true, false, false] rfl (T_X6_signed_28 G hG _ _ _ _ _ _ h)
      · rw [if_neg c20] at h
        refine V_ifeq_t (tgt := 27) dX6_signed_20 (by decide) (b2i_f.mp c20) ?_
        exact V_wk [true, true, true, true, false, false] rfl (T_X6_signed_27 G hG _ _ _ _ _ h)
  · rw [q8] at z7
    cases h
    exact V_callVX (as := [.int (b2i x1)]) (q := 0) (rest := []) dX6_signed_6 rfl ov_mX6_needThere lk_RX6_71 (by decide) (by decide) rfl rfl (Nat.le_of_ble_eq_true rfl) (tq_0 hG) rfl (z7)
theorem VM_X6_signed (G : GX)  (hG : gt G = tbl) (a1 : Int32) (a2 : Int32) (a3 : Int32) (μ : Mem) (r : ((Int64 ⊕ String) × Mem)) (h : D_X6_signed_0  a1 a2 a3 μ = some r) : VM G mX6_signed [.ref 0, .int a1, .int a2, .int a3] μ (ouL r.1) (r.2) := V_entry ok_mX6_signed rfl rfl (Nat.le_of_ble_eq_true rfl) (T_X6_signed_0 G hG a1 a2 a3 μ r h)
def D_X6_year_23 (fu : Nat)  (v1 : Int32) (v2 : Int32) (s1 : Int32) (μ : Mem) : Option ((Int64 ⊕ String) × Mem) :=
  (D_X6_needRight_0 s1 μ).bind fun x5 =>
  tx x5 fun v7 m8 =>
  gu (ib v1 12) <|
  if v2 = 0 then
    some (.inl ((m8.1 16 (Int32.toNatClampNeg v1) : Int32).toInt64), m8)
  else
  if v2 = 1 then
    if (m8.1 16 (Int32.toNatClampNeg v1)) ≤ 0 then
      some (.inl (-1), m8)
    else
      (D_X5_lowestFrom_0 m8 4 v1).bind fun x12 =>
      some (.inl ((x12 : Int32).toInt64), m8)
  else
  if v2 = 2 then
    if (m8.1 16 (Int32.toNatClampNeg v1)) ≤ 0 then
      some (.inl (-1), m8)
    else
      (D_X5_layerAt_0 m8 4 v1 ((m8.1 16 (Int32.toNatClampNeg v1)) - 1)).bind fun x14 =>
      (D_X5_topOf_0 m8 4 x14).bind fun x16 =>
      some (.inl ((x16 : Int32).toInt64), m8)
  else
  if v2 = 3 then
    (D_X5_sizesIn_0 fu m8 4 v1).bind fun x18 =>
    some (.inl x18, m8)
  else
  if v2 = 4 then
    if (m8.1 16 (Int32.toNatClampNeg v1)) ≤ 0 then
      some (.inl 0, m8)
    else
      (D_X5_layerAt_0 m8 4 v1 ((m8.1 16 (Int32.toNatClampNeg v1)) - 1)).bind fun x20 =>
      (D_X5_topOf_0 m8 4 x20).bind fun x22 =>
      (D_X5_sizesIn_0 fu m8 4 v1).bind fun x24 =>
      some (.inl (((x22 : Int32).toInt64) - x24), m8)
  else
  if v2 = 5 then
    (D_X5_usedIn_0 fu m8 4 v1).bind fun x26 =>
    some (.inl x26, m8)
  else
    (D_X5_leftIn_0 fu m8 4 v1).bind fun x28 =>
    some (.inl x28, m8)
set_option maxRecDepth 20000 in
theorem T_X6_year_23 (G : GX) (fu : Nat)  (hG : gt G = tbl) : ∀ (v1 : Int32) (v2 : Int32) (s1 : Int32) (μ : Mem) (r : ((Int64 ⊕ String) × Mem)) , D_X6_year_23 fu v1 v2 s1 μ = some r → V G mX6_year 23 [some (.ref 0), some (.int v1), some (.int v2), none, none] [.int s1, .ref 0] μ (ouL r.1) (r.2) := by
  intro v1 v2 s1 μ r h
  unfold D_X6_year_23 at h
  obtain ⟨x5, y6, h⟩ := bi_o h
  have z9 := VM_X6_needRight G hG s1 μ _ y6
  rcases tx_o h with ⟨v7, q10, h⟩ | ⟨E, q10, h⟩
  · rw [q10] at z9
    generalize x5.2 = m8 at h z9
    refine V_callV (as := [.int s1]) (q := 0) (rest := []) dX6_year_23 ov_mX6_needRight lk_RX6_47 (by decide) (by decide) rfl rfl (Nat.le_of_ble_eq_true rfl) (tq_0 hG) rfl (z9) ?_
    refine V_aload_n dX6_year_26 rfl ?_
    refine V_getR (kf := 1) k_X6 (by decide) lk_RX6_19 rfl dX6_year_27 (tq_0 hG) rfl ?_
    refine V_getR (kf := 0) k_X0 (by decide) lk_RX6_51 rfl dX6_year_30 (tq_3 hG) rfl ?_
    refine V_astore_n (lv2 := [some (.ref 0), some (.int v1), some (.int v2), some (.ref 4), none]) dX6_year_33 (by decide) rfl ?_
    refine V_aload_n dX6_year_34 rfl ?_
    refine V_getR (kf := 11) k_X5 (by decide) lk_RX6_193 rfl dX6_year_35 (tq_4 hG) rfl ?_
    refine V_iload_n dX6_year_38 rfl ?_
    obtain ⟨g11, h⟩ := gu_o h
    refine V_iaload dX6_year_39 (tq_16 hG) (ib_in g11) ?_
    refine V_istore (lv2 := [some (.ref 0), some (.int v1), some (.int v2), some (.ref 4), some (.int (m8.1 16 (Int32.toNatClampNeg v1)))]) dX6_year_40 (by decide) rfl ?_
    refine V_iload_n dX6_year_42 rfl ?_
    by_cases c43_0 : v2 = 0
    · rw [if_pos c43_0] at h
      have qc43_0 : (v2 : Int32).toInt = 0 := by rw [c43_0]; decide
      refine V_tabIn (tgt := 80) dX6_year_43 (by rw [qc43_0]; decide) (by rw [qc43_0]; decide) (by rw [qc43_0]; rfl) (by decide) ?_
      refine V_iload dX6_year_80 rfl ?_
      refine V_i2l dX6_year_82 ?_
      cases h
      exact V_lret rfl dX6_year_83
    · rw [if_neg c43_0] at h
      by_cases c43_1 : v2 = 1
      · rw [if_pos c43_1] at h
        have qc43_1 : (v2 : Int32).toInt = 1 := by rw [c43_1]; decide
        refine V_tabIn (tgt := 84) dX6_year_43 (by rw [qc43_1]; decide) (by rw [qc43_1]; decide) (by rw [qc43_1]; rfl) (by decide) ?_
        refine V_iload dX6_year_84 rfl ?_
        by_cases c86 : (m8.1 16 (Int32.toNatClampNeg v1)) ≤ 0
        · rw [if_pos c86] at h
          refine V_ifle_t (tgt := 98) dX6_year_86 (by decide) c86 ?_
          refine V_ldc2 (v := (-1)) dX6_year_98 lk_RX6_182 ?_
          cases h
          exact V_lret rfl dX6_year_101
        · rw [if_neg c86] at h
          refine V_ifle_f (tgt := 98) dX6_year_86 (by decide) c86 ?_
          refine V_aload_n dX6_year_89 rfl ?_
          refine V_iload_n dX6_year_90 rfl ?_
          obtain ⟨x12, y13, h⟩ := bi_o h
          refine V_callV (as := [.int v1]) (q := 4) (rest := []) dX6_year_91 ov_mX5_lowestFrom lk_RX6_196 (by decide) (by decide) rfl rfl (Nat.le_of_ble_eq_true rfl) (tq_4 hG) rfl (VM_X5_lowestFrom G m8 4 hG (Or.inl rfl) v1 _ y13) ?_
          refine V_i2l dX6_year_94 ?_
          refine V_goto (tgt := 101) dX6_year_95 (by decide) ?_
          cases h
          exact V_lret rfl dX6_year_101
      · rw [if_neg c43_1] at h
        by_cases c43_2 : v2 = 2
        · rw [if_pos c43_2] at h
          have qc43_2 : (v2 : Int32).toInt = 2 := by rw [c43_2]; decide
          refine V_tabIn (tgt := 102) dX6_year_43 (by rw [qc43_2]; decide) (by rw [qc43_2]; decide) (by rw [qc43_2]; rfl) (by decide) ?_
          refine V_iload dX6_year_102 rfl ?_
          by_cases c104 : (m8.1 16 (Int32.toNatClampNeg v1)) ≤ 0
          · rw [if_pos c104] at h
            refine V_ifle_t (tgt := 124) dX6_year_104 (by decide) c104 ?_
            refine V_ldc2 (v := (-1)) dX6_year_124 lk_RX6_182 ?_
            cases h
            exact V_lret rfl dX6_year_127
          · rw [if_neg c104] at h
            refine V_ifle_f (tgt := 124) dX6_year_104 (by decide) c104 ?_
            refine V_aload_n dX6_year_107 rfl ?_
            refine V_aload_n dX6_year_108 rfl ?_
            refine V_iload_n dX6_year_109 rfl ?_
            refine V_iload dX6_year_110 rfl ?_
            refine V_iconst (v := 1) dX6_year_112 rfl ?_
            refine V_isub dX6_year_113 ?_
            obtain ⟨x14, y15, h⟩ := bi_o h
            refine V_callV (as := [.int v1, .int ((m8.1 16 (Int32.toNatClampNeg v1)) - 1)]) (q := 4) (rest := [.ref 4]) dX6_year_114 ov_mX5_layerAt lk_RX6_199 (by decide) (by decide) rfl rfl (Nat.le_of_ble_eq_true rfl) (tq_4 hG) rfl (VM_X5_layerAt G m8 4 hG (Or.inl rfl) v1 ((m8.1 16 (Int32.toNatClampNeg v1)) - 1) _ y15) ?_
            obtain ⟨x16, y17, h⟩ := bi_o h
            refine V_callV (as := [.int x14]) (q := 4) (rest := []) dX6_year_117 ov_mX5_topOf lk_RX6_202 (by decide) (by decide) rfl rfl (Nat.le_of_ble_eq_true rfl) (tq_4 hG) rfl (VM_X5_topOf G m8 4 hG (Or.inl rfl) x14 _ y17) ?_
            refine V_i2l dX6_year_120 ?_
            refine V_goto (tgt := 127) dX6_year_121 (by decide) ?_
            cases h
            exact V_lret rfl dX6_year_127
        · rw [if_neg c43_2] at h
          by_cases c43_3 : v2 = 3
          · rw [if_pos c43_3] at h
            have qc43_3 : (v2 : Int32).toInt = 3 := by rw [c43_3]; decide
            refine V_tabIn (tgt := 128) dX6_year_43 (by rw [qc43_3]; decide) (by rw [qc43_3]; decide) (by rw [qc43_3]; rfl) (by decide) ?_
            refine V_aload_n dX6_year_128 rfl ?_
            refine V_iload_n dX6_year_129 rfl ?_
            obtain ⟨x18, y19, h⟩ := bi_o h
            refine V_callV (as := [.int v1]) (q := 4) (rest := []) dX6_year_130 ov_mX5_sizesIn lk_RX6_205 (by decide) (by decide) rfl rfl (Nat.le_of_ble_eq_true rfl) (tq_4 hG) rfl (VM_X5_sizesIn G fu m8 4 hG (Or.inl rfl) v1 _ y19) ?_
            cases h
            exact V_lret rfl dX6_year_133
          · rw [if_neg c43_3] at h
            by_cases c43_4 : v2 = 4
            · rw [if_pos c43_4] at h
              have qc43_4 : (v2 : Int32).toInt = 4 := by rw [c43_4]; decide
              refine V_tabIn (tgt := 134) dX6_year_43 (by rw [qc43_4]; decide) (by rw [qc43_4]; decide) (by rw [qc43_4]; rfl) (by decide) ?_
              refine V_iload dX6_year_134 rfl ?_
              by_cases c136 : (m8.1 16 (Int32.toNatClampNeg v1)) ≤ 0
              · rw [if_pos c136] at h
                refine V_ifle_t (tgt := 162) dX6_year_136 (by decide) c136 ?_
                refine V_lconst (v := 0) dX6_year_162 rfl ?_
                cases h
                exact V_lret rfl dX6_year_163
              · rw [if_neg c136] at h
                refine V_ifle_f (tgt := 162) dX6_year_136 (by decide) c136 ?_
                refine V_aload_n dX6_year_139 rfl ?_
                refine V_aload_n dX6_year_140 rfl ?_
                refine V_iload_n dX6_year_141 rfl ?_
                refine V_iload dX6_year_142 rfl ?_
                refine V_iconst (v := 1) dX6_year_144 rfl ?_
                refine V_isub dX6_year_145 ?_
                obtain ⟨x20, y21, h⟩ := bi_o h
                refine V_callV (as := [.int v1, .int ((m8.1 16 (Int32.toNatClampNeg v1)) - 1)]) (q := 4) (rest := [.ref 4]) dX6_year_146 ov_mX5_layerAt lk_RX6_199 (by decide) (by decide) rfl rfl (Nat.le_of_ble_eq_true rfl) (tq_4 hG) rfl (VM_X5_layerAt G m8 4 hG (Or.inl rfl) v1 ((m8.1 16 (Int32.toNatClampNeg v1)) - 1) _ y21) ?_
                obtain ⟨x22, y23, h⟩ := bi_o h
                refine V_callV (as := [.int x20]) (q := 4) (rest := []) dX6_year_149 ov_mX5_topOf lk_RX6_202 (by decide) (by decide) rfl rfl (Nat.le_of_ble_eq_true rfl) (tq_4 hG) rfl (VM_X5_topOf G m8 4 hG (Or.inl rfl) x20 _ y23) ?_
                refine V_i2l dX6_year_152 ?_
                refine V_aload_n dX6_year_153 rfl ?_
                refine V_iload_n dX6_year_154 rfl ?_
                obtain ⟨x24, y25, h⟩ := bi_o h
                refine V_callV (as := [.int v1]) (q := 4) (rest := [.long ((x22 : Int32).toInt64)]) dX6_year_155 ov_mX5_sizesIn lk_RX6_205 (by decide) (by decide) rfl rfl (Nat.le_of_ble_eq_true rfl) (tq_4 hG) rfl (VM_X5_sizesIn G fu m8 4 hG (Or.inl rfl) v1 _ y25) ?_
                refine V_lsub dX6_year_158 ?_
                refine V_goto (tgt := 163) dX6_year_159 (by decide) ?_
                cases h
                exact V_lret rfl dX6_year_163
            · rw [if_neg c43_4] at h
              by_cases c43_5 : v2 = 5
              · rw [if_pos c43_5] at h
                have qc43_5 : (v2 : Int32).toInt = 5 := by rw [c43_5]; decide
                refine V_tabIn (tgt := 164) dX6_year_43 (by rw [qc43_5]; decide) (by rw [qc43_5]; decide) (by rw [qc43_5]; rfl) (by decide) ?_
                refine V_aload_n dX6_year_164 rfl ?_
                refine V_iload_n dX6_year_165 rfl ?_
                obtain ⟨x26, y27, h⟩ := bi_o h
                refine V_callV (as := [.int v1]) (q := 4) (rest := []) dX6_year_166 ov_mX5_usedIn lk_RX6_208 (by decide) (by decide) rfl rfl (Nat.le_of_ble_eq_true rfl) (tq_4 hG) rfl (VM_X5_usedIn G fu m8 4 hG (Or.inl rfl) v1 _ y27) ?_
                cases h
                exact V_lret rfl dX6_year_169
              · rw [if_neg c43_5] at h
                refine V_tabOut (tgt := 170) dX6_year_43 (tab_out 6 5 (by decide) (fun j hj => ?_)) (by decide) ?_
                · match j, hj with
                  | 0, _ => exact fun z => c43_0 (Int32.toInt_inj.mp (by rw [z]; decide))
                  | 1, _ => exact fun z => c43_1 (Int32.toInt_inj.mp (by rw [z]; decide))
                  | 2, _ => exact fun z => c43_2 (Int32.toInt_inj.mp (by rw [z]; decide))
                  | 3, _ => exact fun z => c43_3 (Int32.toInt_inj.mp (by rw [z]; decide))
                  | 4, _ => exact fun z => c43_4 (Int32.toInt_inj.mp (by rw [z]; decide))
                  | 5, _ => exact fun z => c43_5 (Int32.toInt_inj.mp (by rw [z]; decide))
                  | j + 6, hj => exact absurd hj (by omega)
                refine V_aload_n dX6_year_170 rfl ?_
                refine V_iload_n dX6_year_171 rfl ?_
                obtain ⟨x28, y29, h⟩ := bi_o h
                refine V_callV (as := [.int v1]) (q := 4) (rest := []) dX6_year_172 ov_mX5_leftIn lk_RX6_211 (by decide) (by decide) rfl rfl (Nat.le_of_ble_eq_true rfl) (tq_4 hG) rfl (VM_X5_leftIn G fu m8 4 hG (Or.inl rfl) v1 _ y29) ?_
                cases h
                exact V_lret rfl dX6_year_175
  · rw [q10] at z9
    cases h
    exact V_callVX (as := [.int s1]) (q := 0) (rest := []) dX6_year_23 rfl ov_mX6_needRight lk_RX6_47 (by decide) (by decide) rfl rfl (Nat.le_of_ble_eq_true rfl) (tq_0 hG) rfl (z9)
def D_X6_year_22 (fu : Nat)  (v1 : Int32) (v2 : Int32) (μ : Mem) : Option ((Int64 ⊕ String) × Mem) :=
  D_X6_year_23 fu v1 v2 0 μ
set_option maxRecDepth 20000 in
theorem T_X6_year_22 (G : GX) (fu : Nat)  (hG : gt G = tbl) : ∀ (v1 : Int32) (v2 : Int32) (μ : Mem) (r : ((Int64 ⊕ String) × Mem)) , D_X6_year_22 fu v1 v2 μ = some r → V G mX6_year 22 [some (.ref 0), some (.int v1), some (.int v2), none, none] [.ref 0] μ (ouL r.1) (r.2) := by
  intro v1 v2 μ r h
  unfold D_X6_year_22 at h
  refine V_iconst (v := 0) dX6_year_22 rfl ?_
  exact V_wk [true, true, true, false, false] rfl (T_X6_year_23 G fu hG _ _ _ _ _ h)
def D_X6_year_0 (fu : Nat)  (a1 : Int32) (a2 : Int32) (μ : Mem) : Option ((Int64 ⊕ String) × Mem) :=
  (D_X6_isYear_0 μ a1).bind fun x1 =>
  if x1 = true then
    (D_X6_isWithin_0 μ a2 0 6).bind fun x3 =>
    if x3 = true then
      D_X6_year_23 fu a1 a2 1 μ
    else
      D_X6_year_22 fu a1 a2 μ
  else
    D_X6_year_22 fu a1 a2 μ
set_option maxRecDepth 20000 in
theorem T_X6_year_0 (G : GX) (fu : Nat)  (hG : gt G = tbl) : ∀ (a1 : Int32) (a2 : Int32) (μ : Mem) (r : ((Int64 ⊕ String) × Mem)) , D_X6_year_0 fu a1 a2 μ = some r → V G mX6_year 0 [some (.ref 0), some (.int a1), some (.int a2), none, none] [] μ (ouL r.1) (r.2) := by
  intro a1 a2 μ r h
  unfold D_X6_year_0 at h
  refine V_aload_n dX6_year_0 rfl ?_
  refine V_iload_n dX6_year_1 rfl ?_
  obtain ⟨x1, y2, h⟩ := bi_o h
  refine V_callS (as := [.int a1]) (rest := [.ref 0]) dX6_year_2 os_mX6_isYear rfl lk_RX6_37 (by decide) (by decide) rfl rfl (Nat.le_of_ble_eq_true rfl) (VM_X6_isYear G μ hG a1 _ y2) ?_
  by_cases c5 : x1 = true
  · rw [if_pos c5] at h
    refine V_ifeq_f (tgt := 22) dX6_year_5 (by decide) (b2i_t.mp c5) ?_
    refine V_iload_n dX6_year_8 rfl ?_
    refine V_iconst (v := 0) dX6_year_9 rfl ?_
    refine V_bipush (v := 6) dX6_year_10 rfl ?_
    obtain ⟨x3, y4, h⟩ := bi_o h
    refine V_callS (as := [.int a2, .int 0, .int 6]) (rest := [.ref 0]) dX6_year_12 os_mX6_isWithin rfl lk_RX6_42 (by decide) (by decide) rfl rfl (Nat.le_of_ble_eq_true rfl) (VM_X6_isWithin G μ hG a2 0 6 _ y4) ?_
    by_cases c15 : x3 = true
    · rw [if_pos c15] at h
      refine V_ifeq_f (tgt := 22) dX6_year_15 (by decide) (b2i_t.mp c15) ?_
      refine V_iconst (v := 1) dX6_year_18 rfl ?_
      refine V_goto (tgt := 23) dX6_year_19 (by decide) ?_
      exact V_wk [true, true, true, false, false] rfl (T_X6_year_23 G fu hG _ _ _ _ _ h)
    · rw [if_neg c15] at h
      refine V_ifeq_t (tgt := 22) dX6_year_15 (by decide) (b2i_f.mp c15) ?_
      exact V_wk [true, true, true, false, false] rfl (T_X6_year_22 G fu hG _ _ _ _ h)
  · rw [if_neg c5] at h
    refine V_ifeq_t (tgt := 22) dX6_year_5 (by decide) (b2i_f.mp c5) ?_
    exact V_wk [true, true, true, false, false] rfl (T_X6_year_22 G fu hG _ _ _ _ h)
theorem VM_X6_year (G : GX) (fu : Nat)  (hG : gt G = tbl) (a1 : Int32) (a2 : Int32) (μ : Mem) (r : ((Int64 ⊕ String) × Mem)) (h : D_X6_year_0 fu a1 a2 μ = some r) : VM G mX6_year [.ref 0, .int a1, .int a2] μ (ouL r.1) (r.2) := V_entry ok_mX6_year rfl rfl (Nat.le_of_ble_eq_true rfl) (T_X6_year_0 G fu hG a1 a2 μ r h)
def D_X6_isHeight_0 (μ : Mem)  (a0 : Int32) : Option Bool :=
  (D_X6_isWithin_0 μ a0 0 1000000000).bind fun x1 =>
  some x1
set_option maxRecDepth 20000 in
theorem T_X6_isHeight_0 (G : GX) (μ : Mem)  (hG : gt G = tbl) : ∀ (a0 : Int32) (r : Bool) , D_X6_isHeight_0 μ a0 = some r → V G mX6_isHeight 0 [some (.int a0)] [] μ (.inl (some (.int (b2i r)))) (μ) := by
  intro a0 r h
  unfold D_X6_isHeight_0 at h
  refine V_iload_n dX6_isHeight_0 rfl ?_
  refine V_iconst (v := 0) dX6_isHeight_1 rfl ?_
  refine V_ldc (v := 1000000000) dX6_isHeight_2 lk_RX6_124 ?_
  obtain ⟨x1, y2, h⟩ := bi_o h
  refine V_callS (as := [.int a0, .int 0, .int 1000000000]) (rest := []) dX6_isHeight_4 os_mX6_isWithin rfl lk_RX6_42 (by decide) (by decide) rfl rfl (Nat.le_of_ble_eq_true rfl) (VM_X6_isWithin G μ hG a0 0 1000000000 _ y2) ?_
  cases h
  exact V_zret rfl (b2i_nar _) dX6_isHeight_7
theorem VM_X6_isHeight (G : GX) (μ : Mem)  (hG : gt G = tbl) (a0 : Int32) (r : Bool) (h : D_X6_isHeight_0 μ a0 = some r) : VM G mX6_isHeight [.int a0] μ (.inl (some (.int (b2i r)))) (μ) := V_entry ok_mX6_isHeight rfl rfl (Nat.le_of_ble_eq_true rfl) (T_X6_isHeight_0 G μ hG a0 r h)
def D_X6_at_20 (fu : Nat)  (v1 : Int32) (v2 : Int32) (s1 : Int32) (μ : Mem) : Option ((Int32 ⊕ String) × Mem) :=
  (D_X6_needRight_0 s1 μ).bind fun x5 =>
  tx x5 fun v7 m8 =>
  (D_X5_layerAtHeight_0 fu m8 4 v1 v2).bind fun x11 =>
  some (.inl x11, m8)
set_option maxRecDepth 20000 in
theorem T_X6_at_20 (G : GX) (fu : Nat)  (hG : gt G = tbl) : ∀ (v1 : Int32) (v2 : Int32) (s1 : Int32) (μ : Mem) (r : ((Int32 ⊕ String) × Mem)) , D_X6_at_20 fu v1 v2 s1 μ = some r → V G mX6_at 20 [some (.ref 0), some (.int v1), some (.int v2)] [.int s1, .ref 0] μ (ouI r.1) (r.2) := by
  intro v1 v2 s1 μ r h
  unfold D_X6_at_20 at h
  obtain ⟨x5, y6, h⟩ := bi_o h
  have z9 := VM_X6_needRight G hG s1 μ _ y6
  rcases tx_o h with ⟨v7, q10, h⟩ | ⟨E, q10, h⟩
  · rw [q10] at z9
    generalize x5.2 = m8 at h z9
    refine V_callV (as := [.int s1]) (q := 0) (rest := []) dX6_at_20 ov_mX6_needRight lk_RX6_47 (by decide) (by decide) rfl rfl (Nat.le_of_ble_eq_true rfl) (tq_0 hG) rfl (z9) ?_
    refine V_aload_n dX6_at_23 rfl ?_
    refine V_getR (kf := 1) k_X6 (by decide) lk_RX6_19 rfl dX6_at_24 (tq_0 hG) rfl ?_
    refine V_getR (kf := 0) k_X0 (by decide) lk_RX6_51 rfl dX6_at_27 (tq_3 hG) rfl ?_
    refine V_iload_n dX6_at_30 rfl ?_
    refine V_iload_n dX6_at_31 rfl ?_
    obtain ⟨x11, y12, h⟩ := bi_o h
    refine V_callV (as := [.int v1, .int v2]) (q := 4) (rest := []) dX6_at_32 ov_mX5_layerAtHeight lk_RX6_217 (by decide) (by decide) rfl rfl (Nat.le_of_ble_eq_true rfl) (tq_4 hG) rfl (VM_X5_layerAtHeight G fu m8 4 hG (Or.inl rfl) v1 v2 _ y12) ?_
    cases h
    exact V_iret rfl dX6_at_35
  · rw [q10] at z9
    cases h
    exact V_callVX (as := [.int s1]) (q := 0) (rest := []) dX6_at_20 rfl ov_mX6_needRight lk_RX6_47 (by decide) (by decide) rfl rfl (Nat.le_of_ble_eq_true rfl) (tq_0 hG) rfl (z9)
def D_X6_at_19 (fu : Nat)  (v1 : Int32) (v2 : Int32) (μ : Mem) : Option ((Int32 ⊕ String) × Mem) :=
  D_X6_at_20 fu v1 v2 0 μ
set_option maxRecDepth 20000 in
theorem T_X6_at_19 (G : GX) (fu : Nat)  (hG : gt G = tbl) : ∀ (v1 : Int32) (v2 : Int32) (μ : Mem) (r : ((Int32 ⊕ String) × Mem)) , D_X6_at_19 fu v1 v2 μ = some r → V G mX6_at 19 [some (.ref 0), some (.int v1), some (.int v2)] [.ref 0] μ (ouI r.1) (r.2) := by
  intro v1 v2 μ r h
  unfold D_X6_at_19 at h
  refine V_iconst (v := 0) dX6_at_19 rfl ?_
  exact V_wk [true, true, true] rfl (T_X6_at_20 G fu hG _ _ _ _ _ h)
def D_X6_at_0 (fu : Nat)  (a1 : Int32) (a2 : Int32) (μ : Mem) : Option ((Int32 ⊕ String) × Mem) :=
  (D_X6_isYear_0 μ a1).bind fun x1 =>
  if x1 = true then
    (D_X6_isHeight_0 μ a2).bind fun x3 =>
    if x3 = true then
      D_X6_at_20 fu a1 a2 1 μ
    else
      D_X6_at_19 fu a1 a2 μ
  else
    D_X6_at_19 fu a1 a2 μ
set_option maxRecDepth 20000 in
theorem T_X6_at_0 (G : GX) (fu : Nat)  (hG : gt G = tbl) : ∀ (a1 : Int32) (a2 : Int32) (μ : Mem) (r : ((Int32 ⊕ String) × Mem)) , D_X6_at_0 fu a1 a2 μ = some r → V G mX6_at 0 [some (.ref 0), some (.int a1), some (.int a2)] [] μ (ouI r.1) (r.2) := by
  intro a1 a2 μ r h
  unfold D_X6_at_0 at h
  refine V_aload_n dX6_at_0 rfl ?_
  refine V_iload_n dX6_at_1 rfl ?_
  obtain ⟨x1, y2, h⟩ := bi_o h
  refine V_callS (as := [.int a1]) (rest := [.ref 0]) dX6_at_2 os_mX6_isYear rfl lk_RX6_37 (by decide) (by decide) rfl rfl (Nat.le_of_ble_eq_true rfl) (VM_X6_isYear G μ hG a1 _ y2) ?_
  by_cases c5 : x1 = true
  · rw [if_pos c5] at h
    refine V_ifeq_f (tgt := 19) dX6_at_5 (by decide) (b2i_t.mp c5) ?_
    refine V_iload_n dX6_at_8 rfl ?_
    obtain ⟨x3, y4, h⟩ := bi_o h
    refine V_callS (as := [.int a2]) (rest := [.ref 0]) dX6_at_9 os_mX6_isHeight rfl lk_RX6_214 (by decide) (by decide) rfl rfl (Nat.le_of_ble_eq_true rfl) (VM_X6_isHeight G μ hG a2 _ y4) ?_
    by_cases c12 : x3 = true
    · rw [if_pos c12] at h
      refine V_ifeq_f (tgt := 19) dX6_at_12 (by decide) (b2i_t.mp c12) ?_
      refine V_iconst (v := 1) dX6_at_15 rfl ?_
      refine V_goto (tgt := 20) dX6_at_16 (by decide) ?_
      exact V_wk [true, true, true] rfl (T_X6_at_20 G fu hG _ _ _ _ _ h)
    · rw [if_neg c12] at h
      refine V_ifeq_t (tgt := 19) dX6_at_12 (by decide) (b2i_f.mp c12) ?_
      exact V_wk [true, true, true] rfl (T_X6_at_19 G fu hG _ _ _ _ h)
  · rw [if_neg c5] at h
    refine V_ifeq_t (tgt := 19) dX6_at_5 (by decide) (b2i_f.mp c5) ?_
    exact V_wk [true, true, true] rfl (T_X6_at_19 G fu hG _ _ _ _ h)
theorem VM_X6_at (G : GX) (fu : Nat)  (hG : gt G = tbl) (a1 : Int32) (a2 : Int32) (μ : Mem) (r : ((Int32 ⊕ String) × Mem)) (h : D_X6_at_0 fu a1 a2 μ = some r) : VM G mX6_at [.ref 0, .int a1, .int a2] μ (ouI r.1) (r.2) := V_entry ok_mX6_at rfl rfl (Nat.le_of_ble_eq_true rfl) (T_X6_at_0 G fu hG a1 a2 μ r h)
def D_X6_rung_17  (v1 : Int32) (v2 : Int32) (s1 : Int32) (μ : Mem) : Option ((Int32 ⊕ String) × Mem) :=
  (D_X6_needRight_0 s1 μ).bind fun x3 =>
  tx x3 fun v5 m6 =>
  gu (ib v1 12) <|
  if (m6.1 16 (Int32.toNatClampNeg v1)) ≤ v2 then
    some (.inl (-1), m6)
  else
    (D_X5_layerAt_0 m6 4 v1 v2).bind fun x10 =>
    some (.inl x10, m6)
set_option maxRecDepth 20000 in
theorem T_X6_rung_17 (G : GX)  (hG : gt G = tbl) : ∀ (v1 : Int32) (v2 : Int32) (s1 : Int32) (μ : Mem) (r : ((Int32 ⊕ String) × Mem)) , D_X6_rung_17  v1 v2 s1 μ = some r → V G mX6_rung 17 [some (.ref 0), some (.int v1), some (.int v2)] [.int s1, .ref 0] μ (ouI r.1) (r.2) := by
  intro v1 v2 s1 μ r h
  unfold D_X6_rung_17 at h
  obtain ⟨x3, y4, h⟩ := bi_o h
  have z7 := VM_X6_needRight G hG s1 μ _ y4
  rcases tx_o h with ⟨v5, q8, h⟩ | ⟨E, q8, h⟩
  · rw [q8] at z7
    generalize x3.2 = m6 at h z7
    refine V_callV (as := [.int s1]) (q := 0) (rest := []) dX6_rung_17 ov_mX6_needRight lk_RX6_47 (by decide) (by decide) rfl rfl (Nat.le_of_ble_eq_true rfl) (tq_0 hG) rfl (z7) ?_
    refine V_iload_n dX6_rung_20 rfl ?_
    refine V_aload_n dX6_rung_21 rfl ?_
    refine V_getR (kf := 1) k_X6 (by decide) lk_RX6_19 rfl dX6_rung_22 (tq_0 hG) rfl ?_
    refine V_getR (kf := 0) k_X0 (by decide) lk_RX6_51 rfl dX6_rung_25 (tq_3 hG) rfl ?_
    refine V_getR (kf := 11) k_X5 (by decide) lk_RX6_193 rfl dX6_rung_28 (tq_4 hG) rfl ?_
    refine V_iload_n dX6_rung_31 rfl ?_
    obtain ⟨g9, h⟩ := gu_o h
    refine V_iaload dX6_rung_32 (tq_16 hG) (ib_in g9) ?_
    by_cases c33 : (m6.1 16 (Int32.toNatClampNeg v1)) ≤ v2
    · rw [if_pos c33] at h
      refine V_icmpge_t (tgt := 51) dX6_rung_33 (by decide) c33 ?_
      refine V_iconst (v := (-1)) dX6_rung_51 rfl ?_
      cases h
      exact V_iret rfl dX6_rung_52
    · rw [if_neg c33] at h
      refine V_icmpge_f (tgt := 51) dX6_rung_33 (by decide) c33 ?_
      refine V_aload_n dX6_rung_36 rfl ?_
      refine V_getR (kf := 1) k_X6 (by decide) lk_RX6_19 rfl dX6_rung_37 (tq_0 hG) rfl ?_
      refine V_getR (kf := 0) k_X0 (by decide) lk_RX6_51 rfl dX6_rung_40 (tq_3 hG) rfl ?_
      refine V_iload_n dX6_rung_43 rfl ?_
      refine V_iload_n dX6_rung_44 rfl ?_
      obtain ⟨x10, y11, h⟩ := bi_o h
      refine V_callV (as := [.int v1, .int v2]) (q := 4) (rest := []) dX6_rung_45 ov_mX5_layerAt lk_RX6_199 (by decide) (by decide) rfl rfl (Nat.le_of_ble_eq_true rfl) (tq_4 hG) rfl (VM_X5_layerAt G m6 4 hG (Or.inl rfl) v1 v2 _ y11) ?_
      refine V_goto (tgt := 52) dX6_rung_48 (by decide) ?_
      cases h
      exact V_iret rfl dX6_rung_52
  · rw [q8] at z7
    cases h
    exact V_callVX (as := [.int s1]) (q := 0) (rest := []) dX6_rung_17 rfl ov_mX6_needRight lk_RX6_47 (by decide) (by decide) rfl rfl (Nat.le_of_ble_eq_true rfl) (tq_0 hG) rfl (z7)
def D_X6_rung_16  (v1 : Int32) (v2 : Int32) (μ : Mem) : Option ((Int32 ⊕ String) × Mem) :=
  D_X6_rung_17 v1 v2 0 μ
set_option maxRecDepth 20000 in
theorem T_X6_rung_16 (G : GX)  (hG : gt G = tbl) : ∀ (v1 : Int32) (v2 : Int32) (μ : Mem) (r : ((Int32 ⊕ String) × Mem)) , D_X6_rung_16  v1 v2 μ = some r → V G mX6_rung 16 [some (.ref 0), some (.int v1), some (.int v2)] [.ref 0] μ (ouI r.1) (r.2) := by
  intro v1 v2 μ r h
  unfold D_X6_rung_16 at h
  refine V_iconst (v := 0) dX6_rung_16 rfl ?_
  exact V_wk [true, true, true] rfl (T_X6_rung_17 G hG _ _ _ _ _ h)
def D_X6_rung_0  (a1 : Int32) (a2 : Int32) (μ : Mem) : Option ((Int32 ⊕ String) × Mem) :=
  (D_X6_isYear_0 μ a1).bind fun x1 =>
  if x1 = true then
    if a2 < 0 then
      D_X6_rung_16 a1 a2 μ
    else
      D_X6_rung_17 a1 a2 1 μ
  else
    D_X6_rung_16 a1 a2 μ
set_option maxRecDepth 20000 in
theorem T_X6_rung_0 (G : GX)  (hG : gt G = tbl) : ∀ (a1 : Int32) (a2 : Int32) (μ : Mem) (r : ((Int32 ⊕ String) × Mem)) , D_X6_rung_0  a1 a2 μ = some r → V G mX6_rung 0 [some (.ref 0), some (.int a1), some (.int a2)] [] μ (ouI r.1) (r.2) := by
  intro a1 a2 μ r h
  unfold D_X6_rung_0 at h
  refine V_aload_n dX6_rung_0 rfl ?_
  refine V_iload_n dX6_rung_1 rfl ?_
  obtain ⟨x1, y2, h⟩ := bi_o h
  refine V_callS (as := [.int a1]) (rest := [.ref 0]) dX6_rung_2 os_mX6_isYear rfl lk_RX6_37 (by decide) (by decide) rfl rfl (Nat.le_of_ble_eq_true rfl) (VM_X6_isYear G μ hG a1 _ y2) ?_
  by_cases c5 : x1 = true
  · rw [if_pos c5] at h
    refine V_ifeq_f (tgt := 16) dX6_rung_5 (by decide) (b2i_t.mp c5) ?_
    refine V_iload_n dX6_rung_8 rfl ?_
    by_cases c9 : a2 < 0
    · rw [if_pos c9] at h
      refine V_iflt_t (tgt := 16) dX6_rung_9 (by decide) c9 ?_
      exact V_wk [true, true, true] rfl (T_X6_rung_16 G hG _ _ _ _ h)
    · rw [if_neg c9] at h
      refine V_iflt_f (tgt := 16) dX6_rung_9 (by decide) c9 ?_
      refine V_iconst (v := 1) dX6_rung_12 rfl ?_
      refine V_goto (tgt := 17) dX6_rung_13 (by decide) ?_
      exact V_wk [true, true, true] rfl (T_X6_rung_17 G hG _ _ _ _ _ h)
  · rw [if_neg c5] at h
    refine V_ifeq_t (tgt := 16) dX6_rung_5 (by decide) (b2i_f.mp c5) ?_
    exact V_wk [true, true, true] rfl (T_X6_rung_16 G hG _ _ _ _ h)
theorem VM_X6_rung (G : GX)  (hG : gt G = tbl) (a1 : Int32) (a2 : Int32) (μ : Mem) (r : ((Int32 ⊕ String) × Mem)) (h : D_X6_rung_0  a1 a2 μ = some r) : VM G mX6_rung [.ref 0, .int a1, .int a2] μ (ouI r.1) (r.2) := V_entry ok_mX6_rung rfl rfl (Nat.le_of_ble_eq_true rfl) (T_X6_rung_0 G hG a1 a2 μ r h)
def D_X6_damage_0  (a1 : Int32) (a2 : Int32) (μ : Mem) : Option ((Int64 ⊕ String) × Mem) :=
  (D_X6_isHarm_0 μ a1).bind fun x1 =>
  (D_X6_needThere_0 (b2i x1) μ).bind fun x3 =>
  tx x3 fun v5 m6 =>
  (D_X6_isWithin_0 m6 a2 0 5).bind fun x9 =>
  (D_X6_needRight_0 (b2i x9) m6).bind fun x11 =>
  tx x11 fun v13 m14 =>
  if a2 = 0 then
    gu (ib a1 24) <|
    some (.inl ((m14.1 19 (Int32.toNatClampNeg a1) : Int32).toInt64), m14)
  else
  if a2 = 1 then
    gu (ib a1 24) <|
    some (.inl ((m14.1 20 (Int32.toNatClampNeg a1) : Int32).toInt64), m14)
  else
  if a2 = 2 then
    gu (ib a1 24) <|
    some (.inl ((m14.1 21 (Int32.toNatClampNeg a1) : Int32).toInt64), m14)
  else
  if a2 = 3 then
    gu (ib a1 24) <|
    some (.inl (m14.2.1 22 (Int32.toNatClampNeg a1)), m14)
  else
  if a2 = 4 then
    (D_X1_borneOf_0 m14 17 a1 0).bind fun x21 =>
    some (.inl x21, m14)
  else
    gu (ib a1 24) <|
    some (.inl ((m14.1 23 (Int32.toNatClampNeg a1) : Int32).toInt64), m14)
set_option maxRecDepth 20000 in
theorem T_X6_damage_0 (G : GX)  (hG : gt G = tbl) : ∀ (a1 : Int32) (a2 : Int32) (μ : Mem) (r : ((Int64 ⊕ String) × Mem)) , D_X6_damage_0  a1 a2 μ = some r → V G mX6_damage 0 [some (.ref 0), some (.int a1), some (.int a2), none] [] μ (ouL r.1) (r.2) := by
  intro a1 a2 μ r h
  unfold D_X6_damage_0 at h
  refine V_aload_n dX6_damage_0 rfl ?_
  refine V_aload_n dX6_damage_1 rfl ?_
  refine V_iload_n dX6_damage_2 rfl ?_
  obtain ⟨x1, y2, h⟩ := bi_o h
  refine V_callV (as := [.int a1]) (q := 0) (rest := [.ref 0]) dX6_damage_3 ov_mX6_isHarm lk_RX6_114 (by decide) (by decide) rfl rfl (Nat.le_of_ble_eq_true rfl) (tq_0 hG) rfl (VM_X6_isHarm G μ hG a1 _ y2) ?_
  obtain ⟨x3, y4, h⟩ := bi_o h
  have z7 := VM_X6_needThere G hG (b2i x1) μ _ y4
  rcases tx_o h with ⟨v5, q8, h⟩ | ⟨E, q8, h⟩
  · rw [q8] at z7
    generalize x3.2 = m6 at h z7
    refine V_callV (as := [.int (b2i x1)]) (q := 0) (rest := []) dX6_damage_6 ov_mX6_needThere lk_RX6_71 (by decide) (by decide) rfl rfl (Nat.le_of_ble_eq_true rfl) (tq_0 hG) rfl (z7) ?_
    refine V_aload_n dX6_damage_9 rfl ?_
    refine V_iload_n dX6_damage_10 rfl ?_
    refine V_iconst (v := 0) dX6_damage_11 rfl ?_
    refine V_iconst (v := 5) dX6_damage_12 rfl ?_
    obtain ⟨x9, y10, h⟩ := bi_o h
    refine V_callS (as := [.int a2, .int 0, .int 5]) (rest := [.ref 0]) dX6_damage_13 os_mX6_isWithin rfl lk_RX6_42 (by decide) (by decide) rfl rfl (Nat.le_of_ble_eq_true rfl) (VM_X6_isWithin G m6 hG a2 0 5 _ y10) ?_
    obtain ⟨x11, y12, h⟩ := bi_o h
    have z15 := VM_X6_needRight G hG (b2i x9) m6 _ y12
    rcases tx_o h with ⟨v13, q16, h⟩ | ⟨E, q16, h⟩
    · rw [q16] at z15
      generalize x11.2 = m14 at h z15
      refine V_callV (as := [.int (b2i x9)]) (q := 0) (rest := []) dX6_damage_16 ov_mX6_needRight lk_RX6_47 (by decide) (by decide) rfl rfl (Nat.le_of_ble_eq_true rfl) (tq_0 hG) rfl (z15) ?_
      refine V_aload_n dX6_damage_19 rfl ?_
      refine V_getR (kf := 1) k_X6 (by decide) lk_RX6_19 rfl dX6_damage_20 (tq_0 hG) rfl ?_
      refine V_getR (kf := 1) k_X0 (by decide) lk_RX6_107 rfl dX6_damage_23 (tq_3 hG) rfl ?_
      refine V_astore_n (lv2 := [some (.ref 0), some (.int a1), some (.int a2), some (.ref 17)]) dX6_damage_26 (by decide) rfl ?_
      refine V_iload_n dX6_damage_27 rfl ?_
      by_cases c28_0 : a2 = 0
      · rw [if_pos c28_0] at h
        have qc28_0 : (a2 : Int32).toInt = 0 := by rw [c28_0]; decide
        refine V_tabIn (tgt := 64) dX6_damage_28 (by rw [qc28_0]; decide) (by rw [qc28_0]; decide) (by rw [qc28_0]; rfl) (by decide) ?_
        refine V_aload_n dX6_damage_64 rfl ?_
        refine V_getR (kf := 1) k_X1 (by decide) lk_RX6_220 rfl dX6_damage_65 (tq_17 hG) rfl ?_
        refine V_iload_n dX6_damage_68 rfl ?_
        obtain ⟨g17, h⟩ := gu_o h
        refine V_iaload dX6_damage_69 (tq_19 hG) (ib_in g17) ?_
        refine V_i2l dX6_damage_70 ?_
        cases h
        exact V_lret rfl dX6_damage_71
      · rw [if_neg c28_0] at h
        by_cases c28_1 : a2 = 1
        · rw [if_pos c28_1] at h
          have qc28_1 : (a2 : Int32).toInt = 1 := by rw [c28_1]; decide
          refine V_tabIn (tgt := 72) dX6_damage_28 (by rw [qc28_1]; decide) (by rw [qc28_1]; decide) (by rw [qc28_1]; rfl) (by decide) ?_
          refine V_aload_n dX6_damage_72 rfl ?_
          refine V_getR (kf := 2) k_X1 (by decide) lk_RX6_223 rfl dX6_damage_73 (tq_17 hG) rfl ?_
          refine V_iload_n dX6_damage_76 rfl ?_
          obtain ⟨g18, h⟩ := gu_o h
          refine V_iaload dX6_damage_77 (tq_20 hG) (ib_in g18) ?_
          refine V_i2l dX6_damage_78 ?_
          cases h
          exact V_lret rfl dX6_damage_79
        · rw [if_neg c28_1] at h
          by_cases c28_2 : a2 = 2
          · rw [if_pos c28_2] at h
            have qc28_2 : (a2 : Int32).toInt = 2 := by rw [c28_2]; decide
            refine V_tabIn (tgt := 80) dX6_damage_28 (by rw [qc28_2]; decide) (by rw [qc28_2]; decide) (by rw [qc28_2]; rfl) (by decide) ?_
            refine V_aload_n dX6_damage_80 rfl ?_
            refine V_getR (kf := 3) k_X1 (by decide) lk_RX6_226 rfl dX6_damage_81 (tq_17 hG) rfl ?_
            refine V_iload_n dX6_damage_84 rfl ?_
            obtain ⟨g19, h⟩ := gu_o h
            refine V_iaload dX6_damage_85 (tq_21 hG) (ib_in g19) ?_
            refine V_i2l dX6_damage_86 ?_
            cases h
            exact V_lret rfl dX6_damage_87
          · rw [if_neg c28_2] at h
            by_cases c28_3 : a2 = 3
            · rw [if_pos c28_3] at h
              have qc28_3 : (a2 : Int32).toInt = 3 := by rw [c28_3]; decide
              refine V_tabIn (tgt := 88) dX6_damage_28 (by rw [qc28_3]; decide) (by rw [qc28_3]; decide) (by rw [qc28_3]; rfl) (by decide) ?_
              refine V_aload_n dX6_damage_88 rfl ?_
              refine V_getR (kf := 4) k_X1 (by decide) lk_RX6_229 rfl dX6_damage_89 (tq_17 hG) rfl ?_
              refine V_iload_n dX6_damage_92 rfl ?_
              obtain ⟨g20, h⟩ := gu_o h
              refine V_laload dX6_damage_93 (tq_22 hG) (ib_in g20) ?_
              cases h
              exact V_lret rfl dX6_damage_94
            · rw [if_neg c28_3] at h
              by_cases c28_4 : a2 = 4
              · rw [if_pos c28_4] at h
                have qc28_4 : (a2 : Int32).toInt = 4 := by rw [c28_4]; decide
                refine V_tabIn (tgt := 95) dX6_damage_28 (by rw [qc28_4]; decide) (by rw [qc28_4]; decide) (by rw [qc28_4]; rfl) (by decide) ?_
                refine V_aload_n dX6_damage_95 rfl ?_
                refine V_iload_n dX6_damage_96 rfl ?_
                refine V_iconst (v := 0) dX6_damage_97 rfl ?_
                obtain ⟨x21, y22, h⟩ := bi_o h
                refine V_callV (as := [.int a1, .int 0]) (q := 17) (rest := []) dX6_damage_98 ov_mX1_borneOf lk_RX6_117 (by decide) (by decide) rfl rfl (Nat.le_of_ble_eq_true rfl) (tq_17 hG) rfl (VM_X1_borneOf G m14 17 hG (Or.inl rfl) a1 0 _ y22) ?_
                cases h
                exact V_lret rfl dX6_damage_101
              · rw [if_neg c28_4] at h
                refine V_tabOut (tgt := 102) dX6_damage_28 (tab_out 5 4 (by decide) (fun j hj => ?_)) (by decide) ?_
                · match j, hj with
                  | 0, _ => exact fun z => c28_0 (Int32.toInt_inj.mp (by rw [z]; decide))
                  | 1, _ => exact fun z => c28_1 (Int32.toInt_inj.mp (by rw [z]; decide))
                  | 2, _ => exact fun z => c28_2 (Int32.toInt_inj.mp (by rw [z]; decide))
                  | 3, _ => exact fun z => c28_3 (Int32.toInt_inj.mp (by rw [z]; decide))
                  | 4, _ => exact fun z => c28_4 (Int32.toInt_inj.mp (by rw [z]; decide))
                  | j + 5, hj => exact absurd hj (by omega)
                refine V_aload_n dX6_damage_102 rfl ?_
                refine V_getR (kf := 5) k_X1 (by decide) lk_RX6_232 rfl dX6_damage_103 (tq_17 hG) rfl ?_
                refine V_iload_n dX6_damage_106 rfl ?_
                obtain ⟨g23, h⟩ := gu_o h
                refine V_iaload dX6_damage_107 (tq_23 hG) (ib_in g23) ?_
                refine V_i2l dX6_damage_108 ?_
                cases h
                exact V_lret rfl dX6_damage_109
    · rw [q16] at z15
      cases h
      exact V_callVX (as := [.int (b2i x9)]) (q := 0) (rest := []) dX6_damage_16 rfl ov_mX6_needRight lk_RX6_47 (by decide) (by decide) rfl rfl (Nat.le_of_ble_eq_true rfl) (tq_0 hG) rfl (z15)
  · rw [q8] at z7
    cases h
    exact V_callVX (as := [.int (b2i x1)]) (q := 0) (rest := []) dX6_damage_6 rfl ov_mX6_needThere lk_RX6_71 (by decide) (by decide) rfl rfl (Nat.le_of_ble_eq_true rfl) (tq_0 hG) rfl (z7)
theorem VM_X6_damage (G : GX)  (hG : gt G = tbl) (a1 : Int32) (a2 : Int32) (μ : Mem) (r : ((Int64 ⊕ String) × Mem)) (h : D_X6_damage_0  a1 a2 μ = some r) : VM G mX6_damage [.ref 0, .int a1, .int a2] μ (ouL r.1) (r.2) := V_entry ok_mX6_damage rfl rfl (Nat.le_of_ble_eq_true rfl) (T_X6_damage_0 G hG a1 a2 μ r h)
def D_X6_took_22  (v1 : Int32) (v2 : Int32) (s1 : Int32) (μ : Mem) : Option ((Int64 ⊕ String) × Mem) :=
  (D_X6_needThere_0 s1 μ).bind fun x5 =>
  tx x5 fun v7 m8 =>
  gu (ib ((v1 * 40) + v2) 1000) <|
  some (.inl (m8.2.1 24 (Int32.toNatClampNeg ((v1 * 40) + v2))), m8)
set_option maxRecDepth 20000 in
theorem T_X6_took_22 (G : GX)  (hG : gt G = tbl) : ∀ (v1 : Int32) (v2 : Int32) (s1 : Int32) (μ : Mem) (r : ((Int64 ⊕ String) × Mem)) , D_X6_took_22  v1 v2 s1 μ = some r → V G mX6_took 22 [some (.ref 0), some (.int v1), some (.int v2)] [.int s1, .ref 0] μ (ouL r.1) (r.2) := by
  intro v1 v2 s1 μ r h
  unfold D_X6_took_22 at h
  obtain ⟨x5, y6, h⟩ := bi_o h
  have z9 := VM_X6_needThere G hG s1 μ _ y6
  rcases tx_o h with ⟨v7, q10, h⟩ | ⟨E, q10, h⟩
  · rw [q10] at z9
    generalize x5.2 = m8 at h z9
    refine V_callV (as := [.int s1]) (q := 0) (rest := []) dX6_took_22 ov_mX6_needThere lk_RX6_71 (by decide) (by decide) rfl rfl (Nat.le_of_ble_eq_true rfl) (tq_0 hG) rfl (z9) ?_
    refine V_aload_n dX6_took_25 rfl ?_
    refine V_getR (kf := 1) k_X6 (by decide) lk_RX6_19 rfl dX6_took_26 (tq_0 hG) rfl ?_
    refine V_getR (kf := 1) k_X0 (by decide) lk_RX6_107 rfl dX6_took_29 (tq_3 hG) rfl ?_
    refine V_getR (kf := 6) k_X1 (by decide) lk_RX6_235 rfl dX6_took_32 (tq_17 hG) rfl ?_
    refine V_iload_n dX6_took_35 rfl ?_
    refine V_bipush (v := 40) dX6_took_36 rfl ?_
    refine V_imul dX6_took_38 ?_
    refine V_iload_n dX6_took_39 rfl ?_
    refine V_iadd dX6_took_40 ?_
    obtain ⟨g11, h⟩ := gu_o h
    refine V_laload dX6_took_41 (tq_24 hG) (ib_in g11) ?_
    cases h
    exact V_lret rfl dX6_took_42
  · rw [q10] at z9
    cases h
    exact V_callVX (as := [.int s1]) (q := 0) (rest := []) dX6_took_22 rfl ov_mX6_needThere lk_RX6_71 (by decide) (by decide) rfl rfl (Nat.le_of_ble_eq_true rfl) (tq_0 hG) rfl (z9)
def D_X6_took_21  (v1 : Int32) (v2 : Int32) (μ : Mem) : Option ((Int64 ⊕ String) × Mem) :=
  D_X6_took_22 v1 v2 0 μ
set_option maxRecDepth 20000 in
theorem T_X6_took_21 (G : GX)  (hG : gt G = tbl) : ∀ (v1 : Int32) (v2 : Int32) (μ : Mem) (r : ((Int64 ⊕ String) × Mem)) , D_X6_took_21  v1 v2 μ = some r → V G mX6_took 21 [some (.ref 0), some (.int v1), some (.int v2)] [.ref 0] μ (ouL r.1) (r.2) := by
  intro v1 v2 μ r h
  unfold D_X6_took_21 at h
  refine V_iconst (v := 0) dX6_took_21 rfl ?_
  exact V_wk [true, true, true] rfl (T_X6_took_22 G hG _ _ _ _ _ h)
def D_X6_took_0  (a1 : Int32) (a2 : Int32) (μ : Mem) : Option ((Int64 ⊕ String) × Mem) :=
  (D_X6_isHarm_0 μ a1).bind fun x1 =>
  if x1 = true then
    (D_X6_isLayer_0 μ a2).bind fun x3 =>
    if x3 = true then
      D_X6_took_22 a1 a2 1 μ
    else
      D_X6_took_21 a1 a2 μ
  else
    D_X6_took_21 a1 a2 μ
set_option maxRecDepth 20000 in
theorem T_X6_took_0 (G : GX)  (hG : gt G = tbl) : ∀ (a1 : Int32) (a2 : Int32) (μ : Mem) (r : ((Int64 ⊕ String) × Mem)) , D_X6_took_0  a1 a2 μ = some r → V G mX6_took 0 [some (.ref 0), some (.int a1), some (.int a2)] [] μ (ouL r.1) (r.2) := by
  intro a1 a2 μ r h
  unfold D_X6_took_0 at h
  refine V_aload_n dX6_took_0 rfl ?_
  refine V_aload_n dX6_took_1 rfl ?_
  refine V_iload_n dX6_took_2 rfl ?_
  obtain ⟨x1, y2, h⟩ := bi_o h
  refine V_callV (as := [.int a1]) (q := 0) (rest := [.ref 0]) dX6_took_3 ov_mX6_isHarm lk_RX6_114 (by decide) (by decide) rfl rfl (Nat.le_of_ble_eq_true rfl) (tq_0 hG) rfl (VM_X6_isHarm G μ hG a1 _ y2) ?_
  by_cases c6 : x1 = true
  · rw [if_pos c6] at h
    refine V_ifeq_f (tgt := 21) dX6_took_6 (by decide) (b2i_t.mp c6) ?_
    refine V_aload_n dX6_took_9 rfl ?_
    refine V_iload_n dX6_took_10 rfl ?_
    obtain ⟨x3, y4, h⟩ := bi_o h
    refine V_callV (as := [.int a2]) (q := 0) (rest := [.ref 0]) dX6_took_11 ov_mX6_isLayer lk_RX6_68 (by decide) (by decide) rfl rfl (Nat.le_of_ble_eq_true rfl) (tq_0 hG) rfl (VM_X6_isLayer G μ hG a2 _ y4) ?_
    by_cases c14 : x3 = true
    · rw [if_pos c14] at h
      refine V_ifeq_f (tgt := 21) dX6_took_14 (by decide) (b2i_t.mp c14) ?_
      refine V_iconst (v := 1) dX6_took_17 rfl ?_
      refine V_goto (tgt := 22) dX6_took_18 (by decide) ?_
      exact V_wk [true, true, true] rfl (T_X6_took_22 G hG _ _ _ _ _ h)
    · rw [if_neg c14] at h
      refine V_ifeq_t (tgt := 21) dX6_took_14 (by decide) (b2i_f.mp c14) ?_
      exact V_wk [true, true, true] rfl (T_X6_took_21 G hG _ _ _ _ h)
  · rw [if_neg c6] at h
    refine V_ifeq_t (tgt := 21) dX6_took_6 (by decide) (b2i_f.mp c6) ?_
    exact V_wk [true, true, true] rfl (T_X6_took_21 G hG _ _ _ _ h)
theorem VM_X6_took (G : GX)  (hG : gt G = tbl) (a1 : Int32) (a2 : Int32) (μ : Mem) (r : ((Int64 ⊕ String) × Mem)) (h : D_X6_took_0  a1 a2 μ = some r) : VM G mX6_took [.ref 0, .int a1, .int a2] μ (ouL r.1) (r.2) := V_entry ok_mX6_took rfl rfl (Nat.le_of_ble_eq_true rfl) (T_X6_took_0 G hG a1 a2 μ r h)
def D_X6_hole_22  (v1 : Int32) (v2 : Int32) (s1 : Int32) (μ : Mem) : Option ((Int64 ⊕ String) × Mem) :=
  (D_X6_needThere_0 s1 μ).bind fun x5 =>
  tx x5 fun v7 m8 =>
  gu (ib ((v1 * 40) + v2) 1000) <|
  some (.inl (m8.2.1 25 (Int32.toNatClampNeg ((v1 * 40) + v2))), m8)
set_option maxRecDepth 20000 in
theorem T_X6_hole_22 (G : GX)  (hG : gt G = tbl) : ∀ (v1 : Int32) (v2 : Int32) (s1 : Int32) (μ : Mem) (r : ((Int64 ⊕ String) × Mem)) , D_X6_hole_22  v1 v2 s1 μ = some r → V G mX6_hole 22 [some (.ref 0), some (.int v1), some (.int v2)] [.int s1, .ref 0] μ (ouL r.1) (r.2) := by
  intro v1 v2 s1 μ r h
  unfold D_X6_hole_22 at h
  obtain ⟨x5, y6, h⟩ := bi_o h
  have z9 := VM_X6_needThere G hG s1 μ _ y6
  rcases tx_o h with ⟨v7, q10, h⟩ | ⟨E, q10, h⟩
  · rw [q10] at z9
    generalize x5.2 = m8 at h z9
    refine V_callV (as := [.int s1]) (q := 0) (rest := []) dX6_hole_22 ov_mX6_needThere lk_RX6_71 (by decide) (by decide) rfl rfl (Nat.le_of_ble_eq_true rfl) (tq_0 hG) rfl (z9) ?_
    refine V_aload_n dX6_hole_25 rfl ?_
    refine V_getR (kf := 1) k_X6 (by decide) lk_RX6_19 rfl dX6_hole_26 (tq_0 hG) rfl ?_
    refine V_getR (kf := 1) k_X0 (by decide) lk_RX6_107 rfl dX6_hole_29 (tq_3 hG) rfl ?_
    refine V_getR (kf := 7) k_X1 (by decide) lk_RX6_238 rfl dX6_hole_32 (tq_17 hG) rfl ?_
    refine V_iload_n dX6_hole_35 rfl ?_
    refine V_bipush (v := 40) dX6_hole_36 rfl ?_
    refine V_imul dX6_hole_38 ?_
    refine V_iload_n dX6_hole_39 rfl ?_
    refine V_iadd dX6_hole_40 ?_
    obtain ⟨g11, h⟩ := gu_o h
    refine V_laload dX6_hole_41 (tq_25 hG) (ib_in g11) ?_
    cases h
    exact V_lret rfl dX6_hole_42
  · rw [q10] at z9
    cases h
    exact V_callVX (as := [.int s1]) (q := 0) (rest := []) dX6_hole_22 rfl ov_mX6_needThere lk_RX6_71 (by decide) (by decide) rfl rfl (Nat.le_of_ble_eq_true rfl) (tq_0 hG) rfl (z9)
def D_X6_hole_21  (v1 : Int32) (v2 : Int32) (μ : Mem) : Option ((Int64 ⊕ String) × Mem) :=
  D_X6_hole_22 v1 v2 0 μ
set_option maxRecDepth 20000 in
theorem T_X6_hole_21 (G : GX)  (hG : gt G = tbl) : ∀ (v1 : Int32) (v2 : Int32) (μ : Mem) (r : ((Int64 ⊕ String) × Mem)) , D_X6_hole_21  v1 v2 μ = some r → V G mX6_hole 21 [some (.ref 0), some (.int v1), some (.int v2)] [.ref 0] μ (ouL r.1) (r.2) := by
  intro v1 v2 μ r h
  unfold D_X6_hole_21 at h
  refine V_iconst (v := 0) dX6_hole_21 rfl ?_
  exact V_wk [true, true, true] rfl (T_X6_hole_22 G hG _ _ _ _ _ h)
def D_X6_hole_0  (a1 : Int32) (a2 : Int32) (μ : Mem) : Option ((Int64 ⊕ String) × Mem) :=
  (D_X6_isHarm_0 μ a1).bind fun x1 =>
  if x1 = true then
    (D_X6_isLayer_0 μ a2).bind fun x3 =>
    if x3 = true then
      D_X6_hole_22 a1 a2 1 μ
    else
      D_X6_hole_21 a1 a2 μ
  else
    D_X6_hole_21 a1 a2 μ
set_option maxRecDepth 20000 in
theorem T_X6_hole_0 (G : GX)  (hG : gt G = tbl) : ∀ (a1 : Int32) (a2 : Int32) (μ : Mem) (r : ((Int64 ⊕ String) × Mem)) , D_X6_hole_0  a1 a2 μ = some r → V G mX6_hole 0 [some (.ref 0), some (.int a1), some (.int a2)] [] μ (ouL r.1) (r.2) := by
  intro a1 a2 μ r h
  unfold D_X6_hole_0 at h
  refine V_aload_n dX6_hole_0 rfl ?_
  refine V_aload_n dX6_hole_1 rfl ?_
  refine V_iload_n dX6_hole_2 rfl ?_
  obtain ⟨x1, y2, h⟩ := bi_o h
  refine V_callV (as := [.int a1]) (q := 0) (rest := [.ref 0]) dX6_hole_3 ov_mX6_isHarm lk_RX6_114 (by decide) (by decide) rfl rfl (Nat.le_of_ble_eq_true rfl) (tq_0 hG) rfl (VM_X6_isHarm G μ hG a1 _ y2) ?_
  by_cases c6 : x1 = true
  · rw [if_pos c6] at h
    refine V_ifeq_f (tgt := 21) dX6_hole_6 (by decide) (b2i_t.mp c6) ?_
    refine V_aload_n dX6_hole_9 rfl ?_
    refine V_iload_n dX6_hole_10 rfl ?_
    obtain ⟨x3, y4, h⟩ := bi_o h
    refine V_callV (as := [.int a2]) (q := 0) (rest := [.ref 0]) dX6_hole_11 ov_mX6_isLayer lk_RX6_68 (by decide) (by decide) rfl rfl (Nat.le_of_ble_eq_true rfl) (tq_0 hG) rfl (VM_X6_isLayer G μ hG a2 _ y4) ?_
    by_cases c14 : x3 = true
    · rw [if_pos c14] at h
      refine V_ifeq_f (tgt := 21) dX6_hole_14 (by decide) (b2i_t.mp c14) ?_
      refine V_iconst (v := 1) dX6_hole_17 rfl ?_
      refine V_goto (tgt := 22) dX6_hole_18 (by decide) ?_
      exact V_wk [true, true, true] rfl (T_X6_hole_22 G hG _ _ _ _ _ h)
    · rw [if_neg c14] at h
      refine V_ifeq_t (tgt := 21) dX6_hole_14 (by decide) (b2i_f.mp c14) ?_
      exact V_wk [true, true, true] rfl (T_X6_hole_21 G hG _ _ _ _ h)
  · rw [if_neg c6] at h
    refine V_ifeq_t (tgt := 21) dX6_hole_6 (by decide) (b2i_f.mp c6) ?_
    exact V_wk [true, true, true] rfl (T_X6_hole_21 G hG _ _ _ _ h)
theorem VM_X6_hole (G : GX)  (hG : gt G = tbl) (a1 : Int32) (a2 : Int32) (μ : Mem) (r : ((Int64 ⊕ String) × Mem)) (h : D_X6_hole_0  a1 a2 μ = some r) : VM G mX6_hole [.ref 0, .int a1, .int a2] μ (ouL r.1) (r.2) := V_entry ok_mX6_hole rfl rfl (Nat.le_of_ble_eq_true rfl) (T_X6_hole_0 G hG a1 a2 μ r h)
def D_X6_moved_22  (v1 : Int32) (v2 : Int32) (s1 : Int32) (μ : Mem) : Option ((Int64 ⊕ String) × Mem) :=
  (D_X6_needThere_0 s1 μ).bind fun x5 =>
  tx x5 fun v7 m8 =>
  gu (ib ((v1 * 40) + v2) 960) <|
  some (.inl (m8.2.1 26 (Int32.toNatClampNeg ((v1 * 40) + v2))), m8)
set_option maxRecDepth 20000 in
theorem T_X6_moved_22 (G : GX)  (hG : gt G = tbl) : ∀ (v1 : Int32) (v2 : Int32) (s1 : Int32) (μ : Mem) (r : ((Int64 ⊕ String) × Mem)) , D_X6_moved_22  v1 v2 s1 μ = some r → V G mX6_moved 22 [some (.ref 0), some (.int v1), some (.int v2)] [.int s1, .ref 0] μ (ouL r.1) (r.2) := by
  intro v1 v2 s1 μ r h
  unfold D_X6_moved_22 at h
  obtain ⟨x5, y6, h⟩ := bi_o h
  have z9 := VM_X6_needThere G hG s1 μ _ y6
  rcases tx_o h with ⟨v7, q10, h⟩ | ⟨E, q10, h⟩
  · rw [q10] at z9
    generalize x5.2 = m8 at h z9
    refine V_callV (as := [.int s1]) (q := 0) (rest := []) dX6_moved_22 ov_mX6_needThere lk_RX6_71 (by decide) (by decide) rfl rfl (Nat.le_of_ble_eq_true rfl) (tq_0 hG) rfl (z9) ?_
    refine V_aload_n dX6_moved_25 rfl ?_
    refine V_getR (kf := 1) k_X6 (by decide) lk_RX6_19 rfl dX6_moved_26 (tq_0 hG) rfl ?_
    refine V_getR (kf := 1) k_X0 (by decide) lk_RX6_107 rfl dX6_moved_29 (tq_3 hG) rfl ?_
    refine V_getR (kf := 8) k_X1 (by decide) lk_RX6_241 rfl dX6_moved_32 (tq_17 hG) rfl ?_
    refine V_iload_n dX6_moved_35 rfl ?_
    refine V_bipush (v := 40) dX6_moved_36 rfl ?_
    refine V_imul dX6_moved_38 ?_
    refine V_iload_n dX6_moved_39 rfl ?_
    refine V_iadd dX6_moved_40 ?_
    obtain ⟨g11, h⟩ := gu_o h
    refine V_laload dX6_moved_41 (tq_26 hG) (ib_in g11) ?_
    cases h
    exact V_lret rfl dX6_moved_42
  · rw [q10] at z9
    cases h
    exact V_callVX (as := [.int s1]) (q := 0) (rest := []) dX6_moved_22 rfl ov_mX6_needThere lk_RX6_71 (by decide) (by decide) rfl rfl (Nat.le_of_ble_eq_true rfl) (tq_0 hG) rfl (z9)
def D_X6_moved_21  (v1 : Int32) (v2 : Int32) (μ : Mem) : Option ((Int64 ⊕ String) × Mem) :=
  D_X6_moved_22 v1 v2 0 μ
set_option maxRecDepth 20000 in
theorem T_X6_moved_21 (G : GX)  (hG : gt G = tbl) : ∀ (v1 : Int32) (v2 : Int32) (μ : Mem) (r : ((Int64 ⊕ String) × Mem)) , D_X6_moved_21  v1 v2 μ = some r → V G mX6_moved 21 [some (.ref 0), some (.int v1), some (.int v2)] [.ref 0] μ (ouL r.1) (r.2) := by
  intro v1 v2 μ r h
  unfold D_X6_moved_21 at h
  refine V_iconst (v := 0) dX6_moved_21 rfl ?_
  exact V_wk [true, true, true] rfl (T_X6_moved_22 G hG _ _ _ _ _ h)
def D_X6_moved_0  (a1 : Int32) (a2 : Int32) (μ : Mem) : Option ((Int64 ⊕ String) × Mem) :=
  (D_X6_isHarm_0 μ a1).bind fun x1 =>
  if x1 = true then
    (D_X6_isLayer_0 μ a2).bind fun x3 =>
    if x3 = true then
      D_X6_moved_22 a1 a2 1 μ
    else
      D_X6_moved_21 a1 a2 μ
  else
    D_X6_moved_21 a1 a2 μ
set_option maxRecDepth 20000 in
theorem T_X6_moved_0 (G : GX)  (hG : gt G = tbl) : ∀ (a1 : Int32) (a2 : Int32) (μ : Mem) (r : ((Int64 ⊕ String) × Mem)) , D_X6_moved_0  a1 a2 μ = some r → V G mX6_moved 0 [some (.ref 0), some (.int a1), some (.int a2)] [] μ (ouL r.1) (r.2) := by
  intro a1 a2 μ r h
  unfold D_X6_moved_0 at h
  refine V_aload_n dX6_moved_0 rfl ?_
  refine V_aload_n dX6_moved_1 rfl ?_
  refine V_iload_n dX6_moved_2 rfl ?_
  obtain ⟨x1, y2, h⟩ := bi_o h
  refine V_callV (as := [.int a1]) (q := 0) (rest := [.ref 0]) dX6_moved_3 ov_mX6_isHarm lk_RX6_114 (by decide) (by decide) rfl rfl (Nat.le_of_ble_eq_true rfl) (tq_0 hG) rfl (VM_X6_isHarm G μ hG a1 _ y2) ?_
  by_cases c6 : x1 = true
  · rw [if_pos c6] at h
    refine V_ifeq_f (tgt := 21) dX6_moved_6 (by decide) (b2i_t.mp c6) ?_
    refine V_aload_n dX6_moved_9 rfl ?_
    refine V_iload_n dX6_moved_10 rfl ?_
    obtain ⟨x3, y4, h⟩ := bi_o h
    refine V_callV (as := [.int a2]) (q := 0) (rest := [.ref 0]) dX6_moved_11 ov_mX6_isLayer lk_RX6_68 (by decide) (by decide) rfl rfl (Nat.le_of_ble_eq_true rfl) (tq_0 hG) rfl (VM_X6_isLayer G μ hG a2 _ y4) ?_
    by_cases c14 : x3 = true
    · rw [if_pos c14] at h
      refine V_ifeq_f (tgt := 21) dX6_moved_14 (by decide) (b2i_t.mp c14) ?_
      refine V_iconst (v := 1) dX6_moved_17 rfl ?_
      refine V_goto (tgt := 22) dX6_moved_18 (by decide) ?_
      exact V_wk [true, true, true] rfl (T_X6_moved_22 G hG _ _ _ _ _ h)
    · rw [if_neg c14] at h
      refine V_ifeq_t (tgt := 21) dX6_moved_14 (by decide) (b2i_f.mp c14) ?_
      exact V_wk [true, true, true] rfl (T_X6_moved_21 G hG _ _ _ _ h)
  · rw [if_neg c6] at h
    refine V_ifeq_t (tgt := 21) dX6_moved_6 (by decide) (b2i_f.mp c6) ?_
    exact V_wk [true, true, true] rfl (T_X6_moved_21 G hG _ _ _ _ h)
theorem VM_X6_moved (G : GX)  (hG : gt G = tbl) (a1 : Int32) (a2 : Int32) (μ : Mem) (r : ((Int64 ⊕ String) × Mem)) (h : D_X6_moved_0  a1 a2 μ = some r) : VM G mX6_moved [.ref 0, .int a1, .int a2] μ (ouL r.1) (r.2) := V_entry ok_mX6_moved rfl rfl (Nat.le_of_ble_eq_true rfl) (T_X6_moved_0 G hG a1 a2 μ r h)
def D_X6_bears_0  (a1 : Int32) (a2 : Int32) (μ : Mem) : Option ((Int64 ⊕ String) × Mem) :=
  (D_X6_isHarm_0 μ a1).bind fun x1 =>
  (D_X6_needThere_0 (b2i x1) μ).bind fun x3 =>
  tx x3 fun v5 m6 =>
  (D_X6_isInsurer_0 m6 a2).bind fun x9 =>
  (D_X6_needRight_0 (b2i x9) m6).bind fun x11 =>
  tx x11 fun v13 m14 =>
  (D_X1_borneOf_0 m14 17 a1 a2).bind fun x17 =>
  some (.inl x17, m14)
set_option maxRecDepth 20000 in
theorem T_X6_bears_0 (G : GX)  (hG : gt G = tbl) : ∀ (a1 : Int32) (a2 : Int32) (μ : Mem) (r : ((Int64 ⊕ String) × Mem)) , D_X6_bears_0  a1 a2 μ = some r → V G mX6_bears 0 [some (.ref 0), some (.int a1), some (.int a2)] [] μ (ouL r.1) (r.2) := by
  intro a1 a2 μ r h
  unfold D_X6_bears_0 at h
  refine V_aload_n dX6_bears_0 rfl ?_
  refine V_aload_n dX6_bears_1 rfl ?_
  refine V_iload_n dX6_bears_2 rfl ?_
  obtain ⟨x1, y2, h⟩ := bi_o h
  refine V_callV (as := [.int a1]) (q := 0) (rest := [.ref 0]) dX6_bears_3 ov_mX6_isHarm lk_RX6_114 (by decide) (by decide) rfl rfl (Nat.le_of_ble_eq_true rfl) (tq_0 hG) rfl (VM_X6_isHarm G μ hG a1 _ y2) ?_
  obtain ⟨x3, y4, h⟩ := bi_o h
  have z7 := VM_X6_needThere G hG (b2i x1) μ _ y4
  rcases tx_o h with ⟨v5, q8, h⟩ | ⟨E, q8, h⟩
  · rw [q8] at z7
    generalize x3.2 = m6 at h z7
    refine V_callV (as := [.int (b2i x1)]) (q := 0) (rest := []) dX6_bears_6 ov_mX6_needThere lk_RX6_71 (by decide) (by decide) rfl rfl (Nat.le_of_ble_eq_true rfl) (tq_0 hG) rfl (z7) ?_
    refine V_aload_n dX6_bears_9 rfl ?_
    refine V_iload_n dX6_bears_10 rfl ?_
    obtain ⟨x9, y10, h⟩ := bi_o h
    refine V_callS (as := [.int a2]) (rest := [.ref 0]) dX6_bears_11 os_mX6_isInsurer rfl lk_RX6_74 (by decide) (by decide) rfl rfl (Nat.le_of_ble_eq_true rfl) (VM_X6_isInsurer G m6 hG a2 _ y10) ?_
    obtain ⟨x11, y12, h⟩ := bi_o h
    have z15 := VM_X6_needRight G hG (b2i x9) m6 _ y12
    rcases tx_o h with ⟨v13, q16, h⟩ | ⟨E, q16, h⟩
    · rw [q16] at z15
      generalize x11.2 = m14 at h z15
      refine V_callV (as := [.int (b2i x9)]) (q := 0) (rest := []) dX6_bears_14 ov_mX6_needRight lk_RX6_47 (by decide) (by decide) rfl rfl (Nat.le_of_ble_eq_true rfl) (tq_0 hG) rfl (z15) ?_
      refine V_aload_n dX6_bears_17 rfl ?_
      refine V_getR (kf := 1) k_X6 (by decide) lk_RX6_19 rfl dX6_bears_18 (tq_0 hG) rfl ?_
      refine V_getR (kf := 1) k_X0 (by decide) lk_RX6_107 rfl dX6_bears_21 (tq_3 hG) rfl ?_
      refine V_iload_n dX6_bears_24 rfl ?_
      refine V_iload_n dX6_bears_25 rfl ?_
      obtain ⟨x17, y18, h⟩ := bi_o h
      refine V_callV (as := [.int a1, .int a2]) (q := 17) (rest := []) dX6_bears_26 ov_mX1_borneOf lk_RX6_117 (by decide) (by decide) rfl rfl (Nat.le_of_ble_eq_true rfl) (tq_17 hG) rfl (VM_X1_borneOf G m14 17 hG (Or.inl rfl) a1 a2 _ y18) ?_
      cases h
      exact V_lret rfl dX6_bears_29
    · rw [q16] at z15
      cases h
      exact V_callVX (as := [.int (b2i x9)]) (q := 0) (rest := []) dX6_bears_14 rfl ov_mX6_needRight lk_RX6_47 (by decide) (by decide) rfl rfl (Nat.le_of_ble_eq_true rfl) (tq_0 hG) rfl (z15)
  · rw [q8] at z7
    cases h
    exact V_callVX (as := [.int (b2i x1)]) (q := 0) (rest := []) dX6_bears_6 rfl ov_mX6_needThere lk_RX6_71 (by decide) (by decide) rfl rfl (Nat.le_of_ble_eq_true rfl) (tq_0 hG) rfl (z7)
theorem VM_X6_bears (G : GX)  (hG : gt G = tbl) (a1 : Int32) (a2 : Int32) (μ : Mem) (r : ((Int64 ⊕ String) × Mem)) (h : D_X6_bears_0  a1 a2 μ = some r) : VM G mX6_bears [.ref 0, .int a1, .int a2] μ (ouL r.1) (r.2) := V_entry ok_mX6_bears rfl rfl (Nat.le_of_ble_eq_true rfl) (T_X6_bears_0 G hG a1 a2 μ r h)
def D_X6_isReason_0 (μ : Mem)  (a0 : Int32) : Option Bool :=
  (D_X6_isWithin_0 μ a0 0 6).bind fun x1 =>
  some x1
set_option maxRecDepth 20000 in
theorem T_X6_isReason_0 (G : GX) (μ : Mem)  (hG : gt G = tbl) : ∀ (a0 : Int32) (r : Bool) , D_X6_isReason_0 μ a0 = some r → V G mX6_isReason 0 [some (.int a0)] [] μ (.inl (some (.int (b2i r)))) (μ) := by
  intro a0 r h
  unfold D_X6_isReason_0 at h
  refine V_iload_n dX6_isReason_0 rfl ?_
  refine V_iconst (v := 0) dX6_isReason_1 rfl ?_
  refine V_bipush (v := 6) dX6_isReason_2 rfl ?_
  obtain ⟨x1, y2, h⟩ := bi_o h
  refine V_callS (as := [.int a0, .int 0, .int 6]) (rest := []) dX6_isReason_4 os_mX6_isWithin rfl lk_RX6_42 (by decide) (by decide) rfl rfl (Nat.le_of_ble_eq_true rfl) (VM_X6_isWithin G μ hG a0 0 6 _ y2) ?_
  cases h
  exact V_zret rfl (b2i_nar _) dX6_isReason_7
theorem VM_X6_isReason (G : GX) (μ : Mem)  (hG : gt G = tbl) (a0 : Int32) (r : Bool) (h : D_X6_isReason_0 μ a0 = some r) : VM G mX6_isReason [.int a0] μ (.inl (some (.int (b2i r)))) (μ) := V_entry ok_mX6_isReason rfl rfl (Nat.le_of_ble_eq_true rfl) (T_X6_isReason_0 G μ hG a0 r h)
def D_X6_falls_0  (a1 : Int32) (a2 : Int32) (μ : Mem) : Option ((Int64 ⊕ String) × Mem) :=
  (D_X6_isHarm_0 μ a1).bind fun x1 =>
  (D_X6_needThere_0 (b2i x1) μ).bind fun x3 =>
  tx x3 fun v5 m6 =>
  (D_X6_isReason_0 m6 a2).bind fun x9 =>
  (D_X6_needRight_0 (b2i x9) m6).bind fun x11 =>
  tx x11 fun v13 m14 =>
  gu (ib ((a1 * 7) + a2) 168) <|
  some (.inl (m14.2.1 29 (Int32.toNatClampNeg ((a1 * 7) + a2))), m14)
set_option maxRecDepth 20000 in
theorem T_X6_falls_0 (G : GX)  (hG : gt G = tbl) : ∀ (a1 : Int32) (a2 : Int32) (μ : Mem) (r : ((Int64 ⊕ String) × Mem)) , D_X6_falls_0  a1 a2 μ = some r → V G mX6_falls 0 [some (.ref 0), some (.int a1), some (.int a2)] [] μ (ouL r.1) (r.2) := by
  intro a1 a2 μ r h
  unfold D_X6_falls_0 at h
  refine V_aload_n dX6_falls_0 rfl ?_
  refine V_aload_n dX6_falls_1 rfl ?_
  refine V_iload_n dX6_falls_2 rfl ?_
  obtain ⟨x1, y2, h⟩ := bi_o h
  refine V_callV (as := [.int a1]) (q := 0) (rest := [.ref 0]) dX6_falls_3 ov_mX6_isHarm lk_RX6_114 (by decide) (by decide) rfl rfl (Nat.le_of_ble_eq_true rfl) (tq_0 hG) rfl (VM_X6_isHarm G μ hG a1 _ y2) ?_
  obtain ⟨x3, y4, h⟩ := bi_o h
  have z7 := VM_X6_needThere G hG (b2i x1) μ _ y4
  rcases tx_o h with ⟨v5, q8, h⟩ | ⟨E, q8, h⟩
  · rw [q8] at z7
    generalize x3.2 = m6 at h z7
    refine V_callV (as := [.int (b2i x1)]) (q := 0) (rest := []) dX6_falls_6 ov_mX6_needThere lk_RX6_71 (by decide) (by decide) rfl rfl (Nat.le_of_ble_eq_true rfl) (tq_0 hG) rfl (z7) ?_
    refine V_aload_n dX6_falls_9 rfl ?_
    refine V_iload_n dX6_falls_10 rfl ?_
    obtain ⟨x9, y10, h⟩ := bi_o h
    refine V_callS (as := [.int a2]) (rest := [.ref 0]) dX6_falls_11 os_mX6_isReason rfl lk_RX6_244 (by decide) (by decide) rfl rfl (Nat.le_of_ble_eq_true rfl) (VM_X6_isReason G m6 hG a2 _ y10) ?_
    obtain ⟨x11, y12, h⟩ := bi_o h
    have z15 := VM_X6_needRight G hG (b2i x9) m6 _ y12
    rcases tx_o h with ⟨v13, q16, h⟩ | ⟨E, q16, h⟩
    · rw [q16] at z15
      generalize x11.2 = m14 at h z15
      refine V_callV (as := [.int (b2i x9)]) (q := 0) (rest := []) dX6_falls_14 ov_mX6_needRight lk_RX6_47 (by decide) (by decide) rfl rfl (Nat.le_of_ble_eq_true rfl) (tq_0 hG) rfl (z15) ?_
      refine V_aload_n dX6_falls_17 rfl ?_
      refine V_getR (kf := 1) k_X6 (by decide) lk_RX6_19 rfl dX6_falls_18 (tq_0 hG) rfl ?_
      refine V_getR (kf := 1) k_X0 (by decide) lk_RX6_107 rfl dX6_falls_21 (tq_3 hG) rfl ?_
      refine V_getR (kf := 11) k_X1 (by decide) lk_RX6_247 rfl dX6_falls_24 (tq_17 hG) rfl ?_
      refine V_iload_n dX6_falls_27 rfl ?_
      refine V_bipush (v := 7) dX6_falls_28 rfl ?_
      refine V_imul dX6_falls_30 ?_
      refine V_iload_n dX6_falls_31 rfl ?_
      refine V_iadd dX6_falls_32 ?_
      obtain ⟨g17, h⟩ := gu_o h
      refine V_laload dX6_falls_33 (tq_29 hG) (ib_in g17) ?_
      cases h
      exact V_lret rfl dX6_falls_34
    · rw [q16] at z15
      cases h
      exact V_callVX (as := [.int (b2i x9)]) (q := 0) (rest := []) dX6_falls_14 rfl ov_mX6_needRight lk_RX6_47 (by decide) (by decide) rfl rfl (Nat.le_of_ble_eq_true rfl) (tq_0 hG) rfl (z15)
  · rw [q8] at z7
    cases h
    exact V_callVX (as := [.int (b2i x1)]) (q := 0) (rest := []) dX6_falls_6 rfl ov_mX6_needThere lk_RX6_71 (by decide) (by decide) rfl rfl (Nat.le_of_ble_eq_true rfl) (tq_0 hG) rfl (z7)
theorem VM_X6_falls (G : GX)  (hG : gt G = tbl) (a1 : Int32) (a2 : Int32) (μ : Mem) (r : ((Int64 ⊕ String) × Mem)) (h : D_X6_falls_0  a1 a2 μ = some r) : VM G mX6_falls [.ref 0, .int a1, .int a2] μ (ouL r.1) (r.2) := V_entry ok_mX6_falls rfl rfl (Nat.le_of_ble_eq_true rfl) (T_X6_falls_0 G hG a1 a2 μ r h)
def D_X6_insurer_22 (fu : Nat)  (v1 : Int32) (v2 : Int32) (s1 : Int32) (μ : Mem) : Option ((Int64 ⊕ String) × Mem) :=
  (D_X6_needRight_0 s1 μ).bind fun x5 =>
  tx x5 fun v7 m8 =>
  if v2 = 0 then
    (D_X1_borneInAll_0 fu m8 17 v1).bind fun x11 =>
    some (.inl x11, m8)
  else
  if v2 = 1 then
    gu (ib v1 10) <|
    some (.inl ((m8.1 30 (Int32.toNatClampNeg v1) : Int32).toInt64), m8)
  else
  if v2 = 2 then
    if v1 = 0 then
      (D_X0_cashInAll_0 fu m8 3).bind fun x14 =>
      some (.inl x14, m8)
    else
      gu (ib v1 10) <|
      some (.inl ((m8.1 31 (Int32.toNatClampNeg v1) : Int32).toInt64), m8)
  else
  if v2 = 3 then
    (D_X5_layersSignedBy_0 fu m8 4 v1).bind fun x17 =>
    some (.inl ((x17 : Int32).toInt64), m8)
  else
    (D_X5_leftSignedBy_0 fu m8 4 v1).bind fun x19 =>
    some (.inl x19, m8)
set_option maxRecDepth 20000 in
theorem T_X6_insurer_22 (G : GX) (fu : Nat)  (hG : gt G = tbl) : ∀ (v1 : Int32) (v2 : Int32) (s1 : Int32) (μ : Mem) (r : ((Int64 ⊕ String) × Mem)) , D_X6_insurer_22 fu v1 v2 s1 μ = some r → V G mX6_insurer 22 [some (.ref 0), some (.int v1), some (.int v2)] [.int s1, .ref 0] μ (ouL r.1) (r.2) := by
  intro v1 v2 s1 μ r h
  unfold D_X6_insurer_22 at h
  obtain ⟨x5, y6, h⟩ := bi_o h
  have z9 := VM_X6_needRight G hG s1 μ _ y6
  rcases tx_o h with ⟨v7, q10, h⟩ | ⟨E, q10, h⟩
  · rw [q10] at z9
    generalize x5.2 = m8 at h z9
    refine V_callV (as := [.int s1]) (q := 0) (rest := []) dX6_insurer_22 ov_mX6_needRight lk_RX6_47 (by decide) (by decide) rfl rfl (Nat.le_of_ble_eq_true rfl) (tq_0 hG) rfl (z9) ?_
    refine V_iload_n dX6_insurer_25 rfl ?_
    by_cases c26_0 : v2 = 0
    · rw [if_pos c26_0] at h
      have qc26_0 : (v2 : Int32).toInt = 0 := by rw [c26_0]; decide
      refine V_tabIn (tgt := 56) dX6_insurer_26 (by rw [qc26_0]; decide) (by rw [qc26_0]; decide) (by rw [qc26_0]; rfl) (by decide) ?_
      refine V_aload_n dX6_insurer_56 rfl ?_
      refine V_getR (kf := 1) k_X6 (by decide) lk_RX6_19 rfl dX6_insurer_57 (tq_0 hG) rfl ?_
      refine V_getR (kf := 1) k_X0 (by decide) lk_RX6_107 rfl dX6_insurer_60 (tq_3 hG) rfl ?_
      refine V_iload_n dX6_insurer_63 rfl ?_
      obtain ⟨x11, y12, h⟩ := bi_o h
      refine V_callV (as := [.int v1]) (q := 17) (rest := []) dX6_insurer_64 ov_mX1_borneInAll lk_RX6_250 (by decide) (by decide) rfl rfl (Nat.le_of_ble_eq_true rfl) (tq_17 hG) rfl (VM_X1_borneInAll G fu m8 17 hG (Or.inl rfl) v1 _ y12) ?_
      cases h
      exact V_lret rfl dX6_insurer_67
    · rw [if_neg c26_0] at h
      by_cases c26_1 : v2 = 1
      · rw [if_pos c26_1] at h
        have qc26_1 : (v2 : Int32).toInt = 1 := by rw [c26_1]; decide
        refine V_tabIn (tgt := 68) dX6_insurer_26 (by rw [qc26_1]; decide) (by rw [qc26_1]; decide) (by rw [qc26_1]; rfl) (by decide) ?_
        refine V_aload_n dX6_insurer_68 rfl ?_
        refine V_getR (kf := 1) k_X6 (by decide) lk_RX6_19 rfl dX6_insurer_69 (tq_0 hG) rfl ?_
        refine V_getR (kf := 2) k_X0 (by decide) lk_RX6_253 rfl dX6_insurer_72 (tq_3 hG) rfl ?_
        refine V_iload_n dX6_insurer_75 rfl ?_
        obtain ⟨g13, h⟩ := gu_o h
        refine V_iaload dX6_insurer_76 (tq_30 hG) (ib_in g13) ?_
        refine V_i2l dX6_insurer_77 ?_
        cases h
        exact V_lret rfl dX6_insurer_78
      · rw [if_neg c26_1] at h
        by_cases c26_2 : v2 = 2
        · rw [if_pos c26_2] at h
          have qc26_2 : (v2 : Int32).toInt = 2 := by rw [c26_2]; decide
          refine V_tabIn (tgt := 79) dX6_insurer_26 (by rw [qc26_2]; decide) (by rw [qc26_2]; decide) (by rw [qc26_2]; rfl) (by decide) ?_
          refine V_iload_n dX6_insurer_79 rfl ?_
          by_cases c80 : v1 = 0
          · rw [if_pos c80] at h
            refine V_ifne_f (tgt := 93) dX6_insurer_80 (by decide) c80 ?_
            refine V_aload_n dX6_insurer_83 rfl ?_
            refine V_getR (kf := 1) k_X6 (by decide) lk_RX6_19 rfl dX6_insurer_84 (tq_0 hG) rfl ?_
            obtain ⟨x14, y15, h⟩ := bi_o h
            refine V_callV (as := []) (q := 3) (rest := []) dX6_insurer_87 ov_mX0_cashInAll lk_RX6_256 (by decide) (by decide) rfl rfl (Nat.le_of_ble_eq_true rfl) (tq_3 hG) rfl (VM_X0_cashInAll G fu m8 3 hG (Or.inl rfl) _ y15) ?_
            refine V_goto (tgt := 103) dX6_insurer_90 (by decide) ?_
            cases h
            exact V_lret rfl dX6_insurer_103
          · rw [if_neg c80] at h
            refine V_ifne_t (tgt := 93) dX6_insurer_80 (by decide) c80 ?_
            refine V_aload_n dX6_insurer_93 rfl ?_
            refine V_getR (kf := 1) k_X6 (by decide) lk_RX6_19 rfl dX6_insurer_94 (tq_0 hG) rfl ?_
            refine V_getR (kf := 3) k_X0 (by decide) lk_RX6_260 rfl dX6_insurer_97 (tq_3 hG) rfl ?_
            refine V_iload_n dX6_insurer_100 rfl ?_
            obtain ⟨g16, h⟩ := gu_o h
            refine V_iaload dX6_insurer_101 (tq_31 hG) (ib_in g16) ?_
            refine V_i2l dX6_insurer_102 ?_
            cases h
            exact V_lret rfl dX6_insurer_103
        · rw [if_neg c26_2] at h
          by_cases c26_3 : v2 = 3
          · rw [if_pos c26_3] at h
            have qc26_3 : (v2 : Int32).toInt = 3 := by rw [c26_3]; decide
            refine V_tabIn (tgt := 104) dX6_insurer_26 (by rw [qc26_3]; decide) (by rw [qc26_3]; decide) (by rw [qc26_3]; rfl) (by decide) ?_
            refine V_aload_n dX6_insurer_104 rfl ?_
            refine V_getR (kf := 1) k_X6 (by decide) lk_RX6_19 rfl dX6_insurer_105 (tq_0 hG) rfl ?_
            refine V_getR (kf := 0) k_X0 (by decide) lk_RX6_51 rfl dX6_insurer_108 (tq_3 hG) rfl ?_
            refine V_iload_n dX6_insurer_111 rfl ?_
            obtain ⟨x17, y18, h⟩ := bi_o h
            refine V_callV (as := [.int v1]) (q := 4) (rest := []) dX6_insurer_112 ov_mX5_layersSignedBy lk_RX6_263 (by decide) (by decide) rfl rfl (Nat.le_of_ble_eq_true rfl) (tq_4 hG) rfl (VM_X5_layersSignedBy G fu m8 4 hG (Or.inl rfl) v1 _ y18) ?_
            refine V_i2l dX6_insurer_115 ?_
            cases h
            exact V_lret rfl dX6_insurer_116
          · rw [if_neg c26_3] at h
            refine V_tabOut (tgt := 117) dX6_insurer_26 (tab_out 4 3 (by decide) (fun j hj => ?_)) (by decide) ?_
            · match j, hj with
              | 0, _ => exact fun z => c26_0 (Int32.toInt_inj.mp (by rw [z]; decide))
              | 1, _ => exact fun z => c26_1 (Int32.toInt_inj.mp (by rw [z]; decide))
              | 2, _ => exact fun z => c26_2 (Int32.toInt_inj.mp (by rw [z]; decide))
              | 3, _ => exact fun z => c26_3 (Int32.toInt_inj.mp (by rw [z]; decide))
              | j + 4, hj => exact absurd hj (by omega)
            refine V_aload_n dX6_insurer_117 rfl ?_
            refine V_getR (kf := 1) k_X6 (by decide) lk_RX6_19 rfl dX6_insurer_118 (tq_0 hG) rfl ?_
            refine V_getR (kf := 0) k_X0 (by decide) lk_RX6_51 rfl dX6_insurer_121 (tq_3 hG) rfl ?_
            refine V_iload_n dX6_insurer_124 rfl ?_
            obtain ⟨x19, y20, h⟩ := bi_o h
            refine V_callV (as := [.int v1]) (q := 4) (rest := []) dX6_insurer_125 ov_mX5_leftSignedBy lk_RX6_266 (by decide) (by decide) rfl rfl (Nat.le_of_ble_eq_true rfl) (tq_4 hG) rfl (VM_X5_leftSignedBy G fu m8 4 hG (Or.inl rfl) v1 _ y20) ?_
            cases h
            exact V_lret rfl dX6_insurer_128
  · rw [q10] at z9
    cases h
    exact V_callVX (as := [.int s1]) (q := 0) (rest := []) dX6_insurer_22 rfl ov_mX6_needRight lk_RX6_47 (by decide) (by decide) rfl rfl (Nat.le_of_ble_eq_true rfl) (tq_0 hG) rfl (z9)
def D_X6_insurer_21 (fu : Nat)  (v1 : Int32) (v2 : Int32) (μ : Mem) : Option ((Int64 ⊕ String) × Mem) :=
  D_X6_insurer_22 fu v1 v2 0 μ
set_option maxRecDepth 20000 in
theorem T_X6_insurer_21 (G : GX) (fu : Nat)  (hG : gt G = tbl) : ∀ (v1 : Int32) (v2 : Int32) (μ : Mem) (r : ((Int64 ⊕ String) × Mem)) , D_X6_insurer_21 fu v1 v2 μ = some r → V G mX6_insurer 21 [some (.ref 0), some (.int v1), some (.int v2)] [.ref 0] μ (ouL r.1) (r.2) := by
  intro v1 v2 μ r h
  unfold D_X6_insurer_21 at h
  refine V_iconst (v := 0) dX6_insurer_21 rfl ?_
  exact V_wk [true, true, true] rfl (T_X6_insurer_22 G fu hG _ _ _ _ _ h)
def D_X6_insurer_0 (fu : Nat)  (a1 : Int32) (a2 : Int32) (μ : Mem) : Option ((Int64 ⊕ String) × Mem) :=
  (D_X6_isInsurer_0 μ a1).bind fun x1 =>
  if x1 = true then
    (D_X6_isWithin_0 μ a2 0 4).bind fun x3 =>
    if x3 = true then
      D_X6_insurer_22 fu a1 a2 1 μ
    else
      D_X6_insurer_21 fu a1 a2 μ
  else
    D_X6_insurer_21 fu a1 a2 μ
set_option maxRecDepth 20000 in
theorem T_X6_insurer_0 (G : GX) (fu : Nat)  (hG : gt G = tbl) : ∀ (a1 : Int32) (a2 : Int32) (μ : Mem) (r : ((Int64 ⊕ String) × Mem)) , D_X6_insurer_0 fu a1 a2 μ = some r → V G mX6_insurer 0 [some (.ref 0), some (.int a1), some (.int a2)] [] μ (ouL r.1) (r.2) := by
  intro a1 a2 μ r h
  unfold D_X6_insurer_0 at h
  refine V_aload_n dX6_insurer_0 rfl ?_
  refine V_iload_n dX6_insurer_1 rfl ?_
  obtain ⟨x1, y2, h⟩ := bi_o h
  refine V_callS (as := [.int a1]) (rest := [.ref 0]) dX6_insurer_2 os_mX6_isInsurer rfl lk_RX6_74 (by decide) (by decide) rfl rfl (Nat.le_of_ble_eq_true rfl) (VM_X6_isInsurer G μ hG a1 _ y2) ?_
  by_cases c5 : x1 = true
  · rw [if_pos c5] at h
    refine V_ifeq_f (tgt := 21) dX6_insurer_5 (by decide) (b2i_t.mp c5) ?_
    refine V_iload_n dX6_insurer_8 rfl ?_
    refine V_iconst (v := 0) dX6_insurer_9 rfl ?_
    refine V_iconst (v := 4) dX6_insurer_10 rfl ?_
    obtain ⟨x3, y4, h⟩ := bi_o h
    refine V_callS (as := [.int a2, .int 0, .int 4]) (rest := [.ref 0]) dX6_insurer_11 os_mX6_isWithin rfl lk_RX6_42 (by decide) (by decide) rfl rfl (Nat.le_of_ble_eq_true rfl) (VM_X6_isWithin G μ hG a2 0 4 _ y4) ?_
    by_cases c14 : x3 = true
    · rw [if_pos c14] at h
      refine V_ifeq_f (tgt := 21) dX6_insurer_14 (by decide) (b2i_t.mp c14) ?_
      refine V_iconst (v := 1) dX6_insurer_17 rfl ?_
      refine V_goto (tgt := 22) dX6_insurer_18 (by decide) ?_
      exact V_wk [true, true, true] rfl (T_X6_insurer_22 G fu hG _ _ _ _ _ h)
    · rw [if_neg c14] at h
      refine V_ifeq_t (tgt := 21) dX6_insurer_14 (by decide) (b2i_f.mp c14) ?_
      exact V_wk [true, true, true] rfl (T_X6_insurer_21 G fu hG _ _ _ _ h)
  · rw [if_neg c5] at h
    refine V_ifeq_t (tgt := 21) dX6_insurer_5 (by decide) (b2i_f.mp c5) ?_
    exact V_wk [true, true, true] rfl (T_X6_insurer_21 G fu hG _ _ _ _ h)
theorem VM_X6_insurer (G : GX) (fu : Nat)  (hG : gt G = tbl) (a1 : Int32) (a2 : Int32) (μ : Mem) (r : ((Int64 ⊕ String) × Mem)) (h : D_X6_insurer_0 fu a1 a2 μ = some r) : VM G mX6_insurer [.ref 0, .int a1, .int a2] μ (ouL r.1) (r.2) := V_entry ok_mX6_insurer rfl rfl (Nat.le_of_ble_eq_true rfl) (T_X6_insurer_0 G fu hG a1 a2 μ r h)
def D_X6_burden_0 (fu : Nat)  (a1 : Int32) (μ : Mem) : Option ((Int64 ⊕ String) × Mem) :=
  (D_X6_isReason_0 μ a1).bind fun x1 =>
  (D_X6_needRight_0 (b2i x1) μ).bind fun x3 =>
  tx x3 fun v5 m6 =>
  (D_X1_reasonInAll_0 fu m6 17 a1).bind fun x9 =>
  some (.inl x9, m6)
set_option maxRecDepth 20000 in
theorem T_X6_burden_0 (G : GX) (fu : Nat)  (hG : gt G = tbl) : ∀ (a1 : Int32) (μ : Mem) (r : ((Int64 ⊕ String) × Mem)) , D_X6_burden_0 fu a1 μ = some r → V G mX6_burden 0 [some (.ref 0), some (.int a1)] [] μ (ouL r.1) (r.2) := by
  intro a1 μ r h
  unfold D_X6_burden_0 at h
  refine V_aload_n dX6_burden_0 rfl ?_
  refine V_iload_n dX6_burden_1 rfl ?_
  obtain ⟨x1, y2, h⟩ := bi_o h
  refine V_callS (as := [.int a1]) (rest := [.ref 0]) dX6_burden_2 os_mX6_isReason rfl lk_RX6_244 (by decide) (by decide) rfl rfl (Nat.le_of_ble_eq_true rfl) (VM_X6_isReason G μ hG a1 _ y2) ?_
  obtain ⟨x3, y4, h⟩ := bi_o h
  have z7 := VM_X6_needRight G hG (b2i x1) μ _ y4
  rcases tx_o h with ⟨v5, q8, h⟩ | ⟨E, q8, h⟩
  · rw [q8] at z7
    generalize x3.2 = m6 at h z7
    refine V_callV (as := [.int (b2i x1)]) (q := 0) (rest := []) dX6_burden_5 ov_mX6_needRight lk_RX6_47 (by decide) (by decide) rfl rfl (Nat.le_of_ble_eq_true rfl) (tq_0 hG) rfl (z7) ?_
    refine V_aload_n dX6_burden_8 rfl ?_
    refine V_getR (kf := 1) k_X6 (by decide) lk_RX6_19 rfl dX6_burden_9 (tq_0 hG) rfl ?_
    refine V_getR (kf := 1) k_X0 (by decide) lk_RX6_107 rfl dX6_burden_12 (tq_3 hG) rfl ?_
    refine V_iload_n dX6_burden_15 rfl ?_
    obtain ⟨x9, y10, h⟩ := bi_o h
    refine V_callV (as := [.int a1]) (q := 17) (rest := []) dX6_burden_16 ov_mX1_reasonInAll lk_RX6_269 (by decide) (by decide) rfl rfl (Nat.le_of_ble_eq_true rfl) (tq_17 hG) rfl (VM_X1_reasonInAll G fu m6 17 hG (Or.inl rfl) a1 _ y10) ?_
    cases h
    exact V_lret rfl dX6_burden_19
  · rw [q8] at z7
    cases h
    exact V_callVX (as := [.int (b2i x1)]) (q := 0) (rest := []) dX6_burden_5 rfl ov_mX6_needRight lk_RX6_47 (by decide) (by decide) rfl rfl (Nat.le_of_ble_eq_true rfl) (tq_0 hG) rfl (z7)
theorem VM_X6_burden (G : GX) (fu : Nat)  (hG : gt G = tbl) (a1 : Int32) (μ : Mem) (r : ((Int64 ⊕ String) × Mem)) (h : D_X6_burden_0 fu a1 μ = some r) : VM G mX6_burden [.ref 0, .int a1] μ (ouL r.1) (r.2) := V_entry ok_mX6_burden rfl rfl (Nat.le_of_ble_eq_true rfl) (T_X6_burden_0 G fu hG a1 μ r h)
def D_X6_rank_40 (fu : Nat)  (k12 : Int32 → Int32 → Int32 → Mem → Option ((Int32 ⊕ String) × Mem)) (v1 : Int32) (v2 : Int32) (v3 : Int32) (μ : Mem) : Option ((Int32 ⊕ String) × Mem) :=
  k12 v1 v2 (v3 + 1) μ
set_option maxRecDepth 20000 in
theorem T_X6_rank_40 (G : GX) (fu : Nat)  (hG : gt G = tbl) (k12 : Int32 → Int32 → Int32 → Mem → Option ((Int32 ⊕ String) × Mem)) (hk12 : ∀ (v1 : Int32) (v2 : Int32) (v3 : Int32) (μ : Mem) (r : ((Int32 ⊕ String) × Mem)), k12 v1 v2 v3 μ = some r → V G mX6_rank 12 [some (.ref 0), some (.int v1), some (.int v2), some (.int v3)] [] μ (ouI r.1) (r.2)) : ∀ (v1 : Int32) (v2 : Int32) (v3 : Int32) (μ : Mem) (r : ((Int32 ⊕ String) × Mem)) , D_X6_rank_40 fu k12 v1 v2 v3 μ = some r → V G mX6_rank 40 [some (.ref 0), some (.int v1), some (.int v2), some (.int v3)] [] μ (ouI r.1) (r.2) := by
  intro v1 v2 v3 μ r h
  unfold D_X6_rank_40 at h
  refine V_iinc (v := v3 + 1) (lv2 := [some (.ref 0), some (.int v1), some (.int v2), some (.int (v3 + 1))]) dX6_rank_40 rfl rfl (by decide) rfl ?_
  refine V_goto (tgt := 12) dX6_rank_43 (by decide) ?_
  exact V_wk [true, true, true, true] rfl (hk12 _ _ _ _ _ h)
def D_X6_rank_12 (fu : Nat)  : Nat → Int32 → Int32 → Int32 → Mem → Option ((Int32 ⊕ String) × Mem)
  | 0, _, _, _, _ => none
  | n + 1, v1, v2, v3, μ =>
    if (10 : Int32) ≤ v3 then
      some (.inl v2, μ)
    else
      if v2 = (-1 : Int32) then
        (D_X1_insurersAhead_0 fu μ 17 v3).bind fun x9 =>
        if x9 = v1 then
          D_X6_rank_40 fu (D_X6_rank_12 fu n) v1 v3 v3 μ
        else
          D_X6_rank_40 fu (D_X6_rank_12 fu n) v1 v2 v3 μ
      else
        some (.inl v2, μ)
set_option maxRecDepth 20000 in
theorem T_X6_rank_12 (G : GX) (fu : Nat)  (hG : gt G = tbl) : ∀ (n : Nat) (v1 : Int32) (v2 : Int32) (v3 : Int32) (μ : Mem) (r : ((Int32 ⊕ String) × Mem)) , D_X6_rank_12 fu n v1 v2 v3 μ = some r → V G mX6_rank 12 [some (.ref 0), some (.int v1), some (.int v2), some (.int v3)] [] μ (ouI r.1) (r.2) := by
  intro n
  induction n with
  | zero =>
    intro v1 v2 v3 μ r h
    exact nomatch (show (none : Option ((Int32 ⊕ String) × Mem)) = some r from h)
  | succ n ih =>
    intro v1 v2 v3 μ r h
    rw [D_X6_rank_12] at h
    refine V_iload_n dX6_rank_12 rfl ?_
    refine V_bipush (v := 10) dX6_rank_13 rfl ?_
    by_cases c15 : (10 : Int32) ≤ v3
    · rw [if_pos c15] at h
      refine V_icmpge_t (tgt := 46) dX6_rank_15 (by decide) c15 ?_
      refine V_iload_n dX6_rank_46 rfl ?_
      cases h
      exact V_iret rfl dX6_rank_47
    · rw [if_neg c15] at h
      refine V_icmpge_f (tgt := 46) dX6_rank_15 (by decide) c15 ?_
      refine V_iload_n dX6_rank_18 rfl ?_
      refine V_iconst (v := (-1)) dX6_rank_19 rfl ?_
      by_cases c20 : v2 = (-1 : Int32)
      · rw [if_pos c20] at h
        refine V_icmpne_f (tgt := 46) dX6_rank_20 (by decide) c20 ?_
        refine V_aload_n dX6_rank_23 rfl ?_
        refine V_getR (kf := 1) k_X6 (by decide) lk_RX6_19 rfl dX6_rank_24 (tq_0 hG) rfl ?_
        refine V_getR (kf := 1) k_X0 (by decide) lk_RX6_107 rfl dX6_rank_27 (tq_3 hG) rfl ?_
        refine V_iload_n dX6_rank_30 rfl ?_
        obtain ⟨x9, y10, h⟩ := bi_o h
        refine V_callV (as := [.int v3]) (q := 17) (rest := []) dX6_rank_31 ov_mX1_insurersAhead lk_RX6_272 (by decide) (by decide) rfl rfl (Nat.le_of_ble_eq_true rfl) (tq_17 hG) rfl (VM_X1_insurersAhead G fu μ 17 hG (Or.inl rfl) v3 _ y10) ?_
        refine V_iload_n dX6_rank_34 rfl ?_
        by_cases c35 : x9 = v1
        · rw [if_pos c35] at h
          refine V_icmpne_f (tgt := 40) dX6_rank_35 (by decide) c35 ?_
          refine V_iload_n dX6_rank_38 rfl ?_
          refine V_istore_n (lv2 := [some (.ref 0), some (.int v1), some (.int v3), some (.int v3)]) dX6_rank_39 (by decide) rfl ?_
          exact V_wk [true, true, true, true] rfl (T_X6_rank_40 G fu hG (D_X6_rank_12 fu n) ih _ _ _ _ _ h)
        · rw [if_neg c35] at h
          refine V_icmpne_t (tgt := 40) dX6_rank_35 (by decide) c35 ?_
          exact V_wk [true, true, true, true] rfl (T_X6_rank_40 G fu hG (D_X6_rank_12 fu n) ih _ _ _ _ _ h)
      · rw [if_neg c20] at h
        refine V_icmpne_t (tgt := 46) dX6_rank_20 (by decide) c20 ?_
        refine V_iload_n dX6_rank_46 rfl ?_
        cases h
        exact V_iret rfl dX6_rank_47
def D_X6_rank_0 (fu : Nat)  (a1 : Int32) (μ : Mem) : Option ((Int32 ⊕ String) × Mem) :=
  (D_X6_isInsurer_0 μ a1).bind fun x1 =>
  (D_X6_needRight_0 (b2i x1) μ).bind fun x3 =>
  tx x3 fun v5 m6 =>
  D_X6_rank_12 fu fu a1 (-1) 0 m6
set_option maxRecDepth 20000 in
theorem T_X6_rank_0 (G : GX) (fu : Nat)  (hG : gt G = tbl) : ∀ (a1 : Int32) (μ : Mem) (r : ((Int32 ⊕ String) × Mem)) , D_X6_rank_0 fu a1 μ = some r → V G mX6_rank 0 [some (.ref 0), some (.int a1), none, none] [] μ (ouI r.1) (r.2) := by
  intro a1 μ r h
  unfold D_X6_rank_0 at h
  refine V_aload_n dX6_rank_0 rfl ?_
  refine V_iload_n dX6_rank_1 rfl ?_
  obtain ⟨x1, y2, h⟩ := bi_o h
  refine V_callS (as := [.int a1]) (rest := [.ref 0]) dX6_rank_2 os_mX6_isInsurer rfl lk_RX6_74 (by decide) (by decide) rfl rfl (Nat.le_of_ble_eq_true rfl) (VM_X6_isInsurer G μ hG a1 _ y2) ?_
  obtain ⟨x3, y4, h⟩ := bi_o h
  have z7 := VM_X6_needRight G hG (b2i x1) μ _ y4
  rcases tx_o h with ⟨v5, q8, h⟩ | ⟨E, q8, h⟩
  · rw [q8] at z7
    generalize x3.2 = m6 at h z7
    refine V_callV (as := [.int (b2i x1)]) (q := 0) (rest := []) dX6_rank_5 ov_mX6_needRight lk_RX6_47 (by decide) (by decide) rfl rfl (Nat.le_of_ble_eq_true rfl) (tq_0 hG) rfl (z7) ?_
    refine V_iconst (v := (-1)) dX6_rank_8 rfl ?_
    refine V_istore_n (lv2 := [some (.ref 0), some (.int a1), some (.int (-1)), none]) dX6_rank_9 (by decide) rfl ?_
    refine V_iconst (v := 0) dX6_rank_10 rfl ?_
    refine V_istore_n (lv2 := [some (.ref 0), some (.int a1), some (.int (-1)), some (.int 0)]) dX6_rank_11 (by decide) rfl ?_
    exact V_wk [true, true, true, true] rfl (T_X6_rank_12 G fu hG fu _ _ _ _ _ h)
  · rw [q8] at z7
    cases h
    exact V_callVX (as := [.int (b2i x1)]) (q := 0) (rest := []) dX6_rank_5 rfl ov_mX6_needRight lk_RX6_47 (by decide) (by decide) rfl rfl (Nat.le_of_ble_eq_true rfl) (tq_0 hG) rfl (z7)
theorem VM_X6_rank (G : GX) (fu : Nat)  (hG : gt G = tbl) (a1 : Int32) (μ : Mem) (r : ((Int32 ⊕ String) × Mem)) (h : D_X6_rank_0 fu a1 μ = some r) : VM G mX6_rank [.ref 0, .int a1] μ (ouI r.1) (r.2) := V_entry ok_mX6_rank rfl rfl (Nat.le_of_ble_eq_true rfl) (T_X6_rank_0 G fu hG a1 μ r h)
def D_X6_offs_23 (fu : Nat)  (v1 : Int32) (v2 : Int32) (v3 : Int32) (v4 : Int32) (s1 : Int32) (μ : Mem) : Option ((Int32 ⊕ String) × Mem) :=
  (D_X6_needRight_0 s1 μ).bind fun x5 =>
  tx x5 fun v7 m8 =>
  (D_X6_yearsSetOff_0 fu m8 v1 v2 v3 v4).bind fun x11 =>
  some (.inl x11, m8)
set_option maxRecDepth 20000 in
theorem T_X6_offs_23 (G : GX) (fu : Nat)  (hG : gt G = tbl) : ∀ (v1 : Int32) (v2 : Int32) (v3 : Int32) (v4 : Int32) (s1 : Int32) (μ : Mem) (r : ((Int32 ⊕ String) × Mem)) , D_X6_offs_23 fu v1 v2 v3 v4 s1 μ = some r → V G mX6_offs 23 [none, some (.int v1), some (.int v2), some (.int v3), some (.int v4)] [.int s1, .ref 0] μ (ouI r.1) (r.2) := by
  intro v1 v2 v3 v4 s1 μ r h
  unfold D_X6_offs_23 at h
  obtain ⟨x5, y6, h⟩ := bi_o h
  have z9 := VM_X6_needRight G hG s1 μ _ y6
  rcases tx_o h with ⟨v7, q10, h⟩ | ⟨E, q10, h⟩
  · rw [q10] at z9
    generalize x5.2 = m8 at h z9
    refine V_callV (as := [.int s1]) (q := 0) (rest := []) dX6_offs_23 ov_mX6_needRight lk_RX6_47 (by decide) (by decide) rfl rfl (Nat.le_of_ble_eq_true rfl) (tq_0 hG) rfl (z9) ?_
    refine V_iload_n dX6_offs_26 rfl ?_
    refine V_iload_n dX6_offs_27 rfl ?_
    refine V_iload_n dX6_offs_28 rfl ?_
    refine V_iload dX6_offs_29 rfl ?_
    obtain ⟨x11, y12, h⟩ := bi_o h
    refine V_callS (as := [.int v1, .int v2, .int v3, .int v4]) (rest := []) dX6_offs_31 os_mX6_yearsSetOff rfl lk_RX6_278 (by decide) (by decide) rfl rfl (Nat.le_of_ble_eq_true rfl) (VM_X6_yearsSetOff G fu m8 hG v1 v2 v3 v4 _ y12) ?_
    cases h
    exact V_iret rfl dX6_offs_34
  · rw [q10] at z9
    cases h
    exact V_callVX (as := [.int s1]) (q := 0) (rest := []) dX6_offs_23 rfl ov_mX6_needRight lk_RX6_47 (by decide) (by decide) rfl rfl (Nat.le_of_ble_eq_true rfl) (tq_0 hG) rfl (z9)
def D_X6_offs_22 (fu : Nat)  (v1 : Int32) (v2 : Int32) (v3 : Int32) (v4 : Int32) (μ : Mem) : Option ((Int32 ⊕ String) × Mem) :=
  D_X6_offs_23 fu v1 v2 v3 v4 0 μ
set_option maxRecDepth 20000 in
theorem T_X6_offs_22 (G : GX) (fu : Nat)  (hG : gt G = tbl) : ∀ (v1 : Int32) (v2 : Int32) (v3 : Int32) (v4 : Int32) (μ : Mem) (r : ((Int32 ⊕ String) × Mem)) , D_X6_offs_22 fu v1 v2 v3 v4 μ = some r → V G mX6_offs 22 [none, some (.int v1), some (.int v2), some (.int v3), some (.int v4)] [.ref 0] μ (ouI r.1) (r.2) := by
  intro v1 v2 v3 v4 μ r h
  unfold D_X6_offs_22 at h
  refine V_iconst (v := 0) dX6_offs_22 rfl ?_
  exact V_wk [false, true, true, true, true] rfl (T_X6_offs_23 G fu hG _ _ _ _ _ _ _ h)
def D_X6_offs_0 (fu : Nat)  (a1 : Int32) (a2 : Int32) (a3 : Int32) (a4 : Int32) (μ : Mem) : Option ((Int32 ⊕ String) × Mem) :=
  (D_X6_areHarmYears_0 μ a1 a2 a3).bind fun x1 =>
  if x1 = true then
    (D_X6_isRule_0 μ a4).bind fun x3 =>
    if x3 = true then
      D_X6_offs_23 fu a1 a2 a3 a4 1 μ
    else
      D_X6_offs_22 fu a1 a2 a3 a4 μ
  else
    D_X6_offs_22 fu a1 a2 a3 a4 μ
set_option maxRecDepth 20000 in
theorem T_X6_offs_0 (G : GX) (fu : Nat)  (hG : gt G = tbl) : ∀ (a1 : Int32) (a2 : Int32) (a3 : Int32) (a4 : Int32) (μ : Mem) (r : ((Int32 ⊕ String) × Mem)) , D_X6_offs_0 fu a1 a2 a3 a4 μ = some r → V G mX6_offs 0 [some (.ref 0), some (.int a1), some (.int a2), some (.int a3), some (.int a4)] [] μ (ouI r.1) (r.2) := by
  intro a1 a2 a3 a4 μ r h
  unfold D_X6_offs_0 at h
  refine V_aload_n dX6_offs_0 rfl ?_
  refine V_iload_n dX6_offs_1 rfl ?_
  refine V_iload_n dX6_offs_2 rfl ?_
  refine V_iload_n dX6_offs_3 rfl ?_
  obtain ⟨x1, y2, h⟩ := bi_o h
  refine V_callS (as := [.int a1, .int a2, .int a3]) (rest := [.ref 0]) dX6_offs_4 os_mX6_areHarmYears rfl lk_RX6_101 (by decide) (by decide) rfl rfl (Nat.le_of_ble_eq_true rfl) (VM_X6_areHarmYears G μ hG a1 a2 a3 _ y2) ?_
  by_cases c7 : x1 = true
  · rw [if_pos c7] at h
    refine V_ifeq_f (tgt := 22) dX6_offs_7 (by decide) (b2i_t.mp c7) ?_
    refine V_iload dX6_offs_10 rfl ?_
    obtain ⟨x3, y4, h⟩ := bi_o h
    refine V_callS (as := [.int a4]) (rest := [.ref 0]) dX6_offs_12 os_mX6_isRule rfl lk_RX6_275 (by decide) (by decide) rfl rfl (Nat.le_of_ble_eq_true rfl) (VM_X6_isRule G μ hG a4 _ y4) ?_
    by_cases c15 : x3 = true
    · rw [if_pos c15] at h
      refine V_ifeq_f (tgt := 22) dX6_offs_15 (by decide) (b2i_t.mp c15) ?_
      refine V_iconst (v := 1) dX6_offs_18 rfl ?_
      refine V_goto (tgt := 23) dX6_offs_19 (by decide) ?_
      exact V_wk [false, true, true, true, true] rfl (T_X6_offs_23 G fu hG _ _ _ _ _ _ _ h)
    · rw [if_neg c15] at h
      refine V_ifeq_t (tgt := 22) dX6_offs_15 (by decide) (b2i_f.mp c15) ?_
      exact V_wk [false, true, true, true, true] rfl (T_X6_offs_22 G fu hG _ _ _ _ _ _ h)
  · rw [if_neg c7] at h
    refine V_ifeq_t (tgt := 22) dX6_offs_7 (by decide) (b2i_f.mp c7) ?_
    exact V_wk [false, true, true, true, true] rfl (T_X6_offs_22 G fu hG _ _ _ _ _ _ h)
theorem VM_X6_offs (G : GX) (fu : Nat)  (hG : gt G = tbl) (a1 : Int32) (a2 : Int32) (a3 : Int32) (a4 : Int32) (μ : Mem) (r : ((Int32 ⊕ String) × Mem)) (h : D_X6_offs_0 fu a1 a2 a3 a4 μ = some r) : VM G mX6_offs [.ref 0, .int a1, .int a2, .int a3, .int a4] μ (ouI r.1) (r.2) := V_entry ok_mX6_offs rfl rfl (Nat.le_of_ble_eq_true rfl) (T_X6_offs_0 G fu hG a1 a2 a3 a4 μ r h)
def D_X6_setOffNow_0 (fu : Nat) (μ : Mem)  (a1 : Int32) (a2 : Int32) (a3 : Int32) : Option Int32 :=
  (D_X6_yearsSetOff_0 fu μ a1 a2 a3 (μ.1 3 4)).bind fun x1 =>
  some x1
set_option maxRecDepth 20000 in
theorem T_X6_setOffNow_0 (G : GX) (fu : Nat) (μ : Mem)  (hG : gt G = tbl) : ∀ (a1 : Int32) (a2 : Int32) (a3 : Int32) (r : Int32) , D_X6_setOffNow_0 fu μ a1 a2 a3 = some r → V G mX6_setOffNow 0 [some (.ref 0), some (.int a1), some (.int a2), some (.int a3)] [] μ (.inl (some (.int r))) (μ) := by
  intro a1 a2 a3 r h
  unfold D_X6_setOffNow_0 at h
  refine V_iload_n dX6_setOffNow_0 rfl ?_
  refine V_iload_n dX6_setOffNow_1 rfl ?_
  refine V_iload_n dX6_setOffNow_2 rfl ?_
  refine V_aload_n dX6_setOffNow_3 rfl ?_
  refine V_getR (kf := 1) k_X6 (by decide) lk_RX6_19 rfl dX6_setOffNow_4 (tq_0 hG) rfl ?_
  refine V_getI (kf := 4) k_X0 (by decide) lk_RX6_92 rfl dX6_setOffNow_7 (tq_3 hG) rfl ?_
  obtain ⟨x1, y2, h⟩ := bi_o h
  refine V_callS (as := [.int a1, .int a2, .int a3, .int (μ.1 3 4)]) (rest := []) dX6_setOffNow_10 os_mX6_yearsSetOff rfl lk_RX6_278 (by decide) (by decide) rfl rfl (Nat.le_of_ble_eq_true rfl) (VM_X6_yearsSetOff G fu μ hG a1 a2 a3 (μ.1 3 4) _ y2) ?_
  cases h
  exact V_iret rfl dX6_setOffNow_13
theorem VM_X6_setOffNow (G : GX) (fu : Nat) (μ : Mem)  (hG : gt G = tbl) (a1 : Int32) (a2 : Int32) (a3 : Int32) (r : Int32) (h : D_X6_setOffNow_0 fu μ a1 a2 a3 = some r) : VM G mX6_setOffNow [.ref 0, .int a1, .int a2, .int a3] μ (.inl (some (.int r))) (μ) := V_entry ok_mX6_setOffNow rfl rfl (Nat.le_of_ble_eq_true rfl) (T_X6_setOffNow_0 G fu μ hG a1 a2 a3 r h)
def D_X6_would_31 (fu : Nat)  (v1 : Int32) (v2 : Int32) (v3 : Int32) (v4 : Int32) (v5 : Int32) (s1 : Int32) (μ : Mem) : Option ((Int64 ⊕ String) × Mem) :=
  (D_X6_needRight_0 s1 μ).bind fun x7 =>
  tx x7 fun v9 m10 =>
  (D_X6_setOffNow_0 fu m10 v1 v2 v3).bind fun x13 =>
  (D_X4_plan_0 fu 3 24 x13 ((v4 : Int32).toInt64) (m10.1 3 5) m10).bind fun x15 =>
  gu (ib v5 10) <|
  some (.inl (x15.2.1 67 (Int32.toNatClampNeg v5)), x15)
set_option maxRecDepth 20000 in
theorem T_X6_would_31 (G : GX) (fu : Nat)  (hG : gt G = tbl) : ∀ (v1 : Int32) (v2 : Int32) (v3 : Int32) (v4 : Int32) (v5 : Int32) (s1 : Int32) (μ : Mem) (r : ((Int64 ⊕ String) × Mem)) , D_X6_would_31 fu v1 v2 v3 v4 v5 s1 μ = some r → V G mX6_would 31 [some (.ref 0), some (.int v1), some (.int v2), some (.int v3), some (.int v4), some (.int v5)] [.int s1, .ref 0] μ (ouL r.1) (r.2) := by
  intro v1 v2 v3 v4 v5 s1 μ r h
  unfold D_X6_would_31 at h
  obtain ⟨x7, y8, h⟩ := bi_o h
  have z11 := VM_X6_needRight G hG s1 μ _ y8
  rcases tx_o h with ⟨v9, q12, h⟩ | ⟨E, q12, h⟩
  · rw [q12] at z11
    generalize x7.2 = m10 at h z11
    refine V_callV (as := [.int s1]) (q := 0) (rest := []) dX6_would_31 ov_mX6_needRight lk_RX6_47 (by decide) (by decide) rfl rfl (Nat.le_of_ble_eq_true rfl) (tq_0 hG) rfl (z11) ?_
    refine V_aload_n dX6_would_34 rfl ?_
    refine V_getR (kf := 3) k_X6 (by decide) lk_RX6_29 rfl dX6_would_35 (tq_0 hG) rfl ?_
    refine V_aload_n dX6_would_38 rfl ?_
    refine V_getR (kf := 1) k_X6 (by decide) lk_RX6_19 rfl dX6_would_39 (tq_0 hG) rfl ?_
    refine V_bipush (v := 24) dX6_would_42 rfl ?_
    refine V_aload_n dX6_would_44 rfl ?_
    refine V_iload_n dX6_would_45 rfl ?_
    refine V_iload_n dX6_would_46 rfl ?_
    refine V_iload_n dX6_would_47 rfl ?_
    obtain ⟨x13, y14, h⟩ := bi_o h
    refine V_callV (as := [.int v1, .int v2, .int v3]) (q := 0) (rest := [.int 24, .ref 3, .ref 61]) dX6_would_48 ov_mX6_setOffNow lk_RX6_282 (by decide) (by decide) rfl rfl (Nat.le_of_ble_eq_true rfl) (tq_0 hG) rfl (VM_X6_setOffNow G fu m10 hG v1 v2 v3 _ y14) ?_
    refine V_iload dX6_would_51 rfl ?_
    refine V_i2l dX6_would_53 ?_
    refine V_aload_n dX6_would_54 rfl ?_
    refine V_getR (kf := 1) k_X6 (by decide) lk_RX6_19 rfl dX6_would_55 (tq_0 hG) rfl ?_
    refine V_getI (kf := 5) k_X0 (by decide) lk_RX6_95 rfl dX6_would_58 (tq_3 hG) rfl ?_
    obtain ⟨x15, y16, h⟩ := bi_o h
    refine V_callV (as := [.ref 3, .int 24, .int x13, .long ((v4 : Int32).toInt64), .int (m10.1 3 5)]) (q := 61) (rest := []) dX6_would_61 ov_mX4_plan lk_RX6_286 (by decide) (by decide) rfl rfl (Nat.le_of_ble_eq_true rfl) (tq_61 hG) rfl (VM_X4_plan G fu 3 hG (Or.inl rfl) 24 x13 ((v4 : Int32).toInt64) (m10.1 3 5) m10 _ y16) ?_
    refine V_aload_n dX6_would_64 rfl ?_
    refine V_getR (kf := 3) k_X6 (by decide) lk_RX6_29 rfl dX6_would_65 (tq_0 hG) rfl ?_
    refine V_getR (kf := 0) k_X4 (by decide) lk_RX6_290 rfl dX6_would_68 (tq_61 hG) rfl ?_
    refine V_getR (kf := 4) k_X3 (by decide) lk_RX6_294 rfl dX6_would_71 (tq_62 hG) rfl ?_
    refine V_iload dX6_would_74 rfl ?_
    obtain ⟨g17, h⟩ := gu_o h
    refine V_laload dX6_would_76 (tq_67 hG) (ib_in g17) ?_
    cases h
    exact V_lret rfl dX6_would_77
  · rw [q12] at z11
    cases h
    exact V_callVX (as := [.int s1]) (q := 0) (rest := []) dX6_would_31 rfl ov_mX6_needRight lk_RX6_47 (by decide) (by decide) rfl rfl (Nat.le_of_ble_eq_true rfl) (tq_0 hG) rfl (z11)
def D_X6_would_30 (fu : Nat)  (v1 : Int32) (v2 : Int32) (v3 : Int32) (v4 : Int32) (v5 : Int32) (μ : Mem) : Option ((Int64 ⊕ String) × Mem) :=
  D_X6_would_31 fu v1 v2 v3 v4 v5 0 μ
set_option maxRecDepth 20000 in
theorem T_X6_would_30 (G : GX) (fu : Nat)  (hG : gt G = tbl) : ∀ (v1 : Int32) (v2 : Int32) (v3 : Int32) (v4 : Int32) (v5 : Int32) (μ : Mem) (r : ((Int64 ⊕ String) × Mem)) , D_X6_would_30 fu v1 v2 v3 v4 v5 μ = some r → V G mX6_would 30 [some (.ref 0), some (.int v1), some (.int v2), some (.int v3), some (.int v4), some (.int v5)] [.ref 0] μ (ouL r.1) (r.2) := by
  intro v1 v2 v3 v4 v5 μ r h
  unfold D_X6_would_30 at h
  refine V_iconst (v := 0) dX6_would_30 rfl ?_
  exact V_wk [true, true, true, true, true, true] rfl (T_X6_would_31 G fu hG _ _ _ _ _ _ _ _ h)
def D_X6_would_0 (fu : Nat)  (a1 : Int32) (a2 : Int32) (a3 : Int32) (a4 : Int32) (a5 : Int32) (μ : Mem) : Option ((Int64 ⊕ String) × Mem) :=
  (D_X6_areHarmYears_0 μ a1 a2 a3).bind fun x1 =>
  if x1 = true then
    (D_X6_isAmount_0 μ a4).bind fun x3 =>
    if x3 = true then
      (D_X6_isInsurer_0 μ a5).bind fun x5 =>
      if x5 = true then
        D_X6_would_31 fu a1 a2 a3 a4 a5 1 μ
      else
        D_X6_would_30 fu a1 a2 a3 a4 a5 μ
    else
      D_X6_would_30 fu a1 a2 a3 a4 a5 μ
  else
    D_X6_would_30 fu a1 a2 a3 a4 a5 μ
set_option maxRecDepth 20000 in
theorem T_X6_would_0 (G : GX) (fu : Nat)  (hG : gt G = tbl) : ∀ (a1 : Int32) (a2 : Int32) (a3 : Int32) (a4 : Int32) (a5 : Int32) (μ : Mem) (r : ((Int64 ⊕ String) × Mem)) , D_X6_would_0 fu a1 a2 a3 a4 a5 μ = some r → V G mX6_would 0 [some (.ref 0), some (.int a1), some (.int a2), some (.int a3), some (.int a4), some (.int a5)] [] μ (ouL r.1) (r.2) := by
  intro a1 a2 a3 a4 a5 μ r h
  unfold D_X6_would_0 at h
  refine V_aload_n dX6_would_0 rfl ?_
  refine V_iload_n dX6_would_1 rfl ?_
  refine V_iload_n dX6_would_2 rfl ?_
  refine V_iload_n dX6_would_3 rfl ?_
  obtain ⟨x1, y2, h⟩ := bi_o h
  refine V_callS (as := [.int a1, .int a2, .int a3]) (rest := [.ref 0]) dX6_would_4 os_mX6_areHarmYears rfl lk_RX6_101 (by decide) (by decide) rfl rfl (Nat.le_of_ble_eq_true rfl) (VM_X6_areHarmYears G μ hG a1 a2 a3 _ y2) ?_
  by_cases c7 : x1 = true
  · rw [if_pos c7] at h
    refine V_ifeq_f (tgt := 30) dX6_would_7 (by decide) (b2i_t.mp c7) ?_
    refine V_iload dX6_would_10 rfl ?_
    obtain ⟨x3, y4, h⟩ := bi_o h
    refine V_callS (as := [.int a4]) (rest := [.ref 0]) dX6_would_12 os_mX6_isAmount rfl lk_RX6_104 (by decide) (by decide) rfl rfl (Nat.le_of_ble_eq_true rfl) (VM_X6_isAmount G μ hG a4 _ y4) ?_
    by_cases c15 : x3 = true
    · rw [if_pos c15] at h
      refine V_ifeq_f (tgt := 30) dX6_would_15 (by decide) (b2i_t.mp c15) ?_
      refine V_iload dX6_would_18 rfl ?_
      obtain ⟨x5, y6, h⟩ := bi_o h
      refine V_callS (as := [.int a5]) (rest := [.ref 0]) dX6_would_20 os_mX6_isInsurer rfl lk_RX6_74 (by decide) (by decide) rfl rfl (Nat.le_of_ble_eq_true rfl) (VM_X6_isInsurer G μ hG a5 _ y6) ?_
      by_cases c23 : x5 = true
      · rw [if_pos c23] at h
        refine V_ifeq_f (tgt := 30) dX6_would_23 (by decide) (b2i_t.mp c23) ?_
        refine V_iconst (v := 1) dX6_would_26 rfl ?_
        refine V_goto (tgt := 31) dX6_would_27 (by decide) ?_
        exact V_wk [true, true, true, true, true, true] rfl (T_X6_would_31 G fu hG _ _ _ _ _ _ _ _ h)
      · rw [if_neg c23] at h
        refine V_ifeq_t (tgt := 30) dX6_would_23 (by decide) (b2i_f.mp c23) ?_
        exact V_wk [true, true, true, true, true, true] rfl (T_X6_would_30 G fu hG _ _ _ _ _ _ _ h)
    · rw [if_neg c15] at h
      refine V_ifeq_t (tgt := 30) dX6_would_15 (by decide) (b2i_f.mp c15) ?_
      exact V_wk [true, true, true, true, true, true] rfl (T_X6_would_30 G fu hG _ _ _ _ _ _ _ h)
  · rw [if_neg c7] at h
    refine V_ifeq_t (tgt := 30) dX6_would_7 (by decide) (b2i_f.mp c7) ?_
    exact V_wk [true, true, true, true, true, true] rfl (T_X6_would_30 G fu hG _ _ _ _ _ _ _ h)
theorem VM_X6_would (G : GX) (fu : Nat)  (hG : gt G = tbl) (a1 : Int32) (a2 : Int32) (a3 : Int32) (a4 : Int32) (a5 : Int32) (μ : Mem) (r : ((Int64 ⊕ String) × Mem)) (h : D_X6_would_0 fu a1 a2 a3 a4 a5 μ = some r) : VM G mX6_would [.ref 0, .int a1, .int a2, .int a3, .int a4, .int a5] μ (ouL r.1) (r.2) := V_entry ok_mX6_would rfl rfl (Nat.le_of_ble_eq_true rfl) (T_X6_would_0 G fu hG a1 a2 a3 a4 a5 μ r h)
def D_X6_takes_33 (fu : Nat)  (v1 : Int32) (v2 : Int32) (v3 : Int32) (v4 : Int32) (v5 : Int32) (s1 : Int32) (μ : Mem) : Option ((Int64 ⊕ String) × Mem) :=
  (D_X6_needRight_0 s1 μ).bind fun x13 =>
  tx x13 fun v15 m16 =>
  (D_X6_setOffNow_0 fu m16 v1 v2 v3).bind fun x19 =>
  (D_X4_plan_0 fu 3 24 x19 ((v4 : Int32).toInt64) (m16.1 3 5) m16).bind fun x21 =>
  gu (ib v5 40) <|
  some (.inl (x21.2.1 63 (Int32.toNatClampNeg v5)), x21)
set_option maxRecDepth 20000 in
theorem T_X6_takes_33 (G : GX) (fu : Nat)  (hG : gt G = tbl) : ∀ (v1 : Int32) (v2 : Int32) (v3 : Int32) (v4 : Int32) (v5 : Int32) (s1 : Int32) (μ : Mem) (r : ((Int64 ⊕ String) × Mem)) , D_X6_takes_33 fu v1 v2 v3 v4 v5 s1 μ = some r → V G mX6_takes 33 [some (.ref 0), some (.int v1), some (.int v2), some (.int v3), some (.int v4), some (.int v5)] [.int s1, .ref 0] μ (ouL r.1) (r.2) := by
  intro v1 v2 v3 v4 v5 s1 μ r h
  unfold D_X6_takes_33 at h
  obtain ⟨x13, y14, h⟩ := bi_o h
  have z17 := VM_X6_needRight G hG s1 μ _ y14
  rcases tx_o h with ⟨v15, q18, h⟩ | ⟨E, q18, h⟩
  · rw [q18] at z17
    generalize x13.2 = m16 at h z17
    refine V_callV (as := [.int s1]) (q := 0) (rest := []) dX6_takes_33 ov_mX6_needRight lk_RX6_47 (by decide) (by decide) rfl rfl (Nat.le_of_ble_eq_true rfl) (tq_0 hG) rfl (z17) ?_
    refine V_aload_n dX6_takes_36 rfl ?_
    refine V_getR (kf := 3) k_X6 (by decide) lk_RX6_29 rfl dX6_takes_37 (tq_0 hG) rfl ?_
    refine V_aload_n dX6_takes_40 rfl ?_
    refine V_getR (kf := 1) k_X6 (by decide) lk_RX6_19 rfl dX6_takes_41 (tq_0 hG) rfl ?_
    refine V_bipush (v := 24) dX6_takes_44 rfl ?_
    refine V_aload_n dX6_takes_46 rfl ?_
    refine V_iload_n dX6_takes_47 rfl ?_
    refine V_iload_n dX6_takes_48 rfl ?_
    refine V_iload_n dX6_takes_49 rfl ?_
    obtain ⟨x19, y20, h⟩ := bi_o h
    refine V_callV (as := [.int v1, .int v2, .int v3]) (q := 0) (rest := [.int 24, .ref 3, .ref 61]) dX6_takes_50 ov_mX6_setOffNow lk_RX6_282 (by decide) (by decide) rfl rfl (Nat.le_of_ble_eq_true rfl) (tq_0 hG) rfl (VM_X6_setOffNow G fu m16 hG v1 v2 v3 _ y20) ?_
    refine V_iload dX6_takes_53 rfl ?_
    refine V_i2l dX6_takes_55 ?_
    refine V_aload_n dX6_takes_56 rfl ?_
    refine V_getR (kf := 1) k_X6 (by decide) lk_RX6_19 rfl dX6_takes_57 (tq_0 hG) rfl ?_
    refine V_getI (kf := 5) k_X0 (by decide) lk_RX6_95 rfl dX6_takes_60 (tq_3 hG) rfl ?_
    obtain ⟨x21, y22, h⟩ := bi_o h
    refine V_callV (as := [.ref 3, .int 24, .int x19, .long ((v4 : Int32).toInt64), .int (m16.1 3 5)]) (q := 61) (rest := []) dX6_takes_63 ov_mX4_plan lk_RX6_286 (by decide) (by decide) rfl rfl (Nat.le_of_ble_eq_true rfl) (tq_61 hG) rfl (VM_X4_plan G fu 3 hG (Or.inl rfl) 24 x19 ((v4 : Int32).toInt64) (m16.1 3 5) m16 _ y22) ?_
    refine V_aload_n dX6_takes_66 rfl ?_
    refine V_getR (kf := 3) k_X6 (by decide) lk_RX6_29 rfl dX6_takes_67 (tq_0 hG) rfl ?_
    refine V_getR (kf := 0) k_X4 (by decide) lk_RX6_290 rfl dX6_takes_70 (tq_61 hG) rfl ?_
    refine V_getR (kf := 0) k_X3 (by decide) lk_RX6_299 rfl dX6_takes_73 (tq_62 hG) rfl ?_
    refine V_iload dX6_takes_76 rfl ?_
    obtain ⟨g23, h⟩ := gu_o h
    refine V_laload dX6_takes_78 (tq_63 hG) (ib_in g23) ?_
    cases h
    exact V_lret rfl dX6_takes_79
  · rw [q18] at z17
    cases h
    exact V_callVX (as := [.int s1]) (q := 0) (rest := []) dX6_takes_33 rfl ov_mX6_needRight lk_RX6_47 (by decide) (by decide) rfl rfl (Nat.le_of_ble_eq_true rfl) (tq_0 hG) rfl (z17)
def D_X6_takes_32 (fu : Nat)  (v1 : Int32) (v2 : Int32) (v3 : Int32) (v4 : Int32) (v5 : Int32) (μ : Mem) : Option ((Int64 ⊕ String) × Mem) :=
  D_X6_takes_33 fu v1 v2 v3 v4 v5 0 μ
set_option maxRecDepth 20000 in
theorem T_X6_takes_32 (G : GX) (fu : Nat)  (hG : gt G = tbl) : ∀ (v1 : Int32) (v2 : Int32) (v3 : Int32) (v4 : Int32) (v5 : Int32) (μ : Mem) (r : ((Int64 ⊕ String) × Mem)) , D_X6_takes_32 fu v1 v2 v3 v4 v5 μ = some r → V G mX6_takes 32 [some (.ref 0), some (.int v1), some (.int v2), some (.int v3), some (.int v4), some (.int v5)] [.ref 0] μ (ouL r.1) (r.2) := by
  intro v1 v2 v3 v4 v5 μ r h
  unfold D_X6_takes_32 at h
  refine V_iconst (v := 0) dX6_takes_32 rfl ?_
  exact V_wk [true, true, true, true, true, true] rfl (T_X6_takes_33 G fu hG _ _ _ _ _ _ _ _ h)
def D_X6_takes_0 (fu : Nat)  (a1 : Int32) (a2 : Int32) (a3 : Int32) (a4 : Int32) (a5 : Int32) (μ : Mem) : Option ((Int64 ⊕ String) × Mem) :=
  (D_X6_isLayer_0 μ a5).bind fun x1 =>
  (D_X6_needThere_0 (b2i x1) μ).bind fun x3 =>
  tx x3 fun v5 m6 =>
  (D_X6_areHarmYears_0 m6 a1 a2 a3).bind fun x9 =>
  if x9 = true then
    (D_X6_isAmount_0 m6 a4).bind fun x11 =>
    if x11 = true then
      D_X6_takes_33 fu a1 a2 a3 a4 a5 1 m6
    else
      D_X6_takes_32 fu a1 a2 a3 a4 a5 m6
  else
    D_X6_takes_32 fu a1 a2 a3 a4 a5 m6
set_option maxRecDepth 20000 in
theorem T_X6_takes_0 (G : GX) (fu : Nat)  (hG : gt G = tbl) : ∀ (a1 : Int32) (a2 : Int32) (a3 : Int32) (a4 : Int32) (a5 : Int32) (μ : Mem) (r : ((Int64 ⊕ String) × Mem)) , D_X6_takes_0 fu a1 a2 a3 a4 a5 μ = some r → V G mX6_takes 0 [some (.ref 0), some (.int a1), some (.int a2), some (.int a3), some (.int a4), some (.int a5)] [] μ (ouL r.1) (r.2) := by
  intro a1 a2 a3 a4 a5 μ r h
  unfold D_X6_takes_0 at h
  refine V_aload_n dX6_takes_0 rfl ?_
  refine V_aload_n dX6_takes_1 rfl ?_
  refine V_iload dX6_takes_2 rfl ?_
  obtain ⟨x1, y2, h⟩ := bi_o h
  refine V_callV (as := [.int a5]) (q := 0) (rest := [.ref 0]) dX6_takes_4 ov_mX6_isLayer lk_RX6_68 (by decide) (by decide) rfl rfl (Nat.le_of_ble_eq_true rfl) (tq_0 hG) rfl (VM_X6_isLayer G μ hG a5 _ y2) ?_
  obtain ⟨x3, y4, h⟩ := bi_o h
  have z7 := VM_X6_needThere G hG (b2i x1) μ _ y4
  rcases tx_o h with ⟨v5, q8, h⟩ | ⟨E, q8, h⟩
  · rw [q8] at z7
    generalize x3.2 = m6 at h z7
    refine V_callV (as := [.int (b2i x1)]) (q := 0) (rest := []) dX6_takes_7 ov_mX6_needThere lk_RX6_71 (by decide) (by decide) rfl rfl (Nat.le_of_ble_eq_true rfl) (tq_0 hG) rfl (z7) ?_
    refine V_aload_n dX6_takes_10 rfl ?_
    refine V_iload_n dX6_takes_11 rfl ?_
    refine V_iload_n dX6_takes_12 rfl ?_
    refine V_iload_n dX6_takes_13 rfl ?_
    obtain ⟨x9, y10, h⟩ := bi_o h
    refine V_callS (as := [.int a1, .int a2, .int a3]) (rest := [.ref 0]) dX6_takes_14 os_mX6_areHarmYears rfl lk_RX6_101 (by decide) (by decide) rfl rfl (Nat.le_of_ble_eq_true rfl) (VM_X6_areHarmYears G m6 hG a1 a2 a3 _ y10) ?_
    by_cases c17 : x9 = true
    · rw [if_pos c17] at h
      refine V_ifeq_f (tgt := 32) dX6_takes_17 (by decide) (b2i_t.mp c17) ?_
      refine V_iload dX6_takes_20 rfl ?_
      obtain ⟨x11, y12, h⟩ := bi_o h
      refine V_callS (as := [.int a4]) (rest := [.ref 0]) dX6_takes_22 os_mX6_isAmount rfl lk_RX6_104 (by decide) (by decide) rfl rfl (Nat.le_of_ble_eq_true rfl) (VM_X6_isAmount G m6 hG a4 _ y12) ?_
      by_cases c25 : x11 = true
      · rw [if_pos c25] at h
        refine V_ifeq_f (tgt := 32) dX6_takes_25 (by decide) (b2i_t.mp c25) ?_
        refine V_iconst (v := 1) dX6_takes_28 rfl ?_
        refine V_goto (tgt := 33) dX6_takes_29 (by decide) ?_
        exact V_wk [true, true, true, true, true, true] rfl (T_X6_takes_33 G fu hG _ _ _ _ _ _ _ _ h)
      · rw [if_neg c25] at h
        refine V_ifeq_t (tgt := 32) dX6_takes_25 (by decide) (b2i_f.mp c25) ?_
        exact V_wk [true, true, true, true, true, true] rfl (T_X6_takes_32 G fu hG _ _ _ _ _ _ _ h)
    · rw [if_neg c17] at h
      refine V_ifeq_t (tgt := 32) dX6_takes_17 (by decide) (b2i_f.mp c17) ?_
      exact V_wk [true, true, true, true, true, true] rfl (T_X6_takes_32 G fu hG _ _ _ _ _ _ _ h)
  · rw [q8] at z7
    cases h
    exact V_callVX (as := [.int (b2i x1)]) (q := 0) (rest := []) dX6_takes_7 rfl ov_mX6_needThere lk_RX6_71 (by decide) (by decide) rfl rfl (Nat.le_of_ble_eq_true rfl) (tq_0 hG) rfl (z7)
theorem VM_X6_takes (G : GX) (fu : Nat)  (hG : gt G = tbl) (a1 : Int32) (a2 : Int32) (a3 : Int32) (a4 : Int32) (a5 : Int32) (μ : Mem) (r : ((Int64 ⊕ String) × Mem)) (h : D_X6_takes_0 fu a1 a2 a3 a4 a5 μ = some r) : VM G mX6_takes [.ref 0, .int a1, .int a2, .int a3, .int a4, .int a5] μ (ouL r.1) (r.2) := V_entry ok_mX6_takes rfl rfl (Nat.le_of_ble_eq_true rfl) (T_X6_takes_0 G fu hG a1 a2 a3 a4 a5 μ r h)
def D_X6_drops_31 (fu : Nat)  (v1 : Int32) (v2 : Int32) (v3 : Int32) (v4 : Int32) (v5 : Int32) (s1 : Int32) (μ : Mem) : Option ((Int64 ⊕ String) × Mem) :=
  (D_X6_needRight_0 s1 μ).bind fun x7 =>
  tx x7 fun v9 m10 =>
  (D_X6_setOffNow_0 fu m10 v1 v2 v3).bind fun x13 =>
  (D_X4_plan_0 fu 3 24 x13 ((v4 : Int32).toInt64) (m10.1 3 5) m10).bind fun x15 =>
  gu (ib v5 7) <|
  some (.inl (x15.2.1 68 (Int32.toNatClampNeg v5)), x15)
set_option maxRecDepth 20000 in
theorem T_X6_drops_31 (G : GX) (fu : Nat)  (hG : gt G = tbl) : ∀ (v1 : Int32) (v2 : Int32) (v3 : Int32) (v4 : Int32) (v5 : Int32) (s1 : Int32) (μ : Mem) (r : ((Int64 ⊕ String) × Mem)) , D_X6_drops_31 fu v1 v2 v3 v4 v5 s1 μ = some r → V G mX6_drops 31 [some (.ref 0), some (.int v1), some (.int v2), some (.int v3), some (.int v4), some (.int v5)] [.int s1, .ref 0] μ (ouL r.1) (r.2) := by
  intro v1 v2 v3 v4 v5 s1 μ r h
  unfold D_X6_drops_31 at h
  obtain ⟨x7, y8, h⟩ := bi_o h
  have z11 := VM_X6_needRight G hG s1 μ _ y8
  rcases tx_o h with ⟨v9, q12, h⟩ | ⟨E, q12, h⟩
  · rw [q12] at z11
    generalize x7.2 = m10 at h z11
    refine V_callV (as := [.int s1]) (q := 0) (rest := []) dX6_drops_31 ov_mX6_needRight lk_RX6_47 (by decide) (by decide) rfl rfl (Nat.le_of_ble_eq_true rfl) (tq_0 hG) rfl (z11) ?_
    refine V_aload_n dX6_drops_34 rfl ?_
    refine V_getR (kf := 3) k_X6 (by decide) lk_RX6_29 rfl dX6_drops_35 (tq_0 hG) rfl ?_
    refine V_aload_n dX6_drops_38 rfl ?_
    refine V_getR (kf := 1) k_X6 (by decide) lk_RX6_19 rfl dX6_drops_39 (tq_0 hG) rfl ?_
    refine V_bipush (v := 24) dX6_drops_42 rfl ?_
    refine V_aload_n dX6_drops_44 rfl ?_
    refine V_iload_n dX6_drops_45 rfl ?_
    refine V_iload_n dX6_drops_46 rfl ?_
    refine V_iload_n dX6_drops_47 rfl ?_
    obtain ⟨x13, y14, h⟩ := bi_o h
    refine V_callV (as := [.int v1, .int v2, .int v3]) (q := 0) (rest := [.int 24, .ref 3, .ref 61]) dX6_drops_48 ov_mX6_setOffNow lk_RX6_282 (by decide) (by decide) rfl rfl (Nat.le_of_ble_eq_true rfl) (tq_0 hG) rfl (VM_X6_setOffNow G fu m10 hG v1 v2 v3 _ y14) ?_
    refine V_iload dX6_drops_51 rfl ?_
    refine V_i2l dX6_drops_53 ?_
    refine V_aload_n dX6_drops_54 rfl ?_
    refine V_getR (kf := 1) k_X6 (by decide) lk_RX6_19 rfl dX6_drops_55 (tq_0 hG) rfl ?_
    refine V_getI (kf := 5) k_X0 (by decide) lk_RX6_95 rfl dX6_drops_58 (tq_3 hG) rfl ?_
    obtain ⟨x15, y16, h⟩ := bi_o h
    refine V_callV (as := [.ref 3, .int 24, .int x13, .long ((v4 : Int32).toInt64), .int (m10.1 3 5)]) (q := 61) (rest := []) dX6_drops_61 ov_mX4_plan lk_RX6_286 (by decide) (by decide) rfl rfl (Nat.le_of_ble_eq_true rfl) (tq_61 hG) rfl (VM_X4_plan G fu 3 hG (Or.inl rfl) 24 x13 ((v4 : Int32).toInt64) (m10.1 3 5) m10 _ y16) ?_
    refine V_aload_n dX6_drops_64 rfl ?_
    refine V_getR (kf := 3) k_X6 (by decide) lk_RX6_29 rfl dX6_drops_65 (tq_0 hG) rfl ?_
    refine V_getR (kf := 0) k_X4 (by decide) lk_RX6_290 rfl dX6_drops_68 (tq_61 hG) rfl ?_
    refine V_getR (kf := 5) k_X3 (by decide) lk_RX6_300 rfl dX6_drops_71 (tq_62 hG) rfl ?_
    refine V_iload dX6_drops_74 rfl ?_
    obtain ⟨g17, h⟩ := gu_o h
    refine V_laload dX6_drops_76 (tq_68 hG) (ib_in g17) ?_
    cases h
    exact V_lret rfl dX6_drops_77
  · rw [q12] at z11
    cases h
    exact V_callVX (as := [.int s1]) (q := 0) (rest := []) dX6_drops_31 rfl ov_mX6_needRight lk_RX6_47 (by decide) (by decide) rfl rfl (Nat.le_of_ble_eq_true rfl) (tq_0 hG) rfl (z11)
def D_X6_drops_30 (fu : Nat)  (v1 : Int32) (v2 : Int32) (v3 : Int32) (v4 : Int32) (v5 : Int32) (μ : Mem) : Option ((Int64 ⊕ String) × Mem) :=
  D_X6_drops_31 fu v1 v2 v3 v4 v5 0 μ
set_option maxRecDepth 20000 in
theorem T_X6_drops_30 (G : GX) (fu : Nat)  (hG : gt G = tbl) : ∀ (v1 : Int32) (v2 : Int32) (v3 : Int32) (v4 : Int32) (v5 : Int32) (μ : Mem) (r : ((Int64 ⊕ String) × Mem)) , D_X6_drops_30 fu v1 v2 v3 v4 v5 μ = some r → V G mX6_drops 30 [some (.ref 0), some (.int v1), some (.int v2), some (.int v3), some (.int v4), some (.int v5)] [.ref 0] μ (ouL r.1) (r.2) := by
  intro v1 v2 v3 v4 v5 μ r h
  unfold D_X6_drops_30 at h
  refine V_iconst (v := 0) dX6_drops_30 rfl ?_
  exact V_wk [true, true, true, true, true, true] rfl (T_X6_drops_31 G fu hG _ _ _ _ _ _ _ _ h)
def D_X6_drops_0 (fu : Nat)  (a1 : Int32) (a2 : Int32) (a3 : Int32) (a4 : Int32) (a5 : Int32) (μ : Mem) : Option ((Int64 ⊕ String) × Mem) :=
  (D_X6_areHarmYears_0 μ a1 a2 a3).bind fun x1 =>
  if x1 = true then
    (D_X6_isAmount_0 μ a4).bind fun x3 =>
    if x3 = true then
      (D_X6_isReason_0 μ a5).bind fun x5 =>
      if x5 = true then
        D_X6_drops_31 fu a1 a2 a3 a4 a5 1 μ
      else
        D_X6_drops_30 fu a1 a2 a3 a4 a5 μ
    else
      D_X6_drops_30 fu a1 a2 a3 a4 a5 μ
  else
    D_X6_drops_30 fu a1 a2 a3 a4 a5 μ
set_option maxRecDepth 20000 in
theorem T_X6_drops_0 (G : GX) (fu : Nat)  (hG : gt G = tbl) : ∀ (a1 : Int32) (a2 : Int32) (a3 : Int32) (a4 : Int32) (a5 : Int32) (μ : Mem) (r : ((Int64 ⊕ String) × Mem)) , D_X6_drops_0 fu a1 a2 a3 a4 a5 μ = some r → V G mX6_drops 0 [some (.ref 0), some (.int a1), some (.int a2), some (.int a3), some (.int a4), some (.int a5)] [] μ (ouL r.1) (r.2) := by
  intro a1 a2 a3 a4 a5 μ r h
  unfold D_X6_drops_0 at h
  refine V_aload_n dX6_drops_0 rfl ?_
  refine V_iload_n dX6_drops_1 rfl ?_
  refine V_iload_n dX6_drops_2 rfl ?_
  refine V_iload_n dX6_drops_3 rfl ?_
  obtain ⟨x1, y2, h⟩ := bi_o h
  refine V_callS (as := [.int a1, .int a2, .int a3]) (rest := [.ref 0]) dX6_drops_4 os_mX6_areHarmYears rfl lk_RX6_101 (by decide) (by decide) rfl rfl (Nat.le_of_ble_eq_true rfl) (VM_X6_areHarmYears G μ hG a1 a2 a3 _ y2) ?_
  by_cases c7 : x1 = true
  · rw [if_pos c7] at h
    refine V_ifeq_f (tgt := 30) dX6_drops_7 (by decide) (b2i_t.mp c7) ?_
    refine V_iload dX6_drops_10 rfl ?_
    obtain ⟨x3, y4, h⟩ := bi_o h
    refine V_callS (as := [.int a4]) (rest := [.ref 0]) dX6_drops_12 os_mX6_isAmount rfl lk_RX6_104 (by decide) (by decide) rfl rfl (Nat.le_of_ble_eq_true rfl) (VM_X6_isAmount G μ hG a4 _ y4) ?_
    by_cases c15 : x3 = true
    · rw [if_pos c15] at h
      refine V_ifeq_f (tgt := 30) dX6_drops_15 (by decide) (b2i_t.mp c15) ?_
      refine V_iload dX6_drops_18 rfl ?_
      obtain ⟨x5, y6, h⟩ := bi_o h
      refine V_callS (as := [.int a5]) (rest := [.ref 0]) dX6_drops_20 os_mX6_isReason rfl lk_RX6_244 (by decide) (by decide) rfl rfl (Nat.le_of_ble_eq_true rfl) (VM_X6_isReason G μ hG a5 _ y6) ?_
      by_cases c23 : x5 = true
      · rw [if_pos c23] at h
        refine V_ifeq_f (tgt := 30) dX6_drops_23 (by decide) (b2i_t.mp c23) ?_
        refine V_iconst (v := 1) dX6_drops_26 rfl ?_
        refine V_goto (tgt := 31) dX6_drops_27 (by decide) ?_
        exact V_wk [true, true, true, true, true, true] rfl (T_X6_drops_31 G fu hG _ _ _ _ _ _ _ _ h)
      · rw [if_neg c23] at h
        refine V_ifeq_t (tgt := 30) dX6_drops_23 (by decide) (b2i_f.mp c23) ?_
        exact V_wk [true, true, true, true, true, true] rfl (T_X6_drops_30 G fu hG _ _ _ _ _ _ _ h)
    · rw [if_neg c15] at h
      refine V_ifeq_t (tgt := 30) dX6_drops_15 (by decide) (b2i_f.mp c15) ?_
      exact V_wk [true, true, true, true, true, true] rfl (T_X6_drops_30 G fu hG _ _ _ _ _ _ _ h)
  · rw [if_neg c7] at h
    refine V_ifeq_t (tgt := 30) dX6_drops_7 (by decide) (b2i_f.mp c7) ?_
    exact V_wk [true, true, true, true, true, true] rfl (T_X6_drops_30 G fu hG _ _ _ _ _ _ _ h)
theorem VM_X6_drops (G : GX) (fu : Nat)  (hG : gt G = tbl) (a1 : Int32) (a2 : Int32) (a3 : Int32) (a4 : Int32) (a5 : Int32) (μ : Mem) (r : ((Int64 ⊕ String) × Mem)) (h : D_X6_drops_0 fu a1 a2 a3 a4 a5 μ = some r) : VM G mX6_drops [.ref 0, .int a1, .int a2, .int a3, .int a4, .int a5] μ (ouL r.1) (r.2) := V_entry ok_mX6_drops rfl rfl (Nat.le_of_ble_eq_true rfl) (T_X6_drops_0 G fu hG a1 a2 a3 a4 a5 μ r h)
def D_X6_share_31 (fu : Nat)  (v1 : Int32) (v2 : Int32) (v3 : Int32) (v4 : Int32) (v5 : Int32) (s1 : Int32) (μ : Mem) : Option ((Int64 ⊕ String) × Mem) :=
  (D_X6_needRight_0 s1 μ).bind fun x7 =>
  tx x7 fun v9 m10 =>
  (D_X6_setOffNow_0 fu m10 v1 v2 v3).bind fun x13 =>
  (D_X4_weighAlike_0 fu 4 x13 m10).bind fun x15 =>
  (D_X6_shareOut_0 fu 76 12 77 12 ((v4 : Int32).toInt64) 12 x15).bind fun x17 =>
  gu (ib v5 12) <|
  some (.inl (x17.2.1 77 (Int32.toNatClampNeg v5)), x17)
set_option maxRecDepth 20000 in
theorem T_X6_share_31 (G : GX) (fu : Nat)  (hG : gt G = tbl) : ∀ (v1 : Int32) (v2 : Int32) (v3 : Int32) (v4 : Int32) (v5 : Int32) (s1 : Int32) (μ : Mem) (r : ((Int64 ⊕ String) × Mem)) , D_X6_share_31 fu v1 v2 v3 v4 v5 s1 μ = some r → V G mX6_share 31 [some (.ref 0), some (.int v1), some (.int v2), some (.int v3), some (.int v4), some (.int v5)] [.int s1, .ref 0] μ (ouL r.1) (r.2) := by
  intro v1 v2 v3 v4 v5 s1 μ r h
  unfold D_X6_share_31 at h
  obtain ⟨x7, y8, h⟩ := bi_o h
  have z11 := VM_X6_needRight G hG s1 μ _ y8
  rcases tx_o h with ⟨v9, q12, h⟩ | ⟨E, q12, h⟩
  · rw [q12] at z11
    generalize x7.2 = m10 at h z11
    refine V_callV (as := [.int s1]) (q := 0) (rest := []) dX6_share_31 ov_mX6_needRight lk_RX6_47 (by decide) (by decide) rfl rfl (Nat.le_of_ble_eq_true rfl) (tq_0 hG) rfl (z11) ?_
    refine V_aload_n dX6_share_34 rfl ?_
    refine V_getR (kf := 3) k_X6 (by decide) lk_RX6_29 rfl dX6_share_35 (tq_0 hG) rfl ?_
    refine V_aload_n dX6_share_38 rfl ?_
    refine V_getR (kf := 1) k_X6 (by decide) lk_RX6_19 rfl dX6_share_39 (tq_0 hG) rfl ?_
    refine V_getR (kf := 0) k_X0 (by decide) lk_RX6_51 rfl dX6_share_42 (tq_3 hG) rfl ?_
    refine V_aload_n dX6_share_45 rfl ?_
    refine V_iload_n dX6_share_46 rfl ?_
    refine V_iload_n dX6_share_47 rfl ?_
    refine V_iload_n dX6_share_48 rfl ?_
    obtain ⟨x13, y14, h⟩ := bi_o h
    refine V_callV (as := [.int v1, .int v2, .int v3]) (q := 0) (rest := [.ref 4, .ref 61]) dX6_share_49 ov_mX6_setOffNow lk_RX6_282 (by decide) (by decide) rfl rfl (Nat.le_of_ble_eq_true rfl) (tq_0 hG) rfl (VM_X6_setOffNow G fu m10 hG v1 v2 v3 _ y14) ?_
    obtain ⟨x15, y16, h⟩ := bi_o h
    refine V_callV (as := [.ref 4, .int x13]) (q := 61) (rest := []) dX6_share_52 ov_mX4_weighAlike lk_RX6_301 (by decide) (by decide) rfl rfl (Nat.le_of_ble_eq_true rfl) (tq_61 hG) rfl (VM_X4_weighAlike G fu 4 hG (Or.inl rfl) x13 m10 _ y16) ?_
    refine V_iload dX6_share_55 rfl ?_
    refine V_i2l dX6_share_57 ?_
    refine V_aload_n dX6_share_58 rfl ?_
    refine V_getR (kf := 3) k_X6 (by decide) lk_RX6_29 rfl dX6_share_59 (tq_0 hG) rfl ?_
    refine V_getR (kf := 2) k_X4 (by decide) lk_RX6_305 rfl dX6_share_62 (tq_61 hG) rfl ?_
    refine V_bipush (v := 12) dX6_share_65 rfl ?_
    refine V_aload_n dX6_share_67 rfl ?_
    refine V_getR (kf := 3) k_X6 (by decide) lk_RX6_29 rfl dX6_share_68 (tq_0 hG) rfl ?_
    refine V_getR (kf := 3) k_X4 (by decide) lk_RX6_308 rfl dX6_share_71 (tq_61 hG) rfl ?_
    obtain ⟨x17, y18, h⟩ := bi_o h
    refine V_callS (as := [.long ((v4 : Int32).toInt64), .ref 76, .int 12, .ref 77]) (rest := []) dX6_share_74 os_mX6_shareOut rfl lk_RX6_311 (by decide) (by decide) rfl rfl (Nat.le_of_ble_eq_true rfl) (VM_X6_shareOut G fu 76 12 77 12 hG (tq_76 hG) (tq_77 hG) ((v4 : Int32).toInt64) 12 x15 _ y18) ?_
    refine V_aload_n dX6_share_77 rfl ?_
    refine V_getR (kf := 3) k_X6 (by decide) lk_RX6_29 rfl dX6_share_78 (tq_0 hG) rfl ?_
    refine V_getR (kf := 3) k_X4 (by decide) lk_RX6_308 rfl dX6_share_81 (tq_61 hG) rfl ?_
    refine V_iload dX6_share_84 rfl ?_
    obtain ⟨g19, h⟩ := gu_o h
    refine V_laload dX6_share_86 (tq_77 hG) (ib_in g19) ?_
    cases h
    exact V_lret rfl dX6_share_87
  · rw [q12] at z11
    cases h
    exact V_callVX (as := [.int s1]) (q := 0) (rest := []) dX6_share_31 rfl ov_mX6_needRight lk_RX6_47 (by decide) (by decide) rfl rfl (Nat.le_of_ble_eq_true rfl) (tq_0 hG) rfl (z11)
def D_X6_share_30 (fu : Nat)  (v1 : Int32) (v2 : Int32) (v3 : Int32) (v4 : Int32) (v5 : Int32) (μ : Mem) : Option ((Int64 ⊕ String) × Mem) :=
  D_X6_share_31 fu v1 v2 v3 v4 v5 0 μ
set_option maxRecDepth 20000 in
theorem T_X6_share_30 (G : GX) (fu : Nat)  (hG : gt G = tbl) : ∀ (v1 : Int32) (v2 : Int32) (v3 : Int32) (v4 : Int32) (v5 : Int32) (μ : Mem) (r : ((Int64 ⊕ String) × Mem)) , D_X6_share_30 fu v1 v2 v3 v4 v5 μ = some r → V G mX6_share 30 [some (.ref 0), some (.int v1), some (.int v2), some (.int v3), some (.int v4), some (.int v5)] [.ref 0] μ (ouL r.1) (r.2) := by
  intro v1 v2 v3 v4 v5 μ r h
  unfold D_X6_share_30 at h
  refine V_iconst (v := 0) dX6_share_30 rfl ?_
  exact V_wk [true, true, true, true, true, true] rfl (T_X6_share_31 G fu hG _ _ _ _ _ _ _ _ h)
def D_X6_share_0 (fu : Nat)  (a1 : Int32) (a2 : Int32) (a3 : Int32) (a4 : Int32) (a5 : Int32) (μ : Mem) : Option ((Int64 ⊕ String) × Mem) :=
  (D_X6_areHarmYears_0 μ a1 a2 a3).bind fun x1 =>
  if x1 = true then
    (D_X6_isAmount_0 μ a4).bind fun x3 =>
    if x3 = true then
      (D_X6_isYear_0 μ a5).bind fun x5 =>
      if x5 = true then
        D_X6_share_31 fu a1 a2 a3 a4 a5 1 μ
      else
        D_X6_share_30 fu a1 a2 a3 a4 a5 μ
    else
      D_X6_share_30 fu a1 a2 a3 a4 a5 μ
  else
    D_X6_share_30 fu a1 a2 a3 a4 a5 μ
set_option maxRecDepth 20000 in
theorem T_X6_share_0 (G : GX) (fu : Nat)  (hG : gt G = tbl) : ∀ (a1 : Int32) (a2 : Int32) (a3 : Int32) (a4 : Int32) (a5 : Int32) (μ : Mem) (r : ((Int64 ⊕ String) × Mem)) , D_X6_share_0 fu a1 a2 a3 a4 a5 μ = some r → V G mX6_share 0 [some (.ref 0), some (.int a1), some (.int a2), some (.int a3), some (.int a4), some (.int a5)] [] μ (ouL r.1) (r.2) := by
  intro a1 a2 a3 a4 a5 μ r h
  unfold D_X6_share_0 at h
  refine V_aload_n dX6_share_0 rfl ?_
  refine V_iload_n dX6_share_1 rfl ?_
  refine V_iload_n dX6_share_2 rfl ?_
  refine V_iload_n dX6_share_3 rfl ?_
  obtain ⟨x1, y2, h⟩ := bi_o h
  refine V_callS (as := [.int a1, .int a2, .int a3]) (rest := [.ref 0]) dX6_share_4 os_mX6_areHarmYears rfl lk_RX6_101 (by decide) (by decide) rfl rfl (Nat.le_of_ble_eq_true rfl) (VM_X6_areHarmYears G μ hG a1 a2 a3 _ y2) ?_
  by_cases c7 : x1 = true
  · rw [if_pos c7] at h
    refine V_ifeq_f (tgt := 30) dX6_share_7 (by decide) (b2i_t.mp c7) ?_
    refine V_iload dX6_share_10 rfl ?_
    obtain ⟨x3, y4, h⟩ := bi_o h
    refine V_callS (as := [.int a4]) (rest := [.ref 0]) dX6_share_12 os_mX6_isAmount rfl lk_RX6_104 (by decide) (by decide) rfl rfl (Nat.le_of_ble_eq_true rfl) (VM_X6_isAmount G μ hG a4 _ y4) ?_
    by_cases c15 : x3 = true
    · rw [if_pos c15] at h
      refine V_ifeq_f (tgt := 30) dX6_share_15 (by decide) (b2i_t.mp c15) ?_
      refine V_iload dX6_share_18 rfl ?_
      obtain ⟨x5, y6, h⟩ := bi_o h
      refine V_callS (as := [.int a5]) (rest := [.ref 0]) dX6_share_20 os_mX6_isYear rfl lk_RX6_37 (by decide) (by decide) rfl rfl (Nat.le_of_ble_eq_true rfl) (VM_X6_isYear G μ hG a5 _ y6) ?_
      by_cases c23 : x5 = true
      · rw [if_pos c23] at h
        refine V_ifeq_f (tgt := 30) dX6_share_23 (by decide) (b2i_t.mp c23) ?_
        refine V_iconst (v := 1) dX6_share_26 rfl ?_
        refine V_goto (tgt := 31) dX6_share_27 (by decide) ?_
        exact V_wk [true, true, true, true, true, true] rfl (T_X6_share_31 G fu hG _ _ _ _ _ _ _ _ h)
      · rw [if_neg c23] at h
        refine V_ifeq_t (tgt := 30) dX6_share_23 (by decide) (b2i_f.mp c23) ?_
        exact V_wk [true, true, true, true, true, true] rfl (T_X6_share_30 G fu hG _ _ _ _ _ _ _ h)
    · rw [if_neg c15] at h
      refine V_ifeq_t (tgt := 30) dX6_share_15 (by decide) (b2i_f.mp c15) ?_
      exact V_wk [true, true, true, true, true, true] rfl (T_X6_share_30 G fu hG _ _ _ _ _ _ _ h)
  · rw [if_neg c7] at h
    refine V_ifeq_t (tgt := 30) dX6_share_7 (by decide) (b2i_f.mp c7) ?_
    exact V_wk [true, true, true, true, true, true] rfl (T_X6_share_30 G fu hG _ _ _ _ _ _ _ h)
theorem VM_X6_share (G : GX) (fu : Nat)  (hG : gt G = tbl) (a1 : Int32) (a2 : Int32) (a3 : Int32) (a4 : Int32) (a5 : Int32) (μ : Mem) (r : ((Int64 ⊕ String) × Mem)) (h : D_X6_share_0 fu a1 a2 a3 a4 a5 μ = some r) : VM G mX6_share [.ref 0, .int a1, .int a2, .int a3, .int a4, .int a5] μ (ouL r.1) (r.2) := V_entry ok_mX6_share rfl rfl (Nat.le_of_ble_eq_true rfl) (T_X6_share_0 G fu hG a1 a2 a3 a4 a5 μ r h)
def D_X6_weight_23 (fu : Nat)  (v1 : Int32) (v2 : Int32) (v3 : Int32) (v4 : Int32) (s1 : Int32) (μ : Mem) : Option ((Int64 ⊕ String) × Mem) :=
  (D_X6_needRight_0 s1 μ).bind fun x5 =>
  tx x5 fun v7 m8 =>
  (D_X6_setOffNow_0 fu m8 v1 v2 v3).bind fun x11 =>
  (D_X4_weighBySizes_0 fu 4 x11 m8).bind fun x13 =>
  gu (ib v4 12) <|
  some (.inl (x13.2.1 76 (Int32.toNatClampNeg v4)), x13)
set_option maxRecDepth 20000 in
theorem T_X6_weight_23 (G : GX) (fu : Nat)  (hG : gt G = tbl) : ∀ (v1 : Int32) (v2 : Int32) (v3 : Int32) (v4 : Int32) (s1 : Int32) (μ : Mem) (r : ((Int64 ⊕ String) × Mem)) , D_X6_weight_23 fu v1 v2 v3 v4 s1 μ = some r → V G mX6_weight 23 [some (.ref 0), some (.int v1), some (.int v2), some (.int v3), some (.int v4)] [.int s1, .ref 0] μ (ouL r.1) (r.2) := by
  intro v1 v2 v3 v4 s1 μ r h
  unfold D_X6_weight_23 at h
  obtain ⟨x5, y6, h⟩ := bi_o h
  have z9 := VM_X6_needRight G hG s1 μ _ y6
  rcases tx_o h with ⟨v7, q10, h⟩ | ⟨E, q10, h⟩
  · rw [q10] at z9
    generalize x5.2 = m8 at h z9
    refine V_callV (as := [.int s1]) (q := 0) (rest := []) dX6_weight_23 ov_mX6_needRight lk_RX6_47 (by decide) (by decide) rfl rfl (Nat.le_of_ble_eq_true rfl) (tq_0 hG) rfl (z9) ?_
    refine V_aload_n dX6_weight_26 rfl ?_
    refine V_getR (kf := 3) k_X6 (by decide) lk_RX6_29 rfl dX6_weight_27 (tq_0 hG) rfl ?_
    refine V_aload_n dX6_weight_30 rfl ?_
    refine V_getR (kf := 1) k_X6 (by decide) lk_RX6_19 rfl dX6_weight_31 (tq_0 hG) rfl ?_
    refine V_getR (kf := 0) k_X0 (by decide) lk_RX6_51 rfl dX6_weight_34 (tq_3 hG) rfl ?_
    refine V_aload_n dX6_weight_37 rfl ?_
    refine V_iload_n dX6_weight_38 rfl ?_
    refine V_iload_n dX6_weight_39 rfl ?_
    refine V_iload_n dX6_weight_40 rfl ?_
    obtain ⟨x11, y12, h⟩ := bi_o h
    refine V_callV (as := [.int v1, .int v2, .int v3]) (q := 0) (rest := [.ref 4, .ref 61]) dX6_weight_41 ov_mX6_setOffNow lk_RX6_282 (by decide) (by decide) rfl rfl (Nat.le_of_ble_eq_true rfl) (tq_0 hG) rfl (VM_X6_setOffNow G fu m8 hG v1 v2 v3 _ y12) ?_
    obtain ⟨x13, y14, h⟩ := bi_o h
    refine V_callV (as := [.ref 4, .int x11]) (q := 61) (rest := []) dX6_weight_44 ov_mX4_weighBySizes lk_RX6_315 (by decide) (by decide) rfl rfl (Nat.le_of_ble_eq_true rfl) (tq_61 hG) rfl (VM_X4_weighBySizes G fu 4 hG (Or.inl rfl) x11 m8 _ y14) ?_
    refine V_aload_n dX6_weight_47 rfl ?_
    refine V_getR (kf := 3) k_X6 (by decide) lk_RX6_29 rfl dX6_weight_48 (tq_0 hG) rfl ?_
    refine V_getR (kf := 2) k_X4 (by decide) lk_RX6_305 rfl dX6_weight_51 (tq_61 hG) rfl ?_
    refine V_iload dX6_weight_54 rfl ?_
    obtain ⟨g15, h⟩ := gu_o h
    refine V_laload dX6_weight_56 (tq_76 hG) (ib_in g15) ?_
    cases h
    exact V_lret rfl dX6_weight_57
  · rw [q10] at z9
    cases h
    exact V_callVX (as := [.int s1]) (q := 0) (rest := []) dX6_weight_23 rfl ov_mX6_needRight lk_RX6_47 (by decide) (by decide) rfl rfl (Nat.le_of_ble_eq_true rfl) (tq_0 hG) rfl (z9)
def D_X6_weight_22 (fu : Nat)  (v1 : Int32) (v2 : Int32) (v3 : Int32) (v4 : Int32) (μ : Mem) : Option ((Int64 ⊕ String) × Mem) :=
  D_X6_weight_23 fu v1 v2 v3 v4 0 μ
set_option maxRecDepth 20000 in
theorem T_X6_weight_22 (G : GX) (fu : Nat)  (hG : gt G = tbl) : ∀ (v1 : Int32) (v2 : Int32) (v3 : Int32) (v4 : Int32) (μ : Mem) (r : ((Int64 ⊕ String) × Mem)) , D_X6_weight_22 fu v1 v2 v3 v4 μ = some r → V G mX6_weight 22 [some (.ref 0), some (.int v1), some (.int v2), some (.int v3), some (.int v4)] [.ref 0] μ (ouL r.1) (r.2) := by
  intro v1 v2 v3 v4 μ r h
  unfold D_X6_weight_22 at h
  refine V_iconst (v := 0) dX6_weight_22 rfl ?_
  exact V_wk [true, true, true, true, true] rfl (T_X6_weight_23 G fu hG _ _ _ _ _ _ _ h)
def D_X6_weight_0 (fu : Nat)  (a1 : Int32) (a2 : Int32) (a3 : Int32) (a4 : Int32) (μ : Mem) : Option ((Int64 ⊕ String) × Mem) :=
  (D_X6_areHarmYears_0 μ a1 a2 a3).bind fun x1 =>
  if x1 = true then
    (D_X6_isYear_0 μ a4).bind fun x3 =>
    if x3 = true then
      D_X6_weight_23 fu a1 a2 a3 a4 1 μ
    else
      D_X6_weight_22 fu a1 a2 a3 a4 μ
  else
    D_X6_weight_22 fu a1 a2 a3 a4 μ
set_option maxRecDepth 20000 in
theorem T_X6_weight_0 (G : GX) (fu : Nat)  (hG : gt G = tbl) : ∀ (a1 : Int32) (a2 : Int32) (a3 : Int32) (a4 : Int32) (μ : Mem) (r : ((Int64 ⊕ String) × Mem)) , D_X6_weight_0 fu a1 a2 a3 a4 μ = some r → V G mX6_weight 0 [some (.ref 0), some (.int a1), some (.int a2), some (.int a3), some (.int a4)] [] μ (ouL r.1) (r.2) := by
  intro a1 a2 a3 a4 μ r h
  unfold D_X6_weight_0 at h
  refine V_aload_n dX6_weight_0 rfl ?_
  refine V_iload_n dX6_weight_1 rfl ?_
  refine V_iload_n dX6_weight_2 rfl ?_
  refine V_iload_n dX6_weight_3 rfl ?_
  obtain ⟨x1, y2, h⟩ := bi_o h
  refine V_callS (as := [.int a1, .int a2, .int a3]) (rest := [.ref 0]) dX6_weight_4 os_mX6_areHarmYears rfl lk_RX6_101 (by decide) (by decide) rfl rfl (Nat.le_of_ble_eq_true rfl) (VM_X6_areHarmYears G μ hG a1 a2 a3 _ y2) ?_
  by_cases c7 : x1 = true
  · rw [if_pos c7] at h
    refine V_ifeq_f (tgt := 22) dX6_weight_7 (by decide) (b2i_t.mp c7) ?_
    refine V_iload dX6_weight_10 rfl ?_
    obtain ⟨x3, y4, h⟩ := bi_o h
    refine V_callS (as := [.int a4]) (rest := [.ref 0]) dX6_weight_12 os_mX6_isYear rfl lk_RX6_37 (by decide) (by decide) rfl rfl (Nat.le_of_ble_eq_true rfl) (VM_X6_isYear G μ hG a4 _ y4) ?_
    by_cases c15 : x3 = true
    · rw [if_pos c15] at h
      refine V_ifeq_f (tgt := 22) dX6_weight_15 (by decide) (b2i_t.mp c15) ?_
      refine V_iconst (v := 1) dX6_weight_18 rfl ?_
      refine V_goto (tgt := 23) dX6_weight_19 (by decide) ?_
      exact V_wk [true, true, true, true, true] rfl (T_X6_weight_23 G fu hG _ _ _ _ _ _ _ h)
    · rw [if_neg c15] at h
      refine V_ifeq_t (tgt := 22) dX6_weight_15 (by decide) (b2i_f.mp c15) ?_
      exact V_wk [true, true, true, true, true] rfl (T_X6_weight_22 G fu hG _ _ _ _ _ _ h)
  · rw [if_neg c7] at h
    refine V_ifeq_t (tgt := 22) dX6_weight_7 (by decide) (b2i_f.mp c7) ?_
    exact V_wk [true, true, true, true, true] rfl (T_X6_weight_22 G fu hG _ _ _ _ _ _ h)
theorem VM_X6_weight (G : GX) (fu : Nat)  (hG : gt G = tbl) (a1 : Int32) (a2 : Int32) (a3 : Int32) (a4 : Int32) (μ : Mem) (r : ((Int64 ⊕ String) × Mem)) (h : D_X6_weight_0 fu a1 a2 a3 a4 μ = some r) : VM G mX6_weight [.ref 0, .int a1, .int a2, .int a3, .int a4] μ (ouL r.1) (r.2) := V_entry ok_mX6_weight rfl rfl (Nat.le_of_ble_eq_true rfl) (T_X6_weight_0 G fu hG a1 a2 a3 a4 μ r h)
def D_X6_picks_20 (fu : Nat)  (v1 : Int32) (v2 : Int32) (v3 : Int32) (v4 : Int32) (s1 : Int32) (μ : Mem) : Option ((Int32 ⊕ String) × Mem) :=
  (D_X6_needRight_0 s1 μ).bind fun x3 =>
  tx x3 fun v5 m6 =>
  (D_X6_setOffNow_0 fu m6 v1 v2 v3).bind fun x9 =>
  (D_X4_measureRooms_0 fu 3 24 x9 m6).bind fun x11 =>
  (D_X4_orderYears_0 fu 3 x11).bind fun x13 =>
  if (x13.1 61 7) ≤ v4 then
    some (.inl (-1), x13)
  else
    gu (ib v4 12) <|
    some (.inl (x13.1 80 (Int32.toNatClampNeg v4)), x13)
set_option maxRecDepth 20000 in
theorem T_X6_picks_20 (G : GX) (fu : Nat)  (hG : gt G = tbl) : ∀ (v1 : Int32) (v2 : Int32) (v3 : Int32) (v4 : Int32) (s1 : Int32) (μ : Mem) (r : ((Int32 ⊕ String) × Mem)) , D_X6_picks_20 fu v1 v2 v3 v4 s1 μ = some r → V G mX6_picks 20 [some (.ref 0), some (.int v1), some (.int v2), some (.int v3), some (.int v4)] [.int s1, .ref 0] μ (ouI r.1) (r.2) := by
  intro v1 v2 v3 v4 s1 μ r h
  unfold D_X6_picks_20 at h
  obtain ⟨x3, y4, h⟩ := bi_o h
  have z7 := VM_X6_needRight G hG s1 μ _ y4
  rcases tx_o h with ⟨v5, q8, h⟩ | ⟨E, q8, h⟩
  · rw [q8] at z7
    generalize x3.2 = m6 at h z7
    refine V_callV (as := [.int s1]) (q := 0) (rest := []) dX6_picks_20 ov_mX6_needRight lk_RX6_47 (by decide) (by decide) rfl rfl (Nat.le_of_ble_eq_true rfl) (tq_0 hG) rfl (z7) ?_
    refine V_aload_n dX6_picks_23 rfl ?_
    refine V_getR (kf := 3) k_X6 (by decide) lk_RX6_29 rfl dX6_picks_24 (tq_0 hG) rfl ?_
    refine V_aload_n dX6_picks_27 rfl ?_
    refine V_getR (kf := 1) k_X6 (by decide) lk_RX6_19 rfl dX6_picks_28 (tq_0 hG) rfl ?_
    refine V_bipush (v := 24) dX6_picks_31 rfl ?_
    refine V_aload_n dX6_picks_33 rfl ?_
    refine V_iload_n dX6_picks_34 rfl ?_
    refine V_iload_n dX6_picks_35 rfl ?_
    refine V_iload_n dX6_picks_36 rfl ?_
    obtain ⟨x9, y10, h⟩ := bi_o h
    refine V_callV (as := [.int v1, .int v2, .int v3]) (q := 0) (rest := [.int 24, .ref 3, .ref 61]) dX6_picks_37 ov_mX6_setOffNow lk_RX6_282 (by decide) (by decide) rfl rfl (Nat.le_of_ble_eq_true rfl) (tq_0 hG) rfl (VM_X6_setOffNow G fu m6 hG v1 v2 v3 _ y10) ?_
    obtain ⟨x11, y12, h⟩ := bi_o h
    refine V_callV (as := [.ref 3, .int 24, .int x9]) (q := 61) (rest := []) dX6_picks_40 ov_mX4_measureRooms lk_RX6_318 (by decide) (by decide) rfl rfl (Nat.le_of_ble_eq_true rfl) (tq_61 hG) rfl (VM_X4_measureRooms G fu 3 hG (Or.inl rfl) 24 x9 m6 _ y12) ?_
    refine V_aload_n dX6_picks_43 rfl ?_
    refine V_getR (kf := 3) k_X6 (by decide) lk_RX6_29 rfl dX6_picks_44 (tq_0 hG) rfl ?_
    refine V_aload_n dX6_picks_47 rfl ?_
    refine V_getR (kf := 1) k_X6 (by decide) lk_RX6_19 rfl dX6_picks_48 (tq_0 hG) rfl ?_
    obtain ⟨x13, y14, h⟩ := bi_o h
    refine V_callV (as := [.ref 3]) (q := 61) (rest := []) dX6_picks_51 ov_mX4_orderYears lk_RX6_322 (by decide) (by decide) rfl rfl (Nat.le_of_ble_eq_true rfl) (tq_61 hG) rfl (VM_X4_orderYears G fu 3 hG (Or.inl rfl) x11 _ y14) ?_
    refine V_iload dX6_picks_54 rfl ?_
    refine V_aload_n dX6_picks_56 rfl ?_
    refine V_getR (kf := 3) k_X6 (by decide) lk_RX6_29 rfl dX6_picks_57 (tq_0 hG) rfl ?_
    refine V_getI (kf := 7) k_X4 (by decide) lk_RX6_326 rfl dX6_picks_60 (tq_61 hG) rfl ?_
    by_cases c63 : (x13.1 61 7) ≤ v4
    · rw [if_pos c63] at h
      refine V_icmpge_t (tgt := 79) dX6_picks_63 (by decide) c63 ?_
      refine V_iconst (v := (-1)) dX6_picks_79 rfl ?_
      cases h
      exact V_iret rfl dX6_picks_80
    · rw [if_neg c63] at h
      refine V_icmpge_f (tgt := 79) dX6_picks_63 (by decide) c63 ?_
      refine V_aload_n dX6_picks_66 rfl ?_
      refine V_getR (kf := 3) k_X6 (by decide) lk_RX6_29 rfl dX6_picks_67 (tq_0 hG) rfl ?_
      refine V_getR (kf := 6) k_X4 (by decide) lk_RX6_329 rfl dX6_picks_70 (tq_61 hG) rfl ?_
      refine V_iload dX6_picks_73 rfl ?_
      obtain ⟨g15, h⟩ := gu_o h
      refine V_iaload dX6_picks_75 (tq_80 hG) (ib_in g15) ?_
      refine V_goto (tgt := 80) dX6_picks_76 (by decide) ?_
      cases h
      exact V_iret rfl dX6_picks_80
  · rw [q8] at z7
    cases h
    exact V_callVX (as := [.int s1]) (q := 0) (rest := []) dX6_picks_20 rfl ov_mX6_needRight lk_RX6_47 (by decide) (by decide) rfl rfl (Nat.le_of_ble_eq_true rfl) (tq_0 hG) rfl (z7)
def D_X6_picks_19 (fu : Nat)  (v1 : Int32) (v2 : Int32) (v3 : Int32) (v4 : Int32) (μ : Mem) : Option ((Int32 ⊕ String) × Mem) :=
  D_X6_picks_20 fu v1 v2 v3 v4 0 μ
set_option maxRecDepth 20000 in
theorem T_X6_picks_19 (G : GX) (fu : Nat)  (hG : gt G = tbl) : ∀ (v1 : Int32) (v2 : Int32) (v3 : Int32) (v4 : Int32) (μ : Mem) (r : ((Int32 ⊕ String) × Mem)) , D_X6_picks_19 fu v1 v2 v3 v4 μ = some r → V G mX6_picks 19 [some (.ref 0), some (.int v1), some (.int v2), some (.int v3), some (.int v4)] [.ref 0] μ (ouI r.1) (r.2) := by
  intro v1 v2 v3 v4 μ r h
  unfold D_X6_picks_19 at h
  refine V_iconst (v := 0) dX6_picks_19 rfl ?_
  exact V_wk [true, true, true, true, true] rfl (T_X6_picks_20 G fu hG _ _ _ _ _ _ _ h)
def D_X6_picks_0 (fu : Nat)  (a1 : Int32) (a2 : Int32) (a3 : Int32) (a4 : Int32) (μ : Mem) : Option ((Int32 ⊕ String) × Mem) :=
  (D_X6_areHarmYears_0 μ a1 a2 a3).bind fun x1 =>
  if x1 = true then
    if a4 < 0 then
      D_X6_picks_19 fu a1 a2 a3 a4 μ
    else
      D_X6_picks_20 fu a1 a2 a3 a4 1 μ
  else
    D_X6_picks_19 fu a1 a2 a3 a4 μ
set_option maxRecDepth 20000 in
theorem T_X6_picks_0 (G : GX) (fu : Nat)  (hG : gt G = tbl) : ∀ (a1 : Int32) (a2 : Int32) (a3 : Int32) (a4 : Int32) (μ : Mem) (r : ((Int32 ⊕ String) × Mem)) , D_X6_picks_0 fu a1 a2 a3 a4 μ = some r → V G mX6_picks 0 [some (.ref 0), some (.int a1), some (.int a2), some (.int a3), some (.int a4)] [] μ (ouI r.1) (r.2) := by
  intro a1 a2 a3 a4 μ r h
  unfold D_X6_picks_0 at h
  refine V_aload_n dX6_picks_0 rfl ?_
  refine V_iload_n dX6_picks_1 rfl ?_
  refine V_iload_n dX6_picks_2 rfl ?_
  refine V_iload_n dX6_picks_3 rfl ?_
  obtain ⟨x1, y2, h⟩ := bi_o h
  refine V_callS (as := [.int a1, .int a2, .int a3]) (rest := [.ref 0]) dX6_picks_4 os_mX6_areHarmYears rfl lk_RX6_101 (by decide) (by decide) rfl rfl (Nat.le_of_ble_eq_true rfl) (VM_X6_areHarmYears G μ hG a1 a2 a3 _ y2) ?_
  by_cases c7 : x1 = true
  · rw [if_pos c7] at h
    refine V_ifeq_f (tgt := 19) dX6_picks_7 (by decide) (b2i_t.mp c7) ?_
    refine V_iload dX6_picks_10 rfl ?_
    by_cases c12 : a4 < 0
    · rw [if_pos c12] at h
      refine V_iflt_t (tgt := 19) dX6_picks_12 (by decide) c12 ?_
      exact V_wk [true, true, true, true, true] rfl (T_X6_picks_19 G fu hG _ _ _ _ _ _ h)
    · rw [if_neg c12] at h
      refine V_iflt_f (tgt := 19) dX6_picks_12 (by decide) c12 ?_
      refine V_iconst (v := 1) dX6_picks_15 rfl ?_
      refine V_goto (tgt := 20) dX6_picks_16 (by decide) ?_
      exact V_wk [true, true, true, true, true] rfl (T_X6_picks_20 G fu hG _ _ _ _ _ _ _ h)
  · rw [if_neg c7] at h
    refine V_ifeq_t (tgt := 19) dX6_picks_7 (by decide) (b2i_f.mp c7) ?_
    exact V_wk [true, true, true, true, true] rfl (T_X6_picks_19 G fu hG _ _ _ _ _ _ h)
theorem VM_X6_picks (G : GX) (fu : Nat)  (hG : gt G = tbl) (a1 : Int32) (a2 : Int32) (a3 : Int32) (a4 : Int32) (μ : Mem) (r : ((Int32 ⊕ String) × Mem)) (h : D_X6_picks_0 fu a1 a2 a3 a4 μ = some r) : VM G mX6_picks [.ref 0, .int a1, .int a2, .int a3, .int a4] μ (ouI r.1) (r.2) := V_entry ok_mX6_picks rfl rfl (Nat.le_of_ble_eq_true rfl) (T_X6_picks_0 G fu hG a1 a2 a3 a4 μ r h)
def D_X6_goOverByRules_64 (fu : Nat)  (k20 : Int32 → Mem → Option Mem) (v4 : Int32) (μ : Mem) : Option Mem :=
  k20 (v4 + 1) μ
set_option maxRecDepth 20000 in
theorem T_X6_goOverByRules_64 (G : GX) (fu : Nat)  (hG : gt G = tbl) (k20 : Int32 → Mem → Option Mem) (hk20 : ∀ (v4 : Int32) (μ : Mem) (r : Mem), k20 v4 μ = some r → V G mX6_goOverByRules 20 [some (.ref 0), none, none, none, some (.int v4)] [] μ (.inl none) (r)) : ∀ (v4 : Int32) (μ : Mem) (r : Mem) , D_X6_goOverByRules_64 fu k20 v4 μ = some r → V G mX6_goOverByRules 64 [some (.ref 0), none, none, none, some (.int v4)] [] μ (.inl none) (r) := by
  intro v4 μ r h
  unfold D_X6_goOverByRules_64 at h
  refine V_iinc (v := v4 + 1) (lv2 := [some (.ref 0), none, none, none, some (.int (v4 + 1))]) dX6_goOverByRules_64 rfl rfl (by decide) rfl ?_
  refine V_goto (tgt := 20) dX6_goOverByRules_67 (by decide) ?_
  exact V_wk [true, false, false, false, true] rfl (hk20 _ _ _ h)
def D_X6_goOverByRules_20 (fu : Nat)  : Nat → Int32 → Mem → Option Mem
  | 0, _, _ => none
  | n + 1, v4, μ =>
    if (μ.1 1 1) ≤ v4 then
      some μ
    else
      (D_X2_read_0 μ v4 0).bind fun x5 =>
      if x5 = (3 : Int32) then
        D_X6_goOverByRules_64 fu (D_X6_goOverByRules_20 fu n) v4 μ
      else
        (D_X0_carryOut_0 fu 32 v4 μ).bind fun x7 =>
        D_X6_goOverByRules_64 fu (D_X6_goOverByRules_20 fu n) v4 x7.2
set_option maxRecDepth 20000 in
theorem T_X6_goOverByRules_20 (G : GX) (fu : Nat)  (hG : gt G = tbl) : ∀ (n : Nat) (v4 : Int32) (μ : Mem) (r : Mem) , D_X6_goOverByRules_20 fu n v4 μ = some r → V G mX6_goOverByRules 20 [some (.ref 0), none, none, none, some (.int v4)] [] μ (.inl none) (r) := by
  intro n
  induction n with
  | zero =>
    intro v4 μ r h
    exact nomatch (show (none : Option Mem) = some r from h)
  | succ n ih =>
    intro v4 μ r h
    rw [D_X6_goOverByRules_20] at h
    refine V_iload dX6_goOverByRules_20 rfl ?_
    refine V_aload_n dX6_goOverByRules_22 rfl ?_
    refine V_getR (kf := 0) k_X6 (by decide) lk_RX6_12 rfl dX6_goOverByRules_23 (tq_0 hG) rfl ?_
    refine V_getI (kf := 1) k_X2 (by decide) lk_RX6_128 rfl dX6_goOverByRules_26 (tq_1 hG) rfl ?_
    by_cases c29 : (μ.1 1 1) ≤ v4
    · rw [if_pos c29] at h
      refine V_icmpge_t (tgt := 70) dX6_goOverByRules_29 (by decide) c29 ?_
      cases h
      exact V_vret rfl dX6_goOverByRules_70
    · rw [if_neg c29] at h
      refine V_icmpge_f (tgt := 70) dX6_goOverByRules_29 (by decide) c29 ?_
      refine V_aload_n dX6_goOverByRules_32 rfl ?_
      refine V_getR (kf := 0) k_X6 (by decide) lk_RX6_12 rfl dX6_goOverByRules_33 (tq_0 hG) rfl ?_
      refine V_iload dX6_goOverByRules_36 rfl ?_
      refine V_iconst (v := 0) dX6_goOverByRules_38 rfl ?_
      obtain ⟨x5, y6, h⟩ := bi_o h
      refine V_callV (as := [.int v4, .int 0]) (q := 1) (rest := []) dX6_goOverByRules_39 ov_mX2_read lk_RX6_146 (by decide) (by decide) rfl rfl (Nat.le_of_ble_eq_true rfl) (tq_1 hG) rfl (VM_X2_read G μ hG v4 0 _ y6) ?_
      refine V_iconst (v := 3) dX6_goOverByRules_42 rfl ?_
      by_cases c43 : x5 = (3 : Int32)
      · rw [if_pos c43] at h
        refine V_icmpeq_t (tgt := 64) dX6_goOverByRules_43 (by decide) c43 ?_
        exact V_wk [true, false, false, false, true] rfl (T_X6_goOverByRules_64 G fu hG (D_X6_goOverByRules_20 fu n) ih _ _ _ h)
      · rw [if_neg c43] at h
        refine V_icmpeq_f (tgt := 64) dX6_goOverByRules_43 (by decide) c43 ?_
        refine V_aload_n dX6_goOverByRules_46 rfl ?_
        refine V_getR (kf := 2) k_X6 (by decide) lk_RX6_23 rfl dX6_goOverByRules_47 (tq_0 hG) rfl ?_
        refine V_aload_n dX6_goOverByRules_50 rfl ?_
        refine V_getR (kf := 0) k_X6 (by decide) lk_RX6_12 rfl dX6_goOverByRules_51 (tq_0 hG) rfl ?_
        refine V_iload dX6_goOverByRules_54 rfl ?_
        refine V_aload_n dX6_goOverByRules_56 rfl ?_
        refine V_getR (kf := 3) k_X6 (by decide) lk_RX6_29 rfl dX6_goOverByRules_57 (tq_0 hG) rfl ?_
        obtain ⟨x7, y8, h⟩ := bi_o h
        refine V_callV (as := [.ref 1, .int v4, .ref 61]) (q := 32) (rest := []) dX6_goOverByRules_60 ov_mX0_carryOut lk_RX6_132 (by decide) (by decide) rfl rfl (Nat.le_of_ble_eq_true rfl) (tq_32 hG) rfl (VM_X0_carryOut G fu 32 hG (Or.inr rfl) v4 μ _ y8) ?_
        refine V_pop dX6_goOverByRules_63 rfl ?_
        exact V_wk [true, false, false, false, true] rfl (T_X6_goOverByRules_64 G fu hG (D_X6_goOverByRules_20 fu n) ih _ _ _ h)
def D_X6_goOverByRules_0 (fu : Nat)  (a1 : Int32) (a2 : Int32) (a3 : Int32) (μ : Mem) : Option Mem :=
  (D_X0_clear_0 fu 32 μ).bind fun x1 =>
  (D_X0_setRules_0 32 a1 a2 a3 x1).bind fun x3 =>
  D_X6_goOverByRules_20 fu fu 0 x3
set_option maxRecDepth 20000 in
theorem T_X6_goOverByRules_0 (G : GX) (fu : Nat)  (hG : gt G = tbl) : ∀ (a1 : Int32) (a2 : Int32) (a3 : Int32) (μ : Mem) (r : Mem) , D_X6_goOverByRules_0 fu a1 a2 a3 μ = some r → V G mX6_goOverByRules 0 [some (.ref 0), some (.int a1), some (.int a2), some (.int a3), none] [] μ (.inl none) (r) := by
  intro a1 a2 a3 μ r h
  unfold D_X6_goOverByRules_0 at h
  refine V_aload_n dX6_goOverByRules_0 rfl ?_
  refine V_getR (kf := 2) k_X6 (by decide) lk_RX6_23 rfl dX6_goOverByRules_1 (tq_0 hG) rfl ?_
  obtain ⟨x1, y2, h⟩ := bi_o h
  refine V_callV (as := []) (q := 32) (rest := []) dX6_goOverByRules_4 ov_mX0_clear lk_RX6_129 (by decide) (by decide) rfl rfl (Nat.le_of_ble_eq_true rfl) (tq_32 hG) rfl (VM_X0_clear G fu 32 hG (Or.inr rfl) μ _ y2) ?_
  refine V_aload_n dX6_goOverByRules_7 rfl ?_
  refine V_getR (kf := 2) k_X6 (by decide) lk_RX6_23 rfl dX6_goOverByRules_8 (tq_0 hG) rfl ?_
  refine V_iload_n dX6_goOverByRules_11 rfl ?_
  refine V_iload_n dX6_goOverByRules_12 rfl ?_
  refine V_iload_n dX6_goOverByRules_13 rfl ?_
  obtain ⟨x3, y4, h⟩ := bi_o h
  refine V_callV (as := [.int a1, .int a2, .int a3]) (q := 32) (rest := []) dX6_goOverByRules_14 ov_mX0_setRules lk_RX6_377 (by decide) (by decide) rfl rfl (Nat.le_of_ble_eq_true rfl) (tq_32 hG) rfl (VM_X0_setRules G 32 hG (Or.inr rfl) a1 a2 a3 x1 _ y4) ?_
  refine V_iconst (v := 0) dX6_goOverByRules_17 rfl ?_
  refine V_istore (lv2 := [some (.ref 0), some (.int a1), some (.int a2), some (.int a3), some (.int 0)]) dX6_goOverByRules_18 (by decide) rfl ?_
  exact V_wk [true, false, false, false, true] rfl (T_X6_goOverByRules_20 G fu hG fu _ _ _ h)
theorem VM_X6_goOverByRules (G : GX) (fu : Nat)  (hG : gt G = tbl) (a1 : Int32) (a2 : Int32) (a3 : Int32) (μ : Mem) (r : Mem) (h : D_X6_goOverByRules_0 fu a1 a2 a3 μ = some r) : VM G mX6_goOverByRules [.ref 0, .int a1, .int a2, .int a3] μ (.inl none) (r) := V_entry ok_mX6_goOverByRules rfl rfl (Nat.le_of_ble_eq_true rfl) (T_X6_goOverByRules_0 G fu hG a1 a2 a3 μ r h)
def D_X6_other_23 (fu : Nat)  (v1 : Int32) (v2 : Int32) (v3 : Int32) (v4 : Int32) (s1 : Int32) (μ : Mem) : Option ((Int64 ⊕ String) × Mem) :=
  (D_X6_needRight_0 s1 μ).bind fun x5 =>
  tx x5 fun v7 m8 =>
  (D_X6_goOverByRules_0 fu v1 v2 v3 m8).bind fun x11 =>
  (D_X1_borneInAll_0 fu x11 46 v4).bind fun x13 =>
  some (.inl x13, x11)
set_option maxRecDepth 20000 in
theorem T_X6_other_23 (G : GX) (fu : Nat)  (hG : gt G = tbl) : ∀ (v1 : Int32) (v2 : Int32) (v3 : Int32) (v4 : Int32) (s1 : Int32) (μ : Mem) (r : ((Int64 ⊕ String) × Mem)) , D_X6_other_23 fu v1 v2 v3 v4 s1 μ = some r → V G mX6_other 23 [some (.ref 0), some (.int v1), some (.int v2), some (.int v3), some (.int v4)] [.int s1, .ref 0] μ (ouL r.1) (r.2) := by
  intro v1 v2 v3 v4 s1 μ r h
  unfold D_X6_other_23 at h
  obtain ⟨x5, y6, h⟩ := bi_o h
  have z9 := VM_X6_needRight G hG s1 μ _ y6
  rcases tx_o h with ⟨v7, q10, h⟩ | ⟨E, q10, h⟩
  · rw [q10] at z9
    generalize x5.2 = m8 at h z9
    refine V_callV (as := [.int s1]) (q := 0) (rest := []) dX6_other_23 ov_mX6_needRight lk_RX6_47 (by decide) (by decide) rfl rfl (Nat.le_of_ble_eq_true rfl) (tq_0 hG) rfl (z9) ?_
    refine V_aload_n dX6_other_26 rfl ?_
    refine V_iload_n dX6_other_27 rfl ?_
    refine V_iload_n dX6_other_28 rfl ?_
    refine V_iload_n dX6_other_29 rfl ?_
    obtain ⟨x11, y12, h⟩ := bi_o h
    refine V_callV (as := [.int v1, .int v2, .int v3]) (q := 0) (rest := []) dX6_other_30 ov_mX6_goOverByRules lk_RX6_332 (by decide) (by decide) rfl rfl (Nat.le_of_ble_eq_true rfl) (tq_0 hG) rfl (VM_X6_goOverByRules G fu hG v1 v2 v3 m8 _ y12) ?_
    refine V_aload_n dX6_other_33 rfl ?_
    refine V_getR (kf := 2) k_X6 (by decide) lk_RX6_23 rfl dX6_other_34 (tq_0 hG) rfl ?_
    refine V_getR (kf := 1) k_X0 (by decide) lk_RX6_107 rfl dX6_other_37 (tq_32 hG) rfl ?_
    refine V_iload dX6_other_40 rfl ?_
    obtain ⟨x13, y14, h⟩ := bi_o h
    refine V_callV (as := [.int v4]) (q := 46) (rest := []) dX6_other_42 ov_mX1_borneInAll lk_RX6_250 (by decide) (by decide) rfl rfl (Nat.le_of_ble_eq_true rfl) (tq_46 hG) rfl (VM_X1_borneInAll G fu x11 46 hG (Or.inr rfl) v4 _ y14) ?_
    cases h
    exact V_lret rfl dX6_other_45
  · rw [q10] at z9
    cases h
    exact V_callVX (as := [.int s1]) (q := 0) (rest := []) dX6_other_23 rfl ov_mX6_needRight lk_RX6_47 (by decide) (by decide) rfl rfl (Nat.le_of_ble_eq_true rfl) (tq_0 hG) rfl (z9)
def D_X6_other_22 (fu : Nat)  (v1 : Int32) (v2 : Int32) (v3 : Int32) (v4 : Int32) (μ : Mem) : Option ((Int64 ⊕ String) × Mem) :=
  D_X6_other_23 fu v1 v2 v3 v4 0 μ
set_option maxRecDepth 20000 in
theorem T_X6_other_22 (G : GX) (fu : Nat)  (hG : gt G = tbl) : ∀ (v1 : Int32) (v2 : Int32) (v3 : Int32) (v4 : Int32) (μ : Mem) (r : ((Int64 ⊕ String) × Mem)) , D_X6_other_22 fu v1 v2 v3 v4 μ = some r → V G mX6_other 22 [some (.ref 0), some (.int v1), some (.int v2), some (.int v3), some (.int v4)] [.ref 0] μ (ouL r.1) (r.2) := by
  intro v1 v2 v3 v4 μ r h
  unfold D_X6_other_22 at h
  refine V_iconst (v := 0) dX6_other_22 rfl ?_
  exact V_wk [true, true, true, true, true] rfl (T_X6_other_23 G fu hG _ _ _ _ _ _ _ h)
def D_X6_other_0 (fu : Nat)  (a1 : Int32) (a2 : Int32) (a3 : Int32) (a4 : Int32) (μ : Mem) : Option ((Int64 ⊕ String) × Mem) :=
  (D_X6_areRules_0 μ a1 a2 a3).bind fun x1 =>
  if x1 = true then
    (D_X6_isInsurer_0 μ a4).bind fun x3 =>
    if x3 = true then
      D_X6_other_23 fu a1 a2 a3 a4 1 μ
    else
      D_X6_other_22 fu a1 a2 a3 a4 μ
  else
    D_X6_other_22 fu a1 a2 a3 a4 μ
set_option maxRecDepth 20000 in
theorem T_X6_other_0 (G : GX) (fu : Nat)  (hG : gt G = tbl) : ∀ (a1 : Int32) (a2 : Int32) (a3 : Int32) (a4 : Int32) (μ : Mem) (r : ((Int64 ⊕ String) × Mem)) , D_X6_other_0 fu a1 a2 a3 a4 μ = some r → V G mX6_other 0 [some (.ref 0), some (.int a1), some (.int a2), some (.int a3), some (.int a4)] [] μ (ouL r.1) (r.2) := by
  intro a1 a2 a3 a4 μ r h
  unfold D_X6_other_0 at h
  refine V_aload_n dX6_other_0 rfl ?_
  refine V_iload_n dX6_other_1 rfl ?_
  refine V_iload_n dX6_other_2 rfl ?_
  refine V_iload_n dX6_other_3 rfl ?_
  obtain ⟨x1, y2, h⟩ := bi_o h
  refine V_callS (as := [.int a1, .int a2, .int a3]) (rest := [.ref 0]) dX6_other_4 os_mX6_areRules rfl lk_RX6_89 (by decide) (by decide) rfl rfl (Nat.le_of_ble_eq_true rfl) (VM_X6_areRules G μ hG a1 a2 a3 _ y2) ?_
  by_cases c7 : x1 = true
  · rw [if_pos c7] at h
    refine V_ifeq_f (tgt := 22) dX6_other_7 (by decide) (b2i_t.mp c7) ?_
    refine V_iload dX6_other_10 rfl ?_
    obtain ⟨x3, y4, h⟩ := bi_o h
    refine V_callS (as := [.int a4]) (rest := [.ref 0]) dX6_other_12 os_mX6_isInsurer rfl lk_RX6_74 (by decide) (by decide) rfl rfl (Nat.le_of_ble_eq_true rfl) (VM_X6_isInsurer G μ hG a4 _ y4) ?_
    by_cases c15 : x3 = true
    · rw [if_pos c15] at h
      refine V_ifeq_f (tgt := 22) dX6_other_15 (by decide) (b2i_t.mp c15) ?_
      refine V_iconst (v := 1) dX6_other_18 rfl ?_
      refine V_goto (tgt := 23) dX6_other_19 (by decide) ?_
      exact V_wk [true, true, true, true, true] rfl (T_X6_other_23 G fu hG _ _ _ _ _ _ _ h)
    · rw [if_neg c15] at h
      refine V_ifeq_t (tgt := 22) dX6_other_15 (by decide) (b2i_f.mp c15) ?_
      exact V_wk [true, true, true, true, true] rfl (T_X6_other_22 G fu hG _ _ _ _ _ _ h)
  · rw [if_neg c7] at h
    refine V_ifeq_t (tgt := 22) dX6_other_7 (by decide) (b2i_f.mp c7) ?_
    exact V_wk [true, true, true, true, true] rfl (T_X6_other_22 G fu hG _ _ _ _ _ _ h)
theorem VM_X6_other (G : GX) (fu : Nat)  (hG : gt G = tbl) (a1 : Int32) (a2 : Int32) (a3 : Int32) (a4 : Int32) (μ : Mem) (r : ((Int64 ⊕ String) × Mem)) (h : D_X6_other_0 fu a1 a2 a3 a4 μ = some r) : VM G mX6_other [.ref 0, .int a1, .int a2, .int a3, .int a4] μ (ouL r.1) (r.2) := V_entry ok_mX6_other rfl rfl (Nat.le_of_ble_eq_true rfl) (T_X6_other_0 G fu hG a1 a2 a3 a4 μ r h)
def D_X6_best_110 (fu : Nat)  (k33 : Int32 → Int32 → Int32 → Int64 → Int32 → Mem → Option ((Int64 ⊕ String) × Mem)) (v1 : Int32) (v2 : Int32) (v3 : Int32) (v4 : Int64) (v6 : Int32) (μ : Mem) : Option ((Int64 ⊕ String) × Mem) :=
  k33 v1 v2 v3 v4 (v6 + 1) μ
set_option maxRecDepth 20000 in
theorem T_X6_best_110 (G : GX) (fu : Nat)  (hG : gt G = tbl) (k33 : Int32 → Int32 → Int32 → Int64 → Int32 → Mem → Option ((Int64 ⊕ String) × Mem)) (hk33 : ∀ (v1 : Int32) (v2 : Int32) (v3 : Int32) (v4 : Int64) (v6 : Int32) (μ : Mem) (r : ((Int64 ⊕ String) × Mem)), k33 v1 v2 v3 v4 v6 μ = some r → V G mX6_best 33 [some (.ref 0), some (.int v1), some (.int v2), some (.int v3), some (.long v4), none, some (.int v6), none, none, none, none] [] μ (ouL r.1) (r.2)) : ∀ (v1 : Int32) (v2 : Int32) (v3 : Int32) (v4 : Int64) (v6 : Int32) (μ : Mem) (r : ((Int64 ⊕ String) × Mem)) , D_X6_best_110 fu k33 v1 v2 v3 v4 v6 μ = some r → V G mX6_best 110 [some (.ref 0), some (.int v1), some (.int v2), some (.int v3), some (.long v4), none, some (.int v6), none, none, none, none] [] μ (ouL r.1) (r.2) := by
  intro v1 v2 v3 v4 v6 μ r h
  unfold D_X6_best_110 at h
  refine V_iinc (v := v6 + 1) (lv2 := [some (.ref 0), some (.int v1), some (.int v2), some (.int v3), some (.long v4), none, some (.int (v6 + 1)), none, none, none, none]) dX6_best_110 rfl rfl (by decide) rfl ?_
  refine V_goto (tgt := 33) dX6_best_113 (by decide) ?_
  exact V_wk [true, true, true, true, true, false, true, false, false, false, false] rfl (hk33 _ _ _ _ _ _ _ h)
def D_X6_best_103 (fu : Nat)  (k33 : Int32 → Int32 → Int32 → Int64 → Int32 → Mem → Option ((Int64 ⊕ String) × Mem)) (v1 : Int32) (v2 : Int32) (v6 : Int32) (v9 : Int64) (μ : Mem) : Option ((Int64 ⊕ String) × Mem) :=
  D_X6_best_110 fu k33 v1 v2 v6 v9 v6 μ
set_option maxRecDepth 20000 in
theorem T_X6_best_103 (G : GX) (fu : Nat)  (hG : gt G = tbl) (k33 : Int32 → Int32 → Int32 → Int64 → Int32 → Mem → Option ((Int64 ⊕ String) × Mem)) (hk33 : ∀ (v1 : Int32) (v2 : Int32) (v3 : Int32) (v4 : Int64) (v6 : Int32) (μ : Mem) (r : ((Int64 ⊕ String) × Mem)), k33 v1 v2 v3 v4 v6 μ = some r → V G mX6_best 33 [some (.ref 0), some (.int v1), some (.int v2), some (.int v3), some (.long v4), none, some (.int v6), none, none, none, none] [] μ (ouL r.1) (r.2)) : ∀ (v1 : Int32) (v2 : Int32) (v6 : Int32) (v9 : Int64) (μ : Mem) (r : ((Int64 ⊕ String) × Mem)) , D_X6_best_103 fu k33 v1 v2 v6 v9 μ = some r → V G mX6_best 103 [some (.ref 0), some (.int v1), some (.int v2), none, none, none, some (.int v6), none, none, some (.long v9), none] [] μ (ouL r.1) (r.2) := by
  intro v1 v2 v6 v9 μ r h
  unfold D_X6_best_103 at h
  refine V_iload dX6_best_103 rfl ?_
  refine V_istore_n (lv2 := [some (.ref 0), some (.int v1), some (.int v2), some (.int v6), none, none, some (.int v6), none, none, some (.long v9), none]) dX6_best_105 (by decide) rfl ?_
  refine V_lload dX6_best_106 rfl ?_
  refine V_lstore (lv2 := [some (.ref 0), some (.int v1), some (.int v2), some (.int v6), some (.long v9), none, some (.int v6), none, none, some (.long v9), none]) dX6_best_108 (by decide) rfl ?_
  exact V_wk [true, true, true, true, true, false, true, false, false, false, false] rfl (T_X6_best_110 G fu hG k33 hk33 _ _ _ _ _ _ _ h)
def D_X6_best_65 (fu : Nat)  (k33 : Int32 → Int32 → Int32 → Int64 → Int32 → Mem → Option ((Int64 ⊕ String) × Mem)) (v1 : Int32) (v2 : Int32) (v3 : Int32) (v4 : Int64) (v6 : Int32) (v7 : Int32) (v8 : Int32) (μ : Mem) : Option ((Int64 ⊕ String) × Mem) :=
  (D_X6_goOverByRules_0 fu (v6 >>> (4 &&& 31)) v7 v8 μ).bind fun x11 =>
  (D_X1_borneInAll_0 fu x11 46 v1).bind fun x13 =>
  if v3 = (-1 : Int32) then
    D_X6_best_103 fu k33 v1 v2 v6 x13 x11
  else
    if v4 ≤ x13 then
      D_X6_best_110 fu k33 v1 v2 v3 v4 v6 x11
    else
      D_X6_best_103 fu k33 v1 v2 v6 x13 x11
set_option maxRecDepth 20000 in
theorem T_X6_best_65 (G : GX) (fu : Nat)  (hG : gt G = tbl) (k33 : Int32 → Int32 → Int32 → Int64 → Int32 → Mem → Option ((Int64 ⊕ String) × Mem)) (hk33 : ∀ (v1 : Int32) (v2 : Int32) (v3 : Int32) (v4 : Int64) (v6 : Int32) (μ : Mem) (r : ((Int64 ⊕ String) × Mem)), k33 v1 v2 v3 v4 v6 μ = some r → V G mX6_best 33 [some (.ref 0), some (.int v1), some (.int v2), some (.int v3), some (.long v4), none, some (.int v6), none, none, none, none] [] μ (ouL r.1) (r.2)) : ∀ (v1 : Int32) (v2 : Int32) (v3 : Int32) (v4 : Int64) (v6 : Int32) (v7 : Int32) (v8 : Int32) (μ : Mem) (r : ((Int64 ⊕ String) × Mem)) , D_X6_best_65 fu k33 v1 v2 v3 v4 v6 v7 v8 μ = some r → V G mX6_best 65 [some (.ref 0), some (.int v1), some (.int v2), some (.int v3), some (.long v4), none, some (.int v6), some (.int v7), some (.int v8), none, none] [] μ (ouL r.1) (r.2) := by
  intro v1 v2 v3 v4 v6 v7 v8 μ r h
  unfold D_X6_best_65 at h
  refine V_aload_n dX6_best_65 rfl ?_
  refine V_iload dX6_best_66 rfl ?_
  refine V_iconst (v := 4) dX6_best_68 rfl ?_
  refine V_ishr dX6_best_69 ?_
  refine V_iload dX6_best_70 rfl ?_
  refine V_iload dX6_best_72 rfl ?_
  obtain ⟨x11, y12, h⟩ := bi_o h
  refine V_callV (as := [.int (v6 >>> (4 &&& 31)), .int v7, .int v8]) (q := 0) (rest := []) dX6_best_74 ov_mX6_goOverByRules lk_RX6_332 (by decide) (by decide) rfl rfl (Nat.le_of_ble_eq_true rfl) (tq_0 hG) rfl (VM_X6_goOverByRules G fu hG (v6 >>> (4 &&& 31)) v7 v8 μ _ y12) ?_
  refine V_aload_n dX6_best_77 rfl ?_
  refine V_getR (kf := 2) k_X6 (by decide) lk_RX6_23 rfl dX6_best_78 (tq_0 hG) rfl ?_
  refine V_getR (kf := 1) k_X0 (by decide) lk_RX6_107 rfl dX6_best_81 (tq_32 hG) rfl ?_
  refine V_iload_n dX6_best_84 rfl ?_
  obtain ⟨x13, y14, h⟩ := bi_o h
  refine V_callV (as := [.int v1]) (q := 46) (rest := []) dX6_best_85 ov_mX1_borneInAll lk_RX6_250 (by decide) (by decide) rfl rfl (Nat.le_of_ble_eq_true rfl) (tq_46 hG) rfl (VM_X1_borneInAll G fu x11 46 hG (Or.inr rfl) v1 _ y14) ?_
  refine V_lstore (lv2 := [some (.ref 0), some (.int v1), some (.int v2), some (.int v3), some (.long v4), none, some (.int v6), some (.int v7), some (.int v8), some (.long x13), none]) dX6_best_88 (by decide) rfl ?_
  refine V_iload_n dX6_best_90 rfl ?_
  refine V_iconst (v := (-1)) dX6_best_91 rfl ?_
  by_cases c92 : v3 = (-1 : Int32)
  · rw [if_pos c92] at h
    refine V_icmpeq_t (tgt := 103) dX6_best_92 (by decide) c92 ?_
    exact V_wk [true, true, true, false, false, false, true, false, false, true, false] rfl (T_X6_best_103 G fu hG k33 hk33 _ _ _ _ _ _ h)
  · rw [if_neg c92] at h
    refine V_icmpeq_f (tgt := 103) dX6_best_92 (by decide) c92 ?_
    refine V_lload dX6_best_95 rfl ?_
    refine V_lload dX6_best_97 rfl ?_
    refine V_lcmp dX6_best_99 ?_
    by_cases c100 : v4 ≤ x13
    · rw [if_pos c100] at h
      refine V_ifge_t (tgt := 110) dX6_best_100 (by decide) ((lc_ge x13 v4).mpr c100) ?_
      exact V_wk [true, true, true, true, true, false, true, false, false, false, false] rfl (T_X6_best_110 G fu hG k33 hk33 _ _ _ _ _ _ _ h)
    · rw [if_neg c100] at h
      refine V_ifge_f (tgt := 110) dX6_best_100 (by decide) (fun z => c100 ((lc_ge x13 v4).mp z)) ?_
      exact V_wk [true, true, true, false, false, false, true, false, false, true, false] rfl (T_X6_best_103 G fu hG k33 hk33 _ _ _ _ _ _ h)
def D_X6_best_33 (fu : Nat)  : Nat → Int32 → Int32 → Int32 → Int64 → Int32 → Mem → Option ((Int64 ⊕ String) × Mem)
  | 0, _, _, _, _, _, _ => none
  | n + 1, v1, v2, v3, v4, v6, μ =>
    if (64 : Int32) ≤ v6 then
      if v2 = 0 then
        some (.inl ((v3 >>> (4 &&& 31) : Int32).toInt64), μ)
      else
      if v2 = 1 then
        some (.inl (((v3 >>> (2 &&& 31)) &&& 3 : Int32).toInt64), μ)
      else
      if v2 = 2 then
        some (.inl ((v3 &&& 3 : Int32).toInt64), μ)
      else
        some (.inl v4, μ)
    else
      if ((v6 >>> (2 &&& 31)) &&& 3) = (2 : Int32) then
        D_X6_best_65 fu (D_X6_best_33 fu n) v1 v2 v3 v4 v6 ((v6 >>> (2 &&& 31)) &&& 3) (v6 &&& 3) μ
      else
        if (v6 &&& 3) = 0 then
          D_X6_best_65 fu (D_X6_best_33 fu n) v1 v2 v3 v4 v6 ((v6 >>> (2 &&& 31)) &&& 3) (v6 &&& 3) μ
        else
          D_X6_best_110 fu (D_X6_best_33 fu n) v1 v2 v3 v4 v6 μ
set_option maxRecDepth 20000 in
theorem T_X6_best_33 (G : GX) (fu : Nat)  (hG : gt G = tbl) : ∀ (n : Nat) (v1 : Int32) (v2 : Int32) (v3 : Int32) (v4 : Int64) (v6 : Int32) (μ : Mem) (r : ((Int64 ⊕ String) × Mem)) , D_X6_best_33 fu n v1 v2 v3 v4 v6 μ = some r → V G mX6_best 33 [some (.ref 0), some (.int v1), some (.int v2), some (.int v3), some (.long v4), none, some (.int v6), none, none, none, none] [] μ (ouL r.1) (r.2) := by
  intro n
  induction n with
  | zero =>
    intro v1 v2 v3 v4 v6 μ r h
    exact nomatch (show (none : Option ((Int64 ⊕ String) × Mem)) = some r from h)
  | succ n ih =>
    intro v1 v2 v3 v4 v6 μ r h
    rw [D_X6_best_33] at h
    refine V_iload dX6_best_33 rfl ?_
    refine V_bipush (v := 64) dX6_best_35 rfl ?_
    by_cases c37 : (64 : Int32) ≤ v6
    · rw [if_pos c37] at h
      refine V_icmpge_t (tgt := 116) dX6_best_37 (by decide) c37 ?_
      refine V_iload_n dX6_best_116 rfl ?_
      by_cases c117_0 : v2 = 0
      · rw [if_pos c117_0] at h
        have qc117_0 : (v2 : Int32).toInt = 0 := by rw [c117_0]; decide
        refine V_tabIn (tgt := 144) dX6_best_117 (by rw [qc117_0]; decide) (by rw [qc117_0]; decide) (by rw [qc117_0]; rfl) (by decide) ?_
        refine V_iload_n dX6_best_144 rfl ?_
        refine V_iconst (v := 4) dX6_best_145 rfl ?_
        refine V_ishr dX6_best_146 ?_
        refine V_i2l dX6_best_147 ?_
        cases h
        exact V_lret rfl dX6_best_148
      · rw [if_neg c117_0] at h
        by_cases c117_1 : v2 = 1
        · rw [if_pos c117_1] at h
          have qc117_1 : (v2 : Int32).toInt = 1 := by rw [c117_1]; decide
          refine V_tabIn (tgt := 149) dX6_best_117 (by rw [qc117_1]; decide) (by rw [qc117_1]; decide) (by rw [qc117_1]; rfl) (by decide) ?_
          refine V_iload_n dX6_best_149 rfl ?_
          refine V_iconst (v := 2) dX6_best_150 rfl ?_
          refine V_ishr dX6_best_151 ?_
          refine V_iconst (v := 3) dX6_best_152 rfl ?_
          refine V_iand dX6_best_153 ?_
          refine V_i2l dX6_best_154 ?_
          cases h
          exact V_lret rfl dX6_best_155
        · rw [if_neg c117_1] at h
          by_cases c117_2 : v2 = 2
          · rw [if_pos c117_2] at h
            have qc117_2 : (v2 : Int32).toInt = 2 := by rw [c117_2]; decide
            refine V_tabIn (tgt := 156) dX6_best_117 (by rw [qc117_2]; decide) (by rw [qc117_2]; decide) (by rw [qc117_2]; rfl) (by decide) ?_
            refine V_iload_n dX6_best_156 rfl ?_
            refine V_iconst (v := 3) dX6_best_157 rfl ?_
            refine V_iand dX6_best_158 ?_
            refine V_i2l dX6_best_159 ?_
            cases h
            exact V_lret rfl dX6_best_160
          · rw [if_neg c117_2] at h
            refine V_tabOut (tgt := 161) dX6_best_117 (tab_out 3 2 (by decide) (fun j hj => ?_)) (by decide) ?_
            · match j, hj with
              | 0, _ => exact fun z => c117_0 (Int32.toInt_inj.mp (by rw [z]; decide))
              | 1, _ => exact fun z => c117_1 (Int32.toInt_inj.mp (by rw [z]; decide))
              | 2, _ => exact fun z => c117_2 (Int32.toInt_inj.mp (by rw [z]; decide))
              | j + 3, hj => exact absurd hj (by omega)
            refine V_lload dX6_best_161 rfl ?_
            cases h
            exact V_lret rfl dX6_best_163
    · rw [if_neg c37] at h
      refine V_icmpge_f (tgt := 116) dX6_best_37 (by decide) c37 ?_
      refine V_iload dX6_best_40 rfl ?_
      refine V_iconst (v := 2) dX6_best_42 rfl ?_
      refine V_ishr dX6_best_43 ?_
      refine V_iconst (v := 3) dX6_best_44 rfl ?_
      refine V_iand dX6_best_45 ?_
      refine V_istore (lv2 := [some (.ref 0), some (.int v1), some (.int v2), some (.int v3), some (.long v4), none, some (.int v6), some (.int ((v6 >>> (2 &&& 31)) &&& 3)), none, none, none]) dX6_best_46 (by decide) rfl ?_
      refine V_iload dX6_best_48 rfl ?_
      refine V_iconst (v := 3) dX6_best_50 rfl ?_
      refine V_iand dX6_best_51 ?_
      refine V_istore (lv2 := [some (.ref 0), some (.int v1), some (.int v2), some (.int v3), some (.long v4), none, some (.int v6), some (.int ((v6 >>> (2 &&& 31)) &&& 3)), some (.int (v6 &&& 3)), none, none]) dX6_best_52 (by decide) rfl ?_
      refine V_iload dX6_best_54 rfl ?_
      refine V_iconst (v := 2) dX6_best_56 rfl ?_
      by_cases c57 : ((v6 >>> (2 &&& 31)) &&& 3) = (2 : Int32)
      · rw [if_pos c57] at h
        refine V_icmpeq_t (tgt := 65) dX6_best_57 (by decide) c57 ?_
        exact V_wk [true, true, true, true, true, false, true, true, true, false, false] rfl (T_X6_best_65 G fu hG (D_X6_best_33 fu n) ih _ _ _ _ _ _ _ _ _ h)
      · rw [if_neg c57] at h
        refine V_icmpeq_f (tgt := 65) dX6_best_57 (by decide) c57 ?_
        refine V_iload dX6_best_60 rfl ?_
        by_cases c62 : (v6 &&& 3) = 0
        · rw [if_pos c62] at h
          refine V_ifne_f (tgt := 110) dX6_best_62 (by decide) c62 ?_
          exact V_wk [true, true, true, true, true, false, true, true, true, false, false] rfl (T_X6_best_65 G fu hG (D_X6_best_33 fu n) ih _ _ _ _ _ _ _ _ _ h)
        · rw [if_neg c62] at h
          refine V_ifne_t (tgt := 110) dX6_best_62 (by decide) c62 ?_
          exact V_wk [true, true, true, true, true, false, true, false, false, false, false] rfl (T_X6_best_110 G fu hG (D_X6_best_33 fu n) ih _ _ _ _ _ _ _ h)
def D_X6_best_22 (fu : Nat)  (v1 : Int32) (v2 : Int32) (s1 : Int32) (μ : Mem) : Option ((Int64 ⊕ String) × Mem) :=
  (D_X6_needRight_0 s1 μ).bind fun x5 =>
  tx x5 fun v7 m8 =>
  D_X6_best_33 fu fu v1 v2 (-1) 0 0 m8
set_option maxRecDepth 20000 in
theorem T_X6_best_22 (G : GX) (fu : Nat)  (hG : gt G = tbl) : ∀ (v1 : Int32) (v2 : Int32) (s1 : Int32) (μ : Mem) (r : ((Int64 ⊕ String) × Mem)) , D_X6_best_22 fu v1 v2 s1 μ = some r → V G mX6_best 22 [some (.ref 0), some (.int v1), some (.int v2), none, none, none, none, none, none, none, none] [.int s1, .ref 0] μ (ouL r.1) (r.2) := by
  intro v1 v2 s1 μ r h
  unfold D_X6_best_22 at h
  obtain ⟨x5, y6, h⟩ := bi_o h
  have z9 := VM_X6_needRight G hG s1 μ _ y6
  rcases tx_o h with ⟨v7, q10, h⟩ | ⟨E, q10, h⟩
  · rw [q10] at z9
    generalize x5.2 = m8 at h z9
    refine V_callV (as := [.int s1]) (q := 0) (rest := []) dX6_best_22 ov_mX6_needRight lk_RX6_47 (by decide) (by decide) rfl rfl (Nat.le_of_ble_eq_true rfl) (tq_0 hG) rfl (z9) ?_
    refine V_iconst (v := (-1)) dX6_best_25 rfl ?_
    refine V_istore_n (lv2 := [some (.ref 0), some (.int v1), some (.int v2), some (.int (-1)), none, none, none, none, none, none, none]) dX6_best_26 (by decide) rfl ?_
    refine V_lconst (v := 0) dX6_best_27 rfl ?_
    refine V_lstore (lv2 := [some (.ref 0), some (.int v1), some (.int v2), some (.int (-1)), some (.long 0), none, none, none, none, none, none]) dX6_best_28 (by decide) rfl ?_
    refine V_iconst (v := 0) dX6_best_30 rfl ?_
    refine V_istore (lv2 := [some (.ref 0), some (.int v1), some (.int v2), some (.int (-1)), some (.long 0), none, some (.int 0), none, none, none, none]) dX6_best_31 (by decide) rfl ?_
    exact V_wk [true, true, true, true, true, false, true, false, false, false, false] rfl (T_X6_best_33 G fu hG fu _ _ _ _ _ _ _ h)
  · rw [q10] at z9
    cases h
    exact V_callVX (as := [.int s1]) (q := 0) (rest := []) dX6_best_22 rfl ov_mX6_needRight lk_RX6_47 (by decide) (by decide) rfl rfl (Nat.le_of_ble_eq_true rfl) (tq_0 hG) rfl (z9)
def D_X6_best_21 (fu : Nat)  (v1 : Int32) (v2 : Int32) (μ : Mem) : Option ((Int64 ⊕ String) × Mem) :=
  D_X6_best_22 fu v1 v2 0 μ
set_option maxRecDepth 20000 in
theorem T_X6_best_21 (G : GX) (fu : Nat)  (hG : gt G = tbl) : ∀ (v1 : Int32) (v2 : Int32) (μ : Mem) (r : ((Int64 ⊕ String) × Mem)) , D_X6_best_21 fu v1 v2 μ = some r → V G mX6_best 21 [some (.ref 0), some (.int v1), some (.int v2), none, none, none, none, none, none, none, none] [.ref 0] μ (ouL r.1) (r.2) := by
  intro v1 v2 μ r h
  unfold D_X6_best_21 at h
  refine V_iconst (v := 0) dX6_best_21 rfl ?_
  exact V_wk [true, true, true, false, false, false, false, false, false, false, false] rfl (T_X6_best_22 G fu hG _ _ _ _ _ h)
def D_X6_best_0 (fu : Nat)  (a1 : Int32) (a2 : Int32) (μ : Mem) : Option ((Int64 ⊕ String) × Mem) :=
  (D_X6_isInsurer_0 μ a1).bind fun x1 =>
  if x1 = true then
    (D_X6_isWithin_0 μ a2 0 3).bind fun x3 =>
    if x3 = true then
      D_X6_best_22 fu a1 a2 1 μ
    else
      D_X6_best_21 fu a1 a2 μ
  else
    D_X6_best_21 fu a1 a2 μ
set_option maxRecDepth 20000 in
theorem T_X6_best_0 (G : GX) (fu : Nat)  (hG : gt G = tbl) : ∀ (a1 : Int32) (a2 : Int32) (μ : Mem) (r : ((Int64 ⊕ String) × Mem)) , D_X6_best_0 fu a1 a2 μ = some r → V G mX6_best 0 [some (.ref 0), some (.int a1), some (.int a2), none, none, none, none, none, none, none, none] [] μ (ouL r.1) (r.2) := by
  intro a1 a2 μ r h
  unfold D_X6_best_0 at h
  refine V_aload_n dX6_best_0 rfl ?_
  refine V_iload_n dX6_best_1 rfl ?_
  obtain ⟨x1, y2, h⟩ := bi_o h
  refine V_callS (as := [.int a1]) (rest := [.ref 0]) dX6_best_2 os_mX6_isInsurer rfl lk_RX6_74 (by decide) (by decide) rfl rfl (Nat.le_of_ble_eq_true rfl) (VM_X6_isInsurer G μ hG a1 _ y2) ?_
  by_cases c5 : x1 = true
  · rw [if_pos c5] at h
    refine V_ifeq_f (tgt := 21) dX6_best_5 (by decide) (b2i_t.mp c5) ?_
    refine V_iload_n dX6_best_8 rfl ?_
    refine V_iconst (v := 0) dX6_best_9 rfl ?_
    refine V_iconst (v := 3) dX6_best_10 rfl ?_
    obtain ⟨x3, y4, h⟩ := bi_o h
    refine V_callS (as := [.int a2, .int 0, .int 3]) (rest := [.ref 0]) dX6_best_11 os_mX6_isWithin rfl lk_RX6_42 (by decide) (by decide) rfl rfl (Nat.le_of_ble_eq_true rfl) (VM_X6_isWithin G μ hG a2 0 3 _ y4) ?_
    by_cases c14 : x3 = true
    · rw [if_pos c14] at h
      refine V_ifeq_f (tgt := 21) dX6_best_14 (by decide) (b2i_t.mp c14) ?_
      refine V_iconst (v := 1) dX6_best_17 rfl ?_
      refine V_goto (tgt := 22) dX6_best_18 (by decide) ?_
      exact V_wk [true, true, true, false, false, false, false, false, false, false, false] rfl (T_X6_best_22 G fu hG _ _ _ _ _ h)
    · rw [if_neg c14] at h
      refine V_ifeq_t (tgt := 21) dX6_best_14 (by decide) (b2i_f.mp c14) ?_
      exact V_wk [true, true, true, false, false, false, false, false, false, false, false] rfl (T_X6_best_21 G fu hG _ _ _ _ h)
  · rw [if_neg c5] at h
    refine V_ifeq_t (tgt := 21) dX6_best_5 (by decide) (b2i_f.mp c5) ?_
    exact V_wk [true, true, true, false, false, false, false, false, false, false, false] rfl (T_X6_best_21 G fu hG _ _ _ _ h)
theorem VM_X6_best (G : GX) (fu : Nat)  (hG : gt G = tbl) (a1 : Int32) (a2 : Int32) (μ : Mem) (r : ((Int64 ⊕ String) × Mem)) (h : D_X6_best_0 fu a1 a2 μ = some r) : VM G mX6_best [.ref 0, .int a1, .int a2] μ (ouL r.1) (r.2) := V_entry ok_mX6_best rfl rfl (Nat.le_of_ble_eq_true rfl) (T_X6_best_0 G fu hG a1 a2 μ r h)
def D_X6_goOverWithout_49 (fu : Nat)  (k11 : Int32 → Int32 → Int32 → Mem → Option (Int32 × Mem)) (v1 : Int32) (v2 : Int32) (v3 : Int32) (μ : Mem) : Option (Int32 × Mem) :=
  k11 v1 v2 (v3 + 1) μ
set_option maxRecDepth 20000 in
theorem T_X6_goOverWithout_49 (G : GX) (fu : Nat)  (hG : gt G = tbl) (k11 : Int32 → Int32 → Int32 → Mem → Option (Int32 × Mem)) (hk11 : ∀ (v1 : Int32) (v2 : Int32) (v3 : Int32) (μ : Mem) (r : (Int32 × Mem)), k11 v1 v2 v3 μ = some r → V G mX6_goOverWithout 11 [some (.ref 0), some (.int v1), some (.int v2), some (.int v3)] [] μ (.inl (some (.int r.1))) (r.2)) : ∀ (v1 : Int32) (v2 : Int32) (v3 : Int32) (μ : Mem) (r : (Int32 × Mem)) , D_X6_goOverWithout_49 fu k11 v1 v2 v3 μ = some r → V G mX6_goOverWithout 49 [some (.ref 0), some (.int v1), some (.int v2), some (.int v3)] [] μ (.inl (some (.int r.1))) (r.2) := by
  intro v1 v2 v3 μ r h
  unfold D_X6_goOverWithout_49 at h
  refine V_iinc (v := v3 + 1) (lv2 := [some (.ref 0), some (.int v1), some (.int v2), some (.int (v3 + 1))]) dX6_goOverWithout_49 rfl rfl (by decide) rfl ?_
  refine V_goto (tgt := 11) dX6_goOverWithout_52 (by decide) ?_
  exact V_wk [true, true, true, true] rfl (hk11 _ _ _ _ _ h)
def D_X6_goOverWithout_11 (fu : Nat)  : Nat → Int32 → Int32 → Int32 → Mem → Option (Int32 × Mem)
  | 0, _, _, _, _ => none
  | n + 1, v1, v2, v3, μ =>
    if (μ.1 1 1) ≤ v3 then
      some (v2, μ)
    else
      if v3 = v1 then
        D_X6_goOverWithout_49 fu (D_X6_goOverWithout_11 fu n) v1 v2 v3 μ
      else
        (D_X0_carryOut_0 fu 32 v3 μ).bind fun x3 =>
        if x3.1 = true then
          D_X6_goOverWithout_49 fu (D_X6_goOverWithout_11 fu n) v1 v2 v3 x3.2
        else
          D_X6_goOverWithout_49 fu (D_X6_goOverWithout_11 fu n) v1 (v2 + 1) v3 x3.2
set_option maxRecDepth 20000 in
theorem T_X6_goOverWithout_11 (G : GX) (fu : Nat)  (hG : gt G = tbl) : ∀ (n : Nat) (v1 : Int32) (v2 : Int32) (v3 : Int32) (μ : Mem) (r : (Int32 × Mem)) , D_X6_goOverWithout_11 fu n v1 v2 v3 μ = some r → V G mX6_goOverWithout 11 [some (.ref 0), some (.int v1), some (.int v2), some (.int v3)] [] μ (.inl (some (.int r.1))) (r.2) := by
  intro n
  induction n with
  | zero =>
    intro v1 v2 v3 μ r h
    exact nomatch (show (none : Option (Int32 × Mem)) = some r from h)
  | succ n ih =>
    intro v1 v2 v3 μ r h
    rw [D_X6_goOverWithout_11] at h
    refine V_iload_n dX6_goOverWithout_11 rfl ?_
    refine V_aload_n dX6_goOverWithout_12 rfl ?_
    refine V_getR (kf := 0) k_X6 (by decide) lk_RX6_12 rfl dX6_goOverWithout_13 (tq_0 hG) rfl ?_
    refine V_getI (kf := 1) k_X2 (by decide) lk_RX6_128 rfl dX6_goOverWithout_16 (tq_1 hG) rfl ?_
    by_cases c19 : (μ.1 1 1) ≤ v3
    · rw [if_pos c19] at h
      refine V_icmpge_t (tgt := 55) dX6_goOverWithout_19 (by decide) c19 ?_
      refine V_iload_n dX6_goOverWithout_55 rfl ?_
      cases h
      exact V_iret rfl dX6_goOverWithout_56
    · rw [if_neg c19] at h
      refine V_icmpge_f (tgt := 55) dX6_goOverWithout_19 (by decide) c19 ?_
      refine V_iload_n dX6_goOverWithout_22 rfl ?_
      refine V_iload_n dX6_goOverWithout_23 rfl ?_
      by_cases c24 : v3 = v1
      · rw [if_pos c24] at h
        refine V_icmpeq_t (tgt := 49) dX6_goOverWithout_24 (by decide) c24 ?_
        exact V_wk [true, true, true, true] rfl (T_X6_goOverWithout_49 G fu hG (D_X6_goOverWithout_11 fu n) ih _ _ _ _ _ h)
      · rw [if_neg c24] at h
        refine V_icmpeq_f (tgt := 49) dX6_goOverWithout_24 (by decide) c24 ?_
        refine V_aload_n dX6_goOverWithout_27 rfl ?_
        refine V_getR (kf := 2) k_X6 (by decide) lk_RX6_23 rfl dX6_goOverWithout_28 (tq_0 hG) rfl ?_
        refine V_aload_n dX6_goOverWithout_31 rfl ?_
        refine V_getR (kf := 0) k_X6 (by decide) lk_RX6_12 rfl dX6_goOverWithout_32 (tq_0 hG) rfl ?_
        refine V_iload_n dX6_goOverWithout_35 rfl ?_
        refine V_aload_n dX6_goOverWithout_36 rfl ?_
        refine V_getR (kf := 3) k_X6 (by decide) lk_RX6_29 rfl dX6_goOverWithout_37 (tq_0 hG) rfl ?_
        obtain ⟨x3, y4, h⟩ := bi_o h
        refine V_callV (as := [.ref 1, .int v3, .ref 61]) (q := 32) (rest := []) dX6_goOverWithout_40 ov_mX0_carryOut lk_RX6_132 (by decide) (by decide) rfl rfl (Nat.le_of_ble_eq_true rfl) (tq_32 hG) rfl (VM_X0_carryOut G fu 32 hG (Or.inr rfl) v3 μ _ y4) ?_
        by_cases c43 : x3.1 = true
        · rw [if_pos c43] at h
          refine V_ifne_t (tgt := 49) dX6_goOverWithout_43 (by decide) (b2i_t.mp c43) ?_
          exact V_wk [true, true, true, true] rfl (T_X6_goOverWithout_49 G fu hG (D_X6_goOverWithout_11 fu n) ih _ _ _ _ _ h)
        · rw [if_neg c43] at h
          refine V_ifne_f (tgt := 49) dX6_goOverWithout_43 (by decide) (b2i_f.mp c43) ?_
          refine V_iinc (v := v2 + 1) (lv2 := [some (.ref 0), some (.int v1), some (.int (v2 + 1)), some (.int v3)]) dX6_goOverWithout_46 rfl rfl (by decide) rfl ?_
          exact V_wk [true, true, true, true] rfl (T_X6_goOverWithout_49 G fu hG (D_X6_goOverWithout_11 fu n) ih _ _ _ _ _ h)
def D_X6_goOverWithout_0 (fu : Nat)  (a1 : Int32) (μ : Mem) : Option (Int32 × Mem) :=
  (D_X0_clear_0 fu 32 μ).bind fun x1 =>
  D_X6_goOverWithout_11 fu fu a1 0 0 x1
set_option maxRecDepth 20000 in
theorem T_X6_goOverWithout_0 (G : GX) (fu : Nat)  (hG : gt G = tbl) : ∀ (a1 : Int32) (μ : Mem) (r : (Int32 × Mem)) , D_X6_goOverWithout_0 fu a1 μ = some r → V G mX6_goOverWithout 0 [some (.ref 0), some (.int a1), none, none] [] μ (.inl (some (.int r.1))) (r.2) := by
  intro a1 μ r h
  unfold D_X6_goOverWithout_0 at h
  refine V_iconst (v := 0) dX6_goOverWithout_0 rfl ?_
  refine V_istore_n (lv2 := [some (.ref 0), some (.int a1), some (.int 0), none]) dX6_goOverWithout_1 (by decide) rfl ?_
  refine V_aload_n dX6_goOverWithout_2 rfl ?_
  refine V_getR (kf := 2) k_X6 (by decide) lk_RX6_23 rfl dX6_goOverWithout_3 (tq_0 hG) rfl ?_
  obtain ⟨x1, y2, h⟩ := bi_o h
  refine V_callV (as := []) (q := 32) (rest := []) dX6_goOverWithout_6 ov_mX0_clear lk_RX6_129 (by decide) (by decide) rfl rfl (Nat.le_of_ble_eq_true rfl) (tq_32 hG) rfl (VM_X0_clear G fu 32 hG (Or.inr rfl) μ _ y2) ?_
  refine V_iconst (v := 0) dX6_goOverWithout_9 rfl ?_
  refine V_istore_n (lv2 := [some (.ref 0), some (.int a1), some (.int 0), some (.int 0)]) dX6_goOverWithout_10 (by decide) rfl ?_
  exact V_wk [true, true, true, true] rfl (T_X6_goOverWithout_11 G fu hG fu _ _ _ _ _ h)
theorem VM_X6_goOverWithout (G : GX) (fu : Nat)  (hG : gt G = tbl) (a1 : Int32) (μ : Mem) (r : (Int32 × Mem)) (h : D_X6_goOverWithout_0 fu a1 μ = some r) : VM G mX6_goOverWithout [.ref 0, .int a1] μ (.inl (some (.int r.1))) (r.2) := V_entry ok_mX6_goOverWithout rfl rfl (Nat.le_of_ble_eq_true rfl) (T_X6_goOverWithout_0 G fu hG a1 μ r h)
def D_X6_without_0 (fu : Nat)  (a1 : Int32) (a2 : Int32) (μ : Mem) : Option ((Int64 ⊕ String) × Mem) :=
  (D_X6_isEvent_0 μ a1).bind fun x1 =>
  (D_X6_needThere_0 (b2i x1) μ).bind fun x3 =>
  tx x3 fun v5 m6 =>
  (D_X6_isInsurer_0 m6 a2).bind fun x9 =>
  (D_X6_needRight_0 (b2i x9) m6).bind fun x11 =>
  tx x11 fun v13 m14 =>
  (D_X6_goOverWithout_0 fu a1 m14).bind fun x17 =>
  (D_X1_borneInAll_0 fu x17.2 46 a2).bind fun x19 =>
  some (.inl x19, x17.2)
set_option maxRecDepth 20000 in
theorem T_X6_without_0 (G : GX) (fu : Nat)  (hG : gt G = tbl) : ∀ (a1 : Int32) (a2 : Int32) (μ : Mem) (r : ((Int64 ⊕ String) × Mem)) , D_X6_without_0 fu a1 a2 μ = some r → V G mX6_without 0 [some (.ref 0), some (.int a1), some (.int a2)] [] μ (ouL r.1) (r.2) := by
  intro a1 a2 μ r h
  unfold D_X6_without_0 at h
  refine V_aload_n dX6_without_0 rfl ?_
  refine V_aload_n dX6_without_1 rfl ?_
  refine V_iload_n dX6_without_2 rfl ?_
  obtain ⟨x1, y2, h⟩ := bi_o h
  refine V_callV (as := [.int a1]) (q := 0) (rest := [.ref 0]) dX6_without_3 ov_mX6_isEvent lk_RX6_143 (by decide) (by decide) rfl rfl (Nat.le_of_ble_eq_true rfl) (tq_0 hG) rfl (VM_X6_isEvent G μ hG a1 _ y2) ?_
  obtain ⟨x3, y4, h⟩ := bi_o h
  have z7 := VM_X6_needThere G hG (b2i x1) μ _ y4
  rcases tx_o h with ⟨v5, q8, h⟩ | ⟨E, q8, h⟩
  · rw [q8] at z7
    generalize x3.2 = m6 at h z7
    refine V_callV (as := [.int (b2i x1)]) (q := 0) (rest := []) dX6_without_6 ov_mX6_needThere lk_RX6_71 (by decide) (by decide) rfl rfl (Nat.le_of_ble_eq_true rfl) (tq_0 hG) rfl (z7) ?_
    refine V_aload_n dX6_without_9 rfl ?_
    refine V_iload_n dX6_without_10 rfl ?_
    obtain ⟨x9, y10, h⟩ := bi_o h
    refine V_callS (as := [.int a2]) (rest := [.ref 0]) dX6_without_11 os_mX6_isInsurer rfl lk_RX6_74 (by decide) (by decide) rfl rfl (Nat.le_of_ble_eq_true rfl) (VM_X6_isInsurer G m6 hG a2 _ y10) ?_
    obtain ⟨x11, y12, h⟩ := bi_o h
    have z15 := VM_X6_needRight G hG (b2i x9) m6 _ y12
    rcases tx_o h with ⟨v13, q16, h⟩ | ⟨E, q16, h⟩
    · rw [q16] at z15
      generalize x11.2 = m14 at h z15
      refine V_callV (as := [.int (b2i x9)]) (q := 0) (rest := []) dX6_without_14 ov_mX6_needRight lk_RX6_47 (by decide) (by decide) rfl rfl (Nat.le_of_ble_eq_true rfl) (tq_0 hG) rfl (z15) ?_
      refine V_aload_n dX6_without_17 rfl ?_
      refine V_iload_n dX6_without_18 rfl ?_
      obtain ⟨x17, y18, h⟩ := bi_o h
      refine V_callV (as := [.int a1]) (q := 0) (rest := []) dX6_without_19 ov_mX6_goOverWithout lk_RX6_336 (by decide) (by decide) rfl rfl (Nat.le_of_ble_eq_true rfl) (tq_0 hG) rfl (VM_X6_goOverWithout G fu hG a1 m14 _ y18) ?_
      refine V_pop dX6_without_22 rfl ?_
      refine V_aload_n dX6_without_23 rfl ?_
      refine V_getR (kf := 2) k_X6 (by decide) lk_RX6_23 rfl dX6_without_24 (tq_0 hG) rfl ?_
      refine V_getR (kf := 1) k_X0 (by decide) lk_RX6_107 rfl dX6_without_27 (tq_32 hG) rfl ?_
      refine V_iload_n dX6_without_30 rfl ?_
      obtain ⟨x19, y20, h⟩ := bi_o h
      refine V_callV (as := [.int a2]) (q := 46) (rest := []) dX6_without_31 ov_mX1_borneInAll lk_RX6_250 (by decide) (by decide) rfl rfl (Nat.le_of_ble_eq_true rfl) (tq_46 hG) rfl (VM_X1_borneInAll G fu x17.2 46 hG (Or.inr rfl) a2 _ y20) ?_
      cases h
      exact V_lret rfl dX6_without_34
    · rw [q16] at z15
      cases h
      exact V_callVX (as := [.int (b2i x9)]) (q := 0) (rest := []) dX6_without_14 rfl ov_mX6_needRight lk_RX6_47 (by decide) (by decide) rfl rfl (Nat.le_of_ble_eq_true rfl) (tq_0 hG) rfl (z15)
  · rw [q8] at z7
    cases h
    exact V_callVX (as := [.int (b2i x1)]) (q := 0) (rest := []) dX6_without_6 rfl ov_mX6_needThere lk_RX6_71 (by decide) (by decide) rfl rfl (Nat.le_of_ble_eq_true rfl) (tq_0 hG) rfl (z7)
theorem VM_X6_without (G : GX) (fu : Nat)  (hG : gt G = tbl) (a1 : Int32) (a2 : Int32) (μ : Mem) (r : ((Int64 ⊕ String) × Mem)) (h : D_X6_without_0 fu a1 a2 μ = some r) : VM G mX6_without [.ref 0, .int a1, .int a2] μ (ouL r.1) (r.2) := V_entry ok_mX6_without rfl rfl (Nat.le_of_ble_eq_true rfl) (T_X6_without_0 G fu hG a1 a2 μ r h)
def D_X6_undone_0 (fu : Nat)  (a1 : Int32) (μ : Mem) : Option ((Int32 ⊕ String) × Mem) :=
  (D_X6_isEvent_0 μ a1).bind fun x1 =>
  (D_X6_needThere_0 (b2i x1) μ).bind fun x3 =>
  tx x3 fun v5 m6 =>
  (D_X6_goOverWithout_0 fu a1 m6).bind fun x9 =>
  some (.inl x9.1, x9.2)
set_option maxRecDepth 20000 in
theorem T_X6_undone_0 (G : GX) (fu : Nat)  (hG : gt G = tbl) : ∀ (a1 : Int32) (μ : Mem) (r : ((Int32 ⊕ String) × Mem)) , D_X6_undone_0 fu a1 μ = some r → V G mX6_undone 0 [some (.ref 0), some (.int a1)] [] μ (ouI r.1) (r.2) := by
  intro a1 μ r h
  unfold D_X6_undone_0 at h
  refine V_aload_n dX6_undone_0 rfl ?_
  refine V_aload_n dX6_undone_1 rfl ?_
  refine V_iload_n dX6_undone_2 rfl ?_
  obtain ⟨x1, y2, h⟩ := bi_o h
  refine V_callV (as := [.int a1]) (q := 0) (rest := [.ref 0]) dX6_undone_3 ov_mX6_isEvent lk_RX6_143 (by decide) (by decide) rfl rfl (Nat.le_of_ble_eq_true rfl) (tq_0 hG) rfl (VM_X6_isEvent G μ hG a1 _ y2) ?_
  obtain ⟨x3, y4, h⟩ := bi_o h
  have z7 := VM_X6_needThere G hG (b2i x1) μ _ y4
  rcases tx_o h with ⟨v5, q8, h⟩ | ⟨E, q8, h⟩
  · rw [q8] at z7
    generalize x3.2 = m6 at h z7
    refine V_callV (as := [.int (b2i x1)]) (q := 0) (rest := []) dX6_undone_6 ov_mX6_needThere lk_RX6_71 (by decide) (by decide) rfl rfl (Nat.le_of_ble_eq_true rfl) (tq_0 hG) rfl (z7) ?_
    refine V_aload_n dX6_undone_9 rfl ?_
    refine V_iload_n dX6_undone_10 rfl ?_
    obtain ⟨x9, y10, h⟩ := bi_o h
    refine V_callV (as := [.int a1]) (q := 0) (rest := []) dX6_undone_11 ov_mX6_goOverWithout lk_RX6_336 (by decide) (by decide) rfl rfl (Nat.le_of_ble_eq_true rfl) (tq_0 hG) rfl (VM_X6_goOverWithout G fu hG a1 m6 _ y10) ?_
    cases h
    exact V_iret rfl dX6_undone_14
  · rw [q8] at z7
    cases h
    exact V_callVX (as := [.int (b2i x1)]) (q := 0) (rest := []) dX6_undone_6 rfl ov_mX6_needThere lk_RX6_71 (by decide) (by decide) rfl rfl (Nat.le_of_ble_eq_true rfl) (tq_0 hG) rfl (z7)
theorem VM_X6_undone (G : GX) (fu : Nat)  (hG : gt G = tbl) (a1 : Int32) (μ : Mem) (r : ((Int32 ⊕ String) × Mem)) (h : D_X6_undone_0 fu a1 μ = some r) : VM G mX6_undone [.ref 0, .int a1] μ (ouI r.1) (r.2) := V_entry ok_mX6_undone rfl rfl (Nat.le_of_ble_eq_true rfl) (T_X6_undone_0 G fu hG a1 μ r h)
def D_X6_spared_0 (fu : Nat)  (a1 : Int32) (μ : Mem) : Option ((Int64 ⊕ String) × Mem) :=
  (D_X6_isOutsider_0 μ a1).bind fun x1 =>
  (D_X6_needRight_0 (b2i x1) μ).bind fun x3 =>
  tx x3 fun v5 m6 =>
  (D_X2_find_0 fu m6 6 a1).bind fun x9 =>
  if x9 = (-1 : Int32) then
    some (.inl 0, m6)
  else
    (D_X6_goOverWithout_0 fu x9 m6).bind fun x11 =>
    (D_X1_borneInAll_0 fu x11.2 46 a1).bind fun x13 =>
    (D_X1_borneInAll_0 fu x11.2 17 a1).bind fun x15 =>
    gu (ib a1 10) <|
    some (.inl ((x13 - x15) - ((x11.2.1 31 (Int32.toNatClampNeg a1) : Int32).toInt64)), x11.2)
set_option maxRecDepth 20000 in
theorem T_X6_spared_0 (G : GX) (fu : Nat)  (hG : gt G = tbl) : ∀ (a1 : Int32) (μ : Mem) (r : ((Int64 ⊕ String) × Mem)) , D_X6_spared_0 fu a1 μ = some r → V G mX6_spared 0 [some (.ref 0), some (.int a1), none] [] μ (ouL r.1) (r.2) := by
  intro a1 μ r h
  unfold D_X6_spared_0 at h
  refine V_aload_n dX6_spared_0 rfl ?_
  refine V_iload_n dX6_spared_1 rfl ?_
  obtain ⟨x1, y2, h⟩ := bi_o h
  refine V_callS (as := [.int a1]) (rest := [.ref 0]) dX6_spared_2 os_mX6_isOutsider rfl lk_RX6_121 (by decide) (by decide) rfl rfl (Nat.le_of_ble_eq_true rfl) (VM_X6_isOutsider G μ hG a1 _ y2) ?_
  obtain ⟨x3, y4, h⟩ := bi_o h
  have z7 := VM_X6_needRight G hG (b2i x1) μ _ y4
  rcases tx_o h with ⟨v5, q8, h⟩ | ⟨E, q8, h⟩
  · rw [q8] at z7
    generalize x3.2 = m6 at h z7
    refine V_callV (as := [.int (b2i x1)]) (q := 0) (rest := []) dX6_spared_5 ov_mX6_needRight lk_RX6_47 (by decide) (by decide) rfl rfl (Nat.le_of_ble_eq_true rfl) (tq_0 hG) rfl (z7) ?_
    refine V_aload_n dX6_spared_8 rfl ?_
    refine V_getR (kf := 0) k_X6 (by decide) lk_RX6_12 rfl dX6_spared_9 (tq_0 hG) rfl ?_
    refine V_bipush (v := 6) dX6_spared_12 rfl ?_
    refine V_iload_n dX6_spared_14 rfl ?_
    obtain ⟨x9, y10, h⟩ := bi_o h
    refine V_callV (as := [.int 6, .int a1]) (q := 1) (rest := []) dX6_spared_15 ov_mX2_find lk_RX6_339 (by decide) (by decide) rfl rfl (Nat.le_of_ble_eq_true rfl) (tq_1 hG) rfl (VM_X2_find G fu m6 hG 6 a1 _ y10) ?_
    refine V_istore_n (lv2 := [some (.ref 0), some (.int a1), some (.int x9)]) dX6_spared_18 (by decide) rfl ?_
    refine V_iload_n dX6_spared_19 rfl ?_
    refine V_iconst (v := (-1)) dX6_spared_20 rfl ?_
    by_cases c21 : x9 = (-1 : Int32)
    · rw [if_pos c21] at h
      refine V_icmpne_f (tgt := 26) dX6_spared_21 (by decide) c21 ?_
      refine V_lconst (v := 0) dX6_spared_24 rfl ?_
      cases h
      exact V_lret rfl dX6_spared_25
    · rw [if_neg c21] at h
      refine V_icmpne_t (tgt := 26) dX6_spared_21 (by decide) c21 ?_
      refine V_aload_n dX6_spared_26 rfl ?_
      refine V_iload_n dX6_spared_27 rfl ?_
      obtain ⟨x11, y12, h⟩ := bi_o h
      refine V_callV (as := [.int x9]) (q := 0) (rest := []) dX6_spared_28 ov_mX6_goOverWithout lk_RX6_336 (by decide) (by decide) rfl rfl (Nat.le_of_ble_eq_true rfl) (tq_0 hG) rfl (VM_X6_goOverWithout G fu hG x9 m6 _ y12) ?_
      refine V_pop dX6_spared_31 rfl ?_
      refine V_aload_n dX6_spared_32 rfl ?_
      refine V_getR (kf := 2) k_X6 (by decide) lk_RX6_23 rfl dX6_spared_33 (tq_0 hG) rfl ?_
      refine V_getR (kf := 1) k_X0 (by decide) lk_RX6_107 rfl dX6_spared_36 (tq_32 hG) rfl ?_
      refine V_iload_n dX6_spared_39 rfl ?_
      obtain ⟨x13, y14, h⟩ := bi_o h
      refine V_callV (as := [.int a1]) (q := 46) (rest := []) dX6_spared_40 ov_mX1_borneInAll lk_RX6_250 (by decide) (by decide) rfl rfl (Nat.le_of_ble_eq_true rfl) (tq_46 hG) rfl (VM_X1_borneInAll G fu x11.2 46 hG (Or.inr rfl) a1 _ y14) ?_
      refine V_aload_n dX6_spared_43 rfl ?_
      refine V_getR (kf := 1) k_X6 (by decide) lk_RX6_19 rfl dX6_spared_44 (tq_0 hG) rfl ?_
      refine V_getR (kf := 1) k_X0 (by decide) lk_RX6_107 rfl dX6_spared_47 (tq_3 hG) rfl ?_
      refine V_iload_n dX6_spared_50 rfl ?_
      obtain ⟨x15, y16, h⟩ := bi_o h
      refine V_callV (as := [.int a1]) (q := 17) (rest := [.long x13]) dX6_spared_51 ov_mX1_borneInAll lk_RX6_250 (by decide) (by decide) rfl rfl (Nat.le_of_ble_eq_true rfl) (tq_17 hG) rfl (VM_X1_borneInAll G fu x11.2 17 hG (Or.inl rfl) a1 _ y16) ?_
      refine V_lsub dX6_spared_54 ?_
      refine V_aload_n dX6_spared_55 rfl ?_
      refine V_getR (kf := 1) k_X6 (by decide) lk_RX6_19 rfl dX6_spared_56 (tq_0 hG) rfl ?_
      refine V_getR (kf := 3) k_X0 (by decide) lk_RX6_260 rfl dX6_spared_59 (tq_3 hG) rfl ?_
      refine V_iload_n dX6_spared_62 rfl ?_
      obtain ⟨g17, h⟩ := gu_o h
      refine V_iaload dX6_spared_63 (tq_31 hG) (ib_in g17) ?_
      refine V_i2l dX6_spared_64 ?_
      refine V_lsub dX6_spared_65 ?_
      cases h
      exact V_lret rfl dX6_spared_66
  · rw [q8] at z7
    cases h
    exact V_callVX (as := [.int (b2i x1)]) (q := 0) (rest := []) dX6_spared_5 rfl ov_mX6_needRight lk_RX6_47 (by decide) (by decide) rfl rfl (Nat.le_of_ble_eq_true rfl) (tq_0 hG) rfl (z7)
theorem VM_X6_spared (G : GX) (fu : Nat)  (hG : gt G = tbl) (a1 : Int32) (μ : Mem) (r : ((Int64 ⊕ String) × Mem)) (h : D_X6_spared_0 fu a1 μ = some r) : VM G mX6_spared [.ref 0, .int a1] μ (ouL r.1) (r.2) := V_entry ok_mX6_spared rfl rfl (Nat.le_of_ble_eq_true rfl) (T_X6_spared_0 G fu hG a1 μ r h)
def D_X6_shift_121 (fu : Nat)  (k50 : Int32 → Int32 → Int32 → Int32 → Mem → Option ((Int64 ⊕ String) × Mem)) (v1 : Int32) (v2 : Int32) (v3 : Int32) (v4 : Int32) (μ : Mem) : Option ((Int64 ⊕ String) × Mem) :=
  k50 v1 v2 v3 (v4 + 1) μ
set_option maxRecDepth 20000 in
theorem T_X6_shift_121 (G : GX) (fu : Nat)  (hG : gt G = tbl) (k50 : Int32 → Int32 → Int32 → Int32 → Mem → Option ((Int64 ⊕ String) × Mem)) (hk50 : ∀ (v1 : Int32) (v2 : Int32) (v3 : Int32) (v4 : Int32) (μ : Mem) (r : ((Int64 ⊕ String) × Mem)), k50 v1 v2 v3 v4 μ = some r → V G mX6_shift 50 [some (.ref 0), some (.int v1), some (.int v2), some (.int v3), some (.int v4)] [] μ (ouL r.1) (r.2)) : ∀ (v1 : Int32) (v2 : Int32) (v3 : Int32) (v4 : Int32) (μ : Mem) (r : ((Int64 ⊕ String) × Mem)) , D_X6_shift_121 fu k50 v1 v2 v3 v4 μ = some r → V G mX6_shift 121 [some (.ref 0), some (.int v1), some (.int v2), some (.int v3), some (.int v4)] [] μ (ouL r.1) (r.2) := by
  intro v1 v2 v3 v4 μ r h
  unfold D_X6_shift_121 at h
  refine V_iinc (v := v4 + 1) (lv2 := [some (.ref 0), some (.int v1), some (.int v2), some (.int v3), some (.int (v4 + 1))]) dX6_shift_121 rfl rfl (by decide) rfl ?_
  refine V_goto (tgt := 50) dX6_shift_124 (by decide) ?_
  exact V_wk [true, true, true, true, true] rfl (hk50 _ _ _ _ _ _ h)
def D_X6_shift_85 (fu : Nat)  (k50 : Int32 → Int32 → Int32 → Int32 → Mem → Option ((Int64 ⊕ String) × Mem)) (v1 : Int32) (v2 : Int32) (v3 : Int32) (v4 : Int32) (μ : Mem) : Option ((Int64 ⊕ String) × Mem) :=
  if (μ.1 1 1) ≤ v4 then
    D_X6_shift_121 fu k50 v1 v2 v3 v4 μ
  else
    if v4 = v1 then
      D_X6_shift_121 fu k50 v1 v2 v3 v4 μ
    else
      (D_X0_carryOut_0 fu 32 v4 μ).bind fun x25 =>
      D_X6_shift_121 fu k50 v1 v2 v3 v4 x25.2
set_option maxRecDepth 20000 in
theorem T_X6_shift_85 (G : GX) (fu : Nat)  (hG : gt G = tbl) (k50 : Int32 → Int32 → Int32 → Int32 → Mem → Option ((Int64 ⊕ String) × Mem)) (hk50 : ∀ (v1 : Int32) (v2 : Int32) (v3 : Int32) (v4 : Int32) (μ : Mem) (r : ((Int64 ⊕ String) × Mem)), k50 v1 v2 v3 v4 μ = some r → V G mX6_shift 50 [some (.ref 0), some (.int v1), some (.int v2), some (.int v3), some (.int v4)] [] μ (ouL r.1) (r.2)) : ∀ (v1 : Int32) (v2 : Int32) (v3 : Int32) (v4 : Int32) (μ : Mem) (r : ((Int64 ⊕ String) × Mem)) , D_X6_shift_85 fu k50 v1 v2 v3 v4 μ = some r → V G mX6_shift 85 [some (.ref 0), some (.int v1), some (.int v2), some (.int v3), some (.int v4)] [] μ (ouL r.1) (r.2) := by
  intro v1 v2 v3 v4 μ r h
  unfold D_X6_shift_85 at h
  refine V_iload dX6_shift_85 rfl ?_
  refine V_aload_n dX6_shift_87 rfl ?_
  refine V_getR (kf := 0) k_X6 (by decide) lk_RX6_12 rfl dX6_shift_88 (tq_0 hG) rfl ?_
  refine V_getI (kf := 1) k_X2 (by decide) lk_RX6_128 rfl dX6_shift_91 (tq_1 hG) rfl ?_
  by_cases c94 : (μ.1 1 1) ≤ v4
  · rw [if_pos c94] at h
    refine V_icmpge_t (tgt := 121) dX6_shift_94 (by decide) c94 ?_
    exact V_wk [true, true, true, true, true] rfl (T_X6_shift_121 G fu hG k50 hk50 _ _ _ _ _ _ h)
  · rw [if_neg c94] at h
    refine V_icmpge_f (tgt := 121) dX6_shift_94 (by decide) c94 ?_
    refine V_iload dX6_shift_97 rfl ?_
    refine V_iload_n dX6_shift_99 rfl ?_
    by_cases c100 : v4 = v1
    · rw [if_pos c100] at h
      refine V_icmpeq_t (tgt := 121) dX6_shift_100 (by decide) c100 ?_
      exact V_wk [true, true, true, true, true] rfl (T_X6_shift_121 G fu hG k50 hk50 _ _ _ _ _ _ h)
    · rw [if_neg c100] at h
      refine V_icmpeq_f (tgt := 121) dX6_shift_100 (by decide) c100 ?_
      refine V_aload_n dX6_shift_103 rfl ?_
      refine V_getR (kf := 2) k_X6 (by decide) lk_RX6_23 rfl dX6_shift_104 (tq_0 hG) rfl ?_
      refine V_aload_n dX6_shift_107 rfl ?_
      refine V_getR (kf := 0) k_X6 (by decide) lk_RX6_12 rfl dX6_shift_108 (tq_0 hG) rfl ?_
      refine V_iload dX6_shift_111 rfl ?_
      refine V_aload_n dX6_shift_113 rfl ?_
      refine V_getR (kf := 3) k_X6 (by decide) lk_RX6_29 rfl dX6_shift_114 (tq_0 hG) rfl ?_
      obtain ⟨x25, y26, h⟩ := bi_o h
      refine V_callV (as := [.ref 1, .int v4, .ref 61]) (q := 32) (rest := []) dX6_shift_117 ov_mX0_carryOut lk_RX6_132 (by decide) (by decide) rfl rfl (Nat.le_of_ble_eq_true rfl) (tq_32 hG) rfl (VM_X0_carryOut G fu 32 hG (Or.inr rfl) v4 μ _ y26) ?_
      refine V_pop dX6_shift_120 rfl ?_
      exact V_wk [true, true, true, true, true] rfl (T_X6_shift_121 G fu hG k50 hk50 _ _ _ _ _ _ h)
def D_X6_shift_50 (fu : Nat)  : Nat → Int32 → Int32 → Int32 → Int32 → Mem → Option ((Int64 ⊕ String) × Mem)
  | 0, _, _, _, _, _ => none
  | n + 1, v1, v2, v3, v4, μ =>
    if (μ.1 1 1) < v4 then
      (D_X1_borneInAll_0 fu μ 46 v3).bind fun x21 =>
      some (.inl x21, μ)
    else
      if v4 = v2 then
        (D_X0_carryOut_0 fu 32 v1 μ).bind fun x23 =>
        D_X6_shift_85 fu (D_X6_shift_50 fu n) v1 v2 v3 v4 x23.2
      else
        D_X6_shift_85 fu (D_X6_shift_50 fu n) v1 v2 v3 v4 μ
set_option maxRecDepth 20000 in
theorem T_X6_shift_50 (G : GX) (fu : Nat)  (hG : gt G = tbl) : ∀ (n : Nat) (v1 : Int32) (v2 : Int32) (v3 : Int32) (v4 : Int32) (μ : Mem) (r : ((Int64 ⊕ String) × Mem)) , D_X6_shift_50 fu n v1 v2 v3 v4 μ = some r → V G mX6_shift 50 [some (.ref 0), some (.int v1), some (.int v2), some (.int v3), some (.int v4)] [] μ (ouL r.1) (r.2) := by
  intro n
  induction n with
  | zero =>
    intro v1 v2 v3 v4 μ r h
    exact nomatch (show (none : Option ((Int64 ⊕ String) × Mem)) = some r from h)
  | succ n ih =>
    intro v1 v2 v3 v4 μ r h
    rw [D_X6_shift_50] at h
    refine V_iload dX6_shift_50 rfl ?_
    refine V_aload_n dX6_shift_52 rfl ?_
    refine V_getR (kf := 0) k_X6 (by decide) lk_RX6_12 rfl dX6_shift_53 (tq_0 hG) rfl ?_
    refine V_getI (kf := 1) k_X2 (by decide) lk_RX6_128 rfl dX6_shift_56 (tq_1 hG) rfl ?_
    by_cases c59 : (μ.1 1 1) < v4
    · rw [if_pos c59] at h
      refine V_icmpgt_t (tgt := 127) dX6_shift_59 (by decide) c59 ?_
      refine V_aload_n dX6_shift_127 rfl ?_
      refine V_getR (kf := 2) k_X6 (by decide) lk_RX6_23 rfl dX6_shift_128 (tq_0 hG) rfl ?_
      refine V_getR (kf := 1) k_X0 (by decide) lk_RX6_107 rfl dX6_shift_131 (tq_32 hG) rfl ?_
      refine V_iload_n dX6_shift_134 rfl ?_
      obtain ⟨x21, y22, h⟩ := bi_o h
      refine V_callV (as := [.int v3]) (q := 46) (rest := []) dX6_shift_135 ov_mX1_borneInAll lk_RX6_250 (by decide) (by decide) rfl rfl (Nat.le_of_ble_eq_true rfl) (tq_46 hG) rfl (VM_X1_borneInAll G fu μ 46 hG (Or.inr rfl) v3 _ y22) ?_
      cases h
      exact V_lret rfl dX6_shift_138
    · rw [if_neg c59] at h
      refine V_icmpgt_f (tgt := 127) dX6_shift_59 (by decide) c59 ?_
      refine V_iload dX6_shift_62 rfl ?_
      refine V_iload_n dX6_shift_64 rfl ?_
      by_cases c65 : v4 = v2
      · rw [if_pos c65] at h
        refine V_icmpne_f (tgt := 85) dX6_shift_65 (by decide) c65 ?_
        refine V_aload_n dX6_shift_68 rfl ?_
        refine V_getR (kf := 2) k_X6 (by decide) lk_RX6_23 rfl dX6_shift_69 (tq_0 hG) rfl ?_
        refine V_aload_n dX6_shift_72 rfl ?_
        refine V_getR (kf := 0) k_X6 (by decide) lk_RX6_12 rfl dX6_shift_73 (tq_0 hG) rfl ?_
        refine V_iload_n dX6_shift_76 rfl ?_
        refine V_aload_n dX6_shift_77 rfl ?_
        refine V_getR (kf := 3) k_X6 (by decide) lk_RX6_29 rfl dX6_shift_78 (tq_0 hG) rfl ?_
        obtain ⟨x23, y24, h⟩ := bi_o h
        refine V_callV (as := [.ref 1, .int v1, .ref 61]) (q := 32) (rest := []) dX6_shift_81 ov_mX0_carryOut lk_RX6_132 (by decide) (by decide) rfl rfl (Nat.le_of_ble_eq_true rfl) (tq_32 hG) rfl (VM_X0_carryOut G fu 32 hG (Or.inr rfl) v1 μ _ y24) ?_
        refine V_pop dX6_shift_84 rfl ?_
        exact V_wk [true, true, true, true, true] rfl (T_X6_shift_85 G fu hG (D_X6_shift_50 fu n) ih _ _ _ _ _ _ h)
      · rw [if_neg c65] at h
        refine V_icmpne_t (tgt := 85) dX6_shift_65 (by decide) c65 ?_
        exact V_wk [true, true, true, true, true] rfl (T_X6_shift_85 G fu hG (D_X6_shift_50 fu n) ih _ _ _ _ _ _ h)
def D_X6_shift_37 (fu : Nat)  (v1 : Int32) (v2 : Int32) (v3 : Int32) (s1 : Int32) (μ : Mem) : Option ((Int64 ⊕ String) × Mem) :=
  (D_X6_needRight_0 s1 μ).bind fun x13 =>
  tx x13 fun v15 m16 =>
  (D_X0_clear_0 fu 32 m16).bind fun x19 =>
  D_X6_shift_50 fu fu v1 v2 v3 0 x19
set_option maxRecDepth 20000 in
theorem T_X6_shift_37 (G : GX) (fu : Nat)  (hG : gt G = tbl) : ∀ (v1 : Int32) (v2 : Int32) (v3 : Int32) (s1 : Int32) (μ : Mem) (r : ((Int64 ⊕ String) × Mem)) , D_X6_shift_37 fu v1 v2 v3 s1 μ = some r → V G mX6_shift 37 [some (.ref 0), some (.int v1), some (.int v2), some (.int v3), none] [.int s1, .ref 0] μ (ouL r.1) (r.2) := by
  intro v1 v2 v3 s1 μ r h
  unfold D_X6_shift_37 at h
  obtain ⟨x13, y14, h⟩ := bi_o h
  have z17 := VM_X6_needRight G hG s1 μ _ y14
  rcases tx_o h with ⟨v15, q18, h⟩ | ⟨E, q18, h⟩
  · rw [q18] at z17
    generalize x13.2 = m16 at h z17
    refine V_callV (as := [.int s1]) (q := 0) (rest := []) dX6_shift_37 ov_mX6_needRight lk_RX6_47 (by decide) (by decide) rfl rfl (Nat.le_of_ble_eq_true rfl) (tq_0 hG) rfl (z17) ?_
    refine V_aload_n dX6_shift_40 rfl ?_
    refine V_getR (kf := 2) k_X6 (by decide) lk_RX6_23 rfl dX6_shift_41 (tq_0 hG) rfl ?_
    obtain ⟨x19, y20, h⟩ := bi_o h
    refine V_callV (as := []) (q := 32) (rest := []) dX6_shift_44 ov_mX0_clear lk_RX6_129 (by decide) (by decide) rfl rfl (Nat.le_of_ble_eq_true rfl) (tq_32 hG) rfl (VM_X0_clear G fu 32 hG (Or.inr rfl) m16 _ y20) ?_
    refine V_iconst (v := 0) dX6_shift_47 rfl ?_
    refine V_istore (lv2 := [some (.ref 0), some (.int v1), some (.int v2), some (.int v3), some (.int 0)]) dX6_shift_48 (by decide) rfl ?_
    exact V_wk [true, true, true, true, true] rfl (T_X6_shift_50 G fu hG fu _ _ _ _ _ _ h)
  · rw [q18] at z17
    cases h
    exact V_callVX (as := [.int s1]) (q := 0) (rest := []) dX6_shift_37 rfl ov_mX6_needRight lk_RX6_47 (by decide) (by decide) rfl rfl (Nat.le_of_ble_eq_true rfl) (tq_0 hG) rfl (z17)
def D_X6_shift_36 (fu : Nat)  (v1 : Int32) (v2 : Int32) (v3 : Int32) (μ : Mem) : Option ((Int64 ⊕ String) × Mem) :=
  D_X6_shift_37 fu v1 v2 v3 0 μ
set_option maxRecDepth 20000 in
theorem T_X6_shift_36 (G : GX) (fu : Nat)  (hG : gt G = tbl) : ∀ (v1 : Int32) (v2 : Int32) (v3 : Int32) (μ : Mem) (r : ((Int64 ⊕ String) × Mem)) , D_X6_shift_36 fu v1 v2 v3 μ = some r → V G mX6_shift 36 [some (.ref 0), some (.int v1), some (.int v2), some (.int v3), none] [.ref 0] μ (ouL r.1) (r.2) := by
  intro v1 v2 v3 μ r h
  unfold D_X6_shift_36 at h
  refine V_iconst (v := 0) dX6_shift_36 rfl ?_
  exact V_wk [true, true, true, true, false] rfl (T_X6_shift_37 G fu hG _ _ _ _ _ _ h)
def D_X6_shift_0 (fu : Nat)  (a1 : Int32) (a2 : Int32) (a3 : Int32) (μ : Mem) : Option ((Int64 ⊕ String) × Mem) :=
  (D_X6_isEvent_0 μ a1).bind fun x1 =>
  (D_X6_needThere_0 (b2i x1) μ).bind fun x3 =>
  tx x3 fun v5 m6 =>
  (D_X6_isWithin_0 m6 a2 0 (m6.1 1 1)).bind fun x9 =>
  if x9 = true then
    (D_X6_isInsurer_0 m6 a3).bind fun x11 =>
    if x11 = true then
      D_X6_shift_37 fu a1 a2 a3 1 m6
    else
      D_X6_shift_36 fu a1 a2 a3 m6
  else
    D_X6_shift_36 fu a1 a2 a3 m6
set_option maxRecDepth 20000 in
theorem T_X6_shift_0 (G : GX) (fu : Nat)  (hG : gt G = tbl) : ∀ (a1 : Int32) (a2 : Int32) (a3 : Int32) (μ : Mem) (r : ((Int64 ⊕ String) × Mem)) , D_X6_shift_0 fu a1 a2 a3 μ = some r → V G mX6_shift 0 [some (.ref 0), some (.int a1), some (.int a2), some (.int a3), none] [] μ (ouL r.1) (r.2) := by
  intro a1 a2 a3 μ r h
  unfold D_X6_shift_0 at h
  refine V_aload_n dX6_shift_0 rfl ?_
  refine V_aload_n dX6_shift_1 rfl ?_
  refine V_iload_n dX6_shift_2 rfl ?_
  obtain ⟨x1, y2, h⟩ := bi_o h
  refine V_callV (as := [.int a1]) (q := 0) (rest := [.ref 0]) dX6_shift_3 ov_mX6_isEvent lk_RX6_143 (by decide) (by decide) rfl rfl (Nat.le_of_ble_eq_true rfl) (tq_0 hG) rfl (VM_X6_isEvent G μ hG a1 _ y2) ?_
  obtain ⟨x3, y4, h⟩ := bi_o h
  have z7 := VM_X6_needThere G hG (b2i x1) μ _ y4
  rcases tx_o h with ⟨v5, q8, h⟩ | ⟨E, q8, h⟩
  · rw [q8] at z7
    generalize x3.2 = m6 at h z7
    refine V_callV (as := [.int (b2i x1)]) (q := 0) (rest := []) dX6_shift_6 ov_mX6_needThere lk_RX6_71 (by decide) (by decide) rfl rfl (Nat.le_of_ble_eq_true rfl) (tq_0 hG) rfl (z7) ?_
    refine V_aload_n dX6_shift_9 rfl ?_
    refine V_iload_n dX6_shift_10 rfl ?_
    refine V_iconst (v := 0) dX6_shift_11 rfl ?_
    refine V_aload_n dX6_shift_12 rfl ?_
    refine V_getR (kf := 0) k_X6 (by decide) lk_RX6_12 rfl dX6_shift_13 (tq_0 hG) rfl ?_
    refine V_getI (kf := 1) k_X2 (by decide) lk_RX6_128 rfl dX6_shift_16 (tq_1 hG) rfl ?_
    obtain ⟨x9, y10, h⟩ := bi_o h
    refine V_callS (as := [.int a2, .int 0, .int (m6.1 1 1)]) (rest := [.ref 0]) dX6_shift_19 os_mX6_isWithin rfl lk_RX6_42 (by decide) (by decide) rfl rfl (Nat.le_of_ble_eq_true rfl) (VM_X6_isWithin G m6 hG a2 0 (m6.1 1 1) _ y10) ?_
    by_cases c22 : x9 = true
    · rw [if_pos c22] at h
      refine V_ifeq_f (tgt := 36) dX6_shift_22 (by decide) (b2i_t.mp c22) ?_
      refine V_iload_n dX6_shift_25 rfl ?_
      obtain ⟨x11, y12, h⟩ := bi_o h
      refine V_callS (as := [.int a3]) (rest := [.ref 0]) dX6_shift_26 os_mX6_isInsurer rfl lk_RX6_74 (by decide) (by decide) rfl rfl (Nat.le_of_ble_eq_true rfl) (VM_X6_isInsurer G m6 hG a3 _ y12) ?_
      by_cases c29 : x11 = true
      · rw [if_pos c29] at h
        refine V_ifeq_f (tgt := 36) dX6_shift_29 (by decide) (b2i_t.mp c29) ?_
        refine V_iconst (v := 1) dX6_shift_32 rfl ?_
        refine V_goto (tgt := 37) dX6_shift_33 (by decide) ?_
        exact V_wk [true, true, true, true, false] rfl (T_X6_shift_37 G fu hG _ _ _ _ _ _ h)
      · rw [if_neg c29] at h
        refine V_ifeq_t (tgt := 36) dX6_shift_29 (by decide) (b2i_f.mp c29) ?_
        exact V_wk [true, true, true, true, false] rfl (T_X6_shift_36 G fu hG _ _ _ _ _ h)
    · rw [if_neg c22] at h
      refine V_ifeq_t (tgt := 36) dX6_shift_22 (by decide) (b2i_f.mp c22) ?_
      exact V_wk [true, true, true, true, false] rfl (T_X6_shift_36 G fu hG _ _ _ _ _ h)
  · rw [q8] at z7
    cases h
    exact V_callVX (as := [.int (b2i x1)]) (q := 0) (rest := []) dX6_shift_6 rfl ov_mX6_needThere lk_RX6_71 (by decide) (by decide) rfl rfl (Nat.le_of_ble_eq_true rfl) (tq_0 hG) rfl (z7)
theorem VM_X6_shift (G : GX) (fu : Nat)  (hG : gt G = tbl) (a1 : Int32) (a2 : Int32) (a3 : Int32) (μ : Mem) (r : ((Int64 ⊕ String) × Mem)) (h : D_X6_shift_0 fu a1 a2 a3 μ = some r) : VM G mX6_shift [.ref 0, .int a1, .int a2, .int a3] μ (ouL r.1) (r.2) := V_entry ok_mX6_shift rfl rfl (Nat.le_of_ble_eq_true rfl) (T_X6_shift_0 G fu hG a1 a2 a3 μ r h)
def D_X6_after_26 (fu : Nat)  : Nat → Int32 → Int32 → Int32 → Mem → Option ((Int64 ⊕ String) × Mem)
  | 0, _, _, _, _ => none
  | n + 1, v1, v2, v3, μ =>
    if v1 < v3 then
      (D_X1_borneInAll_0 fu μ 46 v2).bind fun x19 =>
      some (.inl x19, μ)
    else
      (D_X0_carryOut_0 fu 32 v3 μ).bind fun x21 =>
      (D_X6_after_26 fu n) v1 v2 (v3 + 1) x21.2
set_option maxRecDepth 20000 in
theorem T_X6_after_26 (G : GX) (fu : Nat)  (hG : gt G = tbl) : ∀ (n : Nat) (v1 : Int32) (v2 : Int32) (v3 : Int32) (μ : Mem) (r : ((Int64 ⊕ String) × Mem)) , D_X6_after_26 fu n v1 v2 v3 μ = some r → V G mX6_after 26 [some (.ref 0), some (.int v1), some (.int v2), some (.int v3)] [] μ (ouL r.1) (r.2) := by
  intro n
  induction n with
  | zero =>
    intro v1 v2 v3 μ r h
    exact nomatch (show (none : Option ((Int64 ⊕ String) × Mem)) = some r from h)
  | succ n ih =>
    intro v1 v2 v3 μ r h
    rw [D_X6_after_26] at h
    refine V_iload_n dX6_after_26 rfl ?_
    refine V_iload_n dX6_after_27 rfl ?_
    by_cases c28 : v1 < v3
    · rw [if_pos c28] at h
      refine V_icmpgt_t (tgt := 54) dX6_after_28 (by decide) c28 ?_
      refine V_aload_n dX6_after_54 rfl ?_
      refine V_getR (kf := 2) k_X6 (by decide) lk_RX6_23 rfl dX6_after_55 (tq_0 hG) rfl ?_
      refine V_getR (kf := 1) k_X0 (by decide) lk_RX6_107 rfl dX6_after_58 (tq_32 hG) rfl ?_
      refine V_iload_n dX6_after_61 rfl ?_
      obtain ⟨x19, y20, h⟩ := bi_o h
      refine V_callV (as := [.int v2]) (q := 46) (rest := []) dX6_after_62 ov_mX1_borneInAll lk_RX6_250 (by decide) (by decide) rfl rfl (Nat.le_of_ble_eq_true rfl) (tq_46 hG) rfl (VM_X1_borneInAll G fu μ 46 hG (Or.inr rfl) v2 _ y20) ?_
      cases h
      exact V_lret rfl dX6_after_65
    · rw [if_neg c28] at h
      refine V_icmpgt_f (tgt := 54) dX6_after_28 (by decide) c28 ?_
      refine V_aload_n dX6_after_31 rfl ?_
      refine V_getR (kf := 2) k_X6 (by decide) lk_RX6_23 rfl dX6_after_32 (tq_0 hG) rfl ?_
      refine V_aload_n dX6_after_35 rfl ?_
      refine V_getR (kf := 0) k_X6 (by decide) lk_RX6_12 rfl dX6_after_36 (tq_0 hG) rfl ?_
      refine V_iload_n dX6_after_39 rfl ?_
      refine V_aload_n dX6_after_40 rfl ?_
      refine V_getR (kf := 3) k_X6 (by decide) lk_RX6_29 rfl dX6_after_41 (tq_0 hG) rfl ?_
      obtain ⟨x21, y22, h⟩ := bi_o h
      refine V_callV (as := [.ref 1, .int v3, .ref 61]) (q := 32) (rest := []) dX6_after_44 ov_mX0_carryOut lk_RX6_132 (by decide) (by decide) rfl rfl (Nat.le_of_ble_eq_true rfl) (tq_32 hG) rfl (VM_X0_carryOut G fu 32 hG (Or.inr rfl) v3 μ _ y22) ?_
      refine V_pop dX6_after_47 rfl ?_
      refine V_iinc (v := v3 + 1) (lv2 := [some (.ref 0), some (.int v1), some (.int v2), some (.int (v3 + 1))]) dX6_after_48 rfl rfl (by decide) rfl ?_
      refine V_goto (tgt := 26) dX6_after_51 (by decide) ?_
      exact V_wk [true, true, true, true] rfl (ih _ _ _ _ _ h)
def D_X6_after_0 (fu : Nat)  (a1 : Int32) (a2 : Int32) (μ : Mem) : Option ((Int64 ⊕ String) × Mem) :=
  (D_X6_isEvent_0 μ a1).bind fun x1 =>
  (D_X6_needThere_0 (b2i x1) μ).bind fun x3 =>
  tx x3 fun v5 m6 =>
  (D_X6_isInsurer_0 m6 a2).bind fun x9 =>
  (D_X6_needRight_0 (b2i x9) m6).bind fun x11 =>
  tx x11 fun v13 m14 =>
  (D_X0_clear_0 fu 32 m14).bind fun x17 =>
  D_X6_after_26 fu fu a1 a2 0 x17
set_option maxRecDepth 20000 in
theorem T_X6_after_0 (G : GX) (fu : Nat)  (hG : gt G = tbl) : ∀ (a1 : Int32) (a2 : Int32) (μ : Mem) (r : ((Int64 ⊕ String) × Mem)) , D_X6_after_0 fu a1 a2 μ = some r → V G mX6_after 0 [some (.ref 0), some (.int a1), some (.int a2), none] [] μ (ouL r.1) (r.2) := by
  intro a1 a2 μ r h
  unfold D_X6_after_0 at h
  refine V_aload_n dX6_after_0 rfl ?_
  refine V_aload_n dX6_after_1 rfl ?_
  refine V_iload_n dX6_after_2 rfl ?_
  obtain ⟨x1, y2, h⟩ := bi_o h
  refine V_callV (as := [.int a1]) (q := 0) (rest := [.ref 0]) dX6_after_3 ov_mX6_isEvent lk_RX6_143 (by decide) (by decide) rfl rfl (Nat.le_of_ble_eq_true rfl) (tq_0 hG) rfl (VM_X6_isEvent G μ hG a1 _ y2) ?_
  obtain ⟨x3, y4, h⟩ := bi_o h
  have z7 := VM_X6_needThere G hG (b2i x1) μ _ y4
  rcases tx_o h with ⟨v5, q8, h⟩ | ⟨E, q8, h⟩
  · rw [q8] at z7
    generalize x3.2 = m6 at h z7
    refine V_callV (as := [.int (b2i x1)]) (q := 0) (rest := []) dX6_after_6 ov_mX6_needThere lk_RX6_71 (by decide) (by decide) rfl rfl (Nat.le_of_ble_eq_true rfl) (tq_0 hG) rfl (z7) ?_
    refine V_aload_n dX6_after_9 rfl ?_
    refine V_iload_n dX6_after_10 rfl ?_
    obtain ⟨x9, y10, h⟩ := bi_o h
    refine V_callS (as := [.int a2]) (rest := [.ref 0]) dX6_after_11 os_mX6_isInsurer rfl lk_RX6_74 (by decide) (by decide) rfl rfl (Nat.le_of_ble_eq_true rfl) (VM_X6_isInsurer G m6 hG a2 _ y10) ?_
    obtain ⟨x11, y12, h⟩ := bi_o h
    have z15 := VM_X6_needRight G hG (b2i x9) m6 _ y12
    rcases tx_o h with ⟨v13, q16, h⟩ | ⟨E, q16, h⟩
    · rw [q16] at z15
      generalize x11.2 = m14 at h z15
      refine V_callV (as := [.int (b2i x9)]) (q := 0) (rest := []) dX6_after_14 ov_mX6_needRight lk_RX6_47 (by decide) (by decide) rfl rfl (Nat.le_of_ble_eq_true rfl) (tq_0 hG) rfl (z15) ?_
      refine V_aload_n dX6_after_17 rfl ?_
      refine V_getR (kf := 2) k_X6 (by decide) lk_RX6_23 rfl dX6_after_18 (tq_0 hG) rfl ?_
      obtain ⟨x17, y18, h⟩ := bi_o h
      refine V_callV (as := []) (q := 32) (rest := []) dX6_after_21 ov_mX0_clear lk_RX6_129 (by decide) (by decide) rfl rfl (Nat.le_of_ble_eq_true rfl) (tq_32 hG) rfl (VM_X0_clear G fu 32 hG (Or.inr rfl) m14 _ y18) ?_
      refine V_iconst (v := 0) dX6_after_24 rfl ?_
      refine V_istore_n (lv2 := [some (.ref 0), some (.int a1), some (.int a2), some (.int 0)]) dX6_after_25 (by decide) rfl ?_
      exact V_wk [true, true, true, true] rfl (T_X6_after_26 G fu hG fu _ _ _ _ _ h)
    · rw [q16] at z15
      cases h
      exact V_callVX (as := [.int (b2i x9)]) (q := 0) (rest := []) dX6_after_14 rfl ov_mX6_needRight lk_RX6_47 (by decide) (by decide) rfl rfl (Nat.le_of_ble_eq_true rfl) (tq_0 hG) rfl (z15)
  · rw [q8] at z7
    cases h
    exact V_callVX (as := [.int (b2i x1)]) (q := 0) (rest := []) dX6_after_6 rfl ov_mX6_needThere lk_RX6_71 (by decide) (by decide) rfl rfl (Nat.le_of_ble_eq_true rfl) (tq_0 hG) rfl (z7)
theorem VM_X6_after (G : GX) (fu : Nat)  (hG : gt G = tbl) (a1 : Int32) (a2 : Int32) (μ : Mem) (r : ((Int64 ⊕ String) × Mem)) (h : D_X6_after_0 fu a1 a2 μ = some r) : VM G mX6_after [.ref 0, .int a1, .int a2] μ (ouL r.1) (r.2) := V_entry ok_mX6_after rfl rfl (Nat.le_of_ble_eq_true rfl) (T_X6_after_0 G fu hG a1 a2 μ r h)
def D_X6_usedUp_76 (fu : Nat)  (k18 : Int32 → Int32 → Mem → Option ((Int32 ⊕ String) × Mem)) (v1 : Int32) (v2 : Int32) (μ : Mem) : Option ((Int32 ⊕ String) × Mem) :=
  k18 v1 (v2 + 1) μ
set_option maxRecDepth 20000 in
theorem T_X6_usedUp_76 (G : GX) (fu : Nat)  (hG : gt G = tbl) (k18 : Int32 → Int32 → Mem → Option ((Int32 ⊕ String) × Mem)) (hk18 : ∀ (v1 : Int32) (v2 : Int32) (μ : Mem) (r : ((Int32 ⊕ String) × Mem)), k18 v1 v2 μ = some r → V G mX6_usedUp 18 [some (.ref 0), some (.int v1), some (.int v2)] [] μ (ouI r.1) (r.2)) : ∀ (v1 : Int32) (v2 : Int32) (μ : Mem) (r : ((Int32 ⊕ String) × Mem)) , D_X6_usedUp_76 fu k18 v1 v2 μ = some r → V G mX6_usedUp 76 [some (.ref 0), some (.int v1), some (.int v2)] [] μ (ouI r.1) (r.2) := by
  intro v1 v2 μ r h
  unfold D_X6_usedUp_76 at h
  refine V_iinc (v := v2 + 1) (lv2 := [some (.ref 0), some (.int v1), some (.int (v2 + 1))]) dX6_usedUp_76 rfl rfl (by decide) rfl ?_
  refine V_goto (tgt := 18) dX6_usedUp_79 (by decide) ?_
  exact V_wk [true, true, true] rfl (hk18 _ _ _ _ h)
def D_X6_usedUp_18 (fu : Nat)  : Nat → Int32 → Int32 → Mem → Option ((Int32 ⊕ String) × Mem)
  | 0, _, _, _ => none
  | n + 1, v1, v2, μ =>
    if (μ.1 1 1) ≤ v2 then
      some (.inl (-1), μ)
    else
      (D_X0_carryOut_0 fu 32 v2 μ).bind fun x11 =>
      (D_X5_isThere_0 x11.2 33 v1).bind fun x13 =>
      if x13 = true then
        (D_X5_isUsedUp_0 x11.2 33 v1).bind fun x15 =>
        if x15 = true then
          some (.inl v2, x11.2)
        else
          D_X6_usedUp_76 fu (D_X6_usedUp_18 fu n) v1 v2 x11.2
      else
        D_X6_usedUp_76 fu (D_X6_usedUp_18 fu n) v1 v2 x11.2
set_option maxRecDepth 20000 in
theorem T_X6_usedUp_18 (G : GX) (fu : Nat)  (hG : gt G = tbl) : ∀ (n : Nat) (v1 : Int32) (v2 : Int32) (μ : Mem) (r : ((Int32 ⊕ String) × Mem)) , D_X6_usedUp_18 fu n v1 v2 μ = some r → V G mX6_usedUp 18 [some (.ref 0), some (.int v1), some (.int v2)] [] μ (ouI r.1) (r.2) := by
  intro n
  induction n with
  | zero =>
    intro v1 v2 μ r h
    exact nomatch (show (none : Option ((Int32 ⊕ String) × Mem)) = some r from h)
  | succ n ih =>
    intro v1 v2 μ r h
    rw [D_X6_usedUp_18] at h
    refine V_iload_n dX6_usedUp_18 rfl ?_
    refine V_aload_n dX6_usedUp_19 rfl ?_
    refine V_getR (kf := 0) k_X6 (by decide) lk_RX6_12 rfl dX6_usedUp_20 (tq_0 hG) rfl ?_
    refine V_getI (kf := 1) k_X2 (by decide) lk_RX6_128 rfl dX6_usedUp_23 (tq_1 hG) rfl ?_
    by_cases c26 : (μ.1 1 1) ≤ v2
    · rw [if_pos c26] at h
      refine V_icmpge_t (tgt := 82) dX6_usedUp_26 (by decide) c26 ?_
      refine V_iconst (v := (-1)) dX6_usedUp_82 rfl ?_
      cases h
      exact V_iret rfl dX6_usedUp_83
    · rw [if_neg c26] at h
      refine V_icmpge_f (tgt := 82) dX6_usedUp_26 (by decide) c26 ?_
      refine V_aload_n dX6_usedUp_29 rfl ?_
      refine V_getR (kf := 2) k_X6 (by decide) lk_RX6_23 rfl dX6_usedUp_30 (tq_0 hG) rfl ?_
      refine V_aload_n dX6_usedUp_33 rfl ?_
      refine V_getR (kf := 0) k_X6 (by decide) lk_RX6_12 rfl dX6_usedUp_34 (tq_0 hG) rfl ?_
      refine V_iload_n dX6_usedUp_37 rfl ?_
      refine V_aload_n dX6_usedUp_38 rfl ?_
      refine V_getR (kf := 3) k_X6 (by decide) lk_RX6_29 rfl dX6_usedUp_39 (tq_0 hG) rfl ?_
      obtain ⟨x11, y12, h⟩ := bi_o h
      refine V_callV (as := [.ref 1, .int v2, .ref 61]) (q := 32) (rest := []) dX6_usedUp_42 ov_mX0_carryOut lk_RX6_132 (by decide) (by decide) rfl rfl (Nat.le_of_ble_eq_true rfl) (tq_32 hG) rfl (VM_X0_carryOut G fu 32 hG (Or.inr rfl) v2 μ _ y12) ?_
      refine V_pop dX6_usedUp_45 rfl ?_
      refine V_aload_n dX6_usedUp_46 rfl ?_
      refine V_getR (kf := 2) k_X6 (by decide) lk_RX6_23 rfl dX6_usedUp_47 (tq_0 hG) rfl ?_
      refine V_getR (kf := 0) k_X0 (by decide) lk_RX6_51 rfl dX6_usedUp_50 (tq_32 hG) rfl ?_
      refine V_iload_n dX6_usedUp_53 rfl ?_
      obtain ⟨x13, y14, h⟩ := bi_o h
      refine V_callV (as := [.int v1]) (q := 33) (rest := []) dX6_usedUp_54 ov_mX5_isThere lk_RX6_342 (by decide) (by decide) rfl rfl (Nat.le_of_ble_eq_true rfl) (tq_33 hG) rfl (VM_X5_isThere G x11.2 33 hG (Or.inr rfl) v1 _ y14) ?_
      by_cases c57 : x13 = true
      · rw [if_pos c57] at h
        refine V_ifeq_f (tgt := 76) dX6_usedUp_57 (by decide) (b2i_t.mp c57) ?_
        refine V_aload_n dX6_usedUp_60 rfl ?_
        refine V_getR (kf := 2) k_X6 (by decide) lk_RX6_23 rfl dX6_usedUp_61 (tq_0 hG) rfl ?_
        refine V_getR (kf := 0) k_X0 (by decide) lk_RX6_51 rfl dX6_usedUp_64 (tq_32 hG) rfl ?_
        refine V_iload_n dX6_usedUp_67 rfl ?_
        obtain ⟨x15, y16, h⟩ := bi_o h
        refine V_callV (as := [.int v1]) (q := 33) (rest := []) dX6_usedUp_68 ov_mX5_isUsedUp lk_RX6_179 (by decide) (by decide) rfl rfl (Nat.le_of_ble_eq_true rfl) (tq_33 hG) rfl (VM_X5_isUsedUp G x11.2 33 hG (Or.inr rfl) v1 _ y16) ?_
        by_cases c71 : x15 = true
        · rw [if_pos c71] at h
          refine V_ifeq_f (tgt := 76) dX6_usedUp_71 (by decide) (b2i_t.mp c71) ?_
          refine V_iload_n dX6_usedUp_74 rfl ?_
          cases h
          exact V_iret rfl dX6_usedUp_75
        · rw [if_neg c71] at h
          refine V_ifeq_t (tgt := 76) dX6_usedUp_71 (by decide) (b2i_f.mp c71) ?_
          exact V_wk [true, true, true] rfl (T_X6_usedUp_76 G fu hG (D_X6_usedUp_18 fu n) ih _ _ _ _ h)
      · rw [if_neg c57] at h
        refine V_ifeq_t (tgt := 76) dX6_usedUp_57 (by decide) (b2i_f.mp c57) ?_
        exact V_wk [true, true, true] rfl (T_X6_usedUp_76 G fu hG (D_X6_usedUp_18 fu n) ih _ _ _ _ h)
def D_X6_usedUp_0 (fu : Nat)  (a1 : Int32) (μ : Mem) : Option ((Int32 ⊕ String) × Mem) :=
  (D_X6_isLayer_0 μ a1).bind fun x1 =>
  (D_X6_needThere_0 (b2i x1) μ).bind fun x3 =>
  tx x3 fun v5 m6 =>
  (D_X0_clear_0 fu 32 m6).bind fun x9 =>
  D_X6_usedUp_18 fu fu a1 0 x9
set_option maxRecDepth 20000 in
theorem T_X6_usedUp_0 (G : GX) (fu : Nat)  (hG : gt G = tbl) : ∀ (a1 : Int32) (μ : Mem) (r : ((Int32 ⊕ String) × Mem)) , D_X6_usedUp_0 fu a1 μ = some r → V G mX6_usedUp 0 [some (.ref 0), some (.int a1), none] [] μ (ouI r.1) (r.2) := by
  intro a1 μ r h
  unfold D_X6_usedUp_0 at h
  refine V_aload_n dX6_usedUp_0 rfl ?_
  refine V_aload_n dX6_usedUp_1 rfl ?_
  refine V_iload_n dX6_usedUp_2 rfl ?_
  obtain ⟨x1, y2, h⟩ := bi_o h
  refine V_callV (as := [.int a1]) (q := 0) (rest := [.ref 0]) dX6_usedUp_3 ov_mX6_isLayer lk_RX6_68 (by decide) (by decide) rfl rfl (Nat.le_of_ble_eq_true rfl) (tq_0 hG) rfl (VM_X6_isLayer G μ hG a1 _ y2) ?_
  obtain ⟨x3, y4, h⟩ := bi_o h
  have z7 := VM_X6_needThere G hG (b2i x1) μ _ y4
  rcases tx_o h with ⟨v5, q8, h⟩ | ⟨E, q8, h⟩
  · rw [q8] at z7
    generalize x3.2 = m6 at h z7
    refine V_callV (as := [.int (b2i x1)]) (q := 0) (rest := []) dX6_usedUp_6 ov_mX6_needThere lk_RX6_71 (by decide) (by decide) rfl rfl (Nat.le_of_ble_eq_true rfl) (tq_0 hG) rfl (z7) ?_
    refine V_aload_n dX6_usedUp_9 rfl ?_
    refine V_getR (kf := 2) k_X6 (by decide) lk_RX6_23 rfl dX6_usedUp_10 (tq_0 hG) rfl ?_
    obtain ⟨x9, y10, h⟩ := bi_o h
    refine V_callV (as := []) (q := 32) (rest := []) dX6_usedUp_13 ov_mX0_clear lk_RX6_129 (by decide) (by decide) rfl rfl (Nat.le_of_ble_eq_true rfl) (tq_32 hG) rfl (VM_X0_clear G fu 32 hG (Or.inr rfl) m6 _ y10) ?_
    refine V_iconst (v := 0) dX6_usedUp_16 rfl ?_
    refine V_istore_n (lv2 := [some (.ref 0), some (.int a1), some (.int 0)]) dX6_usedUp_17 (by decide) rfl ?_
    exact V_wk [true, true, true] rfl (T_X6_usedUp_18 G fu hG fu _ _ _ _ h)
  · rw [q8] at z7
    cases h
    exact V_callVX (as := [.int (b2i x1)]) (q := 0) (rest := []) dX6_usedUp_6 rfl ov_mX6_needThere lk_RX6_71 (by decide) (by decide) rfl rfl (Nat.le_of_ble_eq_true rfl) (tq_0 hG) rfl (z7)
theorem VM_X6_usedUp (G : GX) (fu : Nat)  (hG : gt G = tbl) (a1 : Int32) (μ : Mem) (r : ((Int32 ⊕ String) × Mem)) (h : D_X6_usedUp_0 fu a1 μ = some r) : VM G mX6_usedUp [.ref 0, .int a1] μ (ouI r.1) (r.2) := V_entry ok_mX6_usedUp rfl rfl (Nat.le_of_ble_eq_true rfl) (T_X6_usedUp_0 G fu hG a1 μ r h)
def D_X6_heaviest_96 (fu : Nat)  (k33 : Int32 → Int32 → Int32 → Int64 → Int32 → Mem → Option ((Int64 ⊕ String) × Mem)) (v1 : Int32) (v2 : Int32) (v3 : Int32) (v4 : Int64) (v6 : Int32) (μ : Mem) : Option ((Int64 ⊕ String) × Mem) :=
  k33 v1 v2 v3 v4 (v6 + 1) μ
set_option maxRecDepth 20000 in
theorem T_X6_heaviest_96 (G : GX) (fu : Nat)  (hG : gt G = tbl) (k33 : Int32 → Int32 → Int32 → Int64 → Int32 → Mem → Option ((Int64 ⊕ String) × Mem)) (hk33 : ∀ (v1 : Int32) (v2 : Int32) (v3 : Int32) (v4 : Int64) (v6 : Int32) (μ : Mem) (r : ((Int64 ⊕ String) × Mem)), k33 v1 v2 v3 v4 v6 μ = some r → V G mX6_heaviest 33 [some (.ref 0), some (.int v1), some (.int v2), some (.int v3), some (.long v4), none, some (.int v6), none, none] [] μ (ouL r.1) (r.2)) : ∀ (v1 : Int32) (v2 : Int32) (v3 : Int32) (v4 : Int64) (v6 : Int32) (μ : Mem) (r : ((Int64 ⊕ String) × Mem)) , D_X6_heaviest_96 fu k33 v1 v2 v3 v4 v6 μ = some r → V G mX6_heaviest 96 [some (.ref 0), some (.int v1), some (.int v2), some (.int v3), some (.long v4), none, some (.int v6), none, none] [] μ (ouL r.1) (r.2) := by
  intro v1 v2 v3 v4 v6 μ r h
  unfold D_X6_heaviest_96 at h
  refine V_iinc (v := v6 + 1) (lv2 := [some (.ref 0), some (.int v1), some (.int v2), some (.int v3), some (.long v4), none, some (.int (v6 + 1)), none, none]) dX6_heaviest_96 rfl rfl (by decide) rfl ?_
  refine V_goto (tgt := 33) dX6_heaviest_99 (by decide) ?_
  exact V_wk [true, true, true, true, true, false, true, false, false] rfl (hk33 _ _ _ _ _ _ _ h)
def D_X6_heaviest_89 (fu : Nat)  (k33 : Int32 → Int32 → Int32 → Int64 → Int32 → Mem → Option ((Int64 ⊕ String) × Mem)) (v1 : Int32) (v2 : Int32) (v6 : Int32) (v7 : Int64) (μ : Mem) : Option ((Int64 ⊕ String) × Mem) :=
  D_X6_heaviest_96 fu k33 v1 v2 v6 v7 v6 μ
set_option maxRecDepth 20000 in
theorem T_X6_heaviest_89 (G : GX) (fu : Nat)  (hG : gt G = tbl) (k33 : Int32 → Int32 → Int32 → Int64 → Int32 → Mem → Option ((Int64 ⊕ String) × Mem)) (hk33 : ∀ (v1 : Int32) (v2 : Int32) (v3 : Int32) (v4 : Int64) (v6 : Int32) (μ : Mem) (r : ((Int64 ⊕ String) × Mem)), k33 v1 v2 v3 v4 v6 μ = some r → V G mX6_heaviest 33 [some (.ref 0), some (.int v1), some (.int v2), some (.int v3), some (.long v4), none, some (.int v6), none, none] [] μ (ouL r.1) (r.2)) : ∀ (v1 : Int32) (v2 : Int32) (v6 : Int32) (v7 : Int64) (μ : Mem) (r : ((Int64 ⊕ String) × Mem)) , D_X6_heaviest_89 fu k33 v1 v2 v6 v7 μ = some r → V G mX6_heaviest 89 [some (.ref 0), some (.int v1), some (.int v2), none, none, none, some (.int v6), some (.long v7), none] [] μ (ouL r.1) (r.2) := by
  intro v1 v2 v6 v7 μ r h
  unfold D_X6_heaviest_89 at h
  refine V_iload dX6_heaviest_89 rfl ?_
  refine V_istore_n (lv2 := [some (.ref 0), some (.int v1), some (.int v2), some (.int v6), none, none, some (.int v6), some (.long v7), none]) dX6_heaviest_91 (by decide) rfl ?_
  refine V_lload dX6_heaviest_92 rfl ?_
  refine V_lstore (lv2 := [some (.ref 0), some (.int v1), some (.int v2), some (.int v6), some (.long v7), none, some (.int v6), some (.long v7), none]) dX6_heaviest_94 (by decide) rfl ?_
  exact V_wk [true, true, true, true, true, false, true, false, false] rfl (T_X6_heaviest_96 G fu hG k33 hk33 _ _ _ _ _ _ _ h)
def D_X6_heaviest_33 (fu : Nat)  : Nat → Int32 → Int32 → Int32 → Int64 → Int32 → Mem → Option ((Int64 ⊕ String) × Mem)
  | 0, _, _, _, _, _, _ => none
  | n + 1, v1, v2, v3, v4, v6, μ =>
    if (μ.1 17 12) ≤ v6 then
      if v2 = 0 then
        some (.inl ((v3 : Int32).toInt64), μ)
      else
        some (.inl v4, μ)
    else
      (D_X2_find_0 fu μ 4 v6).bind fun x11 =>
      (D_X6_goOverWithout_0 fu x11 μ).bind fun x13 =>
      (D_X1_borneInAll_0 fu x13.2 46 v1).bind fun x15 =>
      if v3 = (-1 : Int32) then
        D_X6_heaviest_89 fu (D_X6_heaviest_33 fu n) v1 v2 v6 x15 x13.2
      else
        if v4 ≤ x15 then
          D_X6_heaviest_96 fu (D_X6_heaviest_33 fu n) v1 v2 v3 v4 v6 x13.2
        else
          D_X6_heaviest_89 fu (D_X6_heaviest_33 fu n) v1 v2 v6 x15 x13.2
set_option maxRecDepth 20000 in
theorem T_X6_heaviest_33 (G : GX) (fu : Nat)  (hG : gt G = tbl) : ∀ (n : Nat) (v1 : Int32) (v2 : Int32) (v3 : Int32) (v4 : Int64) (v6 : Int32) (μ : Mem) (r : ((Int64 ⊕ String) × Mem)) , D_X6_heaviest_33 fu n v1 v2 v3 v4 v6 μ = some r → V G mX6_heaviest 33 [some (.ref 0), some (.int v1), some (.int v2), some (.int v3), some (.long v4), none, some (.int v6), none, none] [] μ (ouL r.1) (r.2) := by
  intro n
  induction n with
  | zero =>
    intro v1 v2 v3 v4 v6 μ r h
    exact nomatch (show (none : Option ((Int64 ⊕ String) × Mem)) = some r from h)
  | succ n ih =>
    intro v1 v2 v3 v4 v6 μ r h
    rw [D_X6_heaviest_33] at h
    refine V_iload dX6_heaviest_33 rfl ?_
    refine V_aload_n dX6_heaviest_35 rfl ?_
    refine V_getR (kf := 1) k_X6 (by decide) lk_RX6_19 rfl dX6_heaviest_36 (tq_0 hG) rfl ?_
    refine V_getR (kf := 1) k_X0 (by decide) lk_RX6_107 rfl dX6_heaviest_39 (tq_3 hG) rfl ?_
    refine V_getI (kf := 12) k_X1 (by decide) lk_RX6_111 rfl dX6_heaviest_42 (tq_17 hG) rfl ?_
    by_cases c45 : (μ.1 17 12) ≤ v6
    · rw [if_pos c45] at h
      refine V_icmpge_t (tgt := 102) dX6_heaviest_45 (by decide) c45 ?_
      refine V_iload_n dX6_heaviest_102 rfl ?_
      by_cases c103 : v2 = 0
      · rw [if_pos c103] at h
        refine V_ifne_f (tgt := 111) dX6_heaviest_103 (by decide) c103 ?_
        refine V_iload_n dX6_heaviest_106 rfl ?_
        refine V_i2l dX6_heaviest_107 ?_
        refine V_goto (tgt := 113) dX6_heaviest_108 (by decide) ?_
        cases h
        exact V_lret rfl dX6_heaviest_113
      · rw [if_neg c103] at h
        refine V_ifne_t (tgt := 111) dX6_heaviest_103 (by decide) c103 ?_
        refine V_lload dX6_heaviest_111 rfl ?_
        cases h
        exact V_lret rfl dX6_heaviest_113
    · rw [if_neg c45] at h
      refine V_icmpge_f (tgt := 102) dX6_heaviest_45 (by decide) c45 ?_
      refine V_aload_n dX6_heaviest_48 rfl ?_
      refine V_aload_n dX6_heaviest_49 rfl ?_
      refine V_getR (kf := 0) k_X6 (by decide) lk_RX6_12 rfl dX6_heaviest_50 (tq_0 hG) rfl ?_
      refine V_iconst (v := 4) dX6_heaviest_53 rfl ?_
      refine V_iload dX6_heaviest_54 rfl ?_
      obtain ⟨x11, y12, h⟩ := bi_o h
      refine V_callV (as := [.int 4, .int v6]) (q := 1) (rest := [.ref 0]) dX6_heaviest_56 ov_mX2_find lk_RX6_339 (by decide) (by decide) rfl rfl (Nat.le_of_ble_eq_true rfl) (tq_1 hG) rfl (VM_X2_find G fu μ hG 4 v6 _ y12) ?_
      obtain ⟨x13, y14, h⟩ := bi_o h
      refine V_callV (as := [.int x11]) (q := 0) (rest := []) dX6_heaviest_59 ov_mX6_goOverWithout lk_RX6_336 (by decide) (by decide) rfl rfl (Nat.le_of_ble_eq_true rfl) (tq_0 hG) rfl (VM_X6_goOverWithout G fu hG x11 μ _ y14) ?_
      refine V_pop dX6_heaviest_62 rfl ?_
      refine V_aload_n dX6_heaviest_63 rfl ?_
      refine V_getR (kf := 2) k_X6 (by decide) lk_RX6_23 rfl dX6_heaviest_64 (tq_0 hG) rfl ?_
      refine V_getR (kf := 1) k_X0 (by decide) lk_RX6_107 rfl dX6_heaviest_67 (tq_32 hG) rfl ?_
      refine V_iload_n dX6_heaviest_70 rfl ?_
      obtain ⟨x15, y16, h⟩ := bi_o h
      refine V_callV (as := [.int v1]) (q := 46) (rest := []) dX6_heaviest_71 ov_mX1_borneInAll lk_RX6_250 (by decide) (by decide) rfl rfl (Nat.le_of_ble_eq_true rfl) (tq_46 hG) rfl (VM_X1_borneInAll G fu x13.2 46 hG (Or.inr rfl) v1 _ y16) ?_
      refine V_lstore (lv2 := [some (.ref 0), some (.int v1), some (.int v2), some (.int v3), some (.long v4), none, some (.int v6), some (.long x15), none]) dX6_heaviest_74 (by decide) rfl ?_
      refine V_iload_n dX6_heaviest_76 rfl ?_
      refine V_iconst (v := (-1)) dX6_heaviest_77 rfl ?_
      by_cases c78 : v3 = (-1 : Int32)
      · rw [if_pos c78] at h
        refine V_icmpeq_t (tgt := 89) dX6_heaviest_78 (by decide) c78 ?_
        exact V_wk [true, true, true, false, false, false, true, true, false] rfl (T_X6_heaviest_89 G fu hG (D_X6_heaviest_33 fu n) ih _ _ _ _ _ _ h)
      · rw [if_neg c78] at h
        refine V_icmpeq_f (tgt := 89) dX6_heaviest_78 (by decide) c78 ?_
        refine V_lload dX6_heaviest_81 rfl ?_
        refine V_lload dX6_heaviest_83 rfl ?_
        refine V_lcmp dX6_heaviest_85 ?_
        by_cases c86 : v4 ≤ x15
        · rw [if_pos c86] at h
          refine V_ifge_t (tgt := 96) dX6_heaviest_86 (by decide) ((lc_ge x15 v4).mpr c86) ?_
          exact V_wk [true, true, true, true, true, false, true, false, false] rfl (T_X6_heaviest_96 G fu hG (D_X6_heaviest_33 fu n) ih _ _ _ _ _ _ _ h)
        · rw [if_neg c86] at h
          refine V_ifge_f (tgt := 96) dX6_heaviest_86 (by decide) (fun z => c86 ((lc_ge x15 v4).mp z)) ?_
          exact V_wk [true, true, true, false, false, false, true, true, false] rfl (T_X6_heaviest_89 G fu hG (D_X6_heaviest_33 fu n) ih _ _ _ _ _ _ h)
def D_X6_heaviest_22 (fu : Nat)  (v1 : Int32) (v2 : Int32) (s1 : Int32) (μ : Mem) : Option ((Int64 ⊕ String) × Mem) :=
  (D_X6_needRight_0 s1 μ).bind fun x5 =>
  tx x5 fun v7 m8 =>
  D_X6_heaviest_33 fu fu v1 v2 (-1) 0 0 m8
set_option maxRecDepth 20000 in
theorem T_X6_heaviest_22 (G : GX) (fu : Nat)  (hG : gt G = tbl) : ∀ (v1 : Int32) (v2 : Int32) (s1 : Int32) (μ : Mem) (r : ((Int64 ⊕ String) × Mem)) , D_X6_heaviest_22 fu v1 v2 s1 μ = some r → V G mX6_heaviest 22 [some (.ref 0), some (.int v1), some (.int v2), none, none, none, none, none, none] [.int s1, .ref 0] μ (ouL r.1) (r.2) := by
  intro v1 v2 s1 μ r h
  unfold D_X6_heaviest_22 at h
  obtain ⟨x5, y6, h⟩ := bi_o h
  have z9 := VM_X6_needRight G hG s1 μ _ y6
  rcases tx_o h with ⟨v7, q10, h⟩ | ⟨E, q10, h⟩
  · rw [q10] at z9
    generalize x5.2 = m8 at h z9
    refine V_callV (as := [.int s1]) (q := 0) (rest := []) dX6_heaviest_22 ov_mX6_needRight lk_RX6_47 (by decide) (by decide) rfl rfl (Nat.le_of_ble_eq_true rfl) (tq_0 hG) rfl (z9) ?_
    refine V_iconst (v := (-1)) dX6_heaviest_25 rfl ?_
    refine V_istore_n (lv2 := [some (.ref 0), some (.int v1), some (.int v2), some (.int (-1)), none, none, none, none, none]) dX6_heaviest_26 (by decide) rfl ?_
    refine V_lconst (v := 0) dX6_heaviest_27 rfl ?_
    refine V_lstore (lv2 := [some (.ref 0), some (.int v1), some (.int v2), some (.int (-1)), some (.long 0), none, none, none, none]) dX6_heaviest_28 (by decide) rfl ?_
    refine V_iconst (v := 0) dX6_heaviest_30 rfl ?_
    refine V_istore (lv2 := [some (.ref 0), some (.int v1), some (.int v2), some (.int (-1)), some (.long 0), none, some (.int 0), none, none]) dX6_heaviest_31 (by decide) rfl ?_
    exact V_wk [true, true, true, true, true, false, true, false, false] rfl (T_X6_heaviest_33 G fu hG fu _ _ _ _ _ _ _ h)
  · rw [q10] at z9
    cases h
    exact V_callVX (as := [.int s1]) (q := 0) (rest := []) dX6_heaviest_22 rfl ov_mX6_needRight lk_RX6_47 (by decide) (by decide) rfl rfl (Nat.le_of_ble_eq_true rfl) (tq_0 hG) rfl (z9)
def D_X6_heaviest_21 (fu : Nat)  (v1 : Int32) (v2 : Int32) (μ : Mem) : Option ((Int64 ⊕ String) × Mem) :=
  D_X6_heaviest_22 fu v1 v2 0 μ
set_option maxRecDepth 20000 in
theorem T_X6_heaviest_21 (G : GX) (fu : Nat)  (hG : gt G = tbl) : ∀ (v1 : Int32) (v2 : Int32) (μ : Mem) (r : ((Int64 ⊕ String) × Mem)) , D_X6_heaviest_21 fu v1 v2 μ = some r → V G mX6_heaviest 21 [some (.ref 0), some (.int v1), some (.int v2), none, none, none, none, none, none] [.ref 0] μ (ouL r.1) (r.2) := by
  intro v1 v2 μ r h
  unfold D_X6_heaviest_21 at h
  refine V_iconst (v := 0) dX6_heaviest_21 rfl ?_
  exact V_wk [true, true, true, false, false, false, false, false, false] rfl (T_X6_heaviest_22 G fu hG _ _ _ _ _ h)
def D_X6_heaviest_0 (fu : Nat)  (a1 : Int32) (a2 : Int32) (μ : Mem) : Option ((Int64 ⊕ String) × Mem) :=
  (D_X6_isInsurer_0 μ a1).bind fun x1 =>
  if x1 = true then
    (D_X6_isWithin_0 μ a2 0 1).bind fun x3 =>
    if x3 = true then
      D_X6_heaviest_22 fu a1 a2 1 μ
    else
      D_X6_heaviest_21 fu a1 a2 μ
  else
    D_X6_heaviest_21 fu a1 a2 μ
set_option maxRecDepth 20000 in
theorem T_X6_heaviest_0 (G : GX) (fu : Nat)  (hG : gt G = tbl) : ∀ (a1 : Int32) (a2 : Int32) (μ : Mem) (r : ((Int64 ⊕ String) × Mem)) , D_X6_heaviest_0 fu a1 a2 μ = some r → V G mX6_heaviest 0 [some (.ref 0), some (.int a1), some (.int a2), none, none, none, none, none, none] [] μ (ouL r.1) (r.2) := by
  intro a1 a2 μ r h
  unfold D_X6_heaviest_0 at h
  refine V_aload_n dX6_heaviest_0 rfl ?_
  refine V_iload_n dX6_heaviest_1 rfl ?_
  obtain ⟨x1, y2, h⟩ := bi_o h
  refine V_callS (as := [.int a1]) (rest := [.ref 0]) dX6_heaviest_2 os_mX6_isInsurer rfl lk_RX6_74 (by decide) (by decide) rfl rfl (Nat.le_of_ble_eq_true rfl) (VM_X6_isInsurer G μ hG a1 _ y2) ?_
  by_cases c5 : x1 = true
  · rw [if_pos c5] at h
    refine V_ifeq_f (tgt := 21) dX6_heaviest_5 (by decide) (b2i_t.mp c5) ?_
    refine V_iload_n dX6_heaviest_8 rfl ?_
    refine V_iconst (v := 0) dX6_heaviest_9 rfl ?_
    refine V_iconst (v := 1) dX6_heaviest_10 rfl ?_
    obtain ⟨x3, y4, h⟩ := bi_o h
    refine V_callS (as := [.int a2, .int 0, .int 1]) (rest := [.ref 0]) dX6_heaviest_11 os_mX6_isWithin rfl lk_RX6_42 (by decide) (by decide) rfl rfl (Nat.le_of_ble_eq_true rfl) (VM_X6_isWithin G μ hG a2 0 1 _ y4) ?_
    by_cases c14 : x3 = true
    · rw [if_pos c14] at h
      refine V_ifeq_f (tgt := 21) dX6_heaviest_14 (by decide) (b2i_t.mp c14) ?_
      refine V_iconst (v := 1) dX6_heaviest_17 rfl ?_
      refine V_goto (tgt := 22) dX6_heaviest_18 (by decide) ?_
      exact V_wk [true, true, true, false, false, false, false, false, false] rfl (T_X6_heaviest_22 G fu hG _ _ _ _ _ h)
    · rw [if_neg c14] at h
      refine V_ifeq_t (tgt := 21) dX6_heaviest_14 (by decide) (b2i_f.mp c14) ?_
      exact V_wk [true, true, true, false, false, false, false, false, false] rfl (T_X6_heaviest_21 G fu hG _ _ _ _ h)
  · rw [if_neg c5] at h
    refine V_ifeq_t (tgt := 21) dX6_heaviest_5 (by decide) (b2i_f.mp c5) ?_
    exact V_wk [true, true, true, false, false, false, false, false, false] rfl (T_X6_heaviest_21 G fu hG _ _ _ _ h)
theorem VM_X6_heaviest (G : GX) (fu : Nat)  (hG : gt G = tbl) (a1 : Int32) (a2 : Int32) (μ : Mem) (r : ((Int64 ⊕ String) × Mem)) (h : D_X6_heaviest_0 fu a1 a2 μ = some r) : VM G mX6_heaviest [.ref 0, .int a1, .int a2] μ (ouL r.1) (r.2) := V_entry ok_mX6_heaviest rfl rfl (Nat.le_of_ble_eq_true rfl) (T_X6_heaviest_0 G fu hG a1 a2 μ r h)
def D_X6_cover_32 (fu : Nat)  (v1 : Int32) (v2 : Int32) (v3 : Int32) (s1 : Int32) (μ : Mem) : Option ((Int32 ⊕ String) × Mem) :=
  (D_X6_needRight_0 s1 μ).bind fun x7 =>
  tx x7 fun v9 m10 =>
  (D_X5_coveredIn_0 fu m10 4 v1 v2 v3).bind fun x13 =>
  some (.inl x13, m10)
set_option maxRecDepth 20000 in
theorem T_X6_cover_32 (G : GX) (fu : Nat)  (hG : gt G = tbl) : ∀ (v1 : Int32) (v2 : Int32) (v3 : Int32) (s1 : Int32) (μ : Mem) (r : ((Int32 ⊕ String) × Mem)) , D_X6_cover_32 fu v1 v2 v3 s1 μ = some r → V G mX6_cover 32 [some (.ref 0), some (.int v1), some (.int v2), some (.int v3)] [.int s1, .ref 0] μ (ouI r.1) (r.2) := by
  intro v1 v2 v3 s1 μ r h
  unfold D_X6_cover_32 at h
  obtain ⟨x7, y8, h⟩ := bi_o h
  have z11 := VM_X6_needRight G hG s1 μ _ y8
  rcases tx_o h with ⟨v9, q12, h⟩ | ⟨E, q12, h⟩
  · rw [q12] at z11
    generalize x7.2 = m10 at h z11
    refine V_callV (as := [.int s1]) (q := 0) (rest := []) dX6_cover_32 ov_mX6_needRight lk_RX6_47 (by decide) (by decide) rfl rfl (Nat.le_of_ble_eq_true rfl) (tq_0 hG) rfl (z11) ?_
    refine V_aload_n dX6_cover_35 rfl ?_
    refine V_getR (kf := 1) k_X6 (by decide) lk_RX6_19 rfl dX6_cover_36 (tq_0 hG) rfl ?_
    refine V_getR (kf := 0) k_X0 (by decide) lk_RX6_51 rfl dX6_cover_39 (tq_3 hG) rfl ?_
    refine V_iload_n dX6_cover_42 rfl ?_
    refine V_iload_n dX6_cover_43 rfl ?_
    refine V_iload_n dX6_cover_44 rfl ?_
    obtain ⟨x13, y14, h⟩ := bi_o h
    refine V_callV (as := [.int v1, .int v2, .int v3]) (q := 4) (rest := []) dX6_cover_45 ov_mX5_coveredIn lk_RX6_345 (by decide) (by decide) rfl rfl (Nat.le_of_ble_eq_true rfl) (tq_4 hG) rfl (VM_X5_coveredIn G fu m10 4 hG (Or.inl rfl) v1 v2 v3 _ y14) ?_
    cases h
    exact V_iret rfl dX6_cover_48
  · rw [q12] at z11
    cases h
    exact V_callVX (as := [.int s1]) (q := 0) (rest := []) dX6_cover_32 rfl ov_mX6_needRight lk_RX6_47 (by decide) (by decide) rfl rfl (Nat.le_of_ble_eq_true rfl) (tq_0 hG) rfl (z11)
def D_X6_cover_31 (fu : Nat)  (v1 : Int32) (v2 : Int32) (v3 : Int32) (μ : Mem) : Option ((Int32 ⊕ String) × Mem) :=
  D_X6_cover_32 fu v1 v2 v3 0 μ
set_option maxRecDepth 20000 in
theorem T_X6_cover_31 (G : GX) (fu : Nat)  (hG : gt G = tbl) : ∀ (v1 : Int32) (v2 : Int32) (v3 : Int32) (μ : Mem) (r : ((Int32 ⊕ String) × Mem)) , D_X6_cover_31 fu v1 v2 v3 μ = some r → V G mX6_cover 31 [some (.ref 0), some (.int v1), some (.int v2), some (.int v3)] [.ref 0] μ (ouI r.1) (r.2) := by
  intro v1 v2 v3 μ r h
  unfold D_X6_cover_31 at h
  refine V_iconst (v := 0) dX6_cover_31 rfl ?_
  exact V_wk [true, true, true, true] rfl (T_X6_cover_32 G fu hG _ _ _ _ _ _ h)
def D_X6_cover_0 (fu : Nat)  (a1 : Int32) (a2 : Int32) (a3 : Int32) (μ : Mem) : Option ((Int32 ⊕ String) × Mem) :=
  (D_X6_isYear_0 μ a1).bind fun x1 =>
  if x1 = true then
    (D_X6_isHeight_0 μ a2).bind fun x3 =>
    if x3 = true then
      (D_X6_isHeight_0 μ a3).bind fun x5 =>
      if x5 = true then
        if a3 < a2 then
          D_X6_cover_31 fu a1 a2 a3 μ
        else
          D_X6_cover_32 fu a1 a2 a3 1 μ
      else
        D_X6_cover_31 fu a1 a2 a3 μ
    else
      D_X6_cover_31 fu a1 a2 a3 μ
  else
    D_X6_cover_31 fu a1 a2 a3 μ
set_option maxRecDepth 20000 in
theorem T_X6_cover_0 (G : GX) (fu : Nat)  (hG : gt G = tbl) : ∀ (a1 : Int32) (a2 : Int32) (a3 : Int32) (μ : Mem) (r : ((Int32 ⊕ String) × Mem)) , D_X6_cover_0 fu a1 a2 a3 μ = some r → V G mX6_cover 0 [some (.ref 0), some (.int a1), some (.int a2), some (.int a3)] [] μ (ouI r.1) (r.2) := by
  intro a1 a2 a3 μ r h
  unfold D_X6_cover_0 at h
  refine V_aload_n dX6_cover_0 rfl ?_
  refine V_iload_n dX6_cover_1 rfl ?_
  obtain ⟨x1, y2, h⟩ := bi_o h
  refine V_callS (as := [.int a1]) (rest := [.ref 0]) dX6_cover_2 os_mX6_isYear rfl lk_RX6_37 (by decide) (by decide) rfl rfl (Nat.le_of_ble_eq_true rfl) (VM_X6_isYear G μ hG a1 _ y2) ?_
  by_cases c5 : x1 = true
  · rw [if_pos c5] at h
    refine V_ifeq_f (tgt := 31) dX6_cover_5 (by decide) (b2i_t.mp c5) ?_
    refine V_iload_n dX6_cover_8 rfl ?_
    obtain ⟨x3, y4, h⟩ := bi_o h
    refine V_callS (as := [.int a2]) (rest := [.ref 0]) dX6_cover_9 os_mX6_isHeight rfl lk_RX6_214 (by decide) (by decide) rfl rfl (Nat.le_of_ble_eq_true rfl) (VM_X6_isHeight G μ hG a2 _ y4) ?_
    by_cases c12 : x3 = true
    · rw [if_pos c12] at h
      refine V_ifeq_f (tgt := 31) dX6_cover_12 (by decide) (b2i_t.mp c12) ?_
      refine V_iload_n dX6_cover_15 rfl ?_
      obtain ⟨x5, y6, h⟩ := bi_o h
      refine V_callS (as := [.int a3]) (rest := [.ref 0]) dX6_cover_16 os_mX6_isHeight rfl lk_RX6_214 (by decide) (by decide) rfl rfl (Nat.le_of_ble_eq_true rfl) (VM_X6_isHeight G μ hG a3 _ y6) ?_
      by_cases c19 : x5 = true
      · rw [if_pos c19] at h
        refine V_ifeq_f (tgt := 31) dX6_cover_19 (by decide) (b2i_t.mp c19) ?_
        refine V_iload_n dX6_cover_22 rfl ?_
        refine V_iload_n dX6_cover_23 rfl ?_
        by_cases c24 : a3 < a2
        · rw [if_pos c24] at h
          refine V_icmpgt_t (tgt := 31) dX6_cover_24 (by decide) c24 ?_
          exact V_wk [true, true, true, true] rfl (T_X6_cover_31 G fu hG _ _ _ _ _ h)
        · rw [if_neg c24] at h
          refine V_icmpgt_f (tgt := 31) dX6_cover_24 (by decide) c24 ?_
          refine V_iconst (v := 1) dX6_cover_27 rfl ?_
          refine V_goto (tgt := 32) dX6_cover_28 (by decide) ?_
          exact V_wk [true, true, true, true] rfl (T_X6_cover_32 G fu hG _ _ _ _ _ _ h)
      · rw [if_neg c19] at h
        refine V_ifeq_t (tgt := 31) dX6_cover_19 (by decide) (b2i_f.mp c19) ?_
        exact V_wk [true, true, true, true] rfl (T_X6_cover_31 G fu hG _ _ _ _ _ h)
    · rw [if_neg c12] at h
      refine V_ifeq_t (tgt := 31) dX6_cover_12 (by decide) (b2i_f.mp c12) ?_
      exact V_wk [true, true, true, true] rfl (T_X6_cover_31 G fu hG _ _ _ _ _ h)
  · rw [if_neg c5] at h
    refine V_ifeq_t (tgt := 31) dX6_cover_5 (by decide) (b2i_f.mp c5) ?_
    exact V_wk [true, true, true, true] rfl (T_X6_cover_31 G fu hG _ _ _ _ _ h)
theorem VM_X6_cover (G : GX) (fu : Nat)  (hG : gt G = tbl) (a1 : Int32) (a2 : Int32) (a3 : Int32) (μ : Mem) (r : ((Int32 ⊕ String) × Mem)) (h : D_X6_cover_0 fu a1 a2 a3 μ = some r) : VM G mX6_cover [.ref 0, .int a1, .int a2, .int a3] μ (ouI r.1) (r.2) := V_entry ok_mX6_cover rfl rfl (Nat.le_of_ble_eq_true rfl) (T_X6_cover_0 G fu hG a1 a2 a3 μ r h)
def D_X6_reach_0 (fu : Nat)  (a1 : Int32) (μ : Mem) : Option ((Int64 ⊕ String) × Mem) :=
  (D_X6_isLayer_0 μ a1).bind fun x1 =>
  (D_X6_needThere_0 (b2i x1) μ).bind fun x3 =>
  tx x3 fun v5 m6 =>
  (D_X5_isUsedUp_0 m6 4 a1).bind fun x9 =>
  if x9 = true then
    some (.inl (-1), m6)
  else
    (D_X0_roomBelow_0 fu m6 3 a1).bind fun x11 =>
    some (.inl (x11 + 1), m6)
set_option maxRecDepth 20000 in
theorem T_X6_reach_0 (G : GX) (fu : Nat)  (hG : gt G = tbl) : ∀ (a1 : Int32) (μ : Mem) (r : ((Int64 ⊕ String) × Mem)) , D_X6_reach_0 fu a1 μ = some r → V G mX6_reach 0 [some (.ref 0), some (.int a1)] [] μ (ouL r.1) (r.2) := by
  intro a1 μ r h
  unfold D_X6_reach_0 at h
  refine V_aload_n dX6_reach_0 rfl ?_
  refine V_aload_n dX6_reach_1 rfl ?_
  refine V_iload_n dX6_reach_2 rfl ?_
  obtain ⟨x1, y2, h⟩ := bi_o h
  refine V_callV (as := [.int a1]) (q := 0) (rest := [.ref 0]) dX6_reach_3 ov_mX6_isLayer lk_RX6_68 (by decide) (by decide) rfl rfl (Nat.le_of_ble_eq_true rfl) (tq_0 hG) rfl (VM_X6_isLayer G μ hG a1 _ y2) ?_
  obtain ⟨x3, y4, h⟩ := bi_o h
  have z7 := VM_X6_needThere G hG (b2i x1) μ _ y4
  rcases tx_o h with ⟨v5, q8, h⟩ | ⟨E, q8, h⟩
  · rw [q8] at z7
    generalize x3.2 = m6 at h z7
    refine V_callV (as := [.int (b2i x1)]) (q := 0) (rest := []) dX6_reach_6 ov_mX6_needThere lk_RX6_71 (by decide) (by decide) rfl rfl (Nat.le_of_ble_eq_true rfl) (tq_0 hG) rfl (z7) ?_
    refine V_aload_n dX6_reach_9 rfl ?_
    refine V_getR (kf := 1) k_X6 (by decide) lk_RX6_19 rfl dX6_reach_10 (tq_0 hG) rfl ?_
    refine V_getR (kf := 0) k_X0 (by decide) lk_RX6_51 rfl dX6_reach_13 (tq_3 hG) rfl ?_
    refine V_iload_n dX6_reach_16 rfl ?_
    obtain ⟨x9, y10, h⟩ := bi_o h
    refine V_callV (as := [.int a1]) (q := 4) (rest := []) dX6_reach_17 ov_mX5_isUsedUp lk_RX6_179 (by decide) (by decide) rfl rfl (Nat.le_of_ble_eq_true rfl) (tq_4 hG) rfl (VM_X5_isUsedUp G m6 4 hG (Or.inl rfl) a1 _ y10) ?_
    by_cases c20 : x9 = true
    · rw [if_pos c20] at h
      refine V_ifeq_f (tgt := 29) dX6_reach_20 (by decide) (b2i_t.mp c20) ?_
      refine V_ldc2 (v := (-1)) dX6_reach_23 lk_RX6_182 ?_
      refine V_goto (tgt := 39) dX6_reach_26 (by decide) ?_
      cases h
      exact V_lret rfl dX6_reach_39
    · rw [if_neg c20] at h
      refine V_ifeq_t (tgt := 29) dX6_reach_20 (by decide) (b2i_f.mp c20) ?_
      refine V_aload_n dX6_reach_29 rfl ?_
      refine V_getR (kf := 1) k_X6 (by decide) lk_RX6_19 rfl dX6_reach_30 (tq_0 hG) rfl ?_
      refine V_iload_n dX6_reach_33 rfl ?_
      obtain ⟨x11, y12, h⟩ := bi_o h
      refine V_callV (as := [.int a1]) (q := 3) (rest := []) dX6_reach_34 ov_mX0_roomBelow lk_RX6_348 (by decide) (by decide) rfl rfl (Nat.le_of_ble_eq_true rfl) (tq_3 hG) rfl (VM_X0_roomBelow G fu m6 3 hG (Or.inl rfl) a1 _ y12) ?_
      refine V_lconst (v := 1) dX6_reach_37 rfl ?_
      refine V_ladd dX6_reach_38 ?_
      cases h
      exact V_lret rfl dX6_reach_39
  · rw [q8] at z7
    cases h
    exact V_callVX (as := [.int (b2i x1)]) (q := 0) (rest := []) dX6_reach_6 rfl ov_mX6_needThere lk_RX6_71 (by decide) (by decide) rfl rfl (Nat.le_of_ble_eq_true rfl) (tq_0 hG) rfl (z7)
theorem VM_X6_reach (G : GX) (fu : Nat)  (hG : gt G = tbl) (a1 : Int32) (μ : Mem) (r : ((Int64 ⊕ String) × Mem)) (h : D_X6_reach_0 fu a1 μ = some r) : VM G mX6_reach [.ref 0, .int a1] μ (ouL r.1) (r.2) := V_entry ok_mX6_reach rfl rfl (Nat.le_of_ble_eq_true rfl) (T_X6_reach_0 G fu hG a1 μ r h)
def D_X6_uneven_33 (fu : Nat)  (v1 : Int32) (v2 : Int32) (v3 : Int32) (v4 : Int32) (v5 : Int32) (s1 : Int32) (μ : Mem) : Option ((Int64 ⊕ String) × Mem) :=
  (D_X6_needRight_0 s1 μ).bind fun x13 =>
  tx x13 fun v15 m16 =>
  (D_X6_setOffNow_0 fu m16 v1 v2 v3).bind fun x19 =>
  (D_X4_plan_0 fu 3 24 x19 ((v4 : Int32).toInt64) 2 m16).bind fun x21 =>
  gu (ib v5 40) <|
  gu (ib v5 40) <|
  some (.inl ((x21.2.1 81 (Int32.toNatClampNeg v5)) - (x21.2.1 82 (Int32.toNatClampNeg v5))), x21)
set_option maxRecDepth 20000 in
theorem T_X6_uneven_33 (G : GX) (fu : Nat)  (hG : gt G = tbl) : ∀ (v1 : Int32) (v2 : Int32) (v3 : Int32) (v4 : Int32) (v5 : Int32) (s1 : Int32) (μ : Mem) (r : ((Int64 ⊕ String) × Mem)) , D_X6_uneven_33 fu v1 v2 v3 v4 v5 s1 μ = some r → V G mX6_uneven 33 [some (.ref 0), some (.int v1), some (.int v2), some (.int v3), some (.int v4), some (.int v5)] [.int s1, .ref 0] μ (ouL r.1) (r.2) := by
  intro v1 v2 v3 v4 v5 s1 μ r h
  unfold D_X6_uneven_33 at h
  obtain ⟨x13, y14, h⟩ := bi_o h
  have z17 := VM_X6_needRight G hG s1 μ _ y14
  rcases tx_o h with ⟨v15, q18, h⟩ | ⟨E, q18, h⟩
  · rw [q18] at z17
    generalize x13.2 = m16 at h z17
    refine V_callV (as := [.int s1]) (q := 0) (rest := []) dX6_uneven_33 ov_mX6_needRight lk_RX6_47 (by decide) (by decide) rfl rfl (Nat.le_of_ble_eq_true rfl) (tq_0 hG) rfl (z17) ?_
    refine V_aload_n dX6_uneven_36 rfl ?_
    refine V_getR (kf := 3) k_X6 (by decide) lk_RX6_29 rfl dX6_uneven_37 (tq_0 hG) rfl ?_
    refine V_aload_n dX6_uneven_40 rfl ?_
    refine V_getR (kf := 1) k_X6 (by decide) lk_RX6_19 rfl dX6_uneven_41 (tq_0 hG) rfl ?_
    refine V_bipush (v := 24) dX6_uneven_44 rfl ?_
    refine V_aload_n dX6_uneven_46 rfl ?_
    refine V_iload_n dX6_uneven_47 rfl ?_
    refine V_iload_n dX6_uneven_48 rfl ?_
    refine V_iload_n dX6_uneven_49 rfl ?_
    obtain ⟨x19, y20, h⟩ := bi_o h
    refine V_callV (as := [.int v1, .int v2, .int v3]) (q := 0) (rest := [.int 24, .ref 3, .ref 61]) dX6_uneven_50 ov_mX6_setOffNow lk_RX6_282 (by decide) (by decide) rfl rfl (Nat.le_of_ble_eq_true rfl) (tq_0 hG) rfl (VM_X6_setOffNow G fu m16 hG v1 v2 v3 _ y20) ?_
    refine V_iload dX6_uneven_53 rfl ?_
    refine V_i2l dX6_uneven_55 ?_
    refine V_iconst (v := 2) dX6_uneven_56 rfl ?_
    obtain ⟨x21, y22, h⟩ := bi_o h
    refine V_callV (as := [.ref 3, .int 24, .int x19, .long ((v4 : Int32).toInt64), .int 2]) (q := 61) (rest := []) dX6_uneven_57 ov_mX4_plan lk_RX6_286 (by decide) (by decide) rfl rfl (Nat.le_of_ble_eq_true rfl) (tq_61 hG) rfl (VM_X4_plan G fu 3 hG (Or.inl rfl) 24 x19 ((v4 : Int32).toInt64) 2 m16 _ y22) ?_
    refine V_aload_n dX6_uneven_60 rfl ?_
    refine V_getR (kf := 3) k_X6 (by decide) lk_RX6_29 rfl dX6_uneven_61 (tq_0 hG) rfl ?_
    refine V_getR (kf := 8) k_X4 (by decide) lk_RX6_351 rfl dX6_uneven_64 (tq_61 hG) rfl ?_
    refine V_iload dX6_uneven_67 rfl ?_
    obtain ⟨g23, h⟩ := gu_o h
    refine V_laload dX6_uneven_69 (tq_81 hG) (ib_in g23) ?_
    refine V_aload_n dX6_uneven_70 rfl ?_
    refine V_getR (kf := 3) k_X6 (by decide) lk_RX6_29 rfl dX6_uneven_71 (tq_0 hG) rfl ?_
    refine V_getR (kf := 9) k_X4 (by decide) lk_RX6_354 rfl dX6_uneven_74 (tq_61 hG) rfl ?_
    refine V_iload dX6_uneven_77 rfl ?_
    obtain ⟨g24, h⟩ := gu_o h
    refine V_laload dX6_uneven_79 (tq_82 hG) (ib_in g24) ?_
    refine V_lsub dX6_uneven_80 ?_
    cases h
    exact V_lret rfl dX6_uneven_81
  · rw [q18] at z17
    cases h
    exact V_callVX (as := [.int s1]) (q := 0) (rest := []) dX6_uneven_33 rfl ov_mX6_needRight lk_RX6_47 (by decide) (by decide) rfl rfl (Nat.le_of_ble_eq_true rfl) (tq_0 hG) rfl (z17)
def D_X6_uneven_32 (fu : Nat)  (v1 : Int32) (v2 : Int32) (v3 : Int32) (v4 : Int32) (v5 : Int32) (μ : Mem) : Option ((Int64 ⊕ String) × Mem) :=
  D_X6_uneven_33 fu v1 v2 v3 v4 v5 0 μ
set_option maxRecDepth 20000 in
theorem T_X6_uneven_32 (G : GX) (fu : Nat)  (hG : gt G = tbl) : ∀ (v1 : Int32) (v2 : Int32) (v3 : Int32) (v4 : Int32) (v5 : Int32) (μ : Mem) (r : ((Int64 ⊕ String) × Mem)) , D_X6_uneven_32 fu v1 v2 v3 v4 v5 μ = some r → V G mX6_uneven 32 [some (.ref 0), some (.int v1), some (.int v2), some (.int v3), some (.int v4), some (.int v5)] [.ref 0] μ (ouL r.1) (r.2) := by
  intro v1 v2 v3 v4 v5 μ r h
  unfold D_X6_uneven_32 at h
  refine V_iconst (v := 0) dX6_uneven_32 rfl ?_
  exact V_wk [true, true, true, true, true, true] rfl (T_X6_uneven_33 G fu hG _ _ _ _ _ _ _ _ h)
def D_X6_uneven_0 (fu : Nat)  (a1 : Int32) (a2 : Int32) (a3 : Int32) (a4 : Int32) (a5 : Int32) (μ : Mem) : Option ((Int64 ⊕ String) × Mem) :=
  (D_X6_isLayer_0 μ a5).bind fun x1 =>
  (D_X6_needThere_0 (b2i x1) μ).bind fun x3 =>
  tx x3 fun v5 m6 =>
  (D_X6_areHarmYears_0 m6 a1 a2 a3).bind fun x9 =>
  if x9 = true then
    (D_X6_isAmount_0 m6 a4).bind fun x11 =>
    if x11 = true then
      D_X6_uneven_33 fu a1 a2 a3 a4 a5 1 m6
    else
      D_X6_uneven_32 fu a1 a2 a3 a4 a5 m6
  else
    D_X6_uneven_32 fu a1 a2 a3 a4 a5 m6
set_option maxRecDepth 20000 in
theorem T_X6_uneven_0 (G : GX) (fu : Nat)  (hG : gt G = tbl) : ∀ (a1 : Int32) (a2 : Int32) (a3 : Int32) (a4 : Int32) (a5 : Int32) (μ : Mem) (r : ((Int64 ⊕ String) × Mem)) , D_X6_uneven_0 fu a1 a2 a3 a4 a5 μ = some r → V G mX6_uneven 0 [some (.ref 0), some (.int a1), some (.int a2), some (.int a3), some (.int a4), some (.int a5)] [] μ (ouL r.1) (r.2) := by
  intro a1 a2 a3 a4 a5 μ r h
  unfold D_X6_uneven_0 at h
  refine V_aload_n dX6_uneven_0 rfl ?_
  refine V_aload_n dX6_uneven_1 rfl ?_
  refine V_iload dX6_uneven_2 rfl ?_
  obtain ⟨x1, y2, h⟩ := bi_o h
  refine V_callV (as := [.int a5]) (q := 0) (rest := [.ref 0]) dX6_uneven_4 ov_mX6_isLayer lk_RX6_68 (by decide) (by decide) rfl rfl (Nat.le_of_ble_eq_true rfl) (tq_0 hG) rfl (VM_X6_isLayer G μ hG a5 _ y2) ?_
  obtain ⟨x3, y4, h⟩ := bi_o h
  have z7 := VM_X6_needThere G hG (b2i x1) μ _ y4
  rcases tx_o h with ⟨v5, q8, h⟩ | ⟨E, q8, h⟩
  · rw [q8] at z7
    generalize x3.2 = m6 at h z7
    refine V_callV (as := [.int (b2i x1)]) (q := 0) (rest := []) dX6_uneven_7 ov_mX6_needThere lk_RX6_71 (by decide) (by decide) rfl rfl (Nat.le_of_ble_eq_true rfl) (tq_0 hG) rfl (z7) ?_
    refine V_aload_n dX6_uneven_10 rfl ?_
    refine V_iload_n dX6_uneven_11 rfl ?_
    refine V_iload_n dX6_uneven_12 rfl ?_
    refine V_iload_n dX6_uneven_13 rfl ?_
    obtain ⟨x9, y10, h⟩ := bi_o h
    refine V_callS (as := [.int a1, .int a2, .int a3]) (rest := [.ref 0]) dX6_uneven_14 os_mX6_areHarmYears rfl lk_RX6_101 (by decide) (by decide) rfl rfl (Nat.le_of_ble_eq_true rfl) (VM_X6_areHarmYears G m6 hG a1 a2 a3 _ y10) ?_
    by_cases c17 : x9 = true
    · rw [if_pos c17] at h
      refine V_ifeq_f (tgt := 32) dX6_uneven_17 (by decide) (b2i_t.mp c17) ?_
      refine V_iload dX6_uneven_20 rfl ?_
      obtain ⟨x11, y12, h⟩ := bi_o h
      refine V_callS (as := [.int a4]) (rest := [.ref 0]) dX6_uneven_22 os_mX6_isAmount rfl lk_RX6_104 (by decide) (by decide) rfl rfl (Nat.le_of_ble_eq_true rfl) (VM_X6_isAmount G m6 hG a4 _ y12) ?_
      by_cases c25 : x11 = true
      · rw [if_pos c25] at h
        refine V_ifeq_f (tgt := 32) dX6_uneven_25 (by decide) (b2i_t.mp c25) ?_
        refine V_iconst (v := 1) dX6_uneven_28 rfl ?_
        refine V_goto (tgt := 33) dX6_uneven_29 (by decide) ?_
        exact V_wk [true, true, true, true, true, true] rfl (T_X6_uneven_33 G fu hG _ _ _ _ _ _ _ _ h)
      · rw [if_neg c25] at h
        refine V_ifeq_t (tgt := 32) dX6_uneven_25 (by decide) (b2i_f.mp c25) ?_
        exact V_wk [true, true, true, true, true, true] rfl (T_X6_uneven_32 G fu hG _ _ _ _ _ _ _ h)
    · rw [if_neg c17] at h
      refine V_ifeq_t (tgt := 32) dX6_uneven_17 (by decide) (b2i_f.mp c17) ?_
      exact V_wk [true, true, true, true, true, true] rfl (T_X6_uneven_32 G fu hG _ _ _ _ _ _ _ h)
  · rw [q8] at z7
    cases h
    exact V_callVX (as := [.int (b2i x1)]) (q := 0) (rest := []) dX6_uneven_7 rfl ov_mX6_needThere lk_RX6_71 (by decide) (by decide) rfl rfl (Nat.le_of_ble_eq_true rfl) (tq_0 hG) rfl (z7)
theorem VM_X6_uneven (G : GX) (fu : Nat)  (hG : gt G = tbl) (a1 : Int32) (a2 : Int32) (a3 : Int32) (a4 : Int32) (a5 : Int32) (μ : Mem) (r : ((Int64 ⊕ String) × Mem)) (h : D_X6_uneven_0 fu a1 a2 a3 a4 a5 μ = some r) : VM G mX6_uneven [.ref 0, .int a1, .int a2, .int a3, .int a4, .int a5] μ (ouL r.1) (r.2) := V_entry ok_mX6_uneven rfl rfl (Nat.le_of_ble_eq_true rfl) (T_X6_uneven_0 G fu hG a1 a2 a3 a4 a5 μ r h)
def D_X6_widest_90 (fu : Nat)  (k33 : Int32 → Int32 → Int32 → Int32 → Int32 → Mem → Option ((Int32 ⊕ String) × Mem)) (v1 : Int32) (v2 : Int32) (v3 : Int32) (v4 : Int32) (v5 : Int32) (μ : Mem) : Option ((Int32 ⊕ String) × Mem) :=
  k33 v1 v2 v3 v4 (v5 + 1) μ
set_option maxRecDepth 20000 in
theorem T_X6_widest_90 (G : GX) (fu : Nat)  (hG : gt G = tbl) (k33 : Int32 → Int32 → Int32 → Int32 → Int32 → Mem → Option ((Int32 ⊕ String) × Mem)) (hk33 : ∀ (v1 : Int32) (v2 : Int32) (v3 : Int32) (v4 : Int32) (v5 : Int32) (μ : Mem) (r : ((Int32 ⊕ String) × Mem)), k33 v1 v2 v3 v4 v5 μ = some r → V G mX6_widest 33 [some (.ref 0), some (.int v1), some (.int v2), some (.int v3), some (.int v4), some (.int v5), none] [] μ (ouI r.1) (r.2)) : ∀ (v1 : Int32) (v2 : Int32) (v3 : Int32) (v4 : Int32) (v5 : Int32) (μ : Mem) (r : ((Int32 ⊕ String) × Mem)) , D_X6_widest_90 fu k33 v1 v2 v3 v4 v5 μ = some r → V G mX6_widest 90 [some (.ref 0), some (.int v1), some (.int v2), some (.int v3), some (.int v4), some (.int v5), none] [] μ (ouI r.1) (r.2) := by
  intro v1 v2 v3 v4 v5 μ r h
  unfold D_X6_widest_90 at h
  refine V_iinc (v := v5 + 1) (lv2 := [some (.ref 0), some (.int v1), some (.int v2), some (.int v3), some (.int v4), some (.int (v5 + 1)), none]) dX6_widest_90 rfl rfl (by decide) rfl ?_
  refine V_goto (tgt := 33) dX6_widest_93 (by decide) ?_
  exact V_wk [true, true, true, true, true, true, false] rfl (hk33 _ _ _ _ _ _ _ h)
def D_X6_widest_33 (fu : Nat)  : Nat → Int32 → Int32 → Int32 → Int32 → Int32 → Mem → Option ((Int32 ⊕ String) × Mem)
  | 0, _, _, _, _, _, _ => none
  | n + 1, v1, v2, v3, v4, v5, μ =>
    gu (ib v1 12) <|
    if (μ.1 16 (Int32.toNatClampNeg v1)) ≤ v5 then
      if v2 = 0 then
        some (.inl v3, μ)
      else
        some (.inl v4, μ)
    else
      (D_X5_widthBelow_0 μ 4 v1 v5).bind fun x12 =>
      if x12 ≤ v4 then
        D_X6_widest_90 fu (D_X6_widest_33 fu n) v1 v2 v3 v4 v5 μ
      else
        (D_X5_layerAt_0 μ 4 v1 v5).bind fun x14 =>
        D_X6_widest_90 fu (D_X6_widest_33 fu n) v1 v2 x14 x12 v5 μ
set_option maxRecDepth 20000 in
theorem T_X6_widest_33 (G : GX) (fu : Nat)  (hG : gt G = tbl) : ∀ (n : Nat) (v1 : Int32) (v2 : Int32) (v3 : Int32) (v4 : Int32) (v5 : Int32) (μ : Mem) (r : ((Int32 ⊕ String) × Mem)) , D_X6_widest_33 fu n v1 v2 v3 v4 v5 μ = some r → V G mX6_widest 33 [some (.ref 0), some (.int v1), some (.int v2), some (.int v3), some (.int v4), some (.int v5), none] [] μ (ouI r.1) (r.2) := by
  intro n
  induction n with
  | zero =>
    intro v1 v2 v3 v4 v5 μ r h
    exact nomatch (show (none : Option ((Int32 ⊕ String) × Mem)) = some r from h)
  | succ n ih =>
    intro v1 v2 v3 v4 v5 μ r h
    rw [D_X6_widest_33] at h
    refine V_iload dX6_widest_33 rfl ?_
    refine V_aload_n dX6_widest_35 rfl ?_
    refine V_getR (kf := 1) k_X6 (by decide) lk_RX6_19 rfl dX6_widest_36 (tq_0 hG) rfl ?_
    refine V_getR (kf := 0) k_X0 (by decide) lk_RX6_51 rfl dX6_widest_39 (tq_3 hG) rfl ?_
    refine V_getR (kf := 11) k_X5 (by decide) lk_RX6_193 rfl dX6_widest_42 (tq_4 hG) rfl ?_
    refine V_iload_n dX6_widest_45 rfl ?_
    obtain ⟨g11, h⟩ := gu_o h
    refine V_iaload dX6_widest_46 (tq_16 hG) (ib_in g11) ?_
    by_cases c47 : (μ.1 16 (Int32.toNatClampNeg v1)) ≤ v5
    · rw [if_pos c47] at h
      refine V_icmpge_t (tgt := 96) dX6_widest_47 (by decide) c47 ?_
      refine V_iload_n dX6_widest_96 rfl ?_
      by_cases c97 : v2 = 0
      · rw [if_pos c97] at h
        refine V_ifne_f (tgt := 104) dX6_widest_97 (by decide) c97 ?_
        refine V_iload_n dX6_widest_100 rfl ?_
        refine V_goto (tgt := 106) dX6_widest_101 (by decide) ?_
        cases h
        exact V_iret rfl dX6_widest_106
      · rw [if_neg c97] at h
        refine V_ifne_t (tgt := 104) dX6_widest_97 (by decide) c97 ?_
        refine V_iload dX6_widest_104 rfl ?_
        cases h
        exact V_iret rfl dX6_widest_106
    · rw [if_neg c47] at h
      refine V_icmpge_f (tgt := 96) dX6_widest_47 (by decide) c47 ?_
      refine V_aload_n dX6_widest_50 rfl ?_
      refine V_getR (kf := 1) k_X6 (by decide) lk_RX6_19 rfl dX6_widest_51 (tq_0 hG) rfl ?_
      refine V_getR (kf := 0) k_X0 (by decide) lk_RX6_51 rfl dX6_widest_54 (tq_3 hG) rfl ?_
      refine V_iload_n dX6_widest_57 rfl ?_
      refine V_iload dX6_widest_58 rfl ?_
      obtain ⟨x12, y13, h⟩ := bi_o h
      refine V_callV (as := [.int v1, .int v5]) (q := 4) (rest := []) dX6_widest_60 ov_mX5_widthBelow lk_RX6_173 (by decide) (by decide) rfl rfl (Nat.le_of_ble_eq_true rfl) (tq_4 hG) rfl (VM_X5_widthBelow G μ 4 hG (Or.inl rfl) v1 v5 _ y13) ?_
      refine V_istore (lv2 := [some (.ref 0), some (.int v1), some (.int v2), some (.int v3), some (.int v4), some (.int v5), some (.int x12)]) dX6_widest_63 (by decide) rfl ?_
      refine V_iload dX6_widest_65 rfl ?_
      refine V_iload dX6_widest_67 rfl ?_
      by_cases c69 : x12 ≤ v4
      · rw [if_pos c69] at h
        refine V_icmple_t (tgt := 90) dX6_widest_69 (by decide) c69 ?_
        exact V_wk [true, true, true, true, true, true, false] rfl (T_X6_widest_90 G fu hG (D_X6_widest_33 fu n) ih _ _ _ _ _ _ _ h)
      · rw [if_neg c69] at h
        refine V_icmple_f (tgt := 90) dX6_widest_69 (by decide) c69 ?_
        refine V_aload_n dX6_widest_72 rfl ?_
        refine V_getR (kf := 1) k_X6 (by decide) lk_RX6_19 rfl dX6_widest_73 (tq_0 hG) rfl ?_
        refine V_getR (kf := 0) k_X0 (by decide) lk_RX6_51 rfl dX6_widest_76 (tq_3 hG) rfl ?_
        refine V_iload_n dX6_widest_79 rfl ?_
        refine V_iload dX6_widest_80 rfl ?_
        obtain ⟨x14, y15, h⟩ := bi_o h
        refine V_callV (as := [.int v1, .int v5]) (q := 4) (rest := []) dX6_widest_82 ov_mX5_layerAt lk_RX6_199 (by decide) (by decide) rfl rfl (Nat.le_of_ble_eq_true rfl) (tq_4 hG) rfl (VM_X5_layerAt G μ 4 hG (Or.inl rfl) v1 v5 _ y15) ?_
        refine V_istore_n (lv2 := [some (.ref 0), some (.int v1), some (.int v2), some (.int x14), some (.int v4), some (.int v5), some (.int x12)]) dX6_widest_85 (by decide) rfl ?_
        refine V_iload dX6_widest_86 rfl ?_
        refine V_istore (lv2 := [some (.ref 0), some (.int v1), some (.int v2), some (.int x14), some (.int x12), some (.int v5), some (.int x12)]) dX6_widest_88 (by decide) rfl ?_
        exact V_wk [true, true, true, true, true, true, false] rfl (T_X6_widest_90 G fu hG (D_X6_widest_33 fu n) ih _ _ _ _ _ _ _ h)
def D_X6_widest_22 (fu : Nat)  (v1 : Int32) (v2 : Int32) (s1 : Int32) (μ : Mem) : Option ((Int32 ⊕ String) × Mem) :=
  (D_X6_needRight_0 s1 μ).bind fun x5 =>
  tx x5 fun v7 m8 =>
  D_X6_widest_33 fu fu v1 v2 (-1) 0 0 m8
set_option maxRecDepth 20000 in
theorem T_X6_widest_22 (G : GX) (fu : Nat)  (hG : gt G = tbl) : ∀ (v1 : Int32) (v2 : Int32) (s1 : Int32) (μ : Mem) (r : ((Int32 ⊕ String) × Mem)) , D_X6_widest_22 fu v1 v2 s1 μ = some r → V G mX6_widest 22 [some (.ref 0), some (.int v1), some (.int v2), none, none, none, none] [.int s1, .ref 0] μ (ouI r.1) (r.2) := by
  intro v1 v2 s1 μ r h
  unfold D_X6_widest_22 at h
  obtain ⟨x5, y6, h⟩ := bi_o h
  have z9 := VM_X6_needRight G hG s1 μ _ y6
  rcases tx_o h with ⟨v7, q10, h⟩ | ⟨E, q10, h⟩
  · rw [q10] at z9
    generalize x5.2 = m8 at h z9
    refine V_callV (as := [.int s1]) (q := 0) (rest := []) dX6_widest_22 ov_mX6_needRight lk_RX6_47 (by decide) (by decide) rfl rfl (Nat.le_of_ble_eq_true rfl) (tq_0 hG) rfl (z9) ?_
    refine V_iconst (v := (-1)) dX6_widest_25 rfl ?_
    refine V_istore_n (lv2 := [some (.ref 0), some (.int v1), some (.int v2), some (.int (-1)), none, none, none]) dX6_widest_26 (by decide) rfl ?_
    refine V_iconst (v := 0) dX6_widest_27 rfl ?_
    refine V_istore (lv2 := [some (.ref 0), some (.int v1), some (.int v2), some (.int (-1)), some (.int 0), none, none]) dX6_widest_28 (by decide) rfl ?_
    refine V_iconst (v := 0) dX6_widest_30 rfl ?_
    refine V_istore (lv2 := [some (.ref 0), some (.int v1), some (.int v2), some (.int (-1)), some (.int 0), some (.int 0), none]) dX6_widest_31 (by decide) rfl ?_
    exact V_wk [true, true, true, true, true, true, false] rfl (T_X6_widest_33 G fu hG fu _ _ _ _ _ _ _ h)
  · rw [q10] at z9
    cases h
    exact V_callVX (as := [.int s1]) (q := 0) (rest := []) dX6_widest_22 rfl ov_mX6_needRight lk_RX6_47 (by decide) (by decide) rfl rfl (Nat.le_of_ble_eq_true rfl) (tq_0 hG) rfl (z9)
def D_X6_widest_21 (fu : Nat)  (v1 : Int32) (v2 : Int32) (μ : Mem) : Option ((Int32 ⊕ String) × Mem) :=
  D_X6_widest_22 fu v1 v2 0 μ
set_option maxRecDepth 20000 in
theorem T_X6_widest_21 (G : GX) (fu : Nat)  (hG : gt G = tbl) : ∀ (v1 : Int32) (v2 : Int32) (μ : Mem) (r : ((Int32 ⊕ String) × Mem)) , D_X6_widest_21 fu v1 v2 μ = some r → V G mX6_widest 21 [some (.ref 0), some (.int v1), some (.int v2), none, none, none, none] [.ref 0] μ (ouI r.1) (r.2) := by
  intro v1 v2 μ r h
  unfold D_X6_widest_21 at h
  refine V_iconst (v := 0) dX6_widest_21 rfl ?_
  exact V_wk [true, true, true, false, false, false, false] rfl (T_X6_widest_22 G fu hG _ _ _ _ _ h)
def D_X6_widest_0 (fu : Nat)  (a1 : Int32) (a2 : Int32) (μ : Mem) : Option ((Int32 ⊕ String) × Mem) :=
  (D_X6_isYear_0 μ a1).bind fun x1 =>
  if x1 = true then
    (D_X6_isWithin_0 μ a2 0 1).bind fun x3 =>
    if x3 = true then
      D_X6_widest_22 fu a1 a2 1 μ
    else
      D_X6_widest_21 fu a1 a2 μ
  else
    D_X6_widest_21 fu a1 a2 μ
set_option maxRecDepth 20000 in
theorem T_X6_widest_0 (G : GX) (fu : Nat)  (hG : gt G = tbl) : ∀ (a1 : Int32) (a2 : Int32) (μ : Mem) (r : ((Int32 ⊕ String) × Mem)) , D_X6_widest_0 fu a1 a2 μ = some r → V G mX6_widest 0 [some (.ref 0), some (.int a1), some (.int a2), none, none, none, none] [] μ (ouI r.1) (r.2) := by
  intro a1 a2 μ r h
  unfold D_X6_widest_0 at h
  refine V_aload_n dX6_widest_0 rfl ?_
  refine V_iload_n dX6_widest_1 rfl ?_
  obtain ⟨x1, y2, h⟩ := bi_o h
  refine V_callS (as := [.int a1]) (rest := [.ref 0]) dX6_widest_2 os_mX6_isYear rfl lk_RX6_37 (by decide) (by decide) rfl rfl (Nat.le_of_ble_eq_true rfl) (VM_X6_isYear G μ hG a1 _ y2) ?_
  by_cases c5 : x1 = true
  · rw [if_pos c5] at h
    refine V_ifeq_f (tgt := 21) dX6_widest_5 (by decide) (b2i_t.mp c5) ?_
    refine V_iload_n dX6_widest_8 rfl ?_
    refine V_iconst (v := 0) dX6_widest_9 rfl ?_
    refine V_iconst (v := 1) dX6_widest_10 rfl ?_
    obtain ⟨x3, y4, h⟩ := bi_o h
    refine V_callS (as := [.int a2, .int 0, .int 1]) (rest := [.ref 0]) dX6_widest_11 os_mX6_isWithin rfl lk_RX6_42 (by decide) (by decide) rfl rfl (Nat.le_of_ble_eq_true rfl) (VM_X6_isWithin G μ hG a2 0 1 _ y4) ?_
    by_cases c14 : x3 = true
    · rw [if_pos c14] at h
      refine V_ifeq_f (tgt := 21) dX6_widest_14 (by decide) (b2i_t.mp c14) ?_
      refine V_iconst (v := 1) dX6_widest_17 rfl ?_
      refine V_goto (tgt := 22) dX6_widest_18 (by decide) ?_
      exact V_wk [true, true, true, false, false, false, false] rfl (T_X6_widest_22 G fu hG _ _ _ _ _ h)
    · rw [if_neg c14] at h
      refine V_ifeq_t (tgt := 21) dX6_widest_14 (by decide) (b2i_f.mp c14) ?_
      exact V_wk [true, true, true, false, false, false, false] rfl (T_X6_widest_21 G fu hG _ _ _ _ h)
  · rw [if_neg c5] at h
    refine V_ifeq_t (tgt := 21) dX6_widest_5 (by decide) (b2i_f.mp c5) ?_
    exact V_wk [true, true, true, false, false, false, false] rfl (T_X6_widest_21 G fu hG _ _ _ _ h)
theorem VM_X6_widest (G : GX) (fu : Nat)  (hG : gt G = tbl) (a1 : Int32) (a2 : Int32) (μ : Mem) (r : ((Int32 ⊕ String) × Mem)) (h : D_X6_widest_0 fu a1 a2 μ = some r) : VM G mX6_widest [.ref 0, .int a1, .int a2] μ (ouI r.1) (r.2) := V_entry ok_mX6_widest rfl rfl (Nat.le_of_ble_eq_true rfl) (T_X6_widest_0 G fu hG a1 a2 μ r h)
def D_X6_strongest_51 (fu : Nat)  (k17 : Int32 → Int32 → Int64 → Int32 → Mem → Option ((Int64 ⊕ String) × Mem)) (v1 : Int32) (v2 : Int32) (v3 : Int64) (v5 : Int32) (μ : Mem) : Option ((Int64 ⊕ String) × Mem) :=
  k17 v1 v2 v3 (v5 + 1) μ
set_option maxRecDepth 20000 in
theorem T_X6_strongest_51 (G : GX) (fu : Nat)  (hG : gt G = tbl) (k17 : Int32 → Int32 → Int64 → Int32 → Mem → Option ((Int64 ⊕ String) × Mem)) (hk17 : ∀ (v1 : Int32) (v2 : Int32) (v3 : Int64) (v5 : Int32) (μ : Mem) (r : ((Int64 ⊕ String) × Mem)), k17 v1 v2 v3 v5 μ = some r → V G mX6_strongest 17 [some (.ref 0), some (.int v1), some (.int v2), some (.long v3), none, some (.int v5), none, none] [] μ (ouL r.1) (r.2)) : ∀ (v1 : Int32) (v2 : Int32) (v3 : Int64) (v5 : Int32) (μ : Mem) (r : ((Int64 ⊕ String) × Mem)) , D_X6_strongest_51 fu k17 v1 v2 v3 v5 μ = some r → V G mX6_strongest 51 [some (.ref 0), some (.int v1), some (.int v2), some (.long v3), none, some (.int v5), none, none] [] μ (ouL r.1) (r.2) := by
  intro v1 v2 v3 v5 μ r h
  unfold D_X6_strongest_51 at h
  refine V_iinc (v := v5 + 1) (lv2 := [some (.ref 0), some (.int v1), some (.int v2), some (.long v3), none, some (.int (v5 + 1)), none, none]) dX6_strongest_51 rfl rfl (by decide) rfl ?_
  refine V_goto (tgt := 17) dX6_strongest_54 (by decide) ?_
  exact V_wk [true, true, true, true, false, true, false, false] rfl (hk17 _ _ _ _ _ _ h)
def D_X6_strongest_17 (fu : Nat)  : Nat → Int32 → Int32 → Int64 → Int32 → Mem → Option ((Int64 ⊕ String) × Mem)
  | 0, _, _, _, _, _ => none
  | n + 1, v1, v2, v3, v5, μ =>
    if (12 : Int32) ≤ v5 then
      if v1 = 0 then
        some (.inl ((v2 : Int32).toInt64), μ)
      else
        some (.inl v3, μ)
    else
      (D_X5_leftIn_0 fu μ 4 v5).bind fun x9 =>
      if x9 ≤ v3 then
        D_X6_strongest_51 fu (D_X6_strongest_17 fu n) v1 v2 v3 v5 μ
      else
        D_X6_strongest_51 fu (D_X6_strongest_17 fu n) v1 v5 x9 v5 μ
set_option maxRecDepth 20000 in
theorem T_X6_strongest_17 (G : GX) (fu : Nat)  (hG : gt G = tbl) : ∀ (n : Nat) (v1 : Int32) (v2 : Int32) (v3 : Int64) (v5 : Int32) (μ : Mem) (r : ((Int64 ⊕ String) × Mem)) , D_X6_strongest_17 fu n v1 v2 v3 v5 μ = some r → V G mX6_strongest 17 [some (.ref 0), some (.int v1), some (.int v2), some (.long v3), none, some (.int v5), none, none] [] μ (ouL r.1) (r.2) := by
  intro n
  induction n with
  | zero =>
    intro v1 v2 v3 v5 μ r h
    exact nomatch (show (none : Option ((Int64 ⊕ String) × Mem)) = some r from h)
  | succ n ih =>
    intro v1 v2 v3 v5 μ r h
    rw [D_X6_strongest_17] at h
    refine V_iload dX6_strongest_17 rfl ?_
    refine V_bipush (v := 12) dX6_strongest_19 rfl ?_
    by_cases c21 : (12 : Int32) ≤ v5
    · rw [if_pos c21] at h
      refine V_icmpge_t (tgt := 57) dX6_strongest_21 (by decide) c21 ?_
      refine V_iload_n dX6_strongest_57 rfl ?_
      by_cases c58 : v1 = 0
      · rw [if_pos c58] at h
        refine V_ifne_f (tgt := 66) dX6_strongest_58 (by decide) c58 ?_
        refine V_iload_n dX6_strongest_61 rfl ?_
        refine V_i2l dX6_strongest_62 ?_
        refine V_goto (tgt := 67) dX6_strongest_63 (by decide) ?_
        cases h
        exact V_lret rfl dX6_strongest_67
      · rw [if_neg c58] at h
        refine V_ifne_t (tgt := 66) dX6_strongest_58 (by decide) c58 ?_
        refine V_lload_n dX6_strongest_66 rfl ?_
        cases h
        exact V_lret rfl dX6_strongest_67
    · rw [if_neg c21] at h
      refine V_icmpge_f (tgt := 57) dX6_strongest_21 (by decide) c21 ?_
      refine V_aload_n dX6_strongest_24 rfl ?_
      refine V_getR (kf := 1) k_X6 (by decide) lk_RX6_19 rfl dX6_strongest_25 (tq_0 hG) rfl ?_
      refine V_getR (kf := 0) k_X0 (by decide) lk_RX6_51 rfl dX6_strongest_28 (tq_3 hG) rfl ?_
      refine V_iload dX6_strongest_31 rfl ?_
      obtain ⟨x9, y10, h⟩ := bi_o h
      refine V_callV (as := [.int v5]) (q := 4) (rest := []) dX6_strongest_33 ov_mX5_leftIn lk_RX6_211 (by decide) (by decide) rfl rfl (Nat.le_of_ble_eq_true rfl) (tq_4 hG) rfl (VM_X5_leftIn G fu μ 4 hG (Or.inl rfl) v5 _ y10) ?_
      refine V_lstore (lv2 := [some (.ref 0), some (.int v1), some (.int v2), some (.long v3), none, some (.int v5), some (.long x9), none]) dX6_strongest_36 (by decide) rfl ?_
      refine V_lload dX6_strongest_38 rfl ?_
      refine V_lload_n dX6_strongest_40 rfl ?_
      refine V_lcmp dX6_strongest_41 ?_
      by_cases c42 : x9 ≤ v3
      · rw [if_pos c42] at h
        refine V_ifle_t (tgt := 51) dX6_strongest_42 (by decide) ((lc_le x9 v3).mpr c42) ?_
        exact V_wk [true, true, true, true, false, true, false, false] rfl (T_X6_strongest_51 G fu hG (D_X6_strongest_17 fu n) ih _ _ _ _ _ _ h)
      · rw [if_neg c42] at h
        refine V_ifle_f (tgt := 51) dX6_strongest_42 (by decide) (fun z => c42 ((lc_le x9 v3).mp z)) ?_
        refine V_iload dX6_strongest_45 rfl ?_
        refine V_istore_n (lv2 := [some (.ref 0), some (.int v1), some (.int v5), some (.long v3), none, some (.int v5), some (.long x9), none]) dX6_strongest_47 (by decide) rfl ?_
        refine V_lload dX6_strongest_48 rfl ?_
        refine V_lstore_n (lv2 := [some (.ref 0), some (.int v1), some (.int v5), some (.long x9), none, some (.int v5), some (.long x9), none]) dX6_strongest_50 (by decide) rfl ?_
        exact V_wk [true, true, true, true, false, true, false, false] rfl (T_X6_strongest_51 G fu hG (D_X6_strongest_17 fu n) ih _ _ _ _ _ _ h)
def D_X6_strongest_0 (fu : Nat)  (a1 : Int32) (μ : Mem) : Option ((Int64 ⊕ String) × Mem) :=
  (D_X6_isWithin_0 μ a1 0 1).bind fun x1 =>
  (D_X6_needRight_0 (b2i x1) μ).bind fun x3 =>
  tx x3 fun v5 m6 =>
  D_X6_strongest_17 fu fu a1 (-1) 0 0 m6
set_option maxRecDepth 20000 in
theorem T_X6_strongest_0 (G : GX) (fu : Nat)  (hG : gt G = tbl) : ∀ (a1 : Int32) (μ : Mem) (r : ((Int64 ⊕ String) × Mem)) , D_X6_strongest_0 fu a1 μ = some r → V G mX6_strongest 0 [some (.ref 0), some (.int a1), none, none, none, none, none, none] [] μ (ouL r.1) (r.2) := by
  intro a1 μ r h
  unfold D_X6_strongest_0 at h
  refine V_aload_n dX6_strongest_0 rfl ?_
  refine V_iload_n dX6_strongest_1 rfl ?_
  refine V_iconst (v := 0) dX6_strongest_2 rfl ?_
  refine V_iconst (v := 1) dX6_strongest_3 rfl ?_
  obtain ⟨x1, y2, h⟩ := bi_o h
  refine V_callS (as := [.int a1, .int 0, .int 1]) (rest := [.ref 0]) dX6_strongest_4 os_mX6_isWithin rfl lk_RX6_42 (by decide) (by decide) rfl rfl (Nat.le_of_ble_eq_true rfl) (VM_X6_isWithin G μ hG a1 0 1 _ y2) ?_
  obtain ⟨x3, y4, h⟩ := bi_o h
  have z7 := VM_X6_needRight G hG (b2i x1) μ _ y4
  rcases tx_o h with ⟨v5, q8, h⟩ | ⟨E, q8, h⟩
  · rw [q8] at z7
    generalize x3.2 = m6 at h z7
    refine V_callV (as := [.int (b2i x1)]) (q := 0) (rest := []) dX6_strongest_7 ov_mX6_needRight lk_RX6_47 (by decide) (by decide) rfl rfl (Nat.le_of_ble_eq_true rfl) (tq_0 hG) rfl (z7) ?_
    refine V_iconst (v := (-1)) dX6_strongest_10 rfl ?_
    refine V_istore_n (lv2 := [some (.ref 0), some (.int a1), some (.int (-1)), none, none, none, none, none]) dX6_strongest_11 (by decide) rfl ?_
    refine V_lconst (v := 0) dX6_strongest_12 rfl ?_
    refine V_lstore_n (lv2 := [some (.ref 0), some (.int a1), some (.int (-1)), some (.long 0), none, none, none, none]) dX6_strongest_13 (by decide) rfl ?_
    refine V_iconst (v := 0) dX6_strongest_14 rfl ?_
    refine V_istore (lv2 := [some (.ref 0), some (.int a1), some (.int (-1)), some (.long 0), none, some (.int 0), none, none]) dX6_strongest_15 (by decide) rfl ?_
    exact V_wk [true, true, true, true, false, true, false, false] rfl (T_X6_strongest_17 G fu hG fu _ _ _ _ _ _ h)
  · rw [q8] at z7
    cases h
    exact V_callVX (as := [.int (b2i x1)]) (q := 0) (rest := []) dX6_strongest_7 rfl ov_mX6_needRight lk_RX6_47 (by decide) (by decide) rfl rfl (Nat.le_of_ble_eq_true rfl) (tq_0 hG) rfl (z7)
theorem VM_X6_strongest (G : GX) (fu : Nat)  (hG : gt G = tbl) (a1 : Int32) (μ : Mem) (r : ((Int64 ⊕ String) × Mem)) (h : D_X6_strongest_0 fu a1 μ = some r) : VM G mX6_strongest [.ref 0, .int a1] μ (ouL r.1) (r.2) := V_entry ok_mX6_strongest rfl rfl (Nat.le_of_ble_eq_true rfl) (T_X6_strongest_0 G fu hG a1 μ r h)
def D_X6_holds_27 (fu : Nat)  (v1 : Int32) (v2 : Int32) (v3 : Int32) (s1 : Int32) (μ : Mem) : Option ((Int32 ⊕ String) × Mem) :=
  (D_X6_needRight_0 s1 μ).bind fun x7 =>
  tx x7 fun v9 m10 =>
  (D_X5_layerAtHeight_0 fu m10 4 v2 v3).bind fun x13 =>
  if x13 < 0 then
    some (.inl 0, m10)
  else
    (D_X5_tenthsBy_0 fu m10 4 x13 v1).bind fun x15 =>
    some (.inl x15, m10)
set_option maxRecDepth 20000 in
theorem T_X6_holds_27 (G : GX) (fu : Nat)  (hG : gt G = tbl) : ∀ (v1 : Int32) (v2 : Int32) (v3 : Int32) (s1 : Int32) (μ : Mem) (r : ((Int32 ⊕ String) × Mem)) , D_X6_holds_27 fu v1 v2 v3 s1 μ = some r → V G mX6_holds 27 [some (.ref 0), some (.int v1), some (.int v2), some (.int v3), none] [.int s1, .ref 0] μ (ouI r.1) (r.2) := by
  intro v1 v2 v3 s1 μ r h
  unfold D_X6_holds_27 at h
  obtain ⟨x7, y8, h⟩ := bi_o h
  have z11 := VM_X6_needRight G hG s1 μ _ y8
  rcases tx_o h with ⟨v9, q12, h⟩ | ⟨E, q12, h⟩
  · rw [q12] at z11
    generalize x7.2 = m10 at h z11
    refine V_callV (as := [.int s1]) (q := 0) (rest := []) dX6_holds_27 ov_mX6_needRight lk_RX6_47 (by decide) (by decide) rfl rfl (Nat.le_of_ble_eq_true rfl) (tq_0 hG) rfl (z11) ?_
    refine V_aload_n dX6_holds_30 rfl ?_
    refine V_getR (kf := 1) k_X6 (by decide) lk_RX6_19 rfl dX6_holds_31 (tq_0 hG) rfl ?_
    refine V_getR (kf := 0) k_X0 (by decide) lk_RX6_51 rfl dX6_holds_34 (tq_3 hG) rfl ?_
    refine V_iload_n dX6_holds_37 rfl ?_
    refine V_iload_n dX6_holds_38 rfl ?_
    obtain ⟨x13, y14, h⟩ := bi_o h
    refine V_callV (as := [.int v2, .int v3]) (q := 4) (rest := []) dX6_holds_39 ov_mX5_layerAtHeight lk_RX6_217 (by decide) (by decide) rfl rfl (Nat.le_of_ble_eq_true rfl) (tq_4 hG) rfl (VM_X5_layerAtHeight G fu m10 4 hG (Or.inl rfl) v2 v3 _ y14) ?_
    refine V_istore (lv2 := [some (.ref 0), some (.int v1), some (.int v2), some (.int v3), some (.int x13)]) dX6_holds_42 (by decide) rfl ?_
    refine V_iload dX6_holds_44 rfl ?_
    by_cases c46 : x13 < 0
    · rw [if_pos c46] at h
      refine V_iflt_t (tgt := 65) dX6_holds_46 (by decide) c46 ?_
      refine V_iconst (v := 0) dX6_holds_65 rfl ?_
      cases h
      exact V_iret rfl dX6_holds_66
    · rw [if_neg c46] at h
      refine V_iflt_f (tgt := 65) dX6_holds_46 (by decide) c46 ?_
      refine V_aload_n dX6_holds_49 rfl ?_
      refine V_getR (kf := 1) k_X6 (by decide) lk_RX6_19 rfl dX6_holds_50 (tq_0 hG) rfl ?_
      refine V_getR (kf := 0) k_X0 (by decide) lk_RX6_51 rfl dX6_holds_53 (tq_3 hG) rfl ?_
      refine V_iload dX6_holds_56 rfl ?_
      refine V_iload_n dX6_holds_58 rfl ?_
      obtain ⟨x15, y16, h⟩ := bi_o h
      refine V_callV (as := [.int x13, .int v1]) (q := 4) (rest := []) dX6_holds_59 ov_mX5_tenthsBy lk_RX6_357 (by decide) (by decide) rfl rfl (Nat.le_of_ble_eq_true rfl) (tq_4 hG) rfl (VM_X5_tenthsBy G fu m10 4 hG (Or.inl rfl) x13 v1 _ y16) ?_
      refine V_goto (tgt := 66) dX6_holds_62 (by decide) ?_
      cases h
      exact V_iret rfl dX6_holds_66
  · rw [q12] at z11
    cases h
    exact V_callVX (as := [.int s1]) (q := 0) (rest := []) dX6_holds_27 rfl ov_mX6_needRight lk_RX6_47 (by decide) (by decide) rfl rfl (Nat.le_of_ble_eq_true rfl) (tq_0 hG) rfl (z11)
def D_X6_holds_26 (fu : Nat)  (v1 : Int32) (v2 : Int32) (v3 : Int32) (μ : Mem) : Option ((Int32 ⊕ String) × Mem) :=
  D_X6_holds_27 fu v1 v2 v3 0 μ
set_option maxRecDepth 20000 in
theorem T_X6_holds_26 (G : GX) (fu : Nat)  (hG : gt G = tbl) : ∀ (v1 : Int32) (v2 : Int32) (v3 : Int32) (μ : Mem) (r : ((Int32 ⊕ String) × Mem)) , D_X6_holds_26 fu v1 v2 v3 μ = some r → V G mX6_holds 26 [some (.ref 0), some (.int v1), some (.int v2), some (.int v3), none] [.ref 0] μ (ouI r.1) (r.2) := by
  intro v1 v2 v3 μ r h
  unfold D_X6_holds_26 at h
  refine V_iconst (v := 0) dX6_holds_26 rfl ?_
  exact V_wk [true, true, true, true, false] rfl (T_X6_holds_27 G fu hG _ _ _ _ _ _ h)
def D_X6_holds_0 (fu : Nat)  (a1 : Int32) (a2 : Int32) (a3 : Int32) (μ : Mem) : Option ((Int32 ⊕ String) × Mem) :=
  (D_X6_isInsurer_0 μ a1).bind fun x1 =>
  if x1 = true then
    (D_X6_isYear_0 μ a2).bind fun x3 =>
    if x3 = true then
      (D_X6_isHeight_0 μ a3).bind fun x5 =>
      if x5 = true then
        D_X6_holds_27 fu a1 a2 a3 1 μ
      else
        D_X6_holds_26 fu a1 a2 a3 μ
    else
      D_X6_holds_26 fu a1 a2 a3 μ
  else
    D_X6_holds_26 fu a1 a2 a3 μ
set_option maxRecDepth 20000 in
theorem T_X6_holds_0 (G : GX) (fu : Nat)  (hG : gt G = tbl) : ∀ (a1 : Int32) (a2 : Int32) (a3 : Int32) (μ : Mem) (r : ((Int32 ⊕ String) × Mem)) , D_X6_holds_0 fu a1 a2 a3 μ = some r → V G mX6_holds 0 [some (.ref 0), some (.int a1), some (.int a2), some (.int a3), none] [] μ (ouI r.1) (r.2) := by
  intro a1 a2 a3 μ r h
  unfold D_X6_holds_0 at h
  refine V_aload_n dX6_holds_0 rfl ?_
  refine V_iload_n dX6_holds_1 rfl ?_
  obtain ⟨x1, y2, h⟩ := bi_o h
  refine V_callS (as := [.int a1]) (rest := [.ref 0]) dX6_holds_2 os_mX6_isInsurer rfl lk_RX6_74 (by decide) (by decide) rfl rfl (Nat.le_of_ble_eq_true rfl) (VM_X6_isInsurer G μ hG a1 _ y2) ?_
  by_cases c5 : x1 = true
  · rw [if_pos c5] at h
    refine V_ifeq_f (tgt := 26) dX6_holds_5 (by decide) (b2i_t.mp c5) ?_
    refine V_iload_n dX6_holds_8 rfl ?_
    obtain ⟨x3, y4, h⟩ := bi_o h
    refine V_callS (as := [.int a2]) (rest := [.ref 0]) dX6_holds_9 os_mX6_isYear rfl lk_RX6_37 (by decide) (by decide) rfl rfl (Nat.le_of_ble_eq_true rfl) (VM_X6_isYear G μ hG a2 _ y4) ?_
    by_cases c12 : x3 = true
    · rw [if_pos c12] at h
      refine V_ifeq_f (tgt := 26) dX6_holds_12 (by decide) (b2i_t.mp c12) ?_
      refine V_iload_n dX6_holds_15 rfl ?_
      obtain ⟨x5, y6, h⟩ := bi_o h
      refine V_callS (as := [.int a3]) (rest := [.ref 0]) dX6_holds_16 os_mX6_isHeight rfl lk_RX6_214 (by decide) (by decide) rfl rfl (Nat.le_of_ble_eq_true rfl) (VM_X6_isHeight G μ hG a3 _ y6) ?_
      by_cases c19 : x5 = true
      · rw [if_pos c19] at h
        refine V_ifeq_f (tgt := 26) dX6_holds_19 (by decide) (b2i_t.mp c19) ?_
        refine V_iconst (v := 1) dX6_holds_22 rfl ?_
        refine V_goto (tgt := 27) dX6_holds_23 (by decide) ?_
        exact V_wk [true, true, true, true, false] rfl (T_X6_holds_27 G fu hG _ _ _ _ _ _ h)
      · rw [if_neg c19] at h
        refine V_ifeq_t (tgt := 26) dX6_holds_19 (by decide) (b2i_f.mp c19) ?_
        exact V_wk [true, true, true, true, false] rfl (T_X6_holds_26 G fu hG _ _ _ _ _ h)
    · rw [if_neg c12] at h
      refine V_ifeq_t (tgt := 26) dX6_holds_12 (by decide) (b2i_f.mp c12) ?_
      exact V_wk [true, true, true, true, false] rfl (T_X6_holds_26 G fu hG _ _ _ _ _ h)
  · rw [if_neg c5] at h
    refine V_ifeq_t (tgt := 26) dX6_holds_5 (by decide) (b2i_f.mp c5) ?_
    exact V_wk [true, true, true, true, false] rfl (T_X6_holds_26 G fu hG _ _ _ _ _ h)
theorem VM_X6_holds (G : GX) (fu : Nat)  (hG : gt G = tbl) (a1 : Int32) (a2 : Int32) (a3 : Int32) (μ : Mem) (r : ((Int32 ⊕ String) × Mem)) (h : D_X6_holds_0 fu a1 a2 a3 μ = some r) : VM G mX6_holds [.ref 0, .int a1, .int a2, .int a3] μ (ouI r.1) (r.2) := V_entry ok_mX6_holds rfl rfl (Nat.le_of_ble_eq_true rfl) (T_X6_holds_0 G fu hG a1 a2 a3 μ r h)
def D_X6_spent_38 (fu : Nat) (μ : Mem)  (k4 : Int64 → Int32 → Option Int64) (v1 : Int64) (v3 : Int32) : Option Int64 :=
  k4 v1 (v3 + 1)
set_option maxRecDepth 20000 in
theorem T_X6_spent_38 (G : GX) (fu : Nat) (μ : Mem)  (hG : gt G = tbl) (k4 : Int64 → Int32 → Option Int64) (hk4 : ∀ (v1 : Int64) (v3 : Int32) (r : Int64), k4 v1 v3 = some r → V G mX6_spent 4 [some (.ref 0), some (.long v1), none, some (.int v3)] [] μ (.inl (some (.long r))) (μ)) : ∀ (v1 : Int64) (v3 : Int32) (r : Int64) , D_X6_spent_38 fu μ k4 v1 v3 = some r → V G mX6_spent 38 [some (.ref 0), some (.long v1), none, some (.int v3)] [] μ (.inl (some (.long r))) (μ) := by
  intro v1 v3 r h
  unfold D_X6_spent_38 at h
  refine V_iinc (v := v3 + 1) (lv2 := [some (.ref 0), some (.long v1), none, some (.int (v3 + 1))]) dX6_spent_38 rfl rfl (by decide) rfl ?_
  refine V_goto (tgt := 4) dX6_spent_41 (by decide) ?_
  exact V_wk [true, true, false, true] rfl (hk4 _ _ _ h)
def D_X6_spent_4 (fu : Nat) (μ : Mem)  : Nat → Int64 → Int32 → Option Int64
  | 0, _, _ => none
  | n + 1, v1, v3 =>
    if (μ.1 4 13) ≤ v3 then
      some v1
    else
      (D_X5_isUsedUp_0 μ 4 v3).bind fun x1 =>
      if x1 = true then
        vl (v1 ||| ((1 : Int64) <<< ((v3 : Int32).toInt64 &&& 63)) : Int64) fun x3 =>
        D_X6_spent_38 fu μ (D_X6_spent_4 fu μ n) x3 v3
      else
        D_X6_spent_38 fu μ (D_X6_spent_4 fu μ n) v1 v3
set_option maxRecDepth 20000 in
theorem T_X6_spent_4 (G : GX) (fu : Nat) (μ : Mem)  (hG : gt G = tbl) : ∀ (n : Nat) (v1 : Int64) (v3 : Int32) (r : Int64) , D_X6_spent_4 fu μ n v1 v3 = some r → V G mX6_spent 4 [some (.ref 0), some (.long v1), none, some (.int v3)] [] μ (.inl (some (.long r))) (μ) := by
  intro n
  induction n with
  | zero =>
    intro v1 v3 r h
    exact nomatch (show (none : Option Int64) = some r from h)
  | succ n ih =>
    intro v1 v3 r h
    rw [D_X6_spent_4] at h
    refine V_iload_n dX6_spent_4 rfl ?_
    refine V_aload_n dX6_spent_5 rfl ?_
    refine V_getR (kf := 1) k_X6 (by decide) lk_RX6_19 rfl dX6_spent_6 (tq_0 hG) rfl ?_
    refine V_getR (kf := 0) k_X0 (by decide) lk_RX6_51 rfl dX6_spent_9 (tq_3 hG) rfl ?_
    refine V_getI (kf := 13) k_X5 (by decide) lk_RX6_55 rfl dX6_spent_12 (tq_4 hG) rfl ?_
    by_cases c15 : (μ.1 4 13) ≤ v3
    · rw [if_pos c15] at h
      refine V_icmpge_t (tgt := 44) dX6_spent_15 (by decide) c15 ?_
      refine V_lload_n dX6_spent_44 rfl ?_
      cases h
      exact V_lret rfl dX6_spent_45
    · rw [if_neg c15] at h
      refine V_icmpge_f (tgt := 44) dX6_spent_15 (by decide) c15 ?_
      refine V_aload_n dX6_spent_18 rfl ?_
      refine V_getR (kf := 1) k_X6 (by decide) lk_RX6_19 rfl dX6_spent_19 (tq_0 hG) rfl ?_
      refine V_getR (kf := 0) k_X0 (by decide) lk_RX6_51 rfl dX6_spent_22 (tq_3 hG) rfl ?_
      refine V_iload_n dX6_spent_25 rfl ?_
      obtain ⟨x1, y2, h⟩ := bi_o h
      refine V_callV (as := [.int v3]) (q := 4) (rest := []) dX6_spent_26 ov_mX5_isUsedUp lk_RX6_179 (by decide) (by decide) rfl rfl (Nat.le_of_ble_eq_true rfl) (tq_4 hG) rfl (VM_X5_isUsedUp G μ 4 hG (Or.inl rfl) v3 _ y2) ?_
      by_cases c29 : x1 = true
      · rw [if_pos c29] at h
        refine V_ifeq_f (tgt := 38) dX6_spent_29 (by decide) (b2i_t.mp c29) ?_
        refine V_lload_n dX6_spent_32 rfl ?_
        refine V_lconst (v := 1) dX6_spent_33 rfl ?_
        refine V_iload_n dX6_spent_34 rfl ?_
        refine V_lshl dX6_spent_35 ?_
        refine V_lor dX6_spent_36 ?_
        obtain ⟨x3, e4, h⟩ := vl_o h
        refine V_topl e4 ?_
        refine V_lstore_n (lv2 := [some (.ref 0), some (.long x3), none, some (.int v3)]) dX6_spent_37 (by decide) rfl ?_
        exact V_wk [true, true, false, true] rfl (T_X6_spent_38 G fu μ hG (D_X6_spent_4 fu μ n) ih _ _ _ h)
      · rw [if_neg c29] at h
        refine V_ifeq_t (tgt := 38) dX6_spent_29 (by decide) (b2i_f.mp c29) ?_
        exact V_wk [true, true, false, true] rfl (T_X6_spent_38 G fu μ hG (D_X6_spent_4 fu μ n) ih _ _ _ h)
def D_X6_spent_0 (fu : Nat) (μ : Mem)  : Option Int64 :=
  D_X6_spent_4 fu μ fu 0 0
set_option maxRecDepth 20000 in
theorem T_X6_spent_0 (G : GX) (fu : Nat) (μ : Mem)  (hG : gt G = tbl) : ∀ (r : Int64) , D_X6_spent_0 fu μ = some r → V G mX6_spent 0 [some (.ref 0), none, none, none] [] μ (.inl (some (.long r))) (μ) := by
  intro r h
  unfold D_X6_spent_0 at h
  refine V_lconst (v := 0) dX6_spent_0 rfl ?_
  refine V_lstore_n (lv2 := [some (.ref 0), some (.long 0), none, none]) dX6_spent_1 (by decide) rfl ?_
  refine V_iconst (v := 0) dX6_spent_2 rfl ?_
  refine V_istore_n (lv2 := [some (.ref 0), some (.long 0), none, some (.int 0)]) dX6_spent_3 (by decide) rfl ?_
  exact V_wk [true, true, false, true] rfl (T_X6_spent_4 G fu μ hG fu _ _ _ h)
theorem VM_X6_spent (G : GX) (fu : Nat) (μ : Mem)  (hG : gt G = tbl) (r : Int64) (h : D_X6_spent_0 fu μ = some r) : VM G mX6_spent [.ref 0] μ (.inl (some (.long r))) (μ) := V_entry ok_mX6_spent rfl rfl (Nat.le_of_ble_eq_true rfl) (T_X6_spent_0 G fu μ hG r h)
def D_X6_status_0 (μ : Mem)  (a1 : Int32) : Option Int32 :=
  (D_X6_isWithin_0 μ a1 0 2).bind fun x1 =>
  if x1 = true then
    gu (ib a1 3) <|
    some (μ.1 84 (Int32.toNatClampNeg a1))
  else
    some (-1)
set_option maxRecDepth 20000 in
theorem T_X6_status_0 (G : GX) (μ : Mem)  (hG : gt G = tbl) : ∀ (a1 : Int32) (r : Int32) , D_X6_status_0 μ a1 = some r → V G mX6_status 0 [some (.ref 0), some (.int a1)] [] μ (.inl (some (.int r))) (μ) := by
  intro a1 r h
  unfold D_X6_status_0 at h
  refine V_iload_n dX6_status_0 rfl ?_
  refine V_iconst (v := 0) dX6_status_1 rfl ?_
  refine V_iconst (v := 2) dX6_status_2 rfl ?_
  obtain ⟨x1, y2, h⟩ := bi_o h
  refine V_callS (as := [.int a1, .int 0, .int 2]) (rest := []) dX6_status_3 os_mX6_isWithin rfl lk_RX6_42 (by decide) (by decide) rfl rfl (Nat.le_of_ble_eq_true rfl) (VM_X6_isWithin G μ hG a1 0 2 _ y2) ?_
  by_cases c6 : x1 = true
  · rw [if_pos c6] at h
    refine V_ifeq_f (tgt := 18) dX6_status_6 (by decide) (b2i_t.mp c6) ?_
    refine V_aload_n dX6_status_9 rfl ?_
    refine V_getR (kf := 4) k_X6 (by decide) lk_RX6_33 rfl dX6_status_10 (tq_0 hG) rfl ?_
    refine V_iload_n dX6_status_13 rfl ?_
    obtain ⟨g3, h⟩ := gu_o h
    refine V_iaload dX6_status_14 (tq_84 hG) (ib_in g3) ?_
    refine V_goto (tgt := 19) dX6_status_15 (by decide) ?_
    cases h
    exact V_iret rfl dX6_status_19
  · rw [if_neg c6] at h
    refine V_ifeq_t (tgt := 18) dX6_status_6 (by decide) (b2i_f.mp c6) ?_
    refine V_iconst (v := (-1)) dX6_status_18 rfl ?_
    cases h
    exact V_iret rfl dX6_status_19
theorem VM_X6_status (G : GX) (μ : Mem)  (hG : gt G = tbl) (a1 : Int32) (r : Int32) (h : D_X6_status_0 μ a1 = some r) : VM G mX6_status [.ref 0, .int a1] μ (.inl (some (.int r))) (μ) := V_entry ok_mX6_status rfl rfl (Nat.le_of_ble_eq_true rfl) (T_X6_status_0 G μ hG a1 r h)
