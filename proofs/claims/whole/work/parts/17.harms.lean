def D_X1_clear_2 (fu : Nat) (t : Nat) : Nat → Int32 → Mem → Option Mem
  | 0, _, _ => none
  | n + 1, v1, μ =>
    if (24 : Int32) ≤ v1 then
      vl (wI μ t 12 0) fun m1 =>
      some m1
    else
      gu (ib v1 24) <|
      vl (wI μ (t + 1) (Int32.toNatClampNeg v1) 0) fun m4 =>
      (D_X1_clear_2 fu t n) (v1 + 1) m4
set_option maxRecDepth 20000 in
theorem T_X1_clear_2 (G : GX) (fu : Nat) (t : Nat) (hG : gt G = tbl) (ht : IsX1 t) : ∀ (n : Nat) (v1 : Int32) (μ : Mem) (r : Mem) , D_X1_clear_2 fu t n v1 μ = some r → V G mX1_clear 2 [some (.ref t), some (.int v1)] [] μ (.inl none) (r) := by
  intro n
  induction n with
  | zero =>
    intro v1 μ r h
    exact nomatch (show (none : Option Mem) = some r from h)
  | succ n ih =>
    intro v1 μ r h
    rw [D_X1_clear_2] at h
    refine V_iload_n dX1_clear_2 rfl ?_
    refine V_bipush (v := 24) dX1_clear_3 rfl ?_
    by_cases c5 : (24 : Int32) ≤ v1
    · rw [if_pos c5] at h
      refine V_icmpge_t (tgt := 21) dX1_clear_5 (by decide) c5 ?_
      refine V_aload_n dX1_clear_21 rfl ?_
      refine V_iconst (v := 0) dX1_clear_22 rfl ?_
      obtain ⟨m1, e2, h⟩ := vl_o h
      refine V_putI (kf := 12) k_X1 (by decide) lk_RX1_50 rfl rfl (by decide +kernel) dX1_clear_23 (tq_X1_0 hG ht) rfl e2.symm ?_
      cases h
      exact V_vret rfl dX1_clear_26
    · rw [if_neg c5] at h
      refine V_icmpge_f (tgt := 21) dX1_clear_5 (by decide) c5 ?_
      refine V_aload_n dX1_clear_8 rfl ?_
      refine V_getR (kf := 0) k_X1 (by decide) lk_RX1_9 rfl dX1_clear_9 (tq_X1_0 hG ht) rfl ?_
      refine V_iload_n dX1_clear_12 rfl ?_
      refine V_iconst (v := 0) dX1_clear_13 rfl ?_
      obtain ⟨g3, h⟩ := gu_o h
      obtain ⟨m4, e5, h⟩ := vl_o h
      refine V_bastore (μ2 := m4) dX1_clear_14 (tq_X1_1 hG ht) (ib_in g3) (by rw [nar_boolV (by decide)]; exact e5.symm) ?_
      refine V_iinc (v := v1 + 1) (lv2 := [some (.ref t), some (.int (v1 + 1))]) dX1_clear_15 rfl rfl (by decide) rfl ?_
      refine V_goto (tgt := 2) dX1_clear_18 (by decide) ?_
      exact V_wk [true, true] rfl (ih _ _ _ h)
def D_X1_clear_0 (fu : Nat) (t : Nat) (μ : Mem) : Option Mem :=
  D_X1_clear_2 fu t fu 0 μ
set_option maxRecDepth 20000 in
theorem T_X1_clear_0 (G : GX) (fu : Nat) (t : Nat) (hG : gt G = tbl) (ht : IsX1 t) : ∀ (μ : Mem) (r : Mem) , D_X1_clear_0 fu t μ = some r → V G mX1_clear 0 [some (.ref t), none] [] μ (.inl none) (r) := by
  intro μ r h
  unfold D_X1_clear_0 at h
  refine V_iconst (v := 0) dX1_clear_0 rfl ?_
  refine V_istore_n (lv2 := [some (.ref t), some (.int 0)]) dX1_clear_1 (by decide) rfl ?_
  exact V_wk [true, true] rfl (T_X1_clear_2 G fu t hG ht fu _ _ _ h)
theorem VM_X1_clear (G : GX) (fu : Nat) (t : Nat) (hG : gt G = tbl) (ht : IsX1 t) (μ : Mem) (r : Mem) (h : D_X1_clear_0 fu t μ = some r) : VM G mX1_clear [.ref t] μ (.inl none) (r) := V_entry ok_mX1_clear rfl rfl (Nat.le_of_ble_eq_true rfl) (T_X1_clear_0 G fu t hG ht μ r h)
def D_X1_clearRow_2 (fu : Nat) (r0 : Nat) (n0 : Nat) : Nat → Int32 → Int32 → Int32 → Mem → Option Mem
  | 0, _, _, _, _ => none
  | n + 1, v1, v2, v3, μ =>
    if v2 ≤ v3 then
      some μ
    else
      gu (ib ((v1 * v2) + v3) n0) <|
      vl (wL μ r0 (Int32.toNatClampNeg ((v1 * v2) + v3)) 0) fun m2 =>
      (D_X1_clearRow_2 fu r0 n0 n) v1 v2 (v3 + 1) m2
set_option maxRecDepth 20000 in
theorem T_X1_clearRow_2 (G : GX) (fu : Nat) (r0 : Nat) (n0 : Nat) (hG : gt G = tbl) (h0 : (gt G)[r0]? = some (.inl (1, n0))) : ∀ (n : Nat) (v1 : Int32) (v2 : Int32) (v3 : Int32) (μ : Mem) (r : Mem) , D_X1_clearRow_2 fu r0 n0 n v1 v2 v3 μ = some r → V G mX1_clearRow 2 [some (.ref r0), some (.int v1), some (.int v2), some (.int v3)] [] μ (.inl none) (r) := by
  intro n
  induction n with
  | zero =>
    intro v1 v2 v3 μ r h
    exact nomatch (show (none : Option Mem) = some r from h)
  | succ n ih =>
    intro v1 v2 v3 μ r h
    rw [D_X1_clearRow_2] at h
    refine V_iload_n dX1_clearRow_2 rfl ?_
    refine V_iload_n dX1_clearRow_3 rfl ?_
    by_cases c4 : v2 ≤ v3
    · rw [if_pos c4] at h
      refine V_icmpge_t (tgt := 21) dX1_clearRow_4 (by decide) c4 ?_
      cases h
      exact V_vret rfl dX1_clearRow_21
    · rw [if_neg c4] at h
      refine V_icmpge_f (tgt := 21) dX1_clearRow_4 (by decide) c4 ?_
      refine V_aload_n dX1_clearRow_7 rfl ?_
      refine V_iload_n dX1_clearRow_8 rfl ?_
      refine V_iload_n dX1_clearRow_9 rfl ?_
      refine V_imul dX1_clearRow_10 ?_
      refine V_iload_n dX1_clearRow_11 rfl ?_
      refine V_iadd dX1_clearRow_12 ?_
      refine V_lconst (v := 0) dX1_clearRow_13 rfl ?_
      obtain ⟨g1, h⟩ := gu_o h
      obtain ⟨m2, e3, h⟩ := vl_o h
      refine V_lastore (μ2 := m2) dX1_clearRow_14 h0 (ib_in g1) e3.symm ?_
      refine V_iinc (v := v3 + 1) (lv2 := [some (.ref r0), some (.int v1), some (.int v2), some (.int (v3 + 1))]) dX1_clearRow_15 rfl rfl (by decide) rfl ?_
      refine V_goto (tgt := 2) dX1_clearRow_18 (by decide) ?_
      exact V_wk [true, true, true, true] rfl (ih _ _ _ _ _ h)
def D_X1_clearRow_0 (fu : Nat) (r0 : Nat) (n0 : Nat) (a1 : Int32) (a2 : Int32) (μ : Mem) : Option Mem :=
  D_X1_clearRow_2 fu r0 n0 fu a1 a2 0 μ
set_option maxRecDepth 20000 in
theorem T_X1_clearRow_0 (G : GX) (fu : Nat) (r0 : Nat) (n0 : Nat) (hG : gt G = tbl) (h0 : (gt G)[r0]? = some (.inl (1, n0))) : ∀ (a1 : Int32) (a2 : Int32) (μ : Mem) (r : Mem) , D_X1_clearRow_0 fu r0 n0 a1 a2 μ = some r → V G mX1_clearRow 0 [some (.ref r0), some (.int a1), some (.int a2), none] [] μ (.inl none) (r) := by
  intro a1 a2 μ r h
  unfold D_X1_clearRow_0 at h
  refine V_iconst (v := 0) dX1_clearRow_0 rfl ?_
  refine V_istore_n (lv2 := [some (.ref r0), some (.int a1), some (.int a2), some (.int 0)]) dX1_clearRow_1 (by decide) rfl ?_
  exact V_wk [true, true, true, true] rfl (T_X1_clearRow_2 G fu r0 n0 hG h0 fu _ _ _ _ _ h)
theorem VM_X1_clearRow (G : GX) (fu : Nat) (r0 : Nat) (n0 : Nat) (hG : gt G = tbl) (h0 : (gt G)[r0]? = some (.inl (1, n0))) (a1 : Int32) (a2 : Int32) (μ : Mem) (r : Mem) (h : D_X1_clearRow_0 fu r0 n0 a1 a2 μ = some r) : VM G mX1_clearRow [.ref r0, .int a1, .int a2] μ (.inl none) (r) := V_entry ok_mX1_clearRow rfl rfl (Nat.le_of_ble_eq_true rfl) (T_X1_clearRow_0 G fu r0 n0 hG h0 a1 a2 μ r h)
def D_X1_clearRows_0 (fu : Nat) (t : Nat) (a1 : Int32) (μ : Mem) : Option Mem :=
  (D_X1_clearRow_0 fu (t + 7) 1000 a1 40 μ).bind fun x1 =>
  (D_X1_clearRow_0 fu (t + 8) 1000 a1 40 x1).bind fun x3 =>
  (D_X1_clearRow_0 fu (t + 9) 960 a1 40 x3).bind fun x5 =>
  (D_X1_clearRow_0 fu (t + 10) 3840 a1 160 x5).bind fun x7 =>
  (D_X1_clearRow_0 fu (t + 11) 240 a1 10 x7).bind fun x9 =>
  (D_X1_clearRow_0 fu (t + 12) 168 a1 7 x9).bind fun x11 =>
  some x11
set_option maxRecDepth 20000 in
theorem T_X1_clearRows_0 (G : GX) (fu : Nat) (t : Nat) (hG : gt G = tbl) (ht : IsX1 t) : ∀ (a1 : Int32) (μ : Mem) (r : Mem) , D_X1_clearRows_0 fu t a1 μ = some r → V G mX1_clearRows 0 [some (.ref t), some (.int a1)] [] μ (.inl none) (r) := by
  intro a1 μ r h
  unfold D_X1_clearRows_0 at h
  refine V_aload_n dX1_clearRows_0 rfl ?_
  refine V_getR (kf := 6) k_X1 (by decide) lk_RX1_32 rfl dX1_clearRows_1 (tq_X1_0 hG ht) rfl ?_
  refine V_iload_n dX1_clearRows_4 rfl ?_
  refine V_bipush (v := 40) dX1_clearRows_5 rfl ?_
  obtain ⟨x1, y2, h⟩ := bi_o h
  refine V_callS (as := [.ref (t + 7), .int a1, .int 40]) (rest := []) dX1_clearRows_7 os_mX1_clearRow rfl lk_RX1_64 (by decide) (by decide) rfl rfl (Nat.le_of_ble_eq_true rfl) (VM_X1_clearRow G fu (t + 7) 1000 hG (tq_X1_7 hG ht) a1 40 μ _ y2) ?_
  refine V_aload_n dX1_clearRows_10 rfl ?_
  refine V_getR (kf := 7) k_X1 (by decide) lk_RX1_35 rfl dX1_clearRows_11 (tq_X1_0 hG ht) rfl ?_
  refine V_iload_n dX1_clearRows_14 rfl ?_
  refine V_bipush (v := 40) dX1_clearRows_15 rfl ?_
  obtain ⟨x3, y4, h⟩ := bi_o h
  refine V_callS (as := [.ref (t + 8), .int a1, .int 40]) (rest := []) dX1_clearRows_17 os_mX1_clearRow rfl lk_RX1_64 (by decide) (by decide) rfl rfl (Nat.le_of_ble_eq_true rfl) (VM_X1_clearRow G fu (t + 8) 1000 hG (tq_X1_8 hG ht) a1 40 x1 _ y4) ?_
  refine V_aload_n dX1_clearRows_20 rfl ?_
  refine V_getR (kf := 8) k_X1 (by decide) lk_RX1_38 rfl dX1_clearRows_21 (tq_X1_0 hG ht) rfl ?_
  refine V_iload_n dX1_clearRows_24 rfl ?_
  refine V_bipush (v := 40) dX1_clearRows_25 rfl ?_
  obtain ⟨x5, y6, h⟩ := bi_o h
  refine V_callS (as := [.ref (t + 9), .int a1, .int 40]) (rest := []) dX1_clearRows_27 os_mX1_clearRow rfl lk_RX1_64 (by decide) (by decide) rfl rfl (Nat.le_of_ble_eq_true rfl) (VM_X1_clearRow G fu (t + 9) 960 hG (tq_X1_9 hG ht) a1 40 x3 _ y6) ?_
  refine V_aload_n dX1_clearRows_30 rfl ?_
  refine V_getR (kf := 9) k_X1 (by decide) lk_RX1_41 rfl dX1_clearRows_31 (tq_X1_0 hG ht) rfl ?_
  refine V_iload_n dX1_clearRows_34 rfl ?_
  refine V_sipush (v := 160) dX1_clearRows_35 rfl ?_
  obtain ⟨x7, y8, h⟩ := bi_o h
  refine V_callS (as := [.ref (t + 10), .int a1, .int 160]) (rest := []) dX1_clearRows_38 os_mX1_clearRow rfl lk_RX1_64 (by decide) (by decide) rfl rfl (Nat.le_of_ble_eq_true rfl) (VM_X1_clearRow G fu (t + 10) 3840 hG (tq_X1_10 hG ht) a1 160 x5 _ y8) ?_
  refine V_aload_n dX1_clearRows_41 rfl ?_
  refine V_getR (kf := 10) k_X1 (by decide) lk_RX1_44 rfl dX1_clearRows_42 (tq_X1_0 hG ht) rfl ?_
  refine V_iload_n dX1_clearRows_45 rfl ?_
  refine V_bipush (v := 10) dX1_clearRows_46 rfl ?_
  obtain ⟨x9, y10, h⟩ := bi_o h
  refine V_callS (as := [.ref (t + 11), .int a1, .int 10]) (rest := []) dX1_clearRows_48 os_mX1_clearRow rfl lk_RX1_64 (by decide) (by decide) rfl rfl (Nat.le_of_ble_eq_true rfl) (VM_X1_clearRow G fu (t + 11) 240 hG (tq_X1_11 hG ht) a1 10 x7 _ y10) ?_
  refine V_aload_n dX1_clearRows_51 rfl ?_
  refine V_getR (kf := 11) k_X1 (by decide) lk_RX1_47 rfl dX1_clearRows_52 (tq_X1_0 hG ht) rfl ?_
  refine V_iload_n dX1_clearRows_55 rfl ?_
  refine V_bipush (v := 7) dX1_clearRows_56 rfl ?_
  obtain ⟨x11, y12, h⟩ := bi_o h
  refine V_callS (as := [.ref (t + 12), .int a1, .int 7]) (rest := []) dX1_clearRows_58 os_mX1_clearRow rfl lk_RX1_64 (by decide) (by decide) rfl rfl (Nat.le_of_ble_eq_true rfl) (VM_X1_clearRow G fu (t + 12) 168 hG (tq_X1_12 hG ht) a1 7 x9 _ y12) ?_
  cases h
  exact V_vret rfl dX1_clearRows_61
theorem VM_X1_clearRows (G : GX) (fu : Nat) (t : Nat) (hG : gt G = tbl) (ht : IsX1 t) (a1 : Int32) (μ : Mem) (r : Mem) (h : D_X1_clearRows_0 fu t a1 μ = some r) : VM G mX1_clearRows [.ref t, .int a1] μ (.inl none) (r) := V_entry ok_mX1_clearRows rfl rfl (Nat.le_of_ble_eq_true rfl) (T_X1_clearRows_0 G fu t hG ht a1 μ r h)
def D_X1_put_0 (fu : Nat) (t : Nat) (a1 : Int32) (a2 : Int32) (a3 : Int32) (a4 : Int32) (a5 : Int32) (μ : Mem) : Option (Bool × Mem) :=
  if a1 < (24 : Int32) then
    gu (ib a1 24) <|
    vl (wI μ (t + 1) (Int32.toNatClampNeg a1) 1) fun m2 =>
    gu (ib a1 24) <|
    vl (wI m2 (t + 2) (Int32.toNatClampNeg a1) a2) fun m5 =>
    gu (ib a1 24) <|
    vl (wI m5 (t + 3) (Int32.toNatClampNeg a1) a3) fun m8 =>
    gu (ib a1 24) <|
    vl (wI m8 (t + 4) (Int32.toNatClampNeg a1) a4) fun m11 =>
    gu (ib a1 24) <|
    vl (wL m11 (t + 5) (Int32.toNatClampNeg a1) ((a5 : Int32).toInt64)) fun m14 =>
    gu (ib a1 24) <|
    vl (wI m14 (t + 6) (Int32.toNatClampNeg a1) 0) fun m17 =>
    (D_X1_clearRows_0 fu t a1 m17).bind fun x19 =>
    vl (wI x19 t 12 (if (x19.1 t 12) < (a1 + 1) then (a1 + 1) else (x19.1 t 12))) fun m21 =>
    some (true, m21)
  else
    some (false, μ)
set_option maxRecDepth 20000 in
theorem T_X1_put_0 (G : GX) (fu : Nat) (t : Nat) (hG : gt G = tbl) (ht : IsX1 t) : ∀ (a1 : Int32) (a2 : Int32) (a3 : Int32) (a4 : Int32) (a5 : Int32) (μ : Mem) (r : (Bool × Mem)) , D_X1_put_0 fu t a1 a2 a3 a4 a5 μ = some r → V G mX1_put 0 [some (.ref t), some (.int a1), some (.int a2), some (.int a3), some (.int a4), some (.int a5)] [] μ (.inl (some (.int (b2i r.1)))) (r.2) := by
  intro a1 a2 a3 a4 a5 μ r h
  unfold D_X1_put_0 at h
  refine V_iload_n dX1_put_0 rfl ?_
  refine V_bipush (v := 24) dX1_put_1 rfl ?_
  by_cases c3 : a1 < (24 : Int32)
  · rw [if_pos c3] at h
    refine V_icmplt_t (tgt := 8) dX1_put_3 (by decide) c3 ?_
    refine V_aload_n dX1_put_8 rfl ?_
    refine V_getR (kf := 0) k_X1 (by decide) lk_RX1_9 rfl dX1_put_9 (tq_X1_0 hG ht) rfl ?_
    refine V_iload_n dX1_put_12 rfl ?_
    refine V_iconst (v := 1) dX1_put_13 rfl ?_
    obtain ⟨g1, h⟩ := gu_o h
    obtain ⟨m2, e3, h⟩ := vl_o h
    refine V_bastore (μ2 := m2) dX1_put_14 (tq_X1_1 hG ht) (ib_in g1) (by rw [nar_boolV (by decide)]; exact e3.symm) ?_
    refine V_aload_n dX1_put_15 rfl ?_
    refine V_getR (kf := 1) k_X1 (by decide) lk_RX1_15 rfl dX1_put_16 (tq_X1_0 hG ht) rfl ?_
    refine V_iload_n dX1_put_19 rfl ?_
    refine V_iload_n dX1_put_20 rfl ?_
    obtain ⟨g4, h⟩ := gu_o h
    obtain ⟨m5, e6, h⟩ := vl_o h
    refine V_iastore (μ2 := m5) dX1_put_21 (tq_X1_2 hG ht) (ib_in g4) e6.symm ?_
    refine V_aload_n dX1_put_22 rfl ?_
    refine V_getR (kf := 2) k_X1 (by decide) lk_RX1_19 rfl dX1_put_23 (tq_X1_0 hG ht) rfl ?_
    refine V_iload_n dX1_put_26 rfl ?_
    refine V_iload_n dX1_put_27 rfl ?_
    obtain ⟨g7, h⟩ := gu_o h
    obtain ⟨m8, e9, h⟩ := vl_o h
    refine V_iastore (μ2 := m8) dX1_put_28 (tq_X1_3 hG ht) (ib_in g7) e9.symm ?_
    refine V_aload_n dX1_put_29 rfl ?_
    refine V_getR (kf := 3) k_X1 (by decide) lk_RX1_22 rfl dX1_put_30 (tq_X1_0 hG ht) rfl ?_
    refine V_iload_n dX1_put_33 rfl ?_
    refine V_iload dX1_put_34 rfl ?_
    obtain ⟨g10, h⟩ := gu_o h
    obtain ⟨m11, e12, h⟩ := vl_o h
    refine V_iastore (μ2 := m11) dX1_put_36 (tq_X1_4 hG ht) (ib_in g10) e12.symm ?_
    refine V_aload_n dX1_put_37 rfl ?_
    refine V_getR (kf := 4) k_X1 (by decide) lk_RX1_25 rfl dX1_put_38 (tq_X1_0 hG ht) rfl ?_
    refine V_iload_n dX1_put_41 rfl ?_
    refine V_iload dX1_put_42 rfl ?_
    refine V_i2l dX1_put_44 ?_
    obtain ⟨g13, h⟩ := gu_o h
    obtain ⟨m14, e15, h⟩ := vl_o h
    refine V_lastore (μ2 := m14) dX1_put_45 (tq_X1_5 hG ht) (ib_in g13) e15.symm ?_
    refine V_aload_n dX1_put_46 rfl ?_
    refine V_getR (kf := 5) k_X1 (by decide) lk_RX1_29 rfl dX1_put_47 (tq_X1_0 hG ht) rfl ?_
    refine V_iload_n dX1_put_50 rfl ?_
    refine V_iconst (v := 0) dX1_put_51 rfl ?_
    obtain ⟨g16, h⟩ := gu_o h
    obtain ⟨m17, e18, h⟩ := vl_o h
    refine V_iastore (μ2 := m17) dX1_put_52 (tq_X1_6 hG ht) (ib_in g16) e18.symm ?_
    refine V_aload_n dX1_put_53 rfl ?_
    refine V_iload_n dX1_put_54 rfl ?_
    obtain ⟨x19, y20, h⟩ := bi_o h
    refine V_callV (as := [.int a1]) (q := t) (rest := []) dX1_put_55 ov_mX1_clearRows lk_RX1_54 (by decide) (by decide) rfl rfl (Nat.le_of_ble_eq_true rfl) (tq_X1_0 hG ht) rfl (VM_X1_clearRows G fu t hG ht a1 m17 _ y20) ?_
    refine V_aload_n dX1_put_58 rfl ?_
    refine V_aload_n dX1_put_59 rfl ?_
    refine V_getI (kf := 12) k_X1 (by decide) lk_RX1_50 rfl dX1_put_60 (tq_X1_0 hG ht) rfl ?_
    refine V_iload_n dX1_put_63 rfl ?_
    refine V_iconst (v := 1) dX1_put_64 rfl ?_
    refine V_iadd dX1_put_65 ?_
    refine V_mmaxI dX1_put_66 lk_RX1_58 ma_maxI_s ma_maxI_c in_java_lang_Math (by decide) (Nat.le_of_ble_eq_true rfl) ?_
    obtain ⟨m21, e22, h⟩ := vl_o h
    refine V_putI (kf := 12) k_X1 (by decide) lk_RX1_50 rfl rfl (by decide +kernel) dX1_put_69 (tq_X1_0 hG ht) rfl e22.symm ?_
    refine V_iconst (v := 1) dX1_put_72 rfl ?_
    cases h
    exact V_zret rfl (by decide) dX1_put_73
  · rw [if_neg c3] at h
    refine V_icmplt_f (tgt := 8) dX1_put_3 (by decide) c3 ?_
    refine V_iconst (v := 0) dX1_put_6 rfl ?_
    cases h
    exact V_zret rfl (by decide) dX1_put_7
theorem VM_X1_put (G : GX) (fu : Nat) (t : Nat) (hG : gt G = tbl) (ht : IsX1 t) (a1 : Int32) (a2 : Int32) (a3 : Int32) (a4 : Int32) (a5 : Int32) (μ : Mem) (r : (Bool × Mem)) (h : D_X1_put_0 fu t a1 a2 a3 a4 a5 μ = some r) : VM G mX1_put [.ref t, .int a1, .int a2, .int a3, .int a4, .int a5] μ (.inl (some (.int (b2i r.1)))) (r.2) := V_entry ok_mX1_put rfl rfl (Nat.le_of_ble_eq_true rfl) (T_X1_put_0 G fu t hG ht a1 a2 a3 a4 a5 μ r h)
def D_X1_addLoss_0 (t : Nat) (a1 : Int32) (a2 : Int32) (μ : Mem) : Option (Bool × Mem) :=
  gu (ib a1 24) <|
  if (μ.1 (t + 1) (Int32.toNatClampNeg a1)) = 0 then
    some (false, μ)
  else
    gu (ib a1 24) <|
    gu (ib a1 24) <|
    vl (wL μ (t + 5) (Int32.toNatClampNeg a1) ((μ.2.1 (t + 5) (Int32.toNatClampNeg a1)) + ((a2 : Int32).toInt64))) fun m4 =>
    gu (ib a1 24) <|
    gu (ib a1 24) <|
    vl (wI m4 (t + 6) (Int32.toNatClampNeg a1) ((m4.1 (t + 6) (Int32.toNatClampNeg a1)) + 1)) fun m8 =>
    some (true, m8)
set_option maxRecDepth 20000 in
theorem T_X1_addLoss_0 (G : GX) (t : Nat) (hG : gt G = tbl) (ht : IsX1 t) : ∀ (a1 : Int32) (a2 : Int32) (μ : Mem) (r : (Bool × Mem)) , D_X1_addLoss_0 t a1 a2 μ = some r → V G mX1_addLoss 0 [some (.ref t), some (.int a1), some (.int a2)] [] μ (.inl (some (.int (b2i r.1)))) (r.2) := by
  intro a1 a2 μ r h
  unfold D_X1_addLoss_0 at h
  refine V_aload_n dX1_addLoss_0 rfl ?_
  refine V_getR (kf := 0) k_X1 (by decide) lk_RX1_9 rfl dX1_addLoss_1 (tq_X1_0 hG ht) rfl ?_
  refine V_iload_n dX1_addLoss_4 rfl ?_
  obtain ⟨g1, h⟩ := gu_o h
  refine V_baload dX1_addLoss_5 (tq_X1_1 hG ht) (ib_in g1) ?_
  by_cases c6 : (μ.1 (t + 1) (Int32.toNatClampNeg a1)) = 0
  · rw [if_pos c6] at h
    refine V_ifne_f (tgt := 11) dX1_addLoss_6 (by decide) c6 ?_
    refine V_iconst (v := 0) dX1_addLoss_9 rfl ?_
    cases h
    exact V_zret rfl (by decide) dX1_addLoss_10
  · rw [if_neg c6] at h
    refine V_ifne_t (tgt := 11) dX1_addLoss_6 (by decide) c6 ?_
    refine V_aload_n dX1_addLoss_11 rfl ?_
    refine V_getR (kf := 4) k_X1 (by decide) lk_RX1_25 rfl dX1_addLoss_12 (tq_X1_0 hG ht) rfl ?_
    refine V_iload_n dX1_addLoss_15 rfl ?_
    refine V_dup2 dX1_addLoss_16 rfl rfl ?_
    obtain ⟨g2, h⟩ := gu_o h
    refine V_laload dX1_addLoss_17 (tq_X1_5 hG ht) (ib_in g2) ?_
    refine V_iload_n dX1_addLoss_18 rfl ?_
    refine V_i2l dX1_addLoss_19 ?_
    refine V_ladd dX1_addLoss_20 ?_
    obtain ⟨g3, h⟩ := gu_o h
    obtain ⟨m4, e5, h⟩ := vl_o h
    refine V_lastore (μ2 := m4) dX1_addLoss_21 (tq_X1_5 hG ht) (ib_in g3) e5.symm ?_
    refine V_aload_n dX1_addLoss_22 rfl ?_
    refine V_getR (kf := 5) k_X1 (by decide) lk_RX1_29 rfl dX1_addLoss_23 (tq_X1_0 hG ht) rfl ?_
    refine V_iload_n dX1_addLoss_26 rfl ?_
    refine V_dup2 dX1_addLoss_27 rfl rfl ?_
    obtain ⟨g6, h⟩ := gu_o h
    refine V_iaload dX1_addLoss_28 (tq_X1_6 hG ht) (ib_in g6) ?_
    refine V_iconst (v := 1) dX1_addLoss_29 rfl ?_
    refine V_iadd dX1_addLoss_30 ?_
    obtain ⟨g7, h⟩ := gu_o h
    obtain ⟨m8, e9, h⟩ := vl_o h
    refine V_iastore (μ2 := m8) dX1_addLoss_31 (tq_X1_6 hG ht) (ib_in g7) e9.symm ?_
    refine V_iconst (v := 1) dX1_addLoss_32 rfl ?_
    cases h
    exact V_zret rfl (by decide) dX1_addLoss_33
theorem VM_X1_addLoss (G : GX) (t : Nat) (hG : gt G = tbl) (ht : IsX1 t) (a1 : Int32) (a2 : Int32) (μ : Mem) (r : (Bool × Mem)) (h : D_X1_addLoss_0 t a1 a2 μ = some r) : VM G mX1_addLoss [.ref t, .int a1, .int a2] μ (.inl (some (.int (b2i r.1)))) (r.2) := V_entry ok_mX1_addLoss rfl rfl (Nat.le_of_ble_eq_true rfl) (T_X1_addLoss_0 G t hG ht a1 a2 μ r h)
def D_X1_borneOf_0 (μ : Mem) (t : Nat) (a1 : Int32) (a2 : Int32) : Option Int64 :=
  gu (ib ((a1 * 10) + a2) 240) <|
  some (μ.2.1 (t + 11) (Int32.toNatClampNeg ((a1 * 10) + a2)))
set_option maxRecDepth 20000 in
theorem T_X1_borneOf_0 (G : GX) (μ : Mem) (t : Nat) (hG : gt G = tbl) (ht : IsX1 t) : ∀ (a1 : Int32) (a2 : Int32) (r : Int64) , D_X1_borneOf_0 μ t a1 a2 = some r → V G mX1_borneOf 0 [some (.ref t), some (.int a1), some (.int a2)] [] μ (.inl (some (.long r))) (μ) := by
  intro a1 a2 r h
  unfold D_X1_borneOf_0 at h
  refine V_aload_n dX1_borneOf_0 rfl ?_
  refine V_getR (kf := 10) k_X1 (by decide) lk_RX1_44 rfl dX1_borneOf_1 (tq_X1_0 hG ht) rfl ?_
  refine V_iload_n dX1_borneOf_4 rfl ?_
  refine V_bipush (v := 10) dX1_borneOf_5 rfl ?_
  refine V_imul dX1_borneOf_7 ?_
  refine V_iload_n dX1_borneOf_8 rfl ?_
  refine V_iadd dX1_borneOf_9 ?_
  obtain ⟨g1, h⟩ := gu_o h
  refine V_laload dX1_borneOf_10 (tq_X1_11 hG ht) (ib_in g1) ?_
  cases h
  exact V_lret rfl dX1_borneOf_11
theorem VM_X1_borneOf (G : GX) (μ : Mem) (t : Nat) (hG : gt G = tbl) (ht : IsX1 t) (a1 : Int32) (a2 : Int32) (r : Int64) (h : D_X1_borneOf_0 μ t a1 a2 = some r) : VM G mX1_borneOf [.ref t, .int a1, .int a2] μ (.inl (some (.long r))) (μ) := V_entry ok_mX1_borneOf rfl rfl (Nat.le_of_ble_eq_true rfl) (T_X1_borneOf_0 G μ t hG ht a1 a2 r h)
def D_X1_borneInAll_34 (fu : Nat) (μ : Mem) (t : Nat) (k5 : Int32 → Int64 → Int32 → Option Int64) (v1 : Int32) (v2 : Int64) (v4 : Int32) : Option Int64 :=
  k5 v1 v2 (v4 + 1)
set_option maxRecDepth 20000 in
theorem T_X1_borneInAll_34 (G : GX) (fu : Nat) (μ : Mem) (t : Nat) (hG : gt G = tbl) (ht : IsX1 t) (k5 : Int32 → Int64 → Int32 → Option Int64) (hk5 : ∀ (v1 : Int32) (v2 : Int64) (v4 : Int32) (r : Int64), k5 v1 v2 v4 = some r → V G mX1_borneInAll 5 [some (.ref t), some (.int v1), some (.long v2), none, some (.int v4)] [] μ (.inl (some (.long r))) (μ)) : ∀ (v1 : Int32) (v2 : Int64) (v4 : Int32) (r : Int64) , D_X1_borneInAll_34 fu μ t k5 v1 v2 v4 = some r → V G mX1_borneInAll 34 [some (.ref t), some (.int v1), some (.long v2), none, some (.int v4)] [] μ (.inl (some (.long r))) (μ) := by
  intro v1 v2 v4 r h
  unfold D_X1_borneInAll_34 at h
  refine V_iinc (v := v4 + 1) (lv2 := [some (.ref t), some (.int v1), some (.long v2), none, some (.int (v4 + 1))]) dX1_borneInAll_34 rfl rfl (by decide) rfl ?_
  refine V_goto (tgt := 5) dX1_borneInAll_37 (by decide) ?_
  exact V_wk [true, true, true, false, true] rfl (hk5 _ _ _ _ h)
def D_X1_borneInAll_5 (fu : Nat) (μ : Mem) (t : Nat) : Nat → Int32 → Int64 → Int32 → Option Int64
  | 0, _, _, _ => none
  | n + 1, v1, v2, v4 =>
    if (μ.1 t 12) ≤ v4 then
      some v2
    else
      gu (ib v4 24) <|
      if (μ.1 (t + 1) (Int32.toNatClampNeg v4)) = 0 then
        D_X1_borneInAll_34 fu μ t (D_X1_borneInAll_5 fu μ t n) v1 v2 v4
      else
        (D_X1_borneOf_0 μ t v4 v1).bind fun x2 =>
        D_X1_borneInAll_34 fu μ t (D_X1_borneInAll_5 fu μ t n) v1 (v2 + x2) v4
set_option maxRecDepth 20000 in
theorem T_X1_borneInAll_5 (G : GX) (fu : Nat) (μ : Mem) (t : Nat) (hG : gt G = tbl) (ht : IsX1 t) : ∀ (n : Nat) (v1 : Int32) (v2 : Int64) (v4 : Int32) (r : Int64) , D_X1_borneInAll_5 fu μ t n v1 v2 v4 = some r → V G mX1_borneInAll 5 [some (.ref t), some (.int v1), some (.long v2), none, some (.int v4)] [] μ (.inl (some (.long r))) (μ) := by
  intro n
  induction n with
  | zero =>
    intro v1 v2 v4 r h
    exact nomatch (show (none : Option Int64) = some r from h)
  | succ n ih =>
    intro v1 v2 v4 r h
    rw [D_X1_borneInAll_5] at h
    refine V_iload dX1_borneInAll_5 rfl ?_
    refine V_aload_n dX1_borneInAll_7 rfl ?_
    refine V_getI (kf := 12) k_X1 (by decide) lk_RX1_50 rfl dX1_borneInAll_8 (tq_X1_0 hG ht) rfl ?_
    by_cases c11 : (μ.1 t 12) ≤ v4
    · rw [if_pos c11] at h
      refine V_icmpge_t (tgt := 40) dX1_borneInAll_11 (by decide) c11 ?_
      refine V_lload_n dX1_borneInAll_40 rfl ?_
      cases h
      exact V_lret rfl dX1_borneInAll_41
    · rw [if_neg c11] at h
      refine V_icmpge_f (tgt := 40) dX1_borneInAll_11 (by decide) c11 ?_
      refine V_aload_n dX1_borneInAll_14 rfl ?_
      refine V_getR (kf := 0) k_X1 (by decide) lk_RX1_9 rfl dX1_borneInAll_15 (tq_X1_0 hG ht) rfl ?_
      refine V_iload dX1_borneInAll_18 rfl ?_
      obtain ⟨g1, h⟩ := gu_o h
      refine V_baload dX1_borneInAll_20 (tq_X1_1 hG ht) (ib_in g1) ?_
      by_cases c21 : (μ.1 (t + 1) (Int32.toNatClampNeg v4)) = 0
      · rw [if_pos c21] at h
        refine V_ifeq_t (tgt := 34) dX1_borneInAll_21 (by decide) c21 ?_
        exact V_wk [true, true, true, false, true] rfl (T_X1_borneInAll_34 G fu μ t hG ht (D_X1_borneInAll_5 fu μ t n) ih _ _ _ _ h)
      · rw [if_neg c21] at h
        refine V_ifeq_f (tgt := 34) dX1_borneInAll_21 (by decide) c21 ?_
        refine V_lload_n dX1_borneInAll_24 rfl ?_
        refine V_aload_n dX1_borneInAll_25 rfl ?_
        refine V_iload dX1_borneInAll_26 rfl ?_
        refine V_iload_n dX1_borneInAll_28 rfl ?_
        obtain ⟨x2, y3, h⟩ := bi_o h
        refine V_callV (as := [.int v4, .int v1]) (q := t) (rest := [.long v2]) dX1_borneInAll_29 ov_mX1_borneOf lk_RX1_68 (by decide) (by decide) rfl rfl (Nat.le_of_ble_eq_true rfl) (tq_X1_0 hG ht) rfl (VM_X1_borneOf G μ t hG ht v4 v1 _ y3) ?_
        refine V_ladd dX1_borneInAll_32 ?_
        refine V_lstore_n (lv2 := [some (.ref t), some (.int v1), some (.long (v2 + x2)), none, some (.int v4)]) dX1_borneInAll_33 (by decide) rfl ?_
        exact V_wk [true, true, true, false, true] rfl (T_X1_borneInAll_34 G fu μ t hG ht (D_X1_borneInAll_5 fu μ t n) ih _ _ _ _ h)
def D_X1_borneInAll_0 (fu : Nat) (μ : Mem) (t : Nat) (a1 : Int32) : Option Int64 :=
  D_X1_borneInAll_5 fu μ t fu a1 0 0
set_option maxRecDepth 20000 in
theorem T_X1_borneInAll_0 (G : GX) (fu : Nat) (μ : Mem) (t : Nat) (hG : gt G = tbl) (ht : IsX1 t) : ∀ (a1 : Int32) (r : Int64) , D_X1_borneInAll_0 fu μ t a1 = some r → V G mX1_borneInAll 0 [some (.ref t), some (.int a1), none, none, none] [] μ (.inl (some (.long r))) (μ) := by
  intro a1 r h
  unfold D_X1_borneInAll_0 at h
  refine V_lconst (v := 0) dX1_borneInAll_0 rfl ?_
  refine V_lstore_n (lv2 := [some (.ref t), some (.int a1), some (.long 0), none, none]) dX1_borneInAll_1 (by decide) rfl ?_
  refine V_iconst (v := 0) dX1_borneInAll_2 rfl ?_
  refine V_istore (lv2 := [some (.ref t), some (.int a1), some (.long 0), none, some (.int 0)]) dX1_borneInAll_3 (by decide) rfl ?_
  exact V_wk [true, true, true, false, true] rfl (T_X1_borneInAll_5 G fu μ t hG ht fu _ _ _ _ h)
theorem VM_X1_borneInAll (G : GX) (fu : Nat) (μ : Mem) (t : Nat) (hG : gt G = tbl) (ht : IsX1 t) (a1 : Int32) (r : Int64) (h : D_X1_borneInAll_0 fu μ t a1 = some r) : VM G mX1_borneInAll [.ref t, .int a1] μ (.inl (some (.long r))) (μ) := V_entry ok_mX1_borneInAll rfl rfl (Nat.le_of_ble_eq_true rfl) (T_X1_borneInAll_0 G fu μ t hG ht a1 r h)
def D_X1_reasonInAll_39 (fu : Nat) (μ : Mem) (t : Nat) (k5 : Int32 → Int64 → Int32 → Option Int64) (v1 : Int32) (v2 : Int64) (v4 : Int32) : Option Int64 :=
  k5 v1 v2 (v4 + 1)
set_option maxRecDepth 20000 in
theorem T_X1_reasonInAll_39 (G : GX) (fu : Nat) (μ : Mem) (t : Nat) (hG : gt G = tbl) (ht : IsX1 t) (k5 : Int32 → Int64 → Int32 → Option Int64) (hk5 : ∀ (v1 : Int32) (v2 : Int64) (v4 : Int32) (r : Int64), k5 v1 v2 v4 = some r → V G mX1_reasonInAll 5 [some (.ref t), some (.int v1), some (.long v2), none, some (.int v4)] [] μ (.inl (some (.long r))) (μ)) : ∀ (v1 : Int32) (v2 : Int64) (v4 : Int32) (r : Int64) , D_X1_reasonInAll_39 fu μ t k5 v1 v2 v4 = some r → V G mX1_reasonInAll 39 [some (.ref t), some (.int v1), some (.long v2), none, some (.int v4)] [] μ (.inl (some (.long r))) (μ) := by
  intro v1 v2 v4 r h
  unfold D_X1_reasonInAll_39 at h
  refine V_iinc (v := v4 + 1) (lv2 := [some (.ref t), some (.int v1), some (.long v2), none, some (.int (v4 + 1))]) dX1_reasonInAll_39 rfl rfl (by decide) rfl ?_
  refine V_goto (tgt := 5) dX1_reasonInAll_42 (by decide) ?_
  exact V_wk [true, true, true, false, true] rfl (hk5 _ _ _ _ h)
def D_X1_reasonInAll_5 (fu : Nat) (μ : Mem) (t : Nat) : Nat → Int32 → Int64 → Int32 → Option Int64
  | 0, _, _, _ => none
  | n + 1, v1, v2, v4 =>
    if (μ.1 t 12) ≤ v4 then
      some v2
    else
      gu (ib v4 24) <|
      if (μ.1 (t + 1) (Int32.toNatClampNeg v4)) = 0 then
        D_X1_reasonInAll_39 fu μ t (D_X1_reasonInAll_5 fu μ t n) v1 v2 v4
      else
        gu (ib ((v4 * 7) + v1) 168) <|
        vl (v2 + (μ.2.1 (t + 12) (Int32.toNatClampNeg ((v4 * 7) + v1))) : Int64) fun x3 =>
        D_X1_reasonInAll_39 fu μ t (D_X1_reasonInAll_5 fu μ t n) v1 x3 v4
set_option maxRecDepth 20000 in
theorem T_X1_reasonInAll_5 (G : GX) (fu : Nat) (μ : Mem) (t : Nat) (hG : gt G = tbl) (ht : IsX1 t) : ∀ (n : Nat) (v1 : Int32) (v2 : Int64) (v4 : Int32) (r : Int64) , D_X1_reasonInAll_5 fu μ t n v1 v2 v4 = some r → V G mX1_reasonInAll 5 [some (.ref t), some (.int v1), some (.long v2), none, some (.int v4)] [] μ (.inl (some (.long r))) (μ) := by
  intro n
  induction n with
  | zero =>
    intro v1 v2 v4 r h
    exact nomatch (show (none : Option Int64) = some r from h)
  | succ n ih =>
    intro v1 v2 v4 r h
    rw [D_X1_reasonInAll_5] at h
    refine V_iload dX1_reasonInAll_5 rfl ?_
    refine V_aload_n dX1_reasonInAll_7 rfl ?_
    refine V_getI (kf := 12) k_X1 (by decide) lk_RX1_50 rfl dX1_reasonInAll_8 (tq_X1_0 hG ht) rfl ?_
    by_cases c11 : (μ.1 t 12) ≤ v4
    · rw [if_pos c11] at h
      refine V_icmpge_t (tgt := 45) dX1_reasonInAll_11 (by decide) c11 ?_
      refine V_lload_n dX1_reasonInAll_45 rfl ?_
      cases h
      exact V_lret rfl dX1_reasonInAll_46
    · rw [if_neg c11] at h
      refine V_icmpge_f (tgt := 45) dX1_reasonInAll_11 (by decide) c11 ?_
      refine V_aload_n dX1_reasonInAll_14 rfl ?_
      refine V_getR (kf := 0) k_X1 (by decide) lk_RX1_9 rfl dX1_reasonInAll_15 (tq_X1_0 hG ht) rfl ?_
      refine V_iload dX1_reasonInAll_18 rfl ?_
      obtain ⟨g1, h⟩ := gu_o h
      refine V_baload dX1_reasonInAll_20 (tq_X1_1 hG ht) (ib_in g1) ?_
      by_cases c21 : (μ.1 (t + 1) (Int32.toNatClampNeg v4)) = 0
      · rw [if_pos c21] at h
        refine V_ifeq_t (tgt := 39) dX1_reasonInAll_21 (by decide) c21 ?_
        exact V_wk [true, true, true, false, true] rfl (T_X1_reasonInAll_39 G fu μ t hG ht (D_X1_reasonInAll_5 fu μ t n) ih _ _ _ _ h)
      · rw [if_neg c21] at h
        refine V_ifeq_f (tgt := 39) dX1_reasonInAll_21 (by decide) c21 ?_
        refine V_lload_n dX1_reasonInAll_24 rfl ?_
        refine V_aload_n dX1_reasonInAll_25 rfl ?_
        refine V_getR (kf := 11) k_X1 (by decide) lk_RX1_47 rfl dX1_reasonInAll_26 (tq_X1_0 hG ht) rfl ?_
        refine V_iload dX1_reasonInAll_29 rfl ?_
        refine V_bipush (v := 7) dX1_reasonInAll_31 rfl ?_
        refine V_imul dX1_reasonInAll_33 ?_
        refine V_iload_n dX1_reasonInAll_34 rfl ?_
        refine V_iadd dX1_reasonInAll_35 ?_
        obtain ⟨g2, h⟩ := gu_o h
        refine V_laload dX1_reasonInAll_36 (tq_X1_12 hG ht) (ib_in g2) ?_
        refine V_ladd dX1_reasonInAll_37 ?_
        obtain ⟨x3, e4, h⟩ := vl_o h
        refine V_topl e4 ?_
        refine V_lstore_n (lv2 := [some (.ref t), some (.int v1), some (.long x3), none, some (.int v4)]) dX1_reasonInAll_38 (by decide) rfl ?_
        exact V_wk [true, true, true, false, true] rfl (T_X1_reasonInAll_39 G fu μ t hG ht (D_X1_reasonInAll_5 fu μ t n) ih _ _ _ _ h)
def D_X1_reasonInAll_0 (fu : Nat) (μ : Mem) (t : Nat) (a1 : Int32) : Option Int64 :=
  D_X1_reasonInAll_5 fu μ t fu a1 0 0
set_option maxRecDepth 20000 in
theorem T_X1_reasonInAll_0 (G : GX) (fu : Nat) (μ : Mem) (t : Nat) (hG : gt G = tbl) (ht : IsX1 t) : ∀ (a1 : Int32) (r : Int64) , D_X1_reasonInAll_0 fu μ t a1 = some r → V G mX1_reasonInAll 0 [some (.ref t), some (.int a1), none, none, none] [] μ (.inl (some (.long r))) (μ) := by
  intro a1 r h
  unfold D_X1_reasonInAll_0 at h
  refine V_lconst (v := 0) dX1_reasonInAll_0 rfl ?_
  refine V_lstore_n (lv2 := [some (.ref t), some (.int a1), some (.long 0), none, none]) dX1_reasonInAll_1 (by decide) rfl ?_
  refine V_iconst (v := 0) dX1_reasonInAll_2 rfl ?_
  refine V_istore (lv2 := [some (.ref t), some (.int a1), some (.long 0), none, some (.int 0)]) dX1_reasonInAll_3 (by decide) rfl ?_
  exact V_wk [true, true, true, false, true] rfl (T_X1_reasonInAll_5 G fu μ t hG ht fu _ _ _ _ h)
theorem VM_X1_reasonInAll (G : GX) (fu : Nat) (μ : Mem) (t : Nat) (hG : gt G = tbl) (ht : IsX1 t) (a1 : Int32) (r : Int64) (h : D_X1_reasonInAll_0 fu μ t a1 = some r) : VM G mX1_reasonInAll [.ref t, .int a1] μ (.inl (some (.long r))) (μ) := V_entry ok_mX1_reasonInAll rfl rfl (Nat.le_of_ble_eq_true rfl) (T_X1_reasonInAll_0 G fu μ t hG ht a1 r h)
def D_X1_insurersAhead_50 (fu : Nat) (μ : Mem) (t : Nat) (k12 : Int32 → Int64 → Int32 → Int32 → Option Int32) (v1 : Int32) (v2 : Int64) (v4 : Int32) (v5 : Int32) : Option Int32 :=
  k12 v1 v2 v4 (v5 + 1)
set_option maxRecDepth 20000 in
theorem T_X1_insurersAhead_50 (G : GX) (fu : Nat) (μ : Mem) (t : Nat) (hG : gt G = tbl) (ht : IsX1 t) (k12 : Int32 → Int64 → Int32 → Int32 → Option Int32) (hk12 : ∀ (v1 : Int32) (v2 : Int64) (v4 : Int32) (v5 : Int32) (r : Int32), k12 v1 v2 v4 v5 = some r → V G mX1_insurersAhead 12 [some (.ref t), some (.int v1), some (.long v2), none, some (.int v4), some (.int v5), none, none] [] μ (.inl (some (.int r))) (μ)) : ∀ (v1 : Int32) (v2 : Int64) (v4 : Int32) (v5 : Int32) (r : Int32) , D_X1_insurersAhead_50 fu μ t k12 v1 v2 v4 v5 = some r → V G mX1_insurersAhead 50 [some (.ref t), some (.int v1), some (.long v2), none, some (.int v4), some (.int v5), none, none] [] μ (.inl (some (.int r))) (μ) := by
  intro v1 v2 v4 v5 r h
  unfold D_X1_insurersAhead_50 at h
  refine V_iinc (v := v5 + 1) (lv2 := [some (.ref t), some (.int v1), some (.long v2), none, some (.int v4), some (.int (v5 + 1)), none, none]) dX1_insurersAhead_50 rfl rfl (by decide) rfl ?_
  refine V_goto (tgt := 12) dX1_insurersAhead_53 (by decide) ?_
  exact V_wk [true, true, true, false, true, true, false, false] rfl (hk12 _ _ _ _ _ h)
def D_X1_insurersAhead_47 (fu : Nat) (μ : Mem) (t : Nat) (k12 : Int32 → Int64 → Int32 → Int32 → Option Int32) (v1 : Int32) (v2 : Int64) (v4 : Int32) (v5 : Int32) : Option Int32 :=
  D_X1_insurersAhead_50 fu μ t k12 v1 v2 (v4 + 1) v5
set_option maxRecDepth 20000 in
theorem T_X1_insurersAhead_47 (G : GX) (fu : Nat) (μ : Mem) (t : Nat) (hG : gt G = tbl) (ht : IsX1 t) (k12 : Int32 → Int64 → Int32 → Int32 → Option Int32) (hk12 : ∀ (v1 : Int32) (v2 : Int64) (v4 : Int32) (v5 : Int32) (r : Int32), k12 v1 v2 v4 v5 = some r → V G mX1_insurersAhead 12 [some (.ref t), some (.int v1), some (.long v2), none, some (.int v4), some (.int v5), none, none] [] μ (.inl (some (.int r))) (μ)) : ∀ (v1 : Int32) (v2 : Int64) (v4 : Int32) (v5 : Int32) (r : Int32) , D_X1_insurersAhead_47 fu μ t k12 v1 v2 v4 v5 = some r → V G mX1_insurersAhead 47 [some (.ref t), some (.int v1), some (.long v2), none, some (.int v4), some (.int v5), none, none] [] μ (.inl (some (.int r))) (μ) := by
  intro v1 v2 v4 v5 r h
  unfold D_X1_insurersAhead_47 at h
  refine V_iinc (v := v4 + 1) (lv2 := [some (.ref t), some (.int v1), some (.long v2), none, some (.int (v4 + 1)), some (.int v5), none, none]) dX1_insurersAhead_47 rfl rfl (by decide) rfl ?_
  exact V_wk [true, true, true, false, true, true, false, false] rfl (T_X1_insurersAhead_50 G fu μ t hG ht k12 hk12 _ _ _ _ _ h)
def D_X1_insurersAhead_12 (fu : Nat) (μ : Mem) (t : Nat) : Nat → Int32 → Int64 → Int32 → Int32 → Option Int32
  | 0, _, _, _, _ => none
  | n + 1, v1, v2, v4, v5 =>
    if (10 : Int32) ≤ v5 then
      some v4
    else
      (D_X1_borneInAll_0 fu μ t v5).bind fun x3 =>
      if v2 < x3 then
        D_X1_insurersAhead_47 fu μ t (D_X1_insurersAhead_12 fu μ t n) v1 v2 v4 v5
      else
        if x3 = v2 then
          if v1 ≤ v5 then
            D_X1_insurersAhead_50 fu μ t (D_X1_insurersAhead_12 fu μ t n) v1 v2 v4 v5
          else
            D_X1_insurersAhead_47 fu μ t (D_X1_insurersAhead_12 fu μ t n) v1 v2 v4 v5
        else
          D_X1_insurersAhead_50 fu μ t (D_X1_insurersAhead_12 fu μ t n) v1 v2 v4 v5
set_option maxRecDepth 20000 in
theorem T_X1_insurersAhead_12 (G : GX) (fu : Nat) (μ : Mem) (t : Nat) (hG : gt G = tbl) (ht : IsX1 t) : ∀ (n : Nat) (v1 : Int32) (v2 : Int64) (v4 : Int32) (v5 : Int32) (r : Int32) , D_X1_insurersAhead_12 fu μ t n v1 v2 v4 v5 = some r → V G mX1_insurersAhead 12 [some (.ref t), some (.int v1), some (.long v2), none, some (.int v4), some (.int v5), none, none] [] μ (.inl (some (.int r))) (μ) := by
  intro n
  induction n with
  | zero =>
    intro v1 v2 v4 v5 r h
    exact nomatch (show (none : Option Int32) = some r from h)
  | succ n ih =>
    intro v1 v2 v4 v5 r h
    rw [D_X1_insurersAhead_12] at h
    refine V_iload dX1_insurersAhead_12 rfl ?_
    refine V_bipush (v := 10) dX1_insurersAhead_14 rfl ?_
    by_cases c16 : (10 : Int32) ≤ v5
    · rw [if_pos c16] at h
      refine V_icmpge_t (tgt := 56) dX1_insurersAhead_16 (by decide) c16 ?_
      refine V_iload dX1_insurersAhead_56 rfl ?_
      cases h
      exact V_iret rfl dX1_insurersAhead_58
    · rw [if_neg c16] at h
      refine V_icmpge_f (tgt := 56) dX1_insurersAhead_16 (by decide) c16 ?_
      refine V_aload_n dX1_insurersAhead_19 rfl ?_
      refine V_iload dX1_insurersAhead_20 rfl ?_
      obtain ⟨x3, y4, h⟩ := bi_o h
      refine V_callV (as := [.int v5]) (q := t) (rest := []) dX1_insurersAhead_22 ov_mX1_borneInAll lk_RX1_72 (by decide) (by decide) rfl rfl (Nat.le_of_ble_eq_true rfl) (tq_X1_0 hG ht) rfl (VM_X1_borneInAll G fu μ t hG ht v5 _ y4) ?_
      refine V_lstore (lv2 := [some (.ref t), some (.int v1), some (.long v2), none, some (.int v4), some (.int v5), some (.long x3), none]) dX1_insurersAhead_25 (by decide) rfl ?_
      refine V_lload dX1_insurersAhead_27 rfl ?_
      refine V_lload_n dX1_insurersAhead_29 rfl ?_
      refine V_lcmp dX1_insurersAhead_30 ?_
      by_cases c31 : v2 < x3
      · rw [if_pos c31] at h
        refine V_ifgt_t (tgt := 47) dX1_insurersAhead_31 (by decide) ((lc_gt x3 v2).mpr c31) ?_
        exact V_wk [true, true, true, false, true, true, false, false] rfl (T_X1_insurersAhead_47 G fu μ t hG ht (D_X1_insurersAhead_12 fu μ t n) ih _ _ _ _ _ h)
      · rw [if_neg c31] at h
        refine V_ifgt_f (tgt := 47) dX1_insurersAhead_31 (by decide) (fun z => c31 ((lc_gt x3 v2).mp z)) ?_
        refine V_lload dX1_insurersAhead_34 rfl ?_
        refine V_lload_n dX1_insurersAhead_36 rfl ?_
        refine V_lcmp dX1_insurersAhead_37 ?_
        by_cases c38 : x3 = v2
        · rw [if_pos c38] at h
          refine V_ifne_f (tgt := 50) dX1_insurersAhead_38 (by decide) ((lc_eq x3 v2).mpr c38) ?_
          refine V_iload dX1_insurersAhead_41 rfl ?_
          refine V_iload_n dX1_insurersAhead_43 rfl ?_
          by_cases c44 : v1 ≤ v5
          · rw [if_pos c44] at h
            refine V_icmpge_t (tgt := 50) dX1_insurersAhead_44 (by decide) c44 ?_
            exact V_wk [true, true, true, false, true, true, false, false] rfl (T_X1_insurersAhead_50 G fu μ t hG ht (D_X1_insurersAhead_12 fu μ t n) ih _ _ _ _ _ h)
          · rw [if_neg c44] at h
            refine V_icmpge_f (tgt := 50) dX1_insurersAhead_44 (by decide) c44 ?_
            exact V_wk [true, true, true, false, true, true, false, false] rfl (T_X1_insurersAhead_47 G fu μ t hG ht (D_X1_insurersAhead_12 fu μ t n) ih _ _ _ _ _ h)
        · rw [if_neg c38] at h
          refine V_ifne_t (tgt := 50) dX1_insurersAhead_38 (by decide) (fun z => c38 ((lc_eq x3 v2).mp z)) ?_
          exact V_wk [true, true, true, false, true, true, false, false] rfl (T_X1_insurersAhead_50 G fu μ t hG ht (D_X1_insurersAhead_12 fu μ t n) ih _ _ _ _ _ h)
def D_X1_insurersAhead_0 (fu : Nat) (μ : Mem) (t : Nat) (a1 : Int32) : Option Int32 :=
  (D_X1_borneInAll_0 fu μ t a1).bind fun x1 =>
  D_X1_insurersAhead_12 fu μ t fu a1 x1 0 0
set_option maxRecDepth 20000 in
theorem T_X1_insurersAhead_0 (G : GX) (fu : Nat) (μ : Mem) (t : Nat) (hG : gt G = tbl) (ht : IsX1 t) : ∀ (a1 : Int32) (r : Int32) , D_X1_insurersAhead_0 fu μ t a1 = some r → V G mX1_insurersAhead 0 [some (.ref t), some (.int a1), none, none, none, none, none, none] [] μ (.inl (some (.int r))) (μ) := by
  intro a1 r h
  unfold D_X1_insurersAhead_0 at h
  refine V_aload_n dX1_insurersAhead_0 rfl ?_
  refine V_iload_n dX1_insurersAhead_1 rfl ?_
  obtain ⟨x1, y2, h⟩ := bi_o h
  refine V_callV (as := [.int a1]) (q := t) (rest := []) dX1_insurersAhead_2 ov_mX1_borneInAll lk_RX1_72 (by decide) (by decide) rfl rfl (Nat.le_of_ble_eq_true rfl) (tq_X1_0 hG ht) rfl (VM_X1_borneInAll G fu μ t hG ht a1 _ y2) ?_
  refine V_lstore_n (lv2 := [some (.ref t), some (.int a1), some (.long x1), none, none, none, none, none]) dX1_insurersAhead_5 (by decide) rfl ?_
  refine V_iconst (v := 0) dX1_insurersAhead_6 rfl ?_
  refine V_istore (lv2 := [some (.ref t), some (.int a1), some (.long x1), none, some (.int 0), none, none, none]) dX1_insurersAhead_7 (by decide) rfl ?_
  refine V_iconst (v := 0) dX1_insurersAhead_9 rfl ?_
  refine V_istore (lv2 := [some (.ref t), some (.int a1), some (.long x1), none, some (.int 0), some (.int 0), none, none]) dX1_insurersAhead_10 (by decide) rfl ?_
  exact V_wk [true, true, true, false, true, true, false, false] rfl (T_X1_insurersAhead_12 G fu μ t hG ht fu _ _ _ _ _ h)
theorem VM_X1_insurersAhead (G : GX) (fu : Nat) (μ : Mem) (t : Nat) (hG : gt G = tbl) (ht : IsX1 t) (a1 : Int32) (r : Int32) (h : D_X1_insurersAhead_0 fu μ t a1 = some r) : VM G mX1_insurersAhead [.ref t, .int a1] μ (.inl (some (.int r))) (μ) := V_entry ok_mX1_insurersAhead rfl rfl (Nat.le_of_ble_eq_true rfl) (T_X1_insurersAhead_0 G fu μ t hG ht a1 r h)
def D_X2_write_0  (a1 : Int32) (a2 : Int32) (a3 : Int32) (a4 : Int32) (a5 : Int32) (a6 : Int32) (μ : Mem) : Option Mem :=
  if (μ.1 1 1) < (160 : Int32) then
    gu (ib (((μ.1 1 1) * 6) + 0) 960) <|
    vl (wI μ 2 (Int32.toNatClampNeg (((μ.1 1 1) * 6) + 0)) a1) fun m2 =>
    gu (ib (((μ.1 1 1) * 6) + 1) 960) <|
    vl (wI m2 2 (Int32.toNatClampNeg (((μ.1 1 1) * 6) + 1)) a2) fun m5 =>
    gu (ib (((μ.1 1 1) * 6) + 2) 960) <|
    vl (wI m5 2 (Int32.toNatClampNeg (((μ.1 1 1) * 6) + 2)) a3) fun m8 =>
    gu (ib ((((μ.1 1 1) * 6) + 2) + 1) 960) <|
    vl (wI m8 2 (Int32.toNatClampNeg ((((μ.1 1 1) * 6) + 2) + 1)) a4) fun m11 =>
    gu (ib ((((μ.1 1 1) * 6) + 2) + 2) 960) <|
    vl (wI m11 2 (Int32.toNatClampNeg ((((μ.1 1 1) * 6) + 2) + 2)) a5) fun m14 =>
    gu (ib ((((μ.1 1 1) * 6) + 2) + 3) 960) <|
    vl (wI m14 2 (Int32.toNatClampNeg ((((μ.1 1 1) * 6) + 2) + 3)) a6) fun m17 =>
    some m17
  else
    some μ
set_option maxRecDepth 20000 in
theorem T_X2_write_0 (G : GX)  (hG : gt G = tbl) : ∀ (a1 : Int32) (a2 : Int32) (a3 : Int32) (a4 : Int32) (a5 : Int32) (a6 : Int32) (μ : Mem) (r : Mem) , D_X2_write_0  a1 a2 a3 a4 a5 a6 μ = some r → V G mX2_write 0 [some (.ref 1), some (.int a1), some (.int a2), some (.int a3), some (.int a4), some (.int a5), some (.int a6), none] [] μ (.inl none) (r) := by
  intro a1 a2 a3 a4 a5 a6 μ r h
  unfold D_X2_write_0 at h
  refine V_aload_n dX2_write_0 rfl ?_
  refine V_getI (kf := 1) k_X2 (by decide) lk_RX2_15 rfl dX2_write_1 (tq_1 hG) rfl ?_
  refine V_sipush (v := 160) dX2_write_4 rfl ?_
  by_cases c7 : (μ.1 1 1) < (160 : Int32)
  · rw [if_pos c7] at h
    refine V_icmplt_t (tgt := 11) dX2_write_7 (by decide) c7 ?_
    refine V_aload_n dX2_write_11 rfl ?_
    refine V_getI (kf := 1) k_X2 (by decide) lk_RX2_15 rfl dX2_write_12 (tq_1 hG) rfl ?_
    refine V_bipush (v := 6) dX2_write_15 rfl ?_
    refine V_imul dX2_write_17 ?_
    refine V_istore (lv2 := [some (.ref 1), some (.int a1), some (.int a2), some (.int a3), some (.int a4), some (.int a5), some (.int a6), some (.int ((μ.1 1 1) * 6))]) dX2_write_18 (by decide) rfl ?_
    refine V_aload_n dX2_write_20 rfl ?_
    refine V_getR (kf := 0) k_X2 (by decide) lk_RX2_11 rfl dX2_write_21 (tq_1 hG) rfl ?_
    refine V_iload dX2_write_24 rfl ?_
    refine V_iconst (v := 0) dX2_write_26 rfl ?_
    refine V_iadd dX2_write_27 ?_
    refine V_iload_n dX2_write_28 rfl ?_
    obtain ⟨g1, h⟩ := gu_o h
    obtain ⟨m2, e3, h⟩ := vl_o h
    refine V_iastore (μ2 := m2) dX2_write_29 (tq_2 hG) (ib_in g1) e3.symm ?_
    refine V_aload_n dX2_write_30 rfl ?_
    refine V_getR (kf := 0) k_X2 (by decide) lk_RX2_11 rfl dX2_write_31 (tq_1 hG) rfl ?_
    refine V_iload dX2_write_34 rfl ?_
    refine V_iconst (v := 1) dX2_write_36 rfl ?_
    refine V_iadd dX2_write_37 ?_
    refine V_iload_n dX2_write_38 rfl ?_
    obtain ⟨g4, h⟩ := gu_o h
    obtain ⟨m5, e6, h⟩ := vl_o h
    refine V_iastore (μ2 := m5) dX2_write_39 (tq_2 hG) (ib_in g4) e6.symm ?_
    refine V_aload_n dX2_write_40 rfl ?_
    refine V_getR (kf := 0) k_X2 (by decide) lk_RX2_11 rfl dX2_write_41 (tq_1 hG) rfl ?_
    refine V_iload dX2_write_44 rfl ?_
    refine V_iconst (v := 2) dX2_write_46 rfl ?_
    refine V_iadd dX2_write_47 ?_
    refine V_iload_n dX2_write_48 rfl ?_
    obtain ⟨g7, h⟩ := gu_o h
    obtain ⟨m8, e9, h⟩ := vl_o h
    refine V_iastore (μ2 := m8) dX2_write_49 (tq_2 hG) (ib_in g7) e9.symm ?_
    refine V_aload_n dX2_write_50 rfl ?_
    refine V_getR (kf := 0) k_X2 (by decide) lk_RX2_11 rfl dX2_write_51 (tq_1 hG) rfl ?_
    refine V_iload dX2_write_54 rfl ?_
    refine V_iconst (v := 2) dX2_write_56 rfl ?_
    refine V_iadd dX2_write_57 ?_
    refine V_iconst (v := 1) dX2_write_58 rfl ?_
    refine V_iadd dX2_write_59 ?_
    refine V_iload dX2_write_60 rfl ?_
    obtain ⟨g10, h⟩ := gu_o h
    obtain ⟨m11, e12, h⟩ := vl_o h
    refine V_iastore (μ2 := m11) dX2_write_62 (tq_2 hG) (ib_in g10) e12.symm ?_
    refine V_aload_n dX2_write_63 rfl ?_
    refine V_getR (kf := 0) k_X2 (by decide) lk_RX2_11 rfl dX2_write_64 (tq_1 hG) rfl ?_
    refine V_iload dX2_write_67 rfl ?_
    refine V_iconst (v := 2) dX2_write_69 rfl ?_
    refine V_iadd dX2_write_70 ?_
    refine V_iconst (v := 2) dX2_write_71 rfl ?_
    refine V_iadd dX2_write_72 ?_
    refine V_iload dX2_write_73 rfl ?_
    obtain ⟨g13, h⟩ := gu_o h
    obtain ⟨m14, e15, h⟩ := vl_o h
    refine V_iastore (μ2 := m14) dX2_write_75 (tq_2 hG) (ib_in g13) e15.symm ?_
    refine V_aload_n dX2_write_76 rfl ?_
    refine V_getR (kf := 0) k_X2 (by decide) lk_RX2_11 rfl dX2_write_77 (tq_1 hG) rfl ?_
    refine V_iload dX2_write_80 rfl ?_
    refine V_iconst (v := 2) dX2_write_82 rfl ?_
    refine V_iadd dX2_write_83 ?_
    refine V_iconst (v := 3) dX2_write_84 rfl ?_
    refine V_iadd dX2_write_85 ?_
    refine V_iload dX2_write_86 rfl ?_
    obtain ⟨g16, h⟩ := gu_o h
    obtain ⟨m17, e18, h⟩ := vl_o h
    refine V_iastore (μ2 := m17) dX2_write_88 (tq_2 hG) (ib_in g16) e18.symm ?_
    cases h
    exact V_vret rfl dX2_write_89
  · rw [if_neg c7] at h
    refine V_icmplt_f (tgt := 11) dX2_write_7 (by decide) c7 ?_
    cases h
    exact V_vret rfl dX2_write_10
theorem VM_X2_write (G : GX)  (hG : gt G = tbl) (a1 : Int32) (a2 : Int32) (a3 : Int32) (a4 : Int32) (a5 : Int32) (a6 : Int32) (μ : Mem) (r : Mem) (h : D_X2_write_0  a1 a2 a3 a4 a5 a6 μ = some r) : VM G mX2_write [.ref 1, .int a1, .int a2, .int a3, .int a4, .int a5, .int a6] μ (.inl none) (r) := V_entry ok_mX2_write rfl rfl (Nat.le_of_ble_eq_true rfl) (T_X2_write_0 G hG a1 a2 a3 a4 a5 a6 μ r h)
def D_X2_read_0 (μ : Mem)  (a1 : Int32) (a2 : Int32) : Option Int32 :=
  gu (ib ((a1 * 6) + a2) 960) <|
  some (μ.1 2 (Int32.toNatClampNeg ((a1 * 6) + a2)))
set_option maxRecDepth 20000 in
theorem T_X2_read_0 (G : GX) (μ : Mem)  (hG : gt G = tbl) : ∀ (a1 : Int32) (a2 : Int32) (r : Int32) , D_X2_read_0 μ a1 a2 = some r → V G mX2_read 0 [some (.ref 1), some (.int a1), some (.int a2)] [] μ (.inl (some (.int r))) (μ) := by
  intro a1 a2 r h
  unfold D_X2_read_0 at h
  refine V_aload_n dX2_read_0 rfl ?_
  refine V_getR (kf := 0) k_X2 (by decide) lk_RX2_11 rfl dX2_read_1 (tq_1 hG) rfl ?_
  refine V_iload_n dX2_read_4 rfl ?_
  refine V_bipush (v := 6) dX2_read_5 rfl ?_
  refine V_imul dX2_read_7 ?_
  refine V_iload_n dX2_read_8 rfl ?_
  refine V_iadd dX2_read_9 ?_
  obtain ⟨g1, h⟩ := gu_o h
  refine V_iaload dX2_read_10 (tq_2 hG) (ib_in g1) ?_
  cases h
  exact V_iret rfl dX2_read_11
theorem VM_X2_read (G : GX) (μ : Mem)  (hG : gt G = tbl) (a1 : Int32) (a2 : Int32) (r : Int32) (h : D_X2_read_0 μ a1 a2 = some r) : VM G mX2_read [.ref 1, .int a1, .int a2] μ (.inl (some (.int r))) (μ) := V_entry ok_mX2_read rfl rfl (Nat.le_of_ble_eq_true rfl) (T_X2_read_0 G μ hG a1 a2 r h)
def D_X2_find_32 (fu : Nat) (μ : Mem)  (k2 : Int32 → Int32 → Int32 → Option Int32) (v1 : Int32) (v2 : Int32) (v3 : Int32) : Option Int32 :=
  k2 v1 v2 (v3 + 1)
set_option maxRecDepth 20000 in
theorem T_X2_find_32 (G : GX) (fu : Nat) (μ : Mem)  (hG : gt G = tbl) (k2 : Int32 → Int32 → Int32 → Option Int32) (hk2 : ∀ (v1 : Int32) (v2 : Int32) (v3 : Int32) (r : Int32), k2 v1 v2 v3 = some r → V G mX2_find 2 [some (.ref 1), some (.int v1), some (.int v2), some (.int v3)] [] μ (.inl (some (.int r))) (μ)) : ∀ (v1 : Int32) (v2 : Int32) (v3 : Int32) (r : Int32) , D_X2_find_32 fu μ k2 v1 v2 v3 = some r → V G mX2_find 32 [some (.ref 1), some (.int v1), some (.int v2), some (.int v3)] [] μ (.inl (some (.int r))) (μ) := by
  intro v1 v2 v3 r h
  unfold D_X2_find_32 at h
  refine V_iinc (v := v3 + 1) (lv2 := [some (.ref 1), some (.int v1), some (.int v2), some (.int (v3 + 1))]) dX2_find_32 rfl rfl (by decide) rfl ?_
  refine V_goto (tgt := 2) dX2_find_35 (by decide) ?_
  exact V_wk [true, true, true, true] rfl (hk2 _ _ _ _ h)
def D_X2_find_2 (fu : Nat) (μ : Mem)  : Nat → Int32 → Int32 → Int32 → Option Int32
  | 0, _, _, _ => none
  | n + 1, v1, v2, v3 =>
    if (μ.1 1 1) ≤ v3 then
      some (-1)
    else
      (D_X2_read_0 μ v3 0).bind fun x1 =>
      if x1 = v1 then
        (D_X2_read_0 μ v3 1).bind fun x3 =>
        if x3 = v2 then
          some v3
        else
          D_X2_find_32 fu μ (D_X2_find_2 fu μ n) v1 v2 v3
      else
        D_X2_find_32 fu μ (D_X2_find_2 fu μ n) v1 v2 v3
set_option maxRecDepth 20000 in
theorem T_X2_find_2 (G : GX) (fu : Nat) (μ : Mem)  (hG : gt G = tbl) : ∀ (n : Nat) (v1 : Int32) (v2 : Int32) (v3 : Int32) (r : Int32) , D_X2_find_2 fu μ n v1 v2 v3 = some r → V G mX2_find 2 [some (.ref 1), some (.int v1), some (.int v2), some (.int v3)] [] μ (.inl (some (.int r))) (μ) := by
  intro n
  induction n with
  | zero =>
    intro v1 v2 v3 r h
    exact nomatch (show (none : Option Int32) = some r from h)
  | succ n ih =>
    intro v1 v2 v3 r h
    rw [D_X2_find_2] at h
    refine V_iload_n dX2_find_2 rfl ?_
    refine V_aload_n dX2_find_3 rfl ?_
    refine V_getI (kf := 1) k_X2 (by decide) lk_RX2_15 rfl dX2_find_4 (tq_1 hG) rfl ?_
    by_cases c7 : (μ.1 1 1) ≤ v3
    · rw [if_pos c7] at h
      refine V_icmpge_t (tgt := 38) dX2_find_7 (by decide) c7 ?_
      refine V_iconst (v := (-1)) dX2_find_38 rfl ?_
      cases h
      exact V_iret rfl dX2_find_39
    · rw [if_neg c7] at h
      refine V_icmpge_f (tgt := 38) dX2_find_7 (by decide) c7 ?_
      refine V_aload_n dX2_find_10 rfl ?_
      refine V_iload_n dX2_find_11 rfl ?_
      refine V_iconst (v := 0) dX2_find_12 rfl ?_
      obtain ⟨x1, y2, h⟩ := bi_o h
      refine V_callV (as := [.int v3, .int 0]) (q := 1) (rest := []) dX2_find_13 ov_mX2_read lk_RX2_19 (by decide) (by decide) rfl rfl (Nat.le_of_ble_eq_true rfl) (tq_1 hG) rfl (VM_X2_read G μ hG v3 0 _ y2) ?_
      refine V_iload_n dX2_find_16 rfl ?_
      by_cases c17 : x1 = v1
      · rw [if_pos c17] at h
        refine V_icmpne_f (tgt := 32) dX2_find_17 (by decide) c17 ?_
        refine V_aload_n dX2_find_20 rfl ?_
        refine V_iload_n dX2_find_21 rfl ?_
        refine V_iconst (v := 1) dX2_find_22 rfl ?_
        obtain ⟨x3, y4, h⟩ := bi_o h
        refine V_callV (as := [.int v3, .int 1]) (q := 1) (rest := []) dX2_find_23 ov_mX2_read lk_RX2_19 (by decide) (by decide) rfl rfl (Nat.le_of_ble_eq_true rfl) (tq_1 hG) rfl (VM_X2_read G μ hG v3 1 _ y4) ?_
        refine V_iload_n dX2_find_26 rfl ?_
        by_cases c27 : x3 = v2
        · rw [if_pos c27] at h
          refine V_icmpne_f (tgt := 32) dX2_find_27 (by decide) c27 ?_
          refine V_iload_n dX2_find_30 rfl ?_
          cases h
          exact V_iret rfl dX2_find_31
        · rw [if_neg c27] at h
          refine V_icmpne_t (tgt := 32) dX2_find_27 (by decide) c27 ?_
          exact V_wk [true, true, true, true] rfl (T_X2_find_32 G fu μ hG (D_X2_find_2 fu μ n) ih _ _ _ _ h)
      · rw [if_neg c17] at h
        refine V_icmpne_t (tgt := 32) dX2_find_17 (by decide) c17 ?_
        exact V_wk [true, true, true, true] rfl (T_X2_find_32 G fu μ hG (D_X2_find_2 fu μ n) ih _ _ _ _ h)
def D_X2_find_0 (fu : Nat) (μ : Mem)  (a1 : Int32) (a2 : Int32) : Option Int32 :=
  D_X2_find_2 fu μ fu a1 a2 0
set_option maxRecDepth 20000 in
theorem T_X2_find_0 (G : GX) (fu : Nat) (μ : Mem)  (hG : gt G = tbl) : ∀ (a1 : Int32) (a2 : Int32) (r : Int32) , D_X2_find_0 fu μ a1 a2 = some r → V G mX2_find 0 [some (.ref 1), some (.int a1), some (.int a2), none] [] μ (.inl (some (.int r))) (μ) := by
  intro a1 a2 r h
  unfold D_X2_find_0 at h
  refine V_iconst (v := 0) dX2_find_0 rfl ?_
  refine V_istore_n (lv2 := [some (.ref 1), some (.int a1), some (.int a2), some (.int 0)]) dX2_find_1 (by decide) rfl ?_
  exact V_wk [true, true, true, true] rfl (T_X2_find_2 G fu μ hG fu _ _ _ _ h)
theorem VM_X2_find (G : GX) (fu : Nat) (μ : Mem)  (hG : gt G = tbl) (a1 : Int32) (a2 : Int32) (r : Int32) (h : D_X2_find_0 fu μ a1 a2 = some r) : VM G mX2_find [.ref 1, .int a1, .int a2] μ (.inl (some (.int r))) (μ) := V_entry ok_mX2_find rfl rfl (Nat.le_of_ble_eq_true rfl) (T_X2_find_0 G fu μ hG a1 a2 r h)
