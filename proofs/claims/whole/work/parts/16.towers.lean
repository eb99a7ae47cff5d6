def D_J7_fill_53178_5 (fu : Nat) (r0 : Nat) (n0 : Nat) : Nat → Int32 → Int32 → Int32 → Mem → Option Mem
  | 0, _, _, _, _ => none
  | n + 1, v1, v2, v3, μ =>
    if v3 ≤ v2 then
      some μ
    else
      gu (ib v2 n0) <|
      vl (wI μ r0 (Int32.toNatClampNeg v2) v1) fun m2 =>
      (D_J7_fill_53178_5 fu r0 n0 n) v1 (v2 + 1) v3 m2
set_option maxRecDepth 20000 in
theorem T_J7_fill_53178_5 (G : GX) (fu : Nat) (r0 : Nat) (n0 : Nat) (h0 : (gt G)[r0]? = some (.inl (0, n0))) : ∀ (n : Nat) (v1 : Int32) (v2 : Int32) (v3 : Int32) (μ : Mem) (r : Mem) , D_J7_fill_53178_5 fu r0 n0 n v1 v2 v3 μ = some r → V G mJ7_fill_53178 5 [some (.ref r0), some (.int v1), some (.int v2), some (.int v3)] [] μ (.inl none) (r) := by
  intro n
  induction n with
  | zero =>
    intro v1 v2 v3 μ r h
    exact nomatch (show (none : Option Mem) = some r from h)
  | succ n ih =>
    intro v1 v2 v3 μ r h
    rw [D_J7_fill_53178_5] at h
    refine V_iload_n dJ7_fill_53178_5 rfl ?_
    refine V_iload_n dJ7_fill_53178_6 rfl ?_
    by_cases c7 : v3 ≤ v2
    · rw [if_pos c7] at h
      refine V_icmpge_t (tgt := 20) dJ7_fill_53178_7 (by decide) c7 ?_
      cases h
      exact V_vret rfl dJ7_fill_53178_20
    · rw [if_neg c7] at h
      refine V_icmpge_f (tgt := 20) dJ7_fill_53178_7 (by decide) c7 ?_
      refine V_aload_n dJ7_fill_53178_10 rfl ?_
      refine V_iload_n dJ7_fill_53178_11 rfl ?_
      refine V_iload_n dJ7_fill_53178_12 rfl ?_
      obtain ⟨g1, h⟩ := gu_o h
      obtain ⟨m2, e3, h⟩ := vl_o h
      refine V_iastore (μ2 := m2) dJ7_fill_53178_13 h0 (ib_in g1) e3.symm ?_
      refine V_iinc (v := v2 + 1) (lv2 := [some (.ref r0), some (.int v1), some (.int (v2 + 1)), some (.int v3)]) dJ7_fill_53178_14 rfl rfl (by decide) rfl ?_
      refine V_goto (tgt := 5) dJ7_fill_53178_17 (by decide) ?_
      exact V_wk [true, true, true, true] rfl (ih _ _ _ _ _ h)
def D_J7_fill_53178_0 (fu : Nat) (r0 : Nat) (n0 : Nat) (a1 : Int32) (μ : Mem) : Option Mem :=
  D_J7_fill_53178_5 fu r0 n0 fu a1 0 (Int32.ofNat n0) μ
set_option maxRecDepth 20000 in
theorem T_J7_fill_53178_0 (G : GX) (fu : Nat) (r0 : Nat) (n0 : Nat) (h0 : (gt G)[r0]? = some (.inl (0, n0))) : ∀ (a1 : Int32) (μ : Mem) (r : Mem) , D_J7_fill_53178_0 fu r0 n0 a1 μ = some r → V G mJ7_fill_53178 0 [some (.ref r0), some (.int a1), none, none] [] μ (.inl none) (r) := by
  intro a1 μ r h
  unfold D_J7_fill_53178_0 at h
  refine V_iconst (v := 0) dJ7_fill_53178_0 rfl ?_
  refine V_istore_n (lv2 := [some (.ref r0), some (.int a1), some (.int 0), none]) dJ7_fill_53178_1 (by decide) rfl ?_
  refine V_aload_n dJ7_fill_53178_2 rfl ?_
  refine V_alen dJ7_fill_53178_3 h0 (by decide) ?_
  refine V_istore_n (lv2 := [some (.ref r0), some (.int a1), some (.int 0), some (.int (Int32.ofNat n0))]) dJ7_fill_53178_4 (by decide) rfl ?_
  exact V_wk [true, true, true, true] rfl (T_J7_fill_53178_5 G fu r0 n0 h0 fu _ _ _ _ _ h)
theorem VM_J7_fill_53178 (G : GX) (fu : Nat) (r0 : Nat) (n0 : Nat) (h0 : (gt G)[r0]? = some (.inl (0, n0))) (a1 : Int32) (μ : Mem) (r : Mem) (h : D_J7_fill_53178_0 fu r0 n0 a1 μ = some r) : VM G mJ7_fill_53178 [.ref r0, .int a1] μ (.inl none) (r) := V_entry ok_mJ7_fill_53178 rfl rfl (Nat.le_of_ble_eq_true rfl) (T_J7_fill_53178_0 G fu r0 n0 h0 a1 μ r h)
def D_X5_clear_0 (fu : Nat) (t : Nat) (μ : Mem) : Option Mem :=
  (D_J7_fill_53178_0 fu (t + 1) 40 (-1) μ).bind fun x1 =>
  (D_J7_fill_53178_0 fu (t + 12) 12 0 x1).bind fun x3 =>
  vl (wI x3 t 12 0) fun m5 =>
  vl (wI m5 t 13 0) fun m7 =>
  some m7
set_option maxRecDepth 20000 in
theorem T_X5_clear_0 (G : GX) (fu : Nat) (t : Nat) (hG : gt G = tbl) (ht : IsX5 t) : ∀ (μ : Mem) (r : Mem) , D_X5_clear_0 fu t μ = some r → V G mX5_clear 0 [some (.ref t)] [] μ (.inl none) (r) := by
  intro μ r h
  unfold D_X5_clear_0 at h
  refine V_aload_n dX5_clear_0 rfl ?_
  refine V_getR (kf := 0) k_X5 (by decide) lk_RX5_9 rfl dX5_clear_1 (tq_X5_0 hG ht) rfl ?_
  refine V_iconst (v := (-1)) dX5_clear_4 rfl ?_
  obtain ⟨x1, y2, h⟩ := bi_o h
  refine V_callS (as := [.ref (t + 1), .int (-1)]) (rest := []) dX5_clear_5 os_mJ7_fill_53178 rfl lk_RX5_49 (by decide) (by decide) rfl rfl (Nat.le_of_ble_eq_true rfl) (VM_J7_fill_53178 G fu (t + 1) 40 (tq_X5_1 hG ht) (-1) μ _ y2) ?_
  refine V_aload_n dX5_clear_8 rfl ?_
  refine V_getR (kf := 11) k_X5 (by decide) lk_RX5_46 rfl dX5_clear_9 (tq_X5_0 hG ht) rfl ?_
  refine V_iconst (v := 0) dX5_clear_12 rfl ?_
  obtain ⟨x3, y4, h⟩ := bi_o h
  refine V_callS (as := [.ref (t + 12), .int 0]) (rest := []) dX5_clear_13 os_mJ7_fill_53178 rfl lk_RX5_49 (by decide) (by decide) rfl rfl (Nat.le_of_ble_eq_true rfl) (VM_J7_fill_53178 G fu (t + 12) 12 (tq_X5_12 hG ht) 0 x1 _ y4) ?_
  refine V_aload_n dX5_clear_16 rfl ?_
  refine V_iconst (v := 0) dX5_clear_17 rfl ?_
  obtain ⟨m5, e6, h⟩ := vl_o h
  refine V_putI (kf := 12) k_X5 (by decide) lk_RX5_55 rfl rfl (by decide +kernel) dX5_clear_18 (tq_X5_0 hG ht) rfl e6.symm ?_
  refine V_aload_n dX5_clear_21 rfl ?_
  refine V_iconst (v := 0) dX5_clear_22 rfl ?_
  obtain ⟨m7, e8, h⟩ := vl_o h
  refine V_putI (kf := 13) k_X5 (by decide) lk_RX5_59 rfl rfl (by decide +kernel) dX5_clear_23 (tq_X5_0 hG ht) rfl e8.symm ?_
  cases h
  exact V_vret rfl dX5_clear_26
theorem VM_X5_clear (G : GX) (fu : Nat) (t : Nat) (hG : gt G = tbl) (ht : IsX5 t) (μ : Mem) (r : Mem) (h : D_X5_clear_0 fu t μ = some r) : VM G mX5_clear [.ref t] μ (.inl none) (r) := V_entry ok_mX5_clear rfl rfl (Nat.le_of_ble_eq_true rfl) (T_X5_clear_0 G fu t hG ht μ r h)
def D_X5_isThere_0 (μ : Mem) (t : Nat) (a1 : Int32) : Option Bool :=
  gu (ib a1 40) <|
  if (μ.1 (t + 1) (Int32.toNatClampNeg a1)) = (-1 : Int32) then
    some false
  else
    some true
set_option maxRecDepth 20000 in
theorem T_X5_isThere_0 (G : GX) (μ : Mem) (t : Nat) (hG : gt G = tbl) (ht : IsX5 t) : ∀ (a1 : Int32) (r : Bool) , D_X5_isThere_0 μ t a1 = some r → V G mX5_isThere 0 [some (.ref t), some (.int a1)] [] μ (.inl (some (.int (b2i r)))) (μ) := by
  intro a1 r h
  unfold D_X5_isThere_0 at h
  refine V_aload_n dX5_isThere_0 rfl ?_
  refine V_getR (kf := 0) k_X5 (by decide) lk_RX5_9 rfl dX5_isThere_1 (tq_X5_0 hG ht) rfl ?_
  refine V_iload_n dX5_isThere_4 rfl ?_
  obtain ⟨g1, h⟩ := gu_o h
  refine V_iaload dX5_isThere_5 (tq_X5_1 hG ht) (ib_in g1) ?_
  refine V_iconst (v := (-1)) dX5_isThere_6 rfl ?_
  by_cases c7 : (μ.1 (t + 1) (Int32.toNatClampNeg a1)) = (-1 : Int32)
  · rw [if_pos c7] at h
    refine V_icmpeq_t (tgt := 14) dX5_isThere_7 (by decide) c7 ?_
    refine V_iconst (v := 0) dX5_isThere_14 rfl ?_
    cases h
    exact V_zret rfl (by decide) dX5_isThere_15
  · rw [if_neg c7] at h
    refine V_icmpeq_f (tgt := 14) dX5_isThere_7 (by decide) c7 ?_
    refine V_iconst (v := 1) dX5_isThere_10 rfl ?_
    refine V_goto (tgt := 15) dX5_isThere_11 (by decide) ?_
    cases h
    exact V_zret rfl (by decide) dX5_isThere_15
theorem VM_X5_isThere (G : GX) (μ : Mem) (t : Nat) (hG : gt G = tbl) (ht : IsX5 t) (a1 : Int32) (r : Bool) (h : D_X5_isThere_0 μ t a1 = some r) : VM G mX5_isThere [.ref t, .int a1] μ (.inl (some (.int (b2i r)))) (μ) := V_entry ok_mX5_isThere rfl rfl (Nat.le_of_ble_eq_true rfl) (T_X5_isThere_0 G μ t hG ht a1 r h)
def D_X5_isGap_0 (μ : Mem) (t : Nat) (a1 : Int32) : Option Bool :=
  gu (ib a1 12) <|
  if (μ.1 (t + 12) (Int32.toNatClampNeg a1)) = 0 then
    some true
  else
    some false
set_option maxRecDepth 20000 in
theorem T_X5_isGap_0 (G : GX) (μ : Mem) (t : Nat) (hG : gt G = tbl) (ht : IsX5 t) : ∀ (a1 : Int32) (r : Bool) , D_X5_isGap_0 μ t a1 = some r → V G mX5_isGap 0 [some (.ref t), some (.int a1)] [] μ (.inl (some (.int (b2i r)))) (μ) := by
  intro a1 r h
  unfold D_X5_isGap_0 at h
  refine V_aload_n dX5_isGap_0 rfl ?_
  refine V_getR (kf := 11) k_X5 (by decide) lk_RX5_46 rfl dX5_isGap_1 (tq_X5_0 hG ht) rfl ?_
  refine V_iload_n dX5_isGap_4 rfl ?_
  obtain ⟨g1, h⟩ := gu_o h
  refine V_iaload dX5_isGap_5 (tq_X5_12 hG ht) (ib_in g1) ?_
  by_cases c6 : (μ.1 (t + 12) (Int32.toNatClampNeg a1)) = 0
  · rw [if_pos c6] at h
    refine V_ifne_f (tgt := 13) dX5_isGap_6 (by decide) c6 ?_
    refine V_iconst (v := 1) dX5_isGap_9 rfl ?_
    refine V_goto (tgt := 14) dX5_isGap_10 (by decide) ?_
    cases h
    exact V_zret rfl (by decide) dX5_isGap_14
  · rw [if_neg c6] at h
    refine V_ifne_t (tgt := 13) dX5_isGap_6 (by decide) c6 ?_
    refine V_iconst (v := 0) dX5_isGap_13 rfl ?_
    cases h
    exact V_zret rfl (by decide) dX5_isGap_14
theorem VM_X5_isGap (G : GX) (μ : Mem) (t : Nat) (hG : gt G = tbl) (ht : IsX5 t) (a1 : Int32) (r : Bool) (h : D_X5_isGap_0 μ t a1 = some r) : VM G mX5_isGap [.ref t, .int a1] μ (.inl (some (.int (b2i r)))) (μ) := V_entry ok_mX5_isGap rfl rfl (Nat.le_of_ble_eq_true rfl) (T_X5_isGap_0 G μ t hG ht a1 r h)
def D_X5_lacks_0 (μ : Mem) (t : Nat) (a1 : Int32) : Option Bool :=
  if (((μ.1 t 12) >>> (a1 &&& 31)) &&& 1) = 0 then
    some false
  else
    some true
set_option maxRecDepth 20000 in
theorem T_X5_lacks_0 (G : GX) (μ : Mem) (t : Nat) (hG : gt G = tbl) (ht : IsX5 t) : ∀ (a1 : Int32) (r : Bool) , D_X5_lacks_0 μ t a1 = some r → V G mX5_lacks 0 [some (.ref t), some (.int a1)] [] μ (.inl (some (.int (b2i r)))) (μ) := by
  intro a1 r h
  unfold D_X5_lacks_0 at h
  refine V_aload_n dX5_lacks_0 rfl ?_
  refine V_getI (kf := 12) k_X5 (by decide) lk_RX5_55 rfl dX5_lacks_1 (tq_X5_0 hG ht) rfl ?_
  refine V_iload_n dX5_lacks_4 rfl ?_
  refine V_ishr dX5_lacks_5 ?_
  refine V_iconst (v := 1) dX5_lacks_6 rfl ?_
  refine V_iand dX5_lacks_7 ?_
  by_cases c8 : (((μ.1 t 12) >>> (a1 &&& 31)) &&& 1) = 0
  · rw [if_pos c8] at h
    refine V_ifeq_t (tgt := 15) dX5_lacks_8 (by decide) c8 ?_
    refine V_iconst (v := 0) dX5_lacks_15 rfl ?_
    cases h
    exact V_zret rfl (by decide) dX5_lacks_16
  · rw [if_neg c8] at h
    refine V_ifeq_f (tgt := 15) dX5_lacks_8 (by decide) c8 ?_
    refine V_iconst (v := 1) dX5_lacks_11 rfl ?_
    refine V_goto (tgt := 16) dX5_lacks_12 (by decide) ?_
    cases h
    exact V_zret rfl (by decide) dX5_lacks_16
theorem VM_X5_lacks (G : GX) (μ : Mem) (t : Nat) (hG : gt G = tbl) (ht : IsX5 t) (a1 : Int32) (r : Bool) (h : D_X5_lacks_0 μ t a1 = some r) : VM G mX5_lacks [.ref t, .int a1] μ (.inl (some (.int (b2i r)))) (μ) := V_entry ok_mX5_lacks rfl rfl (Nat.le_of_ble_eq_true rfl) (T_X5_lacks_0 G μ t hG ht a1 r h)
def D_X5_layerAt_0 (μ : Mem) (t : Nat) (a1 : Int32) (a2 : Int32) : Option Int32 :=
  gu (ib ((a1 * 6) + a2) 72) <|
  some (μ.1 (t + 11) (Int32.toNatClampNeg ((a1 * 6) + a2)))
set_option maxRecDepth 20000 in
theorem T_X5_layerAt_0 (G : GX) (μ : Mem) (t : Nat) (hG : gt G = tbl) (ht : IsX5 t) : ∀ (a1 : Int32) (a2 : Int32) (r : Int32) , D_X5_layerAt_0 μ t a1 a2 = some r → V G mX5_layerAt 0 [some (.ref t), some (.int a1), some (.int a2)] [] μ (.inl (some (.int r))) (μ) := by
  intro a1 a2 r h
  unfold D_X5_layerAt_0 at h
  refine V_aload_n dX5_layerAt_0 rfl ?_
  refine V_getR (kf := 10) k_X5 (by decide) lk_RX5_43 rfl dX5_layerAt_1 (tq_X5_0 hG ht) rfl ?_
  refine V_iload_n dX5_layerAt_4 rfl ?_
  refine V_bipush (v := 6) dX5_layerAt_5 rfl ?_
  refine V_imul dX5_layerAt_7 ?_
  refine V_iload_n dX5_layerAt_8 rfl ?_
  refine V_iadd dX5_layerAt_9 ?_
  obtain ⟨g1, h⟩ := gu_o h
  refine V_iaload dX5_layerAt_10 (tq_X5_11 hG ht) (ib_in g1) ?_
  cases h
  exact V_iret rfl dX5_layerAt_11
theorem VM_X5_layerAt (G : GX) (μ : Mem) (t : Nat) (hG : gt G = tbl) (ht : IsX5 t) (a1 : Int32) (a2 : Int32) (r : Int32) (h : D_X5_layerAt_0 μ t a1 a2 = some r) : VM G mX5_layerAt [.ref t, .int a1, .int a2] μ (.inl (some (.int r))) (μ) := V_entry ok_mX5_layerAt rfl rfl (Nat.le_of_ble_eq_true rfl) (T_X5_layerAt_0 G μ t hG ht a1 a2 r h)
def D_X5_topOf_0 (μ : Mem) (t : Nat) (a1 : Int32) : Option Int32 :=
  gu (ib a1 40) <|
  gu (ib a1 40) <|
  some ((μ.1 (t + 2) (Int32.toNatClampNeg a1)) + (μ.1 (t + 3) (Int32.toNatClampNeg a1)))
set_option maxRecDepth 20000 in
theorem T_X5_topOf_0 (G : GX) (μ : Mem) (t : Nat) (hG : gt G = tbl) (ht : IsX5 t) : ∀ (a1 : Int32) (r : Int32) , D_X5_topOf_0 μ t a1 = some r → V G mX5_topOf 0 [some (.ref t), some (.int a1)] [] μ (.inl (some (.int r))) (μ) := by
  intro a1 r h
  unfold D_X5_topOf_0 at h
  refine V_aload_n dX5_topOf_0 rfl ?_
  refine V_getR (kf := 1) k_X5 (by decide) lk_RX5_15 rfl dX5_topOf_1 (tq_X5_0 hG ht) rfl ?_
  refine V_iload_n dX5_topOf_4 rfl ?_
  obtain ⟨g1, h⟩ := gu_o h
  refine V_iaload dX5_topOf_5 (tq_X5_2 hG ht) (ib_in g1) ?_
  refine V_aload_n dX5_topOf_6 rfl ?_
  refine V_getR (kf := 2) k_X5 (by decide) lk_RX5_18 rfl dX5_topOf_7 (tq_X5_0 hG ht) rfl ?_
  refine V_iload_n dX5_topOf_10 rfl ?_
  obtain ⟨g2, h⟩ := gu_o h
  refine V_iaload dX5_topOf_11 (tq_X5_3 hG ht) (ib_in g2) ?_
  refine V_iadd dX5_topOf_12 ?_
  cases h
  exact V_iret rfl dX5_topOf_13
theorem VM_X5_topOf (G : GX) (μ : Mem) (t : Nat) (hG : gt G = tbl) (ht : IsX5 t) (a1 : Int32) (r : Int32) (h : D_X5_topOf_0 μ t a1 = some r) : VM G mX5_topOf [.ref t, .int a1] μ (.inl (some (.int r))) (μ) := V_entry ok_mX5_topOf rfl rfl (Nat.le_of_ble_eq_true rfl) (T_X5_topOf_0 G μ t hG ht a1 r h)
def D_X5_lowestFrom_0 (μ : Mem) (t : Nat) (a1 : Int32) : Option Int32 :=
  gu (ib (a1 * 6) 72) <|
  gu (ib (μ.1 (t + 11) (Int32.toNatClampNeg (a1 * 6))) 40) <|
  some (μ.1 (t + 2) (Int32.toNatClampNeg (μ.1 (t + 11) (Int32.toNatClampNeg (a1 * 6)))))
set_option maxRecDepth 20000 in
theorem T_X5_lowestFrom_0 (G : GX) (μ : Mem) (t : Nat) (hG : gt G = tbl) (ht : IsX5 t) : ∀ (a1 : Int32) (r : Int32) , D_X5_lowestFrom_0 μ t a1 = some r → V G mX5_lowestFrom 0 [some (.ref t), some (.int a1)] [] μ (.inl (some (.int r))) (μ) := by
  intro a1 r h
  unfold D_X5_lowestFrom_0 at h
  refine V_aload_n dX5_lowestFrom_0 rfl ?_
  refine V_getR (kf := 1) k_X5 (by decide) lk_RX5_15 rfl dX5_lowestFrom_1 (tq_X5_0 hG ht) rfl ?_
  refine V_aload_n dX5_lowestFrom_4 rfl ?_
  refine V_getR (kf := 10) k_X5 (by decide) lk_RX5_43 rfl dX5_lowestFrom_5 (tq_X5_0 hG ht) rfl ?_
  refine V_iload_n dX5_lowestFrom_8 rfl ?_
  refine V_bipush (v := 6) dX5_lowestFrom_9 rfl ?_
  refine V_imul dX5_lowestFrom_11 ?_
  obtain ⟨g1, h⟩ := gu_o h
  refine V_iaload dX5_lowestFrom_12 (tq_X5_11 hG ht) (ib_in g1) ?_
  obtain ⟨g2, h⟩ := gu_o h
  refine V_iaload dX5_lowestFrom_13 (tq_X5_2 hG ht) (ib_in g2) ?_
  cases h
  exact V_iret rfl dX5_lowestFrom_14
theorem VM_X5_lowestFrom (G : GX) (μ : Mem) (t : Nat) (hG : gt G = tbl) (ht : IsX5 t) (a1 : Int32) (r : Int32) (h : D_X5_lowestFrom_0 μ t a1 = some r) : VM G mX5_lowestFrom [.ref t, .int a1] μ (.inl (some (.int r))) (μ) := V_entry ok_mX5_lowestFrom rfl rfl (Nat.le_of_ble_eq_true rfl) (T_X5_lowestFrom_0 G μ t hG ht a1 r h)
def D_X5_leftOf_0 (μ : Mem) (t : Nat) (a1 : Int32) : Option Int64 :=
  gu (ib a1 40) <|
  gu (ib a1 40) <|
  gu (ib a1 40) <|
  some ((((μ.1 (t + 3) (Int32.toNatClampNeg a1) : Int32).toInt64) * ((μ.1 (t + 4) (Int32.toNatClampNeg a1) : Int32).toInt64)) - (μ.2.1 (t + 5) (Int32.toNatClampNeg a1)))
set_option maxRecDepth 20000 in
theorem T_X5_leftOf_0 (G : GX) (μ : Mem) (t : Nat) (hG : gt G = tbl) (ht : IsX5 t) : ∀ (a1 : Int32) (r : Int64) , D_X5_leftOf_0 μ t a1 = some r → V G mX5_leftOf 0 [some (.ref t), some (.int a1)] [] μ (.inl (some (.long r))) (μ) := by
  intro a1 r h
  unfold D_X5_leftOf_0 at h
  refine V_aload_n dX5_leftOf_0 rfl ?_
  refine V_getR (kf := 2) k_X5 (by decide) lk_RX5_18 rfl dX5_leftOf_1 (tq_X5_0 hG ht) rfl ?_
  refine V_iload_n dX5_leftOf_4 rfl ?_
  obtain ⟨g1, h⟩ := gu_o h
  refine V_iaload dX5_leftOf_5 (tq_X5_3 hG ht) (ib_in g1) ?_
  refine V_i2l dX5_leftOf_6 ?_
  refine V_aload_n dX5_leftOf_7 rfl ?_
  refine V_getR (kf := 3) k_X5 (by decide) lk_RX5_21 rfl dX5_leftOf_8 (tq_X5_0 hG ht) rfl ?_
  refine V_iload_n dX5_leftOf_11 rfl ?_
  obtain ⟨g2, h⟩ := gu_o h
  refine V_iaload dX5_leftOf_12 (tq_X5_4 hG ht) (ib_in g2) ?_
  refine V_i2l dX5_leftOf_13 ?_
  refine V_lmul dX5_leftOf_14 ?_
  refine V_aload_n dX5_leftOf_15 rfl ?_
  refine V_getR (kf := 4) k_X5 (by decide) lk_RX5_24 rfl dX5_leftOf_16 (tq_X5_0 hG ht) rfl ?_
  refine V_iload_n dX5_leftOf_19 rfl ?_
  obtain ⟨g3, h⟩ := gu_o h
  refine V_laload dX5_leftOf_20 (tq_X5_5 hG ht) (ib_in g3) ?_
  refine V_lsub dX5_leftOf_21 ?_
  cases h
  exact V_lret rfl dX5_leftOf_22
theorem VM_X5_leftOf (G : GX) (μ : Mem) (t : Nat) (hG : gt G = tbl) (ht : IsX5 t) (a1 : Int32) (r : Int64) (h : D_X5_leftOf_0 μ t a1 = some r) : VM G mX5_leftOf [.ref t, .int a1] μ (.inl (some (.long r))) (μ) := V_entry ok_mX5_leftOf rfl rfl (Nat.le_of_ble_eq_true rfl) (T_X5_leftOf_0 G μ t hG ht a1 r h)
def D_X5_isUsedUp_0 (μ : Mem) (t : Nat) (a1 : Int32) : Option Bool :=
  (D_X5_leftOf_0 μ t a1).bind fun x1 =>
  if (0 : Int64) < x1 then
    some false
  else
    some true
set_option maxRecDepth 20000 in
theorem T_X5_isUsedUp_0 (G : GX) (μ : Mem) (t : Nat) (hG : gt G = tbl) (ht : IsX5 t) : ∀ (a1 : Int32) (r : Bool) , D_X5_isUsedUp_0 μ t a1 = some r → V G mX5_isUsedUp 0 [some (.ref t), some (.int a1)] [] μ (.inl (some (.int (b2i r)))) (μ) := by
  intro a1 r h
  unfold D_X5_isUsedUp_0 at h
  refine V_aload_n dX5_isUsedUp_0 rfl ?_
  refine V_iload_n dX5_isUsedUp_1 rfl ?_
  obtain ⟨x1, y2, h⟩ := bi_o h
  refine V_callV (as := [.int a1]) (q := t) (rest := []) dX5_isUsedUp_2 ov_mX5_leftOf lk_RX5_62 (by decide) (by decide) rfl rfl (Nat.le_of_ble_eq_true rfl) (tq_X5_0 hG ht) rfl (VM_X5_leftOf G μ t hG ht a1 _ y2) ?_
  refine V_lconst (v := 0) dX5_isUsedUp_5 rfl ?_
  refine V_lcmp dX5_isUsedUp_6 ?_
  by_cases c7 : (0 : Int64) < x1
  · rw [if_pos c7] at h
    refine V_ifgt_t (tgt := 14) dX5_isUsedUp_7 (by decide) ((lc_gt x1 0).mpr c7) ?_
    refine V_iconst (v := 0) dX5_isUsedUp_14 rfl ?_
    cases h
    exact V_zret rfl (by decide) dX5_isUsedUp_15
  · rw [if_neg c7] at h
    refine V_ifgt_f (tgt := 14) dX5_isUsedUp_7 (by decide) (fun z => c7 ((lc_gt x1 0).mp z)) ?_
    refine V_iconst (v := 1) dX5_isUsedUp_10 rfl ?_
    refine V_goto (tgt := 15) dX5_isUsedUp_11 (by decide) ?_
    cases h
    exact V_zret rfl (by decide) dX5_isUsedUp_15
theorem VM_X5_isUsedUp (G : GX) (μ : Mem) (t : Nat) (hG : gt G = tbl) (ht : IsX5 t) (a1 : Int32) (r : Bool) (h : D_X5_isUsedUp_0 μ t a1 = some r) : VM G mX5_isUsedUp [.ref t, .int a1] μ (.inl (some (.int (b2i r)))) (μ) := V_entry ok_mX5_isUsedUp rfl rfl (Nat.le_of_ble_eq_true rfl) (T_X5_isUsedUp_0 G μ t hG ht a1 r h)
def D_X5_widthBelow_20 (μ : Mem) (t : Nat) (v1 : Int32) (v2 : Int32) (s0 : Int32) : Option Int32 :=
  (D_X5_layerAt_0 μ t v1 v2).bind fun x1 =>
  gu (ib x1 40) <|
  some ((μ.1 (t + 2) (Int32.toNatClampNeg x1)) - s0)
set_option maxRecDepth 20000 in
theorem T_X5_widthBelow_20 (G : GX) (μ : Mem) (t : Nat) (hG : gt G = tbl) (ht : IsX5 t) : ∀ (v1 : Int32) (v2 : Int32) (s0 : Int32) (r : Int32) , D_X5_widthBelow_20 μ t v1 v2 s0 = some r → V G mX5_widthBelow 20 [some (.ref t), some (.int v1), some (.int v2), none] [.int s0] μ (.inl (some (.int r))) (μ) := by
  intro v1 v2 s0 r h
  unfold D_X5_widthBelow_20 at h
  refine V_istore_n (lv2 := [some (.ref t), some (.int v1), some (.int v2), some (.int s0)]) dX5_widthBelow_20 (by decide) rfl ?_
  refine V_aload_n dX5_widthBelow_21 rfl ?_
  refine V_getR (kf := 1) k_X5 (by decide) lk_RX5_15 rfl dX5_widthBelow_22 (tq_X5_0 hG ht) rfl ?_
  refine V_aload_n dX5_widthBelow_25 rfl ?_
  refine V_iload_n dX5_widthBelow_26 rfl ?_
  refine V_iload_n dX5_widthBelow_27 rfl ?_
  obtain ⟨x1, y2, h⟩ := bi_o h
  refine V_callV (as := [.int v1, .int v2]) (q := t) (rest := [.ref (t + 2)]) dX5_widthBelow_28 ov_mX5_layerAt lk_RX5_66 (by decide) (by decide) rfl rfl (Nat.le_of_ble_eq_true rfl) (tq_X5_0 hG ht) rfl (VM_X5_layerAt G μ t hG ht v1 v2 _ y2) ?_
  obtain ⟨g3, h⟩ := gu_o h
  refine V_iaload dX5_widthBelow_31 (tq_X5_2 hG ht) (ib_in g3) ?_
  refine V_iload_n dX5_widthBelow_32 rfl ?_
  refine V_isub dX5_widthBelow_33 ?_
  cases h
  exact V_iret rfl dX5_widthBelow_34
def D_X5_widthBelow_0 (μ : Mem) (t : Nat) (a1 : Int32) (a2 : Int32) : Option Int32 :=
  if a2 ≤ 0 then
    D_X5_widthBelow_20 μ t a1 a2 0
  else
    (D_X5_layerAt_0 μ t a1 (a2 - 1)).bind fun x4 =>
    (D_X5_topOf_0 μ t x4).bind fun x6 =>
    D_X5_widthBelow_20 μ t a1 a2 x6
set_option maxRecDepth 20000 in
theorem T_X5_widthBelow_0 (G : GX) (μ : Mem) (t : Nat) (hG : gt G = tbl) (ht : IsX5 t) : ∀ (a1 : Int32) (a2 : Int32) (r : Int32) , D_X5_widthBelow_0 μ t a1 a2 = some r → V G mX5_widthBelow 0 [some (.ref t), some (.int a1), some (.int a2), none] [] μ (.inl (some (.int r))) (μ) := by
  intro a1 a2 r h
  unfold D_X5_widthBelow_0 at h
  refine V_iload_n dX5_widthBelow_0 rfl ?_
  by_cases c1 : a2 ≤ 0
  · rw [if_pos c1] at h
    refine V_ifle_t (tgt := 19) dX5_widthBelow_1 (by decide) c1 ?_
    refine V_iconst (v := 0) dX5_widthBelow_19 rfl ?_
    exact V_wk [true, true, true, false] rfl (T_X5_widthBelow_20 G μ t hG ht _ _ _ _ h)
  · rw [if_neg c1] at h
    refine V_ifle_f (tgt := 19) dX5_widthBelow_1 (by decide) c1 ?_
    refine V_aload_n dX5_widthBelow_4 rfl ?_
    refine V_aload_n dX5_widthBelow_5 rfl ?_
    refine V_iload_n dX5_widthBelow_6 rfl ?_
    refine V_iload_n dX5_widthBelow_7 rfl ?_
    refine V_iconst (v := 1) dX5_widthBelow_8 rfl ?_
    refine V_isub dX5_widthBelow_9 ?_
    obtain ⟨x4, y5, h⟩ := bi_o h
    refine V_callV (as := [.int a1, .int (a2 - 1)]) (q := t) (rest := [.ref t]) dX5_widthBelow_10 ov_mX5_layerAt lk_RX5_66 (by decide) (by decide) rfl rfl (Nat.le_of_ble_eq_true rfl) (tq_X5_0 hG ht) rfl (VM_X5_layerAt G μ t hG ht a1 (a2 - 1) _ y5) ?_
    obtain ⟨x6, y7, h⟩ := bi_o h
    refine V_callV (as := [.int x4]) (q := t) (rest := []) dX5_widthBelow_13 ov_mX5_topOf lk_RX5_70 (by decide) (by decide) rfl rfl (Nat.le_of_ble_eq_true rfl) (tq_X5_0 hG ht) rfl (VM_X5_topOf G μ t hG ht x4 _ y7) ?_
    refine V_goto (tgt := 20) dX5_widthBelow_16 (by decide) ?_
    exact V_wk [true, true, true, false] rfl (T_X5_widthBelow_20 G μ t hG ht _ _ _ _ h)
theorem VM_X5_widthBelow (G : GX) (μ : Mem) (t : Nat) (hG : gt G = tbl) (ht : IsX5 t) (a1 : Int32) (a2 : Int32) (r : Int32) (h : D_X5_widthBelow_0 μ t a1 a2 = some r) : VM G mX5_widthBelow [.ref t, .int a1, .int a2] μ (.inl (some (.int r))) (μ) := V_entry ok_mX5_widthBelow rfl rfl (Nat.le_of_ble_eq_true rfl) (T_X5_widthBelow_0 G μ t hG ht a1 a2 r h)
def D_X5_standOf_47 (fu : Nat) (μ : Mem) (t : Nat) (k12 : Int32 → Int32 → Int32 → Int32 → Option Int32) (v1 : Int32) (v2 : Int32) (v3 : Int32) (v4 : Int32) : Option Int32 :=
  k12 v1 v2 v3 (v4 + 1)
set_option maxRecDepth 20000 in
theorem T_X5_standOf_47 (G : GX) (fu : Nat) (μ : Mem) (t : Nat) (hG : gt G = tbl) (ht : IsX5 t) (k12 : Int32 → Int32 → Int32 → Int32 → Option Int32) (hk12 : ∀ (v1 : Int32) (v2 : Int32) (v3 : Int32) (v4 : Int32) (r : Int32), k12 v1 v2 v3 v4 = some r → V G mX5_standOf 12 [some (.ref t), some (.int v1), some (.int v2), some (.int v3), some (.int v4)] [] μ (.inl (some (.int r))) (μ)) : ∀ (v1 : Int32) (v2 : Int32) (v3 : Int32) (v4 : Int32) (r : Int32) , D_X5_standOf_47 fu μ t k12 v1 v2 v3 v4 = some r → V G mX5_standOf 47 [some (.ref t), some (.int v1), some (.int v2), some (.int v3), some (.int v4)] [] μ (.inl (some (.int r))) (μ) := by
  intro v1 v2 v3 v4 r h
  unfold D_X5_standOf_47 at h
  refine V_iinc (v := v4 + 1) (lv2 := [some (.ref t), some (.int v1), some (.int v2), some (.int v3), some (.int (v4 + 1))]) dX5_standOf_47 rfl rfl (by decide) rfl ?_
  refine V_goto (tgt := 12) dX5_standOf_50 (by decide) ?_
  exact V_wk [true, true, true, true, true] rfl (hk12 _ _ _ _ _ h)
def D_X5_standOf_12 (fu : Nat) (μ : Mem) (t : Nat) : Nat → Int32 → Int32 → Int32 → Int32 → Option Int32
  | 0, _, _, _, _ => none
  | n + 1, v1, v2, v3, v4 =>
    gu (ib v2 12) <|
    if (μ.1 (t + 12) (Int32.toNatClampNeg v2)) ≤ v4 then
      some v3
    else
      (D_X5_layerAt_0 μ t v2 v4).bind fun x3 =>
      gu (ib x3 40) <|
      gu (ib v1 40) <|
      if (μ.1 (t + 2) (Int32.toNatClampNeg v1)) ≤ (μ.1 (t + 2) (Int32.toNatClampNeg x3)) then
        D_X5_standOf_47 fu μ t (D_X5_standOf_12 fu μ t n) v1 v2 v3 v4
      else
        D_X5_standOf_47 fu μ t (D_X5_standOf_12 fu μ t n) v1 v2 (v3 + 1) v4
set_option maxRecDepth 20000 in
theorem T_X5_standOf_12 (G : GX) (fu : Nat) (μ : Mem) (t : Nat) (hG : gt G = tbl) (ht : IsX5 t) : ∀ (n : Nat) (v1 : Int32) (v2 : Int32) (v3 : Int32) (v4 : Int32) (r : Int32) , D_X5_standOf_12 fu μ t n v1 v2 v3 v4 = some r → V G mX5_standOf 12 [some (.ref t), some (.int v1), some (.int v2), some (.int v3), some (.int v4)] [] μ (.inl (some (.int r))) (μ) := by
  intro n
  induction n with
  | zero =>
    intro v1 v2 v3 v4 r h
    exact nomatch (show (none : Option Int32) = some r from h)
  | succ n ih =>
    intro v1 v2 v3 v4 r h
    rw [D_X5_standOf_12] at h
    refine V_iload dX5_standOf_12 rfl ?_
    refine V_aload_n dX5_standOf_14 rfl ?_
    refine V_getR (kf := 11) k_X5 (by decide) lk_RX5_46 rfl dX5_standOf_15 (tq_X5_0 hG ht) rfl ?_
    refine V_iload_n dX5_standOf_18 rfl ?_
    obtain ⟨g2, h⟩ := gu_o h
    refine V_iaload dX5_standOf_19 (tq_X5_12 hG ht) (ib_in g2) ?_
    by_cases c20 : (μ.1 (t + 12) (Int32.toNatClampNeg v2)) ≤ v4
    · rw [if_pos c20] at h
      refine V_icmpge_t (tgt := 53) dX5_standOf_20 (by decide) c20 ?_
      refine V_iload_n dX5_standOf_53 rfl ?_
      cases h
      exact V_iret rfl dX5_standOf_54
    · rw [if_neg c20] at h
      refine V_icmpge_f (tgt := 53) dX5_standOf_20 (by decide) c20 ?_
      refine V_aload_n dX5_standOf_23 rfl ?_
      refine V_getR (kf := 1) k_X5 (by decide) lk_RX5_15 rfl dX5_standOf_24 (tq_X5_0 hG ht) rfl ?_
      refine V_aload_n dX5_standOf_27 rfl ?_
      refine V_iload_n dX5_standOf_28 rfl ?_
      refine V_iload dX5_standOf_29 rfl ?_
      obtain ⟨x3, y4, h⟩ := bi_o h
      refine V_callV (as := [.int v2, .int v4]) (q := t) (rest := [.ref (t + 2)]) dX5_standOf_31 ov_mX5_layerAt lk_RX5_66 (by decide) (by decide) rfl rfl (Nat.le_of_ble_eq_true rfl) (tq_X5_0 hG ht) rfl (VM_X5_layerAt G μ t hG ht v2 v4 _ y4) ?_
      obtain ⟨g5, h⟩ := gu_o h
      refine V_iaload dX5_standOf_34 (tq_X5_2 hG ht) (ib_in g5) ?_
      refine V_aload_n dX5_standOf_35 rfl ?_
      refine V_getR (kf := 1) k_X5 (by decide) lk_RX5_15 rfl dX5_standOf_36 (tq_X5_0 hG ht) rfl ?_
      refine V_iload_n dX5_standOf_39 rfl ?_
      obtain ⟨g6, h⟩ := gu_o h
      refine V_iaload dX5_standOf_40 (tq_X5_2 hG ht) (ib_in g6) ?_
      by_cases c41 : (μ.1 (t + 2) (Int32.toNatClampNeg v1)) ≤ (μ.1 (t + 2) (Int32.toNatClampNeg x3))
      · rw [if_pos c41] at h
        refine V_icmpge_t (tgt := 47) dX5_standOf_41 (by decide) c41 ?_
        exact V_wk [true, true, true, true, true] rfl (T_X5_standOf_47 G fu μ t hG ht (D_X5_standOf_12 fu μ t n) ih _ _ _ _ _ h)
      · rw [if_neg c41] at h
        refine V_icmpge_f (tgt := 47) dX5_standOf_41 (by decide) c41 ?_
        refine V_iinc (v := v3 + 1) (lv2 := [some (.ref t), some (.int v1), some (.int v2), some (.int (v3 + 1)), some (.int v4)]) dX5_standOf_44 rfl rfl (by decide) rfl ?_
        exact V_wk [true, true, true, true, true] rfl (T_X5_standOf_47 G fu μ t hG ht (D_X5_standOf_12 fu μ t n) ih _ _ _ _ _ h)
def D_X5_standOf_0 (fu : Nat) (μ : Mem) (t : Nat) (a1 : Int32) : Option Int32 :=
  gu (ib a1 40) <|
  D_X5_standOf_12 fu μ t fu a1 (μ.1 (t + 1) (Int32.toNatClampNeg a1)) 0 0
set_option maxRecDepth 20000 in
theorem T_X5_standOf_0 (G : GX) (fu : Nat) (μ : Mem) (t : Nat) (hG : gt G = tbl) (ht : IsX5 t) : ∀ (a1 : Int32) (r : Int32) , D_X5_standOf_0 fu μ t a1 = some r → V G mX5_standOf 0 [some (.ref t), some (.int a1), none, none, none] [] μ (.inl (some (.int r))) (μ) := by
  intro a1 r h
  unfold D_X5_standOf_0 at h
  refine V_aload_n dX5_standOf_0 rfl ?_
  refine V_getR (kf := 0) k_X5 (by decide) lk_RX5_9 rfl dX5_standOf_1 (tq_X5_0 hG ht) rfl ?_
  refine V_iload_n dX5_standOf_4 rfl ?_
  obtain ⟨g1, h⟩ := gu_o h
  refine V_iaload dX5_standOf_5 (tq_X5_1 hG ht) (ib_in g1) ?_
  refine V_istore_n (lv2 := [some (.ref t), some (.int a1), some (.int (μ.1 (t + 1) (Int32.toNatClampNeg a1))), none, none]) dX5_standOf_6 (by decide) rfl ?_
  refine V_iconst (v := 0) dX5_standOf_7 rfl ?_
  refine V_istore_n (lv2 := [some (.ref t), some (.int a1), some (.int (μ.1 (t + 1) (Int32.toNatClampNeg a1))), some (.int 0), none]) dX5_standOf_8 (by decide) rfl ?_
  refine V_iconst (v := 0) dX5_standOf_9 rfl ?_
  refine V_istore (lv2 := [some (.ref t), some (.int a1), some (.int (μ.1 (t + 1) (Int32.toNatClampNeg a1))), some (.int 0), some (.int 0)]) dX5_standOf_10 (by decide) rfl ?_
  exact V_wk [true, true, true, true, true] rfl (T_X5_standOf_12 G fu μ t hG ht fu _ _ _ _ _ h)
theorem VM_X5_standOf (G : GX) (fu : Nat) (μ : Mem) (t : Nat) (hG : gt G = tbl) (ht : IsX5 t) (a1 : Int32) (r : Int32) (h : D_X5_standOf_0 fu μ t a1 = some r) : VM G mX5_standOf [.ref t, .int a1] μ (.inl (some (.int r))) (μ) := V_entry ok_mX5_standOf rfl rfl (Nat.le_of_ble_eq_true rfl) (T_X5_standOf_0 G fu μ t hG ht a1 r h)
def D_X5_isFree_48 (fu : Nat) (μ : Mem) (t : Nat) (k3 : Int32 → Int32 → Int32 → Int32 → Option Bool) (v1 : Int32) (v2 : Int32) (v3 : Int32) (v4 : Int32) : Option Bool :=
  k3 v1 v2 v3 (v4 + 1)
set_option maxRecDepth 20000 in
theorem T_X5_isFree_48 (G : GX) (fu : Nat) (μ : Mem) (t : Nat) (hG : gt G = tbl) (ht : IsX5 t) (k3 : Int32 → Int32 → Int32 → Int32 → Option Bool) (hk3 : ∀ (v1 : Int32) (v2 : Int32) (v3 : Int32) (v4 : Int32) (r : Bool), k3 v1 v2 v3 v4 = some r → V G mX5_isFree 3 [some (.ref t), some (.int v1), some (.int v2), some (.int v3), some (.int v4), none] [] μ (.inl (some (.int (b2i r)))) (μ)) : ∀ (v1 : Int32) (v2 : Int32) (v3 : Int32) (v4 : Int32) (r : Bool) , D_X5_isFree_48 fu μ t k3 v1 v2 v3 v4 = some r → V G mX5_isFree 48 [some (.ref t), some (.int v1), some (.int v2), some (.int v3), some (.int v4), none] [] μ (.inl (some (.int (b2i r)))) (μ) := by
  intro v1 v2 v3 v4 r h
  unfold D_X5_isFree_48 at h
  refine V_iinc (v := v4 + 1) (lv2 := [some (.ref t), some (.int v1), some (.int v2), some (.int v3), some (.int (v4 + 1)), none]) dX5_isFree_48 rfl rfl (by decide) rfl ?_
  refine V_goto (tgt := 3) dX5_isFree_51 (by decide) ?_
  exact V_wk [true, true, true, true, true, false] rfl (hk3 _ _ _ _ _ h)
def D_X5_isFree_3 (fu : Nat) (μ : Mem) (t : Nat) : Nat → Int32 → Int32 → Int32 → Int32 → Option Bool
  | 0, _, _, _, _ => none
  | n + 1, v1, v2, v3, v4 =>
    gu (ib v1 12) <|
    if (μ.1 (t + 12) (Int32.toNatClampNeg v1)) ≤ v4 then
      some true
    else
      (D_X5_layerAt_0 μ t v1 v4).bind fun x2 =>
      (D_X5_topOf_0 μ t x2).bind fun x4 =>
      if x4 ≤ v2 then
        D_X5_isFree_48 fu μ t (D_X5_isFree_3 fu μ t n) v1 v2 v3 v4
      else
        gu (ib x2 40) <|
        if (v2 + v3) ≤ (μ.1 (t + 2) (Int32.toNatClampNeg x2)) then
          D_X5_isFree_48 fu μ t (D_X5_isFree_3 fu μ t n) v1 v2 v3 v4
        else
          some false
set_option maxRecDepth 20000 in
theorem T_X5_isFree_3 (G : GX) (fu : Nat) (μ : Mem) (t : Nat) (hG : gt G = tbl) (ht : IsX5 t) : ∀ (n : Nat) (v1 : Int32) (v2 : Int32) (v3 : Int32) (v4 : Int32) (r : Bool) , D_X5_isFree_3 fu μ t n v1 v2 v3 v4 = some r → V G mX5_isFree 3 [some (.ref t), some (.int v1), some (.int v2), some (.int v3), some (.int v4), none] [] μ (.inl (some (.int (b2i r)))) (μ) := by
  intro n
  induction n with
  | zero =>
    intro v1 v2 v3 v4 r h
    exact nomatch (show (none : Option Bool) = some r from h)
  | succ n ih =>
    intro v1 v2 v3 v4 r h
    rw [D_X5_isFree_3] at h
    refine V_iload dX5_isFree_3 rfl ?_
    refine V_aload_n dX5_isFree_5 rfl ?_
    refine V_getR (kf := 11) k_X5 (by decide) lk_RX5_46 rfl dX5_isFree_6 (tq_X5_0 hG ht) rfl ?_
    refine V_iload_n dX5_isFree_9 rfl ?_
    obtain ⟨g1, h⟩ := gu_o h
    refine V_iaload dX5_isFree_10 (tq_X5_12 hG ht) (ib_in g1) ?_
    by_cases c11 : (μ.1 (t + 12) (Int32.toNatClampNeg v1)) ≤ v4
    · rw [if_pos c11] at h
      refine V_icmpge_t (tgt := 54) dX5_isFree_11 (by decide) c11 ?_
      refine V_iconst (v := 1) dX5_isFree_54 rfl ?_
      cases h
      exact V_zret rfl (by decide) dX5_isFree_55
    · rw [if_neg c11] at h
      refine V_icmpge_f (tgt := 54) dX5_isFree_11 (by decide) c11 ?_
      refine V_aload_n dX5_isFree_14 rfl ?_
      refine V_iload_n dX5_isFree_15 rfl ?_
      refine V_iload dX5_isFree_16 rfl ?_
      obtain ⟨x2, y3, h⟩ := bi_o h
      refine V_callV (as := [.int v1, .int v4]) (q := t) (rest := []) dX5_isFree_18 ov_mX5_layerAt lk_RX5_66 (by decide) (by decide) rfl rfl (Nat.le_of_ble_eq_true rfl) (tq_X5_0 hG ht) rfl (VM_X5_layerAt G μ t hG ht v1 v4 _ y3) ?_
      refine V_istore (lv2 := [some (.ref t), some (.int v1), some (.int v2), some (.int v3), some (.int v4), some (.int x2)]) dX5_isFree_21 (by decide) rfl ?_
      refine V_iload_n dX5_isFree_23 rfl ?_
      refine V_aload_n dX5_isFree_24 rfl ?_
      refine V_iload dX5_isFree_25 rfl ?_
      obtain ⟨x4, y5, h⟩ := bi_o h
      refine V_callV (as := [.int x2]) (q := t) (rest := [.int v2]) dX5_isFree_27 ov_mX5_topOf lk_RX5_70 (by decide) (by decide) rfl rfl (Nat.le_of_ble_eq_true rfl) (tq_X5_0 hG ht) rfl (VM_X5_topOf G μ t hG ht x2 _ y5) ?_
      by_cases c30 : x4 ≤ v2
      · rw [if_pos c30] at h
        refine V_icmpge_t (tgt := 48) dX5_isFree_30 (by decide) c30 ?_
        exact V_wk [true, true, true, true, true, false] rfl (T_X5_isFree_48 G fu μ t hG ht (D_X5_isFree_3 fu μ t n) ih _ _ _ _ _ h)
      · rw [if_neg c30] at h
        refine V_icmpge_f (tgt := 48) dX5_isFree_30 (by decide) c30 ?_
        refine V_aload_n dX5_isFree_33 rfl ?_
        refine V_getR (kf := 1) k_X5 (by decide) lk_RX5_15 rfl dX5_isFree_34 (tq_X5_0 hG ht) rfl ?_
        refine V_iload dX5_isFree_37 rfl ?_
        obtain ⟨g6, h⟩ := gu_o h
        refine V_iaload dX5_isFree_39 (tq_X5_2 hG ht) (ib_in g6) ?_
        refine V_iload_n dX5_isFree_40 rfl ?_
        refine V_iload_n dX5_isFree_41 rfl ?_
        refine V_iadd dX5_isFree_42 ?_
        by_cases c43 : (v2 + v3) ≤ (μ.1 (t + 2) (Int32.toNatClampNeg x2))
        · rw [if_pos c43] at h
          refine V_icmpge_t (tgt := 48) dX5_isFree_43 (by decide) c43 ?_
          exact V_wk [true, true, true, true, true, false] rfl (T_X5_isFree_48 G fu μ t hG ht (D_X5_isFree_3 fu μ t n) ih _ _ _ _ _ h)
        · rw [if_neg c43] at h
          refine V_icmpge_f (tgt := 48) dX5_isFree_43 (by decide) c43 ?_
          refine V_iconst (v := 0) dX5_isFree_46 rfl ?_
          cases h
          exact V_zret rfl (by decide) dX5_isFree_47
def D_X5_isFree_0 (fu : Nat) (μ : Mem) (t : Nat) (a1 : Int32) (a2 : Int32) (a3 : Int32) : Option Bool :=
  D_X5_isFree_3 fu μ t fu a1 a2 a3 0
set_option maxRecDepth 20000 in
theorem T_X5_isFree_0 (G : GX) (fu : Nat) (μ : Mem) (t : Nat) (hG : gt G = tbl) (ht : IsX5 t) : ∀ (a1 : Int32) (a2 : Int32) (a3 : Int32) (r : Bool) , D_X5_isFree_0 fu μ t a1 a2 a3 = some r → V G mX5_isFree 0 [some (.ref t), some (.int a1), some (.int a2), some (.int a3), none, none] [] μ (.inl (some (.int (b2i r)))) (μ) := by
  intro a1 a2 a3 r h
  unfold D_X5_isFree_0 at h
  refine V_iconst (v := 0) dX5_isFree_0 rfl ?_
  refine V_istore (lv2 := [some (.ref t), some (.int a1), some (.int a2), some (.int a3), some (.int 0), none]) dX5_isFree_1 (by decide) rfl ?_
  exact V_wk [true, true, true, true, true, false] rfl (T_X5_isFree_3 G fu μ t hG ht fu _ _ _ _ _ h)
theorem VM_X5_isFree (G : GX) (fu : Nat) (μ : Mem) (t : Nat) (hG : gt G = tbl) (ht : IsX5 t) (a1 : Int32) (a2 : Int32) (a3 : Int32) (r : Bool) (h : D_X5_isFree_0 fu μ t a1 a2 a3 = some r) : VM G mX5_isFree [.ref t, .int a1, .int a2, .int a3] μ (.inl (some (.int (b2i r)))) (μ) := V_entry ok_mX5_isFree rfl rfl (Nat.le_of_ble_eq_true rfl) (T_X5_isFree_0 G fu μ t hG ht a1 a2 a3 r h)
def D_X5_put_96 (fu : Nat) (t : Nat) (v1 : Int32) (v2 : Int32) (v3 : Int32) (v4 : Int32) (v5 : Int32) (v6 : Int32) (μ : Mem) : Option (Bool × Mem) :=
  gu (ib ((v2 * 6) + v6) 72) <|
  vl (wI μ (t + 11) (Int32.toNatClampNeg ((v2 * 6) + v6)) v1) fun m8 =>
  gu (ib v2 12) <|
  gu (ib v2 12) <|
  vl (wI m8 (t + 12) (Int32.toNatClampNeg v2) ((m8.1 (t + 12) (Int32.toNatClampNeg v2)) + 1)) fun m12 =>
  gu (ib v1 40) <|
  vl (wI m12 (t + 1) (Int32.toNatClampNeg v1) v2) fun m15 =>
  gu (ib v1 40) <|
  vl (wI m15 (t + 2) (Int32.toNatClampNeg v1) v3) fun m18 =>
  gu (ib v1 40) <|
  vl (wI m18 (t + 3) (Int32.toNatClampNeg v1) v4) fun m21 =>
  gu (ib v1 40) <|
  vl (wI m21 (t + 4) (Int32.toNatClampNeg v1) v5) fun m24 =>
  gu (ib v1 40) <|
  vl (wL m24 (t + 5) (Int32.toNatClampNeg v1) 0) fun m27 =>
  gu (ib v1 40) <|
  vl (wI m27 (t + 6) (Int32.toNatClampNeg v1) 0) fun m30 =>
  gu (ib v1 40) <|
  vl (wI m30 (t + 7) (Int32.toNatClampNeg v1) 0) fun m33 =>
  vl (wI m33 t 13 (if (m33.1 t 13) < (v1 + 1) then (v1 + 1) else (m33.1 t 13))) fun m35 =>
  some (true, m35)
set_option maxRecDepth 20000 in
theorem T_X5_put_96 (G : GX) (fu : Nat) (t : Nat) (hG : gt G = tbl) (ht : IsX5 t) : ∀ (v1 : Int32) (v2 : Int32) (v3 : Int32) (v4 : Int32) (v5 : Int32) (v6 : Int32) (μ : Mem) (r : (Bool × Mem)) , D_X5_put_96 fu t v1 v2 v3 v4 v5 v6 μ = some r → V G mX5_put 96 [some (.ref t), some (.int v1), some (.int v2), some (.int v3), some (.int v4), some (.int v5), some (.int v6)] [] μ (.inl (some (.int (b2i r.1)))) (r.2) := by
  intro v1 v2 v3 v4 v5 v6 μ r h
  unfold D_X5_put_96 at h
  refine V_aload_n dX5_put_96 rfl ?_
  refine V_getR (kf := 10) k_X5 (by decide) lk_RX5_43 rfl dX5_put_97 (tq_X5_0 hG ht) rfl ?_
  refine V_iload_n dX5_put_100 rfl ?_
  refine V_bipush (v := 6) dX5_put_101 rfl ?_
  refine V_imul dX5_put_103 ?_
  refine V_iload dX5_put_104 rfl ?_
  refine V_iadd dX5_put_106 ?_
  refine V_iload_n dX5_put_107 rfl ?_
  obtain ⟨g7, h⟩ := gu_o h
  obtain ⟨m8, e9, h⟩ := vl_o h
  refine V_iastore (μ2 := m8) dX5_put_108 (tq_X5_11 hG ht) (ib_in g7) e9.symm ?_
  refine V_aload_n dX5_put_109 rfl ?_
  refine V_getR (kf := 11) k_X5 (by decide) lk_RX5_46 rfl dX5_put_110 (tq_X5_0 hG ht) rfl ?_
  refine V_iload_n dX5_put_113 rfl ?_
  refine V_dup2 dX5_put_114 rfl rfl ?_
  obtain ⟨g10, h⟩ := gu_o h
  refine V_iaload dX5_put_115 (tq_X5_12 hG ht) (ib_in g10) ?_
  refine V_iconst (v := 1) dX5_put_116 rfl ?_
  refine V_iadd dX5_put_117 ?_
  obtain ⟨g11, h⟩ := gu_o h
  obtain ⟨m12, e13, h⟩ := vl_o h
  refine V_iastore (μ2 := m12) dX5_put_118 (tq_X5_12 hG ht) (ib_in g11) e13.symm ?_
  refine V_aload_n dX5_put_119 rfl ?_
  refine V_getR (kf := 0) k_X5 (by decide) lk_RX5_9 rfl dX5_put_120 (tq_X5_0 hG ht) rfl ?_
  refine V_iload_n dX5_put_123 rfl ?_
  refine V_iload_n dX5_put_124 rfl ?_
  obtain ⟨g14, h⟩ := gu_o h
  obtain ⟨m15, e16, h⟩ := vl_o h
  refine V_iastore (μ2 := m15) dX5_put_125 (tq_X5_1 hG ht) (ib_in g14) e16.symm ?_
  refine V_aload_n dX5_put_126 rfl ?_
  refine V_getR (kf := 1) k_X5 (by decide) lk_RX5_15 rfl dX5_put_127 (tq_X5_0 hG ht) rfl ?_
  refine V_iload_n dX5_put_130 rfl ?_
  refine V_iload_n dX5_put_131 rfl ?_
  obtain ⟨g17, h⟩ := gu_o h
  obtain ⟨m18, e19, h⟩ := vl_o h
  refine V_iastore (μ2 := m18) dX5_put_132 (tq_X5_2 hG ht) (ib_in g17) e19.symm ?_
  refine V_aload_n dX5_put_133 rfl ?_
  refine V_getR (kf := 2) k_X5 (by decide) lk_RX5_18 rfl dX5_put_134 (tq_X5_0 hG ht) rfl ?_
  refine V_iload_n dX5_put_137 rfl ?_
  refine V_iload dX5_put_138 rfl ?_
  obtain ⟨g20, h⟩ := gu_o h
  obtain ⟨m21, e22, h⟩ := vl_o h
  refine V_iastore (μ2 := m21) dX5_put_140 (tq_X5_3 hG ht) (ib_in g20) e22.symm ?_
  refine V_aload_n dX5_put_141 rfl ?_
  refine V_getR (kf := 3) k_X5 (by decide) lk_RX5_21 rfl dX5_put_142 (tq_X5_0 hG ht) rfl ?_
  refine V_iload_n dX5_put_145 rfl ?_
  refine V_iload dX5_put_146 rfl ?_
  obtain ⟨g23, h⟩ := gu_o h
  obtain ⟨m24, e25, h⟩ := vl_o h
  refine V_iastore (μ2 := m24) dX5_put_148 (tq_X5_4 hG ht) (ib_in g23) e25.symm ?_
  refine V_aload_n dX5_put_149 rfl ?_
  refine V_getR (kf := 4) k_X5 (by decide) lk_RX5_24 rfl dX5_put_150 (tq_X5_0 hG ht) rfl ?_
  refine V_iload_n dX5_put_153 rfl ?_
  refine V_lconst (v := 0) dX5_put_154 rfl ?_
  obtain ⟨g26, h⟩ := gu_o h
  obtain ⟨m27, e28, h⟩ := vl_o h
  refine V_lastore (μ2 := m27) dX5_put_155 (tq_X5_5 hG ht) (ib_in g26) e28.symm ?_
  refine V_aload_n dX5_put_156 rfl ?_
  refine V_getR (kf := 5) k_X5 (by decide) lk_RX5_28 rfl dX5_put_157 (tq_X5_0 hG ht) rfl ?_
  refine V_iload_n dX5_put_160 rfl ?_
  refine V_iconst (v := 0) dX5_put_161 rfl ?_
  obtain ⟨g29, h⟩ := gu_o h
  obtain ⟨m30, e31, h⟩ := vl_o h
  refine V_iastore (μ2 := m30) dX5_put_162 (tq_X5_6 hG ht) (ib_in g29) e31.symm ?_
  refine V_aload_n dX5_put_163 rfl ?_
  refine V_getR (kf := 6) k_X5 (by decide) lk_RX5_31 rfl dX5_put_164 (tq_X5_0 hG ht) rfl ?_
  refine V_iload_n dX5_put_167 rfl ?_
  refine V_iconst (v := 0) dX5_put_168 rfl ?_
  obtain ⟨g32, h⟩ := gu_o h
  obtain ⟨m33, e34, h⟩ := vl_o h
  refine V_iastore (μ2 := m33) dX5_put_169 (tq_X5_7 hG ht) (ib_in g32) e34.symm ?_
  refine V_aload_n dX5_put_170 rfl ?_
  refine V_aload_n dX5_put_171 rfl ?_
  refine V_getI (kf := 13) k_X5 (by decide) lk_RX5_59 rfl dX5_put_172 (tq_X5_0 hG ht) rfl ?_
  refine V_iload_n dX5_put_175 rfl ?_
  refine V_iconst (v := 1) dX5_put_176 rfl ?_
  refine V_iadd dX5_put_177 ?_
  refine V_mmaxI dX5_put_178 lk_RX5_82 ma_maxI_s ma_maxI_c in_java_lang_Math (by decide) (Nat.le_of_ble_eq_true rfl) ?_
  obtain ⟨m35, e36, h⟩ := vl_o h
  refine V_putI (kf := 13) k_X5 (by decide) lk_RX5_59 rfl rfl (by decide +kernel) dX5_put_181 (tq_X5_0 hG ht) rfl e36.symm ?_
  refine V_iconst (v := 1) dX5_put_184 rfl ?_
  cases h
  exact V_zret rfl (by decide) dX5_put_185
def D_X5_put_46 (fu : Nat) (t : Nat) : Nat → Int32 → Int32 → Int32 → Int32 → Int32 → Int32 → Mem → Option (Bool × Mem)
  | 0, _, _, _, _, _, _, _ => none
  | n + 1, v1, v2, v3, v4, v5, v6, μ =>
    if v6 ≤ 0 then
      D_X5_put_96 fu t v1 v2 v3 v4 v5 v6 μ
    else
      (D_X5_layerAt_0 μ t v2 (v6 - 1)).bind fun x37 =>
      gu (ib x37 40) <|
      if (μ.1 (t + 2) (Int32.toNatClampNeg x37)) ≤ v3 then
        D_X5_put_96 fu t v1 v2 v3 v4 v5 v6 μ
      else
        (D_X5_layerAt_0 μ t v2 (v6 - 1)).bind fun x40 =>
        gu (ib ((v2 * 6) + v6) 72) <|
        vl (wI μ (t + 11) (Int32.toNatClampNeg ((v2 * 6) + v6)) x40) fun m43 =>
        (D_X5_put_46 fu t n) v1 v2 v3 v4 v5 (v6 + (-1)) m43
set_option maxRecDepth 20000 in
theorem T_X5_put_46 (G : GX) (fu : Nat) (t : Nat) (hG : gt G = tbl) (ht : IsX5 t) : ∀ (n : Nat) (v1 : Int32) (v2 : Int32) (v3 : Int32) (v4 : Int32) (v5 : Int32) (v6 : Int32) (μ : Mem) (r : (Bool × Mem)) , D_X5_put_46 fu t n v1 v2 v3 v4 v5 v6 μ = some r → V G mX5_put 46 [some (.ref t), some (.int v1), some (.int v2), some (.int v3), some (.int v4), some (.int v5), some (.int v6)] [] μ (.inl (some (.int (b2i r.1)))) (r.2) := by
  intro n
  induction n with
  | zero =>
    intro v1 v2 v3 v4 v5 v6 μ r h
    exact nomatch (show (none : Option (Bool × Mem)) = some r from h)
  | succ n ih =>
    intro v1 v2 v3 v4 v5 v6 μ r h
    rw [D_X5_put_46] at h
    refine V_iload dX5_put_46 rfl ?_
    by_cases c48 : v6 ≤ 0
    · rw [if_pos c48] at h
      refine V_ifle_t (tgt := 96) dX5_put_48 (by decide) c48 ?_
      exact V_wk [true, true, true, true, true, true, true] rfl (T_X5_put_96 G fu t hG ht _ _ _ _ _ _ _ _ h)
    · rw [if_neg c48] at h
      refine V_ifle_f (tgt := 96) dX5_put_48 (by decide) c48 ?_
      refine V_aload_n dX5_put_51 rfl ?_
      refine V_getR (kf := 1) k_X5 (by decide) lk_RX5_15 rfl dX5_put_52 (tq_X5_0 hG ht) rfl ?_
      refine V_aload_n dX5_put_55 rfl ?_
      refine V_iload_n dX5_put_56 rfl ?_
      refine V_iload dX5_put_57 rfl ?_
      refine V_iconst (v := 1) dX5_put_59 rfl ?_
      refine V_isub dX5_put_60 ?_
      obtain ⟨x37, y38, h⟩ := bi_o h
      refine V_callV (as := [.int v2, .int (v6 - 1)]) (q := t) (rest := [.ref (t + 2)]) dX5_put_61 ov_mX5_layerAt lk_RX5_66 (by decide) (by decide) rfl rfl (Nat.le_of_ble_eq_true rfl) (tq_X5_0 hG ht) rfl (VM_X5_layerAt G μ t hG ht v2 (v6 - 1) _ y38) ?_
      obtain ⟨g39, h⟩ := gu_o h
      refine V_iaload dX5_put_64 (tq_X5_2 hG ht) (ib_in g39) ?_
      refine V_iload_n dX5_put_65 rfl ?_
      by_cases c66 : (μ.1 (t + 2) (Int32.toNatClampNeg x37)) ≤ v3
      · rw [if_pos c66] at h
        refine V_icmple_t (tgt := 96) dX5_put_66 (by decide) c66 ?_
        exact V_wk [true, true, true, true, true, true, true] rfl (T_X5_put_96 G fu t hG ht _ _ _ _ _ _ _ _ h)
      · rw [if_neg c66] at h
        refine V_icmple_f (tgt := 96) dX5_put_66 (by decide) c66 ?_
        refine V_aload_n dX5_put_69 rfl ?_
        refine V_getR (kf := 10) k_X5 (by decide) lk_RX5_43 rfl dX5_put_70 (tq_X5_0 hG ht) rfl ?_
        refine V_iload_n dX5_put_73 rfl ?_
        refine V_bipush (v := 6) dX5_put_74 rfl ?_
        refine V_imul dX5_put_76 ?_
        refine V_iload dX5_put_77 rfl ?_
        refine V_iadd dX5_put_79 ?_
        refine V_aload_n dX5_put_80 rfl ?_
        refine V_iload_n dX5_put_81 rfl ?_
        refine V_iload dX5_put_82 rfl ?_
        refine V_iconst (v := 1) dX5_put_84 rfl ?_
        refine V_isub dX5_put_85 ?_
        obtain ⟨x40, y41, h⟩ := bi_o h
        refine V_callV (as := [.int v2, .int (v6 - 1)]) (q := t) (rest := [.int ((v2 * 6) + v6), .ref (t + 11)]) dX5_put_86 ov_mX5_layerAt lk_RX5_66 (by decide) (by decide) rfl rfl (Nat.le_of_ble_eq_true rfl) (tq_X5_0 hG ht) rfl (VM_X5_layerAt G μ t hG ht v2 (v6 - 1) _ y41) ?_
        obtain ⟨g42, h⟩ := gu_o h
        obtain ⟨m43, e44, h⟩ := vl_o h
        refine V_iastore (μ2 := m43) dX5_put_89 (tq_X5_11 hG ht) (ib_in g42) e44.symm ?_
        refine V_iinc (v := v6 + (-1)) (lv2 := [some (.ref t), some (.int v1), some (.int v2), some (.int v3), some (.int v4), some (.int v5), some (.int (v6 + (-1)))]) dX5_put_90 rfl rfl (by decide) rfl ?_
        refine V_goto (tgt := 46) dX5_put_93 (by decide) ?_
        exact V_wk [true, true, true, true, true, true, true] rfl (ih _ _ _ _ _ _ _ _ h)
def D_X5_put_0 (fu : Nat) (t : Nat) (a1 : Int32) (a2 : Int32) (a3 : Int32) (a4 : Int32) (a5 : Int32) (μ : Mem) : Option (Bool × Mem) :=
  if (40 : Int32) ≤ a1 then
    some (false, μ)
  else
    (D_X5_lacks_0 μ t a2).bind fun x1 =>
    if x1 = true then
      some (false, μ)
    else
      gu (ib a2 12) <|
      if (6 : Int32) ≤ (μ.1 (t + 12) (Int32.toNatClampNeg a2)) then
        some (false, μ)
      else
        (D_X5_isFree_0 fu μ t a2 a3 a4).bind fun x4 =>
        if x4 = true then
          gu (ib a2 12) <|
          D_X5_put_46 fu t fu a1 a2 a3 a4 a5 (μ.1 (t + 12) (Int32.toNatClampNeg a2)) μ
        else
          some (false, μ)
set_option maxRecDepth 20000 in
theorem T_X5_put_0 (G : GX) (fu : Nat) (t : Nat) (hG : gt G = tbl) (ht : IsX5 t) : ∀ (a1 : Int32) (a2 : Int32) (a3 : Int32) (a4 : Int32) (a5 : Int32) (μ : Mem) (r : (Bool × Mem)) , D_X5_put_0 fu t a1 a2 a3 a4 a5 μ = some r → V G mX5_put 0 [some (.ref t), some (.int a1), some (.int a2), some (.int a3), some (.int a4), some (.int a5), none] [] μ (.inl (some (.int (b2i r.1)))) (r.2) := by
  intro a1 a2 a3 a4 a5 μ r h
  unfold D_X5_put_0 at h
  refine V_iload_n dX5_put_0 rfl ?_
  refine V_bipush (v := 40) dX5_put_1 rfl ?_
  by_cases c3 : (40 : Int32) ≤ a1
  · rw [if_pos c3] at h
    refine V_icmpge_t (tgt := 36) dX5_put_3 (by decide) c3 ?_
    refine V_iconst (v := 0) dX5_put_36 rfl ?_
    cases h
    exact V_zret rfl (by decide) dX5_put_37
  · rw [if_neg c3] at h
    refine V_icmpge_f (tgt := 36) dX5_put_3 (by decide) c3 ?_
    refine V_aload_n dX5_put_6 rfl ?_
    refine V_iload_n dX5_put_7 rfl ?_
    obtain ⟨x1, y2, h⟩ := bi_o h
    refine V_callV (as := [.int a2]) (q := t) (rest := []) dX5_put_8 ov_mX5_lacks lk_RX5_74 (by decide) (by decide) rfl rfl (Nat.le_of_ble_eq_true rfl) (tq_X5_0 hG ht) rfl (VM_X5_lacks G μ t hG ht a2 _ y2) ?_
    by_cases c11 : x1 = true
    · rw [if_pos c11] at h
      refine V_ifne_t (tgt := 36) dX5_put_11 (by decide) (b2i_t.mp c11) ?_
      refine V_iconst (v := 0) dX5_put_36 rfl ?_
      cases h
      exact V_zret rfl (by decide) dX5_put_37
    · rw [if_neg c11] at h
      refine V_ifne_f (tgt := 36) dX5_put_11 (by decide) (b2i_f.mp c11) ?_
      refine V_aload_n dX5_put_14 rfl ?_
      refine V_getR (kf := 11) k_X5 (by decide) lk_RX5_46 rfl dX5_put_15 (tq_X5_0 hG ht) rfl ?_
      refine V_iload_n dX5_put_18 rfl ?_
      obtain ⟨g3, h⟩ := gu_o h
      refine V_iaload dX5_put_19 (tq_X5_12 hG ht) (ib_in g3) ?_
      refine V_bipush (v := 6) dX5_put_20 rfl ?_
      by_cases c22 : (6 : Int32) ≤ (μ.1 (t + 12) (Int32.toNatClampNeg a2))
      · rw [if_pos c22] at h
        refine V_icmpge_t (tgt := 36) dX5_put_22 (by decide) c22 ?_
        refine V_iconst (v := 0) dX5_put_36 rfl ?_
        cases h
        exact V_zret rfl (by decide) dX5_put_37
      · rw [if_neg c22] at h
        refine V_icmpge_f (tgt := 36) dX5_put_22 (by decide) c22 ?_
        refine V_aload_n dX5_put_25 rfl ?_
        refine V_iload_n dX5_put_26 rfl ?_
        refine V_iload_n dX5_put_27 rfl ?_
        refine V_iload dX5_put_28 rfl ?_
        obtain ⟨x4, y5, h⟩ := bi_o h
        refine V_callV (as := [.int a2, .int a3, .int a4]) (q := t) (rest := []) dX5_put_30 ov_mX5_isFree lk_RX5_78 (by decide) (by decide) rfl rfl (Nat.le_of_ble_eq_true rfl) (tq_X5_0 hG ht) rfl (VM_X5_isFree G fu μ t hG ht a2 a3 a4 _ y5) ?_
        by_cases c33 : x4 = true
        · rw [if_pos c33] at h
          refine V_ifne_t (tgt := 38) dX5_put_33 (by decide) (b2i_t.mp c33) ?_
          refine V_aload_n dX5_put_38 rfl ?_
          refine V_getR (kf := 11) k_X5 (by decide) lk_RX5_46 rfl dX5_put_39 (tq_X5_0 hG ht) rfl ?_
          refine V_iload_n dX5_put_42 rfl ?_
          obtain ⟨g6, h⟩ := gu_o h
          refine V_iaload dX5_put_43 (tq_X5_12 hG ht) (ib_in g6) ?_
          refine V_istore (lv2 := [some (.ref t), some (.int a1), some (.int a2), some (.int a3), some (.int a4), some (.int a5), some (.int (μ.1 (t + 12) (Int32.toNatClampNeg a2)))]) dX5_put_44 (by decide) rfl ?_
          exact V_wk [true, true, true, true, true, true, true] rfl (T_X5_put_46 G fu t hG ht fu _ _ _ _ _ _ _ _ h)
        · rw [if_neg c33] at h
          refine V_ifne_f (tgt := 38) dX5_put_33 (by decide) (b2i_f.mp c33) ?_
          refine V_iconst (v := 0) dX5_put_36 rfl ?_
          cases h
          exact V_zret rfl (by decide) dX5_put_37
theorem VM_X5_put (G : GX) (fu : Nat) (t : Nat) (hG : gt G = tbl) (ht : IsX5 t) (a1 : Int32) (a2 : Int32) (a3 : Int32) (a4 : Int32) (a5 : Int32) (μ : Mem) (r : (Bool × Mem)) (h : D_X5_put_0 fu t a1 a2 a3 a4 a5 μ = some r) : VM G mX5_put [.ref t, .int a1, .int a2, .int a3, .int a4, .int a5] μ (.inl (some (.int (b2i r.1)))) (r.2) := V_entry ok_mX5_put rfl rfl (Nat.le_of_ble_eq_true rfl) (T_X5_put_0 G fu t hG ht a1 a2 a3 a4 a5 μ r h)
def D_X5_tenthsBy_43 (fu : Nat) (μ : Mem) (t : Nat) (k5 : Int32 → Int32 → Int32 → Int32 → Option Int32) (v1 : Int32) (v2 : Int32) (v3 : Int32) (v4 : Int32) : Option Int32 :=
  k5 v1 v2 v3 (v4 + 1)
set_option maxRecDepth 20000 in
theorem T_X5_tenthsBy_43 (G : GX) (fu : Nat) (μ : Mem) (t : Nat) (hG : gt G = tbl) (ht : IsX5 t) (k5 : Int32 → Int32 → Int32 → Int32 → Option Int32) (hk5 : ∀ (v1 : Int32) (v2 : Int32) (v3 : Int32) (v4 : Int32) (r : Int32), k5 v1 v2 v3 v4 = some r → V G mX5_tenthsBy 5 [some (.ref t), some (.int v1), some (.int v2), some (.int v3), some (.int v4)] [] μ (.inl (some (.int r))) (μ)) : ∀ (v1 : Int32) (v2 : Int32) (v3 : Int32) (v4 : Int32) (r : Int32) , D_X5_tenthsBy_43 fu μ t k5 v1 v2 v3 v4 = some r → V G mX5_tenthsBy 43 [some (.ref t), some (.int v1), some (.int v2), some (.int v3), some (.int v4)] [] μ (.inl (some (.int r))) (μ) := by
  intro v1 v2 v3 v4 r h
  unfold D_X5_tenthsBy_43 at h
  refine V_iinc (v := v4 + 1) (lv2 := [some (.ref t), some (.int v1), some (.int v2), some (.int v3), some (.int (v4 + 1))]) dX5_tenthsBy_43 rfl rfl (by decide) rfl ?_
  refine V_goto (tgt := 5) dX5_tenthsBy_46 (by decide) ?_
  exact V_wk [true, true, true, true, true] rfl (hk5 _ _ _ _ _ h)
def D_X5_tenthsBy_5 (fu : Nat) (μ : Mem) (t : Nat) : Nat → Int32 → Int32 → Int32 → Int32 → Option Int32
  | 0, _, _, _, _ => none
  | n + 1, v1, v2, v3, v4 =>
    gu (ib v1 40) <|
    if (μ.1 (t + 6) (Int32.toNatClampNeg v1)) ≤ v4 then
      some v3
    else
      gu (ib ((v1 * 4) + v4) 160) <|
      if (μ.1 (t + 8) (Int32.toNatClampNeg ((v1 * 4) + v4))) = v2 then
        gu (ib ((v1 * 4) + v4) 160) <|
        vl (μ.1 (t + 9) (Int32.toNatClampNeg ((v1 * 4) + v4)) : Int32) fun x4 =>
        D_X5_tenthsBy_43 fu μ t (D_X5_tenthsBy_5 fu μ t n) v1 v2 x4 v4
      else
        D_X5_tenthsBy_43 fu μ t (D_X5_tenthsBy_5 fu μ t n) v1 v2 v3 v4
set_option maxRecDepth 20000 in
theorem T_X5_tenthsBy_5 (G : GX) (fu : Nat) (μ : Mem) (t : Nat) (hG : gt G = tbl) (ht : IsX5 t) : ∀ (n : Nat) (v1 : Int32) (v2 : Int32) (v3 : Int32) (v4 : Int32) (r : Int32) , D_X5_tenthsBy_5 fu μ t n v1 v2 v3 v4 = some r → V G mX5_tenthsBy 5 [some (.ref t), some (.int v1), some (.int v2), some (.int v3), some (.int v4)] [] μ (.inl (some (.int r))) (μ) := by
  intro n
  induction n with
  | zero =>
    intro v1 v2 v3 v4 r h
    exact nomatch (show (none : Option Int32) = some r from h)
  | succ n ih =>
    intro v1 v2 v3 v4 r h
    rw [D_X5_tenthsBy_5] at h
    refine V_iload dX5_tenthsBy_5 rfl ?_
    refine V_aload_n dX5_tenthsBy_7 rfl ?_
    refine V_getR (kf := 5) k_X5 (by decide) lk_RX5_28 rfl dX5_tenthsBy_8 (tq_X5_0 hG ht) rfl ?_
    refine V_iload_n dX5_tenthsBy_11 rfl ?_
    obtain ⟨g1, h⟩ := gu_o h
    refine V_iaload dX5_tenthsBy_12 (tq_X5_6 hG ht) (ib_in g1) ?_
    by_cases c13 : (μ.1 (t + 6) (Int32.toNatClampNeg v1)) ≤ v4
    · rw [if_pos c13] at h
      refine V_icmpge_t (tgt := 49) dX5_tenthsBy_13 (by decide) c13 ?_
      refine V_iload_n dX5_tenthsBy_49 rfl ?_
      cases h
      exact V_iret rfl dX5_tenthsBy_50
    · rw [if_neg c13] at h
      refine V_icmpge_f (tgt := 49) dX5_tenthsBy_13 (by decide) c13 ?_
      refine V_aload_n dX5_tenthsBy_16 rfl ?_
      refine V_getR (kf := 7) k_X5 (by decide) lk_RX5_34 rfl dX5_tenthsBy_17 (tq_X5_0 hG ht) rfl ?_
      refine V_iload_n dX5_tenthsBy_20 rfl ?_
      refine V_iconst (v := 4) dX5_tenthsBy_21 rfl ?_
      refine V_imul dX5_tenthsBy_22 ?_
      refine V_iload dX5_tenthsBy_23 rfl ?_
      refine V_iadd dX5_tenthsBy_25 ?_
      obtain ⟨g2, h⟩ := gu_o h
      refine V_iaload dX5_tenthsBy_26 (tq_X5_8 hG ht) (ib_in g2) ?_
      refine V_iload_n dX5_tenthsBy_27 rfl ?_
      by_cases c28 : (μ.1 (t + 8) (Int32.toNatClampNeg ((v1 * 4) + v4))) = v2
      · rw [if_pos c28] at h
        refine V_icmpne_f (tgt := 43) dX5_tenthsBy_28 (by decide) c28 ?_
        refine V_aload_n dX5_tenthsBy_31 rfl ?_
        refine V_getR (kf := 8) k_X5 (by decide) lk_RX5_37 rfl dX5_tenthsBy_32 (tq_X5_0 hG ht) rfl ?_
        refine V_iload_n dX5_tenthsBy_35 rfl ?_
        refine V_iconst (v := 4) dX5_tenthsBy_36 rfl ?_
        refine V_imul dX5_tenthsBy_37 ?_
        refine V_iload dX5_tenthsBy_38 rfl ?_
        refine V_iadd dX5_tenthsBy_40 ?_
        obtain ⟨g3, h⟩ := gu_o h
        refine V_iaload dX5_tenthsBy_41 (tq_X5_9 hG ht) (ib_in g3) ?_
        obtain ⟨x4, e5, h⟩ := vl_o h
        refine V_topi e5 ?_
        refine V_istore_n (lv2 := [some (.ref t), some (.int v1), some (.int v2), some (.int x4), some (.int v4)]) dX5_tenthsBy_42 (by decide) rfl ?_
        exact V_wk [true, true, true, true, true] rfl (T_X5_tenthsBy_43 G fu μ t hG ht (D_X5_tenthsBy_5 fu μ t n) ih _ _ _ _ _ h)
      · rw [if_neg c28] at h
        refine V_icmpne_t (tgt := 43) dX5_tenthsBy_28 (by decide) c28 ?_
        exact V_wk [true, true, true, true, true] rfl (T_X5_tenthsBy_43 G fu μ t hG ht (D_X5_tenthsBy_5 fu μ t n) ih _ _ _ _ _ h)
def D_X5_tenthsBy_0 (fu : Nat) (μ : Mem) (t : Nat) (a1 : Int32) (a2 : Int32) : Option Int32 :=
  D_X5_tenthsBy_5 fu μ t fu a1 a2 0 0
set_option maxRecDepth 20000 in
theorem T_X5_tenthsBy_0 (G : GX) (fu : Nat) (μ : Mem) (t : Nat) (hG : gt G = tbl) (ht : IsX5 t) : ∀ (a1 : Int32) (a2 : Int32) (r : Int32) , D_X5_tenthsBy_0 fu μ t a1 a2 = some r → V G mX5_tenthsBy 0 [some (.ref t), some (.int a1), some (.int a2), none, none] [] μ (.inl (some (.int r))) (μ) := by
  intro a1 a2 r h
  unfold D_X5_tenthsBy_0 at h
  refine V_iconst (v := 0) dX5_tenthsBy_0 rfl ?_
  refine V_istore_n (lv2 := [some (.ref t), some (.int a1), some (.int a2), some (.int 0), none]) dX5_tenthsBy_1 (by decide) rfl ?_
  refine V_iconst (v := 0) dX5_tenthsBy_2 rfl ?_
  refine V_istore (lv2 := [some (.ref t), some (.int a1), some (.int a2), some (.int 0), some (.int 0)]) dX5_tenthsBy_3 (by decide) rfl ?_
  exact V_wk [true, true, true, true, true] rfl (T_X5_tenthsBy_5 G fu μ t hG ht fu _ _ _ _ _ h)
theorem VM_X5_tenthsBy (G : GX) (fu : Nat) (μ : Mem) (t : Nat) (hG : gt G = tbl) (ht : IsX5 t) (a1 : Int32) (a2 : Int32) (r : Int32) (h : D_X5_tenthsBy_0 fu μ t a1 a2 = some r) : VM G mX5_tenthsBy [.ref t, .int a1, .int a2] μ (.inl (some (.int r))) (μ) := V_entry ok_mX5_tenthsBy rfl rfl (Nat.le_of_ble_eq_true rfl) (T_X5_tenthsBy_0 G fu μ t hG ht a1 a2 r h)
def D_X5_putSigner_0 (fu : Nat) (t : Nat) (a1 : Int32) (a2 : Int32) (a3 : Int32) (μ : Mem) : Option (Bool × Mem) :=
  (D_X5_isThere_0 μ t a1).bind fun x1 =>
  if x1 = true then
    gu (ib a1 40) <|
    if (4 : Int32) ≤ (μ.1 (t + 6) (Int32.toNatClampNeg a1)) then
      some (false, μ)
    else
      gu (ib a1 40) <|
      if (10 : Int32) < ((μ.1 (t + 7) (Int32.toNatClampNeg a1)) + a3) then
        some (false, μ)
      else
        gu (ib a1 40) <|
        if (0 : Int64) < (μ.2.1 (t + 5) (Int32.toNatClampNeg a1)) then
          some (false, μ)
        else
          (D_X5_tenthsBy_0 fu μ t a1 a2).bind fun x6 =>
          if x6 ≤ 0 then
            gu (ib a1 40) <|
            vl ((a1 * 4) + (μ.1 (t + 6) (Int32.toNatClampNeg a1)) : Int32) fun x9 =>
            gu (ib x9 160) <|
            vl (wI μ (t + 8) (Int32.toNatClampNeg x9) a2) fun m12 =>
            gu (ib x9 160) <|
            vl (wI m12 (t + 9) (Int32.toNatClampNeg x9) a3) fun m15 =>
            gu (ib x9 160) <|
            vl (wL m15 (t + 10) (Int32.toNatClampNeg x9) 0) fun m18 =>
            gu (ib a1 40) <|
            gu (ib a1 40) <|
            vl (wI m18 (t + 6) (Int32.toNatClampNeg a1) ((m18.1 (t + 6) (Int32.toNatClampNeg a1)) + 1)) fun m22 =>
            gu (ib a1 40) <|
            gu (ib a1 40) <|
            vl (wI m22 (t + 7) (Int32.toNatClampNeg a1) ((m22.1 (t + 7) (Int32.toNatClampNeg a1)) + a3)) fun m26 =>
            some (true, m26)
          else
            some (false, μ)
  else
    some (false, μ)
set_option maxRecDepth 20000 in
theorem T_X5_putSigner_0 (G : GX) (fu : Nat) (t : Nat) (hG : gt G = tbl) (ht : IsX5 t) : ∀ (a1 : Int32) (a2 : Int32) (a3 : Int32) (μ : Mem) (r : (Bool × Mem)) , D_X5_putSigner_0 fu t a1 a2 a3 μ = some r → V G mX5_putSigner 0 [some (.ref t), some (.int a1), some (.int a2), some (.int a3), none] [] μ (.inl (some (.int (b2i r.1)))) (r.2) := by
  intro a1 a2 a3 μ r h
  unfold D_X5_putSigner_0 at h
  refine V_aload_n dX5_putSigner_0 rfl ?_
  refine V_iload_n dX5_putSigner_1 rfl ?_
  obtain ⟨x1, y2, h⟩ := bi_o h
  refine V_callV (as := [.int a1]) (q := t) (rest := []) dX5_putSigner_2 ov_mX5_isThere lk_RX5_87 (by decide) (by decide) rfl rfl (Nat.le_of_ble_eq_true rfl) (tq_X5_0 hG ht) rfl (VM_X5_isThere G μ t hG ht a1 _ y2) ?_
  by_cases c5 : x1 = true
  · rw [if_pos c5] at h
    refine V_ifeq_f (tgt := 51) dX5_putSigner_5 (by decide) (b2i_t.mp c5) ?_
    refine V_aload_n dX5_putSigner_8 rfl ?_
    refine V_getR (kf := 5) k_X5 (by decide) lk_RX5_28 rfl dX5_putSigner_9 (tq_X5_0 hG ht) rfl ?_
    refine V_iload_n dX5_putSigner_12 rfl ?_
    obtain ⟨g3, h⟩ := gu_o h
    refine V_iaload dX5_putSigner_13 (tq_X5_6 hG ht) (ib_in g3) ?_
    refine V_iconst (v := 4) dX5_putSigner_14 rfl ?_
    by_cases c15 : (4 : Int32) ≤ (μ.1 (t + 6) (Int32.toNatClampNeg a1))
    · rw [if_pos c15] at h
      refine V_icmpge_t (tgt := 51) dX5_putSigner_15 (by decide) c15 ?_
      refine V_iconst (v := 0) dX5_putSigner_51 rfl ?_
      cases h
      exact V_zret rfl (by decide) dX5_putSigner_52
    · rw [if_neg c15] at h
      refine V_icmpge_f (tgt := 51) dX5_putSigner_15 (by decide) c15 ?_
      refine V_aload_n dX5_putSigner_18 rfl ?_
      refine V_getR (kf := 6) k_X5 (by decide) lk_RX5_31 rfl dX5_putSigner_19 (tq_X5_0 hG ht) rfl ?_
      refine V_iload_n dX5_putSigner_22 rfl ?_
      obtain ⟨g4, h⟩ := gu_o h
      refine V_iaload dX5_putSigner_23 (tq_X5_7 hG ht) (ib_in g4) ?_
      refine V_iload_n dX5_putSigner_24 rfl ?_
      refine V_iadd dX5_putSigner_25 ?_
      refine V_bipush (v := 10) dX5_putSigner_26 rfl ?_
      by_cases c28 : (10 : Int32) < ((μ.1 (t + 7) (Int32.toNatClampNeg a1)) + a3)
      · rw [if_pos c28] at h
        refine V_icmpgt_t (tgt := 51) dX5_putSigner_28 (by decide) c28 ?_
        refine V_iconst (v := 0) dX5_putSigner_51 rfl ?_
        cases h
        exact V_zret rfl (by decide) dX5_putSigner_52
      · rw [if_neg c28] at h
        refine V_icmpgt_f (tgt := 51) dX5_putSigner_28 (by decide) c28 ?_
        refine V_aload_n dX5_putSigner_31 rfl ?_
        refine V_getR (kf := 4) k_X5 (by decide) lk_RX5_24 rfl dX5_putSigner_32 (tq_X5_0 hG ht) rfl ?_
        refine V_iload_n dX5_putSigner_35 rfl ?_
        obtain ⟨g5, h⟩ := gu_o h
        refine V_laload dX5_putSigner_36 (tq_X5_5 hG ht) (ib_in g5) ?_
        refine V_lconst (v := 0) dX5_putSigner_37 rfl ?_
        refine V_lcmp dX5_putSigner_38 ?_
        by_cases c39 : (0 : Int64) < (μ.2.1 (t + 5) (Int32.toNatClampNeg a1))
        · rw [if_pos c39] at h
          refine V_ifgt_t (tgt := 51) dX5_putSigner_39 (by decide) ((lc_gt (μ.2.1 (t + 5) (Int32.toNatClampNeg a1)) 0).mpr c39) ?_
          refine V_iconst (v := 0) dX5_putSigner_51 rfl ?_
          cases h
          exact V_zret rfl (by decide) dX5_putSigner_52
        · rw [if_neg c39] at h
          refine V_ifgt_f (tgt := 51) dX5_putSigner_39 (by decide) (fun z => c39 ((lc_gt (μ.2.1 (t + 5) (Int32.toNatClampNeg a1)) 0).mp z)) ?_
          refine V_aload_n dX5_putSigner_42 rfl ?_
          refine V_iload_n dX5_putSigner_43 rfl ?_
          refine V_iload_n dX5_putSigner_44 rfl ?_
          obtain ⟨x6, y7, h⟩ := bi_o h
          refine V_callV (as := [.int a1, .int a2]) (q := t) (rest := []) dX5_putSigner_45 ov_mX5_tenthsBy lk_RX5_90 (by decide) (by decide) rfl rfl (Nat.le_of_ble_eq_true rfl) (tq_X5_0 hG ht) rfl (VM_X5_tenthsBy G fu μ t hG ht a1 a2 _ y7) ?_
          by_cases c48 : x6 ≤ 0
          · rw [if_pos c48] at h
            refine V_ifle_t (tgt := 53) dX5_putSigner_48 (by decide) c48 ?_
            refine V_iload_n dX5_putSigner_53 rfl ?_
            refine V_iconst (v := 4) dX5_putSigner_54 rfl ?_
            refine V_imul dX5_putSigner_55 ?_
            refine V_aload_n dX5_putSigner_56 rfl ?_
            refine V_getR (kf := 5) k_X5 (by decide) lk_RX5_28 rfl dX5_putSigner_57 (tq_X5_0 hG ht) rfl ?_
            refine V_iload_n dX5_putSigner_60 rfl ?_
            obtain ⟨g8, h⟩ := gu_o h
            refine V_iaload dX5_putSigner_61 (tq_X5_6 hG ht) (ib_in g8) ?_
            refine V_iadd dX5_putSigner_62 ?_
            obtain ⟨x9, e10, h⟩ := vl_o h
            refine V_topi e10 ?_
            refine V_istore (lv2 := [some (.ref t), some (.int a1), some (.int a2), some (.int a3), some (.int x9)]) dX5_putSigner_63 (by decide) rfl ?_
            refine V_aload_n dX5_putSigner_65 rfl ?_
            refine V_getR (kf := 7) k_X5 (by decide) lk_RX5_34 rfl dX5_putSigner_66 (tq_X5_0 hG ht) rfl ?_
            refine V_iload dX5_putSigner_69 rfl ?_
            refine V_iload_n dX5_putSigner_71 rfl ?_
            obtain ⟨g11, h⟩ := gu_o h
            obtain ⟨m12, e13, h⟩ := vl_o h
            refine V_iastore (μ2 := m12) dX5_putSigner_72 (tq_X5_8 hG ht) (ib_in g11) e13.symm ?_
            refine V_aload_n dX5_putSigner_73 rfl ?_
            refine V_getR (kf := 8) k_X5 (by decide) lk_RX5_37 rfl dX5_putSigner_74 (tq_X5_0 hG ht) rfl ?_
            refine V_iload dX5_putSigner_77 rfl ?_
            refine V_iload_n dX5_putSigner_79 rfl ?_
            obtain ⟨g14, h⟩ := gu_o h
            obtain ⟨m15, e16, h⟩ := vl_o h
            refine V_iastore (μ2 := m15) dX5_putSigner_80 (tq_X5_9 hG ht) (ib_in g14) e16.symm ?_
            refine V_aload_n dX5_putSigner_81 rfl ?_
            refine V_getR (kf := 9) k_X5 (by decide) lk_RX5_40 rfl dX5_putSigner_82 (tq_X5_0 hG ht) rfl ?_
            refine V_iload dX5_putSigner_85 rfl ?_
            refine V_lconst (v := 0) dX5_putSigner_87 rfl ?_
            obtain ⟨g17, h⟩ := gu_o h
            obtain ⟨m18, e19, h⟩ := vl_o h
            refine V_lastore (μ2 := m18) dX5_putSigner_88 (tq_X5_10 hG ht) (ib_in g17) e19.symm ?_
            refine V_aload_n dX5_putSigner_89 rfl ?_
            refine V_getR (kf := 5) k_X5 (by decide) lk_RX5_28 rfl dX5_putSigner_90 (tq_X5_0 hG ht) rfl ?_
            refine V_iload_n dX5_putSigner_93 rfl ?_
            refine V_dup2 dX5_putSigner_94 rfl rfl ?_
            obtain ⟨g20, h⟩ := gu_o h
            refine V_iaload dX5_putSigner_95 (tq_X5_6 hG ht) (ib_in g20) ?_
            refine V_iconst (v := 1) dX5_putSigner_96 rfl ?_
            refine V_iadd dX5_putSigner_97 ?_
            obtain ⟨g21, h⟩ := gu_o h
            obtain ⟨m22, e23, h⟩ := vl_o h
            refine V_iastore (μ2 := m22) dX5_putSigner_98 (tq_X5_6 hG ht) (ib_in g21) e23.symm ?_
            refine V_aload_n dX5_putSigner_99 rfl ?_
            refine V_getR (kf := 6) k_X5 (by decide) lk_RX5_31 rfl dX5_putSigner_100 (tq_X5_0 hG ht) rfl ?_
            refine V_iload_n dX5_putSigner_103 rfl ?_
            refine V_dup2 dX5_putSigner_104 rfl rfl ?_
            obtain ⟨g24, h⟩ := gu_o h
            refine V_iaload dX5_putSigner_105 (tq_X5_7 hG ht) (ib_in g24) ?_
            refine V_iload_n dX5_putSigner_106 rfl ?_
            refine V_iadd dX5_putSigner_107 ?_
            obtain ⟨g25, h⟩ := gu_o h
            obtain ⟨m26, e27, h⟩ := vl_o h
            refine V_iastore (μ2 := m26) dX5_putSigner_108 (tq_X5_7 hG ht) (ib_in g25) e27.symm ?_
            refine V_iconst (v := 1) dX5_putSigner_109 rfl ?_
            cases h
            exact V_zret rfl (by decide) dX5_putSigner_110
          · rw [if_neg c48] at h
            refine V_ifle_f (tgt := 53) dX5_putSigner_48 (by decide) c48 ?_
            refine V_iconst (v := 0) dX5_putSigner_51 rfl ?_
            cases h
            exact V_zret rfl (by decide) dX5_putSigner_52
  · rw [if_neg c5] at h
    refine V_ifeq_t (tgt := 51) dX5_putSigner_5 (by decide) (b2i_f.mp c5) ?_
    refine V_iconst (v := 0) dX5_putSigner_51 rfl ?_
    cases h
    exact V_zret rfl (by decide) dX5_putSigner_52
theorem VM_X5_putSigner (G : GX) (fu : Nat) (t : Nat) (hG : gt G = tbl) (ht : IsX5 t) (a1 : Int32) (a2 : Int32) (a3 : Int32) (μ : Mem) (r : (Bool × Mem)) (h : D_X5_putSigner_0 fu t a1 a2 a3 μ = some r) : VM G mX5_putSigner [.ref t, .int a1, .int a2, .int a3] μ (.inl (some (.int (b2i r.1)))) (r.2) := V_entry ok_mX5_putSigner rfl rfl (Nat.le_of_ble_eq_true rfl) (T_X5_putSigner_0 G fu t hG ht a1 a2 a3 μ r h)
def D_X5_putLack_0 (t : Nat) (a1 : Int32) (μ : Mem) : Option (Bool × Mem) :=
  (D_X5_lacks_0 μ t a1).bind fun x1 =>
  if x1 = true then
    some (false, μ)
  else
    (D_X5_isGap_0 μ t a1).bind fun x3 =>
    if x3 = true then
      vl (wI μ t 12 ((μ.1 t 12) ||| (1 <<< (a1 &&& 31)))) fun m5 =>
      some (true, m5)
    else
      some (false, μ)
set_option maxRecDepth 20000 in
theorem T_X5_putLack_0 (G : GX) (t : Nat) (hG : gt G = tbl) (ht : IsX5 t) : ∀ (a1 : Int32) (μ : Mem) (r : (Bool × Mem)) , D_X5_putLack_0 t a1 μ = some r → V G mX5_putLack 0 [some (.ref t), some (.int a1)] [] μ (.inl (some (.int (b2i r.1)))) (r.2) := by
  intro a1 μ r h
  unfold D_X5_putLack_0 at h
  refine V_aload_n dX5_putLack_0 rfl ?_
  refine V_iload_n dX5_putLack_1 rfl ?_
  obtain ⟨x1, y2, h⟩ := bi_o h
  refine V_callV (as := [.int a1]) (q := t) (rest := []) dX5_putLack_2 ov_mX5_lacks lk_RX5_74 (by decide) (by decide) rfl rfl (Nat.le_of_ble_eq_true rfl) (tq_X5_0 hG ht) rfl (VM_X5_lacks G μ t hG ht a1 _ y2) ?_
  by_cases c5 : x1 = true
  · rw [if_pos c5] at h
    refine V_ifne_t (tgt := 16) dX5_putLack_5 (by decide) (b2i_t.mp c5) ?_
    refine V_iconst (v := 0) dX5_putLack_16 rfl ?_
    cases h
    exact V_zret rfl (by decide) dX5_putLack_17
  · rw [if_neg c5] at h
    refine V_ifne_f (tgt := 16) dX5_putLack_5 (by decide) (b2i_f.mp c5) ?_
    refine V_aload_n dX5_putLack_8 rfl ?_
    refine V_iload_n dX5_putLack_9 rfl ?_
    obtain ⟨x3, y4, h⟩ := bi_o h
    refine V_callV (as := [.int a1]) (q := t) (rest := []) dX5_putLack_10 ov_mX5_isGap lk_RX5_93 (by decide) (by decide) rfl rfl (Nat.le_of_ble_eq_true rfl) (tq_X5_0 hG ht) rfl (VM_X5_isGap G μ t hG ht a1 _ y4) ?_
    by_cases c13 : x3 = true
    · rw [if_pos c13] at h
      refine V_ifne_t (tgt := 18) dX5_putLack_13 (by decide) (b2i_t.mp c13) ?_
      refine V_aload_n dX5_putLack_18 rfl ?_
      refine V_dup dX5_putLack_19 rfl ?_
      refine V_getI (kf := 12) k_X5 (by decide) lk_RX5_55 rfl dX5_putLack_20 (tq_X5_0 hG ht) rfl ?_
      refine V_iconst (v := 1) dX5_putLack_23 rfl ?_
      refine V_iload_n dX5_putLack_24 rfl ?_
      refine V_ishl dX5_putLack_25 ?_
      refine V_ior dX5_putLack_26 ?_
      obtain ⟨m5, e6, h⟩ := vl_o h
      refine V_putI (kf := 12) k_X5 (by decide) lk_RX5_55 rfl rfl (by decide +kernel) dX5_putLack_27 (tq_X5_0 hG ht) rfl e6.symm ?_
      refine V_iconst (v := 1) dX5_putLack_30 rfl ?_
      cases h
      exact V_zret rfl (by decide) dX5_putLack_31
    · rw [if_neg c13] at h
      refine V_ifne_f (tgt := 18) dX5_putLack_13 (by decide) (b2i_f.mp c13) ?_
      refine V_iconst (v := 0) dX5_putLack_16 rfl ?_
      cases h
      exact V_zret rfl (by decide) dX5_putLack_17
theorem VM_X5_putLack (G : GX) (t : Nat) (hG : gt G = tbl) (ht : IsX5 t) (a1 : Int32) (μ : Mem) (r : (Bool × Mem)) (h : D_X5_putLack_0 t a1 μ = some r) : VM G mX5_putLack [.ref t, .int a1] μ (.inl (some (.int (b2i r.1)))) (r.2) := V_entry ok_mX5_putLack rfl rfl (Nat.le_of_ble_eq_true rfl) (T_X5_putLack_0 G t hG ht a1 μ r h)
def D_X5_gapBits_24 (fu : Nat) (μ : Mem) (t : Nat) (k4 : Int32 → Int32 → Option Int32) (v1 : Int32) (v2 : Int32) : Option Int32 :=
  k4 v1 (v2 + 1)
set_option maxRecDepth 20000 in
theorem T_X5_gapBits_24 (G : GX) (fu : Nat) (μ : Mem) (t : Nat) (hG : gt G = tbl) (ht : IsX5 t) (k4 : Int32 → Int32 → Option Int32) (hk4 : ∀ (v1 : Int32) (v2 : Int32) (r : Int32), k4 v1 v2 = some r → V G mX5_gapBits 4 [some (.ref t), some (.int v1), some (.int v2)] [] μ (.inl (some (.int r))) (μ)) : ∀ (v1 : Int32) (v2 : Int32) (r : Int32) , D_X5_gapBits_24 fu μ t k4 v1 v2 = some r → V G mX5_gapBits 24 [some (.ref t), some (.int v1), some (.int v2)] [] μ (.inl (some (.int r))) (μ) := by
  intro v1 v2 r h
  unfold D_X5_gapBits_24 at h
  refine V_iinc (v := v2 + 1) (lv2 := [some (.ref t), some (.int v1), some (.int (v2 + 1))]) dX5_gapBits_24 rfl rfl (by decide) rfl ?_
  refine V_goto (tgt := 4) dX5_gapBits_27 (by decide) ?_
  exact V_wk [true, true, true] rfl (hk4 _ _ _ h)
def D_X5_gapBits_4 (fu : Nat) (μ : Mem) (t : Nat) : Nat → Int32 → Int32 → Option Int32
  | 0, _, _ => none
  | n + 1, v1, v2 =>
    if (12 : Int32) ≤ v2 then
      some v1
    else
      (D_X5_isGap_0 μ t v2).bind fun x1 =>
      if x1 = true then
        D_X5_gapBits_24 fu μ t (D_X5_gapBits_4 fu μ t n) (v1 ||| (1 <<< (v2 &&& 31))) v2
      else
        D_X5_gapBits_24 fu μ t (D_X5_gapBits_4 fu μ t n) v1 v2
set_option maxRecDepth 20000 in
theorem T_X5_gapBits_4 (G : GX) (fu : Nat) (μ : Mem) (t : Nat) (hG : gt G = tbl) (ht : IsX5 t) : ∀ (n : Nat) (v1 : Int32) (v2 : Int32) (r : Int32) , D_X5_gapBits_4 fu μ t n v1 v2 = some r → V G mX5_gapBits 4 [some (.ref t), some (.int v1), some (.int v2)] [] μ (.inl (some (.int r))) (μ) := by
  intro n
  induction n with
  | zero =>
    intro v1 v2 r h
    exact nomatch (show (none : Option Int32) = some r from h)
  | succ n ih =>
    intro v1 v2 r h
    rw [D_X5_gapBits_4] at h
    refine V_iload_n dX5_gapBits_4 rfl ?_
    refine V_bipush (v := 12) dX5_gapBits_5 rfl ?_
    by_cases c7 : (12 : Int32) ≤ v2
    · rw [if_pos c7] at h
      refine V_icmpge_t (tgt := 30) dX5_gapBits_7 (by decide) c7 ?_
      refine V_iload_n dX5_gapBits_30 rfl ?_
      cases h
      exact V_iret rfl dX5_gapBits_31
    · rw [if_neg c7] at h
      refine V_icmpge_f (tgt := 30) dX5_gapBits_7 (by decide) c7 ?_
      refine V_aload_n dX5_gapBits_10 rfl ?_
      refine V_iload_n dX5_gapBits_11 rfl ?_
      obtain ⟨x1, y2, h⟩ := bi_o h
      refine V_callV (as := [.int v2]) (q := t) (rest := []) dX5_gapBits_12 ov_mX5_isGap lk_RX5_93 (by decide) (by decide) rfl rfl (Nat.le_of_ble_eq_true rfl) (tq_X5_0 hG ht) rfl (VM_X5_isGap G μ t hG ht v2 _ y2) ?_
      by_cases c15 : x1 = true
      · rw [if_pos c15] at h
        refine V_ifeq_f (tgt := 24) dX5_gapBits_15 (by decide) (b2i_t.mp c15) ?_
        refine V_iload_n dX5_gapBits_18 rfl ?_
        refine V_iconst (v := 1) dX5_gapBits_19 rfl ?_
        refine V_iload_n dX5_gapBits_20 rfl ?_
        refine V_ishl dX5_gapBits_21 ?_
        refine V_ior dX5_gapBits_22 ?_
        refine V_istore_n (lv2 := [some (.ref t), some (.int (v1 ||| (1 <<< (v2 &&& 31)))), some (.int v2)]) dX5_gapBits_23 (by decide) rfl ?_
        exact V_wk [true, true, true] rfl (T_X5_gapBits_24 G fu μ t hG ht (D_X5_gapBits_4 fu μ t n) ih _ _ _ h)
      · rw [if_neg c15] at h
        refine V_ifeq_t (tgt := 24) dX5_gapBits_15 (by decide) (b2i_f.mp c15) ?_
        exact V_wk [true, true, true] rfl (T_X5_gapBits_24 G fu μ t hG ht (D_X5_gapBits_4 fu μ t n) ih _ _ _ h)
def D_X5_gapBits_0 (fu : Nat) (μ : Mem) (t : Nat) : Option Int32 :=
  D_X5_gapBits_4 fu μ t fu 0 0
set_option maxRecDepth 20000 in
theorem T_X5_gapBits_0 (G : GX) (fu : Nat) (μ : Mem) (t : Nat) (hG : gt G = tbl) (ht : IsX5 t) : ∀ (r : Int32) , D_X5_gapBits_0 fu μ t = some r → V G mX5_gapBits 0 [some (.ref t), none, none] [] μ (.inl (some (.int r))) (μ) := by
  intro r h
  unfold D_X5_gapBits_0 at h
  refine V_iconst (v := 0) dX5_gapBits_0 rfl ?_
  refine V_istore_n (lv2 := [some (.ref t), some (.int 0), none]) dX5_gapBits_1 (by decide) rfl ?_
  refine V_iconst (v := 0) dX5_gapBits_2 rfl ?_
  refine V_istore_n (lv2 := [some (.ref t), some (.int 0), some (.int 0)]) dX5_gapBits_3 (by decide) rfl ?_
  exact V_wk [true, true, true] rfl (T_X5_gapBits_4 G fu μ t hG ht fu _ _ _ h)
theorem VM_X5_gapBits (G : GX) (fu : Nat) (μ : Mem) (t : Nat) (hG : gt G = tbl) (ht : IsX5 t) (r : Int32) (h : D_X5_gapBits_0 fu μ t = some r) : VM G mX5_gapBits [.ref t] μ (.inl (some (.int r))) (μ) := V_entry ok_mX5_gapBits rfl rfl (Nat.le_of_ble_eq_true rfl) (T_X5_gapBits_0 G fu μ t hG ht r h)
def D_X5_signerBits_14 (fu : Nat) (μ : Mem) (t : Nat) (k4 : Int32 → Int32 → Option Int32) : Nat → Int32 → Int32 → Int32 → Option Int32
  | 0, _, _, _ => none
  | n + 1, v1, v2, v3 =>
    gu (ib v2 40) <|
    if (μ.1 (t + 6) (Int32.toNatClampNeg v2)) ≤ v3 then
      k4 v1 (v2 + 1)
    else
      gu (ib ((v2 * 4) + v3) 160) <|
      vl (v1 ||| (1 <<< ((μ.1 (t + 8) (Int32.toNatClampNeg ((v2 * 4) + v3))) &&& 31)) : Int32) fun x3 =>
      (D_X5_signerBits_14 fu μ t k4 n) x3 v2 (v3 + 1)
set_option maxRecDepth 20000 in
theorem T_X5_signerBits_14 (G : GX) (fu : Nat) (μ : Mem) (t : Nat) (hG : gt G = tbl) (ht : IsX5 t) (k4 : Int32 → Int32 → Option Int32) (hk4 : ∀ (v1 : Int32) (v2 : Int32) (r : Int32), k4 v1 v2 = some r → V G mX5_signerBits 4 [some (.ref t), some (.int v1), some (.int v2), none] [] μ (.inl (some (.int r))) (μ)) : ∀ (n : Nat) (v1 : Int32) (v2 : Int32) (v3 : Int32) (r : Int32) , D_X5_signerBits_14 fu μ t k4 n v1 v2 v3 = some r → V G mX5_signerBits 14 [some (.ref t), some (.int v1), some (.int v2), some (.int v3)] [] μ (.inl (some (.int r))) (μ) := by
  intro n
  induction n with
  | zero =>
    intro v1 v2 v3 r h
    exact nomatch (show (none : Option Int32) = some r from h)
  | succ n ih =>
    intro v1 v2 v3 r h
    rw [D_X5_signerBits_14] at h
    refine V_iload_n dX5_signerBits_14 rfl ?_
    refine V_aload_n dX5_signerBits_15 rfl ?_
    refine V_getR (kf := 5) k_X5 (by decide) lk_RX5_28 rfl dX5_signerBits_16 (tq_X5_0 hG ht) rfl ?_
    refine V_iload_n dX5_signerBits_19 rfl ?_
    obtain ⟨g1, h⟩ := gu_o h
    refine V_iaload dX5_signerBits_20 (tq_X5_6 hG ht) (ib_in g1) ?_
    by_cases c21 : (μ.1 (t + 6) (Int32.toNatClampNeg v2)) ≤ v3
    · rw [if_pos c21] at h
      refine V_icmpge_t (tgt := 45) dX5_signerBits_21 (by decide) c21 ?_
      refine V_iinc (v := v2 + 1) (lv2 := [some (.ref t), some (.int v1), some (.int (v2 + 1)), some (.int v3)]) dX5_signerBits_45 rfl rfl (by decide) rfl ?_
      refine V_goto (tgt := 4) dX5_signerBits_48 (by decide) ?_
      exact V_wk [true, true, true, false] rfl (hk4 _ _ _ h)
    · rw [if_neg c21] at h
      refine V_icmpge_f (tgt := 45) dX5_signerBits_21 (by decide) c21 ?_
      refine V_iload_n dX5_signerBits_24 rfl ?_
      refine V_iconst (v := 1) dX5_signerBits_25 rfl ?_
      refine V_aload_n dX5_signerBits_26 rfl ?_
      refine V_getR (kf := 7) k_X5 (by decide) lk_RX5_34 rfl dX5_signerBits_27 (tq_X5_0 hG ht) rfl ?_
      refine V_iload_n dX5_signerBits_30 rfl ?_
      refine V_iconst (v := 4) dX5_signerBits_31 rfl ?_
      refine V_imul dX5_signerBits_32 ?_
      refine V_iload_n dX5_signerBits_33 rfl ?_
      refine V_iadd dX5_signerBits_34 ?_
      obtain ⟨g2, h⟩ := gu_o h
      refine V_iaload dX5_signerBits_35 (tq_X5_8 hG ht) (ib_in g2) ?_
      refine V_ishl dX5_signerBits_36 ?_
      refine V_ior dX5_signerBits_37 ?_
      obtain ⟨x3, e4, h⟩ := vl_o h
      refine V_topi e4 ?_
      refine V_istore_n (lv2 := [some (.ref t), some (.int x3), some (.int v2), some (.int v3)]) dX5_signerBits_38 (by decide) rfl ?_
      refine V_iinc (v := v3 + 1) (lv2 := [some (.ref t), some (.int x3), some (.int v2), some (.int (v3 + 1))]) dX5_signerBits_39 rfl rfl (by decide) rfl ?_
      refine V_goto (tgt := 14) dX5_signerBits_42 (by decide) ?_
      exact V_wk [true, true, true, true] rfl (ih _ _ _ _ h)
def D_X5_signerBits_4 (fu : Nat) (μ : Mem) (t : Nat) : Nat → Int32 → Int32 → Option Int32
  | 0, _, _ => none
  | n + 1, v1, v2 =>
    if (μ.1 t 13) ≤ v2 then
      some v1
    else
      D_X5_signerBits_14 fu μ t (D_X5_signerBits_4 fu μ t n) fu v1 v2 0
set_option maxRecDepth 20000 in
theorem T_X5_signerBits_4 (G : GX) (fu : Nat) (μ : Mem) (t : Nat) (hG : gt G = tbl) (ht : IsX5 t) : ∀ (n : Nat) (v1 : Int32) (v2 : Int32) (r : Int32) , D_X5_signerBits_4 fu μ t n v1 v2 = some r → V G mX5_signerBits 4 [some (.ref t), some (.int v1), some (.int v2), none] [] μ (.inl (some (.int r))) (μ) := by
  intro n
  induction n with
  | zero =>
    intro v1 v2 r h
    exact nomatch (show (none : Option Int32) = some r from h)
  | succ n ih =>
    intro v1 v2 r h
    rw [D_X5_signerBits_4] at h
    refine V_iload_n dX5_signerBits_4 rfl ?_
    refine V_aload_n dX5_signerBits_5 rfl ?_
    refine V_getI (kf := 13) k_X5 (by decide) lk_RX5_59 rfl dX5_signerBits_6 (tq_X5_0 hG ht) rfl ?_
    by_cases c9 : (μ.1 t 13) ≤ v2
    · rw [if_pos c9] at h
      refine V_icmpge_t (tgt := 51) dX5_signerBits_9 (by decide) c9 ?_
      refine V_iload_n dX5_signerBits_51 rfl ?_
      cases h
      exact V_iret rfl dX5_signerBits_52
    · rw [if_neg c9] at h
      refine V_icmpge_f (tgt := 51) dX5_signerBits_9 (by decide) c9 ?_
      refine V_iconst (v := 0) dX5_signerBits_12 rfl ?_
      refine V_istore_n (lv2 := [some (.ref t), some (.int v1), some (.int v2), some (.int 0)]) dX5_signerBits_13 (by decide) rfl ?_
      exact V_wk [true, true, true, true] rfl (T_X5_signerBits_14 G fu μ t hG ht (D_X5_signerBits_4 fu μ t n) ih fu _ _ _ _ h)
def D_X5_signerBits_0 (fu : Nat) (μ : Mem) (t : Nat) : Option Int32 :=
  D_X5_signerBits_4 fu μ t fu 0 0
set_option maxRecDepth 20000 in
theorem T_X5_signerBits_0 (G : GX) (fu : Nat) (μ : Mem) (t : Nat) (hG : gt G = tbl) (ht : IsX5 t) : ∀ (r : Int32) , D_X5_signerBits_0 fu μ t = some r → V G mX5_signerBits 0 [some (.ref t), none, none, none] [] μ (.inl (some (.int r))) (μ) := by
  intro r h
  unfold D_X5_signerBits_0 at h
  refine V_iconst (v := 0) dX5_signerBits_0 rfl ?_
  refine V_istore_n (lv2 := [some (.ref t), some (.int 0), none, none]) dX5_signerBits_1 (by decide) rfl ?_
  refine V_iconst (v := 0) dX5_signerBits_2 rfl ?_
  refine V_istore_n (lv2 := [some (.ref t), some (.int 0), some (.int 0), none]) dX5_signerBits_3 (by decide) rfl ?_
  exact V_wk [true, true, true, false] rfl (T_X5_signerBits_4 G fu μ t hG ht fu _ _ _ h)
theorem VM_X5_signerBits (G : GX) (fu : Nat) (μ : Mem) (t : Nat) (hG : gt G = tbl) (ht : IsX5 t) (r : Int32) (h : D_X5_signerBits_0 fu μ t = some r) : VM G mX5_signerBits [.ref t] μ (.inl (some (.int r))) (μ) := V_entry ok_mX5_signerBits rfl rfl (Nat.le_of_ble_eq_true rfl) (T_X5_signerBits_0 G fu μ t hG ht r h)
def D_X5_sizesIn_5 (fu : Nat) (μ : Mem) (t : Nat) : Nat → Int32 → Int64 → Int32 → Option Int64
  | 0, _, _, _ => none
  | n + 1, v1, v2, v4 =>
    gu (ib v1 12) <|
    if (μ.1 (t + 12) (Int32.toNatClampNeg v1)) ≤ v4 then
      some v2
    else
      (D_X5_layerAt_0 μ t v1 v4).bind fun x2 =>
      gu (ib x2 40) <|
      vl (v2 + ((μ.1 (t + 3) (Int32.toNatClampNeg x2) : Int32).toInt64) : Int64) fun x5 =>
      (D_X5_sizesIn_5 fu μ t n) v1 x5 (v4 + 1)
set_option maxRecDepth 20000 in
theorem T_X5_sizesIn_5 (G : GX) (fu : Nat) (μ : Mem) (t : Nat) (hG : gt G = tbl) (ht : IsX5 t) : ∀ (n : Nat) (v1 : Int32) (v2 : Int64) (v4 : Int32) (r : Int64) , D_X5_sizesIn_5 fu μ t n v1 v2 v4 = some r → V G mX5_sizesIn 5 [some (.ref t), some (.int v1), some (.long v2), none, some (.int v4)] [] μ (.inl (some (.long r))) (μ) := by
  intro n
  induction n with
  | zero =>
    intro v1 v2 v4 r h
    exact nomatch (show (none : Option Int64) = some r from h)
  | succ n ih =>
    intro v1 v2 v4 r h
    rw [D_X5_sizesIn_5] at h
    refine V_iload dX5_sizesIn_5 rfl ?_
    refine V_aload_n dX5_sizesIn_7 rfl ?_
    refine V_getR (kf := 11) k_X5 (by decide) lk_RX5_46 rfl dX5_sizesIn_8 (tq_X5_0 hG ht) rfl ?_
    refine V_iload_n dX5_sizesIn_11 rfl ?_
    obtain ⟨g1, h⟩ := gu_o h
    refine V_iaload dX5_sizesIn_12 (tq_X5_12 hG ht) (ib_in g1) ?_
    by_cases c13 : (μ.1 (t + 12) (Int32.toNatClampNeg v1)) ≤ v4
    · rw [if_pos c13] at h
      refine V_icmpge_t (tgt := 38) dX5_sizesIn_13 (by decide) c13 ?_
      refine V_lload_n dX5_sizesIn_38 rfl ?_
      cases h
      exact V_lret rfl dX5_sizesIn_39
    · rw [if_neg c13] at h
      refine V_icmpge_f (tgt := 38) dX5_sizesIn_13 (by decide) c13 ?_
      refine V_lload_n dX5_sizesIn_16 rfl ?_
      refine V_aload_n dX5_sizesIn_17 rfl ?_
      refine V_getR (kf := 2) k_X5 (by decide) lk_RX5_18 rfl dX5_sizesIn_18 (tq_X5_0 hG ht) rfl ?_
      refine V_aload_n dX5_sizesIn_21 rfl ?_
      refine V_iload_n dX5_sizesIn_22 rfl ?_
      refine V_iload dX5_sizesIn_23 rfl ?_
      obtain ⟨x2, y3, h⟩ := bi_o h
      refine V_callV (as := [.int v1, .int v4]) (q := t) (rest := [.ref (t + 3), .long v2]) dX5_sizesIn_25 ov_mX5_layerAt lk_RX5_66 (by decide) (by decide) rfl rfl (Nat.le_of_ble_eq_true rfl) (tq_X5_0 hG ht) rfl (VM_X5_layerAt G μ t hG ht v1 v4 _ y3) ?_
      obtain ⟨g4, h⟩ := gu_o h
      refine V_iaload dX5_sizesIn_28 (tq_X5_3 hG ht) (ib_in g4) ?_
      refine V_i2l dX5_sizesIn_29 ?_
      refine V_ladd dX5_sizesIn_30 ?_
      obtain ⟨x5, e6, h⟩ := vl_o h
      refine V_topl e6 ?_
      refine V_lstore_n (lv2 := [some (.ref t), some (.int v1), some (.long x5), none, some (.int v4)]) dX5_sizesIn_31 (by decide) rfl ?_
      refine V_iinc (v := v4 + 1) (lv2 := [some (.ref t), some (.int v1), some (.long x5), none, some (.int (v4 + 1))]) dX5_sizesIn_32 rfl rfl (by decide) rfl ?_
      refine V_goto (tgt := 5) dX5_sizesIn_35 (by decide) ?_
      exact V_wk [true, true, true, false, true] rfl (ih _ _ _ _ h)
def D_X5_sizesIn_0 (fu : Nat) (μ : Mem) (t : Nat) (a1 : Int32) : Option Int64 :=
  D_X5_sizesIn_5 fu μ t fu a1 0 0
set_option maxRecDepth 20000 in
theorem T_X5_sizesIn_0 (G : GX) (fu : Nat) (μ : Mem) (t : Nat) (hG : gt G = tbl) (ht : IsX5 t) : ∀ (a1 : Int32) (r : Int64) , D_X5_sizesIn_0 fu μ t a1 = some r → V G mX5_sizesIn 0 [some (.ref t), some (.int a1), none, none, none] [] μ (.inl (some (.long r))) (μ) := by
  intro a1 r h
  unfold D_X5_sizesIn_0 at h
  refine V_lconst (v := 0) dX5_sizesIn_0 rfl ?_
  refine V_lstore_n (lv2 := [some (.ref t), some (.int a1), some (.long 0), none, none]) dX5_sizesIn_1 (by decide) rfl ?_
  refine V_iconst (v := 0) dX5_sizesIn_2 rfl ?_
  refine V_istore (lv2 := [some (.ref t), some (.int a1), some (.long 0), none, some (.int 0)]) dX5_sizesIn_3 (by decide) rfl ?_
  exact V_wk [true, true, true, false, true] rfl (T_X5_sizesIn_5 G fu μ t hG ht fu _ _ _ _ h)
theorem VM_X5_sizesIn (G : GX) (fu : Nat) (μ : Mem) (t : Nat) (hG : gt G = tbl) (ht : IsX5 t) (a1 : Int32) (r : Int64) (h : D_X5_sizesIn_0 fu μ t a1 = some r) : VM G mX5_sizesIn [.ref t, .int a1] μ (.inl (some (.long r))) (μ) := V_entry ok_mX5_sizesIn rfl rfl (Nat.le_of_ble_eq_true rfl) (T_X5_sizesIn_0 G fu μ t hG ht a1 r h)
def D_X5_usedIn_5 (fu : Nat) (μ : Mem) (t : Nat) : Nat → Int32 → Int64 → Int32 → Option Int64
  | 0, _, _, _ => none
  | n + 1, v1, v2, v4 =>
    gu (ib v1 12) <|
    if (μ.1 (t + 12) (Int32.toNatClampNeg v1)) ≤ v4 then
      some v2
    else
      (D_X5_layerAt_0 μ t v1 v4).bind fun x2 =>
      gu (ib x2 40) <|
      vl (v2 + (μ.2.1 (t + 5) (Int32.toNatClampNeg x2)) : Int64) fun x5 =>
      (D_X5_usedIn_5 fu μ t n) v1 x5 (v4 + 1)
set_option maxRecDepth 20000 in
theorem T_X5_usedIn_5 (G : GX) (fu : Nat) (μ : Mem) (t : Nat) (hG : gt G = tbl) (ht : IsX5 t) : ∀ (n : Nat) (v1 : Int32) (v2 : Int64) (v4 : Int32) (r : Int64) , D_X5_usedIn_5 fu μ t n v1 v2 v4 = some r → V G mX5_usedIn 5 [some (.ref t), some (.int v1), some (.long v2), none, some (.int v4)] [] μ (.inl (some (.long r))) (μ) := by
  intro n
  induction n with
  | zero =>
    intro v1 v2 v4 r h
    exact nomatch (show (none : Option Int64) = some r from h)
  | succ n ih =>
    intro v1 v2 v4 r h
    rw [D_X5_usedIn_5] at h
    refine V_iload dX5_usedIn_5 rfl ?_
    refine V_aload_n dX5_usedIn_7 rfl ?_
    refine V_getR (kf := 11) k_X5 (by decide) lk_RX5_46 rfl dX5_usedIn_8 (tq_X5_0 hG ht) rfl ?_
    refine V_iload_n dX5_usedIn_11 rfl ?_
    obtain ⟨g1, h⟩ := gu_o h
    refine V_iaload dX5_usedIn_12 (tq_X5_12 hG ht) (ib_in g1) ?_
    by_cases c13 : (μ.1 (t + 12) (Int32.toNatClampNeg v1)) ≤ v4
    · rw [if_pos c13] at h
      refine V_icmpge_t (tgt := 37) dX5_usedIn_13 (by decide) c13 ?_
      refine V_lload_n dX5_usedIn_37 rfl ?_
      cases h
      exact V_lret rfl dX5_usedIn_38
    · rw [if_neg c13] at h
      refine V_icmpge_f (tgt := 37) dX5_usedIn_13 (by decide) c13 ?_
      refine V_lload_n dX5_usedIn_16 rfl ?_
      refine V_aload_n dX5_usedIn_17 rfl ?_
      refine V_getR (kf := 4) k_X5 (by decide) lk_RX5_24 rfl dX5_usedIn_18 (tq_X5_0 hG ht) rfl ?_
      refine V_aload_n dX5_usedIn_21 rfl ?_
      refine V_iload_n dX5_usedIn_22 rfl ?_
      refine V_iload dX5_usedIn_23 rfl ?_
      obtain ⟨x2, y3, h⟩ := bi_o h
      refine V_callV (as := [.int v1, .int v4]) (q := t) (rest := [.ref (t + 5), .long v2]) dX5_usedIn_25 ov_mX5_layerAt lk_RX5_66 (by decide) (by decide) rfl rfl (Nat.le_of_ble_eq_true rfl) (tq_X5_0 hG ht) rfl (VM_X5_layerAt G μ t hG ht v1 v4 _ y3) ?_
      obtain ⟨g4, h⟩ := gu_o h
      refine V_laload dX5_usedIn_28 (tq_X5_5 hG ht) (ib_in g4) ?_
      refine V_ladd dX5_usedIn_29 ?_
      obtain ⟨x5, e6, h⟩ := vl_o h
      refine V_topl e6 ?_
      refine V_lstore_n (lv2 := [some (.ref t), some (.int v1), some (.long x5), none, some (.int v4)]) dX5_usedIn_30 (by decide) rfl ?_
      refine V_iinc (v := v4 + 1) (lv2 := [some (.ref t), some (.int v1), some (.long x5), none, some (.int (v4 + 1))]) dX5_usedIn_31 rfl rfl (by decide) rfl ?_
      refine V_goto (tgt := 5) dX5_usedIn_34 (by decide) ?_
      exact V_wk [true, true, true, false, true] rfl (ih _ _ _ _ h)
def D_X5_usedIn_0 (fu : Nat) (μ : Mem) (t : Nat) (a1 : Int32) : Option Int64 :=
  D_X5_usedIn_5 fu μ t fu a1 0 0
set_option maxRecDepth 20000 in
theorem T_X5_usedIn_0 (G : GX) (fu : Nat) (μ : Mem) (t : Nat) (hG : gt G = tbl) (ht : IsX5 t) : ∀ (a1 : Int32) (r : Int64) , D_X5_usedIn_0 fu μ t a1 = some r → V G mX5_usedIn 0 [some (.ref t), some (.int a1), none, none, none] [] μ (.inl (some (.long r))) (μ) := by
  intro a1 r h
  unfold D_X5_usedIn_0 at h
  refine V_lconst (v := 0) dX5_usedIn_0 rfl ?_
  refine V_lstore_n (lv2 := [some (.ref t), some (.int a1), some (.long 0), none, none]) dX5_usedIn_1 (by decide) rfl ?_
  refine V_iconst (v := 0) dX5_usedIn_2 rfl ?_
  refine V_istore (lv2 := [some (.ref t), some (.int a1), some (.long 0), none, some (.int 0)]) dX5_usedIn_3 (by decide) rfl ?_
  exact V_wk [true, true, true, false, true] rfl (T_X5_usedIn_5 G fu μ t hG ht fu _ _ _ _ h)
theorem VM_X5_usedIn (G : GX) (fu : Nat) (μ : Mem) (t : Nat) (hG : gt G = tbl) (ht : IsX5 t) (a1 : Int32) (r : Int64) (h : D_X5_usedIn_0 fu μ t a1 = some r) : VM G mX5_usedIn [.ref t, .int a1] μ (.inl (some (.long r))) (μ) := V_entry ok_mX5_usedIn rfl rfl (Nat.le_of_ble_eq_true rfl) (T_X5_usedIn_0 G fu μ t hG ht a1 r h)
def D_X5_leftIn_5 (fu : Nat) (μ : Mem) (t : Nat) : Nat → Int32 → Int64 → Int32 → Option Int64
  | 0, _, _, _ => none
  | n + 1, v1, v2, v4 =>
    gu (ib v1 12) <|
    if (μ.1 (t + 12) (Int32.toNatClampNeg v1)) ≤ v4 then
      some v2
    else
      (D_X5_layerAt_0 μ t v1 v4).bind fun x2 =>
      (D_X5_leftOf_0 μ t x2).bind fun x4 =>
      (D_X5_leftIn_5 fu μ t n) v1 (v2 + x4) (v4 + 1)
set_option maxRecDepth 20000 in
theorem T_X5_leftIn_5 (G : GX) (fu : Nat) (μ : Mem) (t : Nat) (hG : gt G = tbl) (ht : IsX5 t) : ∀ (n : Nat) (v1 : Int32) (v2 : Int64) (v4 : Int32) (r : Int64) , D_X5_leftIn_5 fu μ t n v1 v2 v4 = some r → V G mX5_leftIn 5 [some (.ref t), some (.int v1), some (.long v2), none, some (.int v4)] [] μ (.inl (some (.long r))) (μ) := by
  intro n
  induction n with
  | zero =>
    intro v1 v2 v4 r h
    exact nomatch (show (none : Option Int64) = some r from h)
  | succ n ih =>
    intro v1 v2 v4 r h
    rw [D_X5_leftIn_5] at h
    refine V_iload dX5_leftIn_5 rfl ?_
    refine V_aload_n dX5_leftIn_7 rfl ?_
    refine V_getR (kf := 11) k_X5 (by decide) lk_RX5_46 rfl dX5_leftIn_8 (tq_X5_0 hG ht) rfl ?_
    refine V_iload_n dX5_leftIn_11 rfl ?_
    obtain ⟨g1, h⟩ := gu_o h
    refine V_iaload dX5_leftIn_12 (tq_X5_12 hG ht) (ib_in g1) ?_
    by_cases c13 : (μ.1 (t + 12) (Int32.toNatClampNeg v1)) ≤ v4
    · rw [if_pos c13] at h
      refine V_icmpge_t (tgt := 36) dX5_leftIn_13 (by decide) c13 ?_
      refine V_lload_n dX5_leftIn_36 rfl ?_
      cases h
      exact V_lret rfl dX5_leftIn_37
    · rw [if_neg c13] at h
      refine V_icmpge_f (tgt := 36) dX5_leftIn_13 (by decide) c13 ?_
      refine V_lload_n dX5_leftIn_16 rfl ?_
      refine V_aload_n dX5_leftIn_17 rfl ?_
      refine V_aload_n dX5_leftIn_18 rfl ?_
      refine V_iload_n dX5_leftIn_19 rfl ?_
      refine V_iload dX5_leftIn_20 rfl ?_
      obtain ⟨x2, y3, h⟩ := bi_o h
      refine V_callV (as := [.int v1, .int v4]) (q := t) (rest := [.ref t, .long v2]) dX5_leftIn_22 ov_mX5_layerAt lk_RX5_66 (by decide) (by decide) rfl rfl (Nat.le_of_ble_eq_true rfl) (tq_X5_0 hG ht) rfl (VM_X5_layerAt G μ t hG ht v1 v4 _ y3) ?_
      obtain ⟨x4, y5, h⟩ := bi_o h
      refine V_callV (as := [.int x2]) (q := t) (rest := [.long v2]) dX5_leftIn_25 ov_mX5_leftOf lk_RX5_62 (by decide) (by decide) rfl rfl (Nat.le_of_ble_eq_true rfl) (tq_X5_0 hG ht) rfl (VM_X5_leftOf G μ t hG ht x2 _ y5) ?_
      refine V_ladd dX5_leftIn_28 ?_
      refine V_lstore_n (lv2 := [some (.ref t), some (.int v1), some (.long (v2 + x4)), none, some (.int v4)]) dX5_leftIn_29 (by decide) rfl ?_
      refine V_iinc (v := v4 + 1) (lv2 := [some (.ref t), some (.int v1), some (.long (v2 + x4)), none, some (.int (v4 + 1))]) dX5_leftIn_30 rfl rfl (by decide) rfl ?_
      refine V_goto (tgt := 5) dX5_leftIn_33 (by decide) ?_
      exact V_wk [true, true, true, false, true] rfl (ih _ _ _ _ h)
def D_X5_leftIn_0 (fu : Nat) (μ : Mem) (t : Nat) (a1 : Int32) : Option Int64 :=
  D_X5_leftIn_5 fu μ t fu a1 0 0
set_option maxRecDepth 20000 in
theorem T_X5_leftIn_0 (G : GX) (fu : Nat) (μ : Mem) (t : Nat) (hG : gt G = tbl) (ht : IsX5 t) : ∀ (a1 : Int32) (r : Int64) , D_X5_leftIn_0 fu μ t a1 = some r → V G mX5_leftIn 0 [some (.ref t), some (.int a1), none, none, none] [] μ (.inl (some (.long r))) (μ) := by
  intro a1 r h
  unfold D_X5_leftIn_0 at h
  refine V_lconst (v := 0) dX5_leftIn_0 rfl ?_
  refine V_lstore_n (lv2 := [some (.ref t), some (.int a1), some (.long 0), none, none]) dX5_leftIn_1 (by decide) rfl ?_
  refine V_iconst (v := 0) dX5_leftIn_2 rfl ?_
  refine V_istore (lv2 := [some (.ref t), some (.int a1), some (.long 0), none, some (.int 0)]) dX5_leftIn_3 (by decide) rfl ?_
  exact V_wk [true, true, true, false, true] rfl (T_X5_leftIn_5 G fu μ t hG ht fu _ _ _ _ h)
theorem VM_X5_leftIn (G : GX) (fu : Nat) (μ : Mem) (t : Nat) (hG : gt G = tbl) (ht : IsX5 t) (a1 : Int32) (r : Int64) (h : D_X5_leftIn_0 fu μ t a1 = some r) : VM G mX5_leftIn [.ref t, .int a1] μ (.inl (some (.long r))) (μ) := V_entry ok_mX5_leftIn rfl rfl (Nat.le_of_ble_eq_true rfl) (T_X5_leftIn_0 G fu μ t hG ht a1 r h)
def D_X5_layerAtHeight_2 (fu : Nat) (μ : Mem) (t : Nat) : Nat → Int32 → Int32 → Int32 → Option Int32
  | 0, _, _, _ => none
  | n + 1, v1, v2, v3 =>
    gu (ib v1 12) <|
    if (μ.1 (t + 12) (Int32.toNatClampNeg v1)) ≤ v3 then
      some (-2)
    else
      (D_X5_layerAt_0 μ t v1 v3).bind fun x2 =>
      gu (ib x2 40) <|
      if (μ.1 (t + 2) (Int32.toNatClampNeg x2)) ≤ v2 then
        (D_X5_topOf_0 μ t x2).bind fun x5 =>
        if x5 ≤ v2 then
          (D_X5_layerAtHeight_2 fu μ t n) v1 v2 (v3 + 1)
        else
          some x2
      else
        some (-1)
set_option maxRecDepth 20000 in
theorem T_X5_layerAtHeight_2 (G : GX) (fu : Nat) (μ : Mem) (t : Nat) (hG : gt G = tbl) (ht : IsX5 t) : ∀ (n : Nat) (v1 : Int32) (v2 : Int32) (v3 : Int32) (r : Int32) , D_X5_layerAtHeight_2 fu μ t n v1 v2 v3 = some r → V G mX5_layerAtHeight 2 [some (.ref t), some (.int v1), some (.int v2), some (.int v3), none] [] μ (.inl (some (.int r))) (μ) := by
  intro n
  induction n with
  | zero =>
    intro v1 v2 v3 r h
    exact nomatch (show (none : Option Int32) = some r from h)
  | succ n ih =>
    intro v1 v2 v3 r h
    rw [D_X5_layerAtHeight_2] at h
    refine V_iload_n dX5_layerAtHeight_2 rfl ?_
    refine V_aload_n dX5_layerAtHeight_3 rfl ?_
    refine V_getR (kf := 11) k_X5 (by decide) lk_RX5_46 rfl dX5_layerAtHeight_4 (tq_X5_0 hG ht) rfl ?_
    refine V_iload_n dX5_layerAtHeight_7 rfl ?_
    obtain ⟨g1, h⟩ := gu_o h
    refine V_iaload dX5_layerAtHeight_8 (tq_X5_12 hG ht) (ib_in g1) ?_
    by_cases c9 : (μ.1 (t + 12) (Int32.toNatClampNeg v1)) ≤ v3
    · rw [if_pos c9] at h
      refine V_icmpge_t (tgt := 52) dX5_layerAtHeight_9 (by decide) c9 ?_
      refine V_bipush (v := (-2)) dX5_layerAtHeight_52 rfl ?_
      cases h
      exact V_iret rfl dX5_layerAtHeight_54
    · rw [if_neg c9] at h
      refine V_icmpge_f (tgt := 52) dX5_layerAtHeight_9 (by decide) c9 ?_
      refine V_aload_n dX5_layerAtHeight_12 rfl ?_
      refine V_iload_n dX5_layerAtHeight_13 rfl ?_
      refine V_iload_n dX5_layerAtHeight_14 rfl ?_
      obtain ⟨x2, y3, h⟩ := bi_o h
      refine V_callV (as := [.int v1, .int v3]) (q := t) (rest := []) dX5_layerAtHeight_15 ov_mX5_layerAt lk_RX5_66 (by decide) (by decide) rfl rfl (Nat.le_of_ble_eq_true rfl) (tq_X5_0 hG ht) rfl (VM_X5_layerAt G μ t hG ht v1 v3 _ y3) ?_
      refine V_istore (lv2 := [some (.ref t), some (.int v1), some (.int v2), some (.int v3), some (.int x2)]) dX5_layerAtHeight_18 (by decide) rfl ?_
      refine V_iload_n dX5_layerAtHeight_20 rfl ?_
      refine V_aload_n dX5_layerAtHeight_21 rfl ?_
      refine V_getR (kf := 1) k_X5 (by decide) lk_RX5_15 rfl dX5_layerAtHeight_22 (tq_X5_0 hG ht) rfl ?_
      refine V_iload dX5_layerAtHeight_25 rfl ?_
      obtain ⟨g4, h⟩ := gu_o h
      refine V_iaload dX5_layerAtHeight_27 (tq_X5_2 hG ht) (ib_in g4) ?_
      by_cases c28 : (μ.1 (t + 2) (Int32.toNatClampNeg x2)) ≤ v2
      · rw [if_pos c28] at h
        refine V_icmpge_t (tgt := 33) dX5_layerAtHeight_28 (by decide) c28 ?_
        refine V_iload_n dX5_layerAtHeight_33 rfl ?_
        refine V_aload_n dX5_layerAtHeight_34 rfl ?_
        refine V_iload dX5_layerAtHeight_35 rfl ?_
        obtain ⟨x5, y6, h⟩ := bi_o h
        refine V_callV (as := [.int x2]) (q := t) (rest := [.int v2]) dX5_layerAtHeight_37 ov_mX5_topOf lk_RX5_70 (by decide) (by decide) rfl rfl (Nat.le_of_ble_eq_true rfl) (tq_X5_0 hG ht) rfl (VM_X5_topOf G μ t hG ht x2 _ y6) ?_
        by_cases c40 : x5 ≤ v2
        · rw [if_pos c40] at h
          refine V_icmpge_t (tgt := 46) dX5_layerAtHeight_40 (by decide) c40 ?_
          refine V_iinc (v := v3 + 1) (lv2 := [some (.ref t), some (.int v1), some (.int v2), some (.int (v3 + 1)), some (.int x2)]) dX5_layerAtHeight_46 rfl rfl (by decide) rfl ?_
          refine V_goto (tgt := 2) dX5_layerAtHeight_49 (by decide) ?_
          exact V_wk [true, true, true, true, false] rfl (ih _ _ _ _ h)
        · rw [if_neg c40] at h
          refine V_icmpge_f (tgt := 46) dX5_layerAtHeight_40 (by decide) c40 ?_
          refine V_iload dX5_layerAtHeight_43 rfl ?_
          cases h
          exact V_iret rfl dX5_layerAtHeight_45
      · rw [if_neg c28] at h
        refine V_icmpge_f (tgt := 33) dX5_layerAtHeight_28 (by decide) c28 ?_
        refine V_iconst (v := (-1)) dX5_layerAtHeight_31 rfl ?_
        cases h
        exact V_iret rfl dX5_layerAtHeight_32
def D_X5_layerAtHeight_0 (fu : Nat) (μ : Mem) (t : Nat) (a1 : Int32) (a2 : Int32) : Option Int32 :=
  D_X5_layerAtHeight_2 fu μ t fu a1 a2 0
set_option maxRecDepth 20000 in
theorem T_X5_layerAtHeight_0 (G : GX) (fu : Nat) (μ : Mem) (t : Nat) (hG : gt G = tbl) (ht : IsX5 t) : ∀ (a1 : Int32) (a2 : Int32) (r : Int32) , D_X5_layerAtHeight_0 fu μ t a1 a2 = some r → V G mX5_layerAtHeight 0 [some (.ref t), some (.int a1), some (.int a2), none, none] [] μ (.inl (some (.int r))) (μ) := by
  intro a1 a2 r h
  unfold D_X5_layerAtHeight_0 at h
  refine V_iconst (v := 0) dX5_layerAtHeight_0 rfl ?_
  refine V_istore_n (lv2 := [some (.ref t), some (.int a1), some (.int a2), some (.int 0), none]) dX5_layerAtHeight_1 (by decide) rfl ?_
  exact V_wk [true, true, true, true, false] rfl (T_X5_layerAtHeight_2 G fu μ t hG ht fu _ _ _ _ h)
theorem VM_X5_layerAtHeight (G : GX) (fu : Nat) (μ : Mem) (t : Nat) (hG : gt G = tbl) (ht : IsX5 t) (a1 : Int32) (a2 : Int32) (r : Int32) (h : D_X5_layerAtHeight_0 fu μ t a1 a2 = some r) : VM G mX5_layerAtHeight [.ref t, .int a1, .int a2] μ (.inl (some (.int r))) (μ) := V_entry ok_mX5_layerAtHeight rfl rfl (Nat.le_of_ble_eq_true rfl) (T_X5_layerAtHeight_0 G fu μ t hG ht a1 a2 r h)
def D_X5_coveredIn_6 (fu : Nat) (μ : Mem) (t : Nat) : Nat → Int32 → Int32 → Int32 → Int32 → Int32 → Option Int32
  | 0, _, _, _, _, _ => none
  | n + 1, v1, v2, v3, v4, v5 =>
    gu (ib v1 12) <|
    if (μ.1 (t + 12) (Int32.toNatClampNeg v1)) ≤ v5 then
      some v4
    else
      (D_X5_layerAt_0 μ t v1 v5).bind fun x2 =>
      (D_X5_topOf_0 μ t x2).bind fun x4 =>
      gu (ib x2 40) <|
      vl (v4 + (if 0 < ((if x4 < v3 then x4 else v3) - (if v2 < (μ.1 (t + 2) (Int32.toNatClampNeg x2)) then (μ.1 (t + 2) (Int32.toNatClampNeg x2)) else v2)) then ((if x4 < v3 then x4 else v3) - (if v2 < (μ.1 (t + 2) (Int32.toNatClampNeg x2)) then (μ.1 (t + 2) (Int32.toNatClampNeg x2)) else v2)) else 0) : Int32) fun x7 =>
      (D_X5_coveredIn_6 fu μ t n) v1 v2 v3 x7 (v5 + 1)
set_option maxRecDepth 20000 in
theorem T_X5_coveredIn_6 (G : GX) (fu : Nat) (μ : Mem) (t : Nat) (hG : gt G = tbl) (ht : IsX5 t) : ∀ (n : Nat) (v1 : Int32) (v2 : Int32) (v3 : Int32) (v4 : Int32) (v5 : Int32) (r : Int32) , D_X5_coveredIn_6 fu μ t n v1 v2 v3 v4 v5 = some r → V G mX5_coveredIn 6 [some (.ref t), some (.int v1), some (.int v2), some (.int v3), some (.int v4), some (.int v5), none] [] μ (.inl (some (.int r))) (μ) := by
  intro n
  induction n with
  | zero =>
    intro v1 v2 v3 v4 v5 r h
    exact nomatch (show (none : Option Int32) = some r from h)
  | succ n ih =>
    intro v1 v2 v3 v4 v5 r h
    rw [D_X5_coveredIn_6] at h
    refine V_iload dX5_coveredIn_6 rfl ?_
    refine V_aload_n dX5_coveredIn_8 rfl ?_
    refine V_getR (kf := 11) k_X5 (by decide) lk_RX5_46 rfl dX5_coveredIn_9 (tq_X5_0 hG ht) rfl ?_
    refine V_iload_n dX5_coveredIn_12 rfl ?_
    obtain ⟨g1, h⟩ := gu_o h
    refine V_iaload dX5_coveredIn_13 (tq_X5_12 hG ht) (ib_in g1) ?_
    by_cases c14 : (μ.1 (t + 12) (Int32.toNatClampNeg v1)) ≤ v5
    · rw [if_pos c14] at h
      refine V_icmpge_t (tgt := 63) dX5_coveredIn_14 (by decide) c14 ?_
      refine V_iload dX5_coveredIn_63 rfl ?_
      cases h
      exact V_iret rfl dX5_coveredIn_65
    · rw [if_neg c14] at h
      refine V_icmpge_f (tgt := 63) dX5_coveredIn_14 (by decide) c14 ?_
      refine V_aload_n dX5_coveredIn_17 rfl ?_
      refine V_iload_n dX5_coveredIn_18 rfl ?_
      refine V_iload dX5_coveredIn_19 rfl ?_
      obtain ⟨x2, y3, h⟩ := bi_o h
      refine V_callV (as := [.int v1, .int v5]) (q := t) (rest := []) dX5_coveredIn_21 ov_mX5_layerAt lk_RX5_66 (by decide) (by decide) rfl rfl (Nat.le_of_ble_eq_true rfl) (tq_X5_0 hG ht) rfl (VM_X5_layerAt G μ t hG ht v1 v5 _ y3) ?_
      refine V_istore (lv2 := [some (.ref t), some (.int v1), some (.int v2), some (.int v3), some (.int v4), some (.int v5), some (.int x2)]) dX5_coveredIn_24 (by decide) rfl ?_
      refine V_iload dX5_coveredIn_26 rfl ?_
      refine V_iconst (v := 0) dX5_coveredIn_28 rfl ?_
      refine V_iload_n dX5_coveredIn_29 rfl ?_
      refine V_aload_n dX5_coveredIn_30 rfl ?_
      refine V_iload dX5_coveredIn_31 rfl ?_
      obtain ⟨x4, y5, h⟩ := bi_o h
      refine V_callV (as := [.int x2]) (q := t) (rest := [.int v3, .int 0, .int v4]) dX5_coveredIn_33 ov_mX5_topOf lk_RX5_70 (by decide) (by decide) rfl rfl (Nat.le_of_ble_eq_true rfl) (tq_X5_0 hG ht) rfl (VM_X5_topOf G μ t hG ht x2 _ y5) ?_
      refine V_mminI dX5_coveredIn_36 lk_RX5_96 ma_minI_s ma_minI_c in_java_lang_Math (by decide) (Nat.le_of_ble_eq_true rfl) ?_
      refine V_iload_n dX5_coveredIn_39 rfl ?_
      refine V_aload_n dX5_coveredIn_40 rfl ?_
      refine V_getR (kf := 1) k_X5 (by decide) lk_RX5_15 rfl dX5_coveredIn_41 (tq_X5_0 hG ht) rfl ?_
      refine V_iload dX5_coveredIn_44 rfl ?_
      obtain ⟨g6, h⟩ := gu_o h
      refine V_iaload dX5_coveredIn_46 (tq_X5_2 hG ht) (ib_in g6) ?_
      refine V_mmaxI dX5_coveredIn_47 lk_RX5_82 ma_maxI_s ma_maxI_c in_java_lang_Math (by decide) (Nat.le_of_ble_eq_true rfl) ?_
      refine V_isub dX5_coveredIn_50 ?_
      refine V_mmaxI dX5_coveredIn_51 lk_RX5_82 ma_maxI_s ma_maxI_c in_java_lang_Math (by decide) (Nat.le_of_ble_eq_true rfl) ?_
      refine V_iadd dX5_coveredIn_54 ?_
      obtain ⟨x7, e8, h⟩ := vl_o h
      refine V_topi e8 ?_
      refine V_istore (lv2 := [some (.ref t), some (.int v1), some (.int v2), some (.int v3), some (.int x7), some (.int v5), some (.int x2)]) dX5_coveredIn_55 (by decide) rfl ?_
      refine V_iinc (v := v5 + 1) (lv2 := [some (.ref t), some (.int v1), some (.int v2), some (.int v3), some (.int x7), some (.int (v5 + 1)), some (.int x2)]) dX5_coveredIn_57 rfl rfl (by decide) rfl ?_
      refine V_goto (tgt := 6) dX5_coveredIn_60 (by decide) ?_
      exact V_wk [true, true, true, true, true, true, false] rfl (ih _ _ _ _ _ _ h)
def D_X5_coveredIn_0 (fu : Nat) (μ : Mem) (t : Nat) (a1 : Int32) (a2 : Int32) (a3 : Int32) : Option Int32 :=
  D_X5_coveredIn_6 fu μ t fu a1 a2 a3 0 0
set_option maxRecDepth 20000 in
theorem T_X5_coveredIn_0 (G : GX) (fu : Nat) (μ : Mem) (t : Nat) (hG : gt G = tbl) (ht : IsX5 t) : ∀ (a1 : Int32) (a2 : Int32) (a3 : Int32) (r : Int32) , D_X5_coveredIn_0 fu μ t a1 a2 a3 = some r → V G mX5_coveredIn 0 [some (.ref t), some (.int a1), some (.int a2), some (.int a3), none, none, none] [] μ (.inl (some (.int r))) (μ) := by
  intro a1 a2 a3 r h
  unfold D_X5_coveredIn_0 at h
  refine V_iconst (v := 0) dX5_coveredIn_0 rfl ?_
  refine V_istore (lv2 := [some (.ref t), some (.int a1), some (.int a2), some (.int a3), some (.int 0), none, none]) dX5_coveredIn_1 (by decide) rfl ?_
  refine V_iconst (v := 0) dX5_coveredIn_3 rfl ?_
  refine V_istore (lv2 := [some (.ref t), some (.int a1), some (.int a2), some (.int a3), some (.int 0), some (.int 0), none]) dX5_coveredIn_4 (by decide) rfl ?_
  exact V_wk [true, true, true, true, true, true, false] rfl (T_X5_coveredIn_6 G fu μ t hG ht fu _ _ _ _ _ _ h)
theorem VM_X5_coveredIn (G : GX) (fu : Nat) (μ : Mem) (t : Nat) (hG : gt G = tbl) (ht : IsX5 t) (a1 : Int32) (a2 : Int32) (a3 : Int32) (r : Int32) (h : D_X5_coveredIn_0 fu μ t a1 a2 a3 = some r) : VM G mX5_coveredIn [.ref t, .int a1, .int a2, .int a3] μ (.inl (some (.int r))) (μ) := V_entry ok_mX5_coveredIn rfl rfl (Nat.le_of_ble_eq_true rfl) (T_X5_coveredIn_0 G fu μ t hG ht a1 a2 a3 r h)
def D_X5_layersSignedBy_24 (fu : Nat) (μ : Mem) (t : Nat) (k4 : Int32 → Int32 → Int32 → Option Int32) (v1 : Int32) (v2 : Int32) (v3 : Int32) : Option Int32 :=
  k4 v1 v2 (v3 + 1)
set_option maxRecDepth 20000 in
theorem T_X5_layersSignedBy_24 (G : GX) (fu : Nat) (μ : Mem) (t : Nat) (hG : gt G = tbl) (ht : IsX5 t) (k4 : Int32 → Int32 → Int32 → Option Int32) (hk4 : ∀ (v1 : Int32) (v2 : Int32) (v3 : Int32) (r : Int32), k4 v1 v2 v3 = some r → V G mX5_layersSignedBy 4 [some (.ref t), some (.int v1), some (.int v2), some (.int v3)] [] μ (.inl (some (.int r))) (μ)) : ∀ (v1 : Int32) (v2 : Int32) (v3 : Int32) (r : Int32) , D_X5_layersSignedBy_24 fu μ t k4 v1 v2 v3 = some r → V G mX5_layersSignedBy 24 [some (.ref t), some (.int v1), some (.int v2), some (.int v3)] [] μ (.inl (some (.int r))) (μ) := by
  intro v1 v2 v3 r h
  unfold D_X5_layersSignedBy_24 at h
  refine V_iinc (v := v3 + 1) (lv2 := [some (.ref t), some (.int v1), some (.int v2), some (.int (v3 + 1))]) dX5_layersSignedBy_24 rfl rfl (by decide) rfl ?_
  refine V_goto (tgt := 4) dX5_layersSignedBy_27 (by decide) ?_
  exact V_wk [true, true, true, true] rfl (hk4 _ _ _ _ h)
def D_X5_layersSignedBy_4 (fu : Nat) (μ : Mem) (t : Nat) : Nat → Int32 → Int32 → Int32 → Option Int32
  | 0, _, _, _ => none
  | n + 1, v1, v2, v3 =>
    if (μ.1 t 13) ≤ v3 then
      some v2
    else
      (D_X5_tenthsBy_0 fu μ t v3 v1).bind fun x1 =>
      if x1 ≤ 0 then
        D_X5_layersSignedBy_24 fu μ t (D_X5_layersSignedBy_4 fu μ t n) v1 v2 v3
      else
        D_X5_layersSignedBy_24 fu μ t (D_X5_layersSignedBy_4 fu μ t n) v1 (v2 + 1) v3
set_option maxRecDepth 20000 in
theorem T_X5_layersSignedBy_4 (G : GX) (fu : Nat) (μ : Mem) (t : Nat) (hG : gt G = tbl) (ht : IsX5 t) : ∀ (n : Nat) (v1 : Int32) (v2 : Int32) (v3 : Int32) (r : Int32) , D_X5_layersSignedBy_4 fu μ t n v1 v2 v3 = some r → V G mX5_layersSignedBy 4 [some (.ref t), some (.int v1), some (.int v2), some (.int v3)] [] μ (.inl (some (.int r))) (μ) := by
  intro n
  induction n with
  | zero =>
    intro v1 v2 v3 r h
    exact nomatch (show (none : Option Int32) = some r from h)
  | succ n ih =>
    intro v1 v2 v3 r h
    rw [D_X5_layersSignedBy_4] at h
    refine V_iload_n dX5_layersSignedBy_4 rfl ?_
    refine V_aload_n dX5_layersSignedBy_5 rfl ?_
    refine V_getI (kf := 13) k_X5 (by decide) lk_RX5_59 rfl dX5_layersSignedBy_6 (tq_X5_0 hG ht) rfl ?_
    by_cases c9 : (μ.1 t 13) ≤ v3
    · rw [if_pos c9] at h
      refine V_icmpge_t (tgt := 30) dX5_layersSignedBy_9 (by decide) c9 ?_
      refine V_iload_n dX5_layersSignedBy_30 rfl ?_
      cases h
      exact V_iret rfl dX5_layersSignedBy_31
    · rw [if_neg c9] at h
      refine V_icmpge_f (tgt := 30) dX5_layersSignedBy_9 (by decide) c9 ?_
      refine V_aload_n dX5_layersSignedBy_12 rfl ?_
      refine V_iload_n dX5_layersSignedBy_13 rfl ?_
      refine V_iload_n dX5_layersSignedBy_14 rfl ?_
      obtain ⟨x1, y2, h⟩ := bi_o h
      refine V_callV (as := [.int v3, .int v1]) (q := t) (rest := []) dX5_layersSignedBy_15 ov_mX5_tenthsBy lk_RX5_90 (by decide) (by decide) rfl rfl (Nat.le_of_ble_eq_true rfl) (tq_X5_0 hG ht) rfl (VM_X5_tenthsBy G fu μ t hG ht v3 v1 _ y2) ?_
      by_cases c18 : x1 ≤ 0
      · rw [if_pos c18] at h
        refine V_ifle_t (tgt := 24) dX5_layersSignedBy_18 (by decide) c18 ?_
        exact V_wk [true, true, true, true] rfl (T_X5_layersSignedBy_24 G fu μ t hG ht (D_X5_layersSignedBy_4 fu μ t n) ih _ _ _ _ h)
      · rw [if_neg c18] at h
        refine V_ifle_f (tgt := 24) dX5_layersSignedBy_18 (by decide) c18 ?_
        refine V_iinc (v := v2 + 1) (lv2 := [some (.ref t), some (.int v1), some (.int (v2 + 1)), some (.int v3)]) dX5_layersSignedBy_21 rfl rfl (by decide) rfl ?_
        exact V_wk [true, true, true, true] rfl (T_X5_layersSignedBy_24 G fu μ t hG ht (D_X5_layersSignedBy_4 fu μ t n) ih _ _ _ _ h)
def D_X5_layersSignedBy_0 (fu : Nat) (μ : Mem) (t : Nat) (a1 : Int32) : Option Int32 :=
  D_X5_layersSignedBy_4 fu μ t fu a1 0 0
set_option maxRecDepth 20000 in
theorem T_X5_layersSignedBy_0 (G : GX) (fu : Nat) (μ : Mem) (t : Nat) (hG : gt G = tbl) (ht : IsX5 t) : ∀ (a1 : Int32) (r : Int32) , D_X5_layersSignedBy_0 fu μ t a1 = some r → V G mX5_layersSignedBy 0 [some (.ref t), some (.int a1), none, none] [] μ (.inl (some (.int r))) (μ) := by
  intro a1 r h
  unfold D_X5_layersSignedBy_0 at h
  refine V_iconst (v := 0) dX5_layersSignedBy_0 rfl ?_
  refine V_istore_n (lv2 := [some (.ref t), some (.int a1), some (.int 0), none]) dX5_layersSignedBy_1 (by decide) rfl ?_
  refine V_iconst (v := 0) dX5_layersSignedBy_2 rfl ?_
  refine V_istore_n (lv2 := [some (.ref t), some (.int a1), some (.int 0), some (.int 0)]) dX5_layersSignedBy_3 (by decide) rfl ?_
  exact V_wk [true, true, true, true] rfl (T_X5_layersSignedBy_4 G fu μ t hG ht fu _ _ _ _ h)
theorem VM_X5_layersSignedBy (G : GX) (fu : Nat) (μ : Mem) (t : Nat) (hG : gt G = tbl) (ht : IsX5 t) (a1 : Int32) (r : Int32) (h : D_X5_layersSignedBy_0 fu μ t a1 = some r) : VM G mX5_layersSignedBy [.ref t, .int a1] μ (.inl (some (.int r))) (μ) := V_entry ok_mX5_layersSignedBy rfl rfl (Nat.le_of_ble_eq_true rfl) (T_X5_layersSignedBy_0 G fu μ t hG ht a1 r h)
def D_X5_leftSignedBy_5 (fu : Nat) (μ : Mem) (t : Nat) : Nat → Int32 → Int64 → Int32 → Option Int64
  | 0, _, _, _ => none
  | n + 1, v1, v2, v4 =>
    if (μ.1 t 13) ≤ v4 then
      some v2
    else
      (D_X5_leftOf_0 μ t v4).bind fun x1 =>
      (D_X5_tenthsBy_0 fu μ t v4 v1).bind fun x3 =>
      (D_X5_leftSignedBy_5 fu μ t n) v1 (v2 + ((x1 * ((x3 : Int32).toInt64)) / 10)) (v4 + 1)
set_option maxRecDepth 20000 in
theorem T_X5_leftSignedBy_5 (G : GX) (fu : Nat) (μ : Mem) (t : Nat) (hG : gt G = tbl) (ht : IsX5 t) : ∀ (n : Nat) (v1 : Int32) (v2 : Int64) (v4 : Int32) (r : Int64) , D_X5_leftSignedBy_5 fu μ t n v1 v2 v4 = some r → V G mX5_leftSignedBy 5 [some (.ref t), some (.int v1), some (.long v2), none, some (.int v4)] [] μ (.inl (some (.long r))) (μ) := by
  intro n
  induction n with
  | zero =>
    intro v1 v2 v4 r h
    exact nomatch (show (none : Option Int64) = some r from h)
  | succ n ih =>
    intro v1 v2 v4 r h
    rw [D_X5_leftSignedBy_5] at h
    refine V_iload dX5_leftSignedBy_5 rfl ?_
    refine V_aload_n dX5_leftSignedBy_7 rfl ?_
    refine V_getI (kf := 13) k_X5 (by decide) lk_RX5_59 rfl dX5_leftSignedBy_8 (tq_X5_0 hG ht) rfl ?_
    by_cases c11 : (μ.1 t 13) ≤ v4
    · rw [if_pos c11] at h
      refine V_icmpge_t (tgt := 42) dX5_leftSignedBy_11 (by decide) c11 ?_
      refine V_lload_n dX5_leftSignedBy_42 rfl ?_
      cases h
      exact V_lret rfl dX5_leftSignedBy_43
    · rw [if_neg c11] at h
      refine V_icmpge_f (tgt := 42) dX5_leftSignedBy_11 (by decide) c11 ?_
      refine V_lload_n dX5_leftSignedBy_14 rfl ?_
      refine V_aload_n dX5_leftSignedBy_15 rfl ?_
      refine V_iload dX5_leftSignedBy_16 rfl ?_
      obtain ⟨x1, y2, h⟩ := bi_o h
      refine V_callV (as := [.int v4]) (q := t) (rest := [.long v2]) dX5_leftSignedBy_18 ov_mX5_leftOf lk_RX5_62 (by decide) (by decide) rfl rfl (Nat.le_of_ble_eq_true rfl) (tq_X5_0 hG ht) rfl (VM_X5_leftOf G μ t hG ht v4 _ y2) ?_
      refine V_aload_n dX5_leftSignedBy_21 rfl ?_
      refine V_iload dX5_leftSignedBy_22 rfl ?_
      refine V_iload_n dX5_leftSignedBy_24 rfl ?_
      obtain ⟨x3, y4, h⟩ := bi_o h
      refine V_callV (as := [.int v4, .int v1]) (q := t) (rest := [.long x1, .long v2]) dX5_leftSignedBy_25 ov_mX5_tenthsBy lk_RX5_90 (by decide) (by decide) rfl rfl (Nat.le_of_ble_eq_true rfl) (tq_X5_0 hG ht) rfl (VM_X5_tenthsBy G fu μ t hG ht v4 v1 _ y4) ?_
      refine V_i2l dX5_leftSignedBy_28 ?_
      refine V_lmul dX5_leftSignedBy_29 ?_
      refine V_ldc2 (v := 10) dX5_leftSignedBy_30 lk_RX5_99 ?_
      refine V_ldiv dX5_leftSignedBy_33 (by decide) ?_
      refine V_ladd dX5_leftSignedBy_34 ?_
      refine V_lstore_n (lv2 := [some (.ref t), some (.int v1), some (.long (v2 + ((x1 * ((x3 : Int32).toInt64)) / 10))), none, some (.int v4)]) dX5_leftSignedBy_35 (by decide) rfl ?_
      refine V_iinc (v := v4 + 1) (lv2 := [some (.ref t), some (.int v1), some (.long (v2 + ((x1 * ((x3 : Int32).toInt64)) / 10))), none, some (.int (v4 + 1))]) dX5_leftSignedBy_36 rfl rfl (by decide) rfl ?_
      refine V_goto (tgt := 5) dX5_leftSignedBy_39 (by decide) ?_
      exact V_wk [true, true, true, false, true] rfl (ih _ _ _ _ h)
def D_X5_leftSignedBy_0 (fu : Nat) (μ : Mem) (t : Nat) (a1 : Int32) : Option Int64 :=
  D_X5_leftSignedBy_5 fu μ t fu a1 0 0
set_option maxRecDepth 20000 in
theorem T_X5_leftSignedBy_0 (G : GX) (fu : Nat) (μ : Mem) (t : Nat) (hG : gt G = tbl) (ht : IsX5 t) : ∀ (a1 : Int32) (r : Int64) , D_X5_leftSignedBy_0 fu μ t a1 = some r → V G mX5_leftSignedBy 0 [some (.ref t), some (.int a1), none, none, none] [] μ (.inl (some (.long r))) (μ) := by
  intro a1 r h
  unfold D_X5_leftSignedBy_0 at h
  refine V_lconst (v := 0) dX5_leftSignedBy_0 rfl ?_
  refine V_lstore_n (lv2 := [some (.ref t), some (.int a1), some (.long 0), none, none]) dX5_leftSignedBy_1 (by decide) rfl ?_
  refine V_iconst (v := 0) dX5_leftSignedBy_2 rfl ?_
  refine V_istore (lv2 := [some (.ref t), some (.int a1), some (.long 0), none, some (.int 0)]) dX5_leftSignedBy_3 (by decide) rfl ?_
  exact V_wk [true, true, true, false, true] rfl (T_X5_leftSignedBy_5 G fu μ t hG ht fu _ _ _ _ h)
theorem VM_X5_leftSignedBy (G : GX) (fu : Nat) (μ : Mem) (t : Nat) (hG : gt G = tbl) (ht : IsX5 t) (a1 : Int32) (r : Int64) (h : D_X5_leftSignedBy_0 fu μ t a1 = some r) : VM G mX5_leftSignedBy [.ref t, .int a1] μ (.inl (some (.long r))) (μ) := V_entry ok_mX5_leftSignedBy rfl rfl (Nat.le_of_ble_eq_true rfl) (T_X5_leftSignedBy_0 G fu μ t hG ht a1 r h)
def D_J6_bitCount_0f7a4_0 (μ : Mem)  (a0 : Int32) : Option Int32 :=
  vl (a0 - (((a0.toUInt32 >>> (Int32.toUInt32 1 &&& Int32.toUInt32 31)).toInt32) &&& 1431655765) : Int32) fun x1 =>
  vl ((x1 &&& 858993459) + (((x1.toUInt32 >>> (Int32.toUInt32 2 &&& Int32.toUInt32 31)).toInt32) &&& 858993459) : Int32) fun x3 =>
  vl ((x3 + ((x3.toUInt32 >>> (Int32.toUInt32 4 &&& Int32.toUInt32 31)).toInt32)) &&& 252645135 : Int32) fun x5 =>
  vl (x5 + ((x5.toUInt32 >>> (Int32.toUInt32 8 &&& Int32.toUInt32 31)).toInt32) : Int32) fun x7 =>
  vl (x7 + ((x7.toUInt32 >>> (Int32.toUInt32 16 &&& Int32.toUInt32 31)).toInt32) : Int32) fun x9 =>
  some (x9 &&& 63)
set_option maxRecDepth 20000 in
theorem T_J6_bitCount_0f7a4_0 (G : GX) (μ : Mem)  : ∀ (a0 : Int32) (r : Int32) , D_J6_bitCount_0f7a4_0 μ a0 = some r → V G mJ6_bitCount_0f7a4 0 [some (.int a0)] [] μ (.inl (some (.int r))) (μ) := by
  intro a0 r h
  unfold D_J6_bitCount_0f7a4_0 at h
  refine V_iload_n dJ6_bitCount_0f7a4_0 rfl ?_
  refine V_iload_n dJ6_bitCount_0f7a4_1 rfl ?_
  refine V_iconst (v := 1) dJ6_bitCount_0f7a4_2 rfl ?_
  refine V_iushr dJ6_bitCount_0f7a4_3 ?_
  refine V_ldcw (v := 1431655765) dJ6_bitCount_0f7a4_4 lk_RJ6_265 ?_
  refine V_iand dJ6_bitCount_0f7a4_7 ?_
  refine V_isub dJ6_bitCount_0f7a4_8 ?_
  obtain ⟨x1, e2, h⟩ := vl_o h
  refine V_topi e2 ?_
  refine V_istore_n (lv2 := [some (.int x1)]) dJ6_bitCount_0f7a4_9 (by decide) rfl ?_
  refine V_iload_n dJ6_bitCount_0f7a4_10 rfl ?_
  refine V_ldcw (v := 858993459) dJ6_bitCount_0f7a4_11 lk_RJ6_266 ?_
  refine V_iand dJ6_bitCount_0f7a4_14 ?_
  refine V_iload_n dJ6_bitCount_0f7a4_15 rfl ?_
  refine V_iconst (v := 2) dJ6_bitCount_0f7a4_16 rfl ?_
  refine V_iushr dJ6_bitCount_0f7a4_17 ?_
  refine V_ldcw (v := 858993459) dJ6_bitCount_0f7a4_18 lk_RJ6_266 ?_
  refine V_iand dJ6_bitCount_0f7a4_21 ?_
  refine V_iadd dJ6_bitCount_0f7a4_22 ?_
  obtain ⟨x3, e4, h⟩ := vl_o h
  refine V_topi e4 ?_
  refine V_istore_n (lv2 := [some (.int x3)]) dJ6_bitCount_0f7a4_23 (by decide) rfl ?_
  refine V_iload_n dJ6_bitCount_0f7a4_24 rfl ?_
  refine V_iload_n dJ6_bitCount_0f7a4_25 rfl ?_
  refine V_iconst (v := 4) dJ6_bitCount_0f7a4_26 rfl ?_
  refine V_iushr dJ6_bitCount_0f7a4_27 ?_
  refine V_iadd dJ6_bitCount_0f7a4_28 ?_
  refine V_ldcw (v := 252645135) dJ6_bitCount_0f7a4_29 lk_RJ6_267 ?_
  refine V_iand dJ6_bitCount_0f7a4_32 ?_
  obtain ⟨x5, e6, h⟩ := vl_o h
  refine V_topi e6 ?_
  refine V_istore_n (lv2 := [some (.int x5)]) dJ6_bitCount_0f7a4_33 (by decide) rfl ?_
  refine V_iload_n dJ6_bitCount_0f7a4_34 rfl ?_
  refine V_iload_n dJ6_bitCount_0f7a4_35 rfl ?_
  refine V_bipush (v := 8) dJ6_bitCount_0f7a4_36 rfl ?_
  refine V_iushr dJ6_bitCount_0f7a4_38 ?_
  refine V_iadd dJ6_bitCount_0f7a4_39 ?_
  obtain ⟨x7, e8, h⟩ := vl_o h
  refine V_topi e8 ?_
  refine V_istore_n (lv2 := [some (.int x7)]) dJ6_bitCount_0f7a4_40 (by decide) rfl ?_
  refine V_iload_n dJ6_bitCount_0f7a4_41 rfl ?_
  refine V_iload_n dJ6_bitCount_0f7a4_42 rfl ?_
  refine V_bipush (v := 16) dJ6_bitCount_0f7a4_43 rfl ?_
  refine V_iushr dJ6_bitCount_0f7a4_45 ?_
  refine V_iadd dJ6_bitCount_0f7a4_46 ?_
  obtain ⟨x9, e10, h⟩ := vl_o h
  refine V_topi e10 ?_
  refine V_istore_n (lv2 := [some (.int x9)]) dJ6_bitCount_0f7a4_47 (by decide) rfl ?_
  refine V_iload_n dJ6_bitCount_0f7a4_48 rfl ?_
  refine V_bipush (v := 63) dJ6_bitCount_0f7a4_49 rfl ?_
  refine V_iand dJ6_bitCount_0f7a4_51 ?_
  cases h
  exact V_iret rfl dJ6_bitCount_0f7a4_52
theorem VM_J6_bitCount_0f7a4 (G : GX) (μ : Mem)  (a0 : Int32) (r : Int32) (h : D_J6_bitCount_0f7a4_0 μ a0 = some r) : VM G mJ6_bitCount_0f7a4 [.int a0] μ (.inl (some (.int r))) (μ) := V_entry ok_mJ6_bitCount_0f7a4 rfl rfl (Nat.le_of_ble_eq_true rfl) (T_J6_bitCount_0f7a4_0 G μ a0 r h)
def D_J7_fill_d0a16_6 (fu : Nat) (r0 : Nat) (n0 : Nat) : Nat → Int64 → Int32 → Int32 → Mem → Option Mem
  | 0, _, _, _, _ => none
  | n + 1, v1, v3, v4, μ =>
    if v4 ≤ v3 then
      some μ
    else
      gu (ib v3 n0) <|
      vl (wL μ r0 (Int32.toNatClampNeg v3) v1) fun m2 =>
      (D_J7_fill_d0a16_6 fu r0 n0 n) v1 (v3 + 1) v4 m2
set_option maxRecDepth 20000 in
theorem T_J7_fill_d0a16_6 (G : GX) (fu : Nat) (r0 : Nat) (n0 : Nat) (h0 : (gt G)[r0]? = some (.inl (1, n0))) : ∀ (n : Nat) (v1 : Int64) (v3 : Int32) (v4 : Int32) (μ : Mem) (r : Mem) , D_J7_fill_d0a16_6 fu r0 n0 n v1 v3 v4 μ = some r → V G mJ7_fill_d0a16 6 [some (.ref r0), some (.long v1), none, some (.int v3), some (.int v4)] [] μ (.inl none) (r) := by
  intro n
  induction n with
  | zero =>
    intro v1 v3 v4 μ r h
    exact nomatch (show (none : Option Mem) = some r from h)
  | succ n ih =>
    intro v1 v3 v4 μ r h
    rw [D_J7_fill_d0a16_6] at h
    refine V_iload_n dJ7_fill_d0a16_6 rfl ?_
    refine V_iload dJ7_fill_d0a16_7 rfl ?_
    by_cases c9 : v4 ≤ v3
    · rw [if_pos c9] at h
      refine V_icmpge_t (tgt := 22) dJ7_fill_d0a16_9 (by decide) c9 ?_
      cases h
      exact V_vret rfl dJ7_fill_d0a16_22
    · rw [if_neg c9] at h
      refine V_icmpge_f (tgt := 22) dJ7_fill_d0a16_9 (by decide) c9 ?_
      refine V_aload_n dJ7_fill_d0a16_12 rfl ?_
      refine V_iload_n dJ7_fill_d0a16_13 rfl ?_
      refine V_lload_n dJ7_fill_d0a16_14 rfl ?_
      obtain ⟨g1, h⟩ := gu_o h
      obtain ⟨m2, e3, h⟩ := vl_o h
      refine V_lastore (μ2 := m2) dJ7_fill_d0a16_15 h0 (ib_in g1) e3.symm ?_
      refine V_iinc (v := v3 + 1) (lv2 := [some (.ref r0), some (.long v1), none, some (.int (v3 + 1)), some (.int v4)]) dJ7_fill_d0a16_16 rfl rfl (by decide) rfl ?_
      refine V_goto (tgt := 6) dJ7_fill_d0a16_19 (by decide) ?_
      exact V_wk [true, true, false, true, true] rfl (ih _ _ _ _ _ h)
def D_J7_fill_d0a16_0 (fu : Nat) (r0 : Nat) (n0 : Nat) (a1 : Int64) (μ : Mem) : Option Mem :=
  D_J7_fill_d0a16_6 fu r0 n0 fu a1 0 (Int32.ofNat n0) μ
set_option maxRecDepth 20000 in
theorem T_J7_fill_d0a16_0 (G : GX) (fu : Nat) (r0 : Nat) (n0 : Nat) (h0 : (gt G)[r0]? = some (.inl (1, n0))) : ∀ (a1 : Int64) (μ : Mem) (r : Mem) , D_J7_fill_d0a16_0 fu r0 n0 a1 μ = some r → V G mJ7_fill_d0a16 0 [some (.ref r0), some (.long a1), none, none, none] [] μ (.inl none) (r) := by
  intro a1 μ r h
  unfold D_J7_fill_d0a16_0 at h
  refine V_iconst (v := 0) dJ7_fill_d0a16_0 rfl ?_
  refine V_istore_n (lv2 := [some (.ref r0), some (.long a1), none, some (.int 0), none]) dJ7_fill_d0a16_1 (by decide) rfl ?_
  refine V_aload_n dJ7_fill_d0a16_2 rfl ?_
  refine V_alen dJ7_fill_d0a16_3 h0 (by decide) ?_
  refine V_istore (lv2 := [some (.ref r0), some (.long a1), none, some (.int 0), some (.int (Int32.ofNat n0))]) dJ7_fill_d0a16_4 (by decide) rfl ?_
  exact V_wk [true, true, false, true, true] rfl (T_J7_fill_d0a16_6 G fu r0 n0 h0 fu _ _ _ _ _ h)
theorem VM_J7_fill_d0a16 (G : GX) (fu : Nat) (r0 : Nat) (n0 : Nat) (h0 : (gt G)[r0]? = some (.inl (1, n0))) (a1 : Int64) (μ : Mem) (r : Mem) (h : D_J7_fill_d0a16_0 fu r0 n0 a1 μ = some r) : VM G mJ7_fill_d0a16 [.ref r0, .long a1] μ (.inl none) (r) := V_entry ok_mJ7_fill_d0a16 rfl rfl (Nat.le_of_ble_eq_true rfl) (T_J7_fill_d0a16_0 G fu r0 n0 h0 a1 μ r h)
