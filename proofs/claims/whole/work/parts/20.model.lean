def D_X7_thrown_0 (μ : Mem)  : Option Int32 :=
  some (μ.1 85 0)
set_option maxRecDepth 20000 in
theorem T_X7_thrown_0 (G : GX) (μ : Mem)  (hG : gt G = tbl) : ∀ (r : Int32) , D_X7_thrown_0 μ = some r → V G mX7_thrown 0 [some (.ref 85)] [] μ (.inl (some (.int r))) (μ) := by
  intro r h
  unfold D_X7_thrown_0 at h
  refine V_aload_n dX7_thrown_0 rfl ?_
  refine V_getI (kf := 0) k_X7 (by decide) lk_RX7_1 rfl dX7_thrown_1 (tq_85 hG) rfl ?_
  cases h
  exact V_iret rfl dX7_thrown_4
theorem VM_X7_thrown (G : GX) (μ : Mem)  (hG : gt G = tbl) (r : Int32) (h : D_X7_thrown_0 μ = some r) : VM G mX7_thrown [.ref 85] μ (.inl (some (.int r))) (μ) := V_entry ok_mX7_thrown rfl rfl (Nat.le_of_ble_eq_true rfl) (T_X7_thrown_0 G μ hG r h)
def D_X7_needs_26  (μ : Mem) : Option (Bool × Mem) :=
  if (μ.1 85 0) = 0 then
    some (true, μ)
  else
    some (false, μ)
set_option maxRecDepth 20000 in
theorem T_X7_needs_26 (G : GX)  (hG : gt G = tbl) : ∀ (μ : Mem) (r : (Bool × Mem)) , D_X7_needs_26  μ = some r → V G mX7_needs 26 [some (.ref 85), none, none, none] [] μ (.inl (some (.int (b2i r.1)))) (r.2) := by
  intro μ r h
  unfold D_X7_needs_26 at h
  refine V_aload_n dX7_needs_26 rfl ?_
  refine V_getI (kf := 0) k_X7 (by decide) lk_RX7_1 rfl dX7_needs_27 (tq_85 hG) rfl ?_
  by_cases c30 : (μ.1 85 0) = 0
  · rw [if_pos c30] at h
    refine V_ifne_f (tgt := 37) dX7_needs_30 (by decide) c30 ?_
    refine V_iconst (v := 1) dX7_needs_33 rfl ?_
    refine V_goto (tgt := 38) dX7_needs_34 (by decide) ?_
    cases h
    exact V_zret rfl (by decide) dX7_needs_38
  · rw [if_neg c30] at h
    refine V_ifne_t (tgt := 37) dX7_needs_30 (by decide) c30 ?_
    refine V_iconst (v := 0) dX7_needs_37 rfl ?_
    cases h
    exact V_zret rfl (by decide) dX7_needs_38
def D_X7_needs_0  (a1 : Int32) (a2 : Int32) (a3 : Int32) (μ : Mem) : Option (Bool × Mem) :=
  if a1 = 0 then
    if (μ.1 85 0) = 0 then
      vl (wI μ 85 0 a2) fun m1 =>
      gu (ib a3 3) <|
      gu (ib a3 3) <|
      vl (wI m1 86 (Int32.toNatClampNeg a3) ((m1.1 86 (Int32.toNatClampNeg a3)) + 1)) fun m5 =>
      D_X7_needs_26 m5
    else
      D_X7_needs_26 μ
  else
    D_X7_needs_26 μ
set_option maxRecDepth 20000 in
theorem T_X7_needs_0 (G : GX)  (hG : gt G = tbl) : ∀ (a1 : Int32) (a2 : Int32) (a3 : Int32) (μ : Mem) (r : (Bool × Mem)) , D_X7_needs_0  a1 a2 a3 μ = some r → V G mX7_needs 0 [some (.ref 85), some (.int a1), some (.int a2), some (.int a3)] [] μ (.inl (some (.int (b2i r.1)))) (r.2) := by
  intro a1 a2 a3 μ r h
  unfold D_X7_needs_0 at h
  refine V_iload_n dX7_needs_0 rfl ?_
  by_cases c1 : a1 = 0
  · rw [if_pos c1] at h
    refine V_ifne_f (tgt := 26) dX7_needs_1 (by decide) c1 ?_
    refine V_aload_n dX7_needs_4 rfl ?_
    refine V_getI (kf := 0) k_X7 (by decide) lk_RX7_1 rfl dX7_needs_5 (tq_85 hG) rfl ?_
    by_cases c8 : (μ.1 85 0) = 0
    · rw [if_pos c8] at h
      refine V_ifne_f (tgt := 26) dX7_needs_8 (by decide) c8 ?_
      refine V_aload_n dX7_needs_11 rfl ?_
      refine V_iload_n dX7_needs_12 rfl ?_
      obtain ⟨m1, e2, h⟩ := vl_o h
      refine V_putI (kf := 0) k_X7 (by decide) lk_RX7_1 rfl rfl (by decide +kernel) dX7_needs_13 (tq_85 hG) rfl e2.symm ?_
      refine V_aload_n dX7_needs_16 rfl ?_
      refine V_getR (kf := 1) k_X7 (by decide) lk_RX7_7 rfl dX7_needs_17 (tq_85 hG) rfl ?_
      refine V_iload_n dX7_needs_20 rfl ?_
      refine V_dup2 dX7_needs_21 rfl rfl ?_
      obtain ⟨g3, h⟩ := gu_o h
      refine V_iaload dX7_needs_22 (tq_86 hG) (ib_in g3) ?_
      refine V_iconst (v := 1) dX7_needs_23 rfl ?_
      refine V_iadd dX7_needs_24 ?_
      obtain ⟨g4, h⟩ := gu_o h
      obtain ⟨m5, e6, h⟩ := vl_o h
      refine V_iastore (μ2 := m5) dX7_needs_25 (tq_86 hG) (ib_in g4) e6.symm ?_
      exact V_wk [true, false, false, false] rfl (T_X7_needs_26 G hG _ _ h)
    · rw [if_neg c8] at h
      refine V_ifne_t (tgt := 26) dX7_needs_8 (by decide) c8 ?_
      exact V_wk [true, false, false, false] rfl (T_X7_needs_26 G hG _ _ h)
  · rw [if_neg c1] at h
    refine V_ifne_t (tgt := 26) dX7_needs_1 (by decide) c1 ?_
    exact V_wk [true, false, false, false] rfl (T_X7_needs_26 G hG _ _ h)
theorem VM_X7_needs (G : GX)  (hG : gt G = tbl) (a1 : Int32) (a2 : Int32) (a3 : Int32) (μ : Mem) (r : (Bool × Mem)) (h : D_X7_needs_0  a1 a2 a3 μ = some r) : VM G mX7_needs [.ref 85, .int a1, .int a2, .int a3] μ (.inl (some (.int (b2i r.1)))) (r.2) := V_entry ok_mX7_needs rfl rfl (Nat.le_of_ble_eq_true rfl) (T_X7_needs_0 G hG a1 a2 a3 μ r h)
def D_X7_within_0 (μ : Mem)  (a0 : Int64) (a2 : Int64) (a4 : Int64) : Option Bool :=
  if a0 < a2 then
    some false
  else
    if a4 < a0 then
      some false
    else
      some true
set_option maxRecDepth 20000 in
theorem T_X7_within_0 (G : GX) (μ : Mem)  (hG : gt G = tbl) : ∀ (a0 : Int64) (a2 : Int64) (a4 : Int64) (r : Bool) , D_X7_within_0 μ a0 a2 a4 = some r → V G mX7_within 0 [some (.long a0), none, some (.long a2), none, some (.long a4), none] [] μ (.inl (some (.int (b2i r)))) (μ) := by
  intro a0 a2 a4 r h
  unfold D_X7_within_0 at h
  refine V_lload_n dX7_within_0 rfl ?_
  refine V_lload_n dX7_within_1 rfl ?_
  refine V_lcmp dX7_within_2 ?_
  by_cases c3 : a0 < a2
  · rw [if_pos c3] at h
    refine V_iflt_t (tgt := 17) dX7_within_3 (by decide) ((lc_lt a0 a2).mpr c3) ?_
    refine V_iconst (v := 0) dX7_within_17 rfl ?_
    cases h
    exact V_zret rfl (by decide) dX7_within_18
  · rw [if_neg c3] at h
    refine V_iflt_f (tgt := 17) dX7_within_3 (by decide) (fun z => c3 ((lc_lt a0 a2).mp z)) ?_
    refine V_lload_n dX7_within_6 rfl ?_
    refine V_lload dX7_within_7 rfl ?_
    refine V_lcmp dX7_within_9 ?_
    by_cases c10 : a4 < a0
    · rw [if_pos c10] at h
      refine V_ifgt_t (tgt := 17) dX7_within_10 (by decide) ((lc_gt a0 a4).mpr c10) ?_
      refine V_iconst (v := 0) dX7_within_17 rfl ?_
      cases h
      exact V_zret rfl (by decide) dX7_within_18
    · rw [if_neg c10] at h
      refine V_ifgt_f (tgt := 17) dX7_within_10 (by decide) (fun z => c10 ((lc_gt a0 a4).mp z)) ?_
      refine V_iconst (v := 1) dX7_within_13 rfl ?_
      refine V_goto (tgt := 18) dX7_within_14 (by decide) ?_
      cases h
      exact V_zret rfl (by decide) dX7_within_18
theorem VM_X7_within (G : GX) (μ : Mem)  (hG : gt G = tbl) (a0 : Int64) (a2 : Int64) (a4 : Int64) (r : Bool) (h : D_X7_within_0 μ a0 a2 a4 = some r) : VM G mX7_within [.long a0, .long a2, .long a4] μ (.inl (some (.int (b2i r)))) (μ) := V_entry ok_mX7_within rfl rfl (Nat.le_of_ble_eq_true rfl) (T_X7_within_0 G μ hG a0 a2 a4 r h)
def D_X7_least_0 (μ : Mem)  (a0 : Int64) (a2 : Int64) : Option Int64 :=
  if a2 ≤ a0 then
    some a2
  else
    some a0
set_option maxRecDepth 20000 in
theorem T_X7_least_0 (G : GX) (μ : Mem)  (hG : gt G = tbl) : ∀ (a0 : Int64) (a2 : Int64) (r : Int64) , D_X7_least_0 μ a0 a2 = some r → V G mX7_least 0 [some (.long a0), none, some (.long a2), none] [] μ (.inl (some (.long r))) (μ) := by
  intro a0 a2 r h
  unfold D_X7_least_0 at h
  refine V_lload_n dX7_least_0 rfl ?_
  refine V_lload_n dX7_least_1 rfl ?_
  refine V_lcmp dX7_least_2 ?_
  by_cases c3 : a2 ≤ a0
  · rw [if_pos c3] at h
    refine V_ifge_t (tgt := 10) dX7_least_3 (by decide) ((lc_ge a0 a2).mpr c3) ?_
    refine V_lload_n dX7_least_10 rfl ?_
    cases h
    exact V_lret rfl dX7_least_11
  · rw [if_neg c3] at h
    refine V_ifge_f (tgt := 10) dX7_least_3 (by decide) (fun z => c3 ((lc_ge a0 a2).mp z)) ?_
    refine V_lload_n dX7_least_6 rfl ?_
    refine V_goto (tgt := 11) dX7_least_7 (by decide) ?_
    cases h
    exact V_lret rfl dX7_least_11
theorem VM_X7_least (G : GX) (μ : Mem)  (hG : gt G = tbl) (a0 : Int64) (a2 : Int64) (r : Int64) (h : D_X7_least_0 μ a0 a2 = some r) : VM G mX7_least [.long a0, .long a2] μ (.inl (some (.long r))) (μ) := V_entry ok_mX7_least rfl rfl (Nat.le_of_ble_eq_true rfl) (T_X7_least_0 G μ hG a0 a2 r h)
def D_X7_tell_0 (μ : Mem)  (a1 : Int32) (a2 : Int32) : Option Int32 :=
  gu (ib ((4 * a1) + a2) 640) <|
  some (μ.1 89 (Int32.toNatClampNeg ((4 * a1) + a2)))
set_option maxRecDepth 20000 in
theorem T_X7_tell_0 (G : GX) (μ : Mem)  (hG : gt G = tbl) : ∀ (a1 : Int32) (a2 : Int32) (r : Int32) , D_X7_tell_0 μ a1 a2 = some r → V G mX7_tell 0 [some (.ref 85), some (.int a1), some (.int a2)] [] μ (.inl (some (.int r))) (μ) := by
  intro a1 a2 r h
  unfold D_X7_tell_0 at h
  refine V_aload_n dX7_tell_0 rfl ?_
  refine V_getR (kf := 4) k_X7 (by decide) lk_RX7_11 rfl dX7_tell_1 (tq_85 hG) rfl ?_
  refine V_iconst (v := 4) dX7_tell_4 rfl ?_
  refine V_iload_n dX7_tell_5 rfl ?_
  refine V_imul dX7_tell_6 ?_
  refine V_iload_n dX7_tell_7 rfl ?_
  refine V_iadd dX7_tell_8 ?_
  obtain ⟨g1, h⟩ := gu_o h
  refine V_iaload dX7_tell_9 (tq_89 hG) (ib_in g1) ?_
  cases h
  exact V_iret rfl dX7_tell_10
theorem VM_X7_tell (G : GX) (μ : Mem)  (hG : gt G = tbl) (a1 : Int32) (a2 : Int32) (r : Int32) (h : D_X7_tell_0 μ a1 a2 = some r) : VM G mX7_tell [.ref 85, .int a1, .int a2] μ (.inl (some (.int r))) (μ) := V_entry ok_mX7_tell rfl rfl (Nat.le_of_ble_eq_true rfl) (T_X7_tell_0 G μ hG a1 a2 r h)
def D_X7_notes_0  (a1 : Int32) (a2 : Int32) (a3 : Int32) (a4 : Int32) (a5 : Int32) (a6 : Int32) (μ : Mem) : Option Mem :=
  gu (ib (μ.1 85 5) 160) <|
  vl (wI μ 87 (Int32.toNatClampNeg (μ.1 85 5)) a1) fun m2 =>
  gu (ib (4 * (m2.1 85 5)) 640) <|
  vl (wI m2 89 (Int32.toNatClampNeg (4 * (m2.1 85 5))) a2) fun m5 =>
  gu (ib ((4 * (m5.1 85 5)) + 1) 640) <|
  vl (wI m5 89 (Int32.toNatClampNeg ((4 * (m5.1 85 5)) + 1)) a3) fun m8 =>
  gu (ib ((4 * (m8.1 85 5)) + 2) 640) <|
  vl (wI m8 89 (Int32.toNatClampNeg ((4 * (m8.1 85 5)) + 2)) a4) fun m11 =>
  gu (ib ((4 * (m11.1 85 5)) + 3) 640) <|
  vl (wI m11 89 (Int32.toNatClampNeg ((4 * (m11.1 85 5)) + 3)) a5) fun m14 =>
  gu (ib (m14.1 85 5) 160) <|
  vl (wI m14 88 (Int32.toNatClampNeg (m14.1 85 5)) a6) fun m17 =>
  vl (wI m17 85 5 ((m17.1 85 5) + 1)) fun m19 =>
  some m19
set_option maxRecDepth 20000 in
theorem T_X7_notes_0 (G : GX)  (hG : gt G = tbl) : ∀ (a1 : Int32) (a2 : Int32) (a3 : Int32) (a4 : Int32) (a5 : Int32) (a6 : Int32) (μ : Mem) (r : Mem) , D_X7_notes_0  a1 a2 a3 a4 a5 a6 μ = some r → V G mX7_notes 0 [some (.ref 85), some (.int a1), some (.int a2), some (.int a3), some (.int a4), some (.int a5), some (.int a6)] [] μ (.inl none) (r) := by
  intro a1 a2 a3 a4 a5 a6 μ r h
  unfold D_X7_notes_0 at h
  refine V_aload_n dX7_notes_0 rfl ?_
  refine V_getR (kf := 2) k_X7 (by decide) lk_RX7_14 rfl dX7_notes_1 (tq_85 hG) rfl ?_
  refine V_aload_n dX7_notes_4 rfl ?_
  refine V_getI (kf := 5) k_X7 (by decide) lk_RX7_17 rfl dX7_notes_5 (tq_85 hG) rfl ?_
  refine V_iload_n dX7_notes_8 rfl ?_
  obtain ⟨g1, h⟩ := gu_o h
  obtain ⟨m2, e3, h⟩ := vl_o h
  refine V_iastore (μ2 := m2) dX7_notes_9 (tq_87 hG) (ib_in g1) e3.symm ?_
  refine V_aload_n dX7_notes_10 rfl ?_
  refine V_getR (kf := 4) k_X7 (by decide) lk_RX7_11 rfl dX7_notes_11 (tq_85 hG) rfl ?_
  refine V_iconst (v := 4) dX7_notes_14 rfl ?_
  refine V_aload_n dX7_notes_15 rfl ?_
  refine V_getI (kf := 5) k_X7 (by decide) lk_RX7_17 rfl dX7_notes_16 (tq_85 hG) rfl ?_
  refine V_imul dX7_notes_19 ?_
  refine V_iload_n dX7_notes_20 rfl ?_
  obtain ⟨g4, h⟩ := gu_o h
  obtain ⟨m5, e6, h⟩ := vl_o h
  refine V_iastore (μ2 := m5) dX7_notes_21 (tq_89 hG) (ib_in g4) e6.symm ?_
  refine V_aload_n dX7_notes_22 rfl ?_
  refine V_getR (kf := 4) k_X7 (by decide) lk_RX7_11 rfl dX7_notes_23 (tq_85 hG) rfl ?_
  refine V_iconst (v := 4) dX7_notes_26 rfl ?_
  refine V_aload_n dX7_notes_27 rfl ?_
  refine V_getI (kf := 5) k_X7 (by decide) lk_RX7_17 rfl dX7_notes_28 (tq_85 hG) rfl ?_
  refine V_imul dX7_notes_31 ?_
  refine V_iconst (v := 1) dX7_notes_32 rfl ?_
  refine V_iadd dX7_notes_33 ?_
  refine V_iload_n dX7_notes_34 rfl ?_
  obtain ⟨g7, h⟩ := gu_o h
  obtain ⟨m8, e9, h⟩ := vl_o h
  refine V_iastore (μ2 := m8) dX7_notes_35 (tq_89 hG) (ib_in g7) e9.symm ?_
  refine V_aload_n dX7_notes_36 rfl ?_
  refine V_getR (kf := 4) k_X7 (by decide) lk_RX7_11 rfl dX7_notes_37 (tq_85 hG) rfl ?_
  refine V_iconst (v := 4) dX7_notes_40 rfl ?_
  refine V_aload_n dX7_notes_41 rfl ?_
  refine V_getI (kf := 5) k_X7 (by decide) lk_RX7_17 rfl dX7_notes_42 (tq_85 hG) rfl ?_
  refine V_imul dX7_notes_45 ?_
  refine V_iconst (v := 2) dX7_notes_46 rfl ?_
  refine V_iadd dX7_notes_47 ?_
  refine V_iload dX7_notes_48 rfl ?_
  obtain ⟨g10, h⟩ := gu_o h
  obtain ⟨m11, e12, h⟩ := vl_o h
  refine V_iastore (μ2 := m11) dX7_notes_50 (tq_89 hG) (ib_in g10) e12.symm ?_
  refine V_aload_n dX7_notes_51 rfl ?_
  refine V_getR (kf := 4) k_X7 (by decide) lk_RX7_11 rfl dX7_notes_52 (tq_85 hG) rfl ?_
  refine V_iconst (v := 4) dX7_notes_55 rfl ?_
  refine V_aload_n dX7_notes_56 rfl ?_
  refine V_getI (kf := 5) k_X7 (by decide) lk_RX7_17 rfl dX7_notes_57 (tq_85 hG) rfl ?_
  refine V_imul dX7_notes_60 ?_
  refine V_iconst (v := 3) dX7_notes_61 rfl ?_
  refine V_iadd dX7_notes_62 ?_
  refine V_iload dX7_notes_63 rfl ?_
  obtain ⟨g13, h⟩ := gu_o h
  obtain ⟨m14, e15, h⟩ := vl_o h
  refine V_iastore (μ2 := m14) dX7_notes_65 (tq_89 hG) (ib_in g13) e15.symm ?_
  refine V_aload_n dX7_notes_66 rfl ?_
  refine V_getR (kf := 3) k_X7 (by decide) lk_RX7_20 rfl dX7_notes_67 (tq_85 hG) rfl ?_
  refine V_aload_n dX7_notes_70 rfl ?_
  refine V_getI (kf := 5) k_X7 (by decide) lk_RX7_17 rfl dX7_notes_71 (tq_85 hG) rfl ?_
  refine V_iload dX7_notes_74 rfl ?_
  obtain ⟨g16, h⟩ := gu_o h
  obtain ⟨m17, e18, h⟩ := vl_o h
  refine V_iastore (μ2 := m17) dX7_notes_76 (tq_88 hG) (ib_in g16) e18.symm ?_
  refine V_aload_n dX7_notes_77 rfl ?_
  refine V_dup dX7_notes_78 rfl ?_
  refine V_getI (kf := 5) k_X7 (by decide) lk_RX7_17 rfl dX7_notes_79 (tq_85 hG) rfl ?_
  refine V_iconst (v := 1) dX7_notes_82 rfl ?_
  refine V_iadd dX7_notes_83 ?_
  obtain ⟨m19, e20, h⟩ := vl_o h
  refine V_putI (kf := 5) k_X7 (by decide) lk_RX7_17 rfl rfl (by decide +kernel) dX7_notes_84 (tq_85 hG) rfl e20.symm ?_
  cases h
  exact V_vret rfl dX7_notes_87
theorem VM_X7_notes (G : GX)  (hG : gt G = tbl) (a1 : Int32) (a2 : Int32) (a3 : Int32) (a4 : Int32) (a5 : Int32) (a6 : Int32) (μ : Mem) (r : Mem) (h : D_X7_notes_0  a1 a2 a3 a4 a5 a6 μ = some r) : VM G mX7_notes [.ref 85, .int a1, .int a2, .int a3, .int a4, .int a5, .int a6] μ (.inl none) (r) := V_entry ok_mX7_notes rfl rfl (Nat.le_of_ble_eq_true rfl) (T_X7_notes_0 G hG a1 a2 a3 a4 a5 a6 μ r h)
def D_X7_eventsOf_28 (fu : Nat) (μ : Mem)  (k4 : Int32 → Int32 → Int32 → Option Int32) (v1 : Int32) (v3 : Int32) (s0 : Int32) (s1 : Int32) : Option Int32 :=
  k4 v1 (s0 + s1) (v3 + 1)
set_option maxRecDepth 20000 in
theorem T_X7_eventsOf_28 (G : GX) (fu : Nat) (μ : Mem)  (hG : gt G = tbl) (k4 : Int32 → Int32 → Int32 → Option Int32) (hk4 : ∀ (v1 : Int32) (v2 : Int32) (v3 : Int32) (r : Int32), k4 v1 v2 v3 = some r → V G mX7_eventsOf 4 [some (.ref 85), some (.int v1), some (.int v2), some (.int v3)] [] μ (.inl (some (.int r))) (μ)) : ∀ (v1 : Int32) (v3 : Int32) (s0 : Int32) (s1 : Int32) (r : Int32) , D_X7_eventsOf_28 fu μ k4 v1 v3 s0 s1 = some r → V G mX7_eventsOf 28 [some (.ref 85), some (.int v1), none, some (.int v3)] [.int s1, .int s0] μ (.inl (some (.int r))) (μ) := by
  intro v1 v3 s0 s1 r h
  unfold D_X7_eventsOf_28 at h
  refine V_iadd dX7_eventsOf_28 ?_
  refine V_istore_n (lv2 := [some (.ref 85), some (.int v1), some (.int (s0 + s1)), some (.int v3)]) dX7_eventsOf_29 (by decide) rfl ?_
  refine V_iinc (v := v3 + 1) (lv2 := [some (.ref 85), some (.int v1), some (.int (s0 + s1)), some (.int (v3 + 1))]) dX7_eventsOf_30 rfl rfl (by decide) rfl ?_
  refine V_goto (tgt := 4) dX7_eventsOf_33 (by decide) ?_
  exact V_wk [true, true, true, true] rfl (hk4 _ _ _ _ h)
def D_X7_eventsOf_4 (fu : Nat) (μ : Mem)  : Nat → Int32 → Int32 → Int32 → Option Int32
  | 0, _, _, _ => none
  | n + 1, v1, v2, v3 =>
    if (μ.1 85 5) ≤ v3 then
      some v2
    else
      gu (ib v3 160) <|
      if (μ.1 87 (Int32.toNatClampNeg v3)) = v1 then
        D_X7_eventsOf_28 fu μ (D_X7_eventsOf_4 fu μ n) v1 v3 v2 1
      else
        D_X7_eventsOf_28 fu μ (D_X7_eventsOf_4 fu μ n) v1 v3 v2 0
set_option maxRecDepth 20000 in
theorem T_X7_eventsOf_4 (G : GX) (fu : Nat) (μ : Mem)  (hG : gt G = tbl) : ∀ (n : Nat) (v1 : Int32) (v2 : Int32) (v3 : Int32) (r : Int32) , D_X7_eventsOf_4 fu μ n v1 v2 v3 = some r → V G mX7_eventsOf 4 [some (.ref 85), some (.int v1), some (.int v2), some (.int v3)] [] μ (.inl (some (.int r))) (μ) := by
  intro n
  induction n with
  | zero =>
    intro v1 v2 v3 r h
    exact nomatch (show (none : Option Int32) = some r from h)
  | succ n ih =>
    intro v1 v2 v3 r h
    rw [D_X7_eventsOf_4] at h
    refine V_iload_n dX7_eventsOf_4 rfl ?_
    refine V_aload_n dX7_eventsOf_5 rfl ?_
    refine V_getI (kf := 5) k_X7 (by decide) lk_RX7_17 rfl dX7_eventsOf_6 (tq_85 hG) rfl ?_
    by_cases c9 : (μ.1 85 5) ≤ v3
    · rw [if_pos c9] at h
      refine V_icmpge_t (tgt := 36) dX7_eventsOf_9 (by decide) c9 ?_
      refine V_iload_n dX7_eventsOf_36 rfl ?_
      cases h
      exact V_iret rfl dX7_eventsOf_37
    · rw [if_neg c9] at h
      refine V_icmpge_f (tgt := 36) dX7_eventsOf_9 (by decide) c9 ?_
      refine V_iload_n dX7_eventsOf_12 rfl ?_
      refine V_aload_n dX7_eventsOf_13 rfl ?_
      refine V_getR (kf := 2) k_X7 (by decide) lk_RX7_14 rfl dX7_eventsOf_14 (tq_85 hG) rfl ?_
      refine V_iload_n dX7_eventsOf_17 rfl ?_
      obtain ⟨g1, h⟩ := gu_o h
      refine V_iaload dX7_eventsOf_18 (tq_87 hG) (ib_in g1) ?_
      refine V_iload_n dX7_eventsOf_19 rfl ?_
      by_cases c20 : (μ.1 87 (Int32.toNatClampNeg v3)) = v1
      · rw [if_pos c20] at h
        refine V_icmpne_f (tgt := 27) dX7_eventsOf_20 (by decide) c20 ?_
        refine V_iconst (v := 1) dX7_eventsOf_23 rfl ?_
        refine V_goto (tgt := 28) dX7_eventsOf_24 (by decide) ?_
        exact V_wk [true, true, false, true] rfl (T_X7_eventsOf_28 G fu μ hG (D_X7_eventsOf_4 fu μ n) ih _ _ _ _ _ h)
      · rw [if_neg c20] at h
        refine V_icmpne_t (tgt := 27) dX7_eventsOf_20 (by decide) c20 ?_
        refine V_iconst (v := 0) dX7_eventsOf_27 rfl ?_
        exact V_wk [true, true, false, true] rfl (T_X7_eventsOf_28 G fu μ hG (D_X7_eventsOf_4 fu μ n) ih _ _ _ _ _ h)
def D_X7_eventsOf_0 (fu : Nat) (μ : Mem)  (a1 : Int32) : Option Int32 :=
  D_X7_eventsOf_4 fu μ fu a1 0 0
set_option maxRecDepth 20000 in
theorem T_X7_eventsOf_0 (G : GX) (fu : Nat) (μ : Mem)  (hG : gt G = tbl) : ∀ (a1 : Int32) (r : Int32) , D_X7_eventsOf_0 fu μ a1 = some r → V G mX7_eventsOf 0 [some (.ref 85), some (.int a1), none, none] [] μ (.inl (some (.int r))) (μ) := by
  intro a1 r h
  unfold D_X7_eventsOf_0 at h
  refine V_iconst (v := 0) dX7_eventsOf_0 rfl ?_
  refine V_istore_n (lv2 := [some (.ref 85), some (.int a1), some (.int 0), none]) dX7_eventsOf_1 (by decide) rfl ?_
  refine V_iconst (v := 0) dX7_eventsOf_2 rfl ?_
  refine V_istore_n (lv2 := [some (.ref 85), some (.int a1), some (.int 0), some (.int 0)]) dX7_eventsOf_3 (by decide) rfl ?_
  exact V_wk [true, true, true, true] rfl (T_X7_eventsOf_4 G fu μ hG fu _ _ _ _ h)
theorem VM_X7_eventsOf (G : GX) (fu : Nat) (μ : Mem)  (hG : gt G = tbl) (a1 : Int32) (r : Int32) (h : D_X7_eventsOf_0 fu μ a1 = some r) : VM G mX7_eventsOf [.ref 85, .int a1] μ (.inl (some (.int r))) (μ) := V_entry ok_mX7_eventsOf rfl rfl (Nat.le_of_ble_eq_true rfl) (T_X7_eventsOf_0 G fu μ hG a1 r h)
def D_X7_clearsHarm_106 (fu : Nat)  : Nat → Int32 → Int32 → Mem → Option Mem
  | 0, _, _, _ => none
  | n + 1, v1, v2, μ =>
    if (7 : Int32) ≤ v2 then
      some μ
    else
      gu (ib ((7 * v1) + v2) 175) <|
      vl (wL μ 110 (Int32.toNatClampNeg ((7 * v1) + v2)) 0) fun m2 =>
      (D_X7_clearsHarm_106 fu n) v1 (v2 + 1) m2
set_option maxRecDepth 20000 in
theorem T_X7_clearsHarm_106 (G : GX) (fu : Nat)  (hG : gt G = tbl) : ∀ (n : Nat) (v1 : Int32) (v2 : Int32) (μ : Mem) (r : Mem) , D_X7_clearsHarm_106 fu n v1 v2 μ = some r → V G mX7_clearsHarm 106 [some (.ref 85), some (.int v1), some (.int v2)] [] μ (.inl none) (r) := by
  intro n
  induction n with
  | zero =>
    intro v1 v2 μ r h
    exact nomatch (show (none : Option Mem) = some r from h)
  | succ n ih =>
    intro v1 v2 μ r h
    rw [D_X7_clearsHarm_106] at h
    refine V_iload_n dX7_clearsHarm_106 rfl ?_
    refine V_bipush (v := 7) dX7_clearsHarm_107 rfl ?_
    by_cases c109 : (7 : Int32) ≤ v2
    · rw [if_pos c109] at h
      refine V_icmpge_t (tgt := 130) dX7_clearsHarm_109 (by decide) c109 ?_
      cases h
      exact V_vret rfl dX7_clearsHarm_130
    · rw [if_neg c109] at h
      refine V_icmpge_f (tgt := 130) dX7_clearsHarm_109 (by decide) c109 ?_
      refine V_aload_n dX7_clearsHarm_112 rfl ?_
      refine V_getR (kf := 26) k_X7 (by decide) lk_RX7_91 rfl dX7_clearsHarm_113 (tq_85 hG) rfl ?_
      refine V_bipush (v := 7) dX7_clearsHarm_116 rfl ?_
      refine V_iload_n dX7_clearsHarm_118 rfl ?_
      refine V_imul dX7_clearsHarm_119 ?_
      refine V_iload_n dX7_clearsHarm_120 rfl ?_
      refine V_iadd dX7_clearsHarm_121 ?_
      refine V_lconst (v := 0) dX7_clearsHarm_122 rfl ?_
      obtain ⟨g1, h⟩ := gu_o h
      obtain ⟨m2, e3, h⟩ := vl_o h
      refine V_lastore (μ2 := m2) dX7_clearsHarm_123 (tq_110 hG) (ib_in g1) e3.symm ?_
      refine V_iinc (v := v2 + 1) (lv2 := [some (.ref 85), some (.int v1), some (.int (v2 + 1))]) dX7_clearsHarm_124 rfl rfl (by decide) rfl ?_
      refine V_goto (tgt := 106) dX7_clearsHarm_127 (by decide) ?_
      exact V_wk [true, true, true] rfl (ih _ _ _ _ h)
def D_X7_clearsHarm_80 (fu : Nat)  : Nat → Int32 → Int32 → Mem → Option Mem
  | 0, _, _, _ => none
  | n + 1, v1, v2, μ =>
    if (10 : Int32) ≤ v2 then
      D_X7_clearsHarm_106 fu fu v1 0 μ
    else
      gu (ib ((10 * v1) + v2) 250) <|
      vl (wL μ 109 (Int32.toNatClampNeg ((10 * v1) + v2)) 0) fun m5 =>
      (D_X7_clearsHarm_80 fu n) v1 (v2 + 1) m5
set_option maxRecDepth 20000 in
theorem T_X7_clearsHarm_80 (G : GX) (fu : Nat)  (hG : gt G = tbl) : ∀ (n : Nat) (v1 : Int32) (v2 : Int32) (μ : Mem) (r : Mem) , D_X7_clearsHarm_80 fu n v1 v2 μ = some r → V G mX7_clearsHarm 80 [some (.ref 85), some (.int v1), some (.int v2)] [] μ (.inl none) (r) := by
  intro n
  induction n with
  | zero =>
    intro v1 v2 μ r h
    exact nomatch (show (none : Option Mem) = some r from h)
  | succ n ih =>
    intro v1 v2 μ r h
    rw [D_X7_clearsHarm_80] at h
    refine V_iload_n dX7_clearsHarm_80 rfl ?_
    refine V_bipush (v := 10) dX7_clearsHarm_81 rfl ?_
    by_cases c83 : (10 : Int32) ≤ v2
    · rw [if_pos c83] at h
      refine V_icmpge_t (tgt := 104) dX7_clearsHarm_83 (by decide) c83 ?_
      refine V_iconst (v := 0) dX7_clearsHarm_104 rfl ?_
      refine V_istore_n (lv2 := [some (.ref 85), some (.int v1), some (.int 0)]) dX7_clearsHarm_105 (by decide) rfl ?_
      exact V_wk [true, true, true] rfl (T_X7_clearsHarm_106 G fu hG fu _ _ _ _ h)
    · rw [if_neg c83] at h
      refine V_icmpge_f (tgt := 104) dX7_clearsHarm_83 (by decide) c83 ?_
      refine V_aload_n dX7_clearsHarm_86 rfl ?_
      refine V_getR (kf := 25) k_X7 (by decide) lk_RX7_88 rfl dX7_clearsHarm_87 (tq_85 hG) rfl ?_
      refine V_bipush (v := 10) dX7_clearsHarm_90 rfl ?_
      refine V_iload_n dX7_clearsHarm_92 rfl ?_
      refine V_imul dX7_clearsHarm_93 ?_
      refine V_iload_n dX7_clearsHarm_94 rfl ?_
      refine V_iadd dX7_clearsHarm_95 ?_
      refine V_lconst (v := 0) dX7_clearsHarm_96 rfl ?_
      obtain ⟨g4, h⟩ := gu_o h
      obtain ⟨m5, e6, h⟩ := vl_o h
      refine V_lastore (μ2 := m5) dX7_clearsHarm_97 (tq_109 hG) (ib_in g4) e6.symm ?_
      refine V_iinc (v := v2 + 1) (lv2 := [some (.ref 85), some (.int v1), some (.int (v2 + 1))]) dX7_clearsHarm_98 rfl rfl (by decide) rfl ?_
      refine V_goto (tgt := 80) dX7_clearsHarm_101 (by decide) ?_
      exact V_wk [true, true, true] rfl (ih _ _ _ _ h)
def D_X7_clearsHarm_52 (fu : Nat)  : Nat → Int32 → Int32 → Mem → Option Mem
  | 0, _, _, _ => none
  | n + 1, v1, v2, μ =>
    if (160 : Int32) ≤ v2 then
      D_X7_clearsHarm_80 fu fu v1 0 μ
    else
      gu (ib ((160 * v1) + v2) 4000) <|
      vl (wI μ 108 (Int32.toNatClampNeg ((160 * v1) + v2)) 0) fun m8 =>
      (D_X7_clearsHarm_52 fu n) v1 (v2 + 1) m8
set_option maxRecDepth 20000 in
theorem T_X7_clearsHarm_52 (G : GX) (fu : Nat)  (hG : gt G = tbl) : ∀ (n : Nat) (v1 : Int32) (v2 : Int32) (μ : Mem) (r : Mem) , D_X7_clearsHarm_52 fu n v1 v2 μ = some r → V G mX7_clearsHarm 52 [some (.ref 85), some (.int v1), some (.int v2)] [] μ (.inl none) (r) := by
  intro n
  induction n with
  | zero =>
    intro v1 v2 μ r h
    exact nomatch (show (none : Option Mem) = some r from h)
  | succ n ih =>
    intro v1 v2 μ r h
    rw [D_X7_clearsHarm_52] at h
    refine V_iload_n dX7_clearsHarm_52 rfl ?_
    refine V_sipush (v := 160) dX7_clearsHarm_53 rfl ?_
    by_cases c56 : (160 : Int32) ≤ v2
    · rw [if_pos c56] at h
      refine V_icmpge_t (tgt := 78) dX7_clearsHarm_56 (by decide) c56 ?_
      refine V_iconst (v := 0) dX7_clearsHarm_78 rfl ?_
      refine V_istore_n (lv2 := [some (.ref 85), some (.int v1), some (.int 0)]) dX7_clearsHarm_79 (by decide) rfl ?_
      exact V_wk [true, true, true] rfl (T_X7_clearsHarm_80 G fu hG fu _ _ _ _ h)
    · rw [if_neg c56] at h
      refine V_icmpge_f (tgt := 78) dX7_clearsHarm_56 (by decide) c56 ?_
      refine V_aload_n dX7_clearsHarm_59 rfl ?_
      refine V_getR (kf := 24) k_X7 (by decide) lk_RX7_85 rfl dX7_clearsHarm_60 (tq_85 hG) rfl ?_
      refine V_sipush (v := 160) dX7_clearsHarm_63 rfl ?_
      refine V_iload_n dX7_clearsHarm_66 rfl ?_
      refine V_imul dX7_clearsHarm_67 ?_
      refine V_iload_n dX7_clearsHarm_68 rfl ?_
      refine V_iadd dX7_clearsHarm_69 ?_
      refine V_iconst (v := 0) dX7_clearsHarm_70 rfl ?_
      obtain ⟨g7, h⟩ := gu_o h
      obtain ⟨m8, e9, h⟩ := vl_o h
      refine V_iastore (μ2 := m8) dX7_clearsHarm_71 (tq_108 hG) (ib_in g7) e9.symm ?_
      refine V_iinc (v := v2 + 1) (lv2 := [some (.ref 85), some (.int v1), some (.int (v2 + 1))]) dX7_clearsHarm_72 rfl rfl (by decide) rfl ?_
      refine V_goto (tgt := 52) dX7_clearsHarm_75 (by decide) ?_
      exact V_wk [true, true, true] rfl (ih _ _ _ _ h)
def D_X7_clearsHarm_2 (fu : Nat)  : Nat → Int32 → Int32 → Mem → Option Mem
  | 0, _, _, _ => none
  | n + 1, v1, v2, μ =>
    if (40 : Int32) ≤ v2 then
      D_X7_clearsHarm_52 fu fu v1 0 μ
    else
      gu (ib ((40 * v1) + v2) 1000) <|
      vl (wL μ 105 (Int32.toNatClampNeg ((40 * v1) + v2)) 0) fun m11 =>
      gu (ib ((40 * v1) + v2) 1000) <|
      vl (wL m11 106 (Int32.toNatClampNeg ((40 * v1) + v2)) 0) fun m14 =>
      gu (ib ((40 * v1) + v2) 1000) <|
      vl (wL m14 107 (Int32.toNatClampNeg ((40 * v1) + v2)) 0) fun m17 =>
      (D_X7_clearsHarm_2 fu n) v1 (v2 + 1) m17
set_option maxRecDepth 20000 in
theorem T_X7_clearsHarm_2 (G : GX) (fu : Nat)  (hG : gt G = tbl) : ∀ (n : Nat) (v1 : Int32) (v2 : Int32) (μ : Mem) (r : Mem) , D_X7_clearsHarm_2 fu n v1 v2 μ = some r → V G mX7_clearsHarm 2 [some (.ref 85), some (.int v1), some (.int v2)] [] μ (.inl none) (r) := by
  intro n
  induction n with
  | zero =>
    intro v1 v2 μ r h
    exact nomatch (show (none : Option Mem) = some r from h)
  | succ n ih =>
    intro v1 v2 μ r h
    rw [D_X7_clearsHarm_2] at h
    refine V_iload_n dX7_clearsHarm_2 rfl ?_
    refine V_bipush (v := 40) dX7_clearsHarm_3 rfl ?_
    by_cases c5 : (40 : Int32) ≤ v2
    · rw [if_pos c5] at h
      refine V_icmpge_t (tgt := 50) dX7_clearsHarm_5 (by decide) c5 ?_
      refine V_iconst (v := 0) dX7_clearsHarm_50 rfl ?_
      refine V_istore_n (lv2 := [some (.ref 85), some (.int v1), some (.int 0)]) dX7_clearsHarm_51 (by decide) rfl ?_
      exact V_wk [true, true, true] rfl (T_X7_clearsHarm_52 G fu hG fu _ _ _ _ h)
    · rw [if_neg c5] at h
      refine V_icmpge_f (tgt := 50) dX7_clearsHarm_5 (by decide) c5 ?_
      refine V_aload_n dX7_clearsHarm_8 rfl ?_
      refine V_getR (kf := 21) k_X7 (by decide) lk_RX7_76 rfl dX7_clearsHarm_9 (tq_85 hG) rfl ?_
      refine V_bipush (v := 40) dX7_clearsHarm_12 rfl ?_
      refine V_iload_n dX7_clearsHarm_14 rfl ?_
      refine V_imul dX7_clearsHarm_15 ?_
      refine V_iload_n dX7_clearsHarm_16 rfl ?_
      refine V_iadd dX7_clearsHarm_17 ?_
      refine V_lconst (v := 0) dX7_clearsHarm_18 rfl ?_
      obtain ⟨g10, h⟩ := gu_o h
      obtain ⟨m11, e12, h⟩ := vl_o h
      refine V_lastore (μ2 := m11) dX7_clearsHarm_19 (tq_105 hG) (ib_in g10) e12.symm ?_
      refine V_aload_n dX7_clearsHarm_20 rfl ?_
      refine V_getR (kf := 22) k_X7 (by decide) lk_RX7_79 rfl dX7_clearsHarm_21 (tq_85 hG) rfl ?_
      refine V_bipush (v := 40) dX7_clearsHarm_24 rfl ?_
      refine V_iload_n dX7_clearsHarm_26 rfl ?_
      refine V_imul dX7_clearsHarm_27 ?_
      refine V_iload_n dX7_clearsHarm_28 rfl ?_
      refine V_iadd dX7_clearsHarm_29 ?_
      refine V_lconst (v := 0) dX7_clearsHarm_30 rfl ?_
      obtain ⟨g13, h⟩ := gu_o h
      obtain ⟨m14, e15, h⟩ := vl_o h
      refine V_lastore (μ2 := m14) dX7_clearsHarm_31 (tq_106 hG) (ib_in g13) e15.symm ?_
      refine V_aload_n dX7_clearsHarm_32 rfl ?_
      refine V_getR (kf := 23) k_X7 (by decide) lk_RX7_82 rfl dX7_clearsHarm_33 (tq_85 hG) rfl ?_
      refine V_bipush (v := 40) dX7_clearsHarm_36 rfl ?_
      refine V_iload_n dX7_clearsHarm_38 rfl ?_
      refine V_imul dX7_clearsHarm_39 ?_
      refine V_iload_n dX7_clearsHarm_40 rfl ?_
      refine V_iadd dX7_clearsHarm_41 ?_
      refine V_lconst (v := 0) dX7_clearsHarm_42 rfl ?_
      obtain ⟨g16, h⟩ := gu_o h
      obtain ⟨m17, e18, h⟩ := vl_o h
      refine V_lastore (μ2 := m17) dX7_clearsHarm_43 (tq_107 hG) (ib_in g16) e18.symm ?_
      refine V_iinc (v := v2 + 1) (lv2 := [some (.ref 85), some (.int v1), some (.int (v2 + 1))]) dX7_clearsHarm_44 rfl rfl (by decide) rfl ?_
      refine V_goto (tgt := 2) dX7_clearsHarm_47 (by decide) ?_
      exact V_wk [true, true, true] rfl (ih _ _ _ _ h)
def D_X7_clearsHarm_0 (fu : Nat)  (a1 : Int32) (μ : Mem) : Option Mem :=
  D_X7_clearsHarm_2 fu fu a1 0 μ
set_option maxRecDepth 20000 in
theorem T_X7_clearsHarm_0 (G : GX) (fu : Nat)  (hG : gt G = tbl) : ∀ (a1 : Int32) (μ : Mem) (r : Mem) , D_X7_clearsHarm_0 fu a1 μ = some r → V G mX7_clearsHarm 0 [some (.ref 85), some (.int a1), none] [] μ (.inl none) (r) := by
  intro a1 μ r h
  unfold D_X7_clearsHarm_0 at h
  refine V_iconst (v := 0) dX7_clearsHarm_0 rfl ?_
  refine V_istore_n (lv2 := [some (.ref 85), some (.int a1), some (.int 0)]) dX7_clearsHarm_1 (by decide) rfl ?_
  exact V_wk [true, true, true] rfl (T_X7_clearsHarm_2 G fu hG fu _ _ _ _ h)
theorem VM_X7_clearsHarm (G : GX) (fu : Nat)  (hG : gt G = tbl) (a1 : Int32) (μ : Mem) (r : Mem) (h : D_X7_clearsHarm_0 fu a1 μ = some r) : VM G mX7_clearsHarm [.ref 85, .int a1] μ (.inl none) (r) := V_entry ok_mX7_clearsHarm rfl rfl (Nat.le_of_ble_eq_true rfl) (T_X7_clearsHarm_0 G fu hG a1 μ r h)
def D_X7_clears_105 (fu : Nat)  : Nat → Int32 → Mem → Option Mem
  | 0, _, _ => none
  | n + 1, v1, μ =>
    if (12 : Int32) ≤ v1 then
      vl (wI μ 85 29 0) fun m1 =>
      vl (wI m1 85 30 0) fun m3 =>
      vl (wI m3 85 31 0) fun m5 =>
      vl (wI m5 85 32 0) fun m7 =>
      some m7
    else
      gu (ib v1 12) <|
      vl (wI μ 114 (Int32.toNatClampNeg v1) 0) fun m10 =>
      (D_X7_clears_105 fu n) (v1 + 1) m10
set_option maxRecDepth 20000 in
theorem T_X7_clears_105 (G : GX) (fu : Nat)  (hG : gt G = tbl) : ∀ (n : Nat) (v1 : Int32) (μ : Mem) (r : Mem) , D_X7_clears_105 fu n v1 μ = some r → V G mX7_clears 105 [some (.ref 85), some (.int v1)] [] μ (.inl none) (r) := by
  intro n
  induction n with
  | zero =>
    intro v1 μ r h
    exact nomatch (show (none : Option Mem) = some r from h)
  | succ n ih =>
    intro v1 μ r h
    rw [D_X7_clears_105] at h
    refine V_iload_n dX7_clears_105 rfl ?_
    refine V_bipush (v := 12) dX7_clears_106 rfl ?_
    by_cases c108 : (12 : Int32) ≤ v1
    · rw [if_pos c108] at h
      refine V_icmpge_t (tgt := 124) dX7_clears_108 (by decide) c108 ?_
      refine V_aload_n dX7_clears_124 rfl ?_
      refine V_iconst (v := 0) dX7_clears_125 rfl ?_
      obtain ⟨m1, e2, h⟩ := vl_o h
      refine V_putI (kf := 29) k_X7 (by decide) lk_RX7_149 rfl rfl (by decide +kernel) dX7_clears_126 (tq_85 hG) rfl e2.symm ?_
      refine V_aload_n dX7_clears_129 rfl ?_
      refine V_iconst (v := 0) dX7_clears_130 rfl ?_
      obtain ⟨m3, e4, h⟩ := vl_o h
      refine V_putI (kf := 30) k_X7 (by decide) lk_RX7_152 rfl rfl (by decide +kernel) dX7_clears_131 (tq_85 hG) rfl e4.symm ?_
      refine V_aload_n dX7_clears_134 rfl ?_
      refine V_iconst (v := 0) dX7_clears_135 rfl ?_
      obtain ⟨m5, e6, h⟩ := vl_o h
      refine V_putI (kf := 31) k_X7 (by decide) lk_RX7_155 rfl rfl (by decide +kernel) dX7_clears_136 (tq_85 hG) rfl e6.symm ?_
      refine V_aload_n dX7_clears_139 rfl ?_
      refine V_iconst (v := 0) dX7_clears_140 rfl ?_
      obtain ⟨m7, e8, h⟩ := vl_o h
      refine V_putI (kf := 32) k_X7 (by decide) lk_RX7_158 rfl rfl (by decide +kernel) dX7_clears_141 (tq_85 hG) rfl e8.symm ?_
      cases h
      exact V_vret rfl dX7_clears_144
    · rw [if_neg c108] at h
      refine V_icmpge_f (tgt := 124) dX7_clears_108 (by decide) c108 ?_
      refine V_aload_n dX7_clears_111 rfl ?_
      refine V_getR (kf := 34) k_X7 (by decide) lk_RX7_103 rfl dX7_clears_112 (tq_85 hG) rfl ?_
      refine V_iload_n dX7_clears_115 rfl ?_
      refine V_iconst (v := 0) dX7_clears_116 rfl ?_
      obtain ⟨g9, h⟩ := gu_o h
      obtain ⟨m10, e11, h⟩ := vl_o h
      refine V_iastore (μ2 := m10) dX7_clears_117 (tq_114 hG) (ib_in g9) e11.symm ?_
      refine V_iinc (v := v1 + 1) (lv2 := [some (.ref 85), some (.int (v1 + 1))]) dX7_clears_118 rfl rfl (by decide) rfl ?_
      refine V_goto (tgt := 105) dX7_clears_121 (by decide) ?_
      exact V_wk [true, true] rfl (ih _ _ _ h)
def D_X7_clears_77 (fu : Nat)  : Nat → Int32 → Mem → Option Mem
  | 0, _, _ => none
  | n + 1, v1, μ =>
    if (10 : Int32) ≤ v1 then
      D_X7_clears_105 fu fu 0 μ
    else
      gu (ib v1 10) <|
      vl (wI μ 111 (Int32.toNatClampNeg v1) 0) fun m13 =>
      gu (ib v1 10) <|
      vl (wI m13 112 (Int32.toNatClampNeg v1) 0) fun m16 =>
      (D_X7_clears_77 fu n) (v1 + 1) m16
set_option maxRecDepth 20000 in
theorem T_X7_clears_77 (G : GX) (fu : Nat)  (hG : gt G = tbl) : ∀ (n : Nat) (v1 : Int32) (μ : Mem) (r : Mem) , D_X7_clears_77 fu n v1 μ = some r → V G mX7_clears 77 [some (.ref 85), some (.int v1)] [] μ (.inl none) (r) := by
  intro n
  induction n with
  | zero =>
    intro v1 μ r h
    exact nomatch (show (none : Option Mem) = some r from h)
  | succ n ih =>
    intro v1 μ r h
    rw [D_X7_clears_77] at h
    refine V_iload_n dX7_clears_77 rfl ?_
    refine V_bipush (v := 10) dX7_clears_78 rfl ?_
    by_cases c80 : (10 : Int32) ≤ v1
    · rw [if_pos c80] at h
      refine V_icmpge_t (tgt := 103) dX7_clears_80 (by decide) c80 ?_
      refine V_iconst (v := 0) dX7_clears_103 rfl ?_
      refine V_istore_n (lv2 := [some (.ref 85), some (.int 0)]) dX7_clears_104 (by decide) rfl ?_
      exact V_wk [true, true] rfl (T_X7_clears_105 G fu hG fu _ _ _ h)
    · rw [if_neg c80] at h
      refine V_icmpge_f (tgt := 103) dX7_clears_80 (by decide) c80 ?_
      refine V_aload_n dX7_clears_83 rfl ?_
      refine V_getR (kf := 27) k_X7 (by decide) lk_RX7_94 rfl dX7_clears_84 (tq_85 hG) rfl ?_
      refine V_iload_n dX7_clears_87 rfl ?_
      refine V_iconst (v := 0) dX7_clears_88 rfl ?_
      obtain ⟨g12, h⟩ := gu_o h
      obtain ⟨m13, e14, h⟩ := vl_o h
      refine V_iastore (μ2 := m13) dX7_clears_89 (tq_111 hG) (ib_in g12) e14.symm ?_
      refine V_aload_n dX7_clears_90 rfl ?_
      refine V_getR (kf := 28) k_X7 (by decide) lk_RX7_97 rfl dX7_clears_91 (tq_85 hG) rfl ?_
      refine V_iload_n dX7_clears_94 rfl ?_
      refine V_iconst (v := 0) dX7_clears_95 rfl ?_
      obtain ⟨g15, h⟩ := gu_o h
      obtain ⟨m16, e17, h⟩ := vl_o h
      refine V_iastore (μ2 := m16) dX7_clears_96 (tq_112 hG) (ib_in g15) e17.symm ?_
      refine V_iinc (v := v1 + 1) (lv2 := [some (.ref 85), some (.int (v1 + 1))]) dX7_clears_97 rfl rfl (by decide) rfl ?_
      refine V_goto (tgt := 77) dX7_clears_100 (by decide) ?_
      exact V_wk [true, true] rfl (ih _ _ _ h)
def D_X7_clears_37 (fu : Nat)  : Nat → Int32 → Mem → Option Mem
  | 0, _, _ => none
  | n + 1, v1, μ =>
    if (24 : Int32) < v1 then
      D_X7_clears_77 fu fu 0 μ
    else
      gu (ib v1 25) <|
      vl (wI μ 91 (Int32.toNatClampNeg v1) 0) fun m19 =>
      gu (ib v1 25) <|
      vl (wI m19 103 (Int32.toNatClampNeg v1) 0) fun m22 =>
      gu (ib v1 25) <|
      vl (wL m22 104 (Int32.toNatClampNeg v1) 0) fun m25 =>
      (D_X7_clearsHarm_0 fu v1 m25).bind fun x27 =>
      (D_X7_clears_37 fu n) (v1 + 1) x27
set_option maxRecDepth 20000 in
theorem T_X7_clears_37 (G : GX) (fu : Nat)  (hG : gt G = tbl) : ∀ (n : Nat) (v1 : Int32) (μ : Mem) (r : Mem) , D_X7_clears_37 fu n v1 μ = some r → V G mX7_clears 37 [some (.ref 85), some (.int v1)] [] μ (.inl none) (r) := by
  intro n
  induction n with
  | zero =>
    intro v1 μ r h
    exact nomatch (show (none : Option Mem) = some r from h)
  | succ n ih =>
    intro v1 μ r h
    rw [D_X7_clears_37] at h
    refine V_iload_n dX7_clears_37 rfl ?_
    refine V_bipush (v := 24) dX7_clears_38 rfl ?_
    by_cases c40 : (24 : Int32) < v1
    · rw [if_pos c40] at h
      refine V_icmpgt_t (tgt := 75) dX7_clears_40 (by decide) c40 ?_
      refine V_iconst (v := 0) dX7_clears_75 rfl ?_
      refine V_istore_n (lv2 := [some (.ref 85), some (.int 0)]) dX7_clears_76 (by decide) rfl ?_
      exact V_wk [true, true] rfl (T_X7_clears_77 G fu hG fu _ _ _ h)
    · rw [if_neg c40] at h
      refine V_icmpgt_f (tgt := 75) dX7_clears_40 (by decide) c40 ?_
      refine V_aload_n dX7_clears_43 rfl ?_
      refine V_getR (kf := 7) k_X7 (by decide) lk_RX7_33 rfl dX7_clears_44 (tq_85 hG) rfl ?_
      refine V_iload_n dX7_clears_47 rfl ?_
      refine V_iconst (v := 0) dX7_clears_48 rfl ?_
      obtain ⟨g18, h⟩ := gu_o h
      obtain ⟨m19, e20, h⟩ := vl_o h
      refine V_bastore (μ2 := m19) dX7_clears_49 (tq_91 hG) (ib_in g18) (by rw [nar_boolV (by decide)]; exact e20.symm) ?_
      refine V_aload_n dX7_clears_50 rfl ?_
      refine V_getR (kf := 19) k_X7 (by decide) lk_RX7_70 rfl dX7_clears_51 (tq_85 hG) rfl ?_
      refine V_iload_n dX7_clears_54 rfl ?_
      refine V_iconst (v := 0) dX7_clears_55 rfl ?_
      obtain ⟨g21, h⟩ := gu_o h
      obtain ⟨m22, e23, h⟩ := vl_o h
      refine V_iastore (μ2 := m22) dX7_clears_56 (tq_103 hG) (ib_in g21) e23.symm ?_
      refine V_aload_n dX7_clears_57 rfl ?_
      refine V_getR (kf := 20) k_X7 (by decide) lk_RX7_73 rfl dX7_clears_58 (tq_85 hG) rfl ?_
      refine V_iload_n dX7_clears_61 rfl ?_
      refine V_lconst (v := 0) dX7_clears_62 rfl ?_
      obtain ⟨g24, h⟩ := gu_o h
      obtain ⟨m25, e26, h⟩ := vl_o h
      refine V_lastore (μ2 := m25) dX7_clears_63 (tq_104 hG) (ib_in g24) e26.symm ?_
      refine V_aload_n dX7_clears_64 rfl ?_
      refine V_iload_n dX7_clears_65 rfl ?_
      obtain ⟨x27, y28, h⟩ := bi_o h
      refine V_callV (as := [.int v1]) (q := 85) (rest := []) dX7_clears_66 ov_mX7_clearsHarm lk_RX7_145 (by decide) (by decide) rfl rfl (Nat.le_of_ble_eq_true rfl) (tq_85 hG) rfl (VM_X7_clearsHarm G fu hG v1 m25 _ y28) ?_
      refine V_iinc (v := v1 + 1) (lv2 := [some (.ref 85), some (.int (v1 + 1))]) dX7_clears_69 rfl rfl (by decide) rfl ?_
      refine V_goto (tgt := 37) dX7_clears_72 (by decide) ?_
      exact V_wk [true, true] rfl (ih _ _ _ h)
def D_X7_clears_2 (fu : Nat)  : Nat → Int32 → Mem → Option Mem
  | 0, _, _ => none
  | n + 1, v1, μ =>
    if (40 : Int32) ≤ v1 then
      D_X7_clears_37 fu fu 0 μ
    else
      gu (ib v1 40) <|
      vl (wI μ 90 (Int32.toNatClampNeg v1) 0) fun m30 =>
      gu (ib v1 40) <|
      vl (wI m30 96 (Int32.toNatClampNeg v1) 0) fun m33 =>
      gu (ib v1 40) <|
      vl (wL m33 99 (Int32.toNatClampNeg v1) 0) fun m36 =>
      (D_X7_clears_2 fu n) (v1 + 1) m36
set_option maxRecDepth 20000 in
theorem T_X7_clears_2 (G : GX) (fu : Nat)  (hG : gt G = tbl) : ∀ (n : Nat) (v1 : Int32) (μ : Mem) (r : Mem) , D_X7_clears_2 fu n v1 μ = some r → V G mX7_clears 2 [some (.ref 85), some (.int v1)] [] μ (.inl none) (r) := by
  intro n
  induction n with
  | zero =>
    intro v1 μ r h
    exact nomatch (show (none : Option Mem) = some r from h)
  | succ n ih =>
    intro v1 μ r h
    rw [D_X7_clears_2] at h
    refine V_iload_n dX7_clears_2 rfl ?_
    refine V_bipush (v := 40) dX7_clears_3 rfl ?_
    by_cases c5 : (40 : Int32) ≤ v1
    · rw [if_pos c5] at h
      refine V_icmpge_t (tgt := 35) dX7_clears_5 (by decide) c5 ?_
      refine V_iconst (v := 0) dX7_clears_35 rfl ?_
      refine V_istore_n (lv2 := [some (.ref 85), some (.int 0)]) dX7_clears_36 (by decide) rfl ?_
      exact V_wk [true, true] rfl (T_X7_clears_37 G fu hG fu _ _ _ h)
    · rw [if_neg c5] at h
      refine V_icmpge_f (tgt := 35) dX7_clears_5 (by decide) c5 ?_
      refine V_aload_n dX7_clears_8 rfl ?_
      refine V_getR (kf := 6) k_X7 (by decide) lk_RX7_29 rfl dX7_clears_9 (tq_85 hG) rfl ?_
      refine V_iload_n dX7_clears_12 rfl ?_
      refine V_iconst (v := 0) dX7_clears_13 rfl ?_
      obtain ⟨g29, h⟩ := gu_o h
      obtain ⟨m30, e31, h⟩ := vl_o h
      refine V_bastore (μ2 := m30) dX7_clears_14 (tq_90 hG) (ib_in g29) (by rw [nar_boolV (by decide)]; exact e31.symm) ?_
      refine V_aload_n dX7_clears_15 rfl ?_
      refine V_getR (kf := 12) k_X7 (by decide) lk_RX7_48 rfl dX7_clears_16 (tq_85 hG) rfl ?_
      refine V_iload_n dX7_clears_19 rfl ?_
      refine V_iconst (v := 0) dX7_clears_20 rfl ?_
      obtain ⟨g32, h⟩ := gu_o h
      obtain ⟨m33, e34, h⟩ := vl_o h
      refine V_iastore (μ2 := m33) dX7_clears_21 (tq_96 hG) (ib_in g32) e34.symm ?_
      refine V_aload_n dX7_clears_22 rfl ?_
      refine V_getR (kf := 15) k_X7 (by decide) lk_RX7_57 rfl dX7_clears_23 (tq_85 hG) rfl ?_
      refine V_iload_n dX7_clears_26 rfl ?_
      refine V_lconst (v := 0) dX7_clears_27 rfl ?_
      obtain ⟨g35, h⟩ := gu_o h
      obtain ⟨m36, e37, h⟩ := vl_o h
      refine V_lastore (μ2 := m36) dX7_clears_28 (tq_99 hG) (ib_in g35) e37.symm ?_
      refine V_iinc (v := v1 + 1) (lv2 := [some (.ref 85), some (.int (v1 + 1))]) dX7_clears_29 rfl rfl (by decide) rfl ?_
      refine V_goto (tgt := 2) dX7_clears_32 (by decide) ?_
      exact V_wk [true, true] rfl (ih _ _ _ h)
def D_X7_clears_0 (fu : Nat)  (μ : Mem) : Option Mem :=
  D_X7_clears_2 fu fu 0 μ
set_option maxRecDepth 20000 in
theorem T_X7_clears_0 (G : GX) (fu : Nat)  (hG : gt G = tbl) : ∀ (μ : Mem) (r : Mem) , D_X7_clears_0 fu μ = some r → V G mX7_clears 0 [some (.ref 85), none] [] μ (.inl none) (r) := by
  intro μ r h
  unfold D_X7_clears_0 at h
  refine V_iconst (v := 0) dX7_clears_0 rfl ?_
  refine V_istore_n (lv2 := [some (.ref 85), some (.int 0)]) dX7_clears_1 (by decide) rfl ?_
  exact V_wk [true, true] rfl (T_X7_clears_2 G fu hG fu _ _ _ h)
theorem VM_X7_clears (G : GX) (fu : Nat)  (hG : gt G = tbl) (μ : Mem) (r : Mem) (h : D_X7_clears_0 fu μ = some r) : VM G mX7_clears [.ref 85] μ (.inl none) (r) := V_entry ok_mX7_clears rfl rfl (Nat.le_of_ble_eq_true rfl) (T_X7_clears_0 G fu hG μ r h)
def D_X7_isIn_0 (μ : Mem)  (a1 : Int32) (a2 : Int32) : Option Bool :=
  gu (ib a1 40) <|
  if (μ.1 90 (Int32.toNatClampNeg a1)) = 0 then
    some false
  else
    gu (ib a1 40) <|
    if (μ.1 92 (Int32.toNatClampNeg a1)) = a2 then
      some true
    else
      some false
set_option maxRecDepth 20000 in
theorem T_X7_isIn_0 (G : GX) (μ : Mem)  (hG : gt G = tbl) : ∀ (a1 : Int32) (a2 : Int32) (r : Bool) , D_X7_isIn_0 μ a1 a2 = some r → V G mX7_isIn 0 [some (.ref 85), some (.int a1), some (.int a2)] [] μ (.inl (some (.int (b2i r)))) (μ) := by
  intro a1 a2 r h
  unfold D_X7_isIn_0 at h
  refine V_aload_n dX7_isIn_0 rfl ?_
  refine V_getR (kf := 6) k_X7 (by decide) lk_RX7_29 rfl dX7_isIn_1 (tq_85 hG) rfl ?_
  refine V_iload_n dX7_isIn_4 rfl ?_
  obtain ⟨g1, h⟩ := gu_o h
  refine V_baload dX7_isIn_5 (tq_90 hG) (ib_in g1) ?_
  by_cases c6 : (μ.1 90 (Int32.toNatClampNeg a1)) = 0
  · rw [if_pos c6] at h
    refine V_ifeq_t (tgt := 23) dX7_isIn_6 (by decide) c6 ?_
    refine V_iconst (v := 0) dX7_isIn_23 rfl ?_
    cases h
    exact V_zret rfl (by decide) dX7_isIn_24
  · rw [if_neg c6] at h
    refine V_ifeq_f (tgt := 23) dX7_isIn_6 (by decide) c6 ?_
    refine V_aload_n dX7_isIn_9 rfl ?_
    refine V_getR (kf := 8) k_X7 (by decide) lk_RX7_36 rfl dX7_isIn_10 (tq_85 hG) rfl ?_
    refine V_iload_n dX7_isIn_13 rfl ?_
    obtain ⟨g2, h⟩ := gu_o h
    refine V_iaload dX7_isIn_14 (tq_92 hG) (ib_in g2) ?_
    refine V_iload_n dX7_isIn_15 rfl ?_
    by_cases c16 : (μ.1 92 (Int32.toNatClampNeg a1)) = a2
    · rw [if_pos c16] at h
      refine V_icmpne_f (tgt := 23) dX7_isIn_16 (by decide) c16 ?_
      refine V_iconst (v := 1) dX7_isIn_19 rfl ?_
      refine V_goto (tgt := 24) dX7_isIn_20 (by decide) ?_
      cases h
      exact V_zret rfl (by decide) dX7_isIn_24
    · rw [if_neg c16] at h
      refine V_icmpne_t (tgt := 23) dX7_isIn_16 (by decide) c16 ?_
      refine V_iconst (v := 0) dX7_isIn_23 rfl ?_
      cases h
      exact V_zret rfl (by decide) dX7_isIn_24
theorem VM_X7_isIn (G : GX) (μ : Mem)  (hG : gt G = tbl) (a1 : Int32) (a2 : Int32) (r : Bool) (h : D_X7_isIn_0 μ a1 a2 = some r) : VM G mX7_isIn [.ref 85, .int a1, .int a2] μ (.inl (some (.int (b2i r)))) (μ) := V_entry ok_mX7_isIn rfl rfl (Nat.le_of_ble_eq_true rfl) (T_X7_isIn_0 G μ hG a1 a2 r h)
def D_X7_top_0 (μ : Mem)  (a1 : Int32) : Option Int32 :=
  gu (ib a1 40) <|
  gu (ib a1 40) <|
  some ((μ.1 93 (Int32.toNatClampNeg a1)) + (μ.1 94 (Int32.toNatClampNeg a1)))
set_option maxRecDepth 20000 in
theorem T_X7_top_0 (G : GX) (μ : Mem)  (hG : gt G = tbl) : ∀ (a1 : Int32) (r : Int32) , D_X7_top_0 μ a1 = some r → V G mX7_top 0 [some (.ref 85), some (.int a1)] [] μ (.inl (some (.int r))) (μ) := by
  intro a1 r h
  unfold D_X7_top_0 at h
  refine V_aload_n dX7_top_0 rfl ?_
  refine V_getR (kf := 9) k_X7 (by decide) lk_RX7_39 rfl dX7_top_1 (tq_85 hG) rfl ?_
  refine V_iload_n dX7_top_4 rfl ?_
  obtain ⟨g1, h⟩ := gu_o h
  refine V_iaload dX7_top_5 (tq_93 hG) (ib_in g1) ?_
  refine V_aload_n dX7_top_6 rfl ?_
  refine V_getR (kf := 10) k_X7 (by decide) lk_RX7_42 rfl dX7_top_7 (tq_85 hG) rfl ?_
  refine V_iload_n dX7_top_10 rfl ?_
  obtain ⟨g2, h⟩ := gu_o h
  refine V_iaload dX7_top_11 (tq_94 hG) (ib_in g2) ?_
  refine V_iadd dX7_top_12 ?_
  cases h
  exact V_iret rfl dX7_top_13
theorem VM_X7_top (G : GX) (μ : Mem)  (hG : gt G = tbl) (a1 : Int32) (r : Int32) (h : D_X7_top_0 μ a1 = some r) : VM G mX7_top [.ref 85, .int a1] μ (.inl (some (.int r))) (μ) := V_entry ok_mX7_top rfl rfl (Nat.le_of_ble_eq_true rfl) (T_X7_top_0 G μ hG a1 r h)
def D_X7_left_0 (μ : Mem)  (a1 : Int32) : Option Int64 :=
  gu (ib a1 40) <|
  gu (ib a1 40) <|
  gu (ib a1 40) <|
  some ((((μ.1 94 (Int32.toNatClampNeg a1) : Int32).toInt64) * ((μ.1 95 (Int32.toNatClampNeg a1) : Int32).toInt64)) - (μ.2.1 99 (Int32.toNatClampNeg a1)))
set_option maxRecDepth 20000 in
theorem T_X7_left_0 (G : GX) (μ : Mem)  (hG : gt G = tbl) : ∀ (a1 : Int32) (r : Int64) , D_X7_left_0 μ a1 = some r → V G mX7_left 0 [some (.ref 85), some (.int a1)] [] μ (.inl (some (.long r))) (μ) := by
  intro a1 r h
  unfold D_X7_left_0 at h
  refine V_aload_n dX7_left_0 rfl ?_
  refine V_getR (kf := 10) k_X7 (by decide) lk_RX7_42 rfl dX7_left_1 (tq_85 hG) rfl ?_
  refine V_iload_n dX7_left_4 rfl ?_
  obtain ⟨g1, h⟩ := gu_o h
  refine V_iaload dX7_left_5 (tq_94 hG) (ib_in g1) ?_
  refine V_i2l dX7_left_6 ?_
  refine V_aload_n dX7_left_7 rfl ?_
  refine V_getR (kf := 11) k_X7 (by decide) lk_RX7_45 rfl dX7_left_8 (tq_85 hG) rfl ?_
  refine V_iload_n dX7_left_11 rfl ?_
  obtain ⟨g2, h⟩ := gu_o h
  refine V_iaload dX7_left_12 (tq_95 hG) (ib_in g2) ?_
  refine V_i2l dX7_left_13 ?_
  refine V_lmul dX7_left_14 ?_
  refine V_aload_n dX7_left_15 rfl ?_
  refine V_getR (kf := 15) k_X7 (by decide) lk_RX7_57 rfl dX7_left_16 (tq_85 hG) rfl ?_
  refine V_iload_n dX7_left_19 rfl ?_
  obtain ⟨g3, h⟩ := gu_o h
  refine V_laload dX7_left_20 (tq_99 hG) (ib_in g3) ?_
  refine V_lsub dX7_left_21 ?_
  cases h
  exact V_lret rfl dX7_left_22
theorem VM_X7_left (G : GX) (μ : Mem)  (hG : gt G = tbl) (a1 : Int32) (r : Int64) (h : D_X7_left_0 μ a1 = some r) : VM G mX7_left [.ref 85, .int a1] μ (.inl (some (.long r))) (μ) := V_entry ok_mX7_left rfl rfl (Nat.le_of_ble_eq_true rfl) (T_X7_left_0 G μ hG a1 r h)
def D_X7_rungOf_0 (μ : Mem)  (a1 : Int32) (a2 : Int32) : Option Int32 :=
  gu (ib a1 12) <|
  if (μ.1 114 (Int32.toNatClampNeg a1)) ≤ a2 then
    some (-1)
  else
    gu (ib ((6 * a1) + a2) 72) <|
    some (μ.1 113 (Int32.toNatClampNeg ((6 * a1) + a2)))
set_option maxRecDepth 20000 in
theorem T_X7_rungOf_0 (G : GX) (μ : Mem)  (hG : gt G = tbl) : ∀ (a1 : Int32) (a2 : Int32) (r : Int32) , D_X7_rungOf_0 μ a1 a2 = some r → V G mX7_rungOf 0 [some (.ref 85), some (.int a1), some (.int a2)] [] μ (.inl (some (.int r))) (μ) := by
  intro a1 a2 r h
  unfold D_X7_rungOf_0 at h
  refine V_iload_n dX7_rungOf_0 rfl ?_
  refine V_aload_n dX7_rungOf_1 rfl ?_
  refine V_getR (kf := 34) k_X7 (by decide) lk_RX7_103 rfl dX7_rungOf_2 (tq_85 hG) rfl ?_
  refine V_iload_n dX7_rungOf_5 rfl ?_
  obtain ⟨g1, h⟩ := gu_o h
  refine V_iaload dX7_rungOf_6 (tq_114 hG) (ib_in g1) ?_
  by_cases c7 : (μ.1 114 (Int32.toNatClampNeg a1)) ≤ a2
  · rw [if_pos c7] at h
    refine V_icmpge_t (tgt := 24) dX7_rungOf_7 (by decide) c7 ?_
    refine V_iconst (v := (-1)) dX7_rungOf_24 rfl ?_
    cases h
    exact V_iret rfl dX7_rungOf_25
  · rw [if_neg c7] at h
    refine V_icmpge_f (tgt := 24) dX7_rungOf_7 (by decide) c7 ?_
    refine V_aload_n dX7_rungOf_10 rfl ?_
    refine V_getR (kf := 33) k_X7 (by decide) lk_RX7_100 rfl dX7_rungOf_11 (tq_85 hG) rfl ?_
    refine V_bipush (v := 6) dX7_rungOf_14 rfl ?_
    refine V_iload_n dX7_rungOf_16 rfl ?_
    refine V_imul dX7_rungOf_17 ?_
    refine V_iload_n dX7_rungOf_18 rfl ?_
    refine V_iadd dX7_rungOf_19 ?_
    obtain ⟨g2, h⟩ := gu_o h
    refine V_iaload dX7_rungOf_20 (tq_113 hG) (ib_in g2) ?_
    refine V_goto (tgt := 25) dX7_rungOf_21 (by decide) ?_
    cases h
    exact V_iret rfl dX7_rungOf_25
theorem VM_X7_rungOf (G : GX) (μ : Mem)  (hG : gt G = tbl) (a1 : Int32) (a2 : Int32) (r : Int32) (h : D_X7_rungOf_0 μ a1 a2 = some r) : VM G mX7_rungOf [.ref 85, .int a1, .int a2] μ (.inl (some (.int r))) (μ) := V_entry ok_mX7_rungOf rfl rfl (Nat.le_of_ble_eq_true rfl) (T_X7_rungOf_0 G μ hG a1 a2 r h)
def D_X7_layersOf_0 (μ : Mem)  (a1 : Int32) : Option Int32 :=
  gu (ib a1 12) <|
  some (μ.1 114 (Int32.toNatClampNeg a1))
set_option maxRecDepth 20000 in
theorem T_X7_layersOf_0 (G : GX) (μ : Mem)  (hG : gt G = tbl) : ∀ (a1 : Int32) (r : Int32) , D_X7_layersOf_0 μ a1 = some r → V G mX7_layersOf 0 [some (.ref 85), some (.int a1)] [] μ (.inl (some (.int r))) (μ) := by
  intro a1 r h
  unfold D_X7_layersOf_0 at h
  refine V_aload_n dX7_layersOf_0 rfl ?_
  refine V_getR (kf := 34) k_X7 (by decide) lk_RX7_103 rfl dX7_layersOf_1 (tq_85 hG) rfl ?_
  refine V_iload_n dX7_layersOf_4 rfl ?_
  obtain ⟨g1, h⟩ := gu_o h
  refine V_iaload dX7_layersOf_5 (tq_114 hG) (ib_in g1) ?_
  cases h
  exact V_iret rfl dX7_layersOf_6
theorem VM_X7_layersOf (G : GX) (μ : Mem)  (hG : gt G = tbl) (a1 : Int32) (r : Int32) (h : D_X7_layersOf_0 μ a1 = some r) : VM G mX7_layersOf [.ref 85, .int a1] μ (.inl (some (.int r))) (μ) := V_entry ok_mX7_layersOf rfl rfl (Nat.le_of_ble_eq_true rfl) (T_X7_layersOf_0 G μ hG a1 r h)
def D_X7_stacks_102 (fu : Nat)  : Nat → Int32 → Int32 → Int32 → Mem → Option Mem
  | 0, _, _, _, _ => none
  | n + 1, v2, v3, v4, μ =>
    gu (ib v2 12) <|
    if (μ.1 114 (Int32.toNatClampNeg v2)) ≤ v3 then
      some μ
    else
      (D_X7_rungOf_0 μ v2 v3).bind fun x13 =>
      (D_X7_rungOf_0 μ v2 v3).bind fun x15 =>
      gu (ib x15 40) <|
      gu (ib x13 40) <|
      vl (wI μ 115 (Int32.toNatClampNeg x13) ((μ.1 93 (Int32.toNatClampNeg x15)) - v4)) fun m19 =>
      (D_X7_rungOf_0 m19 v2 v3).bind fun x21 =>
      (D_X7_top_0 m19 x21).bind fun x23 =>
      (D_X7_stacks_102 fu n) v2 (v3 + 1) x23 m19
set_option maxRecDepth 20000 in
theorem T_X7_stacks_102 (G : GX) (fu : Nat)  (hG : gt G = tbl) : ∀ (n : Nat) (v2 : Int32) (v3 : Int32) (v4 : Int32) (μ : Mem) (r : Mem) , D_X7_stacks_102 fu n v2 v3 v4 μ = some r → V G mX7_stacks 102 [some (.ref 85), none, some (.int v2), some (.int v3), some (.int v4)] [] μ (.inl none) (r) := by
  intro n
  induction n with
  | zero =>
    intro v2 v3 v4 μ r h
    exact nomatch (show (none : Option Mem) = some r from h)
  | succ n ih =>
    intro v2 v3 v4 μ r h
    rw [D_X7_stacks_102] at h
    refine V_iload_n dX7_stacks_102 rfl ?_
    refine V_aload_n dX7_stacks_103 rfl ?_
    refine V_getR (kf := 34) k_X7 (by decide) lk_RX7_103 rfl dX7_stacks_104 (tq_85 hG) rfl ?_
    refine V_iload_n dX7_stacks_107 rfl ?_
    obtain ⟨g12, h⟩ := gu_o h
    refine V_iaload dX7_stacks_108 (tq_114 hG) (ib_in g12) ?_
    by_cases c109 : (μ.1 114 (Int32.toNatClampNeg v2)) ≤ v3
    · rw [if_pos c109] at h
      refine V_icmpge_t (tgt := 155) dX7_stacks_109 (by decide) c109 ?_
      cases h
      exact V_vret rfl dX7_stacks_155
    · rw [if_neg c109] at h
      refine V_icmpge_f (tgt := 155) dX7_stacks_109 (by decide) c109 ?_
      refine V_aload_n dX7_stacks_112 rfl ?_
      refine V_getR (kf := 35) k_X7 (by decide) lk_RX7_106 rfl dX7_stacks_113 (tq_85 hG) rfl ?_
      refine V_aload_n dX7_stacks_116 rfl ?_
      refine V_iload_n dX7_stacks_117 rfl ?_
      refine V_iload_n dX7_stacks_118 rfl ?_
      obtain ⟨x13, y14, h⟩ := bi_o h
      refine V_callV (as := [.int v2, .int v3]) (q := 85) (rest := [.ref 115]) dX7_stacks_119 ov_mX7_rungOf lk_RX7_161 (by decide) (by decide) rfl rfl (Nat.le_of_ble_eq_true rfl) (tq_85 hG) rfl (VM_X7_rungOf G μ hG v2 v3 _ y14) ?_
      refine V_aload_n dX7_stacks_122 rfl ?_
      refine V_getR (kf := 9) k_X7 (by decide) lk_RX7_39 rfl dX7_stacks_123 (tq_85 hG) rfl ?_
      refine V_aload_n dX7_stacks_126 rfl ?_
      refine V_iload_n dX7_stacks_127 rfl ?_
      refine V_iload_n dX7_stacks_128 rfl ?_
      obtain ⟨x15, y16, h⟩ := bi_o h
      refine V_callV (as := [.int v2, .int v3]) (q := 85) (rest := [.ref 93, .int x13, .ref 115]) dX7_stacks_129 ov_mX7_rungOf lk_RX7_161 (by decide) (by decide) rfl rfl (Nat.le_of_ble_eq_true rfl) (tq_85 hG) rfl (VM_X7_rungOf G μ hG v2 v3 _ y16) ?_
      obtain ⟨g17, h⟩ := gu_o h
      refine V_iaload dX7_stacks_132 (tq_93 hG) (ib_in g17) ?_
      refine V_iload dX7_stacks_133 rfl ?_
      refine V_isub dX7_stacks_135 ?_
      obtain ⟨g18, h⟩ := gu_o h
      obtain ⟨m19, e20, h⟩ := vl_o h
      refine V_iastore (μ2 := m19) dX7_stacks_136 (tq_115 hG) (ib_in g18) e20.symm ?_
      refine V_aload_n dX7_stacks_137 rfl ?_
      refine V_aload_n dX7_stacks_138 rfl ?_
      refine V_iload_n dX7_stacks_139 rfl ?_
      refine V_iload_n dX7_stacks_140 rfl ?_
      obtain ⟨x21, y22, h⟩ := bi_o h
      refine V_callV (as := [.int v2, .int v3]) (q := 85) (rest := [.ref 85]) dX7_stacks_141 ov_mX7_rungOf lk_RX7_161 (by decide) (by decide) rfl rfl (Nat.le_of_ble_eq_true rfl) (tq_85 hG) rfl (VM_X7_rungOf G m19 hG v2 v3 _ y22) ?_
      obtain ⟨x23, y24, h⟩ := bi_o h
      refine V_callV (as := [.int x21]) (q := 85) (rest := []) dX7_stacks_144 ov_mX7_top lk_RX7_165 (by decide) (by decide) rfl rfl (Nat.le_of_ble_eq_true rfl) (tq_85 hG) rfl (VM_X7_top G m19 hG x21 _ y24) ?_
      refine V_istore (lv2 := [some (.ref 85), none, some (.int v2), some (.int v3), some (.int x23)]) dX7_stacks_147 (by decide) rfl ?_
      refine V_iinc (v := v3 + 1) (lv2 := [some (.ref 85), none, some (.int v2), some (.int (v3 + 1)), some (.int x23)]) dX7_stacks_149 rfl rfl (by decide) rfl ?_
      refine V_goto (tgt := 102) dX7_stacks_152 (by decide) ?_
      exact V_wk [true, false, true, true, true] rfl (ih _ _ _ _ _ h)
def D_X7_stacks_75 (fu : Nat)  (v1 : Int32) (v2 : Int32) (v3 : Int32) (μ : Mem) : Option Mem :=
  gu (ib ((6 * v2) + v3) 72) <|
  vl (wI μ 113 (Int32.toNatClampNeg ((6 * v2) + v3)) v1) fun m6 =>
  gu (ib v2 12) <|
  gu (ib v2 12) <|
  vl (wI m6 114 (Int32.toNatClampNeg v2) ((m6.1 114 (Int32.toNatClampNeg v2)) + 1)) fun m10 =>
  D_X7_stacks_102 fu fu v2 0 0 m10
set_option maxRecDepth 20000 in
theorem T_X7_stacks_75 (G : GX) (fu : Nat)  (hG : gt G = tbl) : ∀ (v1 : Int32) (v2 : Int32) (v3 : Int32) (μ : Mem) (r : Mem) , D_X7_stacks_75 fu v1 v2 v3 μ = some r → V G mX7_stacks 75 [some (.ref 85), some (.int v1), some (.int v2), some (.int v3), none] [] μ (.inl none) (r) := by
  intro v1 v2 v3 μ r h
  unfold D_X7_stacks_75 at h
  refine V_aload_n dX7_stacks_75 rfl ?_
  refine V_getR (kf := 33) k_X7 (by decide) lk_RX7_100 rfl dX7_stacks_76 (tq_85 hG) rfl ?_
  refine V_bipush (v := 6) dX7_stacks_79 rfl ?_
  refine V_iload_n dX7_stacks_81 rfl ?_
  refine V_imul dX7_stacks_82 ?_
  refine V_iload_n dX7_stacks_83 rfl ?_
  refine V_iadd dX7_stacks_84 ?_
  refine V_iload_n dX7_stacks_85 rfl ?_
  obtain ⟨g5, h⟩ := gu_o h
  obtain ⟨m6, e7, h⟩ := vl_o h
  refine V_iastore (μ2 := m6) dX7_stacks_86 (tq_113 hG) (ib_in g5) e7.symm ?_
  refine V_aload_n dX7_stacks_87 rfl ?_
  refine V_getR (kf := 34) k_X7 (by decide) lk_RX7_103 rfl dX7_stacks_88 (tq_85 hG) rfl ?_
  refine V_iload_n dX7_stacks_91 rfl ?_
  refine V_dup2 dX7_stacks_92 rfl rfl ?_
  obtain ⟨g8, h⟩ := gu_o h
  refine V_iaload dX7_stacks_93 (tq_114 hG) (ib_in g8) ?_
  refine V_iconst (v := 1) dX7_stacks_94 rfl ?_
  refine V_iadd dX7_stacks_95 ?_
  obtain ⟨g9, h⟩ := gu_o h
  obtain ⟨m10, e11, h⟩ := vl_o h
  refine V_iastore (μ2 := m10) dX7_stacks_96 (tq_114 hG) (ib_in g9) e11.symm ?_
  refine V_iconst (v := 0) dX7_stacks_97 rfl ?_
  refine V_istore (lv2 := [some (.ref 85), some (.int v1), some (.int v2), some (.int v3), some (.int 0)]) dX7_stacks_98 (by decide) rfl ?_
  refine V_iconst (v := 0) dX7_stacks_100 rfl ?_
  refine V_istore_n (lv2 := [some (.ref 85), some (.int v1), some (.int v2), some (.int 0), some (.int 0)]) dX7_stacks_101 (by decide) rfl ?_
  exact V_wk [true, false, true, true, true] rfl (T_X7_stacks_102 G fu hG fu _ _ _ _ _ h)
def D_X7_stacks_14 (fu : Nat)  : Nat → Int32 → Int32 → Int32 → Mem → Option Mem
  | 0, _, _, _, _ => none
  | n + 1, v1, v2, v3, μ =>
    if v3 ≤ 0 then
      D_X7_stacks_75 fu v1 v2 v3 μ
    else
      gu (ib (((6 * v2) + v3) - 1) 72) <|
      gu (ib (μ.1 113 (Int32.toNatClampNeg (((6 * v2) + v3) - 1))) 40) <|
      gu (ib v1 40) <|
      if (μ.1 93 (Int32.toNatClampNeg (μ.1 113 (Int32.toNatClampNeg (((6 * v2) + v3) - 1))))) ≤ (μ.1 93 (Int32.toNatClampNeg v1)) then
        D_X7_stacks_75 fu v1 v2 v3 μ
      else
        gu (ib (((6 * v2) + v3) - 1) 72) <|
        gu (ib ((6 * v2) + v3) 72) <|
        vl (wI μ 113 (Int32.toNatClampNeg ((6 * v2) + v3)) (μ.1 113 (Int32.toNatClampNeg (((6 * v2) + v3) - 1)))) fun m30 =>
        (D_X7_stacks_14 fu n) v1 v2 (v3 + (-1)) m30
set_option maxRecDepth 20000 in
theorem T_X7_stacks_14 (G : GX) (fu : Nat)  (hG : gt G = tbl) : ∀ (n : Nat) (v1 : Int32) (v2 : Int32) (v3 : Int32) (μ : Mem) (r : Mem) , D_X7_stacks_14 fu n v1 v2 v3 μ = some r → V G mX7_stacks 14 [some (.ref 85), some (.int v1), some (.int v2), some (.int v3), none] [] μ (.inl none) (r) := by
  intro n
  induction n with
  | zero =>
    intro v1 v2 v3 μ r h
    exact nomatch (show (none : Option Mem) = some r from h)
  | succ n ih =>
    intro v1 v2 v3 μ r h
    rw [D_X7_stacks_14] at h
    refine V_iload_n dX7_stacks_14 rfl ?_
    by_cases c15 : v3 ≤ 0
    · rw [if_pos c15] at h
      refine V_ifle_t (tgt := 75) dX7_stacks_15 (by decide) c15 ?_
      exact V_wk [true, true, true, true, false] rfl (T_X7_stacks_75 G fu hG _ _ _ _ _ h)
    · rw [if_neg c15] at h
      refine V_ifle_f (tgt := 75) dX7_stacks_15 (by decide) c15 ?_
      refine V_aload_n dX7_stacks_18 rfl ?_
      refine V_getR (kf := 9) k_X7 (by decide) lk_RX7_39 rfl dX7_stacks_19 (tq_85 hG) rfl ?_
      refine V_aload_n dX7_stacks_22 rfl ?_
      refine V_getR (kf := 33) k_X7 (by decide) lk_RX7_100 rfl dX7_stacks_23 (tq_85 hG) rfl ?_
      refine V_bipush (v := 6) dX7_stacks_26 rfl ?_
      refine V_iload_n dX7_stacks_28 rfl ?_
      refine V_imul dX7_stacks_29 ?_
      refine V_iload_n dX7_stacks_30 rfl ?_
      refine V_iadd dX7_stacks_31 ?_
      refine V_iconst (v := 1) dX7_stacks_32 rfl ?_
      refine V_isub dX7_stacks_33 ?_
      obtain ⟨g25, h⟩ := gu_o h
      refine V_iaload dX7_stacks_34 (tq_113 hG) (ib_in g25) ?_
      obtain ⟨g26, h⟩ := gu_o h
      refine V_iaload dX7_stacks_35 (tq_93 hG) (ib_in g26) ?_
      refine V_aload_n dX7_stacks_36 rfl ?_
      refine V_getR (kf := 9) k_X7 (by decide) lk_RX7_39 rfl dX7_stacks_37 (tq_85 hG) rfl ?_
      refine V_iload_n dX7_stacks_40 rfl ?_
      obtain ⟨g27, h⟩ := gu_o h
      refine V_iaload dX7_stacks_41 (tq_93 hG) (ib_in g27) ?_
      by_cases c42 : (μ.1 93 (Int32.toNatClampNeg (μ.1 113 (Int32.toNatClampNeg (((6 * v2) + v3) - 1))))) ≤ (μ.1 93 (Int32.toNatClampNeg v1))
      · rw [if_pos c42] at h
        refine V_icmple_t (tgt := 75) dX7_stacks_42 (by decide) c42 ?_
        exact V_wk [true, true, true, true, false] rfl (T_X7_stacks_75 G fu hG _ _ _ _ _ h)
      · rw [if_neg c42] at h
        refine V_icmple_f (tgt := 75) dX7_stacks_42 (by decide) c42 ?_
        refine V_aload_n dX7_stacks_45 rfl ?_
        refine V_getR (kf := 33) k_X7 (by decide) lk_RX7_100 rfl dX7_stacks_46 (tq_85 hG) rfl ?_
        refine V_bipush (v := 6) dX7_stacks_49 rfl ?_
        refine V_iload_n dX7_stacks_51 rfl ?_
        refine V_imul dX7_stacks_52 ?_
        refine V_iload_n dX7_stacks_53 rfl ?_
        refine V_iadd dX7_stacks_54 ?_
        refine V_aload_n dX7_stacks_55 rfl ?_
        refine V_getR (kf := 33) k_X7 (by decide) lk_RX7_100 rfl dX7_stacks_56 (tq_85 hG) rfl ?_
        refine V_bipush (v := 6) dX7_stacks_59 rfl ?_
        refine V_iload_n dX7_stacks_61 rfl ?_
        refine V_imul dX7_stacks_62 ?_
        refine V_iload_n dX7_stacks_63 rfl ?_
        refine V_iadd dX7_stacks_64 ?_
        refine V_iconst (v := 1) dX7_stacks_65 rfl ?_
        refine V_isub dX7_stacks_66 ?_
        obtain ⟨g28, h⟩ := gu_o h
        refine V_iaload dX7_stacks_67 (tq_113 hG) (ib_in g28) ?_
        obtain ⟨g29, h⟩ := gu_o h
        obtain ⟨m30, e31, h⟩ := vl_o h
        refine V_iastore (μ2 := m30) dX7_stacks_68 (tq_113 hG) (ib_in g29) e31.symm ?_
        refine V_iinc (v := v3 + (-1)) (lv2 := [some (.ref 85), some (.int v1), some (.int v2), some (.int (v3 + (-1))), none]) dX7_stacks_69 rfl rfl (by decide) rfl ?_
        refine V_goto (tgt := 14) dX7_stacks_72 (by decide) ?_
        exact V_wk [true, true, true, true, false] rfl (ih _ _ _ _ _ h)
def D_X7_stacks_0 (fu : Nat)  (a1 : Int32) (μ : Mem) : Option Mem :=
  gu (ib a1 40) <|
  gu (ib (μ.1 92 (Int32.toNatClampNeg a1)) 12) <|
  vl (μ.1 114 (Int32.toNatClampNeg (μ.1 92 (Int32.toNatClampNeg a1))) : Int32) fun x3 =>
  D_X7_stacks_14 fu fu a1 (μ.1 92 (Int32.toNatClampNeg a1)) x3 μ
set_option maxRecDepth 20000 in
theorem T_X7_stacks_0 (G : GX) (fu : Nat)  (hG : gt G = tbl) : ∀ (a1 : Int32) (μ : Mem) (r : Mem) , D_X7_stacks_0 fu a1 μ = some r → V G mX7_stacks 0 [some (.ref 85), some (.int a1), none, none, none] [] μ (.inl none) (r) := by
  intro a1 μ r h
  unfold D_X7_stacks_0 at h
  refine V_aload_n dX7_stacks_0 rfl ?_
  refine V_getR (kf := 8) k_X7 (by decide) lk_RX7_36 rfl dX7_stacks_1 (tq_85 hG) rfl ?_
  refine V_iload_n dX7_stacks_4 rfl ?_
  obtain ⟨g1, h⟩ := gu_o h
  refine V_iaload dX7_stacks_5 (tq_92 hG) (ib_in g1) ?_
  refine V_istore_n (lv2 := [some (.ref 85), some (.int a1), some (.int (μ.1 92 (Int32.toNatClampNeg a1))), none, none]) dX7_stacks_6 (by decide) rfl ?_
  refine V_aload_n dX7_stacks_7 rfl ?_
  refine V_getR (kf := 34) k_X7 (by decide) lk_RX7_103 rfl dX7_stacks_8 (tq_85 hG) rfl ?_
  refine V_iload_n dX7_stacks_11 rfl ?_
  obtain ⟨g2, h⟩ := gu_o h
  refine V_iaload dX7_stacks_12 (tq_114 hG) (ib_in g2) ?_
  obtain ⟨x3, e4, h⟩ := vl_o h
  refine V_topi e4 ?_
  refine V_istore_n (lv2 := [some (.ref 85), some (.int a1), some (.int (μ.1 92 (Int32.toNatClampNeg a1))), some (.int x3), none]) dX7_stacks_13 (by decide) rfl ?_
  exact V_wk [true, true, true, true, false] rfl (T_X7_stacks_14 G fu hG fu _ _ _ _ _ h)
theorem VM_X7_stacks (G : GX) (fu : Nat)  (hG : gt G = tbl) (a1 : Int32) (μ : Mem) (r : Mem) (h : D_X7_stacks_0 fu a1 μ = some r) : VM G mX7_stacks [.ref 85, .int a1] μ (.inl none) (r) := V_entry ok_mX7_stacks rfl rfl (Nat.le_of_ble_eq_true rfl) (T_X7_stacks_0 G fu hG a1 μ r h)
def D_X7_isGap_0 (μ : Mem)  (a1 : Int32) : Option Bool :=
  (D_X7_layersOf_0 μ a1).bind fun x1 =>
  if x1 = 0 then
    some true
  else
    some false
set_option maxRecDepth 20000 in
theorem T_X7_isGap_0 (G : GX) (μ : Mem)  (hG : gt G = tbl) : ∀ (a1 : Int32) (r : Bool) , D_X7_isGap_0 μ a1 = some r → V G mX7_isGap 0 [some (.ref 85), some (.int a1)] [] μ (.inl (some (.int (b2i r)))) (μ) := by
  intro a1 r h
  unfold D_X7_isGap_0 at h
  refine V_aload_n dX7_isGap_0 rfl ?_
  refine V_iload_n dX7_isGap_1 rfl ?_
  obtain ⟨x1, y2, h⟩ := bi_o h
  refine V_callV (as := [.int a1]) (q := 85) (rest := []) dX7_isGap_2 ov_mX7_layersOf lk_RX7_169 (by decide) (by decide) rfl rfl (Nat.le_of_ble_eq_true rfl) (tq_85 hG) rfl (VM_X7_layersOf G μ hG a1 _ y2) ?_
  by_cases c5 : x1 = 0
  · rw [if_pos c5] at h
    refine V_ifne_f (tgt := 12) dX7_isGap_5 (by decide) c5 ?_
    refine V_iconst (v := 1) dX7_isGap_8 rfl ?_
    refine V_goto (tgt := 13) dX7_isGap_9 (by decide) ?_
    cases h
    exact V_zret rfl (by decide) dX7_isGap_13
  · rw [if_neg c5] at h
    refine V_ifne_t (tgt := 12) dX7_isGap_5 (by decide) c5 ?_
    refine V_iconst (v := 0) dX7_isGap_12 rfl ?_
    cases h
    exact V_zret rfl (by decide) dX7_isGap_13
theorem VM_X7_isGap (G : GX) (μ : Mem)  (hG : gt G = tbl) (a1 : Int32) (r : Bool) (h : D_X7_isGap_0 μ a1 = some r) : VM G mX7_isGap [.ref 85, .int a1] μ (.inl (some (.int (b2i r)))) (μ) := V_entry ok_mX7_isGap rfl rfl (Nat.le_of_ble_eq_true rfl) (T_X7_isGap_0 G μ hG a1 r h)
def D_X7_holeOf_0 (μ : Mem)  (a1 : Int32) : Option Int32 :=
  gu (ib a1 40) <|
  some (μ.1 115 (Int32.toNatClampNeg a1))
set_option maxRecDepth 20000 in
theorem T_X7_holeOf_0 (G : GX) (μ : Mem)  (hG : gt G = tbl) : ∀ (a1 : Int32) (r : Int32) , D_X7_holeOf_0 μ a1 = some r → V G mX7_holeOf 0 [some (.ref 85), some (.int a1)] [] μ (.inl (some (.int r))) (μ) := by
  intro a1 r h
  unfold D_X7_holeOf_0 at h
  refine V_aload_n dX7_holeOf_0 rfl ?_
  refine V_getR (kf := 35) k_X7 (by decide) lk_RX7_106 rfl dX7_holeOf_1 (tq_85 hG) rfl ?_
  refine V_iload_n dX7_holeOf_4 rfl ?_
  obtain ⟨g1, h⟩ := gu_o h
  refine V_iaload dX7_holeOf_5 (tq_115 hG) (ib_in g1) ?_
  cases h
  exact V_iret rfl dX7_holeOf_6
theorem VM_X7_holeOf (G : GX) (μ : Mem)  (hG : gt G = tbl) (a1 : Int32) (r : Int32) (h : D_X7_holeOf_0 μ a1 = some r) : VM G mX7_holeOf [.ref 85, .int a1] μ (.inl (some (.int r))) (μ) := V_entry ok_mX7_holeOf rfl rfl (Nat.le_of_ble_eq_true rfl) (T_X7_holeOf_0 G μ hG a1 r h)
def D_X7_holeLeft_0 (μ : Mem)  (a1 : Int32) (a2 : Int32) : Option Int64 :=
  (D_X7_holeOf_0 μ a2).bind fun x1 =>
  gu (ib ((40 * a1) + a2) 1000) <|
  vl (((x1 : Int32).toInt64) - (μ.2.1 106 (Int32.toNatClampNeg ((40 * a1) + a2))) : Int64) fun x4 =>
  if x4 ≤ (0 : Int64) then
    some 0
  else
    some x4
set_option maxRecDepth 20000 in
theorem T_X7_holeLeft_0 (G : GX) (μ : Mem)  (hG : gt G = tbl) : ∀ (a1 : Int32) (a2 : Int32) (r : Int64) , D_X7_holeLeft_0 μ a1 a2 = some r → V G mX7_holeLeft 0 [some (.ref 85), some (.int a1), some (.int a2), none, none] [] μ (.inl (some (.long r))) (μ) := by
  intro a1 a2 r h
  unfold D_X7_holeLeft_0 at h
  refine V_aload_n dX7_holeLeft_0 rfl ?_
  refine V_iload_n dX7_holeLeft_1 rfl ?_
  obtain ⟨x1, y2, h⟩ := bi_o h
  refine V_callV (as := [.int a2]) (q := 85) (rest := []) dX7_holeLeft_2 ov_mX7_holeOf lk_RX7_172 (by decide) (by decide) rfl rfl (Nat.le_of_ble_eq_true rfl) (tq_85 hG) rfl (VM_X7_holeOf G μ hG a2 _ y2) ?_
  refine V_i2l dX7_holeLeft_5 ?_
  refine V_aload_n dX7_holeLeft_6 rfl ?_
  refine V_getR (kf := 22) k_X7 (by decide) lk_RX7_79 rfl dX7_holeLeft_7 (tq_85 hG) rfl ?_
  refine V_bipush (v := 40) dX7_holeLeft_10 rfl ?_
  refine V_iload_n dX7_holeLeft_12 rfl ?_
  refine V_imul dX7_holeLeft_13 ?_
  refine V_iload_n dX7_holeLeft_14 rfl ?_
  refine V_iadd dX7_holeLeft_15 ?_
  obtain ⟨g3, h⟩ := gu_o h
  refine V_laload dX7_holeLeft_16 (tq_106 hG) (ib_in g3) ?_
  refine V_lsub dX7_holeLeft_17 ?_
  obtain ⟨x4, e5, h⟩ := vl_o h
  refine V_topl e5 ?_
  refine V_lstore_n (lv2 := [some (.ref 85), some (.int a1), some (.int a2), some (.long x4), none]) dX7_holeLeft_18 (by decide) rfl ?_
  refine V_lload_n dX7_holeLeft_19 rfl ?_
  refine V_lconst (v := 0) dX7_holeLeft_20 rfl ?_
  refine V_lcmp dX7_holeLeft_21 ?_
  by_cases c22 : x4 ≤ (0 : Int64)
  · rw [if_pos c22] at h
    refine V_ifle_t (tgt := 29) dX7_holeLeft_22 (by decide) ((lc_le x4 0).mpr c22) ?_
    refine V_lconst (v := 0) dX7_holeLeft_29 rfl ?_
    cases h
    exact V_lret rfl dX7_holeLeft_30
  · rw [if_neg c22] at h
    refine V_ifle_f (tgt := 29) dX7_holeLeft_22 (by decide) (fun z => c22 ((lc_le x4 0).mp z)) ?_
    refine V_lload_n dX7_holeLeft_25 rfl ?_
    refine V_goto (tgt := 30) dX7_holeLeft_26 (by decide) ?_
    cases h
    exact V_lret rfl dX7_holeLeft_30
theorem VM_X7_holeLeft (G : GX) (μ : Mem)  (hG : gt G = tbl) (a1 : Int32) (a2 : Int32) (r : Int64) (h : D_X7_holeLeft_0 μ a1 a2 = some r) : VM G mX7_holeLeft [.ref 85, .int a1, .int a2] μ (.inl (some (.long r))) (μ) := V_entry ok_mX7_holeLeft rfl rfl (Nat.le_of_ble_eq_true rfl) (T_X7_holeLeft_0 G μ hG a1 a2 r h)
def D_X7_canTake_0 (μ : Mem)  (a1 : Int32) (a2 : Int32) : Option Int64 :=
  gu (ib a2 40) <|
  gu (ib ((40 * a1) + a2) 1000) <|
  (D_X7_left_0 μ a2).bind fun x3 =>
  (D_X7_least_0 μ (((μ.1 94 (Int32.toNatClampNeg a2) : Int32).toInt64) - (μ.2.1 105 (Int32.toNatClampNeg ((40 * a1) + a2)))) x3).bind fun x5 =>
  some x5
set_option maxRecDepth 20000 in
theorem T_X7_canTake_0 (G : GX) (μ : Mem)  (hG : gt G = tbl) : ∀ (a1 : Int32) (a2 : Int32) (r : Int64) , D_X7_canTake_0 μ a1 a2 = some r → V G mX7_canTake 0 [some (.ref 85), some (.int a1), some (.int a2)] [] μ (.inl (some (.long r))) (μ) := by
  intro a1 a2 r h
  unfold D_X7_canTake_0 at h
  refine V_aload_n dX7_canTake_0 rfl ?_
  refine V_getR (kf := 10) k_X7 (by decide) lk_RX7_42 rfl dX7_canTake_1 (tq_85 hG) rfl ?_
  refine V_iload_n dX7_canTake_4 rfl ?_
  obtain ⟨g1, h⟩ := gu_o h
  refine V_iaload dX7_canTake_5 (tq_94 hG) (ib_in g1) ?_
  refine V_i2l dX7_canTake_6 ?_
  refine V_aload_n dX7_canTake_7 rfl ?_
  refine V_getR (kf := 21) k_X7 (by decide) lk_RX7_76 rfl dX7_canTake_8 (tq_85 hG) rfl ?_
  refine V_bipush (v := 40) dX7_canTake_11 rfl ?_
  refine V_iload_n dX7_canTake_13 rfl ?_
  refine V_imul dX7_canTake_14 ?_
  refine V_iload_n dX7_canTake_15 rfl ?_
  refine V_iadd dX7_canTake_16 ?_
  obtain ⟨g2, h⟩ := gu_o h
  refine V_laload dX7_canTake_17 (tq_105 hG) (ib_in g2) ?_
  refine V_lsub dX7_canTake_18 ?_
  refine V_aload_n dX7_canTake_19 rfl ?_
  refine V_iload_n dX7_canTake_20 rfl ?_
  obtain ⟨x3, y4, h⟩ := bi_o h
  refine V_callV (as := [.int a2]) (q := 85) (rest := [.long (((μ.1 94 (Int32.toNatClampNeg a2) : Int32).toInt64) - (μ.2.1 105 (Int32.toNatClampNeg ((40 * a1) + a2))))]) dX7_canTake_21 ov_mX7_left lk_RX7_175 (by decide) (by decide) rfl rfl (Nat.le_of_ble_eq_true rfl) (tq_85 hG) rfl (VM_X7_left G μ hG a2 _ y4) ?_
  obtain ⟨x5, y6, h⟩ := bi_o h
  refine V_callS (as := [.long (((μ.1 94 (Int32.toNatClampNeg a2) : Int32).toInt64) - (μ.2.1 105 (Int32.toNatClampNeg ((40 * a1) + a2)))), .long x3]) (rest := []) dX7_canTake_24 os_mX7_least rfl lk_RX7_179 (by decide) (by decide) rfl rfl (Nat.le_of_ble_eq_true rfl) (VM_X7_least G μ hG (((μ.1 94 (Int32.toNatClampNeg a2) : Int32).toInt64) - (μ.2.1 105 (Int32.toNatClampNeg ((40 * a1) + a2)))) x3 _ y6) ?_
  cases h
  exact V_lret rfl dX7_canTake_27
theorem VM_X7_canTake (G : GX) (μ : Mem)  (hG : gt G = tbl) (a1 : Int32) (a2 : Int32) (r : Int64) (h : D_X7_canTake_0 μ a1 a2 = some r) : VM G mX7_canTake [.ref 85, .int a1, .int a2] μ (.inl (some (.long r))) (μ) := V_entry ok_mX7_canTake rfl rfl (Nat.le_of_ble_eq_true rfl) (T_X7_canTake_0 G μ hG a1 a2 r h)
def D_X7_roomOf_5 (fu : Nat) (μ : Mem)  : Nat → Int32 → Int32 → Int64 → Int32 → Option Int64
  | 0, _, _, _, _ => none
  | n + 1, v1, v2, v3, v5 =>
    (D_X7_layersOf_0 μ v2).bind fun x1 =>
    if x1 ≤ v5 then
      some v3
    else
      (D_X7_rungOf_0 μ v2 v5).bind fun x3 =>
      (D_X7_canTake_0 μ v1 x3).bind fun x5 =>
      (D_X7_rungOf_0 μ v2 v5).bind fun x7 =>
      (D_X7_holeLeft_0 μ v1 x7).bind fun x9 =>
      (D_X7_roomOf_5 fu μ n) v1 v2 (v3 + (x5 + x9)) (v5 + 1)
set_option maxRecDepth 20000 in
theorem T_X7_roomOf_5 (G : GX) (fu : Nat) (μ : Mem)  (hG : gt G = tbl) : ∀ (n : Nat) (v1 : Int32) (v2 : Int32) (v3 : Int64) (v5 : Int32) (r : Int64) , D_X7_roomOf_5 fu μ n v1 v2 v3 v5 = some r → V G mX7_roomOf 5 [some (.ref 85), some (.int v1), some (.int v2), some (.long v3), none, some (.int v5)] [] μ (.inl (some (.long r))) (μ) := by
  intro n
  induction n with
  | zero =>
    intro v1 v2 v3 v5 r h
    exact nomatch (show (none : Option Int64) = some r from h)
  | succ n ih =>
    intro v1 v2 v3 v5 r h
    rw [D_X7_roomOf_5] at h
    refine V_iload dX7_roomOf_5 rfl ?_
    refine V_aload_n dX7_roomOf_7 rfl ?_
    refine V_iload_n dX7_roomOf_8 rfl ?_
    obtain ⟨x1, y2, h⟩ := bi_o h
    refine V_callV (as := [.int v2]) (q := 85) (rest := [.int v5]) dX7_roomOf_9 ov_mX7_layersOf lk_RX7_169 (by decide) (by decide) rfl rfl (Nat.le_of_ble_eq_true rfl) (tq_85 hG) rfl (VM_X7_layersOf G μ hG v2 _ y2) ?_
    by_cases c12 : x1 ≤ v5
    · rw [if_pos c12] at h
      refine V_icmpge_t (tgt := 49) dX7_roomOf_12 (by decide) c12 ?_
      refine V_lload_n dX7_roomOf_49 rfl ?_
      cases h
      exact V_lret rfl dX7_roomOf_50
    · rw [if_neg c12] at h
      refine V_icmpge_f (tgt := 49) dX7_roomOf_12 (by decide) c12 ?_
      refine V_lload_n dX7_roomOf_15 rfl ?_
      refine V_aload_n dX7_roomOf_16 rfl ?_
      refine V_iload_n dX7_roomOf_17 rfl ?_
      refine V_aload_n dX7_roomOf_18 rfl ?_
      refine V_iload_n dX7_roomOf_19 rfl ?_
      refine V_iload dX7_roomOf_20 rfl ?_
      obtain ⟨x3, y4, h⟩ := bi_o h
      refine V_callV (as := [.int v2, .int v5]) (q := 85) (rest := [.int v1, .ref 85, .long v3]) dX7_roomOf_22 ov_mX7_rungOf lk_RX7_161 (by decide) (by decide) rfl rfl (Nat.le_of_ble_eq_true rfl) (tq_85 hG) rfl (VM_X7_rungOf G μ hG v2 v5 _ y4) ?_
      obtain ⟨x5, y6, h⟩ := bi_o h
      refine V_callV (as := [.int v1, .int x3]) (q := 85) (rest := [.long v3]) dX7_roomOf_25 ov_mX7_canTake lk_RX7_183 (by decide) (by decide) rfl rfl (Nat.le_of_ble_eq_true rfl) (tq_85 hG) rfl (VM_X7_canTake G μ hG v1 x3 _ y6) ?_
      refine V_aload_n dX7_roomOf_28 rfl ?_
      refine V_iload_n dX7_roomOf_29 rfl ?_
      refine V_aload_n dX7_roomOf_30 rfl ?_
      refine V_iload_n dX7_roomOf_31 rfl ?_
      refine V_iload dX7_roomOf_32 rfl ?_
      obtain ⟨x7, y8, h⟩ := bi_o h
      refine V_callV (as := [.int v2, .int v5]) (q := 85) (rest := [.int v1, .ref 85, .long x5, .long v3]) dX7_roomOf_34 ov_mX7_rungOf lk_RX7_161 (by decide) (by decide) rfl rfl (Nat.le_of_ble_eq_true rfl) (tq_85 hG) rfl (VM_X7_rungOf G μ hG v2 v5 _ y8) ?_
      obtain ⟨x9, y10, h⟩ := bi_o h
      refine V_callV (as := [.int v1, .int x7]) (q := 85) (rest := [.long x5, .long v3]) dX7_roomOf_37 ov_mX7_holeLeft lk_RX7_187 (by decide) (by decide) rfl rfl (Nat.le_of_ble_eq_true rfl) (tq_85 hG) rfl (VM_X7_holeLeft G μ hG v1 x7 _ y10) ?_
      refine V_ladd dX7_roomOf_40 ?_
      refine V_ladd dX7_roomOf_41 ?_
      refine V_lstore_n (lv2 := [some (.ref 85), some (.int v1), some (.int v2), some (.long (v3 + (x5 + x9))), none, some (.int v5)]) dX7_roomOf_42 (by decide) rfl ?_
      refine V_iinc (v := v5 + 1) (lv2 := [some (.ref 85), some (.int v1), some (.int v2), some (.long (v3 + (x5 + x9))), none, some (.int (v5 + 1))]) dX7_roomOf_43 rfl rfl (by decide) rfl ?_
      refine V_goto (tgt := 5) dX7_roomOf_46 (by decide) ?_
      exact V_wk [true, true, true, true, false, true] rfl (ih _ _ _ _ _ h)
def D_X7_roomOf_0 (fu : Nat) (μ : Mem)  (a1 : Int32) (a2 : Int32) : Option Int64 :=
  D_X7_roomOf_5 fu μ fu a1 a2 0 0
set_option maxRecDepth 20000 in
theorem T_X7_roomOf_0 (G : GX) (fu : Nat) (μ : Mem)  (hG : gt G = tbl) : ∀ (a1 : Int32) (a2 : Int32) (r : Int64) , D_X7_roomOf_0 fu μ a1 a2 = some r → V G mX7_roomOf 0 [some (.ref 85), some (.int a1), some (.int a2), none, none, none] [] μ (.inl (some (.long r))) (μ) := by
  intro a1 a2 r h
  unfold D_X7_roomOf_0 at h
  refine V_lconst (v := 0) dX7_roomOf_0 rfl ?_
  refine V_lstore_n (lv2 := [some (.ref 85), some (.int a1), some (.int a2), some (.long 0), none, none]) dX7_roomOf_1 (by decide) rfl ?_
  refine V_iconst (v := 0) dX7_roomOf_2 rfl ?_
  refine V_istore (lv2 := [some (.ref 85), some (.int a1), some (.int a2), some (.long 0), none, some (.int 0)]) dX7_roomOf_3 (by decide) rfl ?_
  exact V_wk [true, true, true, true, false, true] rfl (T_X7_roomOf_5 G fu μ hG fu _ _ _ _ _ h)
theorem VM_X7_roomOf (G : GX) (fu : Nat) (μ : Mem)  (hG : gt G = tbl) (a1 : Int32) (a2 : Int32) (r : Int64) (h : D_X7_roomOf_0 fu μ a1 a2 = some r) : VM G mX7_roomOf [.ref 85, .int a1, .int a2] μ (.inl (some (.long r))) (μ) := V_entry ok_mX7_roomOf rfl rfl (Nat.le_of_ble_eq_true rfl) (T_X7_roomOf_0 G fu μ hG a1 a2 r h)
def D_X7_sizesOf_5 (fu : Nat) (μ : Mem)  : Nat → Int32 → Int64 → Int32 → Option Int64
  | 0, _, _, _ => none
  | n + 1, v1, v2, v4 =>
    (D_X7_layersOf_0 μ v1).bind fun x1 =>
    if x1 ≤ v4 then
      some v2
    else
      (D_X7_rungOf_0 μ v1 v4).bind fun x3 =>
      gu (ib x3 40) <|
      vl (v2 + ((μ.1 94 (Int32.toNatClampNeg x3) : Int32).toInt64) : Int64) fun x6 =>
      (D_X7_sizesOf_5 fu μ n) v1 x6 (v4 + 1)
set_option maxRecDepth 20000 in
theorem T_X7_sizesOf_5 (G : GX) (fu : Nat) (μ : Mem)  (hG : gt G = tbl) : ∀ (n : Nat) (v1 : Int32) (v2 : Int64) (v4 : Int32) (r : Int64) , D_X7_sizesOf_5 fu μ n v1 v2 v4 = some r → V G mX7_sizesOf 5 [some (.ref 85), some (.int v1), some (.long v2), none, some (.int v4)] [] μ (.inl (some (.long r))) (μ) := by
  intro n
  induction n with
  | zero =>
    intro v1 v2 v4 r h
    exact nomatch (show (none : Option Int64) = some r from h)
  | succ n ih =>
    intro v1 v2 v4 r h
    rw [D_X7_sizesOf_5] at h
    refine V_iload dX7_sizesOf_5 rfl ?_
    refine V_aload_n dX7_sizesOf_7 rfl ?_
    refine V_iload_n dX7_sizesOf_8 rfl ?_
    obtain ⟨x1, y2, h⟩ := bi_o h
    refine V_callV (as := [.int v1]) (q := 85) (rest := [.int v4]) dX7_sizesOf_9 ov_mX7_layersOf lk_RX7_169 (by decide) (by decide) rfl rfl (Nat.le_of_ble_eq_true rfl) (tq_85 hG) rfl (VM_X7_layersOf G μ hG v1 _ y2) ?_
    by_cases c12 : x1 ≤ v4
    · rw [if_pos c12] at h
      refine V_icmpge_t (tgt := 37) dX7_sizesOf_12 (by decide) c12 ?_
      refine V_lload_n dX7_sizesOf_37 rfl ?_
      cases h
      exact V_lret rfl dX7_sizesOf_38
    · rw [if_neg c12] at h
      refine V_icmpge_f (tgt := 37) dX7_sizesOf_12 (by decide) c12 ?_
      refine V_lload_n dX7_sizesOf_15 rfl ?_
      refine V_aload_n dX7_sizesOf_16 rfl ?_
      refine V_getR (kf := 10) k_X7 (by decide) lk_RX7_42 rfl dX7_sizesOf_17 (tq_85 hG) rfl ?_
      refine V_aload_n dX7_sizesOf_20 rfl ?_
      refine V_iload_n dX7_sizesOf_21 rfl ?_
      refine V_iload dX7_sizesOf_22 rfl ?_
      obtain ⟨x3, y4, h⟩ := bi_o h
      refine V_callV (as := [.int v1, .int v4]) (q := 85) (rest := [.ref 94, .long v2]) dX7_sizesOf_24 ov_mX7_rungOf lk_RX7_161 (by decide) (by decide) rfl rfl (Nat.le_of_ble_eq_true rfl) (tq_85 hG) rfl (VM_X7_rungOf G μ hG v1 v4 _ y4) ?_
      obtain ⟨g5, h⟩ := gu_o h
      refine V_iaload dX7_sizesOf_27 (tq_94 hG) (ib_in g5) ?_
      refine V_i2l dX7_sizesOf_28 ?_
      refine V_ladd dX7_sizesOf_29 ?_
      obtain ⟨x6, e7, h⟩ := vl_o h
      refine V_topl e7 ?_
      refine V_lstore_n (lv2 := [some (.ref 85), some (.int v1), some (.long x6), none, some (.int v4)]) dX7_sizesOf_30 (by decide) rfl ?_
      refine V_iinc (v := v4 + 1) (lv2 := [some (.ref 85), some (.int v1), some (.long x6), none, some (.int (v4 + 1))]) dX7_sizesOf_31 rfl rfl (by decide) rfl ?_
      refine V_goto (tgt := 5) dX7_sizesOf_34 (by decide) ?_
      exact V_wk [true, true, true, false, true] rfl (ih _ _ _ _ h)
def D_X7_sizesOf_0 (fu : Nat) (μ : Mem)  (a1 : Int32) : Option Int64 :=
  D_X7_sizesOf_5 fu μ fu a1 0 0
set_option maxRecDepth 20000 in
theorem T_X7_sizesOf_0 (G : GX) (fu : Nat) (μ : Mem)  (hG : gt G = tbl) : ∀ (a1 : Int32) (r : Int64) , D_X7_sizesOf_0 fu μ a1 = some r → V G mX7_sizesOf 0 [some (.ref 85), some (.int a1), none, none, none] [] μ (.inl (some (.long r))) (μ) := by
  intro a1 r h
  unfold D_X7_sizesOf_0 at h
  refine V_lconst (v := 0) dX7_sizesOf_0 rfl ?_
  refine V_lstore_n (lv2 := [some (.ref 85), some (.int a1), some (.long 0), none, none]) dX7_sizesOf_1 (by decide) rfl ?_
  refine V_iconst (v := 0) dX7_sizesOf_2 rfl ?_
  refine V_istore (lv2 := [some (.ref 85), some (.int a1), some (.long 0), none, some (.int 0)]) dX7_sizesOf_3 (by decide) rfl ?_
  exact V_wk [true, true, true, false, true] rfl (T_X7_sizesOf_5 G fu μ hG fu _ _ _ _ h)
theorem VM_X7_sizesOf (G : GX) (fu : Nat) (μ : Mem)  (hG : gt G = tbl) (a1 : Int32) (r : Int64) (h : D_X7_sizesOf_0 fu μ a1 = some r) : VM G mX7_sizesOf [.ref 85, .int a1] μ (.inl (some (.long r))) (μ) := V_entry ok_mX7_sizesOf rfl rfl (Nat.le_of_ble_eq_true rfl) (T_X7_sizesOf_0 G fu μ hG a1 r h)
def D_X7_offsBy_81 (fu : Nat) (μ : Mem)  (k6 : Int32 → Int32 → Int32 → Int32 → Int32 → Option Int32) (v2 : Int32) (v3 : Int32) (v4 : Int32) (v6 : Int32) (s0 : Int32) (s1 : Int32) : Option Int32 :=
  k6 v2 v3 v4 (s0 ||| s1) (v6 + 1)
set_option maxRecDepth 20000 in
theorem T_X7_offsBy_81 (G : GX) (fu : Nat) (μ : Mem)  (hG : gt G = tbl) (k6 : Int32 → Int32 → Int32 → Int32 → Int32 → Option Int32) (hk6 : ∀ (v2 : Int32) (v3 : Int32) (v4 : Int32) (v5 : Int32) (v6 : Int32) (r : Int32), k6 v2 v3 v4 v5 v6 = some r → V G mX7_offsBy 6 [none, none, some (.int v2), some (.int v3), some (.int v4), some (.int v5), some (.int v6), none] [] μ (.inl (some (.int r))) (μ)) : ∀ (v2 : Int32) (v3 : Int32) (v4 : Int32) (v6 : Int32) (s0 : Int32) (s1 : Int32) (r : Int32) , D_X7_offsBy_81 fu μ k6 v2 v3 v4 v6 s0 s1 = some r → V G mX7_offsBy 81 [none, none, some (.int v2), some (.int v3), some (.int v4), none, some (.int v6), none] [.int s1, .int s0] μ (.inl (some (.int r))) (μ) := by
  intro v2 v3 v4 v6 s0 s1 r h
  unfold D_X7_offsBy_81 at h
  refine V_ior dX7_offsBy_81 ?_
  refine V_istore (lv2 := [none, none, some (.int v2), some (.int v3), some (.int v4), some (.int (s0 ||| s1)), some (.int v6), none]) dX7_offsBy_82 (by decide) rfl ?_
  refine V_iinc (v := v6 + 1) (lv2 := [none, none, some (.int v2), some (.int v3), some (.int v4), some (.int (s0 ||| s1)), some (.int (v6 + 1)), none]) dX7_offsBy_84 rfl rfl (by decide) rfl ?_
  refine V_goto (tgt := 6) dX7_offsBy_87 (by decide) ?_
  exact V_wk [false, false, true, true, true, true, true, false] rfl (hk6 _ _ _ _ _ _ h)
def D_X7_offsBy_64 (fu : Nat) (μ : Mem)  (k6 : Int32 → Int32 → Int32 → Int32 → Int32 → Option Int32) (v2 : Int32) (v3 : Int32) (v4 : Int32) (v5 : Int32) (v6 : Int32) (s0 : Int32) : Option Int32 :=
  if s0 = 0 then
    D_X7_offsBy_81 fu μ k6 v2 v3 v4 v6 v5 0
  else
    D_X7_offsBy_81 fu μ k6 v2 v3 v4 v6 v5 (1 <<< (v6 &&& 31))
set_option maxRecDepth 20000 in
theorem T_X7_offsBy_64 (G : GX) (fu : Nat) (μ : Mem)  (hG : gt G = tbl) (k6 : Int32 → Int32 → Int32 → Int32 → Int32 → Option Int32) (hk6 : ∀ (v2 : Int32) (v3 : Int32) (v4 : Int32) (v5 : Int32) (v6 : Int32) (r : Int32), k6 v2 v3 v4 v5 v6 = some r → V G mX7_offsBy 6 [none, none, some (.int v2), some (.int v3), some (.int v4), some (.int v5), some (.int v6), none] [] μ (.inl (some (.int r))) (μ)) : ∀ (v2 : Int32) (v3 : Int32) (v4 : Int32) (v5 : Int32) (v6 : Int32) (s0 : Int32) (r : Int32) , D_X7_offsBy_64 fu μ k6 v2 v3 v4 v5 v6 s0 = some r → V G mX7_offsBy 64 [none, none, some (.int v2), some (.int v3), some (.int v4), some (.int v5), some (.int v6), none] [.int s0] μ (.inl (some (.int r))) (μ) := by
  intro v2 v3 v4 v5 v6 s0 r h
  unfold D_X7_offsBy_64 at h
  refine V_istore (lv2 := [none, none, some (.int v2), some (.int v3), some (.int v4), some (.int v5), some (.int v6), some (.int s0)]) dX7_offsBy_64 (by decide) rfl ?_
  refine V_iload dX7_offsBy_66 rfl ?_
  refine V_iload dX7_offsBy_68 rfl ?_
  by_cases c70 : s0 = 0
  · rw [if_pos c70] at h
    refine V_ifeq_t (tgt := 80) dX7_offsBy_70 (by decide) c70 ?_
    refine V_iconst (v := 0) dX7_offsBy_80 rfl ?_
    exact V_wk [false, false, true, true, true, false, true, false] rfl (T_X7_offsBy_81 G fu μ hG k6 hk6 _ _ _ _ _ _ _ h)
  · rw [if_neg c70] at h
    refine V_ifeq_f (tgt := 80) dX7_offsBy_70 (by decide) c70 ?_
    refine V_iconst (v := 1) dX7_offsBy_73 rfl ?_
    refine V_iload dX7_offsBy_74 rfl ?_
    refine V_ishl dX7_offsBy_76 ?_
    refine V_goto (tgt := 81) dX7_offsBy_77 (by decide) ?_
    exact V_wk [false, false, true, true, true, false, true, false] rfl (T_X7_offsBy_81 G fu μ hG k6 hk6 _ _ _ _ _ _ _ h)
def D_X7_offsBy_59 (fu : Nat) (μ : Mem)  (k6 : Int32 → Int32 → Int32 → Int32 → Int32 → Option Int32) (v2 : Int32) (v3 : Int32) (v4 : Int32) (v5 : Int32) (v6 : Int32) : Option Int32 :=
  D_X7_offsBy_64 fu μ k6 v2 v3 v4 v5 v6 1
set_option maxRecDepth 20000 in
theorem T_X7_offsBy_59 (G : GX) (fu : Nat) (μ : Mem)  (hG : gt G = tbl) (k6 : Int32 → Int32 → Int32 → Int32 → Int32 → Option Int32) (hk6 : ∀ (v2 : Int32) (v3 : Int32) (v4 : Int32) (v5 : Int32) (v6 : Int32) (r : Int32), k6 v2 v3 v4 v5 v6 = some r → V G mX7_offsBy 6 [none, none, some (.int v2), some (.int v3), some (.int v4), some (.int v5), some (.int v6), none] [] μ (.inl (some (.int r))) (μ)) : ∀ (v2 : Int32) (v3 : Int32) (v4 : Int32) (v5 : Int32) (v6 : Int32) (r : Int32) , D_X7_offsBy_59 fu μ k6 v2 v3 v4 v5 v6 = some r → V G mX7_offsBy 59 [none, none, some (.int v2), some (.int v3), some (.int v4), some (.int v5), some (.int v6), none] [] μ (.inl (some (.int r))) (μ) := by
  intro v2 v3 v4 v5 v6 r h
  unfold D_X7_offsBy_59 at h
  refine V_iconst (v := 1) dX7_offsBy_59 rfl ?_
  refine V_goto (tgt := 64) dX7_offsBy_60 (by decide) ?_
  exact V_wk [false, false, true, true, true, true, true, false] rfl (T_X7_offsBy_64 G fu μ hG k6 hk6 _ _ _ _ _ _ _ h)
def D_X7_offsBy_63 (fu : Nat) (μ : Mem)  (k6 : Int32 → Int32 → Int32 → Int32 → Int32 → Option Int32) (v2 : Int32) (v3 : Int32) (v4 : Int32) (v5 : Int32) (v6 : Int32) : Option Int32 :=
  D_X7_offsBy_64 fu μ k6 v2 v3 v4 v5 v6 0
set_option maxRecDepth 20000 in
theorem T_X7_offsBy_63 (G : GX) (fu : Nat) (μ : Mem)  (hG : gt G = tbl) (k6 : Int32 → Int32 → Int32 → Int32 → Int32 → Option Int32) (hk6 : ∀ (v2 : Int32) (v3 : Int32) (v4 : Int32) (v5 : Int32) (v6 : Int32) (r : Int32), k6 v2 v3 v4 v5 v6 = some r → V G mX7_offsBy 6 [none, none, some (.int v2), some (.int v3), some (.int v4), some (.int v5), some (.int v6), none] [] μ (.inl (some (.int r))) (μ)) : ∀ (v2 : Int32) (v3 : Int32) (v4 : Int32) (v5 : Int32) (v6 : Int32) (r : Int32) , D_X7_offsBy_63 fu μ k6 v2 v3 v4 v5 v6 = some r → V G mX7_offsBy 63 [none, none, some (.int v2), some (.int v3), some (.int v4), some (.int v5), some (.int v6), none] [] μ (.inl (some (.int r))) (μ) := by
  intro v2 v3 v4 v5 v6 r h
  unfold D_X7_offsBy_63 at h
  refine V_iconst (v := 0) dX7_offsBy_63 rfl ?_
  exact V_wk [false, false, true, true, true, true, true, false] rfl (T_X7_offsBy_64 G fu μ hG k6 hk6 _ _ _ _ _ _ _ h)
def D_X7_offsBy_41 (fu : Nat) (μ : Mem)  (k6 : Int32 → Int32 → Int32 → Int32 → Int32 → Option Int32) (v2 : Int32) (v3 : Int32) (v4 : Int32) (v5 : Int32) (v6 : Int32) : Option Int32 :=
  if v4 = (3 : Int32) then
    if v6 ≤ v2 then
      D_X7_offsBy_59 fu μ k6 v2 v3 v4 v5 v6
    else
      if v6 = v3 then
        D_X7_offsBy_59 fu μ k6 v2 v3 v4 v5 v6
      else
        D_X7_offsBy_63 fu μ k6 v2 v3 v4 v5 v6
  else
    D_X7_offsBy_63 fu μ k6 v2 v3 v4 v5 v6
set_option maxRecDepth 20000 in
theorem T_X7_offsBy_41 (G : GX) (fu : Nat) (μ : Mem)  (hG : gt G = tbl) (k6 : Int32 → Int32 → Int32 → Int32 → Int32 → Option Int32) (hk6 : ∀ (v2 : Int32) (v3 : Int32) (v4 : Int32) (v5 : Int32) (v6 : Int32) (r : Int32), k6 v2 v3 v4 v5 v6 = some r → V G mX7_offsBy 6 [none, none, some (.int v2), some (.int v3), some (.int v4), some (.int v5), some (.int v6), none] [] μ (.inl (some (.int r))) (μ)) : ∀ (v2 : Int32) (v3 : Int32) (v4 : Int32) (v5 : Int32) (v6 : Int32) (r : Int32) , D_X7_offsBy_41 fu μ k6 v2 v3 v4 v5 v6 = some r → V G mX7_offsBy 41 [none, none, some (.int v2), some (.int v3), some (.int v4), some (.int v5), some (.int v6), none] [] μ (.inl (some (.int r))) (μ) := by
  intro v2 v3 v4 v5 v6 r h
  unfold D_X7_offsBy_41 at h
  refine V_iload dX7_offsBy_41 rfl ?_
  refine V_iconst (v := 3) dX7_offsBy_43 rfl ?_
  by_cases c44 : v4 = (3 : Int32)
  · rw [if_pos c44] at h
    refine V_icmpne_f (tgt := 63) dX7_offsBy_44 (by decide) c44 ?_
    refine V_iload dX7_offsBy_47 rfl ?_
    refine V_iload_n dX7_offsBy_49 rfl ?_
    by_cases c50 : v6 ≤ v2
    · rw [if_pos c50] at h
      refine V_icmple_t (tgt := 59) dX7_offsBy_50 (by decide) c50 ?_
      exact V_wk [false, false, true, true, true, true, true, false] rfl (T_X7_offsBy_59 G fu μ hG k6 hk6 _ _ _ _ _ _ h)
    · rw [if_neg c50] at h
      refine V_icmple_f (tgt := 59) dX7_offsBy_50 (by decide) c50 ?_
      refine V_iload dX7_offsBy_53 rfl ?_
      refine V_iload_n dX7_offsBy_55 rfl ?_
      by_cases c56 : v6 = v3
      · rw [if_pos c56] at h
        refine V_icmpne_f (tgt := 63) dX7_offsBy_56 (by decide) c56 ?_
        exact V_wk [false, false, true, true, true, true, true, false] rfl (T_X7_offsBy_59 G fu μ hG k6 hk6 _ _ _ _ _ _ h)
      · rw [if_neg c56] at h
        refine V_icmpne_t (tgt := 63) dX7_offsBy_56 (by decide) c56 ?_
        exact V_wk [false, false, true, true, true, true, true, false] rfl (T_X7_offsBy_63 G fu μ hG k6 hk6 _ _ _ _ _ _ h)
  · rw [if_neg c44] at h
    refine V_icmpne_t (tgt := 63) dX7_offsBy_44 (by decide) c44 ?_
    exact V_wk [false, false, true, true, true, true, true, false] rfl (T_X7_offsBy_63 G fu μ hG k6 hk6 _ _ _ _ _ _ h)
def D_X7_offsBy_30 (fu : Nat) (μ : Mem)  (k6 : Int32 → Int32 → Int32 → Int32 → Int32 → Option Int32) (v2 : Int32) (v3 : Int32) (v4 : Int32) (v5 : Int32) (v6 : Int32) : Option Int32 :=
  if v4 = 0 then
    if v6 ≤ v2 then
      D_X7_offsBy_59 fu μ k6 v2 v3 v4 v5 v6
    else
      D_X7_offsBy_41 fu μ k6 v2 v3 v4 v5 v6
  else
    D_X7_offsBy_41 fu μ k6 v2 v3 v4 v5 v6
set_option maxRecDepth 20000 in
theorem T_X7_offsBy_30 (G : GX) (fu : Nat) (μ : Mem)  (hG : gt G = tbl) (k6 : Int32 → Int32 → Int32 → Int32 → Int32 → Option Int32) (hk6 : ∀ (v2 : Int32) (v3 : Int32) (v4 : Int32) (v5 : Int32) (v6 : Int32) (r : Int32), k6 v2 v3 v4 v5 v6 = some r → V G mX7_offsBy 6 [none, none, some (.int v2), some (.int v3), some (.int v4), some (.int v5), some (.int v6), none] [] μ (.inl (some (.int r))) (μ)) : ∀ (v2 : Int32) (v3 : Int32) (v4 : Int32) (v5 : Int32) (v6 : Int32) (r : Int32) , D_X7_offsBy_30 fu μ k6 v2 v3 v4 v5 v6 = some r → V G mX7_offsBy 30 [none, none, some (.int v2), some (.int v3), some (.int v4), some (.int v5), some (.int v6), none] [] μ (.inl (some (.int r))) (μ) := by
  intro v2 v3 v4 v5 v6 r h
  unfold D_X7_offsBy_30 at h
  refine V_iload dX7_offsBy_30 rfl ?_
  by_cases c32 : v4 = 0
  · rw [if_pos c32] at h
    refine V_ifne_f (tgt := 41) dX7_offsBy_32 (by decide) c32 ?_
    refine V_iload dX7_offsBy_35 rfl ?_
    refine V_iload_n dX7_offsBy_37 rfl ?_
    by_cases c38 : v6 ≤ v2
    · rw [if_pos c38] at h
      refine V_icmple_t (tgt := 59) dX7_offsBy_38 (by decide) c38 ?_
      exact V_wk [false, false, true, true, true, true, true, false] rfl (T_X7_offsBy_59 G fu μ hG k6 hk6 _ _ _ _ _ _ h)
    · rw [if_neg c38] at h
      refine V_icmple_f (tgt := 59) dX7_offsBy_38 (by decide) c38 ?_
      exact V_wk [false, false, true, true, true, true, true, false] rfl (T_X7_offsBy_41 G fu μ hG k6 hk6 _ _ _ _ _ _ h)
  · rw [if_neg c32] at h
    refine V_ifne_t (tgt := 41) dX7_offsBy_32 (by decide) c32 ?_
    exact V_wk [false, false, true, true, true, true, true, false] rfl (T_X7_offsBy_41 G fu μ hG k6 hk6 _ _ _ _ _ _ h)
def D_X7_offsBy_6 (fu : Nat) (μ : Mem)  : Nat → Int32 → Int32 → Int32 → Int32 → Int32 → Option Int32
  | 0, _, _, _, _, _ => none
  | n + 1, v2, v3, v4, v5, v6 =>
    if v3 < v6 then
      some v5
    else
      if v4 = (2 : Int32) then
        D_X7_offsBy_59 fu μ (D_X7_offsBy_6 fu μ n) v2 v3 v4 v5 v6
      else
        if v4 = (1 : Int32) then
          if v6 = v3 then
            D_X7_offsBy_59 fu μ (D_X7_offsBy_6 fu μ n) v2 v3 v4 v5 v6
          else
            D_X7_offsBy_30 fu μ (D_X7_offsBy_6 fu μ n) v2 v3 v4 v5 v6
        else
          D_X7_offsBy_30 fu μ (D_X7_offsBy_6 fu μ n) v2 v3 v4 v5 v6
set_option maxRecDepth 20000 in
theorem T_X7_offsBy_6 (G : GX) (fu : Nat) (μ : Mem)  (hG : gt G = tbl) : ∀ (n : Nat) (v2 : Int32) (v3 : Int32) (v4 : Int32) (v5 : Int32) (v6 : Int32) (r : Int32) , D_X7_offsBy_6 fu μ n v2 v3 v4 v5 v6 = some r → V G mX7_offsBy 6 [none, none, some (.int v2), some (.int v3), some (.int v4), some (.int v5), some (.int v6), none] [] μ (.inl (some (.int r))) (μ) := by
  intro n
  induction n with
  | zero =>
    intro v2 v3 v4 v5 v6 r h
    exact nomatch (show (none : Option Int32) = some r from h)
  | succ n ih =>
    intro v2 v3 v4 v5 v6 r h
    rw [D_X7_offsBy_6] at h
    refine V_iload dX7_offsBy_6 rfl ?_
    refine V_iload_n dX7_offsBy_8 rfl ?_
    by_cases c9 : v3 < v6
    · rw [if_pos c9] at h
      refine V_icmpgt_t (tgt := 90) dX7_offsBy_9 (by decide) c9 ?_
      refine V_iload dX7_offsBy_90 rfl ?_
      cases h
      exact V_iret rfl dX7_offsBy_92
    · rw [if_neg c9] at h
      refine V_icmpgt_f (tgt := 90) dX7_offsBy_9 (by decide) c9 ?_
      refine V_iload dX7_offsBy_12 rfl ?_
      refine V_iconst (v := 2) dX7_offsBy_14 rfl ?_
      by_cases c15 : v4 = (2 : Int32)
      · rw [if_pos c15] at h
        refine V_icmpeq_t (tgt := 59) dX7_offsBy_15 (by decide) c15 ?_
        exact V_wk [false, false, true, true, true, true, true, false] rfl (T_X7_offsBy_59 G fu μ hG (D_X7_offsBy_6 fu μ n) ih _ _ _ _ _ _ h)
      · rw [if_neg c15] at h
        refine V_icmpeq_f (tgt := 59) dX7_offsBy_15 (by decide) c15 ?_
        refine V_iload dX7_offsBy_18 rfl ?_
        refine V_iconst (v := 1) dX7_offsBy_20 rfl ?_
        by_cases c21 : v4 = (1 : Int32)
        · rw [if_pos c21] at h
          refine V_icmpne_f (tgt := 30) dX7_offsBy_21 (by decide) c21 ?_
          refine V_iload dX7_offsBy_24 rfl ?_
          refine V_iload_n dX7_offsBy_26 rfl ?_
          by_cases c27 : v6 = v3
          · rw [if_pos c27] at h
            refine V_icmpeq_t (tgt := 59) dX7_offsBy_27 (by decide) c27 ?_
            exact V_wk [false, false, true, true, true, true, true, false] rfl (T_X7_offsBy_59 G fu μ hG (D_X7_offsBy_6 fu μ n) ih _ _ _ _ _ _ h)
          · rw [if_neg c27] at h
            refine V_icmpeq_f (tgt := 59) dX7_offsBy_27 (by decide) c27 ?_
            exact V_wk [false, false, true, true, true, true, true, false] rfl (T_X7_offsBy_30 G fu μ hG (D_X7_offsBy_6 fu μ n) ih _ _ _ _ _ _ h)
        · rw [if_neg c21] at h
          refine V_icmpne_t (tgt := 30) dX7_offsBy_21 (by decide) c21 ?_
          exact V_wk [false, false, true, true, true, true, true, false] rfl (T_X7_offsBy_30 G fu μ hG (D_X7_offsBy_6 fu μ n) ih _ _ _ _ _ _ h)
def D_X7_offsBy_0 (fu : Nat) (μ : Mem)  (a1 : Int32) (a2 : Int32) (a3 : Int32) (a4 : Int32) : Option Int32 :=
  D_X7_offsBy_6 fu μ fu a2 a3 a4 0 a1
set_option maxRecDepth 20000 in
theorem T_X7_offsBy_0 (G : GX) (fu : Nat) (μ : Mem)  (hG : gt G = tbl) : ∀ (a1 : Int32) (a2 : Int32) (a3 : Int32) (a4 : Int32) (r : Int32) , D_X7_offsBy_0 fu μ a1 a2 a3 a4 = some r → V G mX7_offsBy 0 [some (.ref 85), some (.int a1), some (.int a2), some (.int a3), some (.int a4), none, none, none] [] μ (.inl (some (.int r))) (μ) := by
  intro a1 a2 a3 a4 r h
  unfold D_X7_offsBy_0 at h
  refine V_iconst (v := 0) dX7_offsBy_0 rfl ?_
  refine V_istore (lv2 := [some (.ref 85), some (.int a1), some (.int a2), some (.int a3), some (.int a4), some (.int 0), none, none]) dX7_offsBy_1 (by decide) rfl ?_
  refine V_iload_n dX7_offsBy_3 rfl ?_
  refine V_istore (lv2 := [some (.ref 85), some (.int a1), some (.int a2), some (.int a3), some (.int a4), some (.int 0), some (.int a1), none]) dX7_offsBy_4 (by decide) rfl ?_
  exact V_wk [false, false, true, true, true, true, true, false] rfl (T_X7_offsBy_6 G fu μ hG fu _ _ _ _ _ _ h)
theorem VM_X7_offsBy (G : GX) (fu : Nat) (μ : Mem)  (hG : gt G = tbl) (a1 : Int32) (a2 : Int32) (a3 : Int32) (a4 : Int32) (r : Int32) (h : D_X7_offsBy_0 fu μ a1 a2 a3 a4 = some r) : VM G mX7_offsBy [.ref 85, .int a1, .int a2, .int a3, .int a4] μ (.inl (some (.int r))) (μ) := V_entry ok_mX7_offsBy rfl rfl (Nat.le_of_ble_eq_true rfl) (T_X7_offsBy_0 G fu μ hG a1 a2 a3 a4 r h)
def D_X7_isOff_0 (fu : Nat) (μ : Mem)  (a1 : Int32) (a2 : Int32) : Option Bool :=
  gu (ib a1 25) <|
  gu (ib a1 25) <|
  gu (ib a1 25) <|
  (D_X7_offsBy_0 fu μ (μ.1 100 (Int32.toNatClampNeg a1)) (μ.1 101 (Int32.toNatClampNeg a1)) (μ.1 102 (Int32.toNatClampNeg a1)) (μ.1 85 30)).bind fun x4 =>
  if ((x4 >>> (a2 &&& 31)) &&& 1) = (1 : Int32) then
    some true
  else
    some false
set_option maxRecDepth 20000 in
theorem T_X7_isOff_0 (G : GX) (fu : Nat) (μ : Mem)  (hG : gt G = tbl) : ∀ (a1 : Int32) (a2 : Int32) (r : Bool) , D_X7_isOff_0 fu μ a1 a2 = some r → V G mX7_isOff 0 [some (.ref 85), some (.int a1), some (.int a2)] [] μ (.inl (some (.int (b2i r)))) (μ) := by
  intro a1 a2 r h
  unfold D_X7_isOff_0 at h
  refine V_aload_n dX7_isOff_0 rfl ?_
  refine V_aload_n dX7_isOff_1 rfl ?_
  refine V_getR (kf := 16) k_X7 (by decide) lk_RX7_61 rfl dX7_isOff_2 (tq_85 hG) rfl ?_
  refine V_iload_n dX7_isOff_5 rfl ?_
  obtain ⟨g1, h⟩ := gu_o h
  refine V_iaload dX7_isOff_6 (tq_100 hG) (ib_in g1) ?_
  refine V_aload_n dX7_isOff_7 rfl ?_
  refine V_getR (kf := 17) k_X7 (by decide) lk_RX7_64 rfl dX7_isOff_8 (tq_85 hG) rfl ?_
  refine V_iload_n dX7_isOff_11 rfl ?_
  obtain ⟨g2, h⟩ := gu_o h
  refine V_iaload dX7_isOff_12 (tq_101 hG) (ib_in g2) ?_
  refine V_aload_n dX7_isOff_13 rfl ?_
  refine V_getR (kf := 18) k_X7 (by decide) lk_RX7_67 rfl dX7_isOff_14 (tq_85 hG) rfl ?_
  refine V_iload_n dX7_isOff_17 rfl ?_
  obtain ⟨g3, h⟩ := gu_o h
  refine V_iaload dX7_isOff_18 (tq_102 hG) (ib_in g3) ?_
  refine V_aload_n dX7_isOff_19 rfl ?_
  refine V_getI (kf := 30) k_X7 (by decide) lk_RX7_152 rfl dX7_isOff_20 (tq_85 hG) rfl ?_
  obtain ⟨x4, y5, h⟩ := bi_o h
  refine V_callV (as := [.int (μ.1 100 (Int32.toNatClampNeg a1)), .int (μ.1 101 (Int32.toNatClampNeg a1)), .int (μ.1 102 (Int32.toNatClampNeg a1)), .int (μ.1 85 30)]) (q := 85) (rest := []) dX7_isOff_23 ov_mX7_offsBy lk_RX7_190 (by decide) (by decide) rfl rfl (Nat.le_of_ble_eq_true rfl) (tq_85 hG) rfl (VM_X7_offsBy G fu μ hG (μ.1 100 (Int32.toNatClampNeg a1)) (μ.1 101 (Int32.toNatClampNeg a1)) (μ.1 102 (Int32.toNatClampNeg a1)) (μ.1 85 30) _ y5) ?_
  refine V_iload_n dX7_isOff_26 rfl ?_
  refine V_ishr dX7_isOff_27 ?_
  refine V_iconst (v := 1) dX7_isOff_28 rfl ?_
  refine V_iand dX7_isOff_29 ?_
  refine V_iconst (v := 1) dX7_isOff_30 rfl ?_
  by_cases c31 : ((x4 >>> (a2 &&& 31)) &&& 1) = (1 : Int32)
  · rw [if_pos c31] at h
    refine V_icmpne_f (tgt := 38) dX7_isOff_31 (by decide) c31 ?_
    refine V_iconst (v := 1) dX7_isOff_34 rfl ?_
    refine V_goto (tgt := 39) dX7_isOff_35 (by decide) ?_
    cases h
    exact V_zret rfl (by decide) dX7_isOff_39
  · rw [if_neg c31] at h
    refine V_icmpne_t (tgt := 38) dX7_isOff_31 (by decide) c31 ?_
    refine V_iconst (v := 0) dX7_isOff_38 rfl ?_
    cases h
    exact V_zret rfl (by decide) dX7_isOff_39
theorem VM_X7_isOff (G : GX) (fu : Nat) (μ : Mem)  (hG : gt G = tbl) (a1 : Int32) (a2 : Int32) (r : Bool) (h : D_X7_isOff_0 fu μ a1 a2 = some r) : VM G mX7_isOff [.ref 85, .int a1, .int a2] μ (.inl (some (.int (b2i r)))) (μ) := V_entry ok_mX7_isOff rfl rfl (Nat.le_of_ble_eq_true rfl) (T_X7_isOff_0 G fu μ hG a1 a2 r h)
def D_X7_isLacking_0 (μ : Mem)  (a1 : Int32) : Option Bool :=
  if (((μ.1 85 29) >>> (a1 &&& 31)) &&& 1) = (1 : Int32) then
    some true
  else
    some false
set_option maxRecDepth 20000 in
theorem T_X7_isLacking_0 (G : GX) (μ : Mem)  (hG : gt G = tbl) : ∀ (a1 : Int32) (r : Bool) , D_X7_isLacking_0 μ a1 = some r → V G mX7_isLacking 0 [some (.ref 85), some (.int a1)] [] μ (.inl (some (.int (b2i r)))) (μ) := by
  intro a1 r h
  unfold D_X7_isLacking_0 at h
  refine V_aload_n dX7_isLacking_0 rfl ?_
  refine V_getI (kf := 29) k_X7 (by decide) lk_RX7_149 rfl dX7_isLacking_1 (tq_85 hG) rfl ?_
  refine V_iload_n dX7_isLacking_4 rfl ?_
  refine V_ishr dX7_isLacking_5 ?_
  refine V_iconst (v := 1) dX7_isLacking_6 rfl ?_
  refine V_iand dX7_isLacking_7 ?_
  refine V_iconst (v := 1) dX7_isLacking_8 rfl ?_
  by_cases c9 : (((μ.1 85 29) >>> (a1 &&& 31)) &&& 1) = (1 : Int32)
  · rw [if_pos c9] at h
    refine V_icmpne_f (tgt := 16) dX7_isLacking_9 (by decide) c9 ?_
    refine V_iconst (v := 1) dX7_isLacking_12 rfl ?_
    refine V_goto (tgt := 17) dX7_isLacking_13 (by decide) ?_
    cases h
    exact V_zret rfl (by decide) dX7_isLacking_17
  · rw [if_neg c9] at h
    refine V_icmpne_t (tgt := 16) dX7_isLacking_9 (by decide) c9 ?_
    refine V_iconst (v := 0) dX7_isLacking_16 rfl ?_
    cases h
    exact V_zret rfl (by decide) dX7_isLacking_17
theorem VM_X7_isLacking (G : GX) (μ : Mem)  (hG : gt G = tbl) (a1 : Int32) (r : Bool) (h : D_X7_isLacking_0 μ a1 = some r) : VM G mX7_isLacking [.ref 85, .int a1] μ (.inl (some (.int (b2i r)))) (μ) := V_entry ok_mX7_isLacking rfl rfl (Nat.le_of_ble_eq_true rfl) (T_X7_isLacking_0 G μ hG a1 r h)
def D_X7_weightSum_5 (fu : Nat) (μ : Mem)  : Nat → Int32 → Int64 → Int32 → Option Int64
  | 0, _, _, _ => none
  | n + 1, v1, v2, v4 =>
    if v1 ≤ v4 then
      some v2
    else
      gu (ib v4 40) <|
      (D_X7_weightSum_5 fu μ n) v1 (v2 + (μ.2.1 116 (Int32.toNatClampNeg v4))) (v4 + 1)
set_option maxRecDepth 20000 in
theorem T_X7_weightSum_5 (G : GX) (fu : Nat) (μ : Mem)  (hG : gt G = tbl) : ∀ (n : Nat) (v1 : Int32) (v2 : Int64) (v4 : Int32) (r : Int64) , D_X7_weightSum_5 fu μ n v1 v2 v4 = some r → V G mX7_weightSum 5 [some (.ref 85), some (.int v1), some (.long v2), none, some (.int v4)] [] μ (.inl (some (.long r))) (μ) := by
  intro n
  induction n with
  | zero =>
    intro v1 v2 v4 r h
    exact nomatch (show (none : Option Int64) = some r from h)
  | succ n ih =>
    intro v1 v2 v4 r h
    rw [D_X7_weightSum_5] at h
    refine V_iload dX7_weightSum_5 rfl ?_
    refine V_iload_n dX7_weightSum_7 rfl ?_
    by_cases c8 : v1 ≤ v4
    · rw [if_pos c8] at h
      refine V_icmpge_t (tgt := 27) dX7_weightSum_8 (by decide) c8 ?_
      refine V_lload_n dX7_weightSum_27 rfl ?_
      cases h
      exact V_lret rfl dX7_weightSum_28
    · rw [if_neg c8] at h
      refine V_icmpge_f (tgt := 27) dX7_weightSum_8 (by decide) c8 ?_
      refine V_lload_n dX7_weightSum_11 rfl ?_
      refine V_aload_n dX7_weightSum_12 rfl ?_
      refine V_getR (kf := 36) k_X7 (by decide) lk_RX7_109 rfl dX7_weightSum_13 (tq_85 hG) rfl ?_
      refine V_iload dX7_weightSum_16 rfl ?_
      obtain ⟨g1, h⟩ := gu_o h
      refine V_laload dX7_weightSum_18 (tq_116 hG) (ib_in g1) ?_
      refine V_ladd dX7_weightSum_19 ?_
      refine V_lstore_n (lv2 := [some (.ref 85), some (.int v1), some (.long (v2 + (μ.2.1 116 (Int32.toNatClampNeg v4)))), none, some (.int v4)]) dX7_weightSum_20 (by decide) rfl ?_
      refine V_iinc (v := v4 + 1) (lv2 := [some (.ref 85), some (.int v1), some (.long (v2 + (μ.2.1 116 (Int32.toNatClampNeg v4)))), none, some (.int (v4 + 1))]) dX7_weightSum_21 rfl rfl (by decide) rfl ?_
      refine V_goto (tgt := 5) dX7_weightSum_24 (by decide) ?_
      exact V_wk [true, true, true, false, true] rfl (ih _ _ _ _ h)
def D_X7_weightSum_0 (fu : Nat) (μ : Mem)  (a1 : Int32) : Option Int64 :=
  D_X7_weightSum_5 fu μ fu a1 0 0
set_option maxRecDepth 20000 in
theorem T_X7_weightSum_0 (G : GX) (fu : Nat) (μ : Mem)  (hG : gt G = tbl) : ∀ (a1 : Int32) (r : Int64) , D_X7_weightSum_0 fu μ a1 = some r → V G mX7_weightSum 0 [some (.ref 85), some (.int a1), none, none, none] [] μ (.inl (some (.long r))) (μ) := by
  intro a1 r h
  unfold D_X7_weightSum_0 at h
  refine V_lconst (v := 0) dX7_weightSum_0 rfl ?_
  refine V_lstore_n (lv2 := [some (.ref 85), some (.int a1), some (.long 0), none, none]) dX7_weightSum_1 (by decide) rfl ?_
  refine V_iconst (v := 0) dX7_weightSum_2 rfl ?_
  refine V_istore (lv2 := [some (.ref 85), some (.int a1), some (.long 0), none, some (.int 0)]) dX7_weightSum_3 (by decide) rfl ?_
  exact V_wk [true, true, true, false, true] rfl (T_X7_weightSum_5 G fu μ hG fu _ _ _ _ h)
theorem VM_X7_weightSum (G : GX) (fu : Nat) (μ : Mem)  (hG : gt G = tbl) (a1 : Int32) (r : Int64) (h : D_X7_weightSum_0 fu μ a1 = some r) : VM G mX7_weightSum [.ref 85, .int a1] μ (.inl (some (.long r))) (μ) := V_entry ok_mX7_weightSum rfl rfl (Nat.le_of_ble_eq_true rfl) (T_X7_weightSum_0 G fu μ hG a1 r h)
def D_X7_shares_120 (fu : Nat)  (k75 : Int32 → Int64 → Int32 → Mem → Option Mem) (v3 : Int32) (v6 : Int64) (v8 : Int32) (μ : Mem) : Option Mem :=
  k75 v3 v6 (v8 + 1) μ
set_option maxRecDepth 20000 in
theorem T_X7_shares_120 (G : GX) (fu : Nat)  (hG : gt G = tbl) (k75 : Int32 → Int64 → Int32 → Mem → Option Mem) (hk75 : ∀ (v3 : Int32) (v6 : Int64) (v8 : Int32) (μ : Mem) (r : Mem), k75 v3 v6 v8 μ = some r → V G mX7_shares 75 [some (.ref 85), none, none, some (.int v3), none, none, some (.long v6), none, some (.int v8)] [] μ (.inl none) (r)) : ∀ (v3 : Int32) (v6 : Int64) (v8 : Int32) (μ : Mem) (r : Mem) , D_X7_shares_120 fu k75 v3 v6 v8 μ = some r → V G mX7_shares 120 [some (.ref 85), none, none, some (.int v3), none, none, some (.long v6), none, some (.int v8)] [] μ (.inl none) (r) := by
  intro v3 v6 v8 μ r h
  unfold D_X7_shares_120 at h
  refine V_iinc (v := v8 + 1) (lv2 := [some (.ref 85), none, none, some (.int v3), none, none, some (.long v6), none, some (.int (v8 + 1))]) dX7_shares_120 rfl rfl (by decide) rfl ?_
  refine V_goto (tgt := 75) dX7_shares_123 (by decide) ?_
  exact V_wk [true, false, false, true, false, false, true, false, true] rfl (hk75 _ _ _ _ _ h)
def D_X7_shares_75 (fu : Nat)  : Nat → Int32 → Int64 → Int32 → Mem → Option Mem
  | 0, _, _, _, _ => none
  | n + 1, v3, v6, v8, μ =>
    if v3 ≤ v8 then
      some μ
    else
      if v6 = (0 : Int64) then
        D_X7_shares_120 fu (D_X7_shares_75 fu n) v3 v6 v8 μ
      else
        gu (ib v8 40) <|
        if (μ.2.1 116 (Int32.toNatClampNeg v8)) = (0 : Int64) then
          D_X7_shares_120 fu (D_X7_shares_75 fu n) v3 v6 v8 μ
        else
          gu (ib v8 40) <|
          gu (ib v8 40) <|
          vl (wL μ 117 (Int32.toNatClampNeg v8) ((μ.2.1 117 (Int32.toNatClampNeg v8)) + 1)) fun m6 =>
          D_X7_shares_120 fu (D_X7_shares_75 fu n) v3 (v6 - 1) v8 m6
set_option maxRecDepth 20000 in
theorem T_X7_shares_75 (G : GX) (fu : Nat)  (hG : gt G = tbl) : ∀ (n : Nat) (v3 : Int32) (v6 : Int64) (v8 : Int32) (μ : Mem) (r : Mem) , D_X7_shares_75 fu n v3 v6 v8 μ = some r → V G mX7_shares 75 [some (.ref 85), none, none, some (.int v3), none, none, some (.long v6), none, some (.int v8)] [] μ (.inl none) (r) := by
  intro n
  induction n with
  | zero =>
    intro v3 v6 v8 μ r h
    exact nomatch (show (none : Option Mem) = some r from h)
  | succ n ih =>
    intro v3 v6 v8 μ r h
    rw [D_X7_shares_75] at h
    refine V_iload dX7_shares_75 rfl ?_
    refine V_iload_n dX7_shares_77 rfl ?_
    by_cases c78 : v3 ≤ v8
    · rw [if_pos c78] at h
      refine V_icmpge_t (tgt := 126) dX7_shares_78 (by decide) c78 ?_
      cases h
      exact V_vret rfl dX7_shares_126
    · rw [if_neg c78] at h
      refine V_icmpge_f (tgt := 126) dX7_shares_78 (by decide) c78 ?_
      refine V_lload dX7_shares_81 rfl ?_
      refine V_lconst (v := 0) dX7_shares_83 rfl ?_
      refine V_lcmp dX7_shares_84 ?_
      by_cases c85 : v6 = (0 : Int64)
      · rw [if_pos c85] at h
        refine V_ifeq_t (tgt := 120) dX7_shares_85 (by decide) ((lc_eq v6 0).mpr c85) ?_
        exact V_wk [true, false, false, true, false, false, true, false, true] rfl (T_X7_shares_120 G fu hG (D_X7_shares_75 fu n) ih _ _ _ _ _ h)
      · rw [if_neg c85] at h
        refine V_ifeq_f (tgt := 120) dX7_shares_85 (by decide) (fun z => c85 ((lc_eq v6 0).mp z)) ?_
        refine V_aload_n dX7_shares_88 rfl ?_
        refine V_getR (kf := 36) k_X7 (by decide) lk_RX7_109 rfl dX7_shares_89 (tq_85 hG) rfl ?_
        refine V_iload dX7_shares_92 rfl ?_
        obtain ⟨g3, h⟩ := gu_o h
        refine V_laload dX7_shares_94 (tq_116 hG) (ib_in g3) ?_
        refine V_lconst (v := 0) dX7_shares_95 rfl ?_
        refine V_lcmp dX7_shares_96 ?_
        by_cases c97 : (μ.2.1 116 (Int32.toNatClampNeg v8)) = (0 : Int64)
        · rw [if_pos c97] at h
          refine V_ifne_f (tgt := 103) dX7_shares_97 (by decide) ((lc_eq (μ.2.1 116 (Int32.toNatClampNeg v8)) 0).mpr c97) ?_
          refine V_goto (tgt := 120) dX7_shares_100 (by decide) ?_
          exact V_wk [true, false, false, true, false, false, true, false, true] rfl (T_X7_shares_120 G fu hG (D_X7_shares_75 fu n) ih _ _ _ _ _ h)
        · rw [if_neg c97] at h
          refine V_ifne_t (tgt := 103) dX7_shares_97 (by decide) (fun z => c97 ((lc_eq (μ.2.1 116 (Int32.toNatClampNeg v8)) 0).mp z)) ?_
          refine V_aload_n dX7_shares_103 rfl ?_
          refine V_getR (kf := 37) k_X7 (by decide) lk_RX7_112 rfl dX7_shares_104 (tq_85 hG) rfl ?_
          refine V_iload dX7_shares_107 rfl ?_
          refine V_dup2 dX7_shares_109 rfl rfl ?_
          obtain ⟨g4, h⟩ := gu_o h
          refine V_laload dX7_shares_110 (tq_117 hG) (ib_in g4) ?_
          refine V_lconst (v := 1) dX7_shares_111 rfl ?_
          refine V_ladd dX7_shares_112 ?_
          obtain ⟨g5, h⟩ := gu_o h
          obtain ⟨m6, e7, h⟩ := vl_o h
          refine V_lastore (μ2 := m6) dX7_shares_113 (tq_117 hG) (ib_in g5) e7.symm ?_
          refine V_lload dX7_shares_114 rfl ?_
          refine V_lconst (v := 1) dX7_shares_116 rfl ?_
          refine V_lsub dX7_shares_117 ?_
          refine V_lstore (lv2 := [some (.ref 85), none, none, some (.int v3), none, none, some (.long (v6 - 1)), none, some (.int v8)]) dX7_shares_118 (by decide) rfl ?_
          exact V_wk [true, false, false, true, false, false, true, false, true] rfl (T_X7_shares_120 G fu hG (D_X7_shares_75 fu n) ih _ _ _ _ _ h)
def D_X7_shares_13 (fu : Nat)  : Nat → Int64 → Int32 → Int64 → Int64 → Int32 → Mem → Option Mem
  | 0, _, _, _, _, _, _ => none
  | n + 1, v1, v3, v4, v6, v8, μ =>
    if v3 ≤ v8 then
      D_X7_shares_75 fu fu v3 v6 0 μ
    else
      gu (decide (¬ v4 = 0)) <|
      gu (ib v8 40) <|
      gu (decide (¬ v4 = 0)) <|
      gu (ib v8 40) <|
      gu (decide (¬ v4 = 0)) <|
      gu (ib v8 40) <|
      vl (wL μ 117 (Int32.toNatClampNeg v8) (((v1 / v4) * (μ.2.1 116 (Int32.toNatClampNeg v8))) + (((v1 - v1 / v4 * v4) * (μ.2.1 116 (Int32.toNatClampNeg v8))) / v4))) fun m14 =>
      gu (ib v8 40) <|
      (D_X7_shares_13 fu n) v1 v3 v4 (v6 - (m14.2.1 117 (Int32.toNatClampNeg v8))) (v8 + 1) m14
set_option maxRecDepth 20000 in
theorem T_X7_shares_13 (G : GX) (fu : Nat)  (hG : gt G = tbl) : ∀ (n : Nat) (v1 : Int64) (v3 : Int32) (v4 : Int64) (v6 : Int64) (v8 : Int32) (μ : Mem) (r : Mem) , D_X7_shares_13 fu n v1 v3 v4 v6 v8 μ = some r → V G mX7_shares 13 [some (.ref 85), some (.long v1), none, some (.int v3), some (.long v4), none, some (.long v6), none, some (.int v8)] [] μ (.inl none) (r) := by
  intro n
  induction n with
  | zero =>
    intro v1 v3 v4 v6 v8 μ r h
    exact nomatch (show (none : Option Mem) = some r from h)
  | succ n ih =>
    intro v1 v3 v4 v6 v8 μ r h
    rw [D_X7_shares_13] at h
    refine V_iload dX7_shares_13 rfl ?_
    refine V_iload_n dX7_shares_15 rfl ?_
    by_cases c16 : v3 ≤ v8
    · rw [if_pos c16] at h
      refine V_icmpge_t (tgt := 72) dX7_shares_16 (by decide) c16 ?_
      refine V_iconst (v := 0) dX7_shares_72 rfl ?_
      refine V_istore (lv2 := [some (.ref 85), some (.long v1), none, some (.int v3), some (.long v4), none, some (.long v6), none, some (.int 0)]) dX7_shares_73 (by decide) rfl ?_
      exact V_wk [true, false, false, true, false, false, true, false, true] rfl (T_X7_shares_75 G fu hG fu _ _ _ _ _ h)
    · rw [if_neg c16] at h
      refine V_icmpge_f (tgt := 72) dX7_shares_16 (by decide) c16 ?_
      refine V_aload_n dX7_shares_19 rfl ?_
      refine V_getR (kf := 37) k_X7 (by decide) lk_RX7_112 rfl dX7_shares_20 (tq_85 hG) rfl ?_
      refine V_iload dX7_shares_23 rfl ?_
      refine V_lload_n dX7_shares_25 rfl ?_
      refine V_lload dX7_shares_26 rfl ?_
      obtain ⟨g8, h⟩ := gu_o h
      refine V_ldiv dX7_shares_28 (of_decide_eq_true g8) ?_
      refine V_aload_n dX7_shares_29 rfl ?_
      refine V_getR (kf := 36) k_X7 (by decide) lk_RX7_109 rfl dX7_shares_30 (tq_85 hG) rfl ?_
      refine V_iload dX7_shares_33 rfl ?_
      obtain ⟨g9, h⟩ := gu_o h
      refine V_laload dX7_shares_35 (tq_116 hG) (ib_in g9) ?_
      refine V_lmul dX7_shares_36 ?_
      refine V_lload_n dX7_shares_37 rfl ?_
      refine V_lload dX7_shares_38 rfl ?_
      obtain ⟨g10, h⟩ := gu_o h
      refine V_lrem dX7_shares_40 (of_decide_eq_true g10) ?_
      refine V_aload_n dX7_shares_41 rfl ?_
      refine V_getR (kf := 36) k_X7 (by decide) lk_RX7_109 rfl dX7_shares_42 (tq_85 hG) rfl ?_
      refine V_iload dX7_shares_45 rfl ?_
      obtain ⟨g11, h⟩ := gu_o h
      refine V_laload dX7_shares_47 (tq_116 hG) (ib_in g11) ?_
      refine V_lmul dX7_shares_48 ?_
      refine V_lload dX7_shares_49 rfl ?_
      obtain ⟨g12, h⟩ := gu_o h
      refine V_ldiv dX7_shares_51 (of_decide_eq_true g12) ?_
      refine V_ladd dX7_shares_52 ?_
      obtain ⟨g13, h⟩ := gu_o h
      obtain ⟨m14, e15, h⟩ := vl_o h
      refine V_lastore (μ2 := m14) dX7_shares_53 (tq_117 hG) (ib_in g13) e15.symm ?_
      refine V_lload dX7_shares_54 rfl ?_
      refine V_aload_n dX7_shares_56 rfl ?_
      refine V_getR (kf := 37) k_X7 (by decide) lk_RX7_112 rfl dX7_shares_57 (tq_85 hG) rfl ?_
      refine V_iload dX7_shares_60 rfl ?_
      obtain ⟨g16, h⟩ := gu_o h
      refine V_laload dX7_shares_62 (tq_117 hG) (ib_in g16) ?_
      refine V_lsub dX7_shares_63 ?_
      refine V_lstore (lv2 := [some (.ref 85), some (.long v1), none, some (.int v3), some (.long v4), none, some (.long (v6 - (m14.2.1 117 (Int32.toNatClampNeg v8)))), none, some (.int v8)]) dX7_shares_64 (by decide) rfl ?_
      refine V_iinc (v := v8 + 1) (lv2 := [some (.ref 85), some (.long v1), none, some (.int v3), some (.long v4), none, some (.long (v6 - (m14.2.1 117 (Int32.toNatClampNeg v8)))), none, some (.int (v8 + 1))]) dX7_shares_66 rfl rfl (by decide) rfl ?_
      refine V_goto (tgt := 13) dX7_shares_69 (by decide) ?_
      exact V_wk [true, true, false, true, true, false, true, false, true] rfl (ih _ _ _ _ _ _ _ h)
def D_X7_shares_0 (fu : Nat)  (a1 : Int64) (a3 : Int32) (μ : Mem) : Option Mem :=
  (D_X7_weightSum_0 fu μ a3).bind fun x1 =>
  D_X7_shares_13 fu fu a1 a3 x1 a1 0 μ
set_option maxRecDepth 20000 in
theorem T_X7_shares_0 (G : GX) (fu : Nat)  (hG : gt G = tbl) : ∀ (a1 : Int64) (a3 : Int32) (μ : Mem) (r : Mem) , D_X7_shares_0 fu a1 a3 μ = some r → V G mX7_shares 0 [some (.ref 85), some (.long a1), none, some (.int a3), none, none, none, none, none] [] μ (.inl none) (r) := by
  intro a1 a3 μ r h
  unfold D_X7_shares_0 at h
  refine V_aload_n dX7_shares_0 rfl ?_
  refine V_iload_n dX7_shares_1 rfl ?_
  obtain ⟨x1, y2, h⟩ := bi_o h
  refine V_callV (as := [.int a3]) (q := 85) (rest := []) dX7_shares_2 ov_mX7_weightSum lk_RX7_194 (by decide) (by decide) rfl rfl (Nat.le_of_ble_eq_true rfl) (tq_85 hG) rfl (VM_X7_weightSum G fu μ hG a3 _ y2) ?_
  refine V_lstore (lv2 := [some (.ref 85), some (.long a1), none, some (.int a3), some (.long x1), none, none, none, none]) dX7_shares_5 (by decide) rfl ?_
  refine V_lload_n dX7_shares_7 rfl ?_
  refine V_lstore (lv2 := [some (.ref 85), some (.long a1), none, some (.int a3), some (.long x1), none, some (.long a1), none, none]) dX7_shares_8 (by decide) rfl ?_
  refine V_iconst (v := 0) dX7_shares_10 rfl ?_
  refine V_istore (lv2 := [some (.ref 85), some (.long a1), none, some (.int a3), some (.long x1), none, some (.long a1), none, some (.int 0)]) dX7_shares_11 (by decide) rfl ?_
  exact V_wk [true, true, false, true, true, false, true, false, true] rfl (T_X7_shares_13 G fu hG fu _ _ _ _ _ _ _ h)
theorem VM_X7_shares (G : GX) (fu : Nat)  (hG : gt G = tbl) (a1 : Int64) (a3 : Int32) (μ : Mem) (r : Mem) (h : D_X7_shares_0 fu a1 a3 μ = some r) : VM G mX7_shares [.ref 85, .long a1, .int a3] μ (.inl none) (r) := V_entry ok_mX7_shares rfl rfl (Nat.le_of_ble_eq_true rfl) (T_X7_shares_0 G fu hG a1 a3 μ r h)
def D_X7_fills_6 (fu : Nat)  : Nat → Int32 → Int32 → Int64 → Int32 → Mem → Option (Int64 × Mem)
  | 0, _, _, _, _, _ => none
  | n + 1, v1, v2, v5, v7, μ =>
    (D_X7_layersOf_0 μ v2).bind fun x1 =>
    if x1 ≤ v7 then
      some (v5, μ)
    else
      (D_X7_rungOf_0 μ v2 v7).bind fun x3 =>
      (D_X7_holeLeft_0 μ v1 x3).bind fun x5 =>
      (D_X7_least_0 μ v5 x5).bind fun x7 =>
      gu (ib ((40 * v1) + x3) 1000) <|
      gu (ib ((40 * v1) + x3) 1000) <|
      vl (wL μ 106 (Int32.toNatClampNeg ((40 * v1) + x3)) ((μ.2.1 106 (Int32.toNatClampNeg ((40 * v1) + x3))) + x7)) fun m11 =>
      gu (ib ((7 * v1) + 1) 175) <|
      gu (ib ((7 * v1) + 1) 175) <|
      vl (wL m11 110 (Int32.toNatClampNeg ((7 * v1) + 1)) ((m11.2.1 110 (Int32.toNatClampNeg ((7 * v1) + 1))) + x7)) fun m15 =>
      (D_X7_canTake_0 m15 v1 x3).bind fun x17 =>
      (D_X7_least_0 m15 (v5 - x7) x17).bind fun x19 =>
      gu (ib ((40 * v1) + x3) 1000) <|
      gu (ib ((40 * v1) + x3) 1000) <|
      vl (wL m15 105 (Int32.toNatClampNeg ((40 * v1) + x3)) ((m15.2.1 105 (Int32.toNatClampNeg ((40 * v1) + x3))) + x19)) fun m23 =>
      gu (ib x3 40) <|
      gu (ib x3 40) <|
      vl (wL m23 99 (Int32.toNatClampNeg x3) ((m23.2.1 99 (Int32.toNatClampNeg x3)) + x19)) fun m27 =>
      gu (ib x3 40) <|
      gu (ib x3 40) <|
      vl (wL m27 118 (Int32.toNatClampNeg x3) ((m27.2.1 118 (Int32.toNatClampNeg x3)) + x19)) fun m31 =>
      (D_X7_fills_6 fu n) v1 v2 ((v5 - x7) - x19) (v7 + 1) m31
set_option maxRecDepth 20000 in
theorem T_X7_fills_6 (G : GX) (fu : Nat)  (hG : gt G = tbl) : ∀ (n : Nat) (v1 : Int32) (v2 : Int32) (v5 : Int64) (v7 : Int32) (μ : Mem) (r : (Int64 × Mem)) , D_X7_fills_6 fu n v1 v2 v5 v7 μ = some r → V G mX7_fills 6 [some (.ref 85), some (.int v1), some (.int v2), none, none, some (.long v5), none, some (.int v7), none, none, none, none, none] [] μ (.inl (some (.long r.1))) (r.2) := by
  intro n
  induction n with
  | zero =>
    intro v1 v2 v5 v7 μ r h
    exact nomatch (show (none : Option (Int64 × Mem)) = some r from h)
  | succ n ih =>
    intro v1 v2 v5 v7 μ r h
    rw [D_X7_fills_6] at h
    refine V_iload dX7_fills_6 rfl ?_
    refine V_aload_n dX7_fills_8 rfl ?_
    refine V_iload_n dX7_fills_9 rfl ?_
    obtain ⟨x1, y2, h⟩ := bi_o h
    refine V_callV (as := [.int v2]) (q := 85) (rest := [.int v7]) dX7_fills_10 ov_mX7_layersOf lk_RX7_169 (by decide) (by decide) rfl rfl (Nat.le_of_ble_eq_true rfl) (tq_85 hG) rfl (VM_X7_layersOf G μ hG v2 _ y2) ?_
    by_cases c13 : x1 ≤ v7
    · rw [if_pos c13] at h
      refine V_icmpge_t (tgt := 147) dX7_fills_13 (by decide) c13 ?_
      refine V_lload dX7_fills_147 rfl ?_
      cases h
      exact V_lret rfl dX7_fills_149
    · rw [if_neg c13] at h
      refine V_icmpge_f (tgt := 147) dX7_fills_13 (by decide) c13 ?_
      refine V_aload_n dX7_fills_16 rfl ?_
      refine V_iload_n dX7_fills_17 rfl ?_
      refine V_iload dX7_fills_18 rfl ?_
      obtain ⟨x3, y4, h⟩ := bi_o h
      refine V_callV (as := [.int v2, .int v7]) (q := 85) (rest := []) dX7_fills_20 ov_mX7_rungOf lk_RX7_161 (by decide) (by decide) rfl rfl (Nat.le_of_ble_eq_true rfl) (tq_85 hG) rfl (VM_X7_rungOf G μ hG v2 v7 _ y4) ?_
      refine V_istore (lv2 := [some (.ref 85), some (.int v1), some (.int v2), none, none, some (.long v5), none, some (.int v7), some (.int x3), none, none, none, none]) dX7_fills_23 (by decide) rfl ?_
      refine V_lload dX7_fills_25 rfl ?_
      refine V_aload_n dX7_fills_27 rfl ?_
      refine V_iload_n dX7_fills_28 rfl ?_
      refine V_iload dX7_fills_29 rfl ?_
      obtain ⟨x5, y6, h⟩ := bi_o h
      refine V_callV (as := [.int v1, .int x3]) (q := 85) (rest := [.long v5]) dX7_fills_31 ov_mX7_holeLeft lk_RX7_187 (by decide) (by decide) rfl rfl (Nat.le_of_ble_eq_true rfl) (tq_85 hG) rfl (VM_X7_holeLeft G μ hG v1 x3 _ y6) ?_
      obtain ⟨x7, y8, h⟩ := bi_o h
      refine V_callS (as := [.long v5, .long x5]) (rest := []) dX7_fills_34 os_mX7_least rfl lk_RX7_179 (by decide) (by decide) rfl rfl (Nat.le_of_ble_eq_true rfl) (VM_X7_least G μ hG v5 x5 _ y8) ?_
      refine V_lstore (lv2 := [some (.ref 85), some (.int v1), some (.int v2), none, none, some (.long v5), none, some (.int v7), some (.int x3), some (.long x7), none, none, none]) dX7_fills_37 (by decide) rfl ?_
      refine V_aload_n dX7_fills_39 rfl ?_
      refine V_getR (kf := 22) k_X7 (by decide) lk_RX7_79 rfl dX7_fills_40 (tq_85 hG) rfl ?_
      refine V_bipush (v := 40) dX7_fills_43 rfl ?_
      refine V_iload_n dX7_fills_45 rfl ?_
      refine V_imul dX7_fills_46 ?_
      refine V_iload dX7_fills_47 rfl ?_
      refine V_iadd dX7_fills_49 ?_
      refine V_dup2 dX7_fills_50 rfl rfl ?_
      obtain ⟨g9, h⟩ := gu_o h
      refine V_laload dX7_fills_51 (tq_106 hG) (ib_in g9) ?_
      refine V_lload dX7_fills_52 rfl ?_
      refine V_ladd dX7_fills_54 ?_
      obtain ⟨g10, h⟩ := gu_o h
      obtain ⟨m11, e12, h⟩ := vl_o h
      refine V_lastore (μ2 := m11) dX7_fills_55 (tq_106 hG) (ib_in g10) e12.symm ?_
      refine V_aload_n dX7_fills_56 rfl ?_
      refine V_getR (kf := 26) k_X7 (by decide) lk_RX7_91 rfl dX7_fills_57 (tq_85 hG) rfl ?_
      refine V_bipush (v := 7) dX7_fills_60 rfl ?_
      refine V_iload_n dX7_fills_62 rfl ?_
      refine V_imul dX7_fills_63 ?_
      refine V_iconst (v := 1) dX7_fills_64 rfl ?_
      refine V_iadd dX7_fills_65 ?_
      refine V_dup2 dX7_fills_66 rfl rfl ?_
      obtain ⟨g13, h⟩ := gu_o h
      refine V_laload dX7_fills_67 (tq_110 hG) (ib_in g13) ?_
      refine V_lload dX7_fills_68 rfl ?_
      refine V_ladd dX7_fills_70 ?_
      obtain ⟨g14, h⟩ := gu_o h
      obtain ⟨m15, e16, h⟩ := vl_o h
      refine V_lastore (μ2 := m15) dX7_fills_71 (tq_110 hG) (ib_in g14) e16.symm ?_
      refine V_lload dX7_fills_72 rfl ?_
      refine V_lload dX7_fills_74 rfl ?_
      refine V_lsub dX7_fills_76 ?_
      refine V_lstore (lv2 := [some (.ref 85), some (.int v1), some (.int v2), none, none, some (.long (v5 - x7)), none, some (.int v7), some (.int x3), some (.long x7), none, none, none]) dX7_fills_77 (by decide) rfl ?_
      refine V_lload dX7_fills_79 rfl ?_
      refine V_aload_n dX7_fills_81 rfl ?_
      refine V_iload_n dX7_fills_82 rfl ?_
      refine V_iload dX7_fills_83 rfl ?_
      obtain ⟨x17, y18, h⟩ := bi_o h
      refine V_callV (as := [.int v1, .int x3]) (q := 85) (rest := [.long (v5 - x7)]) dX7_fills_85 ov_mX7_canTake lk_RX7_183 (by decide) (by decide) rfl rfl (Nat.le_of_ble_eq_true rfl) (tq_85 hG) rfl (VM_X7_canTake G m15 hG v1 x3 _ y18) ?_
      obtain ⟨x19, y20, h⟩ := bi_o h
      refine V_callS (as := [.long (v5 - x7), .long x17]) (rest := []) dX7_fills_88 os_mX7_least rfl lk_RX7_179 (by decide) (by decide) rfl rfl (Nat.le_of_ble_eq_true rfl) (VM_X7_least G m15 hG (v5 - x7) x17 _ y20) ?_
      refine V_lstore (lv2 := [some (.ref 85), some (.int v1), some (.int v2), none, none, some (.long (v5 - x7)), none, some (.int v7), some (.int x3), some (.long x7), none, some (.long x19), none]) dX7_fills_91 (by decide) rfl ?_
      refine V_aload_n dX7_fills_93 rfl ?_
      refine V_getR (kf := 21) k_X7 (by decide) lk_RX7_76 rfl dX7_fills_94 (tq_85 hG) rfl ?_
      refine V_bipush (v := 40) dX7_fills_97 rfl ?_
      refine V_iload_n dX7_fills_99 rfl ?_
      refine V_imul dX7_fills_100 ?_
      refine V_iload dX7_fills_101 rfl ?_
      refine V_iadd dX7_fills_103 ?_
      refine V_dup2 dX7_fills_104 rfl rfl ?_
      obtain ⟨g21, h⟩ := gu_o h
      refine V_laload dX7_fills_105 (tq_105 hG) (ib_in g21) ?_
      refine V_lload dX7_fills_106 rfl ?_
      refine V_ladd dX7_fills_108 ?_
      obtain ⟨g22, h⟩ := gu_o h
      obtain ⟨m23, e24, h⟩ := vl_o h
      refine V_lastore (μ2 := m23) dX7_fills_109 (tq_105 hG) (ib_in g22) e24.symm ?_
      refine V_aload_n dX7_fills_110 rfl ?_
      refine V_getR (kf := 15) k_X7 (by decide) lk_RX7_57 rfl dX7_fills_111 (tq_85 hG) rfl ?_
      refine V_iload dX7_fills_114 rfl ?_
      refine V_dup2 dX7_fills_116 rfl rfl ?_
      obtain ⟨g25, h⟩ := gu_o h
      refine V_laload dX7_fills_117 (tq_99 hG) (ib_in g25) ?_
      refine V_lload dX7_fills_118 rfl ?_
      refine V_ladd dX7_fills_120 ?_
      obtain ⟨g26, h⟩ := gu_o h
      obtain ⟨m27, e28, h⟩ := vl_o h
      refine V_lastore (μ2 := m27) dX7_fills_121 (tq_99 hG) (ib_in g26) e28.symm ?_
      refine V_aload_n dX7_fills_122 rfl ?_
      refine V_getR (kf := 38) k_X7 (by decide) lk_RX7_115 rfl dX7_fills_123 (tq_85 hG) rfl ?_
      refine V_iload dX7_fills_126 rfl ?_
      refine V_dup2 dX7_fills_128 rfl rfl ?_
      obtain ⟨g29, h⟩ := gu_o h
      refine V_laload dX7_fills_129 (tq_118 hG) (ib_in g29) ?_
      refine V_lload dX7_fills_130 rfl ?_
      refine V_ladd dX7_fills_132 ?_
      obtain ⟨g30, h⟩ := gu_o h
      obtain ⟨m31, e32, h⟩ := vl_o h
      refine V_lastore (μ2 := m31) dX7_fills_133 (tq_118 hG) (ib_in g30) e32.symm ?_
      refine V_lload dX7_fills_134 rfl ?_
      refine V_lload dX7_fills_136 rfl ?_
      refine V_lsub dX7_fills_138 ?_
      refine V_lstore (lv2 := [some (.ref 85), some (.int v1), some (.int v2), none, none, some (.long ((v5 - x7) - x19)), none, some (.int v7), some (.int x3), some (.long x7), none, some (.long x19), none]) dX7_fills_139 (by decide) rfl ?_
      refine V_iinc (v := v7 + 1) (lv2 := [some (.ref 85), some (.int v1), some (.int v2), none, none, some (.long ((v5 - x7) - x19)), none, some (.int (v7 + 1)), some (.int x3), some (.long x7), none, some (.long x19), none]) dX7_fills_141 rfl rfl (by decide) rfl ?_
      refine V_goto (tgt := 6) dX7_fills_144 (by decide) ?_
      exact V_wk [true, true, true, false, false, true, false, true, false, false, false, false, false] rfl (ih _ _ _ _ _ _ h)
def D_X7_fills_0 (fu : Nat)  (a1 : Int32) (a2 : Int32) (a3 : Int64) (μ : Mem) : Option (Int64 × Mem) :=
  D_X7_fills_6 fu fu a1 a2 a3 0 μ
set_option maxRecDepth 20000 in
theorem T_X7_fills_0 (G : GX) (fu : Nat)  (hG : gt G = tbl) : ∀ (a1 : Int32) (a2 : Int32) (a3 : Int64) (μ : Mem) (r : (Int64 × Mem)) , D_X7_fills_0 fu a1 a2 a3 μ = some r → V G mX7_fills 0 [some (.ref 85), some (.int a1), some (.int a2), some (.long a3), none, none, none, none, none, none, none, none, none] [] μ (.inl (some (.long r.1))) (r.2) := by
  intro a1 a2 a3 μ r h
  unfold D_X7_fills_0 at h
  refine V_lload_n dX7_fills_0 rfl ?_
  refine V_lstore (lv2 := [some (.ref 85), some (.int a1), some (.int a2), some (.long a3), none, some (.long a3), none, none, none, none, none, none, none]) dX7_fills_1 (by decide) rfl ?_
  refine V_iconst (v := 0) dX7_fills_3 rfl ?_
  refine V_istore (lv2 := [some (.ref 85), some (.int a1), some (.int a2), some (.long a3), none, some (.long a3), none, some (.int 0), none, none, none, none, none]) dX7_fills_4 (by decide) rfl ?_
  exact V_wk [true, true, true, false, false, true, false, true, false, false, false, false, false] rfl (T_X7_fills_6 G fu hG fu _ _ _ _ _ _ h)
theorem VM_X7_fills (G : GX) (fu : Nat)  (hG : gt G = tbl) (a1 : Int32) (a2 : Int32) (a3 : Int64) (μ : Mem) (r : (Int64 × Mem)) (h : D_X7_fills_0 fu a1 a2 a3 μ = some r) : VM G mX7_fills [.ref 85, .int a1, .int a2, .long a3] μ (.inl (some (.long r.1))) (r.2) := V_entry ok_mX7_fills rfl rfl (Nat.le_of_ble_eq_true rfl) (T_X7_fills_0 G fu hG a1 a2 a3 μ r h)
def D_X7_laysLike_35 (fu : Nat)  (k2 : Int32 → Int32 → Mem → Option Mem) (v1 : Int32) (v2 : Int32) (s1 : Int32) (s2 : Int64) (μ : Mem) : Option Mem :=
  gu (ib s1 40) <|
  vl (wL μ 116 (Int32.toNatClampNeg s1) s2) fun m6 =>
  k2 v1 (v2 + 1) m6
set_option maxRecDepth 20000 in
theorem T_X7_laysLike_35 (G : GX) (fu : Nat)  (hG : gt G = tbl) (k2 : Int32 → Int32 → Mem → Option Mem) (hk2 : ∀ (v1 : Int32) (v2 : Int32) (μ : Mem) (r : Mem), k2 v1 v2 μ = some r → V G mX7_laysLike 2 [some (.ref 85), some (.int v1), some (.int v2)] [] μ (.inl none) (r)) : ∀ (v1 : Int32) (v2 : Int32) (s1 : Int32) (s2 : Int64) (μ : Mem) (r : Mem) , D_X7_laysLike_35 fu k2 v1 v2 s1 s2 μ = some r → V G mX7_laysLike 35 [some (.ref 85), some (.int v1), some (.int v2)] [.long s2, .int s1, .ref 116] μ (.inl none) (r) := by
  intro v1 v2 s1 s2 μ r h
  unfold D_X7_laysLike_35 at h
  obtain ⟨g5, h⟩ := gu_o h
  obtain ⟨m6, e7, h⟩ := vl_o h
  refine V_lastore (μ2 := m6) dX7_laysLike_35 (tq_116 hG) (ib_in g5) e7.symm ?_
  refine V_iinc (v := v2 + 1) (lv2 := [some (.ref 85), some (.int v1), some (.int (v2 + 1))]) dX7_laysLike_36 rfl rfl (by decide) rfl ?_
  refine V_goto (tgt := 2) dX7_laysLike_39 (by decide) ?_
  exact V_wk [true, true, true] rfl (hk2 _ _ _ _ h)
def D_X7_laysLike_34 (fu : Nat)  (k2 : Int32 → Int32 → Mem → Option Mem) (v1 : Int32) (v2 : Int32) (s1 : Int32) (μ : Mem) : Option Mem :=
  D_X7_laysLike_35 fu k2 v1 v2 s1 0 μ
set_option maxRecDepth 20000 in
theorem T_X7_laysLike_34 (G : GX) (fu : Nat)  (hG : gt G = tbl) (k2 : Int32 → Int32 → Mem → Option Mem) (hk2 : ∀ (v1 : Int32) (v2 : Int32) (μ : Mem) (r : Mem), k2 v1 v2 μ = some r → V G mX7_laysLike 2 [some (.ref 85), some (.int v1), some (.int v2)] [] μ (.inl none) (r)) : ∀ (v1 : Int32) (v2 : Int32) (s1 : Int32) (μ : Mem) (r : Mem) , D_X7_laysLike_34 fu k2 v1 v2 s1 μ = some r → V G mX7_laysLike 34 [some (.ref 85), some (.int v1), some (.int v2)] [.int s1, .ref 116] μ (.inl none) (r) := by
  intro v1 v2 s1 μ r h
  unfold D_X7_laysLike_34 at h
  refine V_lconst (v := 0) dX7_laysLike_34 rfl ?_
  exact V_wk [true, true, true] rfl (T_X7_laysLike_35 G fu hG k2 hk2 _ _ _ _ _ _ h)
def D_X7_laysLike_2 (fu : Nat)  : Nat → Int32 → Int32 → Mem → Option Mem
  | 0, _, _, _ => none
  | n + 1, v1, v2, μ =>
    if (12 : Int32) ≤ v2 then
      some μ
    else
      (D_X7_isOff_0 fu μ v1 v2).bind fun x1 =>
      if x1 = true then
        (D_X7_isLacking_0 μ v2).bind fun x3 =>
        if x3 = true then
          D_X7_laysLike_34 fu (D_X7_laysLike_2 fu n) v1 v2 v2 μ
        else
          D_X7_laysLike_35 fu (D_X7_laysLike_2 fu n) v1 v2 v2 1 μ
      else
        D_X7_laysLike_34 fu (D_X7_laysLike_2 fu n) v1 v2 v2 μ
set_option maxRecDepth 20000 in
theorem T_X7_laysLike_2 (G : GX) (fu : Nat)  (hG : gt G = tbl) : ∀ (n : Nat) (v1 : Int32) (v2 : Int32) (μ : Mem) (r : Mem) , D_X7_laysLike_2 fu n v1 v2 μ = some r → V G mX7_laysLike 2 [some (.ref 85), some (.int v1), some (.int v2)] [] μ (.inl none) (r) := by
  intro n
  induction n with
  | zero =>
    intro v1 v2 μ r h
    exact nomatch (show (none : Option Mem) = some r from h)
  | succ n ih =>
    intro v1 v2 μ r h
    rw [D_X7_laysLike_2] at h
    refine V_iload_n dX7_laysLike_2 rfl ?_
    refine V_bipush (v := 12) dX7_laysLike_3 rfl ?_
    by_cases c5 : (12 : Int32) ≤ v2
    · rw [if_pos c5] at h
      refine V_icmpge_t (tgt := 42) dX7_laysLike_5 (by decide) c5 ?_
      cases h
      exact V_vret rfl dX7_laysLike_42
    · rw [if_neg c5] at h
      refine V_icmpge_f (tgt := 42) dX7_laysLike_5 (by decide) c5 ?_
      refine V_aload_n dX7_laysLike_8 rfl ?_
      refine V_getR (kf := 36) k_X7 (by decide) lk_RX7_109 rfl dX7_laysLike_9 (tq_85 hG) rfl ?_
      refine V_iload_n dX7_laysLike_12 rfl ?_
      refine V_aload_n dX7_laysLike_13 rfl ?_
      refine V_iload_n dX7_laysLike_14 rfl ?_
      refine V_iload_n dX7_laysLike_15 rfl ?_
      obtain ⟨x1, y2, h⟩ := bi_o h
      refine V_callV (as := [.int v1, .int v2]) (q := 85) (rest := [.int v2, .ref 116]) dX7_laysLike_16 ov_mX7_isOff lk_RX7_197 (by decide) (by decide) rfl rfl (Nat.le_of_ble_eq_true rfl) (tq_85 hG) rfl (VM_X7_isOff G fu μ hG v1 v2 _ y2) ?_
      by_cases c19 : x1 = true
      · rw [if_pos c19] at h
        refine V_ifeq_f (tgt := 34) dX7_laysLike_19 (by decide) (b2i_t.mp c19) ?_
        refine V_aload_n dX7_laysLike_22 rfl ?_
        refine V_iload_n dX7_laysLike_23 rfl ?_
        obtain ⟨x3, y4, h⟩ := bi_o h
        refine V_callV (as := [.int v2]) (q := 85) (rest := [.int v2, .ref 116]) dX7_laysLike_24 ov_mX7_isLacking lk_RX7_201 (by decide) (by decide) rfl rfl (Nat.le_of_ble_eq_true rfl) (tq_85 hG) rfl (VM_X7_isLacking G μ hG v2 _ y4) ?_
        by_cases c27 : x3 = true
        · rw [if_pos c27] at h
          refine V_ifne_t (tgt := 34) dX7_laysLike_27 (by decide) (b2i_t.mp c27) ?_
          exact V_wk [true, true, true] rfl (T_X7_laysLike_34 G fu hG (D_X7_laysLike_2 fu n) ih _ _ _ _ _ h)
        · rw [if_neg c27] at h
          refine V_ifne_f (tgt := 34) dX7_laysLike_27 (by decide) (b2i_f.mp c27) ?_
          refine V_lconst (v := 1) dX7_laysLike_30 rfl ?_
          refine V_goto (tgt := 35) dX7_laysLike_31 (by decide) ?_
          exact V_wk [true, true, true] rfl (T_X7_laysLike_35 G fu hG (D_X7_laysLike_2 fu n) ih _ _ _ _ _ _ h)
      · rw [if_neg c19] at h
        refine V_ifeq_t (tgt := 34) dX7_laysLike_19 (by decide) (b2i_f.mp c19) ?_
        exact V_wk [true, true, true] rfl (T_X7_laysLike_34 G fu hG (D_X7_laysLike_2 fu n) ih _ _ _ _ _ h)
def D_X7_laysLike_0 (fu : Nat)  (a1 : Int32) (μ : Mem) : Option Mem :=
  D_X7_laysLike_2 fu fu a1 0 μ
set_option maxRecDepth 20000 in
theorem T_X7_laysLike_0 (G : GX) (fu : Nat)  (hG : gt G = tbl) : ∀ (a1 : Int32) (μ : Mem) (r : Mem) , D_X7_laysLike_0 fu a1 μ = some r → V G mX7_laysLike 0 [some (.ref 85), some (.int a1), none] [] μ (.inl none) (r) := by
  intro a1 μ r h
  unfold D_X7_laysLike_0 at h
  refine V_iconst (v := 0) dX7_laysLike_0 rfl ?_
  refine V_istore_n (lv2 := [some (.ref 85), some (.int a1), some (.int 0)]) dX7_laysLike_1 (by decide) rfl ?_
  exact V_wk [true, true, true] rfl (T_X7_laysLike_2 G fu hG fu _ _ _ _ h)
theorem VM_X7_laysLike (G : GX) (fu : Nat)  (hG : gt G = tbl) (a1 : Int32) (μ : Mem) (r : Mem) (h : D_X7_laysLike_0 fu a1 μ = some r) : VM G mX7_laysLike [.ref 85, .int a1] μ (.inl none) (r) := V_entry ok_mX7_laysLike rfl rfl (Nat.le_of_ble_eq_true rfl) (T_X7_laysLike_0 G fu hG a1 μ r h)
def D_X7_laysSizes_151 (fu : Nat)  (k83 : Int32 → Int64 → Int32 → Int32 → Mem → Option Mem) (v1 : Int32) (v2 : Int64) (v4 : Int32) (v5 : Int32) (s1 : Int32) (s2 : Int64) (μ : Mem) : Option Mem :=
  gu (ib s1 40) <|
  vl (wL μ 116 (Int32.toNatClampNeg s1) s2) fun m6 =>
  k83 v1 v2 v4 (v5 + 1) m6
set_option maxRecDepth 20000 in
theorem T_X7_laysSizes_151 (G : GX) (fu : Nat)  (hG : gt G = tbl) (k83 : Int32 → Int64 → Int32 → Int32 → Mem → Option Mem) (hk83 : ∀ (v1 : Int32) (v2 : Int64) (v4 : Int32) (v5 : Int32) (μ : Mem) (r : Mem), k83 v1 v2 v4 v5 μ = some r → V G mX7_laysSizes 83 [some (.ref 85), some (.int v1), some (.long v2), none, some (.int v4), some (.int v5), none] [] μ (.inl none) (r)) : ∀ (v1 : Int32) (v2 : Int64) (v4 : Int32) (v5 : Int32) (s1 : Int32) (s2 : Int64) (μ : Mem) (r : Mem) , D_X7_laysSizes_151 fu k83 v1 v2 v4 v5 s1 s2 μ = some r → V G mX7_laysSizes 151 [some (.ref 85), some (.int v1), some (.long v2), none, some (.int v4), some (.int v5), none] [.long s2, .int s1, .ref 116] μ (.inl none) (r) := by
  intro v1 v2 v4 v5 s1 s2 μ r h
  unfold D_X7_laysSizes_151 at h
  obtain ⟨g5, h⟩ := gu_o h
  obtain ⟨m6, e7, h⟩ := vl_o h
  refine V_lastore (μ2 := m6) dX7_laysSizes_151 (tq_116 hG) (ib_in g5) e7.symm ?_
  refine V_iinc (v := v5 + 1) (lv2 := [some (.ref 85), some (.int v1), some (.long v2), none, some (.int v4), some (.int (v5 + 1)), none]) dX7_laysSizes_152 rfl rfl (by decide) rfl ?_
  refine V_goto (tgt := 83) dX7_laysSizes_155 (by decide) ?_
  exact V_wk [true, true, true, false, true, true, false] rfl (hk83 _ _ _ _ _ _ h)
def D_X7_laysSizes_115 (fu : Nat)  (k83 : Int32 → Int64 → Int32 → Int32 → Mem → Option Mem) (v1 : Int32) (v2 : Int64) (v4 : Int32) (v5 : Int32) (s1 : Int32) (μ : Mem) : Option Mem :=
  D_X7_laysSizes_151 fu k83 v1 v2 v4 v5 s1 0 μ
set_option maxRecDepth 20000 in
theorem T_X7_laysSizes_115 (G : GX) (fu : Nat)  (hG : gt G = tbl) (k83 : Int32 → Int64 → Int32 → Int32 → Mem → Option Mem) (hk83 : ∀ (v1 : Int32) (v2 : Int64) (v4 : Int32) (v5 : Int32) (μ : Mem) (r : Mem), k83 v1 v2 v4 v5 μ = some r → V G mX7_laysSizes 83 [some (.ref 85), some (.int v1), some (.long v2), none, some (.int v4), some (.int v5), none] [] μ (.inl none) (r)) : ∀ (v1 : Int32) (v2 : Int64) (v4 : Int32) (v5 : Int32) (s1 : Int32) (μ : Mem) (r : Mem) , D_X7_laysSizes_115 fu k83 v1 v2 v4 v5 s1 μ = some r → V G mX7_laysSizes 115 [some (.ref 85), some (.int v1), some (.long v2), none, some (.int v4), some (.int v5), none] [.int s1, .ref 116] μ (.inl none) (r) := by
  intro v1 v2 v4 v5 s1 μ r h
  unfold D_X7_laysSizes_115 at h
  refine V_lconst (v := 0) dX7_laysSizes_115 rfl ?_
  refine V_goto (tgt := 151) dX7_laysSizes_116 (by decide) ?_
  exact V_wk [true, true, true, false, true, true, false] rfl (T_X7_laysSizes_151 G fu hG k83 hk83 _ _ _ _ _ _ _ _ h)
def D_X7_laysSizes_83 (fu : Nat)  : Nat → Int32 → Int64 → Int32 → Int32 → Mem → Option Mem
  | 0, _, _, _, _, _ => none
  | n + 1, v1, v2, v4, v5, μ =>
    if (12 : Int32) ≤ v5 then
      some μ
    else
      (D_X7_isOff_0 fu μ v1 v5).bind fun x1 =>
      if x1 = true then
        (D_X7_isLacking_0 μ v5).bind fun x3 =>
        if x3 = true then
          D_X7_laysSizes_115 fu (D_X7_laysSizes_83 fu n) v1 v2 v4 v5 v5 μ
        else
          if v4 = 0 then
            D_X7_laysSizes_151 fu (D_X7_laysSizes_83 fu n) v1 v2 v4 v5 v5 1 μ
          else
            (D_X7_isGap_0 μ v5).bind fun x8 =>
            if x8 = true then
              gu (decide (¬ ((v4 : Int32).toInt64) = 0)) <|
              D_X7_laysSizes_151 fu (D_X7_laysSizes_83 fu n) v1 v2 v4 v5 v5 (v2 / ((v4 : Int32).toInt64)) μ
            else
              (D_X7_sizesOf_0 fu μ v5).bind fun x11 =>
              D_X7_laysSizes_151 fu (D_X7_laysSizes_83 fu n) v1 v2 v4 v5 v5 x11 μ
      else
        D_X7_laysSizes_115 fu (D_X7_laysSizes_83 fu n) v1 v2 v4 v5 v5 μ
set_option maxRecDepth 20000 in
theorem T_X7_laysSizes_83 (G : GX) (fu : Nat)  (hG : gt G = tbl) : ∀ (n : Nat) (v1 : Int32) (v2 : Int64) (v4 : Int32) (v5 : Int32) (μ : Mem) (r : Mem) , D_X7_laysSizes_83 fu n v1 v2 v4 v5 μ = some r → V G mX7_laysSizes 83 [some (.ref 85), some (.int v1), some (.long v2), none, some (.int v4), some (.int v5), none] [] μ (.inl none) (r) := by
  intro n
  induction n with
  | zero =>
    intro v1 v2 v4 v5 μ r h
    exact nomatch (show (none : Option Mem) = some r from h)
  | succ n ih =>
    intro v1 v2 v4 v5 μ r h
    rw [D_X7_laysSizes_83] at h
    refine V_iload dX7_laysSizes_83 rfl ?_
    refine V_bipush (v := 12) dX7_laysSizes_85 rfl ?_
    by_cases c87 : (12 : Int32) ≤ v5
    · rw [if_pos c87] at h
      refine V_icmpge_t (tgt := 158) dX7_laysSizes_87 (by decide) c87 ?_
      cases h
      exact V_vret rfl dX7_laysSizes_158
    · rw [if_neg c87] at h
      refine V_icmpge_f (tgt := 158) dX7_laysSizes_87 (by decide) c87 ?_
      refine V_aload_n dX7_laysSizes_90 rfl ?_
      refine V_getR (kf := 36) k_X7 (by decide) lk_RX7_109 rfl dX7_laysSizes_91 (tq_85 hG) rfl ?_
      refine V_iload dX7_laysSizes_94 rfl ?_
      refine V_aload_n dX7_laysSizes_96 rfl ?_
      refine V_iload_n dX7_laysSizes_97 rfl ?_
      refine V_iload dX7_laysSizes_98 rfl ?_
      obtain ⟨x1, y2, h⟩ := bi_o h
      refine V_callV (as := [.int v1, .int v5]) (q := 85) (rest := [.int v5, .ref 116]) dX7_laysSizes_100 ov_mX7_isOff lk_RX7_197 (by decide) (by decide) rfl rfl (Nat.le_of_ble_eq_true rfl) (tq_85 hG) rfl (VM_X7_isOff G fu μ hG v1 v5 _ y2) ?_
      by_cases c103 : x1 = true
      · rw [if_pos c103] at h
        refine V_ifeq_f (tgt := 115) dX7_laysSizes_103 (by decide) (b2i_t.mp c103) ?_
        refine V_aload_n dX7_laysSizes_106 rfl ?_
        refine V_iload dX7_laysSizes_107 rfl ?_
        obtain ⟨x3, y4, h⟩ := bi_o h
        refine V_callV (as := [.int v5]) (q := 85) (rest := [.int v5, .ref 116]) dX7_laysSizes_109 ov_mX7_isLacking lk_RX7_201 (by decide) (by decide) rfl rfl (Nat.le_of_ble_eq_true rfl) (tq_85 hG) rfl (VM_X7_isLacking G μ hG v5 _ y4) ?_
        by_cases c112 : x3 = true
        · rw [if_pos c112] at h
          refine V_ifeq_f (tgt := 119) dX7_laysSizes_112 (by decide) (b2i_t.mp c112) ?_
          exact V_wk [true, true, true, false, true, true, false] rfl (T_X7_laysSizes_115 G fu hG (D_X7_laysSizes_83 fu n) ih _ _ _ _ _ _ _ h)
        · rw [if_neg c112] at h
          refine V_ifeq_t (tgt := 119) dX7_laysSizes_112 (by decide) (b2i_f.mp c112) ?_
          refine V_iload dX7_laysSizes_119 rfl ?_
          by_cases c121 : v4 = 0
          · rw [if_pos c121] at h
            refine V_ifne_f (tgt := 128) dX7_laysSizes_121 (by decide) c121 ?_
            refine V_lconst (v := 1) dX7_laysSizes_124 rfl ?_
            refine V_goto (tgt := 151) dX7_laysSizes_125 (by decide) ?_
            exact V_wk [true, true, true, false, true, true, false] rfl (T_X7_laysSizes_151 G fu hG (D_X7_laysSizes_83 fu n) ih _ _ _ _ _ _ _ _ h)
          · rw [if_neg c121] at h
            refine V_ifne_t (tgt := 128) dX7_laysSizes_121 (by decide) c121 ?_
            refine V_aload_n dX7_laysSizes_128 rfl ?_
            refine V_iload dX7_laysSizes_129 rfl ?_
            obtain ⟨x8, y9, h⟩ := bi_o h
            refine V_callV (as := [.int v5]) (q := 85) (rest := [.int v5, .ref 116]) dX7_laysSizes_131 ov_mX7_isGap lk_RX7_205 (by decide) (by decide) rfl rfl (Nat.le_of_ble_eq_true rfl) (tq_85 hG) rfl (VM_X7_isGap G μ hG v5 _ y9) ?_
            by_cases c134 : x8 = true
            · rw [if_pos c134] at h
              refine V_ifeq_f (tgt := 145) dX7_laysSizes_134 (by decide) (b2i_t.mp c134) ?_
              refine V_lload_n dX7_laysSizes_137 rfl ?_
              refine V_iload dX7_laysSizes_138 rfl ?_
              refine V_i2l dX7_laysSizes_140 ?_
              obtain ⟨g10, h⟩ := gu_o h
              refine V_ldiv dX7_laysSizes_141 (of_decide_eq_true g10) ?_
              refine V_goto (tgt := 151) dX7_laysSizes_142 (by decide) ?_
              exact V_wk [true, true, true, false, true, true, false] rfl (T_X7_laysSizes_151 G fu hG (D_X7_laysSizes_83 fu n) ih _ _ _ _ _ _ _ _ h)
            · rw [if_neg c134] at h
              refine V_ifeq_t (tgt := 145) dX7_laysSizes_134 (by decide) (b2i_f.mp c134) ?_
              refine V_aload_n dX7_laysSizes_145 rfl ?_
              refine V_iload dX7_laysSizes_146 rfl ?_
              obtain ⟨x11, y12, h⟩ := bi_o h
              refine V_callV (as := [.int v5]) (q := 85) (rest := [.int v5, .ref 116]) dX7_laysSizes_148 ov_mX7_sizesOf lk_RX7_208 (by decide) (by decide) rfl rfl (Nat.le_of_ble_eq_true rfl) (tq_85 hG) rfl (VM_X7_sizesOf G fu μ hG v5 _ y12) ?_
              exact V_wk [true, true, true, false, true, true, false] rfl (T_X7_laysSizes_151 G fu hG (D_X7_laysSizes_83 fu n) ih _ _ _ _ _ _ _ _ h)
      · rw [if_neg c103] at h
        refine V_ifeq_t (tgt := 115) dX7_laysSizes_103 (by decide) (b2i_f.mp c103) ?_
        exact V_wk [true, true, true, false, true, true, false] rfl (T_X7_laysSizes_115 G fu hG (D_X7_laysSizes_83 fu n) ih _ _ _ _ _ _ _ h)
def D_X7_laysSizes_72 (fu : Nat)  (k8 : Int32 → Int64 → Int32 → Int32 → Mem → Option Mem) (v1 : Int32) (v4 : Int32) (v5 : Int32) (s0 : Int64) (s1 : Int64) (μ : Mem) : Option Mem :=
  k8 v1 (s0 + s1) v4 (v5 + 1) μ
set_option maxRecDepth 20000 in
theorem T_X7_laysSizes_72 (G : GX) (fu : Nat)  (hG : gt G = tbl) (k8 : Int32 → Int64 → Int32 → Int32 → Mem → Option Mem) (hk8 : ∀ (v1 : Int32) (v2 : Int64) (v4 : Int32) (v5 : Int32) (μ : Mem) (r : Mem), k8 v1 v2 v4 v5 μ = some r → V G mX7_laysSizes 8 [some (.ref 85), some (.int v1), some (.long v2), none, some (.int v4), some (.int v5), none] [] μ (.inl none) (r)) : ∀ (v1 : Int32) (v4 : Int32) (v5 : Int32) (s0 : Int64) (s1 : Int64) (μ : Mem) (r : Mem) , D_X7_laysSizes_72 fu k8 v1 v4 v5 s0 s1 μ = some r → V G mX7_laysSizes 72 [some (.ref 85), some (.int v1), none, none, some (.int v4), some (.int v5), none] [.long s1, .long s0] μ (.inl none) (r) := by
  intro v1 v4 v5 s0 s1 μ r h
  unfold D_X7_laysSizes_72 at h
  refine V_ladd dX7_laysSizes_72 ?_
  refine V_lstore_n (lv2 := [some (.ref 85), some (.int v1), some (.long (s0 + s1)), none, some (.int v4), some (.int v5), none]) dX7_laysSizes_73 (by decide) rfl ?_
  refine V_iinc (v := v5 + 1) (lv2 := [some (.ref 85), some (.int v1), some (.long (s0 + s1)), none, some (.int v4), some (.int (v5 + 1)), none]) dX7_laysSizes_74 rfl rfl (by decide) rfl ?_
  refine V_goto (tgt := 8) dX7_laysSizes_77 (by decide) ?_
  exact V_wk [true, true, true, false, true, true, false] rfl (hk8 _ _ _ _ _ _ h)
def D_X7_laysSizes_53 (fu : Nat)  (k8 : Int32 → Int64 → Int32 → Int32 → Mem → Option Mem) (v1 : Int32) (v2 : Int64) (v5 : Int32) (v6 : Int32) (s0 : Int32) (s1 : Int32) (μ : Mem) : Option Mem :=
  if v6 = 0 then
    D_X7_laysSizes_72 fu k8 v1 (s0 + s1) v5 v2 0 μ
  else
    (D_X7_sizesOf_0 fu μ v5).bind fun x17 =>
    D_X7_laysSizes_72 fu k8 v1 (s0 + s1) v5 v2 x17 μ
set_option maxRecDepth 20000 in
theorem T_X7_laysSizes_53 (G : GX) (fu : Nat)  (hG : gt G = tbl) (k8 : Int32 → Int64 → Int32 → Int32 → Mem → Option Mem) (hk8 : ∀ (v1 : Int32) (v2 : Int64) (v4 : Int32) (v5 : Int32) (μ : Mem) (r : Mem), k8 v1 v2 v4 v5 μ = some r → V G mX7_laysSizes 8 [some (.ref 85), some (.int v1), some (.long v2), none, some (.int v4), some (.int v5), none] [] μ (.inl none) (r)) : ∀ (v1 : Int32) (v2 : Int64) (v5 : Int32) (v6 : Int32) (s0 : Int32) (s1 : Int32) (μ : Mem) (r : Mem) , D_X7_laysSizes_53 fu k8 v1 v2 v5 v6 s0 s1 μ = some r → V G mX7_laysSizes 53 [some (.ref 85), some (.int v1), some (.long v2), none, none, some (.int v5), some (.int v6)] [.int s1, .int s0] μ (.inl none) (r) := by
  intro v1 v2 v5 v6 s0 s1 μ r h
  unfold D_X7_laysSizes_53 at h
  refine V_iadd dX7_laysSizes_53 ?_
  refine V_istore (lv2 := [some (.ref 85), some (.int v1), some (.long v2), none, some (.int (s0 + s1)), some (.int v5), some (.int v6)]) dX7_laysSizes_54 (by decide) rfl ?_
  refine V_lload_n dX7_laysSizes_56 rfl ?_
  refine V_iload dX7_laysSizes_57 rfl ?_
  by_cases c59 : v6 = 0
  · rw [if_pos c59] at h
    refine V_ifeq_t (tgt := 71) dX7_laysSizes_59 (by decide) c59 ?_
    refine V_lconst (v := 0) dX7_laysSizes_71 rfl ?_
    exact V_wk [true, true, false, false, true, true, false] rfl (T_X7_laysSizes_72 G fu hG k8 hk8 _ _ _ _ _ _ _ h)
  · rw [if_neg c59] at h
    refine V_ifeq_f (tgt := 71) dX7_laysSizes_59 (by decide) c59 ?_
    refine V_aload_n dX7_laysSizes_62 rfl ?_
    refine V_iload dX7_laysSizes_63 rfl ?_
    obtain ⟨x17, y18, h⟩ := bi_o h
    refine V_callV (as := [.int v5]) (q := 85) (rest := [.long v2]) dX7_laysSizes_65 ov_mX7_sizesOf lk_RX7_208 (by decide) (by decide) rfl rfl (Nat.le_of_ble_eq_true rfl) (tq_85 hG) rfl (VM_X7_sizesOf G fu μ hG v5 _ y18) ?_
    refine V_goto (tgt := 72) dX7_laysSizes_68 (by decide) ?_
    exact V_wk [true, true, false, false, true, true, false] rfl (T_X7_laysSizes_72 G fu hG k8 hk8 _ _ _ _ _ _ _ h)
def D_X7_laysSizes_39 (fu : Nat)  (k8 : Int32 → Int64 → Int32 → Int32 → Mem → Option Mem) (v1 : Int32) (v2 : Int64) (v4 : Int32) (v5 : Int32) (s0 : Int32) (μ : Mem) : Option Mem :=
  if s0 = 0 then
    D_X7_laysSizes_53 fu k8 v1 v2 v5 s0 v4 0 μ
  else
    D_X7_laysSizes_53 fu k8 v1 v2 v5 s0 v4 1 μ
set_option maxRecDepth 20000 in
theorem T_X7_laysSizes_39 (G : GX) (fu : Nat)  (hG : gt G = tbl) (k8 : Int32 → Int64 → Int32 → Int32 → Mem → Option Mem) (hk8 : ∀ (v1 : Int32) (v2 : Int64) (v4 : Int32) (v5 : Int32) (μ : Mem) (r : Mem), k8 v1 v2 v4 v5 μ = some r → V G mX7_laysSizes 8 [some (.ref 85), some (.int v1), some (.long v2), none, some (.int v4), some (.int v5), none] [] μ (.inl none) (r)) : ∀ (v1 : Int32) (v2 : Int64) (v4 : Int32) (v5 : Int32) (s0 : Int32) (μ : Mem) (r : Mem) , D_X7_laysSizes_39 fu k8 v1 v2 v4 v5 s0 μ = some r → V G mX7_laysSizes 39 [some (.ref 85), some (.int v1), some (.long v2), none, some (.int v4), some (.int v5), none] [.int s0] μ (.inl none) (r) := by
  intro v1 v2 v4 v5 s0 μ r h
  unfold D_X7_laysSizes_39 at h
  refine V_istore (lv2 := [some (.ref 85), some (.int v1), some (.long v2), none, some (.int v4), some (.int v5), some (.int s0)]) dX7_laysSizes_39 (by decide) rfl ?_
  refine V_iload dX7_laysSizes_41 rfl ?_
  refine V_iload dX7_laysSizes_43 rfl ?_
  by_cases c45 : s0 = 0
  · rw [if_pos c45] at h
    refine V_ifeq_t (tgt := 52) dX7_laysSizes_45 (by decide) c45 ?_
    refine V_iconst (v := 0) dX7_laysSizes_52 rfl ?_
    exact V_wk [true, true, true, false, false, true, true] rfl (T_X7_laysSizes_53 G fu hG k8 hk8 _ _ _ _ _ _ _ _ h)
  · rw [if_neg c45] at h
    refine V_ifeq_f (tgt := 52) dX7_laysSizes_45 (by decide) c45 ?_
    refine V_iconst (v := 1) dX7_laysSizes_48 rfl ?_
    refine V_goto (tgt := 53) dX7_laysSizes_49 (by decide) ?_
    exact V_wk [true, true, true, false, false, true, true] rfl (T_X7_laysSizes_53 G fu hG k8 hk8 _ _ _ _ _ _ _ _ h)
def D_X7_laysSizes_38 (fu : Nat)  (k8 : Int32 → Int64 → Int32 → Int32 → Mem → Option Mem) (v1 : Int32) (v2 : Int64) (v4 : Int32) (v5 : Int32) (μ : Mem) : Option Mem :=
  D_X7_laysSizes_39 fu k8 v1 v2 v4 v5 0 μ
set_option maxRecDepth 20000 in
theorem T_X7_laysSizes_38 (G : GX) (fu : Nat)  (hG : gt G = tbl) (k8 : Int32 → Int64 → Int32 → Int32 → Mem → Option Mem) (hk8 : ∀ (v1 : Int32) (v2 : Int64) (v4 : Int32) (v5 : Int32) (μ : Mem) (r : Mem), k8 v1 v2 v4 v5 μ = some r → V G mX7_laysSizes 8 [some (.ref 85), some (.int v1), some (.long v2), none, some (.int v4), some (.int v5), none] [] μ (.inl none) (r)) : ∀ (v1 : Int32) (v2 : Int64) (v4 : Int32) (v5 : Int32) (μ : Mem) (r : Mem) , D_X7_laysSizes_38 fu k8 v1 v2 v4 v5 μ = some r → V G mX7_laysSizes 38 [some (.ref 85), some (.int v1), some (.long v2), none, some (.int v4), some (.int v5), none] [] μ (.inl none) (r) := by
  intro v1 v2 v4 v5 μ r h
  unfold D_X7_laysSizes_38 at h
  refine V_iconst (v := 0) dX7_laysSizes_38 rfl ?_
  exact V_wk [true, true, true, false, true, true, false] rfl (T_X7_laysSizes_39 G fu hG k8 hk8 _ _ _ _ _ _ _ h)
def D_X7_laysSizes_8 (fu : Nat)  : Nat → Int32 → Int64 → Int32 → Int32 → Mem → Option Mem
  | 0, _, _, _, _, _ => none
  | n + 1, v1, v2, v4, v5, μ =>
    if (12 : Int32) ≤ v5 then
      D_X7_laysSizes_83 fu fu v1 v2 v4 0 μ
    else
      (D_X7_isOff_0 fu μ v1 v5).bind fun x13 =>
      if x13 = true then
        (D_X7_isGap_0 μ v5).bind fun x15 =>
        if x15 = true then
          D_X7_laysSizes_38 fu (D_X7_laysSizes_8 fu n) v1 v2 v4 v5 μ
        else
          D_X7_laysSizes_39 fu (D_X7_laysSizes_8 fu n) v1 v2 v4 v5 1 μ
      else
        D_X7_laysSizes_38 fu (D_X7_laysSizes_8 fu n) v1 v2 v4 v5 μ
set_option maxRecDepth 20000 in
theorem T_X7_laysSizes_8 (G : GX) (fu : Nat)  (hG : gt G = tbl) : ∀ (n : Nat) (v1 : Int32) (v2 : Int64) (v4 : Int32) (v5 : Int32) (μ : Mem) (r : Mem) , D_X7_laysSizes_8 fu n v1 v2 v4 v5 μ = some r → V G mX7_laysSizes 8 [some (.ref 85), some (.int v1), some (.long v2), none, some (.int v4), some (.int v5), none] [] μ (.inl none) (r) := by
  intro n
  induction n with
  | zero =>
    intro v1 v2 v4 v5 μ r h
    exact nomatch (show (none : Option Mem) = some r from h)
  | succ n ih =>
    intro v1 v2 v4 v5 μ r h
    rw [D_X7_laysSizes_8] at h
    refine V_iload dX7_laysSizes_8 rfl ?_
    refine V_bipush (v := 12) dX7_laysSizes_10 rfl ?_
    by_cases c12 : (12 : Int32) ≤ v5
    · rw [if_pos c12] at h
      refine V_icmpge_t (tgt := 80) dX7_laysSizes_12 (by decide) c12 ?_
      refine V_iconst (v := 0) dX7_laysSizes_80 rfl ?_
      refine V_istore (lv2 := [some (.ref 85), some (.int v1), some (.long v2), none, some (.int v4), some (.int 0), none]) dX7_laysSizes_81 (by decide) rfl ?_
      exact V_wk [true, true, true, false, true, true, false] rfl (T_X7_laysSizes_83 G fu hG fu _ _ _ _ _ _ h)
    · rw [if_neg c12] at h
      refine V_icmpge_f (tgt := 80) dX7_laysSizes_12 (by decide) c12 ?_
      refine V_aload_n dX7_laysSizes_15 rfl ?_
      refine V_iload_n dX7_laysSizes_16 rfl ?_
      refine V_iload dX7_laysSizes_17 rfl ?_
      obtain ⟨x13, y14, h⟩ := bi_o h
      refine V_callV (as := [.int v1, .int v5]) (q := 85) (rest := []) dX7_laysSizes_19 ov_mX7_isOff lk_RX7_197 (by decide) (by decide) rfl rfl (Nat.le_of_ble_eq_true rfl) (tq_85 hG) rfl (VM_X7_isOff G fu μ hG v1 v5 _ y14) ?_
      by_cases c22 : x13 = true
      · rw [if_pos c22] at h
        refine V_ifeq_f (tgt := 38) dX7_laysSizes_22 (by decide) (b2i_t.mp c22) ?_
        refine V_aload_n dX7_laysSizes_25 rfl ?_
        refine V_iload dX7_laysSizes_26 rfl ?_
        obtain ⟨x15, y16, h⟩ := bi_o h
        refine V_callV (as := [.int v5]) (q := 85) (rest := []) dX7_laysSizes_28 ov_mX7_isGap lk_RX7_205 (by decide) (by decide) rfl rfl (Nat.le_of_ble_eq_true rfl) (tq_85 hG) rfl (VM_X7_isGap G μ hG v5 _ y16) ?_
        by_cases c31 : x15 = true
        · rw [if_pos c31] at h
          refine V_ifne_t (tgt := 38) dX7_laysSizes_31 (by decide) (b2i_t.mp c31) ?_
          exact V_wk [true, true, true, false, true, true, false] rfl (T_X7_laysSizes_38 G fu hG (D_X7_laysSizes_8 fu n) ih _ _ _ _ _ _ h)
        · rw [if_neg c31] at h
          refine V_ifne_f (tgt := 38) dX7_laysSizes_31 (by decide) (b2i_f.mp c31) ?_
          refine V_iconst (v := 1) dX7_laysSizes_34 rfl ?_
          refine V_goto (tgt := 39) dX7_laysSizes_35 (by decide) ?_
          exact V_wk [true, true, true, false, true, true, false] rfl (T_X7_laysSizes_39 G fu hG (D_X7_laysSizes_8 fu n) ih _ _ _ _ _ _ _ h)
      · rw [if_neg c22] at h
        refine V_ifeq_t (tgt := 38) dX7_laysSizes_22 (by decide) (b2i_f.mp c22) ?_
        exact V_wk [true, true, true, false, true, true, false] rfl (T_X7_laysSizes_38 G fu hG (D_X7_laysSizes_8 fu n) ih _ _ _ _ _ _ h)
def D_X7_laysSizes_0 (fu : Nat)  (a1 : Int32) (μ : Mem) : Option Mem :=
  D_X7_laysSizes_8 fu fu a1 0 0 0 μ
set_option maxRecDepth 20000 in
theorem T_X7_laysSizes_0 (G : GX) (fu : Nat)  (hG : gt G = tbl) : ∀ (a1 : Int32) (μ : Mem) (r : Mem) , D_X7_laysSizes_0 fu a1 μ = some r → V G mX7_laysSizes 0 [some (.ref 85), some (.int a1), none, none, none, none, none] [] μ (.inl none) (r) := by
  intro a1 μ r h
  unfold D_X7_laysSizes_0 at h
  refine V_lconst (v := 0) dX7_laysSizes_0 rfl ?_
  refine V_lstore_n (lv2 := [some (.ref 85), some (.int a1), some (.long 0), none, none, none, none]) dX7_laysSizes_1 (by decide) rfl ?_
  refine V_iconst (v := 0) dX7_laysSizes_2 rfl ?_
  refine V_istore (lv2 := [some (.ref 85), some (.int a1), some (.long 0), none, some (.int 0), none, none]) dX7_laysSizes_3 (by decide) rfl ?_
  refine V_iconst (v := 0) dX7_laysSizes_5 rfl ?_
  refine V_istore (lv2 := [some (.ref 85), some (.int a1), some (.long 0), none, some (.int 0), some (.int 0), none]) dX7_laysSizes_6 (by decide) rfl ?_
  exact V_wk [true, true, true, false, true, true, false] rfl (T_X7_laysSizes_8 G fu hG fu _ _ _ _ _ _ h)
theorem VM_X7_laysSizes (G : GX) (fu : Nat)  (hG : gt G = tbl) (a1 : Int32) (μ : Mem) (r : Mem) (h : D_X7_laysSizes_0 fu a1 μ = some r) : VM G mX7_laysSizes [.ref 85, .int a1] μ (.inl none) (r) := V_entry ok_mX7_laysSizes rfl rfl (Nat.le_of_ble_eq_true rfl) (T_X7_laysSizes_0 G fu hG a1 μ r h)
def D_X7_byShares_150 (fu : Nat)  (k67 : Int32 → Int32 → Mem → Option Mem) (v1 : Int32) (v4 : Int32) (μ : Mem) : Option Mem :=
  k67 v1 (v4 + 1) μ
set_option maxRecDepth 20000 in
theorem T_X7_byShares_150 (G : GX) (fu : Nat)  (hG : gt G = tbl) (k67 : Int32 → Int32 → Mem → Option Mem) (hk67 : ∀ (v1 : Int32) (v4 : Int32) (μ : Mem) (r : Mem), k67 v1 v4 μ = some r → V G mX7_byShares 67 [some (.ref 85), some (.int v1), none, none, some (.int v4)] [] μ (.inl none) (r)) : ∀ (v1 : Int32) (v4 : Int32) (μ : Mem) (r : Mem) , D_X7_byShares_150 fu k67 v1 v4 μ = some r → V G mX7_byShares 150 [some (.ref 85), some (.int v1), none, none, some (.int v4)] [] μ (.inl none) (r) := by
  intro v1 v4 μ r h
  unfold D_X7_byShares_150 at h
  refine V_iinc (v := v4 + 1) (lv2 := [some (.ref 85), some (.int v1), none, none, some (.int (v4 + 1))]) dX7_byShares_150 rfl rfl (by decide) rfl ?_
  refine V_goto (tgt := 67) dX7_byShares_153 (by decide) ?_
  exact V_wk [true, true, false, false, true] rfl (hk67 _ _ _ _ h)
def D_X7_byShares_67 (fu : Nat)  : Nat → Int32 → Int32 → Mem → Option Mem
  | 0, _, _, _ => none
  | n + 1, v1, v4, μ =>
    if (12 : Int32) ≤ v4 then
      some μ
    else
      gu (ib v4 12) <|
      if (μ.2.1 120 (Int32.toNatClampNeg v4)) = (0 : Int64) then
        D_X7_byShares_150 fu (D_X7_byShares_67 fu n) v1 v4 μ
      else
        (D_X7_isGap_0 μ v4).bind fun x10 =>
        if x10 = true then
          gu (ib ((7 * v1) + 3) 175) <|
          gu (ib v4 12) <|
          gu (ib ((7 * v1) + 3) 175) <|
          vl (wL μ 110 (Int32.toNatClampNeg ((7 * v1) + 3)) ((μ.2.1 110 (Int32.toNatClampNeg ((7 * v1) + 3))) + (μ.2.1 120 (Int32.toNatClampNeg v4)))) fun m15 =>
          D_X7_byShares_150 fu (D_X7_byShares_67 fu n) v1 v4 m15
        else
          gu (ib ((7 * v1) + 2) 175) <|
          gu (ib v4 12) <|
          (D_X7_fills_0 fu v1 v4 (μ.2.1 120 (Int32.toNatClampNeg v4)) μ).bind fun x19 =>
          gu (ib ((7 * v1) + 2) 175) <|
          vl (wL x19.2 110 (Int32.toNatClampNeg ((7 * v1) + 2)) ((μ.2.1 110 (Int32.toNatClampNeg ((7 * v1) + 2))) + x19.1)) fun m22 =>
          D_X7_byShares_150 fu (D_X7_byShares_67 fu n) v1 v4 m22
set_option maxRecDepth 20000 in
theorem T_X7_byShares_67 (G : GX) (fu : Nat)  (hG : gt G = tbl) : ∀ (n : Nat) (v1 : Int32) (v4 : Int32) (μ : Mem) (r : Mem) , D_X7_byShares_67 fu n v1 v4 μ = some r → V G mX7_byShares 67 [some (.ref 85), some (.int v1), none, none, some (.int v4)] [] μ (.inl none) (r) := by
  intro n
  induction n with
  | zero =>
    intro v1 v4 μ r h
    exact nomatch (show (none : Option Mem) = some r from h)
  | succ n ih =>
    intro v1 v4 μ r h
    rw [D_X7_byShares_67] at h
    refine V_iload dX7_byShares_67 rfl ?_
    refine V_bipush (v := 12) dX7_byShares_69 rfl ?_
    by_cases c71 : (12 : Int32) ≤ v4
    · rw [if_pos c71] at h
      refine V_icmpge_t (tgt := 156) dX7_byShares_71 (by decide) c71 ?_
      cases h
      exact V_vret rfl dX7_byShares_156
    · rw [if_neg c71] at h
      refine V_icmpge_f (tgt := 156) dX7_byShares_71 (by decide) c71 ?_
      refine V_aload_n dX7_byShares_74 rfl ?_
      refine V_getR (kf := 40) k_X7 (by decide) lk_RX7_121 rfl dX7_byShares_75 (tq_85 hG) rfl ?_
      refine V_iload dX7_byShares_78 rfl ?_
      obtain ⟨g9, h⟩ := gu_o h
      refine V_laload dX7_byShares_80 (tq_120 hG) (ib_in g9) ?_
      refine V_lconst (v := 0) dX7_byShares_81 rfl ?_
      refine V_lcmp dX7_byShares_82 ?_
      by_cases c83 : (μ.2.1 120 (Int32.toNatClampNeg v4)) = (0 : Int64)
      · rw [if_pos c83] at h
        refine V_ifne_f (tgt := 89) dX7_byShares_83 (by decide) ((lc_eq (μ.2.1 120 (Int32.toNatClampNeg v4)) 0).mpr c83) ?_
        refine V_goto (tgt := 150) dX7_byShares_86 (by decide) ?_
        exact V_wk [true, true, false, false, true] rfl (T_X7_byShares_150 G fu hG (D_X7_byShares_67 fu n) ih _ _ _ _ h)
      · rw [if_neg c83] at h
        refine V_ifne_t (tgt := 89) dX7_byShares_83 (by decide) (fun z => c83 ((lc_eq (μ.2.1 120 (Int32.toNatClampNeg v4)) 0).mp z)) ?_
        refine V_aload_n dX7_byShares_89 rfl ?_
        refine V_iload dX7_byShares_90 rfl ?_
        obtain ⟨x10, y11, h⟩ := bi_o h
        refine V_callV (as := [.int v4]) (q := 85) (rest := []) dX7_byShares_92 ov_mX7_isGap lk_RX7_205 (by decide) (by decide) rfl rfl (Nat.le_of_ble_eq_true rfl) (tq_85 hG) rfl (VM_X7_isGap G μ hG v4 _ y11) ?_
        by_cases c95 : x10 = true
        · rw [if_pos c95] at h
          refine V_ifeq_f (tgt := 122) dX7_byShares_95 (by decide) (b2i_t.mp c95) ?_
          refine V_aload_n dX7_byShares_98 rfl ?_
          refine V_getR (kf := 26) k_X7 (by decide) lk_RX7_91 rfl dX7_byShares_99 (tq_85 hG) rfl ?_
          refine V_bipush (v := 7) dX7_byShares_102 rfl ?_
          refine V_iload_n dX7_byShares_104 rfl ?_
          refine V_imul dX7_byShares_105 ?_
          refine V_iconst (v := 3) dX7_byShares_106 rfl ?_
          refine V_iadd dX7_byShares_107 ?_
          refine V_dup2 dX7_byShares_108 rfl rfl ?_
          obtain ⟨g12, h⟩ := gu_o h
          refine V_laload dX7_byShares_109 (tq_110 hG) (ib_in g12) ?_
          refine V_aload_n dX7_byShares_110 rfl ?_
          refine V_getR (kf := 40) k_X7 (by decide) lk_RX7_121 rfl dX7_byShares_111 (tq_85 hG) rfl ?_
          refine V_iload dX7_byShares_114 rfl ?_
          obtain ⟨g13, h⟩ := gu_o h
          refine V_laload dX7_byShares_116 (tq_120 hG) (ib_in g13) ?_
          refine V_ladd dX7_byShares_117 ?_
          obtain ⟨g14, h⟩ := gu_o h
          obtain ⟨m15, e16, h⟩ := vl_o h
          refine V_lastore (μ2 := m15) dX7_byShares_118 (tq_110 hG) (ib_in g14) e16.symm ?_
          refine V_goto (tgt := 150) dX7_byShares_119 (by decide) ?_
          exact V_wk [true, true, false, false, true] rfl (T_X7_byShares_150 G fu hG (D_X7_byShares_67 fu n) ih _ _ _ _ h)
        · rw [if_neg c95] at h
          refine V_ifeq_t (tgt := 122) dX7_byShares_95 (by decide) (b2i_f.mp c95) ?_
          refine V_aload_n dX7_byShares_122 rfl ?_
          refine V_getR (kf := 26) k_X7 (by decide) lk_RX7_91 rfl dX7_byShares_123 (tq_85 hG) rfl ?_
          refine V_bipush (v := 7) dX7_byShares_126 rfl ?_
          refine V_iload_n dX7_byShares_128 rfl ?_
          refine V_imul dX7_byShares_129 ?_
          refine V_iconst (v := 2) dX7_byShares_130 rfl ?_
          refine V_iadd dX7_byShares_131 ?_
          refine V_dup2 dX7_byShares_132 rfl rfl ?_
          obtain ⟨g17, h⟩ := gu_o h
          refine V_laload dX7_byShares_133 (tq_110 hG) (ib_in g17) ?_
          refine V_aload_n dX7_byShares_134 rfl ?_
          refine V_iload_n dX7_byShares_135 rfl ?_
          refine V_iload dX7_byShares_136 rfl ?_
          refine V_aload_n dX7_byShares_138 rfl ?_
          refine V_getR (kf := 40) k_X7 (by decide) lk_RX7_121 rfl dX7_byShares_139 (tq_85 hG) rfl ?_
          refine V_iload dX7_byShares_142 rfl ?_
          obtain ⟨g18, h⟩ := gu_o h
          refine V_laload dX7_byShares_144 (tq_120 hG) (ib_in g18) ?_
          obtain ⟨x19, y20, h⟩ := bi_o h
          refine V_callV (as := [.int v1, .int v4, .long (μ.2.1 120 (Int32.toNatClampNeg v4))]) (q := 85) (rest := [.long (μ.2.1 110 (Int32.toNatClampNeg ((7 * v1) + 2))), .int ((7 * v1) + 2), .ref 110]) dX7_byShares_145 ov_mX7_fills lk_RX7_215 (by decide) (by decide) rfl rfl (Nat.le_of_ble_eq_true rfl) (tq_85 hG) rfl (VM_X7_fills G fu hG v1 v4 (μ.2.1 120 (Int32.toNatClampNeg v4)) μ _ y20) ?_
          refine V_ladd dX7_byShares_148 ?_
          obtain ⟨g21, h⟩ := gu_o h
          obtain ⟨m22, e23, h⟩ := vl_o h
          refine V_lastore (μ2 := m22) dX7_byShares_149 (tq_110 hG) (ib_in g21) e23.symm ?_
          exact V_wk [true, true, false, false, true] rfl (T_X7_byShares_150 G fu hG (D_X7_byShares_67 fu n) ih _ _ _ _ h)
def D_X7_byShares_37 (fu : Nat)  : Nat → Int32 → Int32 → Mem → Option Mem
  | 0, _, _, _ => none
  | n + 1, v1, v4, μ =>
    if (12 : Int32) ≤ v4 then
      D_X7_byShares_67 fu fu v1 0 μ
    else
      gu (ib v4 40) <|
      gu (ib v4 12) <|
      vl (wL μ 120 (Int32.toNatClampNeg v4) (μ.2.1 117 (Int32.toNatClampNeg v4))) fun m26 =>
      (D_X7_byShares_37 fu n) v1 (v4 + 1) m26
set_option maxRecDepth 20000 in
theorem T_X7_byShares_37 (G : GX) (fu : Nat)  (hG : gt G = tbl) : ∀ (n : Nat) (v1 : Int32) (v4 : Int32) (μ : Mem) (r : Mem) , D_X7_byShares_37 fu n v1 v4 μ = some r → V G mX7_byShares 37 [some (.ref 85), some (.int v1), none, none, some (.int v4)] [] μ (.inl none) (r) := by
  intro n
  induction n with
  | zero =>
    intro v1 v4 μ r h
    exact nomatch (show (none : Option Mem) = some r from h)
  | succ n ih =>
    intro v1 v4 μ r h
    rw [D_X7_byShares_37] at h
    refine V_iload dX7_byShares_37 rfl ?_
    refine V_bipush (v := 12) dX7_byShares_39 rfl ?_
    by_cases c41 : (12 : Int32) ≤ v4
    · rw [if_pos c41] at h
      refine V_icmpge_t (tgt := 64) dX7_byShares_41 (by decide) c41 ?_
      refine V_iconst (v := 0) dX7_byShares_64 rfl ?_
      refine V_istore (lv2 := [some (.ref 85), some (.int v1), none, none, some (.int 0)]) dX7_byShares_65 (by decide) rfl ?_
      exact V_wk [true, true, false, false, true] rfl (T_X7_byShares_67 G fu hG fu _ _ _ _ h)
    · rw [if_neg c41] at h
      refine V_icmpge_f (tgt := 64) dX7_byShares_41 (by decide) c41 ?_
      refine V_aload_n dX7_byShares_44 rfl ?_
      refine V_getR (kf := 40) k_X7 (by decide) lk_RX7_121 rfl dX7_byShares_45 (tq_85 hG) rfl ?_
      refine V_iload dX7_byShares_48 rfl ?_
      refine V_aload_n dX7_byShares_50 rfl ?_
      refine V_getR (kf := 37) k_X7 (by decide) lk_RX7_112 rfl dX7_byShares_51 (tq_85 hG) rfl ?_
      refine V_iload dX7_byShares_54 rfl ?_
      obtain ⟨g24, h⟩ := gu_o h
      refine V_laload dX7_byShares_56 (tq_117 hG) (ib_in g24) ?_
      obtain ⟨g25, h⟩ := gu_o h
      obtain ⟨m26, e27, h⟩ := vl_o h
      refine V_lastore (μ2 := m26) dX7_byShares_57 (tq_120 hG) (ib_in g25) e27.symm ?_
      refine V_iinc (v := v4 + 1) (lv2 := [some (.ref 85), some (.int v1), none, none, some (.int (v4 + 1))]) dX7_byShares_58 rfl rfl (by decide) rfl ?_
      refine V_goto (tgt := 37) dX7_byShares_61 (by decide) ?_
      exact V_wk [true, true, false, false, true] rfl (ih _ _ _ _ h)
def D_X7_byShares_0 (fu : Nat)  (a1 : Int32) (a2 : Int64) (μ : Mem) : Option Mem :=
  (D_X7_weightSum_0 fu μ 12).bind fun x1 =>
  if x1 = (0 : Int64) then
    gu (ib ((7 * a1) + 3) 175) <|
    gu (ib ((7 * a1) + 3) 175) <|
    vl (wL μ 110 (Int32.toNatClampNeg ((7 * a1) + 3)) ((μ.2.1 110 (Int32.toNatClampNeg ((7 * a1) + 3))) + a2)) fun m5 =>
    some m5
  else
    (D_X7_shares_0 fu a2 12 μ).bind fun x7 =>
    D_X7_byShares_37 fu fu a1 0 x7
set_option maxRecDepth 20000 in
theorem T_X7_byShares_0 (G : GX) (fu : Nat)  (hG : gt G = tbl) : ∀ (a1 : Int32) (a2 : Int64) (μ : Mem) (r : Mem) , D_X7_byShares_0 fu a1 a2 μ = some r → V G mX7_byShares 0 [some (.ref 85), some (.int a1), some (.long a2), none, none] [] μ (.inl none) (r) := by
  intro a1 a2 μ r h
  unfold D_X7_byShares_0 at h
  refine V_aload_n dX7_byShares_0 rfl ?_
  refine V_bipush (v := 12) dX7_byShares_1 rfl ?_
  obtain ⟨x1, y2, h⟩ := bi_o h
  refine V_callV (as := [.int 12]) (q := 85) (rest := []) dX7_byShares_3 ov_mX7_weightSum lk_RX7_194 (by decide) (by decide) rfl rfl (Nat.le_of_ble_eq_true rfl) (tq_85 hG) rfl (VM_X7_weightSum G fu μ hG 12 _ y2) ?_
  refine V_lconst (v := 0) dX7_byShares_6 rfl ?_
  refine V_lcmp dX7_byShares_7 ?_
  by_cases c8 : x1 = (0 : Int64)
  · rw [if_pos c8] at h
    refine V_ifne_f (tgt := 27) dX7_byShares_8 (by decide) ((lc_eq x1 0).mpr c8) ?_
    refine V_aload_n dX7_byShares_11 rfl ?_
    refine V_getR (kf := 26) k_X7 (by decide) lk_RX7_91 rfl dX7_byShares_12 (tq_85 hG) rfl ?_
    refine V_bipush (v := 7) dX7_byShares_15 rfl ?_
    refine V_iload_n dX7_byShares_17 rfl ?_
    refine V_imul dX7_byShares_18 ?_
    refine V_iconst (v := 3) dX7_byShares_19 rfl ?_
    refine V_iadd dX7_byShares_20 ?_
    refine V_dup2 dX7_byShares_21 rfl rfl ?_
    obtain ⟨g3, h⟩ := gu_o h
    refine V_laload dX7_byShares_22 (tq_110 hG) (ib_in g3) ?_
    refine V_lload_n dX7_byShares_23 rfl ?_
    refine V_ladd dX7_byShares_24 ?_
    obtain ⟨g4, h⟩ := gu_o h
    obtain ⟨m5, e6, h⟩ := vl_o h
    refine V_lastore (μ2 := m5) dX7_byShares_25 (tq_110 hG) (ib_in g4) e6.symm ?_
    cases h
    exact V_vret rfl dX7_byShares_26
  · rw [if_neg c8] at h
    refine V_ifne_t (tgt := 27) dX7_byShares_8 (by decide) (fun z => c8 ((lc_eq x1 0).mp z)) ?_
    refine V_aload_n dX7_byShares_27 rfl ?_
    refine V_lload_n dX7_byShares_28 rfl ?_
    refine V_bipush (v := 12) dX7_byShares_29 rfl ?_
    obtain ⟨x7, y8, h⟩ := bi_o h
    refine V_callV (as := [.long a2, .int 12]) (q := 85) (rest := []) dX7_byShares_31 ov_mX7_shares lk_RX7_211 (by decide) (by decide) rfl rfl (Nat.le_of_ble_eq_true rfl) (tq_85 hG) rfl (VM_X7_shares G fu hG a2 12 μ _ y8) ?_
    refine V_iconst (v := 0) dX7_byShares_34 rfl ?_
    refine V_istore (lv2 := [some (.ref 85), some (.int a1), some (.long a2), none, some (.int 0)]) dX7_byShares_35 (by decide) rfl ?_
    exact V_wk [true, true, false, false, true] rfl (T_X7_byShares_37 G fu hG fu _ _ _ _ h)
theorem VM_X7_byShares (G : GX) (fu : Nat)  (hG : gt G = tbl) (a1 : Int32) (a2 : Int64) (μ : Mem) (r : Mem) (h : D_X7_byShares_0 fu a1 a2 μ = some r) : VM G mX7_byShares [.ref 85, .int a1, .long a2] μ (.inl none) (r) := V_entry ok_mX7_byShares rfl rfl (Nat.le_of_ble_eq_true rfl) (T_X7_byShares_0 G fu hG a1 a2 μ r h)
def D_X7_rankOf_0 (fu : Nat) (μ : Mem)  (a1 : Int32) (a2 : Int32) : Option Int64 :=
  if (μ.1 85 32) = 0 then
    (D_X7_roomOf_0 fu μ a1 a2).bind fun x1 =>
    some (-x1)
  else
    if (μ.1 85 32) = (2 : Int32) then
      (D_X7_rungOf_0 μ a2 0).bind fun x3 =>
      gu (ib x3 40) <|
      some ((μ.1 93 (Int32.toNatClampNeg x3) : Int32).toInt64)
    else
      if (μ.1 85 32) = (1 : Int32) then
        some ((-a2 : Int32).toInt64)
      else
        some ((a2 : Int32).toInt64)
set_option maxRecDepth 20000 in
theorem T_X7_rankOf_0 (G : GX) (fu : Nat) (μ : Mem)  (hG : gt G = tbl) : ∀ (a1 : Int32) (a2 : Int32) (r : Int64) , D_X7_rankOf_0 fu μ a1 a2 = some r → V G mX7_rankOf 0 [some (.ref 85), some (.int a1), some (.int a2)] [] μ (.inl (some (.long r))) (μ) := by
  intro a1 a2 r h
  unfold D_X7_rankOf_0 at h
  refine V_aload_n dX7_rankOf_0 rfl ?_
  refine V_getI (kf := 32) k_X7 (by decide) lk_RX7_158 rfl dX7_rankOf_1 (tq_85 hG) rfl ?_
  by_cases c4 : (μ.1 85 32) = 0
  · rw [if_pos c4] at h
    refine V_ifne_f (tgt := 15) dX7_rankOf_4 (by decide) c4 ?_
    refine V_aload_n dX7_rankOf_7 rfl ?_
    refine V_iload_n dX7_rankOf_8 rfl ?_
    refine V_iload_n dX7_rankOf_9 rfl ?_
    obtain ⟨x1, y2, h⟩ := bi_o h
    refine V_callV (as := [.int a1, .int a2]) (q := 85) (rest := []) dX7_rankOf_10 ov_mX7_roomOf lk_RX7_219 (by decide) (by decide) rfl rfl (Nat.le_of_ble_eq_true rfl) (tq_85 hG) rfl (VM_X7_roomOf G fu μ hG a1 a2 _ y2) ?_
    refine V_lneg dX7_rankOf_13 ?_
    cases h
    exact V_lret rfl dX7_rankOf_14
  · rw [if_neg c4] at h
    refine V_ifne_t (tgt := 15) dX7_rankOf_4 (by decide) c4 ?_
    refine V_aload_n dX7_rankOf_15 rfl ?_
    refine V_getI (kf := 32) k_X7 (by decide) lk_RX7_158 rfl dX7_rankOf_16 (tq_85 hG) rfl ?_
    refine V_iconst (v := 2) dX7_rankOf_19 rfl ?_
    by_cases c20 : (μ.1 85 32) = (2 : Int32)
    · rw [if_pos c20] at h
      refine V_icmpne_f (tgt := 36) dX7_rankOf_20 (by decide) c20 ?_
      refine V_aload_n dX7_rankOf_23 rfl ?_
      refine V_getR (kf := 9) k_X7 (by decide) lk_RX7_39 rfl dX7_rankOf_24 (tq_85 hG) rfl ?_
      refine V_aload_n dX7_rankOf_27 rfl ?_
      refine V_iload_n dX7_rankOf_28 rfl ?_
      refine V_iconst (v := 0) dX7_rankOf_29 rfl ?_
      obtain ⟨x3, y4, h⟩ := bi_o h
      refine V_callV (as := [.int a2, .int 0]) (q := 85) (rest := [.ref 93]) dX7_rankOf_30 ov_mX7_rungOf lk_RX7_161 (by decide) (by decide) rfl rfl (Nat.le_of_ble_eq_true rfl) (tq_85 hG) rfl (VM_X7_rungOf G μ hG a2 0 _ y4) ?_
      obtain ⟨g5, h⟩ := gu_o h
      refine V_iaload dX7_rankOf_33 (tq_93 hG) (ib_in g5) ?_
      refine V_i2l dX7_rankOf_34 ?_
      cases h
      exact V_lret rfl dX7_rankOf_35
    · rw [if_neg c20] at h
      refine V_icmpne_t (tgt := 36) dX7_rankOf_20 (by decide) c20 ?_
      refine V_aload_n dX7_rankOf_36 rfl ?_
      refine V_getI (kf := 32) k_X7 (by decide) lk_RX7_158 rfl dX7_rankOf_37 (tq_85 hG) rfl ?_
      refine V_iconst (v := 1) dX7_rankOf_40 rfl ?_
      by_cases c41 : (μ.1 85 32) = (1 : Int32)
      · rw [if_pos c41] at h
        refine V_icmpne_f (tgt := 50) dX7_rankOf_41 (by decide) c41 ?_
        refine V_iload_n dX7_rankOf_44 rfl ?_
        refine V_ineg dX7_rankOf_45 ?_
        refine V_i2l dX7_rankOf_46 ?_
        refine V_goto (tgt := 52) dX7_rankOf_47 (by decide) ?_
        cases h
        exact V_lret rfl dX7_rankOf_52
      · rw [if_neg c41] at h
        refine V_icmpne_t (tgt := 50) dX7_rankOf_41 (by decide) c41 ?_
        refine V_iload_n dX7_rankOf_50 rfl ?_
        refine V_i2l dX7_rankOf_51 ?_
        cases h
        exact V_lret rfl dX7_rankOf_52
theorem VM_X7_rankOf (G : GX) (fu : Nat) (μ : Mem)  (hG : gt G = tbl) (a1 : Int32) (a2 : Int32) (r : Int64) (h : D_X7_rankOf_0 fu μ a1 a2 = some r) : VM G mX7_rankOf [.ref 85, .int a1, .int a2] μ (.inl (some (.long r))) (μ) := V_entry ok_mX7_rankOf rfl rfl (Nat.le_of_ble_eq_true rfl) (T_X7_rankOf_0 G fu μ hG a1 a2 r h)
def D_X7_picked_133 (fu : Nat) (μ : Mem)  (k2 : Int32 → Int32 → Int32 → Option Int32) (v1 : Int32) (v2 : Int32) (v3 : Int32) : Option Int32 :=
  k2 v1 v2 (v3 + 1)
set_option maxRecDepth 20000 in
theorem T_X7_picked_133 (G : GX) (fu : Nat) (μ : Mem)  (hG : gt G = tbl) (k2 : Int32 → Int32 → Int32 → Option Int32) (hk2 : ∀ (v1 : Int32) (v2 : Int32) (v3 : Int32) (r : Int32), k2 v1 v2 v3 = some r → V G mX7_picked 2 [some (.ref 85), some (.int v1), some (.int v2), some (.int v3), none, none] [] μ (.inl (some (.int r))) (μ)) : ∀ (v1 : Int32) (v2 : Int32) (v3 : Int32) (r : Int32) , D_X7_picked_133 fu μ k2 v1 v2 v3 = some r → V G mX7_picked 133 [some (.ref 85), some (.int v1), some (.int v2), some (.int v3), none, none] [] μ (.inl (some (.int r))) (μ) := by
  intro v1 v2 v3 r h
  unfold D_X7_picked_133 at h
  refine V_iinc (v := v3 + 1) (lv2 := [some (.ref 85), some (.int v1), some (.int v2), some (.int (v3 + 1)), none, none]) dX7_picked_133 rfl rfl (by decide) rfl ?_
  refine V_goto (tgt := 2) dX7_picked_136 (by decide) ?_
  exact V_wk [true, true, true, true, false, false] rfl (hk2 _ _ _ _ h)
def D_X7_picked_119 (fu : Nat) (μ : Mem)  (k2 : Int32 → Int32 → Int32 → Option Int32) (k34 : Int32 → Int32 → Int32 → Int32 → Int32 → Option Int32) (v1 : Int32) (v2 : Int32) (v3 : Int32) (v4 : Int32) (v5 : Int32) : Option Int32 :=
  k34 v1 v2 v3 v4 (v5 + 1)
set_option maxRecDepth 20000 in
theorem T_X7_picked_119 (G : GX) (fu : Nat) (μ : Mem)  (hG : gt G = tbl) (k2 : Int32 → Int32 → Int32 → Option Int32) (hk2 : ∀ (v1 : Int32) (v2 : Int32) (v3 : Int32) (r : Int32), k2 v1 v2 v3 = some r → V G mX7_picked 2 [some (.ref 85), some (.int v1), some (.int v2), some (.int v3), none, none] [] μ (.inl (some (.int r))) (μ)) (k34 : Int32 → Int32 → Int32 → Int32 → Int32 → Option Int32) (hk34 : ∀ (v1 : Int32) (v2 : Int32) (v3 : Int32) (v4 : Int32) (v5 : Int32) (r : Int32), k34 v1 v2 v3 v4 v5 = some r → V G mX7_picked 34 [some (.ref 85), some (.int v1), some (.int v2), some (.int v3), some (.int v4), some (.int v5)] [] μ (.inl (some (.int r))) (μ)) : ∀ (v1 : Int32) (v2 : Int32) (v3 : Int32) (v4 : Int32) (v5 : Int32) (r : Int32) , D_X7_picked_119 fu μ k2 k34 v1 v2 v3 v4 v5 = some r → V G mX7_picked 119 [some (.ref 85), some (.int v1), some (.int v2), some (.int v3), some (.int v4), some (.int v5)] [] μ (.inl (some (.int r))) (μ) := by
  intro v1 v2 v3 v4 v5 r h
  unfold D_X7_picked_119 at h
  refine V_iinc (v := v5 + 1) (lv2 := [some (.ref 85), some (.int v1), some (.int v2), some (.int v3), some (.int v4), some (.int (v5 + 1))]) dX7_picked_119 rfl rfl (by decide) rfl ?_
  refine V_goto (tgt := 34) dX7_picked_122 (by decide) ?_
  exact V_wk [true, true, true, true, true, true] rfl (hk34 _ _ _ _ _ _ h)
def D_X7_picked_116 (fu : Nat) (μ : Mem)  (k2 : Int32 → Int32 → Int32 → Option Int32) (k34 : Int32 → Int32 → Int32 → Int32 → Int32 → Option Int32) (v1 : Int32) (v2 : Int32) (v3 : Int32) (v5 : Int32) (s0 : Int32) (s1 : Int32) : Option Int32 :=
  D_X7_picked_119 fu μ k2 k34 v1 v2 v3 (s0 + s1) v5
set_option maxRecDepth 20000 in
theorem T_X7_picked_116 (G : GX) (fu : Nat) (μ : Mem)  (hG : gt G = tbl) (k2 : Int32 → Int32 → Int32 → Option Int32) (hk2 : ∀ (v1 : Int32) (v2 : Int32) (v3 : Int32) (r : Int32), k2 v1 v2 v3 = some r → V G mX7_picked 2 [some (.ref 85), some (.int v1), some (.int v2), some (.int v3), none, none] [] μ (.inl (some (.int r))) (μ)) (k34 : Int32 → Int32 → Int32 → Int32 → Int32 → Option Int32) (hk34 : ∀ (v1 : Int32) (v2 : Int32) (v3 : Int32) (v4 : Int32) (v5 : Int32) (r : Int32), k34 v1 v2 v3 v4 v5 = some r → V G mX7_picked 34 [some (.ref 85), some (.int v1), some (.int v2), some (.int v3), some (.int v4), some (.int v5)] [] μ (.inl (some (.int r))) (μ)) : ∀ (v1 : Int32) (v2 : Int32) (v3 : Int32) (v5 : Int32) (s0 : Int32) (s1 : Int32) (r : Int32) , D_X7_picked_116 fu μ k2 k34 v1 v2 v3 v5 s0 s1 = some r → V G mX7_picked 116 [some (.ref 85), some (.int v1), some (.int v2), some (.int v3), none, some (.int v5)] [.int s1, .int s0] μ (.inl (some (.int r))) (μ) := by
  intro v1 v2 v3 v5 s0 s1 r h
  unfold D_X7_picked_116 at h
  refine V_iadd dX7_picked_116 ?_
  refine V_istore (lv2 := [some (.ref 85), some (.int v1), some (.int v2), some (.int v3), some (.int (s0 + s1)), some (.int v5)]) dX7_picked_117 (by decide) rfl ?_
  exact V_wk [true, true, true, true, true, true] rfl (T_X7_picked_119 G fu μ hG k2 hk2 k34 hk34 _ _ _ _ _ _ h)
def D_X7_picked_111 (fu : Nat) (μ : Mem)  (k2 : Int32 → Int32 → Int32 → Option Int32) (k34 : Int32 → Int32 → Int32 → Int32 → Int32 → Option Int32) (v1 : Int32) (v2 : Int32) (v3 : Int32) (v5 : Int32) (s0 : Int32) : Option Int32 :=
  D_X7_picked_116 fu μ k2 k34 v1 v2 v3 v5 s0 1
set_option maxRecDepth 20000 in
theorem T_X7_picked_111 (G : GX) (fu : Nat) (μ : Mem)  (hG : gt G = tbl) (k2 : Int32 → Int32 → Int32 → Option Int32) (hk2 : ∀ (v1 : Int32) (v2 : Int32) (v3 : Int32) (r : Int32), k2 v1 v2 v3 = some r → V G mX7_picked 2 [some (.ref 85), some (.int v1), some (.int v2), some (.int v3), none, none] [] μ (.inl (some (.int r))) (μ)) (k34 : Int32 → Int32 → Int32 → Int32 → Int32 → Option Int32) (hk34 : ∀ (v1 : Int32) (v2 : Int32) (v3 : Int32) (v4 : Int32) (v5 : Int32) (r : Int32), k34 v1 v2 v3 v4 v5 = some r → V G mX7_picked 34 [some (.ref 85), some (.int v1), some (.int v2), some (.int v3), some (.int v4), some (.int v5)] [] μ (.inl (some (.int r))) (μ)) : ∀ (v1 : Int32) (v2 : Int32) (v3 : Int32) (v5 : Int32) (s0 : Int32) (r : Int32) , D_X7_picked_111 fu μ k2 k34 v1 v2 v3 v5 s0 = some r → V G mX7_picked 111 [some (.ref 85), some (.int v1), some (.int v2), some (.int v3), none, some (.int v5)] [.int s0] μ (.inl (some (.int r))) (μ) := by
  intro v1 v2 v3 v5 s0 r h
  unfold D_X7_picked_111 at h
  refine V_iconst (v := 1) dX7_picked_111 rfl ?_
  refine V_goto (tgt := 116) dX7_picked_112 (by decide) ?_
  exact V_wk [true, true, true, true, false, true] rfl (T_X7_picked_116 G fu μ hG k2 hk2 k34 hk34 _ _ _ _ _ _ _ h)
def D_X7_picked_115 (fu : Nat) (μ : Mem)  (k2 : Int32 → Int32 → Int32 → Option Int32) (k34 : Int32 → Int32 → Int32 → Int32 → Int32 → Option Int32) (v1 : Int32) (v2 : Int32) (v3 : Int32) (v5 : Int32) (s0 : Int32) : Option Int32 :=
  D_X7_picked_116 fu μ k2 k34 v1 v2 v3 v5 s0 0
set_option maxRecDepth 20000 in
theorem T_X7_picked_115 (G : GX) (fu : Nat) (μ : Mem)  (hG : gt G = tbl) (k2 : Int32 → Int32 → Int32 → Option Int32) (hk2 : ∀ (v1 : Int32) (v2 : Int32) (v3 : Int32) (r : Int32), k2 v1 v2 v3 = some r → V G mX7_picked 2 [some (.ref 85), some (.int v1), some (.int v2), some (.int v3), none, none] [] μ (.inl (some (.int r))) (μ)) (k34 : Int32 → Int32 → Int32 → Int32 → Int32 → Option Int32) (hk34 : ∀ (v1 : Int32) (v2 : Int32) (v3 : Int32) (v4 : Int32) (v5 : Int32) (r : Int32), k34 v1 v2 v3 v4 v5 = some r → V G mX7_picked 34 [some (.ref 85), some (.int v1), some (.int v2), some (.int v3), some (.int v4), some (.int v5)] [] μ (.inl (some (.int r))) (μ)) : ∀ (v1 : Int32) (v2 : Int32) (v3 : Int32) (v5 : Int32) (s0 : Int32) (r : Int32) , D_X7_picked_115 fu μ k2 k34 v1 v2 v3 v5 s0 = some r → V G mX7_picked 115 [some (.ref 85), some (.int v1), some (.int v2), some (.int v3), none, some (.int v5)] [.int s0] μ (.inl (some (.int r))) (μ) := by
  intro v1 v2 v3 v5 s0 r h
  unfold D_X7_picked_115 at h
  refine V_iconst (v := 0) dX7_picked_115 rfl ?_
  exact V_wk [true, true, true, true, false, true] rfl (T_X7_picked_116 G fu μ hG k2 hk2 k34 hk34 _ _ _ _ _ _ _ h)
def D_X7_picked_34 (fu : Nat) (μ : Mem)  (k2 : Int32 → Int32 → Int32 → Option Int32) : Nat → Int32 → Int32 → Int32 → Int32 → Int32 → Option Int32
  | 0, _, _, _, _, _ => none
  | n + 1, v1, v2, v3, v4, v5 =>
    if (12 : Int32) ≤ v5 then
      if v4 = v2 then
        some v3
      else
        D_X7_picked_133 fu μ k2 v1 v2 v3
    else
      if v5 = v3 then
        D_X7_picked_119 fu μ k2 (D_X7_picked_34 fu μ k2 n) v1 v2 v3 v4 v5
      else
        (D_X7_isOff_0 fu μ v1 v5).bind fun x5 =>
        if x5 = true then
          (D_X7_isGap_0 μ v5).bind fun x7 =>
          if x7 = true then
            D_X7_picked_119 fu μ k2 (D_X7_picked_34 fu μ k2 n) v1 v2 v3 v4 v5
          else
            (D_X7_rankOf_0 fu μ v1 v5).bind fun x9 =>
            (D_X7_rankOf_0 fu μ v1 v3).bind fun x11 =>
            if x9 < x11 then
              D_X7_picked_111 fu μ k2 (D_X7_picked_34 fu μ k2 n) v1 v2 v3 v5 v4
            else
              (D_X7_rankOf_0 fu μ v1 v5).bind fun x13 =>
              (D_X7_rankOf_0 fu μ v1 v3).bind fun x15 =>
              if x13 = x15 then
                if v3 ≤ v5 then
                  D_X7_picked_115 fu μ k2 (D_X7_picked_34 fu μ k2 n) v1 v2 v3 v5 v4
                else
                  D_X7_picked_111 fu μ k2 (D_X7_picked_34 fu μ k2 n) v1 v2 v3 v5 v4
              else
                D_X7_picked_115 fu μ k2 (D_X7_picked_34 fu μ k2 n) v1 v2 v3 v5 v4
        else
          D_X7_picked_119 fu μ k2 (D_X7_picked_34 fu μ k2 n) v1 v2 v3 v4 v5
set_option maxRecDepth 20000 in
theorem T_X7_picked_34 (G : GX) (fu : Nat) (μ : Mem)  (hG : gt G = tbl) (k2 : Int32 → Int32 → Int32 → Option Int32) (hk2 : ∀ (v1 : Int32) (v2 : Int32) (v3 : Int32) (r : Int32), k2 v1 v2 v3 = some r → V G mX7_picked 2 [some (.ref 85), some (.int v1), some (.int v2), some (.int v3), none, none] [] μ (.inl (some (.int r))) (μ)) : ∀ (n : Nat) (v1 : Int32) (v2 : Int32) (v3 : Int32) (v4 : Int32) (v5 : Int32) (r : Int32) , D_X7_picked_34 fu μ k2 n v1 v2 v3 v4 v5 = some r → V G mX7_picked 34 [some (.ref 85), some (.int v1), some (.int v2), some (.int v3), some (.int v4), some (.int v5)] [] μ (.inl (some (.int r))) (μ) := by
  intro n
  induction n with
  | zero =>
    intro v1 v2 v3 v4 v5 r h
    exact nomatch (show (none : Option Int32) = some r from h)
  | succ n ih =>
    intro v1 v2 v3 v4 v5 r h
    rw [D_X7_picked_34] at h
    refine V_iload dX7_picked_34 rfl ?_
    refine V_bipush (v := 12) dX7_picked_36 rfl ?_
    by_cases c38 : (12 : Int32) ≤ v5
    · rw [if_pos c38] at h
      refine V_icmpge_t (tgt := 125) dX7_picked_38 (by decide) c38 ?_
      refine V_iload dX7_picked_125 rfl ?_
      refine V_iload_n dX7_picked_127 rfl ?_
      by_cases c128 : v4 = v2
      · rw [if_pos c128] at h
        refine V_icmpne_f (tgt := 133) dX7_picked_128 (by decide) c128 ?_
        refine V_iload_n dX7_picked_131 rfl ?_
        cases h
        exact V_iret rfl dX7_picked_132
      · rw [if_neg c128] at h
        refine V_icmpne_t (tgt := 133) dX7_picked_128 (by decide) c128 ?_
        exact V_wk [true, true, true, true, false, false] rfl (T_X7_picked_133 G fu μ hG k2 hk2 _ _ _ _ h)
    · rw [if_neg c38] at h
      refine V_icmpge_f (tgt := 125) dX7_picked_38 (by decide) c38 ?_
      refine V_iload dX7_picked_41 rfl ?_
      refine V_iload_n dX7_picked_43 rfl ?_
      by_cases c44 : v5 = v3
      · rw [if_pos c44] at h
        refine V_icmpeq_t (tgt := 119) dX7_picked_44 (by decide) c44 ?_
        exact V_wk [true, true, true, true, true, true] rfl (T_X7_picked_119 G fu μ hG k2 hk2 (D_X7_picked_34 fu μ k2 n) ih _ _ _ _ _ _ h)
      · rw [if_neg c44] at h
        refine V_icmpeq_f (tgt := 119) dX7_picked_44 (by decide) c44 ?_
        refine V_aload_n dX7_picked_47 rfl ?_
        refine V_iload_n dX7_picked_48 rfl ?_
        refine V_iload dX7_picked_49 rfl ?_
        obtain ⟨x5, y6, h⟩ := bi_o h
        refine V_callV (as := [.int v1, .int v5]) (q := 85) (rest := []) dX7_picked_51 ov_mX7_isOff lk_RX7_197 (by decide) (by decide) rfl rfl (Nat.le_of_ble_eq_true rfl) (tq_85 hG) rfl (VM_X7_isOff G fu μ hG v1 v5 _ y6) ?_
        by_cases c54 : x5 = true
        · rw [if_pos c54] at h
          refine V_ifeq_f (tgt := 119) dX7_picked_54 (by decide) (b2i_t.mp c54) ?_
          refine V_aload_n dX7_picked_57 rfl ?_
          refine V_iload dX7_picked_58 rfl ?_
          obtain ⟨x7, y8, h⟩ := bi_o h
          refine V_callV (as := [.int v5]) (q := 85) (rest := []) dX7_picked_60 ov_mX7_isGap lk_RX7_205 (by decide) (by decide) rfl rfl (Nat.le_of_ble_eq_true rfl) (tq_85 hG) rfl (VM_X7_isGap G μ hG v5 _ y8) ?_
          by_cases c63 : x7 = true
          · rw [if_pos c63] at h
            refine V_ifeq_f (tgt := 69) dX7_picked_63 (by decide) (b2i_t.mp c63) ?_
            refine V_goto (tgt := 119) dX7_picked_66 (by decide) ?_
            exact V_wk [true, true, true, true, true, true] rfl (T_X7_picked_119 G fu μ hG k2 hk2 (D_X7_picked_34 fu μ k2 n) ih _ _ _ _ _ _ h)
          · rw [if_neg c63] at h
            refine V_ifeq_t (tgt := 69) dX7_picked_63 (by decide) (b2i_f.mp c63) ?_
            refine V_iload dX7_picked_69 rfl ?_
            refine V_aload_n dX7_picked_71 rfl ?_
            refine V_iload_n dX7_picked_72 rfl ?_
            refine V_iload dX7_picked_73 rfl ?_
            obtain ⟨x9, y10, h⟩ := bi_o h
            refine V_callV (as := [.int v1, .int v5]) (q := 85) (rest := [.int v4]) dX7_picked_75 ov_mX7_rankOf lk_RX7_222 (by decide) (by decide) rfl rfl (Nat.le_of_ble_eq_true rfl) (tq_85 hG) rfl (VM_X7_rankOf G fu μ hG v1 v5 _ y10) ?_
            refine V_aload_n dX7_picked_78 rfl ?_
            refine V_iload_n dX7_picked_79 rfl ?_
            refine V_iload_n dX7_picked_80 rfl ?_
            obtain ⟨x11, y12, h⟩ := bi_o h
            refine V_callV (as := [.int v1, .int v3]) (q := 85) (rest := [.long x9, .int v4]) dX7_picked_81 ov_mX7_rankOf lk_RX7_222 (by decide) (by decide) rfl rfl (Nat.le_of_ble_eq_true rfl) (tq_85 hG) rfl (VM_X7_rankOf G fu μ hG v1 v3 _ y12) ?_
            refine V_lcmp dX7_picked_84 ?_
            by_cases c85 : x9 < x11
            · rw [if_pos c85] at h
              refine V_iflt_t (tgt := 111) dX7_picked_85 (by decide) ((lc_lt x9 x11).mpr c85) ?_
              exact V_wk [true, true, true, true, false, true] rfl (T_X7_picked_111 G fu μ hG k2 hk2 (D_X7_picked_34 fu μ k2 n) ih _ _ _ _ _ _ h)
            · rw [if_neg c85] at h
              refine V_iflt_f (tgt := 111) dX7_picked_85 (by decide) (fun z => c85 ((lc_lt x9 x11).mp z)) ?_
              refine V_aload_n dX7_picked_88 rfl ?_
              refine V_iload_n dX7_picked_89 rfl ?_
              refine V_iload dX7_picked_90 rfl ?_
              obtain ⟨x13, y14, h⟩ := bi_o h
              refine V_callV (as := [.int v1, .int v5]) (q := 85) (rest := [.int v4]) dX7_picked_92 ov_mX7_rankOf lk_RX7_222 (by decide) (by decide) rfl rfl (Nat.le_of_ble_eq_true rfl) (tq_85 hG) rfl (VM_X7_rankOf G fu μ hG v1 v5 _ y14) ?_
              refine V_aload_n dX7_picked_95 rfl ?_
              refine V_iload_n dX7_picked_96 rfl ?_
              refine V_iload_n dX7_picked_97 rfl ?_
              obtain ⟨x15, y16, h⟩ := bi_o h
              refine V_callV (as := [.int v1, .int v3]) (q := 85) (rest := [.long x13, .int v4]) dX7_picked_98 ov_mX7_rankOf lk_RX7_222 (by decide) (by decide) rfl rfl (Nat.le_of_ble_eq_true rfl) (tq_85 hG) rfl (VM_X7_rankOf G fu μ hG v1 v3 _ y16) ?_
              refine V_lcmp dX7_picked_101 ?_
              by_cases c102 : x13 = x15
              · rw [if_pos c102] at h
                refine V_ifne_f (tgt := 115) dX7_picked_102 (by decide) ((lc_eq x13 x15).mpr c102) ?_
                refine V_iload dX7_picked_105 rfl ?_
                refine V_iload_n dX7_picked_107 rfl ?_
                by_cases c108 : v3 ≤ v5
                · rw [if_pos c108] at h
                  refine V_icmpge_t (tgt := 115) dX7_picked_108 (by decide) c108 ?_
                  exact V_wk [true, true, true, true, false, true] rfl (T_X7_picked_115 G fu μ hG k2 hk2 (D_X7_picked_34 fu μ k2 n) ih _ _ _ _ _ _ h)
                · rw [if_neg c108] at h
                  refine V_icmpge_f (tgt := 115) dX7_picked_108 (by decide) c108 ?_
                  exact V_wk [true, true, true, true, false, true] rfl (T_X7_picked_111 G fu μ hG k2 hk2 (D_X7_picked_34 fu μ k2 n) ih _ _ _ _ _ _ h)
              · rw [if_neg c102] at h
                refine V_ifne_t (tgt := 115) dX7_picked_102 (by decide) (fun z => c102 ((lc_eq x13 x15).mp z)) ?_
                exact V_wk [true, true, true, true, false, true] rfl (T_X7_picked_115 G fu μ hG k2 hk2 (D_X7_picked_34 fu μ k2 n) ih _ _ _ _ _ _ h)
        · rw [if_neg c54] at h
          refine V_ifeq_t (tgt := 119) dX7_picked_54 (by decide) (b2i_f.mp c54) ?_
          exact V_wk [true, true, true, true, true, true] rfl (T_X7_picked_119 G fu μ hG k2 hk2 (D_X7_picked_34 fu μ k2 n) ih _ _ _ _ _ _ h)
def D_X7_picked_2 (fu : Nat) (μ : Mem)  : Nat → Int32 → Int32 → Int32 → Option Int32
  | 0, _, _, _ => none
  | n + 1, v1, v2, v3 =>
    if (12 : Int32) ≤ v3 then
      some (-1)
    else
      (D_X7_isOff_0 fu μ v1 v3).bind fun x1 =>
      if x1 = true then
        (D_X7_isGap_0 μ v3).bind fun x3 =>
        if x3 = true then
          D_X7_picked_133 fu μ (D_X7_picked_2 fu μ n) v1 v2 v3
        else
          D_X7_picked_34 fu μ (D_X7_picked_2 fu μ n) fu v1 v2 v3 0 0
      else
        D_X7_picked_133 fu μ (D_X7_picked_2 fu μ n) v1 v2 v3
set_option maxRecDepth 20000 in
theorem T_X7_picked_2 (G : GX) (fu : Nat) (μ : Mem)  (hG : gt G = tbl) : ∀ (n : Nat) (v1 : Int32) (v2 : Int32) (v3 : Int32) (r : Int32) , D_X7_picked_2 fu μ n v1 v2 v3 = some r → V G mX7_picked 2 [some (.ref 85), some (.int v1), some (.int v2), some (.int v3), none, none] [] μ (.inl (some (.int r))) (μ) := by
  intro n
  induction n with
  | zero =>
    intro v1 v2 v3 r h
    exact nomatch (show (none : Option Int32) = some r from h)
  | succ n ih =>
    intro v1 v2 v3 r h
    rw [D_X7_picked_2] at h
    refine V_iload_n dX7_picked_2 rfl ?_
    refine V_bipush (v := 12) dX7_picked_3 rfl ?_
    by_cases c5 : (12 : Int32) ≤ v3
    · rw [if_pos c5] at h
      refine V_icmpge_t (tgt := 139) dX7_picked_5 (by decide) c5 ?_
      refine V_iconst (v := (-1)) dX7_picked_139 rfl ?_
      cases h
      exact V_iret rfl dX7_picked_140
    · rw [if_neg c5] at h
      refine V_icmpge_f (tgt := 139) dX7_picked_5 (by decide) c5 ?_
      refine V_aload_n dX7_picked_8 rfl ?_
      refine V_iload_n dX7_picked_9 rfl ?_
      refine V_iload_n dX7_picked_10 rfl ?_
      obtain ⟨x1, y2, h⟩ := bi_o h
      refine V_callV (as := [.int v1, .int v3]) (q := 85) (rest := []) dX7_picked_11 ov_mX7_isOff lk_RX7_197 (by decide) (by decide) rfl rfl (Nat.le_of_ble_eq_true rfl) (tq_85 hG) rfl (VM_X7_isOff G fu μ hG v1 v3 _ y2) ?_
      by_cases c14 : x1 = true
      · rw [if_pos c14] at h
        refine V_ifeq_f (tgt := 133) dX7_picked_14 (by decide) (b2i_t.mp c14) ?_
        refine V_aload_n dX7_picked_17 rfl ?_
        refine V_iload_n dX7_picked_18 rfl ?_
        obtain ⟨x3, y4, h⟩ := bi_o h
        refine V_callV (as := [.int v3]) (q := 85) (rest := []) dX7_picked_19 ov_mX7_isGap lk_RX7_205 (by decide) (by decide) rfl rfl (Nat.le_of_ble_eq_true rfl) (tq_85 hG) rfl (VM_X7_isGap G μ hG v3 _ y4) ?_
        by_cases c22 : x3 = true
        · rw [if_pos c22] at h
          refine V_ifeq_f (tgt := 28) dX7_picked_22 (by decide) (b2i_t.mp c22) ?_
          refine V_goto (tgt := 133) dX7_picked_25 (by decide) ?_
          exact V_wk [true, true, true, true, false, false] rfl (T_X7_picked_133 G fu μ hG (D_X7_picked_2 fu μ n) ih _ _ _ _ h)
        · rw [if_neg c22] at h
          refine V_ifeq_t (tgt := 28) dX7_picked_22 (by decide) (b2i_f.mp c22) ?_
          refine V_iconst (v := 0) dX7_picked_28 rfl ?_
          refine V_istore (lv2 := [some (.ref 85), some (.int v1), some (.int v2), some (.int v3), some (.int 0), none]) dX7_picked_29 (by decide) rfl ?_
          refine V_iconst (v := 0) dX7_picked_31 rfl ?_
          refine V_istore (lv2 := [some (.ref 85), some (.int v1), some (.int v2), some (.int v3), some (.int 0), some (.int 0)]) dX7_picked_32 (by decide) rfl ?_
          exact V_wk [true, true, true, true, true, true] rfl (T_X7_picked_34 G fu μ hG (D_X7_picked_2 fu μ n) ih fu _ _ _ _ _ _ h)
      · rw [if_neg c14] at h
        refine V_ifeq_t (tgt := 133) dX7_picked_14 (by decide) (b2i_f.mp c14) ?_
        exact V_wk [true, true, true, true, false, false] rfl (T_X7_picked_133 G fu μ hG (D_X7_picked_2 fu μ n) ih _ _ _ _ h)
def D_X7_picked_0 (fu : Nat) (μ : Mem)  (a1 : Int32) (a2 : Int32) : Option Int32 :=
  D_X7_picked_2 fu μ fu a1 a2 0
set_option maxRecDepth 20000 in
theorem T_X7_picked_0 (G : GX) (fu : Nat) (μ : Mem)  (hG : gt G = tbl) : ∀ (a1 : Int32) (a2 : Int32) (r : Int32) , D_X7_picked_0 fu μ a1 a2 = some r → V G mX7_picked 0 [some (.ref 85), some (.int a1), some (.int a2), none, none, none] [] μ (.inl (some (.int r))) (μ) := by
  intro a1 a2 r h
  unfold D_X7_picked_0 at h
  refine V_iconst (v := 0) dX7_picked_0 rfl ?_
  refine V_istore_n (lv2 := [some (.ref 85), some (.int a1), some (.int a2), some (.int 0), none, none]) dX7_picked_1 (by decide) rfl ?_
  exact V_wk [true, true, true, true, false, false] rfl (T_X7_picked_2 G fu μ hG fu _ _ _ _ h)
theorem VM_X7_picked (G : GX) (fu : Nat) (μ : Mem)  (hG : gt G = tbl) (a1 : Int32) (a2 : Int32) (r : Int32) (h : D_X7_picked_0 fu μ a1 a2 = some r) : VM G mX7_picked [.ref 85, .int a1, .int a2] μ (.inl (some (.int r))) (μ) := V_entry ok_mX7_picked rfl rfl (Nat.le_of_ble_eq_true rfl) (T_X7_picked_0 G fu μ hG a1 a2 r h)
def D_X7_byFull_94 (fu : Nat)  (v5 : Int64) (s1 : Int32) (s2 : Int32) (μ : Mem) : Option Mem :=
  gu (ib (s1 + s2) 175) <|
  gu (ib (s1 + s2) 175) <|
  vl (wL μ 110 (Int32.toNatClampNeg (s1 + s2)) ((μ.2.1 110 (Int32.toNatClampNeg (s1 + s2))) + v5)) fun m5 =>
  some m5
set_option maxRecDepth 20000 in
theorem T_X7_byFull_94 (G : GX) (fu : Nat)  (hG : gt G = tbl) : ∀ (v5 : Int64) (s1 : Int32) (s2 : Int32) (μ : Mem) (r : Mem) , D_X7_byFull_94 fu v5 s1 s2 μ = some r → V G mX7_byFull 94 [none, none, none, none, none, some (.long v5), none, none] [.int s2, .int s1, .ref 110] μ (.inl none) (r) := by
  intro v5 s1 s2 μ r h
  unfold D_X7_byFull_94 at h
  refine V_iadd dX7_byFull_94 ?_
  refine V_dup2 dX7_byFull_95 rfl rfl ?_
  obtain ⟨g3, h⟩ := gu_o h
  refine V_laload dX7_byFull_96 (tq_110 hG) (ib_in g3) ?_
  refine V_lload dX7_byFull_97 rfl ?_
  refine V_ladd dX7_byFull_99 ?_
  obtain ⟨g4, h⟩ := gu_o h
  obtain ⟨m5, e6, h⟩ := vl_o h
  refine V_lastore (μ2 := m5) dX7_byFull_100 (tq_110 hG) (ib_in g4) e6.symm ?_
  cases h
  exact V_vret rfl dX7_byFull_101
def D_X7_byFull_47 (fu : Nat)  : Nat → Int32 → Int32 → Int64 → Int32 → Mem → Option Mem
  | 0, _, _, _, _, _ => none
  | n + 1, v1, v4, v5, v7, μ =>
    if v4 ≤ v7 then
      if v4 = 0 then
        D_X7_byFull_94 fu v5 (7 * v1) 3 μ
      else
        D_X7_byFull_94 fu v5 (7 * v1) 2 μ
    else
      gu (ib v7 12) <|
      (D_X7_fills_0 fu v1 (μ.1 121 (Int32.toNatClampNeg v7)) v5 μ).bind fun x8 =>
      (D_X7_byFull_47 fu n) v1 v4 x8.1 (v7 + 1) x8.2
set_option maxRecDepth 20000 in
theorem T_X7_byFull_47 (G : GX) (fu : Nat)  (hG : gt G = tbl) : ∀ (n : Nat) (v1 : Int32) (v4 : Int32) (v5 : Int64) (v7 : Int32) (μ : Mem) (r : Mem) , D_X7_byFull_47 fu n v1 v4 v5 v7 μ = some r → V G mX7_byFull 47 [some (.ref 85), some (.int v1), none, none, some (.int v4), some (.long v5), none, some (.int v7)] [] μ (.inl none) (r) := by
  intro n
  induction n with
  | zero =>
    intro v1 v4 v5 v7 μ r h
    exact nomatch (show (none : Option Mem) = some r from h)
  | succ n ih =>
    intro v1 v4 v5 v7 μ r h
    rw [D_X7_byFull_47] at h
    refine V_iload dX7_byFull_47 rfl ?_
    refine V_iload dX7_byFull_49 rfl ?_
    by_cases c51 : v4 ≤ v7
    · rw [if_pos c51] at h
      refine V_icmpge_t (tgt := 76) dX7_byFull_51 (by decide) c51 ?_
      refine V_aload_n dX7_byFull_76 rfl ?_
      refine V_getR (kf := 26) k_X7 (by decide) lk_RX7_91 rfl dX7_byFull_77 (tq_85 hG) rfl ?_
      refine V_bipush (v := 7) dX7_byFull_80 rfl ?_
      refine V_iload_n dX7_byFull_82 rfl ?_
      refine V_imul dX7_byFull_83 ?_
      refine V_iload dX7_byFull_84 rfl ?_
      by_cases c86 : v4 = 0
      · rw [if_pos c86] at h
        refine V_ifne_f (tgt := 93) dX7_byFull_86 (by decide) c86 ?_
        refine V_iconst (v := 3) dX7_byFull_89 rfl ?_
        refine V_goto (tgt := 94) dX7_byFull_90 (by decide) ?_
        exact V_wk [false, false, false, false, false, true, false, false] rfl (T_X7_byFull_94 G fu hG _ _ _ _ _ h)
      · rw [if_neg c86] at h
        refine V_ifne_t (tgt := 93) dX7_byFull_86 (by decide) c86 ?_
        refine V_iconst (v := 2) dX7_byFull_93 rfl ?_
        exact V_wk [false, false, false, false, false, true, false, false] rfl (T_X7_byFull_94 G fu hG _ _ _ _ _ h)
    · rw [if_neg c51] at h
      refine V_icmpge_f (tgt := 76) dX7_byFull_51 (by decide) c51 ?_
      refine V_aload_n dX7_byFull_54 rfl ?_
      refine V_iload_n dX7_byFull_55 rfl ?_
      refine V_aload_n dX7_byFull_56 rfl ?_
      refine V_getR (kf := 41) k_X7 (by decide) lk_RX7_124 rfl dX7_byFull_57 (tq_85 hG) rfl ?_
      refine V_iload dX7_byFull_60 rfl ?_
      obtain ⟨g7, h⟩ := gu_o h
      refine V_iaload dX7_byFull_62 (tq_121 hG) (ib_in g7) ?_
      refine V_lload dX7_byFull_63 rfl ?_
      obtain ⟨x8, y9, h⟩ := bi_o h
      refine V_callV (as := [.int v1, .int (μ.1 121 (Int32.toNatClampNeg v7)), .long v5]) (q := 85) (rest := []) dX7_byFull_65 ov_mX7_fills lk_RX7_215 (by decide) (by decide) rfl rfl (Nat.le_of_ble_eq_true rfl) (tq_85 hG) rfl (VM_X7_fills G fu hG v1 (μ.1 121 (Int32.toNatClampNeg v7)) v5 μ _ y9) ?_
      refine V_lstore (lv2 := [some (.ref 85), some (.int v1), none, none, some (.int v4), some (.long x8.1), none, some (.int v7)]) dX7_byFull_68 (by decide) rfl ?_
      refine V_iinc (v := v7 + 1) (lv2 := [some (.ref 85), some (.int v1), none, none, some (.int v4), some (.long x8.1), none, some (.int (v7 + 1))]) dX7_byFull_70 rfl rfl (by decide) rfl ?_
      refine V_goto (tgt := 47) dX7_byFull_73 (by decide) ?_
      exact V_wk [true, true, false, false, true, true, false, true] rfl (ih _ _ _ _ _ _ h)
def D_X7_byFull_11 (fu : Nat)  : Nat → Int32 → Int64 → Int32 → Int32 → Mem → Option Mem
  | 0, _, _, _, _, _ => none
  | n + 1, v1, v2, v4, v5, μ =>
    if v5 = (-1 : Int32) then
      D_X7_byFull_47 fu fu v1 v4 v2 0 μ
    else
      gu (ib v4 12) <|
      vl (wI μ 121 (Int32.toNatClampNeg v4) v5) fun m11 =>
      (D_X7_picked_0 fu m11 v1 (v4 + 1)).bind fun x13 =>
      (D_X7_byFull_11 fu n) v1 v2 (v4 + 1) x13 m11
set_option maxRecDepth 20000 in
theorem T_X7_byFull_11 (G : GX) (fu : Nat)  (hG : gt G = tbl) : ∀ (n : Nat) (v1 : Int32) (v2 : Int64) (v4 : Int32) (v5 : Int32) (μ : Mem) (r : Mem) , D_X7_byFull_11 fu n v1 v2 v4 v5 μ = some r → V G mX7_byFull 11 [some (.ref 85), some (.int v1), some (.long v2), none, some (.int v4), some (.int v5), none, none] [] μ (.inl none) (r) := by
  intro n
  induction n with
  | zero =>
    intro v1 v2 v4 v5 μ r h
    exact nomatch (show (none : Option Mem) = some r from h)
  | succ n ih =>
    intro v1 v2 v4 v5 μ r h
    rw [D_X7_byFull_11] at h
    refine V_iload dX7_byFull_11 rfl ?_
    refine V_iconst (v := (-1)) dX7_byFull_13 rfl ?_
    by_cases c14 : v5 = (-1 : Int32)
    · rw [if_pos c14] at h
      refine V_icmpeq_t (tgt := 41) dX7_byFull_14 (by decide) c14 ?_
      refine V_lload_n dX7_byFull_41 rfl ?_
      refine V_lstore (lv2 := [some (.ref 85), some (.int v1), some (.long v2), none, some (.int v4), some (.long v2), none, none]) dX7_byFull_42 (by decide) rfl ?_
      refine V_iconst (v := 0) dX7_byFull_44 rfl ?_
      refine V_istore (lv2 := [some (.ref 85), some (.int v1), some (.long v2), none, some (.int v4), some (.long v2), none, some (.int 0)]) dX7_byFull_45 (by decide) rfl ?_
      exact V_wk [true, true, false, false, true, true, false, true] rfl (T_X7_byFull_47 G fu hG fu _ _ _ _ _ _ h)
    · rw [if_neg c14] at h
      refine V_icmpeq_f (tgt := 41) dX7_byFull_14 (by decide) c14 ?_
      refine V_aload_n dX7_byFull_17 rfl ?_
      refine V_getR (kf := 41) k_X7 (by decide) lk_RX7_124 rfl dX7_byFull_18 (tq_85 hG) rfl ?_
      refine V_iload dX7_byFull_21 rfl ?_
      refine V_iload dX7_byFull_23 rfl ?_
      obtain ⟨g10, h⟩ := gu_o h
      obtain ⟨m11, e12, h⟩ := vl_o h
      refine V_iastore (μ2 := m11) dX7_byFull_25 (tq_121 hG) (ib_in g10) e12.symm ?_
      refine V_iinc (v := v4 + 1) (lv2 := [some (.ref 85), some (.int v1), some (.long v2), none, some (.int (v4 + 1)), some (.int v5), none, none]) dX7_byFull_26 rfl rfl (by decide) rfl ?_
      refine V_aload_n dX7_byFull_29 rfl ?_
      refine V_iload_n dX7_byFull_30 rfl ?_
      refine V_iload dX7_byFull_31 rfl ?_
      obtain ⟨x13, y14, h⟩ := bi_o h
      refine V_callV (as := [.int v1, .int (v4 + 1)]) (q := 85) (rest := []) dX7_byFull_33 ov_mX7_picked lk_RX7_225 (by decide) (by decide) rfl rfl (Nat.le_of_ble_eq_true rfl) (tq_85 hG) rfl (VM_X7_picked G fu m11 hG v1 (v4 + 1) _ y14) ?_
      refine V_istore (lv2 := [some (.ref 85), some (.int v1), some (.long v2), none, some (.int (v4 + 1)), some (.int x13), none, none]) dX7_byFull_36 (by decide) rfl ?_
      refine V_goto (tgt := 11) dX7_byFull_38 (by decide) ?_
      exact V_wk [true, true, true, false, true, true, false, false] rfl (ih _ _ _ _ _ _ h)
def D_X7_byFull_0 (fu : Nat)  (a1 : Int32) (a2 : Int64) (μ : Mem) : Option Mem :=
  (D_X7_picked_0 fu μ a1 0).bind fun x1 =>
  D_X7_byFull_11 fu fu a1 a2 0 x1 μ
set_option maxRecDepth 20000 in
theorem T_X7_byFull_0 (G : GX) (fu : Nat)  (hG : gt G = tbl) : ∀ (a1 : Int32) (a2 : Int64) (μ : Mem) (r : Mem) , D_X7_byFull_0 fu a1 a2 μ = some r → V G mX7_byFull 0 [some (.ref 85), some (.int a1), some (.long a2), none, none, none, none, none] [] μ (.inl none) (r) := by
  intro a1 a2 μ r h
  unfold D_X7_byFull_0 at h
  refine V_iconst (v := 0) dX7_byFull_0 rfl ?_
  refine V_istore (lv2 := [some (.ref 85), some (.int a1), some (.long a2), none, some (.int 0), none, none, none]) dX7_byFull_1 (by decide) rfl ?_
  refine V_aload_n dX7_byFull_3 rfl ?_
  refine V_iload_n dX7_byFull_4 rfl ?_
  refine V_iconst (v := 0) dX7_byFull_5 rfl ?_
  obtain ⟨x1, y2, h⟩ := bi_o h
  refine V_callV (as := [.int a1, .int 0]) (q := 85) (rest := []) dX7_byFull_6 ov_mX7_picked lk_RX7_225 (by decide) (by decide) rfl rfl (Nat.le_of_ble_eq_true rfl) (tq_85 hG) rfl (VM_X7_picked G fu μ hG a1 0 _ y2) ?_
  refine V_istore (lv2 := [some (.ref 85), some (.int a1), some (.long a2), none, some (.int 0), some (.int x1), none, none]) dX7_byFull_9 (by decide) rfl ?_
  exact V_wk [true, true, true, false, true, true, false, false] rfl (T_X7_byFull_11 G fu hG fu _ _ _ _ _ _ h)
theorem VM_X7_byFull (G : GX) (fu : Nat)  (hG : gt G = tbl) (a1 : Int32) (a2 : Int64) (μ : Mem) (r : Mem) (h : D_X7_byFull_0 fu a1 a2 μ = some r) : VM G mX7_byFull [.ref 85, .int a1, .long a2] μ (.inl none) (r) := V_entry ok_mX7_byFull rfl rfl (Nat.le_of_ble_eq_true rfl) (T_X7_byFull_0 G fu hG a1 a2 μ r h)
def D_X7_laysAside_62 (fu : Nat)  : Nat → Int32 → Int32 → Mem → Option Mem
  | 0, _, _, _ => none
  | n + 1, v1, v2, μ =>
    if (7 : Int32) ≤ v2 then
      some μ
    else
      gu (ib ((7 * v1) + v2) 175) <|
      gu (ib v2 7) <|
      vl (wL μ 125 (Int32.toNatClampNeg v2) (μ.2.1 110 (Int32.toNatClampNeg ((7 * v1) + v2)))) fun m3 =>
      (D_X7_laysAside_62 fu n) v1 (v2 + 1) m3
set_option maxRecDepth 20000 in
theorem T_X7_laysAside_62 (G : GX) (fu : Nat)  (hG : gt G = tbl) : ∀ (n : Nat) (v1 : Int32) (v2 : Int32) (μ : Mem) (r : Mem) , D_X7_laysAside_62 fu n v1 v2 μ = some r → V G mX7_laysAside 62 [some (.ref 85), some (.int v1), some (.int v2)] [] μ (.inl none) (r) := by
  intro n
  induction n with
  | zero =>
    intro v1 v2 μ r h
    exact nomatch (show (none : Option Mem) = some r from h)
  | succ n ih =>
    intro v1 v2 μ r h
    rw [D_X7_laysAside_62] at h
    refine V_iload_n dX7_laysAside_62 rfl ?_
    refine V_bipush (v := 7) dX7_laysAside_63 rfl ?_
    by_cases c65 : (7 : Int32) ≤ v2
    · rw [if_pos c65] at h
      refine V_icmpge_t (tgt := 91) dX7_laysAside_65 (by decide) c65 ?_
      cases h
      exact V_vret rfl dX7_laysAside_91
    · rw [if_neg c65] at h
      refine V_icmpge_f (tgt := 91) dX7_laysAside_65 (by decide) c65 ?_
      refine V_aload_n dX7_laysAside_68 rfl ?_
      refine V_getR (kf := 45) k_X7 (by decide) lk_RX7_136 rfl dX7_laysAside_69 (tq_85 hG) rfl ?_
      refine V_iload_n dX7_laysAside_72 rfl ?_
      refine V_aload_n dX7_laysAside_73 rfl ?_
      refine V_getR (kf := 26) k_X7 (by decide) lk_RX7_91 rfl dX7_laysAside_74 (tq_85 hG) rfl ?_
      refine V_bipush (v := 7) dX7_laysAside_77 rfl ?_
      refine V_iload_n dX7_laysAside_79 rfl ?_
      refine V_imul dX7_laysAside_80 ?_
      refine V_iload_n dX7_laysAside_81 rfl ?_
      refine V_iadd dX7_laysAside_82 ?_
      obtain ⟨g1, h⟩ := gu_o h
      refine V_laload dX7_laysAside_83 (tq_110 hG) (ib_in g1) ?_
      obtain ⟨g2, h⟩ := gu_o h
      obtain ⟨m3, e4, h⟩ := vl_o h
      refine V_lastore (μ2 := m3) dX7_laysAside_84 (tq_125 hG) (ib_in g2) e4.symm ?_
      refine V_iinc (v := v2 + 1) (lv2 := [some (.ref 85), some (.int v1), some (.int (v2 + 1))]) dX7_laysAside_85 rfl rfl (by decide) rfl ?_
      refine V_goto (tgt := 62) dX7_laysAside_88 (by decide) ?_
      exact V_wk [true, true, true] rfl (ih _ _ _ _ h)
def D_X7_laysAside_2 (fu : Nat)  : Nat → Int32 → Int32 → Mem → Option Mem
  | 0, _, _, _ => none
  | n + 1, v1, v2, μ =>
    if (40 : Int32) ≤ v2 then
      D_X7_laysAside_62 fu fu v1 0 μ
    else
      gu (ib v2 40) <|
      gu (ib v2 40) <|
      vl (wL μ 122 (Int32.toNatClampNeg v2) (μ.2.1 99 (Int32.toNatClampNeg v2))) fun m7 =>
      gu (ib ((40 * v1) + v2) 1000) <|
      gu (ib v2 40) <|
      vl (wL m7 123 (Int32.toNatClampNeg v2) (m7.2.1 105 (Int32.toNatClampNeg ((40 * v1) + v2)))) fun m11 =>
      gu (ib ((40 * v1) + v2) 1000) <|
      gu (ib v2 40) <|
      vl (wL m11 124 (Int32.toNatClampNeg v2) (m11.2.1 106 (Int32.toNatClampNeg ((40 * v1) + v2)))) fun m15 =>
      (D_X7_laysAside_2 fu n) v1 (v2 + 1) m15
set_option maxRecDepth 20000 in
theorem T_X7_laysAside_2 (G : GX) (fu : Nat)  (hG : gt G = tbl) : ∀ (n : Nat) (v1 : Int32) (v2 : Int32) (μ : Mem) (r : Mem) , D_X7_laysAside_2 fu n v1 v2 μ = some r → V G mX7_laysAside 2 [some (.ref 85), some (.int v1), some (.int v2)] [] μ (.inl none) (r) := by
  intro n
  induction n with
  | zero =>
    intro v1 v2 μ r h
    exact nomatch (show (none : Option Mem) = some r from h)
  | succ n ih =>
    intro v1 v2 μ r h
    rw [D_X7_laysAside_2] at h
    refine V_iload_n dX7_laysAside_2 rfl ?_
    refine V_bipush (v := 40) dX7_laysAside_3 rfl ?_
    by_cases c5 : (40 : Int32) ≤ v2
    · rw [if_pos c5] at h
      refine V_icmpge_t (tgt := 60) dX7_laysAside_5 (by decide) c5 ?_
      refine V_iconst (v := 0) dX7_laysAside_60 rfl ?_
      refine V_istore_n (lv2 := [some (.ref 85), some (.int v1), some (.int 0)]) dX7_laysAside_61 (by decide) rfl ?_
      exact V_wk [true, true, true] rfl (T_X7_laysAside_62 G fu hG fu _ _ _ _ h)
    · rw [if_neg c5] at h
      refine V_icmpge_f (tgt := 60) dX7_laysAside_5 (by decide) c5 ?_
      refine V_aload_n dX7_laysAside_8 rfl ?_
      refine V_getR (kf := 42) k_X7 (by decide) lk_RX7_127 rfl dX7_laysAside_9 (tq_85 hG) rfl ?_
      refine V_iload_n dX7_laysAside_12 rfl ?_
      refine V_aload_n dX7_laysAside_13 rfl ?_
      refine V_getR (kf := 15) k_X7 (by decide) lk_RX7_57 rfl dX7_laysAside_14 (tq_85 hG) rfl ?_
      refine V_iload_n dX7_laysAside_17 rfl ?_
      obtain ⟨g5, h⟩ := gu_o h
      refine V_laload dX7_laysAside_18 (tq_99 hG) (ib_in g5) ?_
      obtain ⟨g6, h⟩ := gu_o h
      obtain ⟨m7, e8, h⟩ := vl_o h
      refine V_lastore (μ2 := m7) dX7_laysAside_19 (tq_122 hG) (ib_in g6) e8.symm ?_
      refine V_aload_n dX7_laysAside_20 rfl ?_
      refine V_getR (kf := 43) k_X7 (by decide) lk_RX7_130 rfl dX7_laysAside_21 (tq_85 hG) rfl ?_
      refine V_iload_n dX7_laysAside_24 rfl ?_
      refine V_aload_n dX7_laysAside_25 rfl ?_
      refine V_getR (kf := 21) k_X7 (by decide) lk_RX7_76 rfl dX7_laysAside_26 (tq_85 hG) rfl ?_
      refine V_bipush (v := 40) dX7_laysAside_29 rfl ?_
      refine V_iload_n dX7_laysAside_31 rfl ?_
      refine V_imul dX7_laysAside_32 ?_
      refine V_iload_n dX7_laysAside_33 rfl ?_
      refine V_iadd dX7_laysAside_34 ?_
      obtain ⟨g9, h⟩ := gu_o h
      refine V_laload dX7_laysAside_35 (tq_105 hG) (ib_in g9) ?_
      obtain ⟨g10, h⟩ := gu_o h
      obtain ⟨m11, e12, h⟩ := vl_o h
      refine V_lastore (μ2 := m11) dX7_laysAside_36 (tq_123 hG) (ib_in g10) e12.symm ?_
      refine V_aload_n dX7_laysAside_37 rfl ?_
      refine V_getR (kf := 44) k_X7 (by decide) lk_RX7_133 rfl dX7_laysAside_38 (tq_85 hG) rfl ?_
      refine V_iload_n dX7_laysAside_41 rfl ?_
      refine V_aload_n dX7_laysAside_42 rfl ?_
      refine V_getR (kf := 22) k_X7 (by decide) lk_RX7_79 rfl dX7_laysAside_43 (tq_85 hG) rfl ?_
      refine V_bipush (v := 40) dX7_laysAside_46 rfl ?_
      refine V_iload_n dX7_laysAside_48 rfl ?_
      refine V_imul dX7_laysAside_49 ?_
      refine V_iload_n dX7_laysAside_50 rfl ?_
      refine V_iadd dX7_laysAside_51 ?_
      obtain ⟨g13, h⟩ := gu_o h
      refine V_laload dX7_laysAside_52 (tq_106 hG) (ib_in g13) ?_
      obtain ⟨g14, h⟩ := gu_o h
      obtain ⟨m15, e16, h⟩ := vl_o h
      refine V_lastore (μ2 := m15) dX7_laysAside_53 (tq_124 hG) (ib_in g14) e16.symm ?_
      refine V_iinc (v := v2 + 1) (lv2 := [some (.ref 85), some (.int v1), some (.int (v2 + 1))]) dX7_laysAside_54 rfl rfl (by decide) rfl ?_
      refine V_goto (tgt := 2) dX7_laysAside_57 (by decide) ?_
      exact V_wk [true, true, true] rfl (ih _ _ _ _ h)
def D_X7_laysAside_0 (fu : Nat)  (a1 : Int32) (μ : Mem) : Option Mem :=
  D_X7_laysAside_2 fu fu a1 0 μ
set_option maxRecDepth 20000 in
theorem T_X7_laysAside_0 (G : GX) (fu : Nat)  (hG : gt G = tbl) : ∀ (a1 : Int32) (μ : Mem) (r : Mem) , D_X7_laysAside_0 fu a1 μ = some r → V G mX7_laysAside 0 [some (.ref 85), some (.int a1), none] [] μ (.inl none) (r) := by
  intro a1 μ r h
  unfold D_X7_laysAside_0 at h
  refine V_iconst (v := 0) dX7_laysAside_0 rfl ?_
  refine V_istore_n (lv2 := [some (.ref 85), some (.int a1), some (.int 0)]) dX7_laysAside_1 (by decide) rfl ?_
  exact V_wk [true, true, true] rfl (T_X7_laysAside_2 G fu hG fu _ _ _ _ h)
theorem VM_X7_laysAside (G : GX) (fu : Nat)  (hG : gt G = tbl) (a1 : Int32) (μ : Mem) (r : Mem) (h : D_X7_laysAside_0 fu a1 μ = some r) : VM G mX7_laysAside [.ref 85, .int a1] μ (.inl none) (r) := V_entry ok_mX7_laysAside rfl rfl (Nat.le_of_ble_eq_true rfl) (T_X7_laysAside_0 G fu hG a1 μ r h)
def D_X7_laysBack_69 (fu : Nat)  : Nat → Int32 → Int32 → Mem → Option Mem
  | 0, _, _, _ => none
  | n + 1, v1, v2, μ =>
    if (7 : Int32) ≤ v2 then
      some μ
    else
      gu (ib v2 7) <|
      gu (ib ((7 * v1) + v2) 175) <|
      vl (wL μ 110 (Int32.toNatClampNeg ((7 * v1) + v2)) (μ.2.1 125 (Int32.toNatClampNeg v2))) fun m3 =>
      (D_X7_laysBack_69 fu n) v1 (v2 + 1) m3
set_option maxRecDepth 20000 in
theorem T_X7_laysBack_69 (G : GX) (fu : Nat)  (hG : gt G = tbl) : ∀ (n : Nat) (v1 : Int32) (v2 : Int32) (μ : Mem) (r : Mem) , D_X7_laysBack_69 fu n v1 v2 μ = some r → V G mX7_laysBack 69 [some (.ref 85), some (.int v1), some (.int v2)] [] μ (.inl none) (r) := by
  intro n
  induction n with
  | zero =>
    intro v1 v2 μ r h
    exact nomatch (show (none : Option Mem) = some r from h)
  | succ n ih =>
    intro v1 v2 μ r h
    rw [D_X7_laysBack_69] at h
    refine V_iload_n dX7_laysBack_69 rfl ?_
    refine V_bipush (v := 7) dX7_laysBack_70 rfl ?_
    by_cases c72 : (7 : Int32) ≤ v2
    · rw [if_pos c72] at h
      refine V_icmpge_t (tgt := 98) dX7_laysBack_72 (by decide) c72 ?_
      cases h
      exact V_vret rfl dX7_laysBack_98
    · rw [if_neg c72] at h
      refine V_icmpge_f (tgt := 98) dX7_laysBack_72 (by decide) c72 ?_
      refine V_aload_n dX7_laysBack_75 rfl ?_
      refine V_getR (kf := 26) k_X7 (by decide) lk_RX7_91 rfl dX7_laysBack_76 (tq_85 hG) rfl ?_
      refine V_bipush (v := 7) dX7_laysBack_79 rfl ?_
      refine V_iload_n dX7_laysBack_81 rfl ?_
      refine V_imul dX7_laysBack_82 ?_
      refine V_iload_n dX7_laysBack_83 rfl ?_
      refine V_iadd dX7_laysBack_84 ?_
      refine V_aload_n dX7_laysBack_85 rfl ?_
      refine V_getR (kf := 45) k_X7 (by decide) lk_RX7_136 rfl dX7_laysBack_86 (tq_85 hG) rfl ?_
      refine V_iload_n dX7_laysBack_89 rfl ?_
      obtain ⟨g1, h⟩ := gu_o h
      refine V_laload dX7_laysBack_90 (tq_125 hG) (ib_in g1) ?_
      obtain ⟨g2, h⟩ := gu_o h
      obtain ⟨m3, e4, h⟩ := vl_o h
      refine V_lastore (μ2 := m3) dX7_laysBack_91 (tq_110 hG) (ib_in g2) e4.symm ?_
      refine V_iinc (v := v2 + 1) (lv2 := [some (.ref 85), some (.int v1), some (.int (v2 + 1))]) dX7_laysBack_92 rfl rfl (by decide) rfl ?_
      refine V_goto (tgt := 69) dX7_laysBack_95 (by decide) ?_
      exact V_wk [true, true, true] rfl (ih _ _ _ _ h)
def D_X7_laysBack_2 (fu : Nat)  : Nat → Int32 → Int32 → Mem → Option Mem
  | 0, _, _, _ => none
  | n + 1, v1, v2, μ =>
    if (40 : Int32) ≤ v2 then
      D_X7_laysBack_69 fu fu v1 0 μ
    else
      gu (ib v2 40) <|
      gu (ib v2 40) <|
      vl (wL μ 99 (Int32.toNatClampNeg v2) (μ.2.1 122 (Int32.toNatClampNeg v2))) fun m7 =>
      gu (ib v2 40) <|
      gu (ib ((40 * v1) + v2) 1000) <|
      vl (wL m7 105 (Int32.toNatClampNeg ((40 * v1) + v2)) (m7.2.1 123 (Int32.toNatClampNeg v2))) fun m11 =>
      gu (ib v2 40) <|
      gu (ib ((40 * v1) + v2) 1000) <|
      vl (wL m11 106 (Int32.toNatClampNeg ((40 * v1) + v2)) (m11.2.1 124 (Int32.toNatClampNeg v2))) fun m15 =>
      gu (ib v2 40) <|
      vl (wL m15 118 (Int32.toNatClampNeg v2) 0) fun m18 =>
      (D_X7_laysBack_2 fu n) v1 (v2 + 1) m18
set_option maxRecDepth 20000 in
theorem T_X7_laysBack_2 (G : GX) (fu : Nat)  (hG : gt G = tbl) : ∀ (n : Nat) (v1 : Int32) (v2 : Int32) (μ : Mem) (r : Mem) , D_X7_laysBack_2 fu n v1 v2 μ = some r → V G mX7_laysBack 2 [some (.ref 85), some (.int v1), some (.int v2)] [] μ (.inl none) (r) := by
  intro n
  induction n with
  | zero =>
    intro v1 v2 μ r h
    exact nomatch (show (none : Option Mem) = some r from h)
  | succ n ih =>
    intro v1 v2 μ r h
    rw [D_X7_laysBack_2] at h
    refine V_iload_n dX7_laysBack_2 rfl ?_
    refine V_bipush (v := 40) dX7_laysBack_3 rfl ?_
    by_cases c5 : (40 : Int32) ≤ v2
    · rw [if_pos c5] at h
      refine V_icmpge_t (tgt := 67) dX7_laysBack_5 (by decide) c5 ?_
      refine V_iconst (v := 0) dX7_laysBack_67 rfl ?_
      refine V_istore_n (lv2 := [some (.ref 85), some (.int v1), some (.int 0)]) dX7_laysBack_68 (by decide) rfl ?_
      exact V_wk [true, true, true] rfl (T_X7_laysBack_69 G fu hG fu _ _ _ _ h)
    · rw [if_neg c5] at h
      refine V_icmpge_f (tgt := 67) dX7_laysBack_5 (by decide) c5 ?_
      refine V_aload_n dX7_laysBack_8 rfl ?_
      refine V_getR (kf := 15) k_X7 (by decide) lk_RX7_57 rfl dX7_laysBack_9 (tq_85 hG) rfl ?_
      refine V_iload_n dX7_laysBack_12 rfl ?_
      refine V_aload_n dX7_laysBack_13 rfl ?_
      refine V_getR (kf := 42) k_X7 (by decide) lk_RX7_127 rfl dX7_laysBack_14 (tq_85 hG) rfl ?_
      refine V_iload_n dX7_laysBack_17 rfl ?_
      obtain ⟨g5, h⟩ := gu_o h
      refine V_laload dX7_laysBack_18 (tq_122 hG) (ib_in g5) ?_
      obtain ⟨g6, h⟩ := gu_o h
      obtain ⟨m7, e8, h⟩ := vl_o h
      refine V_lastore (μ2 := m7) dX7_laysBack_19 (tq_99 hG) (ib_in g6) e8.symm ?_
      refine V_aload_n dX7_laysBack_20 rfl ?_
      refine V_getR (kf := 21) k_X7 (by decide) lk_RX7_76 rfl dX7_laysBack_21 (tq_85 hG) rfl ?_
      refine V_bipush (v := 40) dX7_laysBack_24 rfl ?_
      refine V_iload_n dX7_laysBack_26 rfl ?_
      refine V_imul dX7_laysBack_27 ?_
      refine V_iload_n dX7_laysBack_28 rfl ?_
      refine V_iadd dX7_laysBack_29 ?_
      refine V_aload_n dX7_laysBack_30 rfl ?_
      refine V_getR (kf := 43) k_X7 (by decide) lk_RX7_130 rfl dX7_laysBack_31 (tq_85 hG) rfl ?_
      refine V_iload_n dX7_laysBack_34 rfl ?_
      obtain ⟨g9, h⟩ := gu_o h
      refine V_laload dX7_laysBack_35 (tq_123 hG) (ib_in g9) ?_
      obtain ⟨g10, h⟩ := gu_o h
      obtain ⟨m11, e12, h⟩ := vl_o h
      refine V_lastore (μ2 := m11) dX7_laysBack_36 (tq_105 hG) (ib_in g10) e12.symm ?_
      refine V_aload_n dX7_laysBack_37 rfl ?_
      refine V_getR (kf := 22) k_X7 (by decide) lk_RX7_79 rfl dX7_laysBack_38 (tq_85 hG) rfl ?_
      refine V_bipush (v := 40) dX7_laysBack_41 rfl ?_
      refine V_iload_n dX7_laysBack_43 rfl ?_
      refine V_imul dX7_laysBack_44 ?_
      refine V_iload_n dX7_laysBack_45 rfl ?_
      refine V_iadd dX7_laysBack_46 ?_
      refine V_aload_n dX7_laysBack_47 rfl ?_
      refine V_getR (kf := 44) k_X7 (by decide) lk_RX7_133 rfl dX7_laysBack_48 (tq_85 hG) rfl ?_
      refine V_iload_n dX7_laysBack_51 rfl ?_
      obtain ⟨g13, h⟩ := gu_o h
      refine V_laload dX7_laysBack_52 (tq_124 hG) (ib_in g13) ?_
      obtain ⟨g14, h⟩ := gu_o h
      obtain ⟨m15, e16, h⟩ := vl_o h
      refine V_lastore (μ2 := m15) dX7_laysBack_53 (tq_106 hG) (ib_in g14) e16.symm ?_
      refine V_aload_n dX7_laysBack_54 rfl ?_
      refine V_getR (kf := 38) k_X7 (by decide) lk_RX7_115 rfl dX7_laysBack_55 (tq_85 hG) rfl ?_
      refine V_iload_n dX7_laysBack_58 rfl ?_
      refine V_lconst (v := 0) dX7_laysBack_59 rfl ?_
      obtain ⟨g17, h⟩ := gu_o h
      obtain ⟨m18, e19, h⟩ := vl_o h
      refine V_lastore (μ2 := m18) dX7_laysBack_60 (tq_118 hG) (ib_in g17) e19.symm ?_
      refine V_iinc (v := v2 + 1) (lv2 := [some (.ref 85), some (.int v1), some (.int (v2 + 1))]) dX7_laysBack_61 rfl rfl (by decide) rfl ?_
      refine V_goto (tgt := 2) dX7_laysBack_64 (by decide) ?_
      exact V_wk [true, true, true] rfl (ih _ _ _ _ h)
def D_X7_laysBack_0 (fu : Nat)  (a1 : Int32) (μ : Mem) : Option Mem :=
  D_X7_laysBack_2 fu fu a1 0 μ
set_option maxRecDepth 20000 in
theorem T_X7_laysBack_0 (G : GX) (fu : Nat)  (hG : gt G = tbl) : ∀ (a1 : Int32) (μ : Mem) (r : Mem) , D_X7_laysBack_0 fu a1 μ = some r → V G mX7_laysBack 0 [some (.ref 85), some (.int a1), none] [] μ (.inl none) (r) := by
  intro a1 μ r h
  unfold D_X7_laysBack_0 at h
  refine V_iconst (v := 0) dX7_laysBack_0 rfl ?_
  refine V_istore_n (lv2 := [some (.ref 85), some (.int a1), some (.int 0)]) dX7_laysBack_1 (by decide) rfl ?_
  exact V_wk [true, true, true] rfl (T_X7_laysBack_2 G fu hG fu _ _ _ _ h)
theorem VM_X7_laysBack (G : GX) (fu : Nat)  (hG : gt G = tbl) (a1 : Int32) (μ : Mem) (r : Mem) (h : D_X7_laysBack_0 fu a1 μ = some r) : VM G mX7_laysBack [.ref 85, .int a1] μ (.inl none) (r) := V_entry ok_mX7_laysBack rfl rfl (Nat.le_of_ble_eq_true rfl) (T_X7_laysBack_0 G fu hG a1 μ r h)
def D_X7_laysFair_19 (fu : Nat)  : Nat → Int32 → Int32 → Mem → Option Mem
  | 0, _, _, _ => none
  | n + 1, v1, v4, μ =>
    if (40 : Int32) ≤ v4 then
      (D_X7_laysBack_0 fu v1 μ).bind fun x7 =>
      some x7
    else
      gu (ib v4 40) <|
      gu (ib v4 40) <|
      vl (wL μ 119 (Int32.toNatClampNeg v4) (μ.2.1 118 (Int32.toNatClampNeg v4))) fun m11 =>
      (D_X7_laysFair_19 fu n) v1 (v4 + 1) m11
set_option maxRecDepth 20000 in
theorem T_X7_laysFair_19 (G : GX) (fu : Nat)  (hG : gt G = tbl) : ∀ (n : Nat) (v1 : Int32) (v4 : Int32) (μ : Mem) (r : Mem) , D_X7_laysFair_19 fu n v1 v4 μ = some r → V G mX7_laysFair 19 [some (.ref 85), some (.int v1), none, none, some (.int v4)] [] μ (.inl none) (r) := by
  intro n
  induction n with
  | zero =>
    intro v1 v4 μ r h
    exact nomatch (show (none : Option Mem) = some r from h)
  | succ n ih =>
    intro v1 v4 μ r h
    rw [D_X7_laysFair_19] at h
    refine V_iload dX7_laysFair_19 rfl ?_
    refine V_bipush (v := 40) dX7_laysFair_21 rfl ?_
    by_cases c23 : (40 : Int32) ≤ v4
    · rw [if_pos c23] at h
      refine V_icmpge_t (tgt := 46) dX7_laysFair_23 (by decide) c23 ?_
      refine V_aload_n dX7_laysFair_46 rfl ?_
      refine V_iload_n dX7_laysFair_47 rfl ?_
      obtain ⟨x7, y8, h⟩ := bi_o h
      refine V_callV (as := [.int v1]) (q := 85) (rest := []) dX7_laysFair_48 ov_mX7_laysBack lk_RX7_238 (by decide) (by decide) rfl rfl (Nat.le_of_ble_eq_true rfl) (tq_85 hG) rfl (VM_X7_laysBack G fu hG v1 μ _ y8) ?_
      cases h
      exact V_vret rfl dX7_laysFair_51
    · rw [if_neg c23] at h
      refine V_icmpge_f (tgt := 46) dX7_laysFair_23 (by decide) c23 ?_
      refine V_aload_n dX7_laysFair_26 rfl ?_
      refine V_getR (kf := 39) k_X7 (by decide) lk_RX7_118 rfl dX7_laysFair_27 (tq_85 hG) rfl ?_
      refine V_iload dX7_laysFair_30 rfl ?_
      refine V_aload_n dX7_laysFair_32 rfl ?_
      refine V_getR (kf := 38) k_X7 (by decide) lk_RX7_115 rfl dX7_laysFair_33 (tq_85 hG) rfl ?_
      refine V_iload dX7_laysFair_36 rfl ?_
      obtain ⟨g9, h⟩ := gu_o h
      refine V_laload dX7_laysFair_38 (tq_118 hG) (ib_in g9) ?_
      obtain ⟨g10, h⟩ := gu_o h
      obtain ⟨m11, e12, h⟩ := vl_o h
      refine V_lastore (μ2 := m11) dX7_laysFair_39 (tq_119 hG) (ib_in g10) e12.symm ?_
      refine V_iinc (v := v4 + 1) (lv2 := [some (.ref 85), some (.int v1), none, none, some (.int (v4 + 1))]) dX7_laysFair_40 rfl rfl (by decide) rfl ?_
      refine V_goto (tgt := 19) dX7_laysFair_43 (by decide) ?_
      exact V_wk [true, true, false, false, true] rfl (ih _ _ _ _ h)
def D_X7_laysFair_0 (fu : Nat)  (a1 : Int32) (a2 : Int64) (μ : Mem) : Option Mem :=
  (D_X7_laysAside_0 fu a1 μ).bind fun x1 =>
  (D_X7_laysLike_0 fu a1 x1).bind fun x3 =>
  (D_X7_byShares_0 fu a1 a2 x3).bind fun x5 =>
  D_X7_laysFair_19 fu fu a1 0 x5
set_option maxRecDepth 20000 in
theorem T_X7_laysFair_0 (G : GX) (fu : Nat)  (hG : gt G = tbl) : ∀ (a1 : Int32) (a2 : Int64) (μ : Mem) (r : Mem) , D_X7_laysFair_0 fu a1 a2 μ = some r → V G mX7_laysFair 0 [some (.ref 85), some (.int a1), some (.long a2), none, none] [] μ (.inl none) (r) := by
  intro a1 a2 μ r h
  unfold D_X7_laysFair_0 at h
  refine V_aload_n dX7_laysFair_0 rfl ?_
  refine V_iload_n dX7_laysFair_1 rfl ?_
  obtain ⟨x1, y2, h⟩ := bi_o h
  refine V_callV (as := [.int a1]) (q := 85) (rest := []) dX7_laysFair_2 ov_mX7_laysAside lk_RX7_228 (by decide) (by decide) rfl rfl (Nat.le_of_ble_eq_true rfl) (tq_85 hG) rfl (VM_X7_laysAside G fu hG a1 μ _ y2) ?_
  refine V_aload_n dX7_laysFair_5 rfl ?_
  refine V_iload_n dX7_laysFair_6 rfl ?_
  obtain ⟨x3, y4, h⟩ := bi_o h
  refine V_callV (as := [.int a1]) (q := 85) (rest := []) dX7_laysFair_7 ov_mX7_laysLike lk_RX7_231 (by decide) (by decide) rfl rfl (Nat.le_of_ble_eq_true rfl) (tq_85 hG) rfl (VM_X7_laysLike G fu hG a1 x1 _ y4) ?_
  refine V_aload_n dX7_laysFair_10 rfl ?_
  refine V_iload_n dX7_laysFair_11 rfl ?_
  refine V_lload_n dX7_laysFair_12 rfl ?_
  obtain ⟨x5, y6, h⟩ := bi_o h
  refine V_callV (as := [.int a1, .long a2]) (q := 85) (rest := []) dX7_laysFair_13 ov_mX7_byShares lk_RX7_234 (by decide) (by decide) rfl rfl (Nat.le_of_ble_eq_true rfl) (tq_85 hG) rfl (VM_X7_byShares G fu hG a1 a2 x3 _ y6) ?_
  refine V_iconst (v := 0) dX7_laysFair_16 rfl ?_
  refine V_istore (lv2 := [some (.ref 85), some (.int a1), some (.long a2), none, some (.int 0)]) dX7_laysFair_17 (by decide) rfl ?_
  exact V_wk [true, true, false, false, true] rfl (T_X7_laysFair_19 G fu hG fu _ _ _ _ h)
theorem VM_X7_laysFair (G : GX) (fu : Nat)  (hG : gt G = tbl) (a1 : Int32) (a2 : Int64) (μ : Mem) (r : Mem) (h : D_X7_laysFair_0 fu a1 a2 μ = some r) : VM G mX7_laysFair [.ref 85, .int a1, .long a2] μ (.inl none) (r) := V_entry ok_mX7_laysFair rfl rfl (Nat.le_of_ble_eq_true rfl) (T_X7_laysFair_0 G fu hG a1 a2 μ r h)
def D_X7_laysUnlike_51 (fu : Nat)  (k5 : Int32 → Int64 → Int32 → Mem → Option (Int64 × Mem)) (v1 : Int32) (v2 : Int64) (v4 : Int32) (s1 : Int32) (s2 : Int64) (μ : Mem) : Option (Int64 × Mem) :=
  gu (ib s1 40) <|
  vl (wL μ 116 (Int32.toNatClampNeg s1) s2) fun m6 =>
  gu (ib v4 40) <|
  k5 v1 (v2 + (m6.2.1 116 (Int32.toNatClampNeg v4))) (v4 + 1) m6
set_option maxRecDepth 20000 in
theorem T_X7_laysUnlike_51 (G : GX) (fu : Nat)  (hG : gt G = tbl) (k5 : Int32 → Int64 → Int32 → Mem → Option (Int64 × Mem)) (hk5 : ∀ (v1 : Int32) (v2 : Int64) (v4 : Int32) (μ : Mem) (r : (Int64 × Mem)), k5 v1 v2 v4 μ = some r → V G mX7_laysUnlike 5 [some (.ref 85), some (.int v1), some (.long v2), none, some (.int v4), none, none] [] μ (.inl (some (.long r.1))) (r.2)) : ∀ (v1 : Int32) (v2 : Int64) (v4 : Int32) (s1 : Int32) (s2 : Int64) (μ : Mem) (r : (Int64 × Mem)) , D_X7_laysUnlike_51 fu k5 v1 v2 v4 s1 s2 μ = some r → V G mX7_laysUnlike 51 [some (.ref 85), some (.int v1), some (.long v2), none, some (.int v4), none, none] [.long s2, .int s1, .ref 116] μ (.inl (some (.long r.1))) (r.2) := by
  intro v1 v2 v4 s1 s2 μ r h
  unfold D_X7_laysUnlike_51 at h
  obtain ⟨g5, h⟩ := gu_o h
  obtain ⟨m6, e7, h⟩ := vl_o h
  refine V_lastore (μ2 := m6) dX7_laysUnlike_51 (tq_116 hG) (ib_in g5) e7.symm ?_
  refine V_lload_n dX7_laysUnlike_52 rfl ?_
  refine V_aload_n dX7_laysUnlike_53 rfl ?_
  refine V_getR (kf := 36) k_X7 (by decide) lk_RX7_109 rfl dX7_laysUnlike_54 (tq_85 hG) rfl ?_
  refine V_iload dX7_laysUnlike_57 rfl ?_
  obtain ⟨g8, h⟩ := gu_o h
  refine V_laload dX7_laysUnlike_59 (tq_116 hG) (ib_in g8) ?_
  refine V_ladd dX7_laysUnlike_60 ?_
  refine V_lstore_n (lv2 := [some (.ref 85), some (.int v1), some (.long (v2 + (m6.2.1 116 (Int32.toNatClampNeg v4)))), none, some (.int v4), none, none]) dX7_laysUnlike_61 (by decide) rfl ?_
  refine V_iinc (v := v4 + 1) (lv2 := [some (.ref 85), some (.int v1), some (.long (v2 + (m6.2.1 116 (Int32.toNatClampNeg v4)))), none, some (.int (v4 + 1)), none, none]) dX7_laysUnlike_62 rfl rfl (by decide) rfl ?_
  refine V_goto (tgt := 5) dX7_laysUnlike_65 (by decide) ?_
  exact V_wk [true, true, true, false, true, false, false] rfl (hk5 _ _ _ _ _ h)
def D_X7_laysUnlike_5 (fu : Nat)  : Nat → Int32 → Int64 → Int32 → Mem → Option (Int64 × Mem)
  | 0, _, _, _, _ => none
  | n + 1, v1, v2, v4, μ =>
    if (40 : Int32) ≤ v4 then
      some (v2, μ)
    else
      gu (ib v4 40) <|
      gu (ib v4 40) <|
      vl (((v1 : Int32).toInt64) * ((μ.2.1 118 (Int32.toNatClampNeg v4)) - (μ.2.1 119 (Int32.toNatClampNeg v4))) : Int64) fun x3 =>
      if x3 ≤ (0 : Int64) then
        D_X7_laysUnlike_51 fu (D_X7_laysUnlike_5 fu n) v1 v2 v4 v4 0 μ
      else
        D_X7_laysUnlike_51 fu (D_X7_laysUnlike_5 fu n) v1 v2 v4 v4 x3 μ
set_option maxRecDepth 20000 in
theorem T_X7_laysUnlike_5 (G : GX) (fu : Nat)  (hG : gt G = tbl) : ∀ (n : Nat) (v1 : Int32) (v2 : Int64) (v4 : Int32) (μ : Mem) (r : (Int64 × Mem)) , D_X7_laysUnlike_5 fu n v1 v2 v4 μ = some r → V G mX7_laysUnlike 5 [some (.ref 85), some (.int v1), some (.long v2), none, some (.int v4), none, none] [] μ (.inl (some (.long r.1))) (r.2) := by
  intro n
  induction n with
  | zero =>
    intro v1 v2 v4 μ r h
    exact nomatch (show (none : Option (Int64 × Mem)) = some r from h)
  | succ n ih =>
    intro v1 v2 v4 μ r h
    rw [D_X7_laysUnlike_5] at h
    refine V_iload dX7_laysUnlike_5 rfl ?_
    refine V_bipush (v := 40) dX7_laysUnlike_7 rfl ?_
    by_cases c9 : (40 : Int32) ≤ v4
    · rw [if_pos c9] at h
      refine V_icmpge_t (tgt := 68) dX7_laysUnlike_9 (by decide) c9 ?_
      refine V_lload_n dX7_laysUnlike_68 rfl ?_
      cases h
      exact V_lret rfl dX7_laysUnlike_69
    · rw [if_neg c9] at h
      refine V_icmpge_f (tgt := 68) dX7_laysUnlike_9 (by decide) c9 ?_
      refine V_iload_n dX7_laysUnlike_12 rfl ?_
      refine V_i2l dX7_laysUnlike_13 ?_
      refine V_aload_n dX7_laysUnlike_14 rfl ?_
      refine V_getR (kf := 38) k_X7 (by decide) lk_RX7_115 rfl dX7_laysUnlike_15 (tq_85 hG) rfl ?_
      refine V_iload dX7_laysUnlike_18 rfl ?_
      obtain ⟨g1, h⟩ := gu_o h
      refine V_laload dX7_laysUnlike_20 (tq_118 hG) (ib_in g1) ?_
      refine V_aload_n dX7_laysUnlike_21 rfl ?_
      refine V_getR (kf := 39) k_X7 (by decide) lk_RX7_118 rfl dX7_laysUnlike_22 (tq_85 hG) rfl ?_
      refine V_iload dX7_laysUnlike_25 rfl ?_
      obtain ⟨g2, h⟩ := gu_o h
      refine V_laload dX7_laysUnlike_27 (tq_119 hG) (ib_in g2) ?_
      refine V_lsub dX7_laysUnlike_28 ?_
      refine V_lmul dX7_laysUnlike_29 ?_
      obtain ⟨x3, e4, h⟩ := vl_o h
      refine V_topl e4 ?_
      refine V_lstore (lv2 := [some (.ref 85), some (.int v1), some (.long v2), none, some (.int v4), some (.long x3), none]) dX7_laysUnlike_30 (by decide) rfl ?_
      refine V_aload_n dX7_laysUnlike_32 rfl ?_
      refine V_getR (kf := 36) k_X7 (by decide) lk_RX7_109 rfl dX7_laysUnlike_33 (tq_85 hG) rfl ?_
      refine V_iload dX7_laysUnlike_36 rfl ?_
      refine V_lload dX7_laysUnlike_38 rfl ?_
      refine V_lconst (v := 0) dX7_laysUnlike_40 rfl ?_
      refine V_lcmp dX7_laysUnlike_41 ?_
      by_cases c42 : x3 ≤ (0 : Int64)
      · rw [if_pos c42] at h
        refine V_ifle_t (tgt := 50) dX7_laysUnlike_42 (by decide) ((lc_le x3 0).mpr c42) ?_
        refine V_lconst (v := 0) dX7_laysUnlike_50 rfl ?_
        exact V_wk [true, true, true, false, true, false, false] rfl (T_X7_laysUnlike_51 G fu hG (D_X7_laysUnlike_5 fu n) ih _ _ _ _ _ _ _ h)
      · rw [if_neg c42] at h
        refine V_ifle_f (tgt := 50) dX7_laysUnlike_42 (by decide) (fun z => c42 ((lc_le x3 0).mp z)) ?_
        refine V_lload dX7_laysUnlike_45 rfl ?_
        refine V_goto (tgt := 51) dX7_laysUnlike_47 (by decide) ?_
        exact V_wk [true, true, true, false, true, false, false] rfl (T_X7_laysUnlike_51 G fu hG (D_X7_laysUnlike_5 fu n) ih _ _ _ _ _ _ _ h)
def D_X7_laysUnlike_0 (fu : Nat)  (a1 : Int32) (μ : Mem) : Option (Int64 × Mem) :=
  D_X7_laysUnlike_5 fu fu a1 0 0 μ
set_option maxRecDepth 20000 in
theorem T_X7_laysUnlike_0 (G : GX) (fu : Nat)  (hG : gt G = tbl) : ∀ (a1 : Int32) (μ : Mem) (r : (Int64 × Mem)) , D_X7_laysUnlike_0 fu a1 μ = some r → V G mX7_laysUnlike 0 [some (.ref 85), some (.int a1), none, none, none, none, none] [] μ (.inl (some (.long r.1))) (r.2) := by
  intro a1 μ r h
  unfold D_X7_laysUnlike_0 at h
  refine V_lconst (v := 0) dX7_laysUnlike_0 rfl ?_
  refine V_lstore_n (lv2 := [some (.ref 85), some (.int a1), some (.long 0), none, none, none, none]) dX7_laysUnlike_1 (by decide) rfl ?_
  refine V_iconst (v := 0) dX7_laysUnlike_2 rfl ?_
  refine V_istore (lv2 := [some (.ref 85), some (.int a1), some (.long 0), none, some (.int 0), none, none]) dX7_laysUnlike_3 (by decide) rfl ?_
  exact V_wk [true, true, true, false, true, false, false] rfl (T_X7_laysUnlike_5 G fu hG fu _ _ _ _ _ h)
theorem VM_X7_laysUnlike (G : GX) (fu : Nat)  (hG : gt G = tbl) (a1 : Int32) (μ : Mem) (r : (Int64 × Mem)) (h : D_X7_laysUnlike_0 fu a1 μ = some r) : VM G mX7_laysUnlike [.ref 85, .int a1] μ (.inl (some (.long r.1))) (r.2) := V_entry ok_mX7_laysUnlike rfl rfl (Nat.le_of_ble_eq_true rfl) (T_X7_laysUnlike_0 G fu hG a1 μ r h)
def D_X7_contributes_90 (fu : Nat)  : Nat → Int32 → Int32 → Mem → Option Mem
  | 0, _, _, _ => none
  | n + 1, v1, v8, μ =>
    if (40 : Int32) ≤ v8 then
      some μ
    else
      gu (ib v8 40) <|
      gu (ib v8 40) <|
      vl ((μ.2.1 117 (Int32.toNatClampNeg v8)) - (μ.2.1 126 (Int32.toNatClampNeg v8)) : Int64) fun x17 =>
      gu (ib v8 40) <|
      gu (ib v8 40) <|
      vl (wL μ 118 (Int32.toNatClampNeg v8) ((μ.2.1 118 (Int32.toNatClampNeg v8)) + x17)) fun m21 =>
      gu (ib v8 40) <|
      gu (ib v8 40) <|
      vl (wL m21 99 (Int32.toNatClampNeg v8) ((m21.2.1 99 (Int32.toNatClampNeg v8)) + x17)) fun m25 =>
      gu (ib ((40 * v1) + v8) 1000) <|
      gu (ib ((40 * v1) + v8) 1000) <|
      vl (wL m25 105 (Int32.toNatClampNeg ((40 * v1) + v8)) ((m25.2.1 105 (Int32.toNatClampNeg ((40 * v1) + v8))) + x17)) fun m29 =>
      gu (ib ((40 * v1) + v8) 1000) <|
      gu (ib ((40 * v1) + v8) 1000) <|
      vl (wL m29 107 (Int32.toNatClampNeg ((40 * v1) + v8)) ((m29.2.1 107 (Int32.toNatClampNeg ((40 * v1) + v8))) + x17)) fun m33 =>
      (D_X7_contributes_90 fu n) v1 (v8 + 1) m33
set_option maxRecDepth 20000 in
theorem T_X7_contributes_90 (G : GX) (fu : Nat)  (hG : gt G = tbl) : ∀ (n : Nat) (v1 : Int32) (v8 : Int32) (μ : Mem) (r : Mem) , D_X7_contributes_90 fu n v1 v8 μ = some r → V G mX7_contributes 90 [some (.ref 85), some (.int v1), none, none, none, none, none, none, some (.int v8), none, none] [] μ (.inl none) (r) := by
  intro n
  induction n with
  | zero =>
    intro v1 v8 μ r h
    exact nomatch (show (none : Option Mem) = some r from h)
  | succ n ih =>
    intro v1 v8 μ r h
    rw [D_X7_contributes_90] at h
    refine V_iload dX7_contributes_90 rfl ?_
    refine V_bipush (v := 40) dX7_contributes_92 rfl ?_
    by_cases c94 : (40 : Int32) ≤ v8
    · rw [if_pos c94] at h
      refine V_icmpge_t (tgt := 178) dX7_contributes_94 (by decide) c94 ?_
      cases h
      exact V_vret rfl dX7_contributes_178
    · rw [if_neg c94] at h
      refine V_icmpge_f (tgt := 178) dX7_contributes_94 (by decide) c94 ?_
      refine V_aload_n dX7_contributes_97 rfl ?_
      refine V_getR (kf := 37) k_X7 (by decide) lk_RX7_112 rfl dX7_contributes_98 (tq_85 hG) rfl ?_
      refine V_iload dX7_contributes_101 rfl ?_
      obtain ⟨g15, h⟩ := gu_o h
      refine V_laload dX7_contributes_103 (tq_117 hG) (ib_in g15) ?_
      refine V_aload_n dX7_contributes_104 rfl ?_
      refine V_getR (kf := 46) k_X7 (by decide) lk_RX7_139 rfl dX7_contributes_105 (tq_85 hG) rfl ?_
      refine V_iload dX7_contributes_108 rfl ?_
      obtain ⟨g16, h⟩ := gu_o h
      refine V_laload dX7_contributes_110 (tq_126 hG) (ib_in g16) ?_
      refine V_lsub dX7_contributes_111 ?_
      obtain ⟨x17, e18, h⟩ := vl_o h
      refine V_topl e18 ?_
      refine V_lstore (lv2 := [some (.ref 85), some (.int v1), none, none, none, none, none, none, some (.int v8), some (.long x17), none]) dX7_contributes_112 (by decide) rfl ?_
      refine V_aload_n dX7_contributes_114 rfl ?_
      refine V_getR (kf := 38) k_X7 (by decide) lk_RX7_115 rfl dX7_contributes_115 (tq_85 hG) rfl ?_
      refine V_iload dX7_contributes_118 rfl ?_
      refine V_dup2 dX7_contributes_120 rfl rfl ?_
      obtain ⟨g19, h⟩ := gu_o h
      refine V_laload dX7_contributes_121 (tq_118 hG) (ib_in g19) ?_
      refine V_lload dX7_contributes_122 rfl ?_
      refine V_ladd dX7_contributes_124 ?_
      obtain ⟨g20, h⟩ := gu_o h
      obtain ⟨m21, e22, h⟩ := vl_o h
      refine V_lastore (μ2 := m21) dX7_contributes_125 (tq_118 hG) (ib_in g20) e22.symm ?_
      refine V_aload_n dX7_contributes_126 rfl ?_
      refine V_getR (kf := 15) k_X7 (by decide) lk_RX7_57 rfl dX7_contributes_127 (tq_85 hG) rfl ?_
      refine V_iload dX7_contributes_130 rfl ?_
      refine V_dup2 dX7_contributes_132 rfl rfl ?_
      obtain ⟨g23, h⟩ := gu_o h
      refine V_laload dX7_contributes_133 (tq_99 hG) (ib_in g23) ?_
      refine V_lload dX7_contributes_134 rfl ?_
      refine V_ladd dX7_contributes_136 ?_
      obtain ⟨g24, h⟩ := gu_o h
      obtain ⟨m25, e26, h⟩ := vl_o h
      refine V_lastore (μ2 := m25) dX7_contributes_137 (tq_99 hG) (ib_in g24) e26.symm ?_
      refine V_aload_n dX7_contributes_138 rfl ?_
      refine V_getR (kf := 21) k_X7 (by decide) lk_RX7_76 rfl dX7_contributes_139 (tq_85 hG) rfl ?_
      refine V_bipush (v := 40) dX7_contributes_142 rfl ?_
      refine V_iload_n dX7_contributes_144 rfl ?_
      refine V_imul dX7_contributes_145 ?_
      refine V_iload dX7_contributes_146 rfl ?_
      refine V_iadd dX7_contributes_148 ?_
      refine V_dup2 dX7_contributes_149 rfl rfl ?_
      obtain ⟨g27, h⟩ := gu_o h
      refine V_laload dX7_contributes_150 (tq_105 hG) (ib_in g27) ?_
      refine V_lload dX7_contributes_151 rfl ?_
      refine V_ladd dX7_contributes_153 ?_
      obtain ⟨g28, h⟩ := gu_o h
      obtain ⟨m29, e30, h⟩ := vl_o h
      refine V_lastore (μ2 := m29) dX7_contributes_154 (tq_105 hG) (ib_in g28) e30.symm ?_
      refine V_aload_n dX7_contributes_155 rfl ?_
      refine V_getR (kf := 23) k_X7 (by decide) lk_RX7_82 rfl dX7_contributes_156 (tq_85 hG) rfl ?_
      refine V_bipush (v := 40) dX7_contributes_159 rfl ?_
      refine V_iload_n dX7_contributes_161 rfl ?_
      refine V_imul dX7_contributes_162 ?_
      refine V_iload dX7_contributes_163 rfl ?_
      refine V_iadd dX7_contributes_165 ?_
      refine V_dup2 dX7_contributes_166 rfl rfl ?_
      obtain ⟨g31, h⟩ := gu_o h
      refine V_laload dX7_contributes_167 (tq_107 hG) (ib_in g31) ?_
      refine V_lload dX7_contributes_168 rfl ?_
      refine V_ladd dX7_contributes_170 ?_
      obtain ⟨g32, h⟩ := gu_o h
      obtain ⟨m33, e34, h⟩ := vl_o h
      refine V_lastore (μ2 := m33) dX7_contributes_171 (tq_107 hG) (ib_in g32) e34.symm ?_
      refine V_iinc (v := v8 + 1) (lv2 := [some (.ref 85), some (.int v1), none, none, none, none, none, none, some (.int (v8 + 1)), some (.long x17), none]) dX7_contributes_172 rfl rfl (by decide) rfl ?_
      refine V_goto (tgt := 90) dX7_contributes_175 (by decide) ?_
      exact V_wk [true, true, false, false, false, false, false, false, true, false, false] rfl (ih _ _ _ _ h)
def D_X7_contributes_46 (fu : Nat)  : Nat → Int32 → Int64 → Int32 → Mem → Option Mem
  | 0, _, _, _, _ => none
  | n + 1, v1, v6, v8, μ =>
    if (40 : Int32) ≤ v8 then
      (D_X7_laysUnlike_0 fu (-1) μ).bind fun x11 =>
      (D_X7_shares_0 fu v6 40 x11.2).bind fun x13 =>
      D_X7_contributes_90 fu fu v1 0 x13
    else
      gu (ib v8 40) <|
      gu (ib v8 40) <|
      vl (wL μ 126 (Int32.toNatClampNeg v8) (μ.2.1 117 (Int32.toNatClampNeg v8))) fun m37 =>
      (D_X7_contributes_46 fu n) v1 v6 (v8 + 1) m37
set_option maxRecDepth 20000 in
theorem T_X7_contributes_46 (G : GX) (fu : Nat)  (hG : gt G = tbl) : ∀ (n : Nat) (v1 : Int32) (v6 : Int64) (v8 : Int32) (μ : Mem) (r : Mem) , D_X7_contributes_46 fu n v1 v6 v8 μ = some r → V G mX7_contributes 46 [some (.ref 85), some (.int v1), none, none, none, none, some (.long v6), none, some (.int v8), none, none] [] μ (.inl none) (r) := by
  intro n
  induction n with
  | zero =>
    intro v1 v6 v8 μ r h
    exact nomatch (show (none : Option Mem) = some r from h)
  | succ n ih =>
    intro v1 v6 v8 μ r h
    rw [D_X7_contributes_46] at h
    refine V_iload dX7_contributes_46 rfl ?_
    refine V_bipush (v := 40) dX7_contributes_48 rfl ?_
    by_cases c50 : (40 : Int32) ≤ v8
    · rw [if_pos c50] at h
      refine V_icmpge_t (tgt := 73) dX7_contributes_50 (by decide) c50 ?_
      refine V_aload_n dX7_contributes_73 rfl ?_
      refine V_iconst (v := (-1)) dX7_contributes_74 rfl ?_
      obtain ⟨x11, y12, h⟩ := bi_o h
      refine V_callV (as := [.int (-1)]) (q := 85) (rest := []) dX7_contributes_75 ov_mX7_laysUnlike lk_RX7_241 (by decide) (by decide) rfl rfl (Nat.le_of_ble_eq_true rfl) (tq_85 hG) rfl (VM_X7_laysUnlike G fu hG (-1) μ _ y12) ?_
      refine V_pop2L dX7_contributes_78 rfl ?_
      refine V_aload_n dX7_contributes_79 rfl ?_
      refine V_lload dX7_contributes_80 rfl ?_
      refine V_bipush (v := 40) dX7_contributes_82 rfl ?_
      obtain ⟨x13, y14, h⟩ := bi_o h
      refine V_callV (as := [.long v6, .int 40]) (q := 85) (rest := []) dX7_contributes_84 ov_mX7_shares lk_RX7_211 (by decide) (by decide) rfl rfl (Nat.le_of_ble_eq_true rfl) (tq_85 hG) rfl (VM_X7_shares G fu hG v6 40 x11.2 _ y14) ?_
      refine V_iconst (v := 0) dX7_contributes_87 rfl ?_
      refine V_istore (lv2 := [some (.ref 85), some (.int v1), none, none, none, none, some (.long v6), none, some (.int 0), none, none]) dX7_contributes_88 (by decide) rfl ?_
      exact V_wk [true, true, false, false, false, false, false, false, true, false, false] rfl (T_X7_contributes_90 G fu hG fu _ _ _ _ h)
    · rw [if_neg c50] at h
      refine V_icmpge_f (tgt := 73) dX7_contributes_50 (by decide) c50 ?_
      refine V_aload_n dX7_contributes_53 rfl ?_
      refine V_getR (kf := 46) k_X7 (by decide) lk_RX7_139 rfl dX7_contributes_54 (tq_85 hG) rfl ?_
      refine V_iload dX7_contributes_57 rfl ?_
      refine V_aload_n dX7_contributes_59 rfl ?_
      refine V_getR (kf := 37) k_X7 (by decide) lk_RX7_112 rfl dX7_contributes_60 (tq_85 hG) rfl ?_
      refine V_iload dX7_contributes_63 rfl ?_
      obtain ⟨g35, h⟩ := gu_o h
      refine V_laload dX7_contributes_65 (tq_117 hG) (ib_in g35) ?_
      obtain ⟨g36, h⟩ := gu_o h
      obtain ⟨m37, e38, h⟩ := vl_o h
      refine V_lastore (μ2 := m37) dX7_contributes_66 (tq_126 hG) (ib_in g36) e38.symm ?_
      refine V_iinc (v := v8 + 1) (lv2 := [some (.ref 85), some (.int v1), none, none, none, none, some (.long v6), none, some (.int (v8 + 1)), none, none]) dX7_contributes_67 rfl rfl (by decide) rfl ?_
      refine V_goto (tgt := 46) dX7_contributes_70 (by decide) ?_
      exact V_wk [true, true, false, false, false, false, true, false, true, false, false] rfl (ih _ _ _ _ _ h)
def D_X7_contributes_0 (fu : Nat)  (a1 : Int32) (μ : Mem) : Option Mem :=
  (D_X7_laysUnlike_0 fu 1 μ).bind fun x1 =>
  (D_X7_laysUnlike_0 fu (-1) x1.2).bind fun x3 =>
  (D_X7_least_0 x3.2 x1.1 x3.1).bind fun x5 =>
  if x5 = (0 : Int64) then
    some x3.2
  else
    (D_X7_laysUnlike_0 fu 1 x3.2).bind fun x7 =>
    (D_X7_shares_0 fu x5 40 x7.2).bind fun x9 =>
    D_X7_contributes_46 fu fu a1 x5 0 x9
set_option maxRecDepth 20000 in
theorem T_X7_contributes_0 (G : GX) (fu : Nat)  (hG : gt G = tbl) : ∀ (a1 : Int32) (μ : Mem) (r : Mem) , D_X7_contributes_0 fu a1 μ = some r → V G mX7_contributes 0 [some (.ref 85), some (.int a1), none, none, none, none, none, none, none, none, none] [] μ (.inl none) (r) := by
  intro a1 μ r h
  unfold D_X7_contributes_0 at h
  refine V_aload_n dX7_contributes_0 rfl ?_
  refine V_iconst (v := 1) dX7_contributes_1 rfl ?_
  obtain ⟨x1, y2, h⟩ := bi_o h
  refine V_callV (as := [.int 1]) (q := 85) (rest := []) dX7_contributes_2 ov_mX7_laysUnlike lk_RX7_241 (by decide) (by decide) rfl rfl (Nat.le_of_ble_eq_true rfl) (tq_85 hG) rfl (VM_X7_laysUnlike G fu hG 1 μ _ y2) ?_
  refine V_lstore_n (lv2 := [some (.ref 85), some (.int a1), some (.long x1.1), none, none, none, none, none, none, none, none]) dX7_contributes_5 (by decide) rfl ?_
  refine V_aload_n dX7_contributes_6 rfl ?_
  refine V_iconst (v := (-1)) dX7_contributes_7 rfl ?_
  obtain ⟨x3, y4, h⟩ := bi_o h
  refine V_callV (as := [.int (-1)]) (q := 85) (rest := []) dX7_contributes_8 ov_mX7_laysUnlike lk_RX7_241 (by decide) (by decide) rfl rfl (Nat.le_of_ble_eq_true rfl) (tq_85 hG) rfl (VM_X7_laysUnlike G fu hG (-1) x1.2 _ y4) ?_
  refine V_lstore (lv2 := [some (.ref 85), some (.int a1), some (.long x1.1), none, some (.long x3.1), none, none, none, none, none, none]) dX7_contributes_11 (by decide) rfl ?_
  refine V_lload_n dX7_contributes_13 rfl ?_
  refine V_lload dX7_contributes_14 rfl ?_
  obtain ⟨x5, y6, h⟩ := bi_o h
  refine V_callS (as := [.long x1.1, .long x3.1]) (rest := []) dX7_contributes_16 os_mX7_least rfl lk_RX7_179 (by decide) (by decide) rfl rfl (Nat.le_of_ble_eq_true rfl) (VM_X7_least G x3.2 hG x1.1 x3.1 _ y6) ?_
  refine V_lstore (lv2 := [some (.ref 85), some (.int a1), some (.long x1.1), none, some (.long x3.1), none, some (.long x5), none, none, none, none]) dX7_contributes_19 (by decide) rfl ?_
  refine V_lload dX7_contributes_21 rfl ?_
  refine V_lconst (v := 0) dX7_contributes_23 rfl ?_
  refine V_lcmp dX7_contributes_24 ?_
  by_cases c25 : x5 = (0 : Int64)
  · rw [if_pos c25] at h
    refine V_ifne_f (tgt := 29) dX7_contributes_25 (by decide) ((lc_eq x5 0).mpr c25) ?_
    cases h
    exact V_vret rfl dX7_contributes_28
  · rw [if_neg c25] at h
    refine V_ifne_t (tgt := 29) dX7_contributes_25 (by decide) (fun z => c25 ((lc_eq x5 0).mp z)) ?_
    refine V_aload_n dX7_contributes_29 rfl ?_
    refine V_iconst (v := 1) dX7_contributes_30 rfl ?_
    obtain ⟨x7, y8, h⟩ := bi_o h
    refine V_callV (as := [.int 1]) (q := 85) (rest := []) dX7_contributes_31 ov_mX7_laysUnlike lk_RX7_241 (by decide) (by decide) rfl rfl (Nat.le_of_ble_eq_true rfl) (tq_85 hG) rfl (VM_X7_laysUnlike G fu hG 1 x3.2 _ y8) ?_
    refine V_pop2L dX7_contributes_34 rfl ?_
    refine V_aload_n dX7_contributes_35 rfl ?_
    refine V_lload dX7_contributes_36 rfl ?_
    refine V_bipush (v := 40) dX7_contributes_38 rfl ?_
    obtain ⟨x9, y10, h⟩ := bi_o h
    refine V_callV (as := [.long x5, .int 40]) (q := 85) (rest := []) dX7_contributes_40 ov_mX7_shares lk_RX7_211 (by decide) (by decide) rfl rfl (Nat.le_of_ble_eq_true rfl) (tq_85 hG) rfl (VM_X7_shares G fu hG x5 40 x7.2 _ y10) ?_
    refine V_iconst (v := 0) dX7_contributes_43 rfl ?_
    refine V_istore (lv2 := [some (.ref 85), some (.int a1), some (.long x1.1), none, some (.long x3.1), none, some (.long x5), none, some (.int 0), none, none]) dX7_contributes_44 (by decide) rfl ?_
    exact V_wk [true, true, false, false, false, false, true, false, true, false, false] rfl (T_X7_contributes_46 G fu hG fu _ _ _ _ _ h)
theorem VM_X7_contributes (G : GX) (fu : Nat)  (hG : gt G = tbl) (a1 : Int32) (μ : Mem) (r : Mem) (h : D_X7_contributes_0 fu a1 μ = some r) : VM G mX7_contributes [.ref 85, .int a1] μ (.inl none) (r) := V_entry ok_mX7_contributes rfl rfl (Nat.le_of_ble_eq_true rfl) (T_X7_contributes_0 G fu hG a1 μ r h)
def D_X7_levelled_5 (fu : Nat) (μ : Mem)  : Nat → Int64 → Int64 → Int32 → Option Int64
  | 0, _, _, _ => none
  | n + 1, v1, v3, v5 =>
    if (12 : Int32) ≤ v5 then
      some v3
    else
      gu (ib v5 12) <|
      (D_X7_least_0 μ v1 (μ.2.1 127 (Int32.toNatClampNeg v5))).bind fun x2 =>
      (D_X7_levelled_5 fu μ n) v1 (v3 + x2) (v5 + 1)
set_option maxRecDepth 20000 in
theorem T_X7_levelled_5 (G : GX) (fu : Nat) (μ : Mem)  (hG : gt G = tbl) : ∀ (n : Nat) (v1 : Int64) (v3 : Int64) (v5 : Int32) (r : Int64) , D_X7_levelled_5 fu μ n v1 v3 v5 = some r → V G mX7_levelled 5 [some (.ref 85), some (.long v1), none, some (.long v3), none, some (.int v5)] [] μ (.inl (some (.long r))) (μ) := by
  intro n
  induction n with
  | zero =>
    intro v1 v3 v5 r h
    exact nomatch (show (none : Option Int64) = some r from h)
  | succ n ih =>
    intro v1 v3 v5 r h
    rw [D_X7_levelled_5] at h
    refine V_iload dX7_levelled_5 rfl ?_
    refine V_bipush (v := 12) dX7_levelled_7 rfl ?_
    by_cases c9 : (12 : Int32) ≤ v5
    · rw [if_pos c9] at h
      refine V_icmpge_t (tgt := 32) dX7_levelled_9 (by decide) c9 ?_
      refine V_lload_n dX7_levelled_32 rfl ?_
      cases h
      exact V_lret rfl dX7_levelled_33
    · rw [if_neg c9] at h
      refine V_icmpge_f (tgt := 32) dX7_levelled_9 (by decide) c9 ?_
      refine V_lload_n dX7_levelled_12 rfl ?_
      refine V_lload_n dX7_levelled_13 rfl ?_
      refine V_aload_n dX7_levelled_14 rfl ?_
      refine V_getR (kf := 47) k_X7 (by decide) lk_RX7_142 rfl dX7_levelled_15 (tq_85 hG) rfl ?_
      refine V_iload dX7_levelled_18 rfl ?_
      obtain ⟨g1, h⟩ := gu_o h
      refine V_laload dX7_levelled_20 (tq_127 hG) (ib_in g1) ?_
      obtain ⟨x2, y3, h⟩ := bi_o h
      refine V_callS (as := [.long v1, .long (μ.2.1 127 (Int32.toNatClampNeg v5))]) (rest := [.long v3]) dX7_levelled_21 os_mX7_least rfl lk_RX7_179 (by decide) (by decide) rfl rfl (Nat.le_of_ble_eq_true rfl) (VM_X7_least G μ hG v1 (μ.2.1 127 (Int32.toNatClampNeg v5)) _ y3) ?_
      refine V_ladd dX7_levelled_24 ?_
      refine V_lstore_n (lv2 := [some (.ref 85), some (.long v1), none, some (.long (v3 + x2)), none, some (.int v5)]) dX7_levelled_25 (by decide) rfl ?_
      refine V_iinc (v := v5 + 1) (lv2 := [some (.ref 85), some (.long v1), none, some (.long (v3 + x2)), none, some (.int (v5 + 1))]) dX7_levelled_26 rfl rfl (by decide) rfl ?_
      refine V_goto (tgt := 5) dX7_levelled_29 (by decide) ?_
      exact V_wk [true, true, false, true, false, true] rfl (ih _ _ _ _ h)
def D_X7_levelled_0 (fu : Nat) (μ : Mem)  (a1 : Int64) : Option Int64 :=
  D_X7_levelled_5 fu μ fu a1 0 0
set_option maxRecDepth 20000 in
theorem T_X7_levelled_0 (G : GX) (fu : Nat) (μ : Mem)  (hG : gt G = tbl) : ∀ (a1 : Int64) (r : Int64) , D_X7_levelled_0 fu μ a1 = some r → V G mX7_levelled 0 [some (.ref 85), some (.long a1), none, none, none, none] [] μ (.inl (some (.long r))) (μ) := by
  intro a1 r h
  unfold D_X7_levelled_0 at h
  refine V_lconst (v := 0) dX7_levelled_0 rfl ?_
  refine V_lstore_n (lv2 := [some (.ref 85), some (.long a1), none, some (.long 0), none, none]) dX7_levelled_1 (by decide) rfl ?_
  refine V_iconst (v := 0) dX7_levelled_2 rfl ?_
  refine V_istore (lv2 := [some (.ref 85), some (.long a1), none, some (.long 0), none, some (.int 0)]) dX7_levelled_3 (by decide) rfl ?_
  exact V_wk [true, true, false, true, false, true] rfl (T_X7_levelled_5 G fu μ hG fu _ _ _ _ h)
theorem VM_X7_levelled (G : GX) (fu : Nat) (μ : Mem)  (hG : gt G = tbl) (a1 : Int64) (r : Int64) (h : D_X7_levelled_0 fu μ a1 = some r) : VM G mX7_levelled [.ref 85, .long a1] μ (.inl (some (.long r))) (μ) := V_entry ok_mX7_levelled rfl rfl (Nat.le_of_ble_eq_true rfl) (T_X7_levelled_0 G fu μ hG a1 r h)
def D_X7_byLevel_291 (fu : Nat)  (v9 : Int64) (s1 : Int32) (s2 : Int32) (μ : Mem) : Option Mem :=
  gu (ib (s1 + s2) 175) <|
  gu (ib (s1 + s2) 175) <|
  vl (wL μ 110 (Int32.toNatClampNeg (s1 + s2)) ((μ.2.1 110 (Int32.toNatClampNeg (s1 + s2))) + v9)) fun m5 =>
  some m5
set_option maxRecDepth 20000 in
theorem T_X7_byLevel_291 (G : GX) (fu : Nat)  (hG : gt G = tbl) : ∀ (v9 : Int64) (s1 : Int32) (s2 : Int32) (μ : Mem) (r : Mem) , D_X7_byLevel_291 fu v9 s1 s2 μ = some r → V G mX7_byLevel 291 [none, none, none, none, none, none, none, none, none, some (.long v9), none, none] [.int s2, .int s1, .ref 110] μ (.inl none) (r) := by
  intro v9 s1 s2 μ r h
  unfold D_X7_byLevel_291 at h
  refine V_iadd dX7_byLevel_291 ?_
  refine V_dup2 dX7_byLevel_292 rfl rfl ?_
  obtain ⟨g3, h⟩ := gu_o h
  refine V_laload dX7_byLevel_293 (tq_110 hG) (ib_in g3) ?_
  refine V_lload dX7_byLevel_294 rfl ?_
  refine V_ladd dX7_byLevel_296 ?_
  obtain ⟨g4, h⟩ := gu_o h
  obtain ⟨m5, e6, h⟩ := vl_o h
  refine V_lastore (μ2 := m5) dX7_byLevel_297 (tq_110 hG) (ib_in g4) e6.symm ?_
  cases h
  exact V_vret rfl dX7_byLevel_298
def D_X7_byLevel_267 (fu : Nat)  (k233 : Int32 → Int32 → Int64 → Int32 → Mem → Option Mem) (v1 : Int32) (v8 : Int32) (v9 : Int64) (v11 : Int32) (μ : Mem) : Option Mem :=
  k233 v1 v8 v9 (v11 + 1) μ
set_option maxRecDepth 20000 in
theorem T_X7_byLevel_267 (G : GX) (fu : Nat)  (hG : gt G = tbl) (k233 : Int32 → Int32 → Int64 → Int32 → Mem → Option Mem) (hk233 : ∀ (v1 : Int32) (v8 : Int32) (v9 : Int64) (v11 : Int32) (μ : Mem) (r : Mem), k233 v1 v8 v9 v11 μ = some r → V G mX7_byLevel 233 [some (.ref 85), some (.int v1), none, none, none, none, none, none, some (.int v8), some (.long v9), none, some (.int v11)] [] μ (.inl none) (r)) : ∀ (v1 : Int32) (v8 : Int32) (v9 : Int64) (v11 : Int32) (μ : Mem) (r : Mem) , D_X7_byLevel_267 fu k233 v1 v8 v9 v11 μ = some r → V G mX7_byLevel 267 [some (.ref 85), some (.int v1), none, none, none, none, none, none, some (.int v8), some (.long v9), none, some (.int v11)] [] μ (.inl none) (r) := by
  intro v1 v8 v9 v11 μ r h
  unfold D_X7_byLevel_267 at h
  refine V_iinc (v := v11 + 1) (lv2 := [some (.ref 85), some (.int v1), none, none, none, none, none, none, some (.int v8), some (.long v9), none, some (.int (v11 + 1))]) dX7_byLevel_267 rfl rfl (by decide) rfl ?_
  refine V_goto (tgt := 233) dX7_byLevel_270 (by decide) ?_
  exact V_wk [true, true, false, false, false, false, false, false, true, true, false, true] rfl (hk233 _ _ _ _ _ _ h)
def D_X7_byLevel_233 (fu : Nat)  : Nat → Int32 → Int32 → Int64 → Int32 → Mem → Option Mem
  | 0, _, _, _, _, _ => none
  | n + 1, v1, v8, v9, v11, μ =>
    if (12 : Int32) ≤ v11 then
      if v8 = 0 then
        D_X7_byLevel_291 fu v9 (7 * v1) 3 μ
      else
        D_X7_byLevel_291 fu v9 (7 * v1) 2 μ
    else
      gu (ib v11 12) <|
      if (μ.2.1 120 (Int32.toNatClampNeg v11)) ≤ (0 : Int64) then
        D_X7_byLevel_267 fu (D_X7_byLevel_233 fu n) v1 v8 v9 v11 μ
      else
        gu (ib v11 12) <|
        (D_X7_fills_0 fu v1 v11 (μ.2.1 120 (Int32.toNatClampNeg v11)) μ).bind fun x9 =>
        D_X7_byLevel_267 fu (D_X7_byLevel_233 fu n) v1 v8 v9 v11 x9.2
set_option maxRecDepth 20000 in
theorem T_X7_byLevel_233 (G : GX) (fu : Nat)  (hG : gt G = tbl) : ∀ (n : Nat) (v1 : Int32) (v8 : Int32) (v9 : Int64) (v11 : Int32) (μ : Mem) (r : Mem) , D_X7_byLevel_233 fu n v1 v8 v9 v11 μ = some r → V G mX7_byLevel 233 [some (.ref 85), some (.int v1), none, none, none, none, none, none, some (.int v8), some (.long v9), none, some (.int v11)] [] μ (.inl none) (r) := by
  intro n
  induction n with
  | zero =>
    intro v1 v8 v9 v11 μ r h
    exact nomatch (show (none : Option Mem) = some r from h)
  | succ n ih =>
    intro v1 v8 v9 v11 μ r h
    rw [D_X7_byLevel_233] at h
    refine V_iload dX7_byLevel_233 rfl ?_
    refine V_bipush (v := 12) dX7_byLevel_235 rfl ?_
    by_cases c237 : (12 : Int32) ≤ v11
    · rw [if_pos c237] at h
      refine V_icmpge_t (tgt := 273) dX7_byLevel_237 (by decide) c237 ?_
      refine V_aload_n dX7_byLevel_273 rfl ?_
      refine V_getR (kf := 26) k_X7 (by decide) lk_RX7_91 rfl dX7_byLevel_274 (tq_85 hG) rfl ?_
      refine V_bipush (v := 7) dX7_byLevel_277 rfl ?_
      refine V_iload_n dX7_byLevel_279 rfl ?_
      refine V_imul dX7_byLevel_280 ?_
      refine V_iload dX7_byLevel_281 rfl ?_
      by_cases c283 : v8 = 0
      · rw [if_pos c283] at h
        refine V_ifne_f (tgt := 290) dX7_byLevel_283 (by decide) c283 ?_
        refine V_iconst (v := 3) dX7_byLevel_286 rfl ?_
        refine V_goto (tgt := 291) dX7_byLevel_287 (by decide) ?_
        exact V_wk [false, false, false, false, false, false, false, false, false, true, false, false] rfl (T_X7_byLevel_291 G fu hG _ _ _ _ _ h)
      · rw [if_neg c283] at h
        refine V_ifne_t (tgt := 290) dX7_byLevel_283 (by decide) c283 ?_
        refine V_iconst (v := 2) dX7_byLevel_290 rfl ?_
        exact V_wk [false, false, false, false, false, false, false, false, false, true, false, false] rfl (T_X7_byLevel_291 G fu hG _ _ _ _ _ h)
    · rw [if_neg c237] at h
      refine V_icmpge_f (tgt := 273) dX7_byLevel_237 (by decide) c237 ?_
      refine V_aload_n dX7_byLevel_240 rfl ?_
      refine V_getR (kf := 40) k_X7 (by decide) lk_RX7_121 rfl dX7_byLevel_241 (tq_85 hG) rfl ?_
      refine V_iload dX7_byLevel_244 rfl ?_
      obtain ⟨g7, h⟩ := gu_o h
      refine V_laload dX7_byLevel_246 (tq_120 hG) (ib_in g7) ?_
      refine V_lconst (v := 0) dX7_byLevel_247 rfl ?_
      refine V_lcmp dX7_byLevel_248 ?_
      by_cases c249 : (μ.2.1 120 (Int32.toNatClampNeg v11)) ≤ (0 : Int64)
      · rw [if_pos c249] at h
        refine V_ifle_t (tgt := 267) dX7_byLevel_249 (by decide) ((lc_le (μ.2.1 120 (Int32.toNatClampNeg v11)) 0).mpr c249) ?_
        exact V_wk [true, true, false, false, false, false, false, false, true, true, false, true] rfl (T_X7_byLevel_267 G fu hG (D_X7_byLevel_233 fu n) ih _ _ _ _ _ _ h)
      · rw [if_neg c249] at h
        refine V_ifle_f (tgt := 267) dX7_byLevel_249 (by decide) (fun z => c249 ((lc_le (μ.2.1 120 (Int32.toNatClampNeg v11)) 0).mp z)) ?_
        refine V_aload_n dX7_byLevel_252 rfl ?_
        refine V_iload_n dX7_byLevel_253 rfl ?_
        refine V_iload dX7_byLevel_254 rfl ?_
        refine V_aload_n dX7_byLevel_256 rfl ?_
        refine V_getR (kf := 40) k_X7 (by decide) lk_RX7_121 rfl dX7_byLevel_257 (tq_85 hG) rfl ?_
        refine V_iload dX7_byLevel_260 rfl ?_
        obtain ⟨g8, h⟩ := gu_o h
        refine V_laload dX7_byLevel_262 (tq_120 hG) (ib_in g8) ?_
        obtain ⟨x9, y10, h⟩ := bi_o h
        refine V_callV (as := [.int v1, .int v11, .long (μ.2.1 120 (Int32.toNatClampNeg v11))]) (q := 85) (rest := []) dX7_byLevel_263 ov_mX7_fills lk_RX7_215 (by decide) (by decide) rfl rfl (Nat.le_of_ble_eq_true rfl) (tq_85 hG) rfl (VM_X7_fills G fu hG v1 v11 (μ.2.1 120 (Int32.toNatClampNeg v11)) μ _ y10) ?_
        refine V_pop2L dX7_byLevel_266 rfl ?_
        exact V_wk [true, true, false, false, false, false, false, false, true, true, false, true] rfl (T_X7_byLevel_267 G fu hG (D_X7_byLevel_233 fu n) ih _ _ _ _ _ _ h)
def D_X7_byLevel_224 (fu : Nat)  (k125 : Int32 → Int64 → Int32 → Int64 → Int32 → Mem → Option Mem) (v1 : Int32) (v4 : Int64) (v8 : Int32) (v9 : Int64) (v11 : Int32) (μ : Mem) : Option Mem :=
  k125 v1 v4 v8 v9 (v11 + 1) μ
set_option maxRecDepth 20000 in
theorem T_X7_byLevel_224 (G : GX) (fu : Nat)  (hG : gt G = tbl) (k125 : Int32 → Int64 → Int32 → Int64 → Int32 → Mem → Option Mem) (hk125 : ∀ (v1 : Int32) (v4 : Int64) (v8 : Int32) (v9 : Int64) (v11 : Int32) (μ : Mem) (r : Mem), k125 v1 v4 v8 v9 v11 μ = some r → V G mX7_byLevel 125 [some (.ref 85), some (.int v1), none, none, some (.long v4), none, none, none, some (.int v8), some (.long v9), none, some (.int v11)] [] μ (.inl none) (r)) : ∀ (v1 : Int32) (v4 : Int64) (v8 : Int32) (v9 : Int64) (v11 : Int32) (μ : Mem) (r : Mem) , D_X7_byLevel_224 fu k125 v1 v4 v8 v9 v11 μ = some r → V G mX7_byLevel 224 [some (.ref 85), some (.int v1), none, none, some (.long v4), none, none, none, some (.int v8), some (.long v9), none, some (.int v11)] [] μ (.inl none) (r) := by
  intro v1 v4 v8 v9 v11 μ r h
  unfold D_X7_byLevel_224 at h
  refine V_iinc (v := v11 + 1) (lv2 := [some (.ref 85), some (.int v1), none, none, some (.long v4), none, none, none, some (.int v8), some (.long v9), none, some (.int (v11 + 1))]) dX7_byLevel_224 rfl rfl (by decide) rfl ?_
  refine V_goto (tgt := 125) dX7_byLevel_227 (by decide) ?_
  exact V_wk [true, true, false, false, true, false, false, false, true, true, false, true] rfl (hk125 _ _ _ _ _ _ _ h)
def D_X7_byLevel_125 (fu : Nat)  : Nat → Int32 → Int64 → Int32 → Int64 → Int32 → Mem → Option Mem
  | 0, _, _, _, _, _, _ => none
  | n + 1, v1, v4, v8, v9, v11, μ =>
    if (12 : Int32) ≤ v11 then
      D_X7_byLevel_233 fu fu v1 v8 v9 0 μ
    else
      gu (ib v11 12) <|
      vl (wL μ 120 (Int32.toNatClampNeg v11) 0) fun m12 =>
      (D_X7_isOff_0 fu m12 v1 v11).bind fun x14 =>
      if x14 = true then
        (D_X7_isGap_0 m12 v11).bind fun x16 =>
        if x16 = true then
          D_X7_byLevel_224 fu (D_X7_byLevel_125 fu n) v1 v4 v8 v9 v11 m12
        else
          gu (ib v11 12) <|
          (D_X7_least_0 m12 v4 (m12.2.1 127 (Int32.toNatClampNeg v11))).bind fun x19 =>
          gu (ib v11 12) <|
          vl (wL m12 120 (Int32.toNatClampNeg v11) x19) fun m22 =>
          if v9 = (0 : Int64) then
            D_X7_byLevel_224 fu (D_X7_byLevel_125 fu n) v1 v4 (v8 + 1) v9 v11 m22
          else
            gu (ib v11 12) <|
            if v4 < (m22.2.1 127 (Int32.toNatClampNeg v11)) then
              gu (ib v11 12) <|
              gu (ib v11 12) <|
              vl (wL m22 120 (Int32.toNatClampNeg v11) ((m22.2.1 120 (Int32.toNatClampNeg v11)) + 1)) fun m27 =>
              D_X7_byLevel_224 fu (D_X7_byLevel_125 fu n) v1 v4 (v8 + 1) (v9 - 1) v11 m27
            else
              D_X7_byLevel_224 fu (D_X7_byLevel_125 fu n) v1 v4 (v8 + 1) v9 v11 m22
      else
        D_X7_byLevel_224 fu (D_X7_byLevel_125 fu n) v1 v4 v8 v9 v11 m12
set_option maxRecDepth 20000 in
theorem T_X7_byLevel_125 (G : GX) (fu : Nat)  (hG : gt G = tbl) : ∀ (n : Nat) (v1 : Int32) (v4 : Int64) (v8 : Int32) (v9 : Int64) (v11 : Int32) (μ : Mem) (r : Mem) , D_X7_byLevel_125 fu n v1 v4 v8 v9 v11 μ = some r → V G mX7_byLevel 125 [some (.ref 85), some (.int v1), none, none, some (.long v4), none, none, none, some (.int v8), some (.long v9), none, some (.int v11)] [] μ (.inl none) (r) := by
  intro n
  induction n with
  | zero =>
    intro v1 v4 v8 v9 v11 μ r h
    exact nomatch (show (none : Option Mem) = some r from h)
  | succ n ih =>
    intro v1 v4 v8 v9 v11 μ r h
    rw [D_X7_byLevel_125] at h
    refine V_iload dX7_byLevel_125 rfl ?_
    refine V_bipush (v := 12) dX7_byLevel_127 rfl ?_
    by_cases c129 : (12 : Int32) ≤ v11
    · rw [if_pos c129] at h
      refine V_icmpge_t (tgt := 230) dX7_byLevel_129 (by decide) c129 ?_
      refine V_iconst (v := 0) dX7_byLevel_230 rfl ?_
      refine V_istore (lv2 := [some (.ref 85), some (.int v1), none, none, some (.long v4), none, none, none, some (.int v8), some (.long v9), none, some (.int 0)]) dX7_byLevel_231 (by decide) rfl ?_
      exact V_wk [true, true, false, false, false, false, false, false, true, true, false, true] rfl (T_X7_byLevel_233 G fu hG fu _ _ _ _ _ _ h)
    · rw [if_neg c129] at h
      refine V_icmpge_f (tgt := 230) dX7_byLevel_129 (by decide) c129 ?_
      refine V_aload_n dX7_byLevel_132 rfl ?_
      refine V_getR (kf := 40) k_X7 (by decide) lk_RX7_121 rfl dX7_byLevel_133 (tq_85 hG) rfl ?_
      refine V_iload dX7_byLevel_136 rfl ?_
      refine V_lconst (v := 0) dX7_byLevel_138 rfl ?_
      obtain ⟨g11, h⟩ := gu_o h
      obtain ⟨m12, e13, h⟩ := vl_o h
      refine V_lastore (μ2 := m12) dX7_byLevel_139 (tq_120 hG) (ib_in g11) e13.symm ?_
      refine V_aload_n dX7_byLevel_140 rfl ?_
      refine V_iload_n dX7_byLevel_141 rfl ?_
      refine V_iload dX7_byLevel_142 rfl ?_
      obtain ⟨x14, y15, h⟩ := bi_o h
      refine V_callV (as := [.int v1, .int v11]) (q := 85) (rest := []) dX7_byLevel_144 ov_mX7_isOff lk_RX7_197 (by decide) (by decide) rfl rfl (Nat.le_of_ble_eq_true rfl) (tq_85 hG) rfl (VM_X7_isOff G fu m12 hG v1 v11 _ y15) ?_
      by_cases c147 : x14 = true
      · rw [if_pos c147] at h
        refine V_ifeq_f (tgt := 224) dX7_byLevel_147 (by decide) (b2i_t.mp c147) ?_
        refine V_aload_n dX7_byLevel_150 rfl ?_
        refine V_iload dX7_byLevel_151 rfl ?_
        obtain ⟨x16, y17, h⟩ := bi_o h
        refine V_callV (as := [.int v11]) (q := 85) (rest := []) dX7_byLevel_153 ov_mX7_isGap lk_RX7_205 (by decide) (by decide) rfl rfl (Nat.le_of_ble_eq_true rfl) (tq_85 hG) rfl (VM_X7_isGap G m12 hG v11 _ y17) ?_
        by_cases c156 : x16 = true
        · rw [if_pos c156] at h
          refine V_ifeq_f (tgt := 162) dX7_byLevel_156 (by decide) (b2i_t.mp c156) ?_
          refine V_goto (tgt := 224) dX7_byLevel_159 (by decide) ?_
          exact V_wk [true, true, false, false, true, false, false, false, true, true, false, true] rfl (T_X7_byLevel_224 G fu hG (D_X7_byLevel_125 fu n) ih _ _ _ _ _ _ _ h)
        · rw [if_neg c156] at h
          refine V_ifeq_t (tgt := 162) dX7_byLevel_156 (by decide) (b2i_f.mp c156) ?_
          refine V_iinc (v := v8 + 1) (lv2 := [some (.ref 85), some (.int v1), none, none, some (.long v4), none, none, none, some (.int (v8 + 1)), some (.long v9), none, some (.int v11)]) dX7_byLevel_162 rfl rfl (by decide) rfl ?_
          refine V_aload_n dX7_byLevel_165 rfl ?_
          refine V_getR (kf := 40) k_X7 (by decide) lk_RX7_121 rfl dX7_byLevel_166 (tq_85 hG) rfl ?_
          refine V_iload dX7_byLevel_169 rfl ?_
          refine V_lload dX7_byLevel_171 rfl ?_
          refine V_aload_n dX7_byLevel_173 rfl ?_
          refine V_getR (kf := 47) k_X7 (by decide) lk_RX7_142 rfl dX7_byLevel_174 (tq_85 hG) rfl ?_
          refine V_iload dX7_byLevel_177 rfl ?_
          obtain ⟨g18, h⟩ := gu_o h
          refine V_laload dX7_byLevel_179 (tq_127 hG) (ib_in g18) ?_
          obtain ⟨x19, y20, h⟩ := bi_o h
          refine V_callS (as := [.long v4, .long (m12.2.1 127 (Int32.toNatClampNeg v11))]) (rest := [.int v11, .ref 120]) dX7_byLevel_180 os_mX7_least rfl lk_RX7_179 (by decide) (by decide) rfl rfl (Nat.le_of_ble_eq_true rfl) (VM_X7_least G m12 hG v4 (m12.2.1 127 (Int32.toNatClampNeg v11)) _ y20) ?_
          obtain ⟨g21, h⟩ := gu_o h
          obtain ⟨m22, e23, h⟩ := vl_o h
          refine V_lastore (μ2 := m22) dX7_byLevel_183 (tq_120 hG) (ib_in g21) e23.symm ?_
          refine V_lload dX7_byLevel_184 rfl ?_
          refine V_lconst (v := 0) dX7_byLevel_186 rfl ?_
          refine V_lcmp dX7_byLevel_187 ?_
          by_cases c188 : v9 = (0 : Int64)
          · rw [if_pos c188] at h
            refine V_ifeq_t (tgt := 224) dX7_byLevel_188 (by decide) ((lc_eq v9 0).mpr c188) ?_
            exact V_wk [true, true, false, false, true, false, false, false, true, true, false, true] rfl (T_X7_byLevel_224 G fu hG (D_X7_byLevel_125 fu n) ih _ _ _ _ _ _ _ h)
          · rw [if_neg c188] at h
            refine V_ifeq_f (tgt := 224) dX7_byLevel_188 (by decide) (fun z => c188 ((lc_eq v9 0).mp z)) ?_
            refine V_aload_n dX7_byLevel_191 rfl ?_
            refine V_getR (kf := 47) k_X7 (by decide) lk_RX7_142 rfl dX7_byLevel_192 (tq_85 hG) rfl ?_
            refine V_iload dX7_byLevel_195 rfl ?_
            obtain ⟨g24, h⟩ := gu_o h
            refine V_laload dX7_byLevel_197 (tq_127 hG) (ib_in g24) ?_
            refine V_lload dX7_byLevel_198 rfl ?_
            refine V_lcmp dX7_byLevel_200 ?_
            by_cases c201 : v4 < (m22.2.1 127 (Int32.toNatClampNeg v11))
            · rw [if_pos c201] at h
              refine V_ifgt_t (tgt := 207) dX7_byLevel_201 (by decide) ((lc_gt (m22.2.1 127 (Int32.toNatClampNeg v11)) v4).mpr c201) ?_
              refine V_aload_n dX7_byLevel_207 rfl ?_
              refine V_getR (kf := 40) k_X7 (by decide) lk_RX7_121 rfl dX7_byLevel_208 (tq_85 hG) rfl ?_
              refine V_iload dX7_byLevel_211 rfl ?_
              refine V_dup2 dX7_byLevel_213 rfl rfl ?_
              obtain ⟨g25, h⟩ := gu_o h
              refine V_laload dX7_byLevel_214 (tq_120 hG) (ib_in g25) ?_
              refine V_lconst (v := 1) dX7_byLevel_215 rfl ?_
              refine V_ladd dX7_byLevel_216 ?_
              obtain ⟨g26, h⟩ := gu_o h
              obtain ⟨m27, e28, h⟩ := vl_o h
              refine V_lastore (μ2 := m27) dX7_byLevel_217 (tq_120 hG) (ib_in g26) e28.symm ?_
              refine V_lload dX7_byLevel_218 rfl ?_
              refine V_lconst (v := 1) dX7_byLevel_220 rfl ?_
              refine V_lsub dX7_byLevel_221 ?_
              refine V_lstore (lv2 := [some (.ref 85), some (.int v1), none, none, some (.long v4), none, none, none, some (.int (v8 + 1)), some (.long (v9 - 1)), none, some (.int v11)]) dX7_byLevel_222 (by decide) rfl ?_
              exact V_wk [true, true, false, false, true, false, false, false, true, true, false, true] rfl (T_X7_byLevel_224 G fu hG (D_X7_byLevel_125 fu n) ih _ _ _ _ _ _ _ h)
            · rw [if_neg c201] at h
              refine V_ifgt_f (tgt := 207) dX7_byLevel_201 (by decide) (fun z => c201 ((lc_gt (m22.2.1 127 (Int32.toNatClampNeg v11)) v4).mp z)) ?_
              refine V_goto (tgt := 224) dX7_byLevel_204 (by decide) ?_
              exact V_wk [true, true, false, false, true, false, false, false, true, true, false, true] rfl (T_X7_byLevel_224 G fu hG (D_X7_byLevel_125 fu n) ih _ _ _ _ _ _ _ h)
      · rw [if_neg c147] at h
        refine V_ifeq_t (tgt := 224) dX7_byLevel_147 (by decide) (b2i_f.mp c147) ?_
        exact V_wk [true, true, false, false, true, false, false, false, true, true, false, true] rfl (T_X7_byLevel_224 G fu hG (D_X7_byLevel_125 fu n) ih _ _ _ _ _ _ _ h)
def D_X7_byLevel_106 (fu : Nat)  (k61 : Int32 → Int64 → Int64 → Int64 → Mem → Option Mem) (v1 : Int32) (v2 : Int64) (v4 : Int64) (v6 : Int64) (μ : Mem) : Option Mem :=
  k61 v1 v2 v4 v6 μ
set_option maxRecDepth 20000 in
theorem T_X7_byLevel_106 (G : GX) (fu : Nat)  (hG : gt G = tbl) (k61 : Int32 → Int64 → Int64 → Int64 → Mem → Option Mem) (hk61 : ∀ (v1 : Int32) (v2 : Int64) (v4 : Int64) (v6 : Int64) (μ : Mem) (r : Mem), k61 v1 v2 v4 v6 μ = some r → V G mX7_byLevel 61 [some (.ref 85), some (.int v1), some (.long v2), none, some (.long v4), none, some (.long v6), none, none, none, none, none] [] μ (.inl none) (r)) : ∀ (v1 : Int32) (v2 : Int64) (v4 : Int64) (v6 : Int64) (μ : Mem) (r : Mem) , D_X7_byLevel_106 fu k61 v1 v2 v4 v6 μ = some r → V G mX7_byLevel 106 [some (.ref 85), some (.int v1), some (.long v2), none, some (.long v4), none, some (.long v6), none, none, none, none, none] [] μ (.inl none) (r) := by
  intro v1 v2 v4 v6 μ r h
  unfold D_X7_byLevel_106 at h
  refine V_goto (tgt := 61) dX7_byLevel_106 (by decide) ?_
  exact V_wk [true, true, true, false, true, false, true, false, false, false, false, false] rfl (hk61 _ _ _ _ _ _ h)
def D_X7_byLevel_61 (fu : Nat)  : Nat → Int32 → Int64 → Int64 → Int64 → Mem → Option Mem
  | 0, _, _, _, _, _ => none
  | n + 1, v1, v2, v4, v6, μ =>
    if v6 ≤ v4 then
      (D_X7_levelled_0 fu μ v4).bind fun x1 =>
      D_X7_byLevel_125 fu fu v1 v4 0 (v2 - x1) 0 μ
    else
      (D_X7_levelled_0 fu μ (((v4 + v6) + 1) / 2)).bind fun x29 =>
      if v2 < x29 then
        D_X7_byLevel_106 fu (D_X7_byLevel_61 fu n) v1 v2 v4 ((((v4 + v6) + 1) / 2) - 1) μ
      else
        D_X7_byLevel_106 fu (D_X7_byLevel_61 fu n) v1 v2 (((v4 + v6) + 1) / 2) v6 μ
set_option maxRecDepth 20000 in
theorem T_X7_byLevel_61 (G : GX) (fu : Nat)  (hG : gt G = tbl) : ∀ (n : Nat) (v1 : Int32) (v2 : Int64) (v4 : Int64) (v6 : Int64) (μ : Mem) (r : Mem) , D_X7_byLevel_61 fu n v1 v2 v4 v6 μ = some r → V G mX7_byLevel 61 [some (.ref 85), some (.int v1), some (.long v2), none, some (.long v4), none, some (.long v6), none, none, none, none, none] [] μ (.inl none) (r) := by
  intro n
  induction n with
  | zero =>
    intro v1 v2 v4 v6 μ r h
    exact nomatch (show (none : Option Mem) = some r from h)
  | succ n ih =>
    intro v1 v2 v4 v6 μ r h
    rw [D_X7_byLevel_61] at h
    refine V_lload dX7_byLevel_61 rfl ?_
    refine V_lload dX7_byLevel_63 rfl ?_
    refine V_lcmp dX7_byLevel_65 ?_
    by_cases c66 : v6 ≤ v4
    · rw [if_pos c66] at h
      refine V_ifge_t (tgt := 109) dX7_byLevel_66 (by decide) ((lc_ge v4 v6).mpr c66) ?_
      refine V_iconst (v := 0) dX7_byLevel_109 rfl ?_
      refine V_istore (lv2 := [some (.ref 85), some (.int v1), some (.long v2), none, some (.long v4), none, some (.long v6), none, some (.int 0), none, none, none]) dX7_byLevel_110 (by decide) rfl ?_
      refine V_lload_n dX7_byLevel_112 rfl ?_
      refine V_aload_n dX7_byLevel_113 rfl ?_
      refine V_lload dX7_byLevel_114 rfl ?_
      obtain ⟨x1, y2, h⟩ := bi_o h
      refine V_callV (as := [.long v4]) (q := 85) (rest := [.long v2]) dX7_byLevel_116 ov_mX7_levelled lk_RX7_248 (by decide) (by decide) rfl rfl (Nat.le_of_ble_eq_true rfl) (tq_85 hG) rfl (VM_X7_levelled G fu μ hG v4 _ y2) ?_
      refine V_lsub dX7_byLevel_119 ?_
      refine V_lstore (lv2 := [some (.ref 85), some (.int v1), some (.long v2), none, some (.long v4), none, some (.long v6), none, some (.int 0), some (.long (v2 - x1)), none, none]) dX7_byLevel_120 (by decide) rfl ?_
      refine V_iconst (v := 0) dX7_byLevel_122 rfl ?_
      refine V_istore (lv2 := [some (.ref 85), some (.int v1), some (.long v2), none, some (.long v4), none, some (.long v6), none, some (.int 0), some (.long (v2 - x1)), none, some (.int 0)]) dX7_byLevel_123 (by decide) rfl ?_
      exact V_wk [true, true, false, false, true, false, false, false, true, true, false, true] rfl (T_X7_byLevel_125 G fu hG fu _ _ _ _ _ _ _ h)
    · rw [if_neg c66] at h
      refine V_ifge_f (tgt := 109) dX7_byLevel_66 (by decide) (fun z => c66 ((lc_ge v4 v6).mp z)) ?_
      refine V_lload dX7_byLevel_69 rfl ?_
      refine V_lload dX7_byLevel_71 rfl ?_
      refine V_ladd dX7_byLevel_73 ?_
      refine V_lconst (v := 1) dX7_byLevel_74 rfl ?_
      refine V_ladd dX7_byLevel_75 ?_
      refine V_ldc2 (v := 2) dX7_byLevel_76 lk_RX7_246 ?_
      refine V_ldiv dX7_byLevel_79 (by decide) ?_
      refine V_lstore (lv2 := [some (.ref 85), some (.int v1), some (.long v2), none, some (.long v4), none, some (.long v6), none, some (.long (((v4 + v6) + 1) / 2)), none, none, none]) dX7_byLevel_80 (by decide) rfl ?_
      refine V_aload_n dX7_byLevel_82 rfl ?_
      refine V_lload dX7_byLevel_83 rfl ?_
      obtain ⟨x29, y30, h⟩ := bi_o h
      refine V_callV (as := [.long (((v4 + v6) + 1) / 2)]) (q := 85) (rest := []) dX7_byLevel_85 ov_mX7_levelled lk_RX7_248 (by decide) (by decide) rfl rfl (Nat.le_of_ble_eq_true rfl) (tq_85 hG) rfl (VM_X7_levelled G fu μ hG (((v4 + v6) + 1) / 2) _ y30) ?_
      refine V_lload_n dX7_byLevel_88 rfl ?_
      refine V_lcmp dX7_byLevel_89 ?_
      by_cases c90 : v2 < x29
      · rw [if_pos c90] at h
        refine V_ifgt_t (tgt := 100) dX7_byLevel_90 (by decide) ((lc_gt x29 v2).mpr c90) ?_
        refine V_lload dX7_byLevel_100 rfl ?_
        refine V_lconst (v := 1) dX7_byLevel_102 rfl ?_
        refine V_lsub dX7_byLevel_103 ?_
        refine V_lstore (lv2 := [some (.ref 85), some (.int v1), some (.long v2), none, some (.long v4), none, some (.long ((((v4 + v6) + 1) / 2) - 1)), none, some (.long (((v4 + v6) + 1) / 2)), none, none, none]) dX7_byLevel_104 (by decide) rfl ?_
        exact V_wk [true, true, true, false, true, false, true, false, false, false, false, false] rfl (T_X7_byLevel_106 G fu hG (D_X7_byLevel_61 fu n) ih _ _ _ _ _ _ h)
      · rw [if_neg c90] at h
        refine V_ifgt_f (tgt := 100) dX7_byLevel_90 (by decide) (fun z => c90 ((lc_gt x29 v2).mp z)) ?_
        refine V_lload dX7_byLevel_93 rfl ?_
        refine V_lstore (lv2 := [some (.ref 85), some (.int v1), some (.long v2), none, some (.long (((v4 + v6) + 1) / 2)), none, some (.long v6), none, some (.long (((v4 + v6) + 1) / 2)), none, none, none]) dX7_byLevel_95 (by decide) rfl ?_
        refine V_goto (tgt := 106) dX7_byLevel_97 (by decide) ?_
        exact V_wk [true, true, true, false, true, false, true, false, false, false, false, false] rfl (T_X7_byLevel_106 G fu hG (D_X7_byLevel_61 fu n) ih _ _ _ _ _ _ h)
def D_X7_byLevel_46 (fu : Nat)  (k3 : Int32 → Int64 → Int32 → Mem → Option Mem) (v1 : Int32) (v2 : Int64) (v4 : Int32) (s1 : Int32) (s2 : Int64) (μ : Mem) : Option Mem :=
  gu (ib s1 12) <|
  vl (wL μ 127 (Int32.toNatClampNeg s1) s2) fun m36 =>
  k3 v1 v2 (v4 + 1) m36
set_option maxRecDepth 20000 in
theorem T_X7_byLevel_46 (G : GX) (fu : Nat)  (hG : gt G = tbl) (k3 : Int32 → Int64 → Int32 → Mem → Option Mem) (hk3 : ∀ (v1 : Int32) (v2 : Int64) (v4 : Int32) (μ : Mem) (r : Mem), k3 v1 v2 v4 μ = some r → V G mX7_byLevel 3 [some (.ref 85), some (.int v1), some (.long v2), none, some (.int v4), none, none, none, none, none, none, none] [] μ (.inl none) (r)) : ∀ (v1 : Int32) (v2 : Int64) (v4 : Int32) (s1 : Int32) (s2 : Int64) (μ : Mem) (r : Mem) , D_X7_byLevel_46 fu k3 v1 v2 v4 s1 s2 μ = some r → V G mX7_byLevel 46 [some (.ref 85), some (.int v1), some (.long v2), none, some (.int v4), none, none, none, none, none, none, none] [.long s2, .int s1, .ref 127] μ (.inl none) (r) := by
  intro v1 v2 v4 s1 s2 μ r h
  unfold D_X7_byLevel_46 at h
  obtain ⟨g35, h⟩ := gu_o h
  obtain ⟨m36, e37, h⟩ := vl_o h
  refine V_lastore (μ2 := m36) dX7_byLevel_46 (tq_127 hG) (ib_in g35) e37.symm ?_
  refine V_iinc (v := v4 + 1) (lv2 := [some (.ref 85), some (.int v1), some (.long v2), none, some (.int (v4 + 1)), none, none, none, none, none, none, none]) dX7_byLevel_47 rfl rfl (by decide) rfl ?_
  refine V_goto (tgt := 3) dX7_byLevel_50 (by decide) ?_
  exact V_wk [true, true, true, false, true, false, false, false, false, false, false, false] rfl (hk3 _ _ _ _ _ h)
def D_X7_byLevel_45 (fu : Nat)  (k3 : Int32 → Int64 → Int32 → Mem → Option Mem) (v1 : Int32) (v2 : Int64) (v4 : Int32) (s1 : Int32) (μ : Mem) : Option Mem :=
  D_X7_byLevel_46 fu k3 v1 v2 v4 s1 0 μ
set_option maxRecDepth 20000 in
theorem T_X7_byLevel_45 (G : GX) (fu : Nat)  (hG : gt G = tbl) (k3 : Int32 → Int64 → Int32 → Mem → Option Mem) (hk3 : ∀ (v1 : Int32) (v2 : Int64) (v4 : Int32) (μ : Mem) (r : Mem), k3 v1 v2 v4 μ = some r → V G mX7_byLevel 3 [some (.ref 85), some (.int v1), some (.long v2), none, some (.int v4), none, none, none, none, none, none, none] [] μ (.inl none) (r)) : ∀ (v1 : Int32) (v2 : Int64) (v4 : Int32) (s1 : Int32) (μ : Mem) (r : Mem) , D_X7_byLevel_45 fu k3 v1 v2 v4 s1 μ = some r → V G mX7_byLevel 45 [some (.ref 85), some (.int v1), some (.long v2), none, some (.int v4), none, none, none, none, none, none, none] [.int s1, .ref 127] μ (.inl none) (r) := by
  intro v1 v2 v4 s1 μ r h
  unfold D_X7_byLevel_45 at h
  refine V_lconst (v := 0) dX7_byLevel_45 rfl ?_
  exact V_wk [true, true, true, false, true, false, false, false, false, false, false, false] rfl (T_X7_byLevel_46 G fu hG k3 hk3 _ _ _ _ _ _ _ h)
def D_X7_byLevel_3 (fu : Nat)  : Nat → Int32 → Int64 → Int32 → Mem → Option Mem
  | 0, _, _, _, _ => none
  | n + 1, v1, v2, v4, μ =>
    if (12 : Int32) ≤ v4 then
      D_X7_byLevel_61 fu fu v1 v2 0 2000000000 μ
    else
      (D_X7_isOff_0 fu μ v1 v4).bind fun x31 =>
      if x31 = true then
        (D_X7_isGap_0 μ v4).bind fun x33 =>
        if x33 = true then
          D_X7_byLevel_45 fu (D_X7_byLevel_3 fu n) v1 v2 v4 v4 μ
        else
          (D_X7_roomOf_0 fu μ v1 v4).bind fun x38 =>
          D_X7_byLevel_46 fu (D_X7_byLevel_3 fu n) v1 v2 v4 v4 x38 μ
      else
        D_X7_byLevel_45 fu (D_X7_byLevel_3 fu n) v1 v2 v4 v4 μ
set_option maxRecDepth 20000 in
theorem T_X7_byLevel_3 (G : GX) (fu : Nat)  (hG : gt G = tbl) : ∀ (n : Nat) (v1 : Int32) (v2 : Int64) (v4 : Int32) (μ : Mem) (r : Mem) , D_X7_byLevel_3 fu n v1 v2 v4 μ = some r → V G mX7_byLevel 3 [some (.ref 85), some (.int v1), some (.long v2), none, some (.int v4), none, none, none, none, none, none, none] [] μ (.inl none) (r) := by
  intro n
  induction n with
  | zero =>
    intro v1 v2 v4 μ r h
    exact nomatch (show (none : Option Mem) = some r from h)
  | succ n ih =>
    intro v1 v2 v4 μ r h
    rw [D_X7_byLevel_3] at h
    refine V_iload dX7_byLevel_3 rfl ?_
    refine V_bipush (v := 12) dX7_byLevel_5 rfl ?_
    by_cases c7 : (12 : Int32) ≤ v4
    · rw [if_pos c7] at h
      refine V_icmpge_t (tgt := 53) dX7_byLevel_7 (by decide) c7 ?_
      refine V_lconst (v := 0) dX7_byLevel_53 rfl ?_
      refine V_lstore (lv2 := [some (.ref 85), some (.int v1), some (.long v2), none, some (.long 0), none, none, none, none, none, none, none]) dX7_byLevel_54 (by decide) rfl ?_
      refine V_ldc2 (v := 2000000000) dX7_byLevel_56 lk_RX7_244 ?_
      refine V_lstore (lv2 := [some (.ref 85), some (.int v1), some (.long v2), none, some (.long 0), none, some (.long 2000000000), none, none, none, none, none]) dX7_byLevel_59 (by decide) rfl ?_
      exact V_wk [true, true, true, false, true, false, true, false, false, false, false, false] rfl (T_X7_byLevel_61 G fu hG fu _ _ _ _ _ _ h)
    · rw [if_neg c7] at h
      refine V_icmpge_f (tgt := 53) dX7_byLevel_7 (by decide) c7 ?_
      refine V_aload_n dX7_byLevel_10 rfl ?_
      refine V_getR (kf := 47) k_X7 (by decide) lk_RX7_142 rfl dX7_byLevel_11 (tq_85 hG) rfl ?_
      refine V_iload dX7_byLevel_14 rfl ?_
      refine V_aload_n dX7_byLevel_16 rfl ?_
      refine V_iload_n dX7_byLevel_17 rfl ?_
      refine V_iload dX7_byLevel_18 rfl ?_
      obtain ⟨x31, y32, h⟩ := bi_o h
      refine V_callV (as := [.int v1, .int v4]) (q := 85) (rest := [.int v4, .ref 127]) dX7_byLevel_20 ov_mX7_isOff lk_RX7_197 (by decide) (by decide) rfl rfl (Nat.le_of_ble_eq_true rfl) (tq_85 hG) rfl (VM_X7_isOff G fu μ hG v1 v4 _ y32) ?_
      by_cases c23 : x31 = true
      · rw [if_pos c23] at h
        refine V_ifeq_f (tgt := 45) dX7_byLevel_23 (by decide) (b2i_t.mp c23) ?_
        refine V_aload_n dX7_byLevel_26 rfl ?_
        refine V_iload dX7_byLevel_27 rfl ?_
        obtain ⟨x33, y34, h⟩ := bi_o h
        refine V_callV (as := [.int v4]) (q := 85) (rest := [.int v4, .ref 127]) dX7_byLevel_29 ov_mX7_isGap lk_RX7_205 (by decide) (by decide) rfl rfl (Nat.le_of_ble_eq_true rfl) (tq_85 hG) rfl (VM_X7_isGap G μ hG v4 _ y34) ?_
        by_cases c32 : x33 = true
        · rw [if_pos c32] at h
          refine V_ifne_t (tgt := 45) dX7_byLevel_32 (by decide) (b2i_t.mp c32) ?_
          exact V_wk [true, true, true, false, true, false, false, false, false, false, false, false] rfl (T_X7_byLevel_45 G fu hG (D_X7_byLevel_3 fu n) ih _ _ _ _ _ _ h)
        · rw [if_neg c32] at h
          refine V_ifne_f (tgt := 45) dX7_byLevel_32 (by decide) (b2i_f.mp c32) ?_
          refine V_aload_n dX7_byLevel_35 rfl ?_
          refine V_iload_n dX7_byLevel_36 rfl ?_
          refine V_iload dX7_byLevel_37 rfl ?_
          obtain ⟨x38, y39, h⟩ := bi_o h
          refine V_callV (as := [.int v1, .int v4]) (q := 85) (rest := [.int v4, .ref 127]) dX7_byLevel_39 ov_mX7_roomOf lk_RX7_219 (by decide) (by decide) rfl rfl (Nat.le_of_ble_eq_true rfl) (tq_85 hG) rfl (VM_X7_roomOf G fu μ hG v1 v4 _ y39) ?_
          refine V_goto (tgt := 46) dX7_byLevel_42 (by decide) ?_
          exact V_wk [true, true, true, false, true, false, false, false, false, false, false, false] rfl (T_X7_byLevel_46 G fu hG (D_X7_byLevel_3 fu n) ih _ _ _ _ _ _ _ h)
      · rw [if_neg c23] at h
        refine V_ifeq_t (tgt := 45) dX7_byLevel_23 (by decide) (b2i_f.mp c23) ?_
        exact V_wk [true, true, true, false, true, false, false, false, false, false, false, false] rfl (T_X7_byLevel_45 G fu hG (D_X7_byLevel_3 fu n) ih _ _ _ _ _ _ h)
def D_X7_byLevel_0 (fu : Nat)  (a1 : Int32) (a2 : Int64) (μ : Mem) : Option Mem :=
  D_X7_byLevel_3 fu fu a1 a2 0 μ
set_option maxRecDepth 20000 in
theorem T_X7_byLevel_0 (G : GX) (fu : Nat)  (hG : gt G = tbl) : ∀ (a1 : Int32) (a2 : Int64) (μ : Mem) (r : Mem) , D_X7_byLevel_0 fu a1 a2 μ = some r → V G mX7_byLevel 0 [some (.ref 85), some (.int a1), some (.long a2), none, none, none, none, none, none, none, none, none] [] μ (.inl none) (r) := by
  intro a1 a2 μ r h
  unfold D_X7_byLevel_0 at h
  refine V_iconst (v := 0) dX7_byLevel_0 rfl ?_
  refine V_istore (lv2 := [some (.ref 85), some (.int a1), some (.long a2), none, some (.int 0), none, none, none, none, none, none, none]) dX7_byLevel_1 (by decide) rfl ?_
  exact V_wk [true, true, true, false, true, false, false, false, false, false, false, false] rfl (T_X7_byLevel_3 G fu hG fu _ _ _ _ _ h)
theorem VM_X7_byLevel (G : GX) (fu : Nat)  (hG : gt G = tbl) (a1 : Int32) (a2 : Int64) (μ : Mem) (r : Mem) (h : D_X7_byLevel_0 fu a1 a2 μ = some r) : VM G mX7_byLevel [.ref 85, .int a1, .long a2] μ (.inl none) (r) := V_entry ok_mX7_byLevel rfl rfl (Nat.le_of_ble_eq_true rfl) (T_X7_byLevel_0 G fu hG a1 a2 μ r h)
def D_X7_fallsOn_0  (a1 : Int32) (a2 : Int32) (a3 : Int64) (μ : Mem) : Option Mem :=
  gu (ib ((7 * a1) + a2) 175) <|
  gu (ib ((7 * a1) + a2) 175) <|
  vl (wL μ 110 (Int32.toNatClampNeg ((7 * a1) + a2)) ((μ.2.1 110 (Int32.toNatClampNeg ((7 * a1) + a2))) + a3)) fun m3 =>
  some m3
set_option maxRecDepth 20000 in
theorem T_X7_fallsOn_0 (G : GX)  (hG : gt G = tbl) : ∀ (a1 : Int32) (a2 : Int32) (a3 : Int64) (μ : Mem) (r : Mem) , D_X7_fallsOn_0  a1 a2 a3 μ = some r → V G mX7_fallsOn 0 [some (.ref 85), some (.int a1), some (.int a2), some (.long a3), none] [] μ (.inl none) (r) := by
  intro a1 a2 a3 μ r h
  unfold D_X7_fallsOn_0 at h
  refine V_aload_n dX7_fallsOn_0 rfl ?_
  refine V_getR (kf := 26) k_X7 (by decide) lk_RX7_91 rfl dX7_fallsOn_1 (tq_85 hG) rfl ?_
  refine V_bipush (v := 7) dX7_fallsOn_4 rfl ?_
  refine V_iload_n dX7_fallsOn_6 rfl ?_
  refine V_imul dX7_fallsOn_7 ?_
  refine V_iload_n dX7_fallsOn_8 rfl ?_
  refine V_iadd dX7_fallsOn_9 ?_
  refine V_dup2 dX7_fallsOn_10 rfl rfl ?_
  obtain ⟨g1, h⟩ := gu_o h
  refine V_laload dX7_fallsOn_11 (tq_110 hG) (ib_in g1) ?_
  refine V_lload_n dX7_fallsOn_12 rfl ?_
  refine V_ladd dX7_fallsOn_13 ?_
  obtain ⟨g2, h⟩ := gu_o h
  obtain ⟨m3, e4, h⟩ := vl_o h
  refine V_lastore (μ2 := m3) dX7_fallsOn_14 (tq_110 hG) (ib_in g2) e4.symm ?_
  cases h
  exact V_vret rfl dX7_fallsOn_15
theorem VM_X7_fallsOn (G : GX)  (hG : gt G = tbl) (a1 : Int32) (a2 : Int32) (a3 : Int64) (μ : Mem) (r : Mem) (h : D_X7_fallsOn_0  a1 a2 a3 μ = some r) : VM G mX7_fallsOn [.ref 85, .int a1, .int a2, .long a3] μ (.inl none) (r) := V_entry ok_mX7_fallsOn rfl rfl (Nat.le_of_ble_eq_true rfl) (T_X7_fallsOn_0 G hG a1 a2 a3 μ r h)
def D_X7_splits_278 (fu : Nat)  (k106 : Int32 → Int32 → Int64 → Int64 → Int32 → Mem → Option Mem) (v1 : Int32) (v2 : Int32) (v4 : Int64) (v6 : Int64) (v8 : Int32) (μ : Mem) : Option Mem :=
  k106 v1 v2 v4 v6 (v8 + 1) μ
set_option maxRecDepth 20000 in
theorem T_X7_splits_278 (G : GX) (fu : Nat)  (hG : gt G = tbl) (k106 : Int32 → Int32 → Int64 → Int64 → Int32 → Mem → Option Mem) (hk106 : ∀ (v1 : Int32) (v2 : Int32) (v4 : Int64) (v6 : Int64) (v8 : Int32) (μ : Mem) (r : Mem), k106 v1 v2 v4 v6 v8 μ = some r → V G mX7_splits 106 [some (.ref 85), some (.int v1), some (.int v2), none, some (.long v4), none, some (.long v6), none, some (.int v8), none, none, none] [] μ (.inl none) (r)) : ∀ (v1 : Int32) (v2 : Int32) (v4 : Int64) (v6 : Int64) (v8 : Int32) (μ : Mem) (r : Mem) , D_X7_splits_278 fu k106 v1 v2 v4 v6 v8 μ = some r → V G mX7_splits 278 [some (.ref 85), some (.int v1), some (.int v2), none, some (.long v4), none, some (.long v6), none, some (.int v8), none, none, none] [] μ (.inl none) (r) := by
  intro v1 v2 v4 v6 v8 μ r h
  unfold D_X7_splits_278 at h
  refine V_iinc (v := v8 + 1) (lv2 := [some (.ref 85), some (.int v1), some (.int v2), none, some (.long v4), none, some (.long v6), none, some (.int (v8 + 1)), none, none, none]) dX7_splits_278 rfl rfl (by decide) rfl ?_
  refine V_goto (tgt := 106) dX7_splits_281 (by decide) ?_
  exact V_wk [true, true, true, false, true, false, true, false, true, false, false, false] rfl (hk106 _ _ _ _ _ _ _ h)
def D_X7_splits_273 (fu : Nat)  (k106 : Int32 → Int32 → Int64 → Int64 → Int32 → Mem → Option Mem) (v1 : Int32) (v2 : Int32) (v4 : Int64) (v6 : Int64) (v8 : Int32) (v9 : Int64) (s1 : Int32) (s2 : Int32) (μ : Mem) : Option Mem :=
  (D_X7_fallsOn_0 s1 s2 v9 μ).bind fun x25 =>
  D_X7_splits_278 fu k106 v1 v2 v4 v6 v8 x25
set_option maxRecDepth 20000 in
theorem T_X7_splits_273 (G : GX) (fu : Nat)  (hG : gt G = tbl) (k106 : Int32 → Int32 → Int64 → Int64 → Int32 → Mem → Option Mem) (hk106 : ∀ (v1 : Int32) (v2 : Int32) (v4 : Int64) (v6 : Int64) (v8 : Int32) (μ : Mem) (r : Mem), k106 v1 v2 v4 v6 v8 μ = some r → V G mX7_splits 106 [some (.ref 85), some (.int v1), some (.int v2), none, some (.long v4), none, some (.long v6), none, some (.int v8), none, none, none] [] μ (.inl none) (r)) : ∀ (v1 : Int32) (v2 : Int32) (v4 : Int64) (v6 : Int64) (v8 : Int32) (v9 : Int64) (s1 : Int32) (s2 : Int32) (μ : Mem) (r : Mem) , D_X7_splits_273 fu k106 v1 v2 v4 v6 v8 v9 s1 s2 μ = some r → V G mX7_splits 273 [some (.ref 85), some (.int v1), some (.int v2), none, some (.long v4), none, some (.long v6), none, some (.int v8), some (.long v9), none, none] [.int s2, .int s1, .ref 85] μ (.inl none) (r) := by
  intro v1 v2 v4 v6 v8 v9 s1 s2 μ r h
  unfold D_X7_splits_273 at h
  refine V_lload dX7_splits_273 rfl ?_
  obtain ⟨x25, y26, h⟩ := bi_o h
  refine V_callV (as := [.int s1, .int s2, .long v9]) (q := 85) (rest := []) dX7_splits_275 ov_mX7_fallsOn lk_RX7_254 (by decide) (by decide) rfl rfl (Nat.le_of_ble_eq_true rfl) (tq_85 hG) rfl (VM_X7_fallsOn G hG s1 s2 v9 μ _ y26) ?_
  exact V_wk [true, true, true, false, true, false, true, false, true, false, false, false] rfl (T_X7_splits_278 G fu hG k106 hk106 _ _ _ _ _ _ _ h)
def D_X7_splits_169 (fu : Nat)  (k106 : Int32 → Int32 → Int64 → Int64 → Int32 → Mem → Option Mem) (v1 : Int32) (v2 : Int32) (v4 : Int64) (v8 : Int32) (v9 : Int64) (s0 : Int64) (s1 : Int64) (μ : Mem) : Option Mem :=
  gu (ib ((4 * v2) + v8) 160) <|
  gu (ib (((160 * v1) + (4 * v2)) + v8) 4000) <|
  gu (ib (((160 * v1) + (4 * v2)) + v8) 4000) <|
  vl (wI μ 108 (Int32.toNatClampNeg (((160 * v1) + (4 * v2)) + v8)) ((μ.1 108 (Int32.toNatClampNeg (((160 * v1) + (4 * v2)) + v8))) + ((v9 : Int64).toInt32))) fun m15 =>
  if (μ.1 97 (Int32.toNatClampNeg ((4 * v2) + v8))) = 0 then
    (D_X7_fallsOn_0 v1 0 v9 m15).bind fun x17 =>
    D_X7_splits_278 fu k106 v1 v2 v4 (s0 - s1) v8 x17
  else
    gu (ib (μ.1 97 (Int32.toNatClampNeg ((4 * v2) + v8))) 10) <|
    if (m15.1 111 (Int32.toNatClampNeg (μ.1 97 (Int32.toNatClampNeg ((4 * v2) + v8))))) = 0 then
      gu (ib ((10 * v1) + (μ.1 97 (Int32.toNatClampNeg ((4 * v2) + v8)))) 250) <|
      gu (ib ((10 * v1) + (μ.1 97 (Int32.toNatClampNeg ((4 * v2) + v8)))) 250) <|
      vl (wL m15 109 (Int32.toNatClampNeg ((10 * v1) + (μ.1 97 (Int32.toNatClampNeg ((4 * v2) + v8))))) ((m15.2.1 109 (Int32.toNatClampNeg ((10 * v1) + (μ.1 97 (Int32.toNatClampNeg ((4 * v2) + v8)))))) + v9)) fun m22 =>
      D_X7_splits_278 fu k106 v1 v2 v4 (s0 - s1) v8 m22
    else
      gu (ib (μ.1 97 (Int32.toNatClampNeg ((4 * v2) + v8))) 10) <|
      if (m15.1 111 (Int32.toNatClampNeg (μ.1 97 (Int32.toNatClampNeg ((4 * v2) + v8))))) = (1 : Int32) then
        D_X7_splits_273 fu k106 v1 v2 v4 (s0 - s1) v8 v9 v1 5 m15
      else
        D_X7_splits_273 fu k106 v1 v2 v4 (s0 - s1) v8 v9 v1 6 m15
set_option maxRecDepth 20000 in
theorem T_X7_splits_169 (G : GX) (fu : Nat)  (hG : gt G = tbl) (k106 : Int32 → Int32 → Int64 → Int64 → Int32 → Mem → Option Mem) (hk106 : ∀ (v1 : Int32) (v2 : Int32) (v4 : Int64) (v6 : Int64) (v8 : Int32) (μ : Mem) (r : Mem), k106 v1 v2 v4 v6 v8 μ = some r → V G mX7_splits 106 [some (.ref 85), some (.int v1), some (.int v2), none, some (.long v4), none, some (.long v6), none, some (.int v8), none, none, none] [] μ (.inl none) (r)) : ∀ (v1 : Int32) (v2 : Int32) (v4 : Int64) (v8 : Int32) (v9 : Int64) (s0 : Int64) (s1 : Int64) (μ : Mem) (r : Mem) , D_X7_splits_169 fu k106 v1 v2 v4 v8 v9 s0 s1 μ = some r → V G mX7_splits 169 [some (.ref 85), some (.int v1), some (.int v2), none, some (.long v4), none, none, none, some (.int v8), some (.long v9), none, none] [.long s1, .long s0] μ (.inl none) (r) := by
  intro v1 v2 v4 v8 v9 s0 s1 μ r h
  unfold D_X7_splits_169 at h
  refine V_lsub dX7_splits_169 ?_
  refine V_lstore (lv2 := [some (.ref 85), some (.int v1), some (.int v2), none, some (.long v4), none, some (.long (s0 - s1)), none, some (.int v8), some (.long v9), none, none]) dX7_splits_170 (by decide) rfl ?_
  refine V_aload_n dX7_splits_172 rfl ?_
  refine V_getR (kf := 13) k_X7 (by decide) lk_RX7_51 rfl dX7_splits_173 (tq_85 hG) rfl ?_
  refine V_iconst (v := 4) dX7_splits_176 rfl ?_
  refine V_iload_n dX7_splits_177 rfl ?_
  refine V_imul dX7_splits_178 ?_
  refine V_iload dX7_splits_179 rfl ?_
  refine V_iadd dX7_splits_181 ?_
  obtain ⟨g12, h⟩ := gu_o h
  refine V_iaload dX7_splits_182 (tq_97 hG) (ib_in g12) ?_
  refine V_istore (lv2 := [some (.ref 85), some (.int v1), some (.int v2), none, some (.long v4), none, some (.long (s0 - s1)), none, some (.int v8), some (.long v9), none, some (.int (μ.1 97 (Int32.toNatClampNeg ((4 * v2) + v8))))]) dX7_splits_183 (by decide) rfl ?_
  refine V_aload_n dX7_splits_185 rfl ?_
  refine V_getR (kf := 24) k_X7 (by decide) lk_RX7_85 rfl dX7_splits_186 (tq_85 hG) rfl ?_
  refine V_sipush (v := 160) dX7_splits_189 rfl ?_
  refine V_iload_n dX7_splits_192 rfl ?_
  refine V_imul dX7_splits_193 ?_
  refine V_iconst (v := 4) dX7_splits_194 rfl ?_
  refine V_iload_n dX7_splits_195 rfl ?_
  refine V_imul dX7_splits_196 ?_
  refine V_iadd dX7_splits_197 ?_
  refine V_iload dX7_splits_198 rfl ?_
  refine V_iadd dX7_splits_200 ?_
  refine V_dup2 dX7_splits_201 rfl rfl ?_
  obtain ⟨g13, h⟩ := gu_o h
  refine V_iaload dX7_splits_202 (tq_108 hG) (ib_in g13) ?_
  refine V_lload dX7_splits_203 rfl ?_
  refine V_l2i dX7_splits_205 ?_
  refine V_iadd dX7_splits_206 ?_
  obtain ⟨g14, h⟩ := gu_o h
  obtain ⟨m15, e16, h⟩ := vl_o h
  refine V_iastore (μ2 := m15) dX7_splits_207 (tq_108 hG) (ib_in g14) e16.symm ?_
  refine V_iload dX7_splits_208 rfl ?_
  by_cases c210 : (μ.1 97 (Int32.toNatClampNeg ((4 * v2) + v8))) = 0
  · rw [if_pos c210] at h
    refine V_ifne_f (tgt := 224) dX7_splits_210 (by decide) c210 ?_
    refine V_aload_n dX7_splits_213 rfl ?_
    refine V_iload_n dX7_splits_214 rfl ?_
    refine V_iconst (v := 0) dX7_splits_215 rfl ?_
    refine V_lload dX7_splits_216 rfl ?_
    obtain ⟨x17, y18, h⟩ := bi_o h
    refine V_callV (as := [.int v1, .int 0, .long v9]) (q := 85) (rest := []) dX7_splits_218 ov_mX7_fallsOn lk_RX7_254 (by decide) (by decide) rfl rfl (Nat.le_of_ble_eq_true rfl) (tq_85 hG) rfl (VM_X7_fallsOn G hG v1 0 v9 m15 _ y18) ?_
    refine V_goto (tgt := 278) dX7_splits_221 (by decide) ?_
    exact V_wk [true, true, true, false, true, false, true, false, true, false, false, false] rfl (T_X7_splits_278 G fu hG k106 hk106 _ _ _ _ _ _ _ h)
  · rw [if_neg c210] at h
    refine V_ifne_t (tgt := 224) dX7_splits_210 (by decide) c210 ?_
    refine V_aload_n dX7_splits_224 rfl ?_
    refine V_getR (kf := 27) k_X7 (by decide) lk_RX7_94 rfl dX7_splits_225 (tq_85 hG) rfl ?_
    refine V_iload dX7_splits_228 rfl ?_
    obtain ⟨g19, h⟩ := gu_o h
    refine V_iaload dX7_splits_230 (tq_111 hG) (ib_in g19) ?_
    by_cases c231 : (m15.1 111 (Int32.toNatClampNeg (μ.1 97 (Int32.toNatClampNeg ((4 * v2) + v8))))) = 0
    · rw [if_pos c231] at h
      refine V_ifne_f (tgt := 254) dX7_splits_231 (by decide) c231 ?_
      refine V_aload_n dX7_splits_234 rfl ?_
      refine V_getR (kf := 25) k_X7 (by decide) lk_RX7_88 rfl dX7_splits_235 (tq_85 hG) rfl ?_
      refine V_bipush (v := 10) dX7_splits_238 rfl ?_
      refine V_iload_n dX7_splits_240 rfl ?_
      refine V_imul dX7_splits_241 ?_
      refine V_iload dX7_splits_242 rfl ?_
      refine V_iadd dX7_splits_244 ?_
      refine V_dup2 dX7_splits_245 rfl rfl ?_
      obtain ⟨g20, h⟩ := gu_o h
      refine V_laload dX7_splits_246 (tq_109 hG) (ib_in g20) ?_
      refine V_lload dX7_splits_247 rfl ?_
      refine V_ladd dX7_splits_249 ?_
      obtain ⟨g21, h⟩ := gu_o h
      obtain ⟨m22, e23, h⟩ := vl_o h
      refine V_lastore (μ2 := m22) dX7_splits_250 (tq_109 hG) (ib_in g21) e23.symm ?_
      refine V_goto (tgt := 278) dX7_splits_251 (by decide) ?_
      exact V_wk [true, true, true, false, true, false, true, false, true, false, false, false] rfl (T_X7_splits_278 G fu hG k106 hk106 _ _ _ _ _ _ _ h)
    · rw [if_neg c231] at h
      refine V_ifne_t (tgt := 254) dX7_splits_231 (by decide) c231 ?_
      refine V_aload_n dX7_splits_254 rfl ?_
      refine V_iload_n dX7_splits_255 rfl ?_
      refine V_aload_n dX7_splits_256 rfl ?_
      refine V_getR (kf := 27) k_X7 (by decide) lk_RX7_94 rfl dX7_splits_257 (tq_85 hG) rfl ?_
      refine V_iload dX7_splits_260 rfl ?_
      obtain ⟨g24, h⟩ := gu_o h
      refine V_iaload dX7_splits_262 (tq_111 hG) (ib_in g24) ?_
      refine V_iconst (v := 1) dX7_splits_263 rfl ?_
      by_cases c264 : (m15.1 111 (Int32.toNatClampNeg (μ.1 97 (Int32.toNatClampNeg ((4 * v2) + v8))))) = (1 : Int32)
      · rw [if_pos c264] at h
        refine V_icmpne_f (tgt := 271) dX7_splits_264 (by decide) c264 ?_
        refine V_iconst (v := 5) dX7_splits_267 rfl ?_
        refine V_goto (tgt := 273) dX7_splits_268 (by decide) ?_
        exact V_wk [true, true, true, false, true, false, true, false, true, true, false, false] rfl (T_X7_splits_273 G fu hG k106 hk106 _ _ _ _ _ _ _ _ _ _ h)
      · rw [if_neg c264] at h
        refine V_icmpne_t (tgt := 271) dX7_splits_264 (by decide) c264 ?_
        refine V_bipush (v := 6) dX7_splits_271 rfl ?_
        exact V_wk [true, true, true, false, true, false, true, false, true, true, false, false] rfl (T_X7_splits_273 G fu hG k106 hk106 _ _ _ _ _ _ _ _ _ _ h)
def D_X7_splits_152 (fu : Nat)  (k106 : Int32 → Int32 → Int64 → Int64 → Int32 → Mem → Option Mem) (v1 : Int32) (v2 : Int32) (v4 : Int64) (v6 : Int64) (v8 : Int32) (s0 : Int64) (s1 : Int64) (μ : Mem) : Option Mem :=
  if v6 ≤ (0 : Int64) then
    D_X7_splits_169 fu k106 v1 v2 v4 v8 (s0 + s1) v6 0 μ
  else
    D_X7_splits_169 fu k106 v1 v2 v4 v8 (s0 + s1) v6 1 μ
set_option maxRecDepth 20000 in
theorem T_X7_splits_152 (G : GX) (fu : Nat)  (hG : gt G = tbl) (k106 : Int32 → Int32 → Int64 → Int64 → Int32 → Mem → Option Mem) (hk106 : ∀ (v1 : Int32) (v2 : Int32) (v4 : Int64) (v6 : Int64) (v8 : Int32) (μ : Mem) (r : Mem), k106 v1 v2 v4 v6 v8 μ = some r → V G mX7_splits 106 [some (.ref 85), some (.int v1), some (.int v2), none, some (.long v4), none, some (.long v6), none, some (.int v8), none, none, none] [] μ (.inl none) (r)) : ∀ (v1 : Int32) (v2 : Int32) (v4 : Int64) (v6 : Int64) (v8 : Int32) (s0 : Int64) (s1 : Int64) (μ : Mem) (r : Mem) , D_X7_splits_152 fu k106 v1 v2 v4 v6 v8 s0 s1 μ = some r → V G mX7_splits 152 [some (.ref 85), some (.int v1), some (.int v2), none, some (.long v4), none, some (.long v6), none, some (.int v8), none, none, none] [.long s1, .long s0] μ (.inl none) (r) := by
  intro v1 v2 v4 v6 v8 s0 s1 μ r h
  unfold D_X7_splits_152 at h
  refine V_ladd dX7_splits_152 ?_
  refine V_lstore (lv2 := [some (.ref 85), some (.int v1), some (.int v2), none, some (.long v4), none, some (.long v6), none, some (.int v8), some (.long (s0 + s1)), none, none]) dX7_splits_153 (by decide) rfl ?_
  refine V_lload dX7_splits_155 rfl ?_
  refine V_lload dX7_splits_157 rfl ?_
  refine V_lconst (v := 0) dX7_splits_159 rfl ?_
  refine V_lcmp dX7_splits_160 ?_
  by_cases c161 : v6 ≤ (0 : Int64)
  · rw [if_pos c161] at h
    refine V_ifle_t (tgt := 168) dX7_splits_161 (by decide) ((lc_le v6 0).mpr c161) ?_
    refine V_lconst (v := 0) dX7_splits_168 rfl ?_
    exact V_wk [true, true, true, false, true, false, false, false, true, true, false, false] rfl (T_X7_splits_169 G fu hG k106 hk106 _ _ _ _ _ _ _ _ _ h)
  · rw [if_neg c161] at h
    refine V_ifle_f (tgt := 168) dX7_splits_161 (by decide) (fun z => c161 ((lc_le v6 0).mp z)) ?_
    refine V_lconst (v := 1) dX7_splits_164 rfl ?_
    refine V_goto (tgt := 169) dX7_splits_165 (by decide) ?_
    exact V_wk [true, true, true, false, true, false, false, false, true, true, false, false] rfl (T_X7_splits_169 G fu hG k106 hk106 _ _ _ _ _ _ _ _ _ h)
def D_X7_splits_106 (fu : Nat)  : Nat → Int32 → Int32 → Int64 → Int64 → Int32 → Mem → Option Mem
  | 0, _, _, _, _, _, _ => none
  | n + 1, v1, v2, v4, v6, v8, μ =>
    gu (ib v2 40) <|
    if (μ.1 96 (Int32.toNatClampNeg v2)) ≤ v8 then
      gu (ib v2 40) <|
      (D_X7_fallsOn_0 v1 4 ((μ.2.1 118 (Int32.toNatClampNeg v2)) - v4) μ).bind fun x8 =>
      some x8
    else
      gu (ib v2 40) <|
      gu (ib ((4 * v2) + v8) 160) <|
      if v6 ≤ (0 : Int64) then
        D_X7_splits_152 fu (D_X7_splits_106 fu n) v1 v2 v4 v6 v8 (((μ.2.1 118 (Int32.toNatClampNeg v2)) * ((μ.1 98 (Int32.toNatClampNeg ((4 * v2) + v8)) : Int32).toInt64)) / 10) 0 μ
      else
        D_X7_splits_152 fu (D_X7_splits_106 fu n) v1 v2 v4 v6 v8 (((μ.2.1 118 (Int32.toNatClampNeg v2)) * ((μ.1 98 (Int32.toNatClampNeg ((4 * v2) + v8)) : Int32).toInt64)) / 10) 1 μ
set_option maxRecDepth 20000 in
theorem T_X7_splits_106 (G : GX) (fu : Nat)  (hG : gt G = tbl) : ∀ (n : Nat) (v1 : Int32) (v2 : Int32) (v4 : Int64) (v6 : Int64) (v8 : Int32) (μ : Mem) (r : Mem) , D_X7_splits_106 fu n v1 v2 v4 v6 v8 μ = some r → V G mX7_splits 106 [some (.ref 85), some (.int v1), some (.int v2), none, some (.long v4), none, some (.long v6), none, some (.int v8), none, none, none] [] μ (.inl none) (r) := by
  intro n
  induction n with
  | zero =>
    intro v1 v2 v4 v6 v8 μ r h
    exact nomatch (show (none : Option Mem) = some r from h)
  | succ n ih =>
    intro v1 v2 v4 v6 v8 μ r h
    rw [D_X7_splits_106] at h
    refine V_iload dX7_splits_106 rfl ?_
    refine V_aload_n dX7_splits_108 rfl ?_
    refine V_getR (kf := 12) k_X7 (by decide) lk_RX7_48 rfl dX7_splits_109 (tq_85 hG) rfl ?_
    refine V_iload_n dX7_splits_112 rfl ?_
    obtain ⟨g6, h⟩ := gu_o h
    refine V_iaload dX7_splits_113 (tq_96 hG) (ib_in g6) ?_
    by_cases c114 : (μ.1 96 (Int32.toNatClampNeg v2)) ≤ v8
    · rw [if_pos c114] at h
      refine V_icmpge_t (tgt := 284) dX7_splits_114 (by decide) c114 ?_
      refine V_aload_n dX7_splits_284 rfl ?_
      refine V_iload_n dX7_splits_285 rfl ?_
      refine V_iconst (v := 4) dX7_splits_286 rfl ?_
      refine V_aload_n dX7_splits_287 rfl ?_
      refine V_getR (kf := 38) k_X7 (by decide) lk_RX7_115 rfl dX7_splits_288 (tq_85 hG) rfl ?_
      refine V_iload_n dX7_splits_291 rfl ?_
      obtain ⟨g7, h⟩ := gu_o h
      refine V_laload dX7_splits_292 (tq_118 hG) (ib_in g7) ?_
      refine V_lload dX7_splits_293 rfl ?_
      refine V_lsub dX7_splits_295 ?_
      obtain ⟨x8, y9, h⟩ := bi_o h
      refine V_callV (as := [.int v1, .int 4, .long ((μ.2.1 118 (Int32.toNatClampNeg v2)) - v4)]) (q := 85) (rest := []) dX7_splits_296 ov_mX7_fallsOn lk_RX7_254 (by decide) (by decide) rfl rfl (Nat.le_of_ble_eq_true rfl) (tq_85 hG) rfl (VM_X7_fallsOn G hG v1 4 ((μ.2.1 118 (Int32.toNatClampNeg v2)) - v4) μ _ y9) ?_
      cases h
      exact V_vret rfl dX7_splits_299
    · rw [if_neg c114] at h
      refine V_icmpge_f (tgt := 284) dX7_splits_114 (by decide) c114 ?_
      refine V_aload_n dX7_splits_117 rfl ?_
      refine V_getR (kf := 38) k_X7 (by decide) lk_RX7_115 rfl dX7_splits_118 (tq_85 hG) rfl ?_
      refine V_iload_n dX7_splits_121 rfl ?_
      obtain ⟨g10, h⟩ := gu_o h
      refine V_laload dX7_splits_122 (tq_118 hG) (ib_in g10) ?_
      refine V_aload_n dX7_splits_123 rfl ?_
      refine V_getR (kf := 14) k_X7 (by decide) lk_RX7_54 rfl dX7_splits_124 (tq_85 hG) rfl ?_
      refine V_iconst (v := 4) dX7_splits_127 rfl ?_
      refine V_iload_n dX7_splits_128 rfl ?_
      refine V_imul dX7_splits_129 ?_
      refine V_iload dX7_splits_130 rfl ?_
      refine V_iadd dX7_splits_132 ?_
      obtain ⟨g11, h⟩ := gu_o h
      refine V_iaload dX7_splits_133 (tq_98 hG) (ib_in g11) ?_
      refine V_i2l dX7_splits_134 ?_
      refine V_lmul dX7_splits_135 ?_
      refine V_ldc2 (v := 10) dX7_splits_136 lk_RX7_252 ?_
      refine V_ldiv dX7_splits_139 (by decide) ?_
      refine V_lload dX7_splits_140 rfl ?_
      refine V_lconst (v := 0) dX7_splits_142 rfl ?_
      refine V_lcmp dX7_splits_143 ?_
      by_cases c144 : v6 ≤ (0 : Int64)
      · rw [if_pos c144] at h
        refine V_ifle_t (tgt := 151) dX7_splits_144 (by decide) ((lc_le v6 0).mpr c144) ?_
        refine V_lconst (v := 0) dX7_splits_151 rfl ?_
        exact V_wk [true, true, true, false, true, false, true, false, true, false, false, false] rfl (T_X7_splits_152 G fu hG (D_X7_splits_106 fu n) ih _ _ _ _ _ _ _ _ _ h)
      · rw [if_neg c144] at h
        refine V_ifle_f (tgt := 151) dX7_splits_144 (by decide) (fun z => c144 ((lc_le v6 0).mp z)) ?_
        refine V_lconst (v := 1) dX7_splits_147 rfl ?_
        refine V_goto (tgt := 152) dX7_splits_148 (by decide) ?_
        exact V_wk [true, true, true, false, true, false, true, false, true, false, false, false] rfl (T_X7_splits_152 G fu hG (D_X7_splits_106 fu n) ih _ _ _ _ _ _ _ _ _ h)
def D_X7_splits_58 (fu : Nat)  : Nat → Int32 → Int32 → Int64 → Int64 → Int32 → Mem → Option Mem
  | 0, _, _, _, _, _, _ => none
  | n + 1, v1, v2, v4, v6, v8, μ =>
    gu (ib v2 40) <|
    if (μ.1 96 (Int32.toNatClampNeg v2)) ≤ v8 then
      D_X7_splits_106 fu fu v1 v2 v4 v6 0 μ
    else
      gu (ib v2 40) <|
      gu (ib ((4 * v2) + v8) 160) <|
      vl (v6 - (((μ.2.1 118 (Int32.toNatClampNeg v2)) * ((μ.1 98 (Int32.toNatClampNeg ((4 * v2) + v8)) : Int32).toInt64)) / 10) : Int64) fun x29 =>
      (D_X7_splits_58 fu n) v1 v2 v4 x29 (v8 + 1) μ
set_option maxRecDepth 20000 in
theorem T_X7_splits_58 (G : GX) (fu : Nat)  (hG : gt G = tbl) : ∀ (n : Nat) (v1 : Int32) (v2 : Int32) (v4 : Int64) (v6 : Int64) (v8 : Int32) (μ : Mem) (r : Mem) , D_X7_splits_58 fu n v1 v2 v4 v6 v8 μ = some r → V G mX7_splits 58 [some (.ref 85), some (.int v1), some (.int v2), none, some (.long v4), none, some (.long v6), none, some (.int v8), none, none, none] [] μ (.inl none) (r) := by
  intro n
  induction n with
  | zero =>
    intro v1 v2 v4 v6 v8 μ r h
    exact nomatch (show (none : Option Mem) = some r from h)
  | succ n ih =>
    intro v1 v2 v4 v6 v8 μ r h
    rw [D_X7_splits_58] at h
    refine V_iload dX7_splits_58 rfl ?_
    refine V_aload_n dX7_splits_60 rfl ?_
    refine V_getR (kf := 12) k_X7 (by decide) lk_RX7_48 rfl dX7_splits_61 (tq_85 hG) rfl ?_
    refine V_iload_n dX7_splits_64 rfl ?_
    obtain ⟨g5, h⟩ := gu_o h
    refine V_iaload dX7_splits_65 (tq_96 hG) (ib_in g5) ?_
    by_cases c66 : (μ.1 96 (Int32.toNatClampNeg v2)) ≤ v8
    · rw [if_pos c66] at h
      refine V_icmpge_t (tgt := 103) dX7_splits_66 (by decide) c66 ?_
      refine V_iconst (v := 0) dX7_splits_103 rfl ?_
      refine V_istore (lv2 := [some (.ref 85), some (.int v1), some (.int v2), none, some (.long v4), none, some (.long v6), none, some (.int 0), none, none, none]) dX7_splits_104 (by decide) rfl ?_
      exact V_wk [true, true, true, false, true, false, true, false, true, false, false, false] rfl (T_X7_splits_106 G fu hG fu _ _ _ _ _ _ _ h)
    · rw [if_neg c66] at h
      refine V_icmpge_f (tgt := 103) dX7_splits_66 (by decide) c66 ?_
      refine V_lload dX7_splits_69 rfl ?_
      refine V_aload_n dX7_splits_71 rfl ?_
      refine V_getR (kf := 38) k_X7 (by decide) lk_RX7_115 rfl dX7_splits_72 (tq_85 hG) rfl ?_
      refine V_iload_n dX7_splits_75 rfl ?_
      obtain ⟨g27, h⟩ := gu_o h
      refine V_laload dX7_splits_76 (tq_118 hG) (ib_in g27) ?_
      refine V_aload_n dX7_splits_77 rfl ?_
      refine V_getR (kf := 14) k_X7 (by decide) lk_RX7_54 rfl dX7_splits_78 (tq_85 hG) rfl ?_
      refine V_iconst (v := 4) dX7_splits_81 rfl ?_
      refine V_iload_n dX7_splits_82 rfl ?_
      refine V_imul dX7_splits_83 ?_
      refine V_iload dX7_splits_84 rfl ?_
      refine V_iadd dX7_splits_86 ?_
      obtain ⟨g28, h⟩ := gu_o h
      refine V_iaload dX7_splits_87 (tq_98 hG) (ib_in g28) ?_
      refine V_i2l dX7_splits_88 ?_
      refine V_lmul dX7_splits_89 ?_
      refine V_ldc2 (v := 10) dX7_splits_90 lk_RX7_252 ?_
      refine V_ldiv dX7_splits_93 (by decide) ?_
      refine V_lsub dX7_splits_94 ?_
      obtain ⟨x29, e30, h⟩ := vl_o h
      refine V_topl e30 ?_
      refine V_lstore (lv2 := [some (.ref 85), some (.int v1), some (.int v2), none, some (.long v4), none, some (.long x29), none, some (.int v8), none, none, none]) dX7_splits_95 (by decide) rfl ?_
      refine V_iinc (v := v8 + 1) (lv2 := [some (.ref 85), some (.int v1), some (.int v2), none, some (.long v4), none, some (.long x29), none, some (.int (v8 + 1)), none, none, none]) dX7_splits_97 rfl rfl (by decide) rfl ?_
      refine V_goto (tgt := 58) dX7_splits_100 (by decide) ?_
      exact V_wk [true, true, true, false, true, false, true, false, true, false, false, false] rfl (ih _ _ _ _ _ _ _ h)
def D_X7_splits_5 (fu : Nat)  : Nat → Int32 → Int32 → Int32 → Int32 → Mem → Option Mem
  | 0, _, _, _, _, _ => none
  | n + 1, v1, v2, v3, v4, μ =>
    gu (ib v2 40) <|
    if (μ.1 96 (Int32.toNatClampNeg v2)) ≤ v4 then
      gu (ib v2 40) <|
      vl (((μ.2.1 118 (Int32.toNatClampNeg v2)) * ((v3 : Int32).toInt64)) / 10 : Int64) fun x3 =>
      D_X7_splits_58 fu fu v1 v2 x3 x3 0 μ
    else
      gu (ib ((4 * v2) + v4) 160) <|
      vl (v3 + (μ.1 98 (Int32.toNatClampNeg ((4 * v2) + v4))) : Int32) fun x32 =>
      (D_X7_splits_5 fu n) v1 v2 x32 (v4 + 1) μ
set_option maxRecDepth 20000 in
theorem T_X7_splits_5 (G : GX) (fu : Nat)  (hG : gt G = tbl) : ∀ (n : Nat) (v1 : Int32) (v2 : Int32) (v3 : Int32) (v4 : Int32) (μ : Mem) (r : Mem) , D_X7_splits_5 fu n v1 v2 v3 v4 μ = some r → V G mX7_splits 5 [some (.ref 85), some (.int v1), some (.int v2), some (.int v3), some (.int v4), none, none, none, none, none, none, none] [] μ (.inl none) (r) := by
  intro n
  induction n with
  | zero =>
    intro v1 v2 v3 v4 μ r h
    exact nomatch (show (none : Option Mem) = some r from h)
  | succ n ih =>
    intro v1 v2 v3 v4 μ r h
    rw [D_X7_splits_5] at h
    refine V_iload dX7_splits_5 rfl ?_
    refine V_aload_n dX7_splits_7 rfl ?_
    refine V_getR (kf := 12) k_X7 (by decide) lk_RX7_48 rfl dX7_splits_8 (tq_85 hG) rfl ?_
    refine V_iload_n dX7_splits_11 rfl ?_
    obtain ⟨g1, h⟩ := gu_o h
    refine V_iaload dX7_splits_12 (tq_96 hG) (ib_in g1) ?_
    by_cases c13 : (μ.1 96 (Int32.toNatClampNeg v2)) ≤ v4
    · rw [if_pos c13] at h
      refine V_icmpge_t (tgt := 36) dX7_splits_13 (by decide) c13 ?_
      refine V_aload_n dX7_splits_36 rfl ?_
      refine V_getR (kf := 38) k_X7 (by decide) lk_RX7_115 rfl dX7_splits_37 (tq_85 hG) rfl ?_
      refine V_iload_n dX7_splits_40 rfl ?_
      obtain ⟨g2, h⟩ := gu_o h
      refine V_laload dX7_splits_41 (tq_118 hG) (ib_in g2) ?_
      refine V_iload_n dX7_splits_42 rfl ?_
      refine V_i2l dX7_splits_43 ?_
      refine V_lmul dX7_splits_44 ?_
      refine V_ldc2 (v := 10) dX7_splits_45 lk_RX7_252 ?_
      refine V_ldiv dX7_splits_48 (by decide) ?_
      obtain ⟨x3, e4, h⟩ := vl_o h
      refine V_topl e4 ?_
      refine V_lstore (lv2 := [some (.ref 85), some (.int v1), some (.int v2), some (.int v3), some (.long x3), none, none, none, none, none, none, none]) dX7_splits_49 (by decide) rfl ?_
      refine V_lload dX7_splits_51 rfl ?_
      refine V_lstore (lv2 := [some (.ref 85), some (.int v1), some (.int v2), some (.int v3), some (.long x3), none, some (.long x3), none, none, none, none, none]) dX7_splits_53 (by decide) rfl ?_
      refine V_iconst (v := 0) dX7_splits_55 rfl ?_
      refine V_istore (lv2 := [some (.ref 85), some (.int v1), some (.int v2), some (.int v3), some (.long x3), none, some (.long x3), none, some (.int 0), none, none, none]) dX7_splits_56 (by decide) rfl ?_
      exact V_wk [true, true, true, false, true, false, true, false, true, false, false, false] rfl (T_X7_splits_58 G fu hG fu _ _ _ _ _ _ _ h)
    · rw [if_neg c13] at h
      refine V_icmpge_f (tgt := 36) dX7_splits_13 (by decide) c13 ?_
      refine V_iload_n dX7_splits_16 rfl ?_
      refine V_aload_n dX7_splits_17 rfl ?_
      refine V_getR (kf := 14) k_X7 (by decide) lk_RX7_54 rfl dX7_splits_18 (tq_85 hG) rfl ?_
      refine V_iconst (v := 4) dX7_splits_21 rfl ?_
      refine V_iload_n dX7_splits_22 rfl ?_
      refine V_imul dX7_splits_23 ?_
      refine V_iload dX7_splits_24 rfl ?_
      refine V_iadd dX7_splits_26 ?_
      obtain ⟨g31, h⟩ := gu_o h
      refine V_iaload dX7_splits_27 (tq_98 hG) (ib_in g31) ?_
      refine V_iadd dX7_splits_28 ?_
      obtain ⟨x32, e33, h⟩ := vl_o h
      refine V_topi e33 ?_
      refine V_istore_n (lv2 := [some (.ref 85), some (.int v1), some (.int v2), some (.int x32), some (.int v4), none, none, none, none, none, none, none]) dX7_splits_29 (by decide) rfl ?_
      refine V_iinc (v := v4 + 1) (lv2 := [some (.ref 85), some (.int v1), some (.int v2), some (.int x32), some (.int (v4 + 1)), none, none, none, none, none, none, none]) dX7_splits_30 rfl rfl (by decide) rfl ?_
      refine V_goto (tgt := 5) dX7_splits_33 (by decide) ?_
      exact V_wk [true, true, true, true, true, false, false, false, false, false, false, false] rfl (ih _ _ _ _ _ _ h)
def D_X7_splits_0 (fu : Nat)  (a1 : Int32) (a2 : Int32) (μ : Mem) : Option Mem :=
  D_X7_splits_5 fu fu a1 a2 0 0 μ
set_option maxRecDepth 20000 in
theorem T_X7_splits_0 (G : GX) (fu : Nat)  (hG : gt G = tbl) : ∀ (a1 : Int32) (a2 : Int32) (μ : Mem) (r : Mem) , D_X7_splits_0 fu a1 a2 μ = some r → V G mX7_splits 0 [some (.ref 85), some (.int a1), some (.int a2), none, none, none, none, none, none, none, none, none] [] μ (.inl none) (r) := by
  intro a1 a2 μ r h
  unfold D_X7_splits_0 at h
  refine V_iconst (v := 0) dX7_splits_0 rfl ?_
  refine V_istore_n (lv2 := [some (.ref 85), some (.int a1), some (.int a2), some (.int 0), none, none, none, none, none, none, none, none]) dX7_splits_1 (by decide) rfl ?_
  refine V_iconst (v := 0) dX7_splits_2 rfl ?_
  refine V_istore (lv2 := [some (.ref 85), some (.int a1), some (.int a2), some (.int 0), some (.int 0), none, none, none, none, none, none, none]) dX7_splits_3 (by decide) rfl ?_
  exact V_wk [true, true, true, true, true, false, false, false, false, false, false, false] rfl (T_X7_splits_5 G fu hG fu _ _ _ _ _ _ h)
theorem VM_X7_splits (G : GX) (fu : Nat)  (hG : gt G = tbl) (a1 : Int32) (a2 : Int32) (μ : Mem) (r : Mem) (h : D_X7_splits_0 fu a1 a2 μ = some r) : VM G mX7_splits [.ref 85, .int a1, .int a2] μ (.inl none) (r) := V_entry ok_mX7_splits rfl rfl (Nat.le_of_ble_eq_true rfl) (T_X7_splits_0 G fu hG a1 a2 μ r h)
def D_X7_spreads_124 (fu : Nat)  (k98 : Int32 → Int32 → Mem → Option Mem) (v1 : Int32) (v4 : Int32) (μ : Mem) : Option Mem :=
  k98 v1 (v4 + 1) μ
set_option maxRecDepth 20000 in
theorem T_X7_spreads_124 (G : GX) (fu : Nat)  (hG : gt G = tbl) (k98 : Int32 → Int32 → Mem → Option Mem) (hk98 : ∀ (v1 : Int32) (v4 : Int32) (μ : Mem) (r : Mem), k98 v1 v4 μ = some r → V G mX7_spreads 98 [some (.ref 85), some (.int v1), none, none, some (.int v4)] [] μ (.inl none) (r)) : ∀ (v1 : Int32) (v4 : Int32) (μ : Mem) (r : Mem) , D_X7_spreads_124 fu k98 v1 v4 μ = some r → V G mX7_spreads 124 [some (.ref 85), some (.int v1), none, none, some (.int v4)] [] μ (.inl none) (r) := by
  intro v1 v4 μ r h
  unfold D_X7_spreads_124 at h
  refine V_iinc (v := v4 + 1) (lv2 := [some (.ref 85), some (.int v1), none, none, some (.int (v4 + 1))]) dX7_spreads_124 rfl rfl (by decide) rfl ?_
  refine V_goto (tgt := 98) dX7_spreads_127 (by decide) ?_
  exact V_wk [true, true, false, false, true] rfl (hk98 _ _ _ _ h)
def D_X7_spreads_98 (fu : Nat)  : Nat → Int32 → Int32 → Mem → Option Mem
  | 0, _, _, _ => none
  | n + 1, v1, v4, μ =>
    if (40 : Int32) ≤ v4 then
      some μ
    else
      gu (ib v4 40) <|
      if (μ.2.1 118 (Int32.toNatClampNeg v4)) ≤ (0 : Int64) then
        D_X7_spreads_124 fu (D_X7_spreads_98 fu n) v1 v4 μ
      else
        (D_X7_splits_0 fu v1 v4 μ).bind fun x8 =>
        D_X7_spreads_124 fu (D_X7_spreads_98 fu n) v1 v4 x8
set_option maxRecDepth 20000 in
theorem T_X7_spreads_98 (G : GX) (fu : Nat)  (hG : gt G = tbl) : ∀ (n : Nat) (v1 : Int32) (v4 : Int32) (μ : Mem) (r : Mem) , D_X7_spreads_98 fu n v1 v4 μ = some r → V G mX7_spreads 98 [some (.ref 85), some (.int v1), none, none, some (.int v4)] [] μ (.inl none) (r) := by
  intro n
  induction n with
  | zero =>
    intro v1 v4 μ r h
    exact nomatch (show (none : Option Mem) = some r from h)
  | succ n ih =>
    intro v1 v4 μ r h
    rw [D_X7_spreads_98] at h
    refine V_iload dX7_spreads_98 rfl ?_
    refine V_bipush (v := 40) dX7_spreads_100 rfl ?_
    by_cases c102 : (40 : Int32) ≤ v4
    · rw [if_pos c102] at h
      refine V_icmpge_t (tgt := 130) dX7_spreads_102 (by decide) c102 ?_
      cases h
      exact V_vret rfl dX7_spreads_130
    · rw [if_neg c102] at h
      refine V_icmpge_f (tgt := 130) dX7_spreads_102 (by decide) c102 ?_
      refine V_aload_n dX7_spreads_105 rfl ?_
      refine V_getR (kf := 38) k_X7 (by decide) lk_RX7_115 rfl dX7_spreads_106 (tq_85 hG) rfl ?_
      refine V_iload dX7_spreads_109 rfl ?_
      obtain ⟨g7, h⟩ := gu_o h
      refine V_laload dX7_spreads_111 (tq_118 hG) (ib_in g7) ?_
      refine V_lconst (v := 0) dX7_spreads_112 rfl ?_
      refine V_lcmp dX7_spreads_113 ?_
      by_cases c114 : (μ.2.1 118 (Int32.toNatClampNeg v4)) ≤ (0 : Int64)
      · rw [if_pos c114] at h
        refine V_ifle_t (tgt := 124) dX7_spreads_114 (by decide) ((lc_le (μ.2.1 118 (Int32.toNatClampNeg v4)) 0).mpr c114) ?_
        exact V_wk [true, true, false, false, true] rfl (T_X7_spreads_124 G fu hG (D_X7_spreads_98 fu n) ih _ _ _ _ h)
      · rw [if_neg c114] at h
        refine V_ifle_f (tgt := 124) dX7_spreads_114 (by decide) (fun z => c114 ((lc_le (μ.2.1 118 (Int32.toNatClampNeg v4)) 0).mp z)) ?_
        refine V_aload_n dX7_spreads_117 rfl ?_
        refine V_iload_n dX7_spreads_118 rfl ?_
        refine V_iload dX7_spreads_119 rfl ?_
        obtain ⟨x8, y9, h⟩ := bi_o h
        refine V_callV (as := [.int v1, .int v4]) (q := 85) (rest := []) dX7_spreads_121 ov_mX7_splits lk_RX7_273 (by decide) (by decide) rfl rfl (Nat.le_of_ble_eq_true rfl) (tq_85 hG) rfl (VM_X7_splits G fu hG v1 v4 μ _ y9) ?_
        exact V_wk [true, true, false, false, true] rfl (T_X7_spreads_124 G fu hG (D_X7_spreads_98 fu n) ih _ _ _ _ h)
def D_X7_spreads_95 (fu : Nat)  (v1 : Int32) (μ : Mem) : Option Mem :=
  D_X7_spreads_98 fu fu v1 0 μ
set_option maxRecDepth 20000 in
theorem T_X7_spreads_95 (G : GX) (fu : Nat)  (hG : gt G = tbl) : ∀ (v1 : Int32) (μ : Mem) (r : Mem) , D_X7_spreads_95 fu v1 μ = some r → V G mX7_spreads 95 [some (.ref 85), some (.int v1), none, none, none] [] μ (.inl none) (r) := by
  intro v1 μ r h
  unfold D_X7_spreads_95 at h
  refine V_iconst (v := 0) dX7_spreads_95 rfl ?_
  refine V_istore (lv2 := [some (.ref 85), some (.int v1), none, none, some (.int 0)]) dX7_spreads_96 (by decide) rfl ?_
  exact V_wk [true, true, false, false, true] rfl (T_X7_spreads_98 G fu hG fu _ _ _ _ h)
def D_X7_spreads_89 (fu : Nat)  (v1 : Int32) (v2 : Int64) (μ : Mem) : Option Mem :=
  (D_X7_byShares_0 fu v1 v2 μ).bind fun x14 =>
  D_X7_spreads_95 fu v1 x14
set_option maxRecDepth 20000 in
theorem T_X7_spreads_89 (G : GX) (fu : Nat)  (hG : gt G = tbl) : ∀ (v1 : Int32) (v2 : Int64) (μ : Mem) (r : Mem) , D_X7_spreads_89 fu v1 v2 μ = some r → V G mX7_spreads 89 [some (.ref 85), some (.int v1), some (.long v2), none, none] [] μ (.inl none) (r) := by
  intro v1 v2 μ r h
  unfold D_X7_spreads_89 at h
  refine V_aload_n dX7_spreads_89 rfl ?_
  refine V_iload_n dX7_spreads_90 rfl ?_
  refine V_lload_n dX7_spreads_91 rfl ?_
  obtain ⟨x14, y15, h⟩ := bi_o h
  refine V_callV (as := [.int v1, .long v2]) (q := 85) (rest := []) dX7_spreads_92 ov_mX7_byShares lk_RX7_234 (by decide) (by decide) rfl rfl (Nat.le_of_ble_eq_true rfl) (tq_85 hG) rfl (VM_X7_byShares G fu hG v1 v2 μ _ y15) ?_
  exact V_wk [true, true, false, false, false] rfl (T_X7_spreads_95 G fu hG _ _ _ h)
def D_X7_spreads_3 (fu : Nat)  : Nat → Int32 → Int64 → Int32 → Mem → Option Mem
  | 0, _, _, _, _ => none
  | n + 1, v1, v2, v4, μ =>
    if (40 : Int32) ≤ v4 then
      if (μ.1 85 31) = (2 : Int32) then
        (D_X7_laysFair_0 fu v1 v2 μ).bind fun x1 =>
        (D_X7_byFull_0 fu v1 v2 x1).bind fun x3 =>
        (D_X7_contributes_0 fu v1 x3).bind fun x5 =>
        D_X7_spreads_95 fu v1 x5
      else
        if (μ.1 85 31) = (3 : Int32) then
          (D_X7_byLevel_0 fu v1 v2 μ).bind fun x10 =>
          D_X7_spreads_95 fu v1 x10
        else
          if (μ.1 85 31) = 0 then
            (D_X7_laysLike_0 fu v1 μ).bind fun x12 =>
            D_X7_spreads_89 fu v1 v2 x12
          else
            (D_X7_laysSizes_0 fu v1 μ).bind fun x16 =>
            D_X7_spreads_89 fu v1 v2 x16
    else
      gu (ib v4 40) <|
      vl (wL μ 118 (Int32.toNatClampNeg v4) 0) fun m19 =>
      (D_X7_spreads_3 fu n) v1 v2 (v4 + 1) m19
set_option maxRecDepth 20000 in
theorem T_X7_spreads_3 (G : GX) (fu : Nat)  (hG : gt G = tbl) : ∀ (n : Nat) (v1 : Int32) (v2 : Int64) (v4 : Int32) (μ : Mem) (r : Mem) , D_X7_spreads_3 fu n v1 v2 v4 μ = some r → V G mX7_spreads 3 [some (.ref 85), some (.int v1), some (.long v2), none, some (.int v4)] [] μ (.inl none) (r) := by
  intro n
  induction n with
  | zero =>
    intro v1 v2 v4 μ r h
    exact nomatch (show (none : Option Mem) = some r from h)
  | succ n ih =>
    intro v1 v2 v4 μ r h
    rw [D_X7_spreads_3] at h
    refine V_iload dX7_spreads_3 rfl ?_
    refine V_bipush (v := 40) dX7_spreads_5 rfl ?_
    by_cases c7 : (40 : Int32) ≤ v4
    · rw [if_pos c7] at h
      refine V_icmpge_t (tgt := 24) dX7_spreads_7 (by decide) c7 ?_
      refine V_aload_n dX7_spreads_24 rfl ?_
      refine V_getI (kf := 31) k_X7 (by decide) lk_RX7_155 rfl dX7_spreads_25 (tq_85 hG) rfl ?_
      refine V_iconst (v := 2) dX7_spreads_28 rfl ?_
      by_cases c29 : (μ.1 85 31) = (2 : Int32)
      · rw [if_pos c29] at h
        refine V_icmpne_f (tgt := 52) dX7_spreads_29 (by decide) c29 ?_
        refine V_aload_n dX7_spreads_32 rfl ?_
        refine V_iload_n dX7_spreads_33 rfl ?_
        refine V_lload_n dX7_spreads_34 rfl ?_
        obtain ⟨x1, y2, h⟩ := bi_o h
        refine V_callV (as := [.int v1, .long v2]) (q := 85) (rest := []) dX7_spreads_35 ov_mX7_laysFair lk_RX7_258 (by decide) (by decide) rfl rfl (Nat.le_of_ble_eq_true rfl) (tq_85 hG) rfl (VM_X7_laysFair G fu hG v1 v2 μ _ y2) ?_
        refine V_aload_n dX7_spreads_38 rfl ?_
        refine V_iload_n dX7_spreads_39 rfl ?_
        refine V_lload_n dX7_spreads_40 rfl ?_
        obtain ⟨x3, y4, h⟩ := bi_o h
        refine V_callV (as := [.int v1, .long v2]) (q := 85) (rest := []) dX7_spreads_41 ov_mX7_byFull lk_RX7_261 (by decide) (by decide) rfl rfl (Nat.le_of_ble_eq_true rfl) (tq_85 hG) rfl (VM_X7_byFull G fu hG v1 v2 x1 _ y4) ?_
        refine V_aload_n dX7_spreads_44 rfl ?_
        refine V_iload_n dX7_spreads_45 rfl ?_
        obtain ⟨x5, y6, h⟩ := bi_o h
        refine V_callV (as := [.int v1]) (q := 85) (rest := []) dX7_spreads_46 ov_mX7_contributes lk_RX7_264 (by decide) (by decide) rfl rfl (Nat.le_of_ble_eq_true rfl) (tq_85 hG) rfl (VM_X7_contributes G fu hG v1 x3 _ y6) ?_
        refine V_goto (tgt := 95) dX7_spreads_49 (by decide) ?_
        exact V_wk [true, true, false, false, false] rfl (T_X7_spreads_95 G fu hG _ _ _ h)
      · rw [if_neg c29] at h
        refine V_icmpne_t (tgt := 52) dX7_spreads_29 (by decide) c29 ?_
        refine V_aload_n dX7_spreads_52 rfl ?_
        refine V_getI (kf := 31) k_X7 (by decide) lk_RX7_155 rfl dX7_spreads_53 (tq_85 hG) rfl ?_
        refine V_iconst (v := 3) dX7_spreads_56 rfl ?_
        by_cases c57 : (μ.1 85 31) = (3 : Int32)
        · rw [if_pos c57] at h
          refine V_icmpne_f (tgt := 69) dX7_spreads_57 (by decide) c57 ?_
          refine V_aload_n dX7_spreads_60 rfl ?_
          refine V_iload_n dX7_spreads_61 rfl ?_
          refine V_lload_n dX7_spreads_62 rfl ?_
          obtain ⟨x10, y11, h⟩ := bi_o h
          refine V_callV (as := [.int v1, .long v2]) (q := 85) (rest := []) dX7_spreads_63 ov_mX7_byLevel lk_RX7_267 (by decide) (by decide) rfl rfl (Nat.le_of_ble_eq_true rfl) (tq_85 hG) rfl (VM_X7_byLevel G fu hG v1 v2 μ _ y11) ?_
          refine V_goto (tgt := 95) dX7_spreads_66 (by decide) ?_
          exact V_wk [true, true, false, false, false] rfl (T_X7_spreads_95 G fu hG _ _ _ h)
        · rw [if_neg c57] at h
          refine V_icmpne_t (tgt := 69) dX7_spreads_57 (by decide) c57 ?_
          refine V_aload_n dX7_spreads_69 rfl ?_
          refine V_getI (kf := 31) k_X7 (by decide) lk_RX7_155 rfl dX7_spreads_70 (tq_85 hG) rfl ?_
          by_cases c73 : (μ.1 85 31) = 0
          · rw [if_pos c73] at h
            refine V_ifne_f (tgt := 84) dX7_spreads_73 (by decide) c73 ?_
            refine V_aload_n dX7_spreads_76 rfl ?_
            refine V_iload_n dX7_spreads_77 rfl ?_
            obtain ⟨x12, y13, h⟩ := bi_o h
            refine V_callV (as := [.int v1]) (q := 85) (rest := []) dX7_spreads_78 ov_mX7_laysLike lk_RX7_231 (by decide) (by decide) rfl rfl (Nat.le_of_ble_eq_true rfl) (tq_85 hG) rfl (VM_X7_laysLike G fu hG v1 μ _ y13) ?_
            refine V_goto (tgt := 89) dX7_spreads_81 (by decide) ?_
            exact V_wk [true, true, true, false, false] rfl (T_X7_spreads_89 G fu hG _ _ _ _ h)
          · rw [if_neg c73] at h
            refine V_ifne_t (tgt := 84) dX7_spreads_73 (by decide) c73 ?_
            refine V_aload_n dX7_spreads_84 rfl ?_
            refine V_iload_n dX7_spreads_85 rfl ?_
            obtain ⟨x16, y17, h⟩ := bi_o h
            refine V_callV (as := [.int v1]) (q := 85) (rest := []) dX7_spreads_86 ov_mX7_laysSizes lk_RX7_270 (by decide) (by decide) rfl rfl (Nat.le_of_ble_eq_true rfl) (tq_85 hG) rfl (VM_X7_laysSizes G fu hG v1 μ _ y17) ?_
            exact V_wk [true, true, true, false, false] rfl (T_X7_spreads_89 G fu hG _ _ _ _ h)
    · rw [if_neg c7] at h
      refine V_icmpge_f (tgt := 24) dX7_spreads_7 (by decide) c7 ?_
      refine V_aload_n dX7_spreads_10 rfl ?_
      refine V_getR (kf := 38) k_X7 (by decide) lk_RX7_115 rfl dX7_spreads_11 (tq_85 hG) rfl ?_
      refine V_iload dX7_spreads_14 rfl ?_
      refine V_lconst (v := 0) dX7_spreads_16 rfl ?_
      obtain ⟨g18, h⟩ := gu_o h
      obtain ⟨m19, e20, h⟩ := vl_o h
      refine V_lastore (μ2 := m19) dX7_spreads_17 (tq_118 hG) (ib_in g18) e20.symm ?_
      refine V_iinc (v := v4 + 1) (lv2 := [some (.ref 85), some (.int v1), some (.long v2), none, some (.int (v4 + 1))]) dX7_spreads_18 rfl rfl (by decide) rfl ?_
      refine V_goto (tgt := 3) dX7_spreads_21 (by decide) ?_
      exact V_wk [true, true, true, false, true] rfl (ih _ _ _ _ _ h)
def D_X7_spreads_0 (fu : Nat)  (a1 : Int32) (a2 : Int64) (μ : Mem) : Option Mem :=
  D_X7_spreads_3 fu fu a1 a2 0 μ
set_option maxRecDepth 20000 in
theorem T_X7_spreads_0 (G : GX) (fu : Nat)  (hG : gt G = tbl) : ∀ (a1 : Int32) (a2 : Int64) (μ : Mem) (r : Mem) , D_X7_spreads_0 fu a1 a2 μ = some r → V G mX7_spreads 0 [some (.ref 85), some (.int a1), some (.long a2), none, none] [] μ (.inl none) (r) := by
  intro a1 a2 μ r h
  unfold D_X7_spreads_0 at h
  refine V_iconst (v := 0) dX7_spreads_0 rfl ?_
  refine V_istore (lv2 := [some (.ref 85), some (.int a1), some (.long a2), none, some (.int 0)]) dX7_spreads_1 (by decide) rfl ?_
  exact V_wk [true, true, true, false, true] rfl (T_X7_spreads_3 G fu hG fu _ _ _ _ _ h)
theorem VM_X7_spreads (G : GX) (fu : Nat)  (hG : gt G = tbl) (a1 : Int32) (a2 : Int64) (μ : Mem) (r : Mem) (h : D_X7_spreads_0 fu a1 a2 μ = some r) : VM G mX7_spreads [.ref 85, .int a1, .long a2] μ (.inl none) (r) := V_entry ok_mX7_spreads rfl rfl (Nat.le_of_ble_eq_true rfl) (T_X7_spreads_0 G fu hG a1 a2 μ r h)
def D_X7_insuredOf_5 (fu : Nat) (μ : Mem)  : Nat → Int32 → Int64 → Int32 → Option Int64
  | 0, _, _, _ => none
  | n + 1, v1, v2, v4 =>
    if (7 : Int32) ≤ v4 then
      some v2
    else
      gu (ib ((7 * v1) + v4) 175) <|
      vl (v2 + (μ.2.1 110 (Int32.toNatClampNeg ((7 * v1) + v4))) : Int64) fun x2 =>
      (D_X7_insuredOf_5 fu μ n) v1 x2 (v4 + 1)
set_option maxRecDepth 20000 in
theorem T_X7_insuredOf_5 (G : GX) (fu : Nat) (μ : Mem)  (hG : gt G = tbl) : ∀ (n : Nat) (v1 : Int32) (v2 : Int64) (v4 : Int32) (r : Int64) , D_X7_insuredOf_5 fu μ n v1 v2 v4 = some r → V G mX7_insuredOf 5 [some (.ref 85), some (.int v1), some (.long v2), none, some (.int v4)] [] μ (.inl (some (.long r))) (μ) := by
  intro n
  induction n with
  | zero =>
    intro v1 v2 v4 r h
    exact nomatch (show (none : Option Int64) = some r from h)
  | succ n ih =>
    intro v1 v2 v4 r h
    rw [D_X7_insuredOf_5] at h
    refine V_iload dX7_insuredOf_5 rfl ?_
    refine V_bipush (v := 7) dX7_insuredOf_7 rfl ?_
    by_cases c9 : (7 : Int32) ≤ v4
    · rw [if_pos c9] at h
      refine V_icmpge_t (tgt := 33) dX7_insuredOf_9 (by decide) c9 ?_
      refine V_lload_n dX7_insuredOf_33 rfl ?_
      cases h
      exact V_lret rfl dX7_insuredOf_34
    · rw [if_neg c9] at h
      refine V_icmpge_f (tgt := 33) dX7_insuredOf_9 (by decide) c9 ?_
      refine V_lload_n dX7_insuredOf_12 rfl ?_
      refine V_aload_n dX7_insuredOf_13 rfl ?_
      refine V_getR (kf := 26) k_X7 (by decide) lk_RX7_91 rfl dX7_insuredOf_14 (tq_85 hG) rfl ?_
      refine V_bipush (v := 7) dX7_insuredOf_17 rfl ?_
      refine V_iload_n dX7_insuredOf_19 rfl ?_
      refine V_imul dX7_insuredOf_20 ?_
      refine V_iload dX7_insuredOf_21 rfl ?_
      refine V_iadd dX7_insuredOf_23 ?_
      obtain ⟨g1, h⟩ := gu_o h
      refine V_laload dX7_insuredOf_24 (tq_110 hG) (ib_in g1) ?_
      refine V_ladd dX7_insuredOf_25 ?_
      obtain ⟨x2, e3, h⟩ := vl_o h
      refine V_topl e3 ?_
      refine V_lstore_n (lv2 := [some (.ref 85), some (.int v1), some (.long x2), none, some (.int v4)]) dX7_insuredOf_26 (by decide) rfl ?_
      refine V_iinc (v := v4 + 1) (lv2 := [some (.ref 85), some (.int v1), some (.long x2), none, some (.int (v4 + 1))]) dX7_insuredOf_27 rfl rfl (by decide) rfl ?_
      refine V_goto (tgt := 5) dX7_insuredOf_30 (by decide) ?_
      exact V_wk [true, true, true, false, true] rfl (ih _ _ _ _ h)
def D_X7_insuredOf_0 (fu : Nat) (μ : Mem)  (a1 : Int32) : Option Int64 :=
  D_X7_insuredOf_5 fu μ fu a1 0 0
set_option maxRecDepth 20000 in
theorem T_X7_insuredOf_0 (G : GX) (fu : Nat) (μ : Mem)  (hG : gt G = tbl) : ∀ (a1 : Int32) (r : Int64) , D_X7_insuredOf_0 fu μ a1 = some r → V G mX7_insuredOf 0 [some (.ref 85), some (.int a1), none, none, none] [] μ (.inl (some (.long r))) (μ) := by
  intro a1 r h
  unfold D_X7_insuredOf_0 at h
  refine V_lconst (v := 0) dX7_insuredOf_0 rfl ?_
  refine V_lstore_n (lv2 := [some (.ref 85), some (.int a1), some (.long 0), none, none]) dX7_insuredOf_1 (by decide) rfl ?_
  refine V_iconst (v := 0) dX7_insuredOf_2 rfl ?_
  refine V_istore (lv2 := [some (.ref 85), some (.int a1), some (.long 0), none, some (.int 0)]) dX7_insuredOf_3 (by decide) rfl ?_
  exact V_wk [true, true, true, false, true] rfl (T_X7_insuredOf_5 G fu μ hG fu _ _ _ _ h)
theorem VM_X7_insuredOf (G : GX) (fu : Nat) (μ : Mem)  (hG : gt G = tbl) (a1 : Int32) (r : Int64) (h : D_X7_insuredOf_0 fu μ a1 = some r) : VM G mX7_insuredOf [.ref 85, .int a1] μ (.inl (some (.long r))) (μ) := V_entry ok_mX7_insuredOf rfl rfl (Nat.le_of_ble_eq_true rfl) (T_X7_insuredOf_0 G fu μ hG a1 r h)
def D_X7_bearsOf_0 (fu : Nat) (μ : Mem)  (a1 : Int32) (a2 : Int32) : Option Int64 :=
  if a2 = 0 then
    (D_X7_insuredOf_0 fu μ a1).bind fun x1 =>
    some x1
  else
    gu (ib ((10 * a1) + a2) 250) <|
    some (μ.2.1 109 (Int32.toNatClampNeg ((10 * a1) + a2)))
set_option maxRecDepth 20000 in
theorem T_X7_bearsOf_0 (G : GX) (fu : Nat) (μ : Mem)  (hG : gt G = tbl) : ∀ (a1 : Int32) (a2 : Int32) (r : Int64) , D_X7_bearsOf_0 fu μ a1 a2 = some r → V G mX7_bearsOf 0 [some (.ref 85), some (.int a1), some (.int a2)] [] μ (.inl (some (.long r))) (μ) := by
  intro a1 a2 r h
  unfold D_X7_bearsOf_0 at h
  refine V_iload_n dX7_bearsOf_0 rfl ?_
  by_cases c1 : a2 = 0
  · rw [if_pos c1] at h
    refine V_ifne_f (tgt := 12) dX7_bearsOf_1 (by decide) c1 ?_
    refine V_aload_n dX7_bearsOf_4 rfl ?_
    refine V_iload_n dX7_bearsOf_5 rfl ?_
    obtain ⟨x1, y2, h⟩ := bi_o h
    refine V_callV (as := [.int a1]) (q := 85) (rest := []) dX7_bearsOf_6 ov_mX7_insuredOf lk_RX7_277 (by decide) (by decide) rfl rfl (Nat.le_of_ble_eq_true rfl) (tq_85 hG) rfl (VM_X7_insuredOf G fu μ hG a1 _ y2) ?_
    refine V_goto (tgt := 23) dX7_bearsOf_9 (by decide) ?_
    cases h
    exact V_lret rfl dX7_bearsOf_23
  · rw [if_neg c1] at h
    refine V_ifne_t (tgt := 12) dX7_bearsOf_1 (by decide) c1 ?_
    refine V_aload_n dX7_bearsOf_12 rfl ?_
    refine V_getR (kf := 25) k_X7 (by decide) lk_RX7_88 rfl dX7_bearsOf_13 (tq_85 hG) rfl ?_
    refine V_bipush (v := 10) dX7_bearsOf_16 rfl ?_
    refine V_iload_n dX7_bearsOf_18 rfl ?_
    refine V_imul dX7_bearsOf_19 ?_
    refine V_iload_n dX7_bearsOf_20 rfl ?_
    refine V_iadd dX7_bearsOf_21 ?_
    obtain ⟨g3, h⟩ := gu_o h
    refine V_laload dX7_bearsOf_22 (tq_109 hG) (ib_in g3) ?_
    cases h
    exact V_lret rfl dX7_bearsOf_23
theorem VM_X7_bearsOf (G : GX) (fu : Nat) (μ : Mem)  (hG : gt G = tbl) (a1 : Int32) (a2 : Int32) (r : Int64) (h : D_X7_bearsOf_0 fu μ a1 a2 = some r) : VM G mX7_bearsOf [.ref 85, .int a1, .int a2] μ (.inl (some (.long r))) (μ) := V_entry ok_mX7_bearsOf rfl rfl (Nat.le_of_ble_eq_true rfl) (T_X7_bearsOf_0 G fu μ hG a1 a2 r h)
def D_X7_bearsAll_34 (fu : Nat) (μ : Mem)  (k5 : Int32 → Int64 → Int32 → Option Int64) (v1 : Int32) (v4 : Int32) (s0 : Int64) (s1 : Int64) : Option Int64 :=
  k5 v1 (s0 + s1) (v4 + 1)
set_option maxRecDepth 20000 in
theorem T_X7_bearsAll_34 (G : GX) (fu : Nat) (μ : Mem)  (hG : gt G = tbl) (k5 : Int32 → Int64 → Int32 → Option Int64) (hk5 : ∀ (v1 : Int32) (v2 : Int64) (v4 : Int32) (r : Int64), k5 v1 v2 v4 = some r → V G mX7_bearsAll 5 [some (.ref 85), some (.int v1), some (.long v2), none, some (.int v4)] [] μ (.inl (some (.long r))) (μ)) : ∀ (v1 : Int32) (v4 : Int32) (s0 : Int64) (s1 : Int64) (r : Int64) , D_X7_bearsAll_34 fu μ k5 v1 v4 s0 s1 = some r → V G mX7_bearsAll 34 [some (.ref 85), some (.int v1), none, none, some (.int v4)] [.long s1, .long s0] μ (.inl (some (.long r))) (μ) := by
  intro v1 v4 s0 s1 r h
  unfold D_X7_bearsAll_34 at h
  refine V_ladd dX7_bearsAll_34 ?_
  refine V_lstore_n (lv2 := [some (.ref 85), some (.int v1), some (.long (s0 + s1)), none, some (.int v4)]) dX7_bearsAll_35 (by decide) rfl ?_
  refine V_iinc (v := v4 + 1) (lv2 := [some (.ref 85), some (.int v1), some (.long (s0 + s1)), none, some (.int (v4 + 1))]) dX7_bearsAll_36 rfl rfl (by decide) rfl ?_
  refine V_goto (tgt := 5) dX7_bearsAll_39 (by decide) ?_
  exact V_wk [true, true, true, false, true] rfl (hk5 _ _ _ _ h)
def D_X7_bearsAll_5 (fu : Nat) (μ : Mem)  : Nat → Int32 → Int64 → Int32 → Option Int64
  | 0, _, _, _ => none
  | n + 1, v1, v2, v4 =>
    if (24 : Int32) ≤ v4 then
      some v2
    else
      gu (ib v4 25) <|
      if (μ.1 91 (Int32.toNatClampNeg v4)) = 0 then
        D_X7_bearsAll_34 fu μ (D_X7_bearsAll_5 fu μ n) v1 v4 v2 0
      else
        (D_X7_bearsOf_0 fu μ v4 v1).bind fun x2 =>
        D_X7_bearsAll_34 fu μ (D_X7_bearsAll_5 fu μ n) v1 v4 v2 x2
set_option maxRecDepth 20000 in
theorem T_X7_bearsAll_5 (G : GX) (fu : Nat) (μ : Mem)  (hG : gt G = tbl) : ∀ (n : Nat) (v1 : Int32) (v2 : Int64) (v4 : Int32) (r : Int64) , D_X7_bearsAll_5 fu μ n v1 v2 v4 = some r → V G mX7_bearsAll 5 [some (.ref 85), some (.int v1), some (.long v2), none, some (.int v4)] [] μ (.inl (some (.long r))) (μ) := by
  intro n
  induction n with
  | zero =>
    intro v1 v2 v4 r h
    exact nomatch (show (none : Option Int64) = some r from h)
  | succ n ih =>
    intro v1 v2 v4 r h
    rw [D_X7_bearsAll_5] at h
    refine V_iload dX7_bearsAll_5 rfl ?_
    refine V_bipush (v := 24) dX7_bearsAll_7 rfl ?_
    by_cases c9 : (24 : Int32) ≤ v4
    · rw [if_pos c9] at h
      refine V_icmpge_t (tgt := 42) dX7_bearsAll_9 (by decide) c9 ?_
      refine V_lload_n dX7_bearsAll_42 rfl ?_
      cases h
      exact V_lret rfl dX7_bearsAll_43
    · rw [if_neg c9] at h
      refine V_icmpge_f (tgt := 42) dX7_bearsAll_9 (by decide) c9 ?_
      refine V_lload_n dX7_bearsAll_12 rfl ?_
      refine V_aload_n dX7_bearsAll_13 rfl ?_
      refine V_getR (kf := 7) k_X7 (by decide) lk_RX7_33 rfl dX7_bearsAll_14 (tq_85 hG) rfl ?_
      refine V_iload dX7_bearsAll_17 rfl ?_
      obtain ⟨g1, h⟩ := gu_o h
      refine V_baload dX7_bearsAll_19 (tq_91 hG) (ib_in g1) ?_
      by_cases c20 : (μ.1 91 (Int32.toNatClampNeg v4)) = 0
      · rw [if_pos c20] at h
        refine V_ifeq_t (tgt := 33) dX7_bearsAll_20 (by decide) c20 ?_
        refine V_lconst (v := 0) dX7_bearsAll_33 rfl ?_
        exact V_wk [true, true, false, false, true] rfl (T_X7_bearsAll_34 G fu μ hG (D_X7_bearsAll_5 fu μ n) ih _ _ _ _ _ h)
      · rw [if_neg c20] at h
        refine V_ifeq_f (tgt := 33) dX7_bearsAll_20 (by decide) c20 ?_
        refine V_aload_n dX7_bearsAll_23 rfl ?_
        refine V_iload dX7_bearsAll_24 rfl ?_
        refine V_iload_n dX7_bearsAll_26 rfl ?_
        obtain ⟨x2, y3, h⟩ := bi_o h
        refine V_callV (as := [.int v4, .int v1]) (q := 85) (rest := [.long v2]) dX7_bearsAll_27 ov_mX7_bearsOf lk_RX7_280 (by decide) (by decide) rfl rfl (Nat.le_of_ble_eq_true rfl) (tq_85 hG) rfl (VM_X7_bearsOf G fu μ hG v4 v1 _ y3) ?_
        refine V_goto (tgt := 34) dX7_bearsAll_30 (by decide) ?_
        exact V_wk [true, true, false, false, true] rfl (T_X7_bearsAll_34 G fu μ hG (D_X7_bearsAll_5 fu μ n) ih _ _ _ _ _ h)
def D_X7_bearsAll_0 (fu : Nat) (μ : Mem)  (a1 : Int32) : Option Int64 :=
  D_X7_bearsAll_5 fu μ fu a1 0 0
set_option maxRecDepth 20000 in
theorem T_X7_bearsAll_0 (G : GX) (fu : Nat) (μ : Mem)  (hG : gt G = tbl) : ∀ (a1 : Int32) (r : Int64) , D_X7_bearsAll_0 fu μ a1 = some r → V G mX7_bearsAll 0 [some (.ref 85), some (.int a1), none, none, none] [] μ (.inl (some (.long r))) (μ) := by
  intro a1 r h
  unfold D_X7_bearsAll_0 at h
  refine V_lconst (v := 0) dX7_bearsAll_0 rfl ?_
  refine V_lstore_n (lv2 := [some (.ref 85), some (.int a1), some (.long 0), none, none]) dX7_bearsAll_1 (by decide) rfl ?_
  refine V_iconst (v := 0) dX7_bearsAll_2 rfl ?_
  refine V_istore (lv2 := [some (.ref 85), some (.int a1), some (.long 0), none, some (.int 0)]) dX7_bearsAll_3 (by decide) rfl ?_
  exact V_wk [true, true, true, false, true] rfl (T_X7_bearsAll_5 G fu μ hG fu _ _ _ _ h)
theorem VM_X7_bearsAll (G : GX) (fu : Nat) (μ : Mem)  (hG : gt G = tbl) (a1 : Int32) (r : Int64) (h : D_X7_bearsAll_0 fu μ a1 = some r) : VM G mX7_bearsAll [.ref 85, .int a1] μ (.inl (some (.long r))) (μ) := V_entry ok_mX7_bearsAll rfl rfl (Nat.le_of_ble_eq_true rfl) (T_X7_bearsAll_0 G fu μ hG a1 r h)
def D_X7_canPlace_65 (fu : Nat) (μ : Mem)  (k23 : Int32 → Int32 → Int32 → Int32 → Option Bool) (v1 : Int32) (v2 : Int32) (v3 : Int32) (v4 : Int32) : Option Bool :=
  k23 v1 v2 v3 (v4 + 1)
set_option maxRecDepth 20000 in
theorem T_X7_canPlace_65 (G : GX) (fu : Nat) (μ : Mem)  (hG : gt G = tbl) (k23 : Int32 → Int32 → Int32 → Int32 → Option Bool) (hk23 : ∀ (v1 : Int32) (v2 : Int32) (v3 : Int32) (v4 : Int32) (r : Bool), k23 v1 v2 v3 v4 = some r → V G mX7_canPlace 23 [some (.ref 85), some (.int v1), some (.int v2), some (.int v3), some (.int v4)] [] μ (.inl (some (.int (b2i r)))) (μ)) : ∀ (v1 : Int32) (v2 : Int32) (v3 : Int32) (v4 : Int32) (r : Bool) , D_X7_canPlace_65 fu μ k23 v1 v2 v3 v4 = some r → V G mX7_canPlace 65 [some (.ref 85), some (.int v1), some (.int v2), some (.int v3), some (.int v4)] [] μ (.inl (some (.int (b2i r)))) (μ) := by
  intro v1 v2 v3 v4 r h
  unfold D_X7_canPlace_65 at h
  refine V_iinc (v := v4 + 1) (lv2 := [some (.ref 85), some (.int v1), some (.int v2), some (.int v3), some (.int (v4 + 1))]) dX7_canPlace_65 rfl rfl (by decide) rfl ?_
  refine V_goto (tgt := 23) dX7_canPlace_68 (by decide) ?_
  exact V_wk [true, true, true, true, true] rfl (hk23 _ _ _ _ _ h)
def D_X7_canPlace_23 (fu : Nat) (μ : Mem)  : Nat → Int32 → Int32 → Int32 → Int32 → Option Bool
  | 0, _, _, _, _ => none
  | n + 1, v1, v2, v3, v4 =>
    if (40 : Int32) ≤ v4 then
      some true
    else
      (D_X7_isIn_0 μ v4 v1).bind fun x5 =>
      if x5 = true then
        (D_X7_top_0 μ v4).bind fun x7 =>
        if x7 ≤ v2 then
          D_X7_canPlace_65 fu μ (D_X7_canPlace_23 fu μ n) v1 v2 v3 v4
        else
          gu (ib v4 40) <|
          if (v2 + v3) ≤ (μ.1 93 (Int32.toNatClampNeg v4)) then
            D_X7_canPlace_65 fu μ (D_X7_canPlace_23 fu μ n) v1 v2 v3 v4
          else
            some false
      else
        D_X7_canPlace_65 fu μ (D_X7_canPlace_23 fu μ n) v1 v2 v3 v4
set_option maxRecDepth 20000 in
theorem T_X7_canPlace_23 (G : GX) (fu : Nat) (μ : Mem)  (hG : gt G = tbl) : ∀ (n : Nat) (v1 : Int32) (v2 : Int32) (v3 : Int32) (v4 : Int32) (r : Bool) , D_X7_canPlace_23 fu μ n v1 v2 v3 v4 = some r → V G mX7_canPlace 23 [some (.ref 85), some (.int v1), some (.int v2), some (.int v3), some (.int v4)] [] μ (.inl (some (.int (b2i r)))) (μ) := by
  intro n
  induction n with
  | zero =>
    intro v1 v2 v3 v4 r h
    exact nomatch (show (none : Option Bool) = some r from h)
  | succ n ih =>
    intro v1 v2 v3 v4 r h
    rw [D_X7_canPlace_23] at h
    refine V_iload dX7_canPlace_23 rfl ?_
    refine V_bipush (v := 40) dX7_canPlace_25 rfl ?_
    by_cases c27 : (40 : Int32) ≤ v4
    · rw [if_pos c27] at h
      refine V_icmpge_t (tgt := 71) dX7_canPlace_27 (by decide) c27 ?_
      refine V_iconst (v := 1) dX7_canPlace_71 rfl ?_
      cases h
      exact V_zret rfl (by decide) dX7_canPlace_72
    · rw [if_neg c27] at h
      refine V_icmpge_f (tgt := 71) dX7_canPlace_27 (by decide) c27 ?_
      refine V_aload_n dX7_canPlace_30 rfl ?_
      refine V_iload dX7_canPlace_31 rfl ?_
      refine V_iload_n dX7_canPlace_33 rfl ?_
      obtain ⟨x5, y6, h⟩ := bi_o h
      refine V_callV (as := [.int v4, .int v1]) (q := 85) (rest := []) dX7_canPlace_34 ov_mX7_isIn lk_RX7_283 (by decide) (by decide) rfl rfl (Nat.le_of_ble_eq_true rfl) (tq_85 hG) rfl (VM_X7_isIn G μ hG v4 v1 _ y6) ?_
      by_cases c37 : x5 = true
      · rw [if_pos c37] at h
        refine V_ifeq_f (tgt := 65) dX7_canPlace_37 (by decide) (b2i_t.mp c37) ?_
        refine V_iload_n dX7_canPlace_40 rfl ?_
        refine V_aload_n dX7_canPlace_41 rfl ?_
        refine V_iload dX7_canPlace_42 rfl ?_
        obtain ⟨x7, y8, h⟩ := bi_o h
        refine V_callV (as := [.int v4]) (q := 85) (rest := [.int v2]) dX7_canPlace_44 ov_mX7_top lk_RX7_165 (by decide) (by decide) rfl rfl (Nat.le_of_ble_eq_true rfl) (tq_85 hG) rfl (VM_X7_top G μ hG v4 _ y8) ?_
        by_cases c47 : x7 ≤ v2
        · rw [if_pos c47] at h
          refine V_icmpge_t (tgt := 65) dX7_canPlace_47 (by decide) c47 ?_
          exact V_wk [true, true, true, true, true] rfl (T_X7_canPlace_65 G fu μ hG (D_X7_canPlace_23 fu μ n) ih _ _ _ _ _ h)
        · rw [if_neg c47] at h
          refine V_icmpge_f (tgt := 65) dX7_canPlace_47 (by decide) c47 ?_
          refine V_aload_n dX7_canPlace_50 rfl ?_
          refine V_getR (kf := 9) k_X7 (by decide) lk_RX7_39 rfl dX7_canPlace_51 (tq_85 hG) rfl ?_
          refine V_iload dX7_canPlace_54 rfl ?_
          obtain ⟨g9, h⟩ := gu_o h
          refine V_iaload dX7_canPlace_56 (tq_93 hG) (ib_in g9) ?_
          refine V_iload_n dX7_canPlace_57 rfl ?_
          refine V_iload_n dX7_canPlace_58 rfl ?_
          refine V_iadd dX7_canPlace_59 ?_
          by_cases c60 : (v2 + v3) ≤ (μ.1 93 (Int32.toNatClampNeg v4))
          · rw [if_pos c60] at h
            refine V_icmpge_t (tgt := 65) dX7_canPlace_60 (by decide) c60 ?_
            exact V_wk [true, true, true, true, true] rfl (T_X7_canPlace_65 G fu μ hG (D_X7_canPlace_23 fu μ n) ih _ _ _ _ _ h)
          · rw [if_neg c60] at h
            refine V_icmpge_f (tgt := 65) dX7_canPlace_60 (by decide) c60 ?_
            refine V_iconst (v := 0) dX7_canPlace_63 rfl ?_
            cases h
            exact V_zret rfl (by decide) dX7_canPlace_64
      · rw [if_neg c37] at h
        refine V_ifeq_t (tgt := 65) dX7_canPlace_37 (by decide) (b2i_f.mp c37) ?_
        exact V_wk [true, true, true, true, true] rfl (T_X7_canPlace_65 G fu μ hG (D_X7_canPlace_23 fu μ n) ih _ _ _ _ _ h)
def D_X7_canPlace_0 (fu : Nat) (μ : Mem)  (a1 : Int32) (a2 : Int32) (a3 : Int32) : Option Bool :=
  (D_X7_isLacking_0 μ a1).bind fun x1 =>
  if x1 = true then
    some false
  else
    (D_X7_layersOf_0 μ a1).bind fun x3 =>
    if x3 = (6 : Int32) then
      some false
    else
      D_X7_canPlace_23 fu μ fu a1 a2 a3 0
set_option maxRecDepth 20000 in
theorem T_X7_canPlace_0 (G : GX) (fu : Nat) (μ : Mem)  (hG : gt G = tbl) : ∀ (a1 : Int32) (a2 : Int32) (a3 : Int32) (r : Bool) , D_X7_canPlace_0 fu μ a1 a2 a3 = some r → V G mX7_canPlace 0 [some (.ref 85), some (.int a1), some (.int a2), some (.int a3), none] [] μ (.inl (some (.int (b2i r)))) (μ) := by
  intro a1 a2 a3 r h
  unfold D_X7_canPlace_0 at h
  refine V_aload_n dX7_canPlace_0 rfl ?_
  refine V_iload_n dX7_canPlace_1 rfl ?_
  obtain ⟨x1, y2, h⟩ := bi_o h
  refine V_callV (as := [.int a1]) (q := 85) (rest := []) dX7_canPlace_2 ov_mX7_isLacking lk_RX7_201 (by decide) (by decide) rfl rfl (Nat.le_of_ble_eq_true rfl) (tq_85 hG) rfl (VM_X7_isLacking G μ hG a1 _ y2) ?_
  by_cases c5 : x1 = true
  · rw [if_pos c5] at h
    refine V_ifne_t (tgt := 18) dX7_canPlace_5 (by decide) (b2i_t.mp c5) ?_
    refine V_iconst (v := 0) dX7_canPlace_18 rfl ?_
    cases h
    exact V_zret rfl (by decide) dX7_canPlace_19
  · rw [if_neg c5] at h
    refine V_ifne_f (tgt := 18) dX7_canPlace_5 (by decide) (b2i_f.mp c5) ?_
    refine V_aload_n dX7_canPlace_8 rfl ?_
    refine V_iload_n dX7_canPlace_9 rfl ?_
    obtain ⟨x3, y4, h⟩ := bi_o h
    refine V_callV (as := [.int a1]) (q := 85) (rest := []) dX7_canPlace_10 ov_mX7_layersOf lk_RX7_169 (by decide) (by decide) rfl rfl (Nat.le_of_ble_eq_true rfl) (tq_85 hG) rfl (VM_X7_layersOf G μ hG a1 _ y4) ?_
    refine V_bipush (v := 6) dX7_canPlace_13 rfl ?_
    by_cases c15 : x3 = (6 : Int32)
    · rw [if_pos c15] at h
      refine V_icmpne_f (tgt := 20) dX7_canPlace_15 (by decide) c15 ?_
      refine V_iconst (v := 0) dX7_canPlace_18 rfl ?_
      cases h
      exact V_zret rfl (by decide) dX7_canPlace_19
    · rw [if_neg c15] at h
      refine V_icmpne_t (tgt := 20) dX7_canPlace_15 (by decide) c15 ?_
      refine V_iconst (v := 0) dX7_canPlace_20 rfl ?_
      refine V_istore (lv2 := [some (.ref 85), some (.int a1), some (.int a2), some (.int a3), some (.int 0)]) dX7_canPlace_21 (by decide) rfl ?_
      exact V_wk [true, true, true, true, true] rfl (T_X7_canPlace_23 G fu μ hG fu _ _ _ _ _ h)
theorem VM_X7_canPlace (G : GX) (fu : Nat) (μ : Mem)  (hG : gt G = tbl) (a1 : Int32) (a2 : Int32) (a3 : Int32) (r : Bool) (h : D_X7_canPlace_0 fu μ a1 a2 a3 = some r) : VM G mX7_canPlace [.ref 85, .int a1, .int a2, .int a3] μ (.inl (some (.int (b2i r)))) (μ) := V_entry ok_mX7_canPlace rfl rfl (Nat.le_of_ble_eq_true rfl) (T_X7_canPlace_0 G fu μ hG a1 a2 a3 r h)
def D_X7_signedTenths_4 (fu : Nat) (μ : Mem)  : Nat → Int32 → Int32 → Int32 → Option Int32
  | 0, _, _, _ => none
  | n + 1, v1, v2, v3 =>
    gu (ib v1 40) <|
    if (μ.1 96 (Int32.toNatClampNeg v1)) ≤ v3 then
      some v2
    else
      gu (ib ((4 * v1) + v3) 160) <|
      vl (v2 + (μ.1 98 (Int32.toNatClampNeg ((4 * v1) + v3))) : Int32) fun x3 =>
      (D_X7_signedTenths_4 fu μ n) v1 x3 (v3 + 1)
set_option maxRecDepth 20000 in
theorem T_X7_signedTenths_4 (G : GX) (fu : Nat) (μ : Mem)  (hG : gt G = tbl) : ∀ (n : Nat) (v1 : Int32) (v2 : Int32) (v3 : Int32) (r : Int32) , D_X7_signedTenths_4 fu μ n v1 v2 v3 = some r → V G mX7_signedTenths 4 [some (.ref 85), some (.int v1), some (.int v2), some (.int v3)] [] μ (.inl (some (.int r))) (μ) := by
  intro n
  induction n with
  | zero =>
    intro v1 v2 v3 r h
    exact nomatch (show (none : Option Int32) = some r from h)
  | succ n ih =>
    intro v1 v2 v3 r h
    rw [D_X7_signedTenths_4] at h
    refine V_iload_n dX7_signedTenths_4 rfl ?_
    refine V_aload_n dX7_signedTenths_5 rfl ?_
    refine V_getR (kf := 12) k_X7 (by decide) lk_RX7_48 rfl dX7_signedTenths_6 (tq_85 hG) rfl ?_
    refine V_iload_n dX7_signedTenths_9 rfl ?_
    obtain ⟨g1, h⟩ := gu_o h
    refine V_iaload dX7_signedTenths_10 (tq_96 hG) (ib_in g1) ?_
    by_cases c11 : (μ.1 96 (Int32.toNatClampNeg v1)) ≤ v3
    · rw [if_pos c11] at h
      refine V_icmpge_t (tgt := 33) dX7_signedTenths_11 (by decide) c11 ?_
      refine V_iload_n dX7_signedTenths_33 rfl ?_
      cases h
      exact V_iret rfl dX7_signedTenths_34
    · rw [if_neg c11] at h
      refine V_icmpge_f (tgt := 33) dX7_signedTenths_11 (by decide) c11 ?_
      refine V_iload_n dX7_signedTenths_14 rfl ?_
      refine V_aload_n dX7_signedTenths_15 rfl ?_
      refine V_getR (kf := 14) k_X7 (by decide) lk_RX7_54 rfl dX7_signedTenths_16 (tq_85 hG) rfl ?_
      refine V_iconst (v := 4) dX7_signedTenths_19 rfl ?_
      refine V_iload_n dX7_signedTenths_20 rfl ?_
      refine V_imul dX7_signedTenths_21 ?_
      refine V_iload_n dX7_signedTenths_22 rfl ?_
      refine V_iadd dX7_signedTenths_23 ?_
      obtain ⟨g2, h⟩ := gu_o h
      refine V_iaload dX7_signedTenths_24 (tq_98 hG) (ib_in g2) ?_
      refine V_iadd dX7_signedTenths_25 ?_
      obtain ⟨x3, e4, h⟩ := vl_o h
      refine V_topi e4 ?_
      refine V_istore_n (lv2 := [some (.ref 85), some (.int v1), some (.int x3), some (.int v3)]) dX7_signedTenths_26 (by decide) rfl ?_
      refine V_iinc (v := v3 + 1) (lv2 := [some (.ref 85), some (.int v1), some (.int x3), some (.int (v3 + 1))]) dX7_signedTenths_27 rfl rfl (by decide) rfl ?_
      refine V_goto (tgt := 4) dX7_signedTenths_30 (by decide) ?_
      exact V_wk [true, true, true, true] rfl (ih _ _ _ _ h)
def D_X7_signedTenths_0 (fu : Nat) (μ : Mem)  (a1 : Int32) : Option Int32 :=
  D_X7_signedTenths_4 fu μ fu a1 0 0
set_option maxRecDepth 20000 in
theorem T_X7_signedTenths_0 (G : GX) (fu : Nat) (μ : Mem)  (hG : gt G = tbl) : ∀ (a1 : Int32) (r : Int32) , D_X7_signedTenths_0 fu μ a1 = some r → V G mX7_signedTenths 0 [some (.ref 85), some (.int a1), none, none] [] μ (.inl (some (.int r))) (μ) := by
  intro a1 r h
  unfold D_X7_signedTenths_0 at h
  refine V_iconst (v := 0) dX7_signedTenths_0 rfl ?_
  refine V_istore_n (lv2 := [some (.ref 85), some (.int a1), some (.int 0), none]) dX7_signedTenths_1 (by decide) rfl ?_
  refine V_iconst (v := 0) dX7_signedTenths_2 rfl ?_
  refine V_istore_n (lv2 := [some (.ref 85), some (.int a1), some (.int 0), some (.int 0)]) dX7_signedTenths_3 (by decide) rfl ?_
  exact V_wk [true, true, true, true] rfl (T_X7_signedTenths_4 G fu μ hG fu _ _ _ _ h)
theorem VM_X7_signedTenths (G : GX) (fu : Nat) (μ : Mem)  (hG : gt G = tbl) (a1 : Int32) (r : Int32) (h : D_X7_signedTenths_0 fu μ a1 = some r) : VM G mX7_signedTenths [.ref 85, .int a1] μ (.inl (some (.int r))) (μ) := V_entry ok_mX7_signedTenths rfl rfl (Nat.le_of_ble_eq_true rfl) (T_X7_signedTenths_0 G fu μ hG a1 r h)
def D_X7_canSign_47 (fu : Nat) (μ : Mem)  : Nat → Int32 → Int32 → Int32 → Option Bool
  | 0, _, _, _ => none
  | n + 1, v1, v2, v4 =>
    gu (ib v1 40) <|
    if (μ.1 96 (Int32.toNatClampNeg v1)) ≤ v4 then
      some true
    else
      gu (ib ((4 * v1) + v4) 160) <|
      if (μ.1 97 (Int32.toNatClampNeg ((4 * v1) + v4))) = v2 then
        some false
      else
        (D_X7_canSign_47 fu μ n) v1 v2 (v4 + 1)
set_option maxRecDepth 20000 in
theorem T_X7_canSign_47 (G : GX) (fu : Nat) (μ : Mem)  (hG : gt G = tbl) : ∀ (n : Nat) (v1 : Int32) (v2 : Int32) (v4 : Int32) (r : Bool) , D_X7_canSign_47 fu μ n v1 v2 v4 = some r → V G mX7_canSign 47 [some (.ref 85), some (.int v1), some (.int v2), none, some (.int v4)] [] μ (.inl (some (.int (b2i r)))) (μ) := by
  intro n
  induction n with
  | zero =>
    intro v1 v2 v4 r h
    exact nomatch (show (none : Option Bool) = some r from h)
  | succ n ih =>
    intro v1 v2 v4 r h
    rw [D_X7_canSign_47] at h
    refine V_iload dX7_canSign_47 rfl ?_
    refine V_aload_n dX7_canSign_49 rfl ?_
    refine V_getR (kf := 12) k_X7 (by decide) lk_RX7_48 rfl dX7_canSign_50 (tq_85 hG) rfl ?_
    refine V_iload_n dX7_canSign_53 rfl ?_
    obtain ⟨g6, h⟩ := gu_o h
    refine V_iaload dX7_canSign_54 (tq_96 hG) (ib_in g6) ?_
    by_cases c55 : (μ.1 96 (Int32.toNatClampNeg v1)) ≤ v4
    · rw [if_pos c55] at h
      refine V_icmpge_t (tgt := 81) dX7_canSign_55 (by decide) c55 ?_
      refine V_iconst (v := 1) dX7_canSign_81 rfl ?_
      cases h
      exact V_zret rfl (by decide) dX7_canSign_82
    · rw [if_neg c55] at h
      refine V_icmpge_f (tgt := 81) dX7_canSign_55 (by decide) c55 ?_
      refine V_aload_n dX7_canSign_58 rfl ?_
      refine V_getR (kf := 13) k_X7 (by decide) lk_RX7_51 rfl dX7_canSign_59 (tq_85 hG) rfl ?_
      refine V_iconst (v := 4) dX7_canSign_62 rfl ?_
      refine V_iload_n dX7_canSign_63 rfl ?_
      refine V_imul dX7_canSign_64 ?_
      refine V_iload dX7_canSign_65 rfl ?_
      refine V_iadd dX7_canSign_67 ?_
      obtain ⟨g7, h⟩ := gu_o h
      refine V_iaload dX7_canSign_68 (tq_97 hG) (ib_in g7) ?_
      refine V_iload_n dX7_canSign_69 rfl ?_
      by_cases c70 : (μ.1 97 (Int32.toNatClampNeg ((4 * v1) + v4))) = v2
      · rw [if_pos c70] at h
        refine V_icmpne_f (tgt := 75) dX7_canSign_70 (by decide) c70 ?_
        refine V_iconst (v := 0) dX7_canSign_73 rfl ?_
        cases h
        exact V_zret rfl (by decide) dX7_canSign_74
      · rw [if_neg c70] at h
        refine V_icmpne_t (tgt := 75) dX7_canSign_70 (by decide) c70 ?_
        refine V_iinc (v := v4 + 1) (lv2 := [some (.ref 85), some (.int v1), some (.int v2), none, some (.int (v4 + 1))]) dX7_canSign_75 rfl rfl (by decide) rfl ?_
        refine V_goto (tgt := 47) dX7_canSign_78 (by decide) ?_
        exact V_wk [true, true, true, false, true] rfl (ih _ _ _ _ h)
def D_X7_canSign_0 (fu : Nat) (μ : Mem)  (a1 : Int32) (a2 : Int32) (a3 : Int32) : Option Bool :=
  gu (ib a1 40) <|
  if (μ.1 90 (Int32.toNatClampNeg a1)) = 0 then
    some false
  else
    gu (ib a1 40) <|
    if (μ.1 96 (Int32.toNatClampNeg a1)) = (4 : Int32) then
      some false
    else
      (D_X7_signedTenths_0 fu μ a1).bind fun x3 =>
      if (10 : Int32) < (x3 + a3) then
        some false
      else
        gu (ib a1 40) <|
        if (μ.2.1 99 (Int32.toNatClampNeg a1)) ≤ (0 : Int64) then
          D_X7_canSign_47 fu μ fu a1 a2 0
        else
          some false
set_option maxRecDepth 20000 in
theorem T_X7_canSign_0 (G : GX) (fu : Nat) (μ : Mem)  (hG : gt G = tbl) : ∀ (a1 : Int32) (a2 : Int32) (a3 : Int32) (r : Bool) , D_X7_canSign_0 fu μ a1 a2 a3 = some r → V G mX7_canSign 0 [some (.ref 85), some (.int a1), some (.int a2), some (.int a3), none] [] μ (.inl (some (.int (b2i r)))) (μ) := by
  intro a1 a2 a3 r h
  unfold D_X7_canSign_0 at h
  refine V_aload_n dX7_canSign_0 rfl ?_
  refine V_getR (kf := 6) k_X7 (by decide) lk_RX7_29 rfl dX7_canSign_1 (tq_85 hG) rfl ?_
  refine V_iload_n dX7_canSign_4 rfl ?_
  obtain ⟨g1, h⟩ := gu_o h
  refine V_baload dX7_canSign_5 (tq_90 hG) (ib_in g1) ?_
  by_cases c6 : (μ.1 90 (Int32.toNatClampNeg a1)) = 0
  · rw [if_pos c6] at h
    refine V_ifeq_t (tgt := 42) dX7_canSign_6 (by decide) c6 ?_
    refine V_iconst (v := 0) dX7_canSign_42 rfl ?_
    cases h
    exact V_zret rfl (by decide) dX7_canSign_43
  · rw [if_neg c6] at h
    refine V_ifeq_f (tgt := 42) dX7_canSign_6 (by decide) c6 ?_
    refine V_aload_n dX7_canSign_9 rfl ?_
    refine V_getR (kf := 12) k_X7 (by decide) lk_RX7_48 rfl dX7_canSign_10 (tq_85 hG) rfl ?_
    refine V_iload_n dX7_canSign_13 rfl ?_
    obtain ⟨g2, h⟩ := gu_o h
    refine V_iaload dX7_canSign_14 (tq_96 hG) (ib_in g2) ?_
    refine V_iconst (v := 4) dX7_canSign_15 rfl ?_
    by_cases c16 : (μ.1 96 (Int32.toNatClampNeg a1)) = (4 : Int32)
    · rw [if_pos c16] at h
      refine V_icmpeq_t (tgt := 42) dX7_canSign_16 (by decide) c16 ?_
      refine V_iconst (v := 0) dX7_canSign_42 rfl ?_
      cases h
      exact V_zret rfl (by decide) dX7_canSign_43
    · rw [if_neg c16] at h
      refine V_icmpeq_f (tgt := 42) dX7_canSign_16 (by decide) c16 ?_
      refine V_aload_n dX7_canSign_19 rfl ?_
      refine V_iload_n dX7_canSign_20 rfl ?_
      obtain ⟨x3, y4, h⟩ := bi_o h
      refine V_callV (as := [.int a1]) (q := 85) (rest := []) dX7_canSign_21 ov_mX7_signedTenths lk_RX7_286 (by decide) (by decide) rfl rfl (Nat.le_of_ble_eq_true rfl) (tq_85 hG) rfl (VM_X7_signedTenths G fu μ hG a1 _ y4) ?_
      refine V_iload_n dX7_canSign_24 rfl ?_
      refine V_iadd dX7_canSign_25 ?_
      refine V_bipush (v := 10) dX7_canSign_26 rfl ?_
      by_cases c28 : (10 : Int32) < (x3 + a3)
      · rw [if_pos c28] at h
        refine V_icmpgt_t (tgt := 42) dX7_canSign_28 (by decide) c28 ?_
        refine V_iconst (v := 0) dX7_canSign_42 rfl ?_
        cases h
        exact V_zret rfl (by decide) dX7_canSign_43
      · rw [if_neg c28] at h
        refine V_icmpgt_f (tgt := 42) dX7_canSign_28 (by decide) c28 ?_
        refine V_aload_n dX7_canSign_31 rfl ?_
        refine V_getR (kf := 15) k_X7 (by decide) lk_RX7_57 rfl dX7_canSign_32 (tq_85 hG) rfl ?_
        refine V_iload_n dX7_canSign_35 rfl ?_
        obtain ⟨g5, h⟩ := gu_o h
        refine V_laload dX7_canSign_36 (tq_99 hG) (ib_in g5) ?_
        refine V_lconst (v := 0) dX7_canSign_37 rfl ?_
        refine V_lcmp dX7_canSign_38 ?_
        by_cases c39 : (μ.2.1 99 (Int32.toNatClampNeg a1)) ≤ (0 : Int64)
        · rw [if_pos c39] at h
          refine V_ifle_t (tgt := 44) dX7_canSign_39 (by decide) ((lc_le (μ.2.1 99 (Int32.toNatClampNeg a1)) 0).mpr c39) ?_
          refine V_iconst (v := 0) dX7_canSign_44 rfl ?_
          refine V_istore (lv2 := [some (.ref 85), some (.int a1), some (.int a2), some (.int a3), some (.int 0)]) dX7_canSign_45 (by decide) rfl ?_
          exact V_wk [true, true, true, false, true] rfl (T_X7_canSign_47 G fu μ hG fu _ _ _ _ h)
        · rw [if_neg c39] at h
          refine V_ifle_f (tgt := 44) dX7_canSign_39 (by decide) (fun z => c39 ((lc_le (μ.2.1 99 (Int32.toNatClampNeg a1)) 0).mp z)) ?_
          refine V_iconst (v := 0) dX7_canSign_42 rfl ?_
          cases h
          exact V_zret rfl (by decide) dX7_canSign_43
theorem VM_X7_canSign (G : GX) (fu : Nat) (μ : Mem)  (hG : gt G = tbl) (a1 : Int32) (a2 : Int32) (a3 : Int32) (r : Bool) (h : D_X7_canSign_0 fu μ a1 a2 a3 = some r) : VM G mX7_canSign [.ref 85, .int a1, .int a2, .int a3] μ (.inl (some (.int (b2i r)))) (μ) := V_entry ok_mX7_canSign rfl rfl (Nat.le_of_ble_eq_true rfl) (T_X7_canSign_0 G fu μ hG a1 a2 a3 r h)
def D_X7_can_134 (fu : Nat) (μ : Mem)  (v1 : Int32) : Option Bool :=
  (D_X7_tell_0 μ v1 0).bind fun x26 =>
  gu (ib x26 25) <|
  gu (b01 (μ.1 91 (Int32.toNatClampNeg x26))) <|
  some (i2b (μ.1 91 (Int32.toNatClampNeg x26)))
set_option maxRecDepth 20000 in
theorem T_X7_can_134 (G : GX) (fu : Nat) (μ : Mem)  (hG : gt G = tbl) : ∀ (v1 : Int32) (r : Bool) , D_X7_can_134 fu μ v1 = some r → V G mX7_can 134 [some (.ref 85), some (.int v1)] [] μ (.inl (some (.int (b2i r)))) (μ) := by
  intro v1 r h
  unfold D_X7_can_134 at h
  refine V_aload_n dX7_can_134 rfl ?_
  refine V_getR (kf := 7) k_X7 (by decide) lk_RX7_33 rfl dX7_can_135 (tq_85 hG) rfl ?_
  refine V_aload_n dX7_can_138 rfl ?_
  refine V_iload_n dX7_can_139 rfl ?_
  refine V_iconst (v := 0) dX7_can_140 rfl ?_
  obtain ⟨x26, y27, h⟩ := bi_o h
  refine V_callV (as := [.int v1, .int 0]) (q := 85) (rest := [.ref 91]) dX7_can_141 ov_mX7_tell lk_RX7_289 (by decide) (by decide) rfl rfl (Nat.le_of_ble_eq_true rfl) (tq_85 hG) rfl (VM_X7_tell G μ hG v1 0 _ y27) ?_
  obtain ⟨g28, h⟩ := gu_o h
  refine V_baload dX7_can_144 (tq_91 hG) (ib_in g28) ?_
  obtain ⟨g29, h⟩ := gu_o h
  cases h
  show V _ _ _ _ _ _ (.inl (some (.int (b2i (i2b _))))) _
  rw [b2i_i2b g29]
  exact V_zret rfl (nar_bool (of_decide_eq_true g29)) dX7_can_145
def D_X7_can_146 (fu : Nat) (μ : Mem)  (v1 : Int32) : Option Bool :=
  (D_X7_tell_0 μ v1 0).bind fun x30 =>
  gu (ib x30 10) <|
  if (μ.1 111 (Int32.toNatClampNeg x30)) = 0 then
    some true
  else
    some false
set_option maxRecDepth 20000 in
theorem T_X7_can_146 (G : GX) (fu : Nat) (μ : Mem)  (hG : gt G = tbl) : ∀ (v1 : Int32) (r : Bool) , D_X7_can_146 fu μ v1 = some r → V G mX7_can 146 [some (.ref 85), some (.int v1)] [] μ (.inl (some (.int (b2i r)))) (μ) := by
  intro v1 r h
  unfold D_X7_can_146 at h
  refine V_aload_n dX7_can_146 rfl ?_
  refine V_getR (kf := 27) k_X7 (by decide) lk_RX7_94 rfl dX7_can_147 (tq_85 hG) rfl ?_
  refine V_aload_n dX7_can_150 rfl ?_
  refine V_iload_n dX7_can_151 rfl ?_
  refine V_iconst (v := 0) dX7_can_152 rfl ?_
  obtain ⟨x30, y31, h⟩ := bi_o h
  refine V_callV (as := [.int v1, .int 0]) (q := 85) (rest := [.ref 111]) dX7_can_153 ov_mX7_tell lk_RX7_289 (by decide) (by decide) rfl rfl (Nat.le_of_ble_eq_true rfl) (tq_85 hG) rfl (VM_X7_tell G μ hG v1 0 _ y31) ?_
  obtain ⟨g32, h⟩ := gu_o h
  refine V_iaload dX7_can_156 (tq_111 hG) (ib_in g32) ?_
  by_cases c157 : (μ.1 111 (Int32.toNatClampNeg x30)) = 0
  · rw [if_pos c157] at h
    refine V_ifne_f (tgt := 164) dX7_can_157 (by decide) c157 ?_
    refine V_iconst (v := 1) dX7_can_160 rfl ?_
    refine V_goto (tgt := 165) dX7_can_161 (by decide) ?_
    cases h
    exact V_zret rfl (by decide) dX7_can_165
  · rw [if_neg c157] at h
    refine V_ifne_t (tgt := 164) dX7_can_157 (by decide) c157 ?_
    refine V_iconst (v := 0) dX7_can_164 rfl ?_
    cases h
    exact V_zret rfl (by decide) dX7_can_165
def D_X7_can_0 (fu : Nat) (μ : Mem)  (a1 : Int32) : Option Bool :=
  gu (ib a1 160) <|
  if (μ.1 87 (Int32.toNatClampNeg a1)) = 0 then
    (D_X7_tell_0 μ a1 0).bind fun x2 =>
    (D_X7_tell_0 μ a1 1).bind fun x4 =>
    (D_X7_tell_0 μ a1 2).bind fun x6 =>
    (D_X7_canPlace_0 fu μ x2 x4 x6).bind fun x8 =>
    some x8
  else
  if (μ.1 87 (Int32.toNatClampNeg a1)) = 1 then
    (D_X7_tell_0 μ a1 0).bind fun x10 =>
    (D_X7_tell_0 μ a1 1).bind fun x12 =>
    (D_X7_tell_0 μ a1 2).bind fun x14 =>
    (D_X7_canSign_0 fu μ x10 x12 x14).bind fun x16 =>
    some x16
  else
  if (μ.1 87 (Int32.toNatClampNeg a1)) = 2 then
    (D_X7_tell_0 μ a1 0).bind fun x18 =>
    (D_X7_isLacking_0 μ x18).bind fun x20 =>
    if x20 = true then
      some false
    else
      (D_X7_tell_0 μ a1 0).bind fun x22 =>
      (D_X7_isGap_0 μ x22).bind fun x24 =>
      if x24 = true then
        some true
      else
        some false
  else
  if (μ.1 87 (Int32.toNatClampNeg a1)) = 3 then
    some true
  else
  if (μ.1 87 (Int32.toNatClampNeg a1)) = 4 then
    some true
  else
  if (μ.1 87 (Int32.toNatClampNeg a1)) = 5 then
    D_X7_can_134 fu μ a1
  else
  if (μ.1 87 (Int32.toNatClampNeg a1)) = 6 then
    D_X7_can_146 fu μ a1
  else
  if (μ.1 87 (Int32.toNatClampNeg a1)) = 7 then
    D_X7_can_146 fu μ a1
  else
  if (μ.1 87 (Int32.toNatClampNeg a1)) = 8 then
    D_X7_can_134 fu μ a1
  else
    some true
set_option maxRecDepth 20000 in
theorem T_X7_can_0 (G : GX) (fu : Nat) (μ : Mem)  (hG : gt G = tbl) : ∀ (a1 : Int32) (r : Bool) , D_X7_can_0 fu μ a1 = some r → V G mX7_can 0 [some (.ref 85), some (.int a1)] [] μ (.inl (some (.int (b2i r)))) (μ) := by
  intro a1 r h
  unfold D_X7_can_0 at h
  refine V_aload_n dX7_can_0 rfl ?_
  refine V_getR (kf := 2) k_X7 (by decide) lk_RX7_14 rfl dX7_can_1 (tq_85 hG) rfl ?_
  refine V_iload_n dX7_can_4 rfl ?_
  obtain ⟨g1, h⟩ := gu_o h
  refine V_iaload dX7_can_5 (tq_87 hG) (ib_in g1) ?_
  by_cases c6_0 : (μ.1 87 (Int32.toNatClampNeg a1)) = 0
  · rw [if_pos c6_0] at h
    have qc6_0 : ((μ.1 87 (Int32.toNatClampNeg a1)) : Int32).toInt = 0 := by rw [c6_0]; decide
    refine V_tabIn (tgt := 56) dX7_can_6 (by rw [qc6_0]; decide) (by rw [qc6_0]; decide) (by rw [qc6_0]; rfl) (by decide) ?_
    refine V_aload_n dX7_can_56 rfl ?_
    refine V_aload_n dX7_can_57 rfl ?_
    refine V_iload_n dX7_can_58 rfl ?_
    refine V_iconst (v := 0) dX7_can_59 rfl ?_
    obtain ⟨x2, y3, h⟩ := bi_o h
    refine V_callV (as := [.int a1, .int 0]) (q := 85) (rest := [.ref 85]) dX7_can_60 ov_mX7_tell lk_RX7_289 (by decide) (by decide) rfl rfl (Nat.le_of_ble_eq_true rfl) (tq_85 hG) rfl (VM_X7_tell G μ hG a1 0 _ y3) ?_
    refine V_aload_n dX7_can_63 rfl ?_
    refine V_iload_n dX7_can_64 rfl ?_
    refine V_iconst (v := 1) dX7_can_65 rfl ?_
    obtain ⟨x4, y5, h⟩ := bi_o h
    refine V_callV (as := [.int a1, .int 1]) (q := 85) (rest := [.int x2, .ref 85]) dX7_can_66 ov_mX7_tell lk_RX7_289 (by decide) (by decide) rfl rfl (Nat.le_of_ble_eq_true rfl) (tq_85 hG) rfl (VM_X7_tell G μ hG a1 1 _ y5) ?_
    refine V_aload_n dX7_can_69 rfl ?_
    refine V_iload_n dX7_can_70 rfl ?_
    refine V_iconst (v := 2) dX7_can_71 rfl ?_
    obtain ⟨x6, y7, h⟩ := bi_o h
    refine V_callV (as := [.int a1, .int 2]) (q := 85) (rest := [.int x4, .int x2, .ref 85]) dX7_can_72 ov_mX7_tell lk_RX7_289 (by decide) (by decide) rfl rfl (Nat.le_of_ble_eq_true rfl) (tq_85 hG) rfl (VM_X7_tell G μ hG a1 2 _ y7) ?_
    obtain ⟨x8, y9, h⟩ := bi_o h
    refine V_callV (as := [.int x2, .int x4, .int x6]) (q := 85) (rest := []) dX7_can_75 ov_mX7_canPlace lk_RX7_292 (by decide) (by decide) rfl rfl (Nat.le_of_ble_eq_true rfl) (tq_85 hG) rfl (VM_X7_canPlace G fu μ hG x2 x4 x6 _ y9) ?_
    cases h
    exact V_zret rfl (b2i_nar _) dX7_can_78
  · rw [if_neg c6_0] at h
    by_cases c6_1 : (μ.1 87 (Int32.toNatClampNeg a1)) = 1
    · rw [if_pos c6_1] at h
      have qc6_1 : ((μ.1 87 (Int32.toNatClampNeg a1)) : Int32).toInt = 1 := by rw [c6_1]; decide
      refine V_tabIn (tgt := 79) dX7_can_6 (by rw [qc6_1]; decide) (by rw [qc6_1]; decide) (by rw [qc6_1]; rfl) (by decide) ?_
      refine V_aload_n dX7_can_79 rfl ?_
      refine V_aload_n dX7_can_80 rfl ?_
      refine V_iload_n dX7_can_81 rfl ?_
      refine V_iconst (v := 0) dX7_can_82 rfl ?_
      obtain ⟨x10, y11, h⟩ := bi_o h
      refine V_callV (as := [.int a1, .int 0]) (q := 85) (rest := [.ref 85]) dX7_can_83 ov_mX7_tell lk_RX7_289 (by decide) (by decide) rfl rfl (Nat.le_of_ble_eq_true rfl) (tq_85 hG) rfl (VM_X7_tell G μ hG a1 0 _ y11) ?_
      refine V_aload_n dX7_can_86 rfl ?_
      refine V_iload_n dX7_can_87 rfl ?_
      refine V_iconst (v := 1) dX7_can_88 rfl ?_
      obtain ⟨x12, y13, h⟩ := bi_o h
      refine V_callV (as := [.int a1, .int 1]) (q := 85) (rest := [.int x10, .ref 85]) dX7_can_89 ov_mX7_tell lk_RX7_289 (by decide) (by decide) rfl rfl (Nat.le_of_ble_eq_true rfl) (tq_85 hG) rfl (VM_X7_tell G μ hG a1 1 _ y13) ?_
      refine V_aload_n dX7_can_92 rfl ?_
      refine V_iload_n dX7_can_93 rfl ?_
      refine V_iconst (v := 2) dX7_can_94 rfl ?_
      obtain ⟨x14, y15, h⟩ := bi_o h
      refine V_callV (as := [.int a1, .int 2]) (q := 85) (rest := [.int x12, .int x10, .ref 85]) dX7_can_95 ov_mX7_tell lk_RX7_289 (by decide) (by decide) rfl rfl (Nat.le_of_ble_eq_true rfl) (tq_85 hG) rfl (VM_X7_tell G μ hG a1 2 _ y15) ?_
      obtain ⟨x16, y17, h⟩ := bi_o h
      refine V_callV (as := [.int x10, .int x12, .int x14]) (q := 85) (rest := []) dX7_can_98 ov_mX7_canSign lk_RX7_296 (by decide) (by decide) rfl rfl (Nat.le_of_ble_eq_true rfl) (tq_85 hG) rfl (VM_X7_canSign G fu μ hG x10 x12 x14 _ y17) ?_
      cases h
      exact V_zret rfl (b2i_nar _) dX7_can_101
    · rw [if_neg c6_1] at h
      by_cases c6_2 : (μ.1 87 (Int32.toNatClampNeg a1)) = 2
      · rw [if_pos c6_2] at h
        have qc6_2 : ((μ.1 87 (Int32.toNatClampNeg a1)) : Int32).toInt = 2 := by rw [c6_2]; decide
        refine V_tabIn (tgt := 102) dX7_can_6 (by rw [qc6_2]; decide) (by rw [qc6_2]; decide) (by rw [qc6_2]; rfl) (by decide) ?_
        refine V_aload_n dX7_can_102 rfl ?_
        refine V_aload_n dX7_can_103 rfl ?_
        refine V_iload_n dX7_can_104 rfl ?_
        refine V_iconst (v := 0) dX7_can_105 rfl ?_
        obtain ⟨x18, y19, h⟩ := bi_o h
        refine V_callV (as := [.int a1, .int 0]) (q := 85) (rest := [.ref 85]) dX7_can_106 ov_mX7_tell lk_RX7_289 (by decide) (by decide) rfl rfl (Nat.le_of_ble_eq_true rfl) (tq_85 hG) rfl (VM_X7_tell G μ hG a1 0 _ y19) ?_
        obtain ⟨x20, y21, h⟩ := bi_o h
        refine V_callV (as := [.int x18]) (q := 85) (rest := []) dX7_can_109 ov_mX7_isLacking lk_RX7_201 (by decide) (by decide) rfl rfl (Nat.le_of_ble_eq_true rfl) (tq_85 hG) rfl (VM_X7_isLacking G μ hG x18 _ y21) ?_
        by_cases c112 : x20 = true
        · rw [if_pos c112] at h
          refine V_ifne_t (tgt := 132) dX7_can_112 (by decide) (b2i_t.mp c112) ?_
          refine V_iconst (v := 0) dX7_can_132 rfl ?_
          cases h
          exact V_zret rfl (by decide) dX7_can_133
        · rw [if_neg c112] at h
          refine V_ifne_f (tgt := 132) dX7_can_112 (by decide) (b2i_f.mp c112) ?_
          refine V_aload_n dX7_can_115 rfl ?_
          refine V_aload_n dX7_can_116 rfl ?_
          refine V_iload_n dX7_can_117 rfl ?_
          refine V_iconst (v := 0) dX7_can_118 rfl ?_
          obtain ⟨x22, y23, h⟩ := bi_o h
          refine V_callV (as := [.int a1, .int 0]) (q := 85) (rest := [.ref 85]) dX7_can_119 ov_mX7_tell lk_RX7_289 (by decide) (by decide) rfl rfl (Nat.le_of_ble_eq_true rfl) (tq_85 hG) rfl (VM_X7_tell G μ hG a1 0 _ y23) ?_
          obtain ⟨x24, y25, h⟩ := bi_o h
          refine V_callV (as := [.int x22]) (q := 85) (rest := []) dX7_can_122 ov_mX7_isGap lk_RX7_205 (by decide) (by decide) rfl rfl (Nat.le_of_ble_eq_true rfl) (tq_85 hG) rfl (VM_X7_isGap G μ hG x22 _ y25) ?_
          by_cases c125 : x24 = true
          · rw [if_pos c125] at h
            refine V_ifeq_f (tgt := 132) dX7_can_125 (by decide) (b2i_t.mp c125) ?_
            refine V_iconst (v := 1) dX7_can_128 rfl ?_
            refine V_goto (tgt := 133) dX7_can_129 (by decide) ?_
            cases h
            exact V_zret rfl (by decide) dX7_can_133
          · rw [if_neg c125] at h
            refine V_ifeq_t (tgt := 132) dX7_can_125 (by decide) (b2i_f.mp c125) ?_
            refine V_iconst (v := 0) dX7_can_132 rfl ?_
            cases h
            exact V_zret rfl (by decide) dX7_can_133
      · rw [if_neg c6_2] at h
        by_cases c6_3 : (μ.1 87 (Int32.toNatClampNeg a1)) = 3
        · rw [if_pos c6_3] at h
          have qc6_3 : ((μ.1 87 (Int32.toNatClampNeg a1)) : Int32).toInt = 3 := by rw [c6_3]; decide
          refine V_tabIn (tgt := 166) dX7_can_6 (by rw [qc6_3]; decide) (by rw [qc6_3]; decide) (by rw [qc6_3]; rfl) (by decide) ?_
          refine V_iconst (v := 1) dX7_can_166 rfl ?_
          cases h
          exact V_zret rfl (by decide) dX7_can_167
        · rw [if_neg c6_3] at h
          by_cases c6_4 : (μ.1 87 (Int32.toNatClampNeg a1)) = 4
          · rw [if_pos c6_4] at h
            have qc6_4 : ((μ.1 87 (Int32.toNatClampNeg a1)) : Int32).toInt = 4 := by rw [c6_4]; decide
            refine V_tabIn (tgt := 166) dX7_can_6 (by rw [qc6_4]; decide) (by rw [qc6_4]; decide) (by rw [qc6_4]; rfl) (by decide) ?_
            refine V_iconst (v := 1) dX7_can_166 rfl ?_
            cases h
            exact V_zret rfl (by decide) dX7_can_167
          · rw [if_neg c6_4] at h
            by_cases c6_5 : (μ.1 87 (Int32.toNatClampNeg a1)) = 5
            · rw [if_pos c6_5] at h
              have qc6_5 : ((μ.1 87 (Int32.toNatClampNeg a1)) : Int32).toInt = 5 := by rw [c6_5]; decide
              refine V_tabIn (tgt := 134) dX7_can_6 (by rw [qc6_5]; decide) (by rw [qc6_5]; decide) (by rw [qc6_5]; rfl) (by decide) ?_
              exact V_wk [true, true] rfl (T_X7_can_134 G fu μ hG _ _ h)
            · rw [if_neg c6_5] at h
              by_cases c6_6 : (μ.1 87 (Int32.toNatClampNeg a1)) = 6
              · rw [if_pos c6_6] at h
                have qc6_6 : ((μ.1 87 (Int32.toNatClampNeg a1)) : Int32).toInt = 6 := by rw [c6_6]; decide
                refine V_tabIn (tgt := 146) dX7_can_6 (by rw [qc6_6]; decide) (by rw [qc6_6]; decide) (by rw [qc6_6]; rfl) (by decide) ?_
                exact V_wk [true, true] rfl (T_X7_can_146 G fu μ hG _ _ h)
              · rw [if_neg c6_6] at h
                by_cases c6_7 : (μ.1 87 (Int32.toNatClampNeg a1)) = 7
                · rw [if_pos c6_7] at h
                  have qc6_7 : ((μ.1 87 (Int32.toNatClampNeg a1)) : Int32).toInt = 7 := by rw [c6_7]; decide
                  refine V_tabIn (tgt := 146) dX7_can_6 (by rw [qc6_7]; decide) (by rw [qc6_7]; decide) (by rw [qc6_7]; rfl) (by decide) ?_
                  exact V_wk [true, true] rfl (T_X7_can_146 G fu μ hG _ _ h)
                · rw [if_neg c6_7] at h
                  by_cases c6_8 : (μ.1 87 (Int32.toNatClampNeg a1)) = 8
                  · rw [if_pos c6_8] at h
                    have qc6_8 : ((μ.1 87 (Int32.toNatClampNeg a1)) : Int32).toInt = 8 := by rw [c6_8]; decide
                    refine V_tabIn (tgt := 134) dX7_can_6 (by rw [qc6_8]; decide) (by rw [qc6_8]; decide) (by rw [qc6_8]; rfl) (by decide) ?_
                    exact V_wk [true, true] rfl (T_X7_can_134 G fu μ hG _ _ h)
                  · rw [if_neg c6_8] at h
                    refine V_tabOut (tgt := 166) dX7_can_6 (tab_out 9 8 (by decide) (fun j hj => ?_)) (by decide) ?_
                    · match j, hj with
                      | 0, _ => exact fun z => c6_0 (Int32.toInt_inj.mp (by rw [z]; decide))
                      | 1, _ => exact fun z => c6_1 (Int32.toInt_inj.mp (by rw [z]; decide))
                      | 2, _ => exact fun z => c6_2 (Int32.toInt_inj.mp (by rw [z]; decide))
                      | 3, _ => exact fun z => c6_3 (Int32.toInt_inj.mp (by rw [z]; decide))
                      | 4, _ => exact fun z => c6_4 (Int32.toInt_inj.mp (by rw [z]; decide))
                      | 5, _ => exact fun z => c6_5 (Int32.toInt_inj.mp (by rw [z]; decide))
                      | 6, _ => exact fun z => c6_6 (Int32.toInt_inj.mp (by rw [z]; decide))
                      | 7, _ => exact fun z => c6_7 (Int32.toInt_inj.mp (by rw [z]; decide))
                      | 8, _ => exact fun z => c6_8 (Int32.toInt_inj.mp (by rw [z]; decide))
                      | j + 9, hj => exact absurd hj (by omega)
                    refine V_iconst (v := 1) dX7_can_166 rfl ?_
                    cases h
                    exact V_zret rfl (by decide) dX7_can_167
theorem VM_X7_can (G : GX) (fu : Nat) (μ : Mem)  (hG : gt G = tbl) (a1 : Int32) (r : Bool) (h : D_X7_can_0 fu μ a1 = some r) : VM G mX7_can [.ref 85, .int a1] μ (.inl (some (.int (b2i r)))) (μ) := V_entry ok_mX7_can rfl rfl (Nat.le_of_ble_eq_true rfl) (T_X7_can_0 G fu μ hG a1 r h)
def D_X7_places_0 (fu : Nat)  (a1 : Int32) (μ : Mem) : Option Mem :=
  gu (ib a1 160) <|
  gu (ib (μ.1 88 (Int32.toNatClampNeg a1)) 40) <|
  vl (wI μ 90 (Int32.toNatClampNeg (μ.1 88 (Int32.toNatClampNeg a1))) 1) fun m3 =>
  (D_X7_tell_0 m3 a1 0).bind fun x5 =>
  gu (ib (μ.1 88 (Int32.toNatClampNeg a1)) 40) <|
  vl (wI m3 92 (Int32.toNatClampNeg (μ.1 88 (Int32.toNatClampNeg a1))) x5) fun m8 =>
  (D_X7_tell_0 m8 a1 1).bind fun x10 =>
  gu (ib (μ.1 88 (Int32.toNatClampNeg a1)) 40) <|
  vl (wI m8 93 (Int32.toNatClampNeg (μ.1 88 (Int32.toNatClampNeg a1))) x10) fun m13 =>
  (D_X7_tell_0 m13 a1 2).bind fun x15 =>
  gu (ib (μ.1 88 (Int32.toNatClampNeg a1)) 40) <|
  vl (wI m13 94 (Int32.toNatClampNeg (μ.1 88 (Int32.toNatClampNeg a1))) x15) fun m18 =>
  (D_X7_tell_0 m18 a1 3).bind fun x20 =>
  gu (ib (μ.1 88 (Int32.toNatClampNeg a1)) 40) <|
  vl (wI m18 95 (Int32.toNatClampNeg (μ.1 88 (Int32.toNatClampNeg a1))) x20) fun m23 =>
  (D_X7_stacks_0 fu (μ.1 88 (Int32.toNatClampNeg a1)) m23).bind fun x25 =>
  some x25
set_option maxRecDepth 20000 in
theorem T_X7_places_0 (G : GX) (fu : Nat)  (hG : gt G = tbl) : ∀ (a1 : Int32) (μ : Mem) (r : Mem) , D_X7_places_0 fu a1 μ = some r → V G mX7_places 0 [some (.ref 85), some (.int a1), none] [] μ (.inl none) (r) := by
  intro a1 μ r h
  unfold D_X7_places_0 at h
  refine V_aload_n dX7_places_0 rfl ?_
  refine V_getR (kf := 3) k_X7 (by decide) lk_RX7_20 rfl dX7_places_1 (tq_85 hG) rfl ?_
  refine V_iload_n dX7_places_4 rfl ?_
  obtain ⟨g1, h⟩ := gu_o h
  refine V_iaload dX7_places_5 (tq_88 hG) (ib_in g1) ?_
  refine V_istore_n (lv2 := [some (.ref 85), some (.int a1), some (.int (μ.1 88 (Int32.toNatClampNeg a1)))]) dX7_places_6 (by decide) rfl ?_
  refine V_aload_n dX7_places_7 rfl ?_
  refine V_getR (kf := 6) k_X7 (by decide) lk_RX7_29 rfl dX7_places_8 (tq_85 hG) rfl ?_
  refine V_iload_n dX7_places_11 rfl ?_
  refine V_iconst (v := 1) dX7_places_12 rfl ?_
  obtain ⟨g2, h⟩ := gu_o h
  obtain ⟨m3, e4, h⟩ := vl_o h
  refine V_bastore (μ2 := m3) dX7_places_13 (tq_90 hG) (ib_in g2) (by rw [nar_boolV (by decide)]; exact e4.symm) ?_
  refine V_aload_n dX7_places_14 rfl ?_
  refine V_getR (kf := 8) k_X7 (by decide) lk_RX7_36 rfl dX7_places_15 (tq_85 hG) rfl ?_
  refine V_iload_n dX7_places_18 rfl ?_
  refine V_aload_n dX7_places_19 rfl ?_
  refine V_iload_n dX7_places_20 rfl ?_
  refine V_iconst (v := 0) dX7_places_21 rfl ?_
  obtain ⟨x5, y6, h⟩ := bi_o h
  refine V_callV (as := [.int a1, .int 0]) (q := 85) (rest := [.int (μ.1 88 (Int32.toNatClampNeg a1)), .ref 92]) dX7_places_22 ov_mX7_tell lk_RX7_289 (by decide) (by decide) rfl rfl (Nat.le_of_ble_eq_true rfl) (tq_85 hG) rfl (VM_X7_tell G m3 hG a1 0 _ y6) ?_
  obtain ⟨g7, h⟩ := gu_o h
  obtain ⟨m8, e9, h⟩ := vl_o h
  refine V_iastore (μ2 := m8) dX7_places_25 (tq_92 hG) (ib_in g7) e9.symm ?_
  refine V_aload_n dX7_places_26 rfl ?_
  refine V_getR (kf := 9) k_X7 (by decide) lk_RX7_39 rfl dX7_places_27 (tq_85 hG) rfl ?_
  refine V_iload_n dX7_places_30 rfl ?_
  refine V_aload_n dX7_places_31 rfl ?_
  refine V_iload_n dX7_places_32 rfl ?_
  refine V_iconst (v := 1) dX7_places_33 rfl ?_
  obtain ⟨x10, y11, h⟩ := bi_o h
  refine V_callV (as := [.int a1, .int 1]) (q := 85) (rest := [.int (μ.1 88 (Int32.toNatClampNeg a1)), .ref 93]) dX7_places_34 ov_mX7_tell lk_RX7_289 (by decide) (by decide) rfl rfl (Nat.le_of_ble_eq_true rfl) (tq_85 hG) rfl (VM_X7_tell G m8 hG a1 1 _ y11) ?_
  obtain ⟨g12, h⟩ := gu_o h
  obtain ⟨m13, e14, h⟩ := vl_o h
  refine V_iastore (μ2 := m13) dX7_places_37 (tq_93 hG) (ib_in g12) e14.symm ?_
  refine V_aload_n dX7_places_38 rfl ?_
  refine V_getR (kf := 10) k_X7 (by decide) lk_RX7_42 rfl dX7_places_39 (tq_85 hG) rfl ?_
  refine V_iload_n dX7_places_42 rfl ?_
  refine V_aload_n dX7_places_43 rfl ?_
  refine V_iload_n dX7_places_44 rfl ?_
  refine V_iconst (v := 2) dX7_places_45 rfl ?_
  obtain ⟨x15, y16, h⟩ := bi_o h
  refine V_callV (as := [.int a1, .int 2]) (q := 85) (rest := [.int (μ.1 88 (Int32.toNatClampNeg a1)), .ref 94]) dX7_places_46 ov_mX7_tell lk_RX7_289 (by decide) (by decide) rfl rfl (Nat.le_of_ble_eq_true rfl) (tq_85 hG) rfl (VM_X7_tell G m13 hG a1 2 _ y16) ?_
  obtain ⟨g17, h⟩ := gu_o h
  obtain ⟨m18, e19, h⟩ := vl_o h
  refine V_iastore (μ2 := m18) dX7_places_49 (tq_94 hG) (ib_in g17) e19.symm ?_
  refine V_aload_n dX7_places_50 rfl ?_
  refine V_getR (kf := 11) k_X7 (by decide) lk_RX7_45 rfl dX7_places_51 (tq_85 hG) rfl ?_
  refine V_iload_n dX7_places_54 rfl ?_
  refine V_aload_n dX7_places_55 rfl ?_
  refine V_iload_n dX7_places_56 rfl ?_
  refine V_iconst (v := 3) dX7_places_57 rfl ?_
  obtain ⟨x20, y21, h⟩ := bi_o h
  refine V_callV (as := [.int a1, .int 3]) (q := 85) (rest := [.int (μ.1 88 (Int32.toNatClampNeg a1)), .ref 95]) dX7_places_58 ov_mX7_tell lk_RX7_289 (by decide) (by decide) rfl rfl (Nat.le_of_ble_eq_true rfl) (tq_85 hG) rfl (VM_X7_tell G m18 hG a1 3 _ y21) ?_
  obtain ⟨g22, h⟩ := gu_o h
  obtain ⟨m23, e24, h⟩ := vl_o h
  refine V_iastore (μ2 := m23) dX7_places_61 (tq_95 hG) (ib_in g22) e24.symm ?_
  refine V_aload_n dX7_places_62 rfl ?_
  refine V_iload_n dX7_places_63 rfl ?_
  obtain ⟨x25, y26, h⟩ := bi_o h
  refine V_callV (as := [.int (μ.1 88 (Int32.toNatClampNeg a1))]) (q := 85) (rest := []) dX7_places_64 ov_mX7_stacks lk_RX7_322 (by decide) (by decide) rfl rfl (Nat.le_of_ble_eq_true rfl) (tq_85 hG) rfl (VM_X7_stacks G fu hG (μ.1 88 (Int32.toNatClampNeg a1)) m23 _ y26) ?_
  cases h
  exact V_vret rfl dX7_places_67
theorem VM_X7_places (G : GX) (fu : Nat)  (hG : gt G = tbl) (a1 : Int32) (μ : Mem) (r : Mem) (h : D_X7_places_0 fu a1 μ = some r) : VM G mX7_places [.ref 85, .int a1] μ (.inl none) (r) := V_entry ok_mX7_places rfl rfl (Nat.le_of_ble_eq_true rfl) (T_X7_places_0 G fu hG a1 μ r h)
def D_X7_signs_0  (a1 : Int32) (a2 : Int32) (a3 : Int32) (μ : Mem) : Option Mem :=
  gu (ib a1 40) <|
  gu (ib ((4 * a1) + (μ.1 96 (Int32.toNatClampNeg a1))) 160) <|
  vl (wI μ 97 (Int32.toNatClampNeg ((4 * a1) + (μ.1 96 (Int32.toNatClampNeg a1)))) a2) fun m3 =>
  gu (ib a1 40) <|
  gu (ib ((4 * a1) + (m3.1 96 (Int32.toNatClampNeg a1))) 160) <|
  vl (wI m3 98 (Int32.toNatClampNeg ((4 * a1) + (m3.1 96 (Int32.toNatClampNeg a1)))) a3) fun m7 =>
  gu (ib a1 40) <|
  gu (ib a1 40) <|
  vl (wI m7 96 (Int32.toNatClampNeg a1) ((m7.1 96 (Int32.toNatClampNeg a1)) + 1)) fun m11 =>
  some m11
set_option maxRecDepth 20000 in
theorem T_X7_signs_0 (G : GX)  (hG : gt G = tbl) : ∀ (a1 : Int32) (a2 : Int32) (a3 : Int32) (μ : Mem) (r : Mem) , D_X7_signs_0  a1 a2 a3 μ = some r → V G mX7_signs 0 [some (.ref 85), some (.int a1), some (.int a2), some (.int a3)] [] μ (.inl none) (r) := by
  intro a1 a2 a3 μ r h
  unfold D_X7_signs_0 at h
  refine V_aload_n dX7_signs_0 rfl ?_
  refine V_getR (kf := 13) k_X7 (by decide) lk_RX7_51 rfl dX7_signs_1 (tq_85 hG) rfl ?_
  refine V_iconst (v := 4) dX7_signs_4 rfl ?_
  refine V_iload_n dX7_signs_5 rfl ?_
  refine V_imul dX7_signs_6 ?_
  refine V_aload_n dX7_signs_7 rfl ?_
  refine V_getR (kf := 12) k_X7 (by decide) lk_RX7_48 rfl dX7_signs_8 (tq_85 hG) rfl ?_
  refine V_iload_n dX7_signs_11 rfl ?_
  obtain ⟨g1, h⟩ := gu_o h
  refine V_iaload dX7_signs_12 (tq_96 hG) (ib_in g1) ?_
  refine V_iadd dX7_signs_13 ?_
  refine V_iload_n dX7_signs_14 rfl ?_
  obtain ⟨g2, h⟩ := gu_o h
  obtain ⟨m3, e4, h⟩ := vl_o h
  refine V_iastore (μ2 := m3) dX7_signs_15 (tq_97 hG) (ib_in g2) e4.symm ?_
  refine V_aload_n dX7_signs_16 rfl ?_
  refine V_getR (kf := 14) k_X7 (by decide) lk_RX7_54 rfl dX7_signs_17 (tq_85 hG) rfl ?_
  refine V_iconst (v := 4) dX7_signs_20 rfl ?_
  refine V_iload_n dX7_signs_21 rfl ?_
  refine V_imul dX7_signs_22 ?_
  refine V_aload_n dX7_signs_23 rfl ?_
  refine V_getR (kf := 12) k_X7 (by decide) lk_RX7_48 rfl dX7_signs_24 (tq_85 hG) rfl ?_
  refine V_iload_n dX7_signs_27 rfl ?_
  obtain ⟨g5, h⟩ := gu_o h
  refine V_iaload dX7_signs_28 (tq_96 hG) (ib_in g5) ?_
  refine V_iadd dX7_signs_29 ?_
  refine V_iload_n dX7_signs_30 rfl ?_
  obtain ⟨g6, h⟩ := gu_o h
  obtain ⟨m7, e8, h⟩ := vl_o h
  refine V_iastore (μ2 := m7) dX7_signs_31 (tq_98 hG) (ib_in g6) e8.symm ?_
  refine V_aload_n dX7_signs_32 rfl ?_
  refine V_getR (kf := 12) k_X7 (by decide) lk_RX7_48 rfl dX7_signs_33 (tq_85 hG) rfl ?_
  refine V_iload_n dX7_signs_36 rfl ?_
  refine V_dup2 dX7_signs_37 rfl rfl ?_
  obtain ⟨g9, h⟩ := gu_o h
  refine V_iaload dX7_signs_38 (tq_96 hG) (ib_in g9) ?_
  refine V_iconst (v := 1) dX7_signs_39 rfl ?_
  refine V_iadd dX7_signs_40 ?_
  obtain ⟨g10, h⟩ := gu_o h
  obtain ⟨m11, e12, h⟩ := vl_o h
  refine V_iastore (μ2 := m11) dX7_signs_41 (tq_96 hG) (ib_in g10) e12.symm ?_
  cases h
  exact V_vret rfl dX7_signs_42
theorem VM_X7_signs (G : GX)  (hG : gt G = tbl) (a1 : Int32) (a2 : Int32) (a3 : Int32) (μ : Mem) (r : Mem) (h : D_X7_signs_0  a1 a2 a3 μ = some r) : VM G mX7_signs [.ref 85, .int a1, .int a2, .int a3] μ (.inl none) (r) := V_entry ok_mX7_signs rfl rfl (Nat.le_of_ble_eq_true rfl) (T_X7_signs_0 G hG a1 a2 a3 μ r h)
def D_X7_rulesAre_0  (a1 : Int32) (a2 : Int32) (a3 : Int32) (μ : Mem) : Option Mem :=
  vl (wI μ 85 30 a1) fun m1 =>
  vl (wI m1 85 31 a2) fun m3 =>
  vl (wI m3 85 32 a3) fun m5 =>
  some m5
set_option maxRecDepth 20000 in
theorem T_X7_rulesAre_0 (G : GX)  (hG : gt G = tbl) : ∀ (a1 : Int32) (a2 : Int32) (a3 : Int32) (μ : Mem) (r : Mem) , D_X7_rulesAre_0  a1 a2 a3 μ = some r → V G mX7_rulesAre 0 [some (.ref 85), some (.int a1), some (.int a2), some (.int a3)] [] μ (.inl none) (r) := by
  intro a1 a2 a3 μ r h
  unfold D_X7_rulesAre_0 at h
  refine V_aload_n dX7_rulesAre_0 rfl ?_
  refine V_iload_n dX7_rulesAre_1 rfl ?_
  obtain ⟨m1, e2, h⟩ := vl_o h
  refine V_putI (kf := 30) k_X7 (by decide) lk_RX7_152 rfl rfl (by decide +kernel) dX7_rulesAre_2 (tq_85 hG) rfl e2.symm ?_
  refine V_aload_n dX7_rulesAre_5 rfl ?_
  refine V_iload_n dX7_rulesAre_6 rfl ?_
  obtain ⟨m3, e4, h⟩ := vl_o h
  refine V_putI (kf := 31) k_X7 (by decide) lk_RX7_155 rfl rfl (by decide +kernel) dX7_rulesAre_7 (tq_85 hG) rfl e4.symm ?_
  refine V_aload_n dX7_rulesAre_10 rfl ?_
  refine V_iload_n dX7_rulesAre_11 rfl ?_
  obtain ⟨m5, e6, h⟩ := vl_o h
  refine V_putI (kf := 32) k_X7 (by decide) lk_RX7_158 rfl rfl (by decide +kernel) dX7_rulesAre_12 (tq_85 hG) rfl e6.symm ?_
  cases h
  exact V_vret rfl dX7_rulesAre_15
theorem VM_X7_rulesAre (G : GX)  (hG : gt G = tbl) (a1 : Int32) (a2 : Int32) (a3 : Int32) (μ : Mem) (r : Mem) (h : D_X7_rulesAre_0  a1 a2 a3 μ = some r) : VM G mX7_rulesAre [.ref 85, .int a1, .int a2, .int a3] μ (.inl none) (r) := V_entry ok_mX7_rulesAre rfl rfl (Nat.le_of_ble_eq_true rfl) (T_X7_rulesAre_0 G hG a1 a2 a3 μ r h)
def D_X7_harms_0 (fu : Nat)  (a1 : Int32) (μ : Mem) : Option Mem :=
  gu (ib a1 160) <|
  gu (ib (μ.1 88 (Int32.toNatClampNeg a1)) 25) <|
  vl (wI μ 91 (Int32.toNatClampNeg (μ.1 88 (Int32.toNatClampNeg a1))) 1) fun m3 =>
  (D_X7_tell_0 m3 a1 0).bind fun x5 =>
  gu (ib (μ.1 88 (Int32.toNatClampNeg a1)) 25) <|
  vl (wI m3 100 (Int32.toNatClampNeg (μ.1 88 (Int32.toNatClampNeg a1))) x5) fun m8 =>
  (D_X7_tell_0 m8 a1 1).bind fun x10 =>
  gu (ib (μ.1 88 (Int32.toNatClampNeg a1)) 25) <|
  vl (wI m8 101 (Int32.toNatClampNeg (μ.1 88 (Int32.toNatClampNeg a1))) x10) fun m13 =>
  (D_X7_tell_0 m13 a1 2).bind fun x15 =>
  gu (ib (μ.1 88 (Int32.toNatClampNeg a1)) 25) <|
  vl (wI m13 102 (Int32.toNatClampNeg (μ.1 88 (Int32.toNatClampNeg a1))) x15) fun m18 =>
  (D_X7_tell_0 m18 a1 3).bind fun x20 =>
  gu (ib (μ.1 88 (Int32.toNatClampNeg a1)) 25) <|
  vl (wL m18 104 (Int32.toNatClampNeg (μ.1 88 (Int32.toNatClampNeg a1))) ((x20 : Int32).toInt64)) fun m23 =>
  gu (ib (μ.1 88 (Int32.toNatClampNeg a1)) 25) <|
  (D_X7_spreads_0 fu (μ.1 88 (Int32.toNatClampNeg a1)) (m23.2.1 104 (Int32.toNatClampNeg (μ.1 88 (Int32.toNatClampNeg a1)))) m23).bind fun x26 =>
  some x26
set_option maxRecDepth 20000 in
theorem T_X7_harms_0 (G : GX) (fu : Nat)  (hG : gt G = tbl) : ∀ (a1 : Int32) (μ : Mem) (r : Mem) , D_X7_harms_0 fu a1 μ = some r → V G mX7_harms 0 [some (.ref 85), some (.int a1), none] [] μ (.inl none) (r) := by
  intro a1 μ r h
  unfold D_X7_harms_0 at h
  refine V_aload_n dX7_harms_0 rfl ?_
  refine V_getR (kf := 3) k_X7 (by decide) lk_RX7_20 rfl dX7_harms_1 (tq_85 hG) rfl ?_
  refine V_iload_n dX7_harms_4 rfl ?_
  obtain ⟨g1, h⟩ := gu_o h
  refine V_iaload dX7_harms_5 (tq_88 hG) (ib_in g1) ?_
  refine V_istore_n (lv2 := [some (.ref 85), some (.int a1), some (.int (μ.1 88 (Int32.toNatClampNeg a1)))]) dX7_harms_6 (by decide) rfl ?_
  refine V_aload_n dX7_harms_7 rfl ?_
  refine V_getR (kf := 7) k_X7 (by decide) lk_RX7_33 rfl dX7_harms_8 (tq_85 hG) rfl ?_
  refine V_iload_n dX7_harms_11 rfl ?_
  refine V_iconst (v := 1) dX7_harms_12 rfl ?_
  obtain ⟨g2, h⟩ := gu_o h
  obtain ⟨m3, e4, h⟩ := vl_o h
  refine V_bastore (μ2 := m3) dX7_harms_13 (tq_91 hG) (ib_in g2) (by rw [nar_boolV (by decide)]; exact e4.symm) ?_
  refine V_aload_n dX7_harms_14 rfl ?_
  refine V_getR (kf := 16) k_X7 (by decide) lk_RX7_61 rfl dX7_harms_15 (tq_85 hG) rfl ?_
  refine V_iload_n dX7_harms_18 rfl ?_
  refine V_aload_n dX7_harms_19 rfl ?_
  refine V_iload_n dX7_harms_20 rfl ?_
  refine V_iconst (v := 0) dX7_harms_21 rfl ?_
  obtain ⟨x5, y6, h⟩ := bi_o h
  refine V_callV (as := [.int a1, .int 0]) (q := 85) (rest := [.int (μ.1 88 (Int32.toNatClampNeg a1)), .ref 100]) dX7_harms_22 ov_mX7_tell lk_RX7_289 (by decide) (by decide) rfl rfl (Nat.le_of_ble_eq_true rfl) (tq_85 hG) rfl (VM_X7_tell G m3 hG a1 0 _ y6) ?_
  obtain ⟨g7, h⟩ := gu_o h
  obtain ⟨m8, e9, h⟩ := vl_o h
  refine V_iastore (μ2 := m8) dX7_harms_25 (tq_100 hG) (ib_in g7) e9.symm ?_
  refine V_aload_n dX7_harms_26 rfl ?_
  refine V_getR (kf := 17) k_X7 (by decide) lk_RX7_64 rfl dX7_harms_27 (tq_85 hG) rfl ?_
  refine V_iload_n dX7_harms_30 rfl ?_
  refine V_aload_n dX7_harms_31 rfl ?_
  refine V_iload_n dX7_harms_32 rfl ?_
  refine V_iconst (v := 1) dX7_harms_33 rfl ?_
  obtain ⟨x10, y11, h⟩ := bi_o h
  refine V_callV (as := [.int a1, .int 1]) (q := 85) (rest := [.int (μ.1 88 (Int32.toNatClampNeg a1)), .ref 101]) dX7_harms_34 ov_mX7_tell lk_RX7_289 (by decide) (by decide) rfl rfl (Nat.le_of_ble_eq_true rfl) (tq_85 hG) rfl (VM_X7_tell G m8 hG a1 1 _ y11) ?_
  obtain ⟨g12, h⟩ := gu_o h
  obtain ⟨m13, e14, h⟩ := vl_o h
  refine V_iastore (μ2 := m13) dX7_harms_37 (tq_101 hG) (ib_in g12) e14.symm ?_
  refine V_aload_n dX7_harms_38 rfl ?_
  refine V_getR (kf := 18) k_X7 (by decide) lk_RX7_67 rfl dX7_harms_39 (tq_85 hG) rfl ?_
  refine V_iload_n dX7_harms_42 rfl ?_
  refine V_aload_n dX7_harms_43 rfl ?_
  refine V_iload_n dX7_harms_44 rfl ?_
  refine V_iconst (v := 2) dX7_harms_45 rfl ?_
  obtain ⟨x15, y16, h⟩ := bi_o h
  refine V_callV (as := [.int a1, .int 2]) (q := 85) (rest := [.int (μ.1 88 (Int32.toNatClampNeg a1)), .ref 102]) dX7_harms_46 ov_mX7_tell lk_RX7_289 (by decide) (by decide) rfl rfl (Nat.le_of_ble_eq_true rfl) (tq_85 hG) rfl (VM_X7_tell G m13 hG a1 2 _ y16) ?_
  obtain ⟨g17, h⟩ := gu_o h
  obtain ⟨m18, e19, h⟩ := vl_o h
  refine V_iastore (μ2 := m18) dX7_harms_49 (tq_102 hG) (ib_in g17) e19.symm ?_
  refine V_aload_n dX7_harms_50 rfl ?_
  refine V_getR (kf := 20) k_X7 (by decide) lk_RX7_73 rfl dX7_harms_51 (tq_85 hG) rfl ?_
  refine V_iload_n dX7_harms_54 rfl ?_
  refine V_aload_n dX7_harms_55 rfl ?_
  refine V_iload_n dX7_harms_56 rfl ?_
  refine V_iconst (v := 3) dX7_harms_57 rfl ?_
  obtain ⟨x20, y21, h⟩ := bi_o h
  refine V_callV (as := [.int a1, .int 3]) (q := 85) (rest := [.int (μ.1 88 (Int32.toNatClampNeg a1)), .ref 104]) dX7_harms_58 ov_mX7_tell lk_RX7_289 (by decide) (by decide) rfl rfl (Nat.le_of_ble_eq_true rfl) (tq_85 hG) rfl (VM_X7_tell G m18 hG a1 3 _ y21) ?_
  refine V_i2l dX7_harms_61 ?_
  obtain ⟨g22, h⟩ := gu_o h
  obtain ⟨m23, e24, h⟩ := vl_o h
  refine V_lastore (μ2 := m23) dX7_harms_62 (tq_104 hG) (ib_in g22) e24.symm ?_
  refine V_aload_n dX7_harms_63 rfl ?_
  refine V_iload_n dX7_harms_64 rfl ?_
  refine V_aload_n dX7_harms_65 rfl ?_
  refine V_getR (kf := 20) k_X7 (by decide) lk_RX7_73 rfl dX7_harms_66 (tq_85 hG) rfl ?_
  refine V_iload_n dX7_harms_69 rfl ?_
  obtain ⟨g25, h⟩ := gu_o h
  refine V_laload dX7_harms_70 (tq_104 hG) (ib_in g25) ?_
  obtain ⟨x26, y27, h⟩ := bi_o h
  refine V_callV (as := [.int (μ.1 88 (Int32.toNatClampNeg a1)), .long (m23.2.1 104 (Int32.toNatClampNeg (μ.1 88 (Int32.toNatClampNeg a1))))]) (q := 85) (rest := []) dX7_harms_71 ov_mX7_spreads lk_RX7_325 (by decide) (by decide) rfl rfl (Nat.le_of_ble_eq_true rfl) (tq_85 hG) rfl (VM_X7_spreads G fu hG (μ.1 88 (Int32.toNatClampNeg a1)) (m23.2.1 104 (Int32.toNatClampNeg (μ.1 88 (Int32.toNatClampNeg a1)))) m23 _ y27) ?_
  cases h
  exact V_vret rfl dX7_harms_74
theorem VM_X7_harms (G : GX) (fu : Nat)  (hG : gt G = tbl) (a1 : Int32) (μ : Mem) (r : Mem) (h : D_X7_harms_0 fu a1 μ = some r) : VM G mX7_harms [.ref 85, .int a1] μ (.inl none) (r) := V_entry ok_mX7_harms rfl rfl (Nat.le_of_ble_eq_true rfl) (T_X7_harms_0 G fu hG a1 μ r h)
def D_X7_grows_0 (fu : Nat)  (a1 : Int32) (a2 : Int32) (μ : Mem) : Option Mem :=
  gu (ib a1 25) <|
  gu (ib a1 25) <|
  vl (wL μ 104 (Int32.toNatClampNeg a1) ((μ.2.1 104 (Int32.toNatClampNeg a1)) + ((a2 : Int32).toInt64))) fun m3 =>
  gu (ib a1 25) <|
  gu (ib a1 25) <|
  vl (wI m3 103 (Int32.toNatClampNeg a1) ((m3.1 103 (Int32.toNatClampNeg a1)) + 1)) fun m7 =>
  (D_X7_spreads_0 fu a1 ((a2 : Int32).toInt64) m7).bind fun x9 =>
  some x9
set_option maxRecDepth 20000 in
theorem T_X7_grows_0 (G : GX) (fu : Nat)  (hG : gt G = tbl) : ∀ (a1 : Int32) (a2 : Int32) (μ : Mem) (r : Mem) , D_X7_grows_0 fu a1 a2 μ = some r → V G mX7_grows 0 [some (.ref 85), some (.int a1), some (.int a2)] [] μ (.inl none) (r) := by
  intro a1 a2 μ r h
  unfold D_X7_grows_0 at h
  refine V_aload_n dX7_grows_0 rfl ?_
  refine V_getR (kf := 20) k_X7 (by decide) lk_RX7_73 rfl dX7_grows_1 (tq_85 hG) rfl ?_
  refine V_iload_n dX7_grows_4 rfl ?_
  refine V_dup2 dX7_grows_5 rfl rfl ?_
  obtain ⟨g1, h⟩ := gu_o h
  refine V_laload dX7_grows_6 (tq_104 hG) (ib_in g1) ?_
  refine V_iload_n dX7_grows_7 rfl ?_
  refine V_i2l dX7_grows_8 ?_
  refine V_ladd dX7_grows_9 ?_
  obtain ⟨g2, h⟩ := gu_o h
  obtain ⟨m3, e4, h⟩ := vl_o h
  refine V_lastore (μ2 := m3) dX7_grows_10 (tq_104 hG) (ib_in g2) e4.symm ?_
  refine V_aload_n dX7_grows_11 rfl ?_
  refine V_getR (kf := 19) k_X7 (by decide) lk_RX7_70 rfl dX7_grows_12 (tq_85 hG) rfl ?_
  refine V_iload_n dX7_grows_15 rfl ?_
  refine V_dup2 dX7_grows_16 rfl rfl ?_
  obtain ⟨g5, h⟩ := gu_o h
  refine V_iaload dX7_grows_17 (tq_103 hG) (ib_in g5) ?_
  refine V_iconst (v := 1) dX7_grows_18 rfl ?_
  refine V_iadd dX7_grows_19 ?_
  obtain ⟨g6, h⟩ := gu_o h
  obtain ⟨m7, e8, h⟩ := vl_o h
  refine V_iastore (μ2 := m7) dX7_grows_20 (tq_103 hG) (ib_in g6) e8.symm ?_
  refine V_aload_n dX7_grows_21 rfl ?_
  refine V_iload_n dX7_grows_22 rfl ?_
  refine V_iload_n dX7_grows_23 rfl ?_
  refine V_i2l dX7_grows_24 ?_
  obtain ⟨x9, y10, h⟩ := bi_o h
  refine V_callV (as := [.int a1, .long ((a2 : Int32).toInt64)]) (q := 85) (rest := []) dX7_grows_25 ov_mX7_spreads lk_RX7_325 (by decide) (by decide) rfl rfl (Nat.le_of_ble_eq_true rfl) (tq_85 hG) rfl (VM_X7_spreads G fu hG a1 ((a2 : Int32).toInt64) m7 _ y10) ?_
  cases h
  exact V_vret rfl dX7_grows_28
theorem VM_X7_grows (G : GX) (fu : Nat)  (hG : gt G = tbl) (a1 : Int32) (a2 : Int32) (μ : Mem) (r : Mem) (h : D_X7_grows_0 fu a1 a2 μ = some r) : VM G mX7_grows [.ref 85, .int a1, .int a2] μ (.inl none) (r) := V_entry ok_mX7_grows rfl rfl (Nat.le_of_ble_eq_true rfl) (T_X7_grows_0 G fu hG a1 a2 μ r h)
def D_X7_reopens_2 (fu : Nat)  : Nat → Int32 → Int32 → Mem → Option Mem
  | 0, _, _, _ => none
  | n + 1, v1, v2, μ =>
    if (40 : Int32) ≤ v2 then
      (D_X7_clearsHarm_0 fu v1 μ).bind fun x1 =>
      gu (ib v1 25) <|
      (D_X7_spreads_0 fu v1 (x1.2.1 104 (Int32.toNatClampNeg v1)) x1).bind fun x4 =>
      some x4
    else
      gu (ib v2 40) <|
      gu (ib ((40 * v1) + v2) 1000) <|
      gu (ib v2 40) <|
      vl (wL μ 99 (Int32.toNatClampNeg v2) ((μ.2.1 99 (Int32.toNatClampNeg v2)) - (μ.2.1 105 (Int32.toNatClampNeg ((40 * v1) + v2))))) fun m9 =>
      (D_X7_reopens_2 fu n) v1 (v2 + 1) m9
set_option maxRecDepth 20000 in
theorem T_X7_reopens_2 (G : GX) (fu : Nat)  (hG : gt G = tbl) : ∀ (n : Nat) (v1 : Int32) (v2 : Int32) (μ : Mem) (r : Mem) , D_X7_reopens_2 fu n v1 v2 μ = some r → V G mX7_reopens 2 [some (.ref 85), some (.int v1), some (.int v2)] [] μ (.inl none) (r) := by
  intro n
  induction n with
  | zero =>
    intro v1 v2 μ r h
    exact nomatch (show (none : Option Mem) = some r from h)
  | succ n ih =>
    intro v1 v2 μ r h
    rw [D_X7_reopens_2] at h
    refine V_iload_n dX7_reopens_2 rfl ?_
    refine V_bipush (v := 40) dX7_reopens_3 rfl ?_
    by_cases c5 : (40 : Int32) ≤ v2
    · rw [if_pos c5] at h
      refine V_icmpge_t (tgt := 34) dX7_reopens_5 (by decide) c5 ?_
      refine V_aload_n dX7_reopens_34 rfl ?_
      refine V_iload_n dX7_reopens_35 rfl ?_
      obtain ⟨x1, y2, h⟩ := bi_o h
      refine V_callV (as := [.int v1]) (q := 85) (rest := []) dX7_reopens_36 ov_mX7_clearsHarm lk_RX7_145 (by decide) (by decide) rfl rfl (Nat.le_of_ble_eq_true rfl) (tq_85 hG) rfl (VM_X7_clearsHarm G fu hG v1 μ _ y2) ?_
      refine V_aload_n dX7_reopens_39 rfl ?_
      refine V_iload_n dX7_reopens_40 rfl ?_
      refine V_aload_n dX7_reopens_41 rfl ?_
      refine V_getR (kf := 20) k_X7 (by decide) lk_RX7_73 rfl dX7_reopens_42 (tq_85 hG) rfl ?_
      refine V_iload_n dX7_reopens_45 rfl ?_
      obtain ⟨g3, h⟩ := gu_o h
      refine V_laload dX7_reopens_46 (tq_104 hG) (ib_in g3) ?_
      obtain ⟨x4, y5, h⟩ := bi_o h
      refine V_callV (as := [.int v1, .long (x1.2.1 104 (Int32.toNatClampNeg v1))]) (q := 85) (rest := []) dX7_reopens_47 ov_mX7_spreads lk_RX7_325 (by decide) (by decide) rfl rfl (Nat.le_of_ble_eq_true rfl) (tq_85 hG) rfl (VM_X7_spreads G fu hG v1 (x1.2.1 104 (Int32.toNatClampNeg v1)) x1 _ y5) ?_
      cases h
      exact V_vret rfl dX7_reopens_50
    · rw [if_neg c5] at h
      refine V_icmpge_f (tgt := 34) dX7_reopens_5 (by decide) c5 ?_
      refine V_aload_n dX7_reopens_8 rfl ?_
      refine V_getR (kf := 15) k_X7 (by decide) lk_RX7_57 rfl dX7_reopens_9 (tq_85 hG) rfl ?_
      refine V_iload_n dX7_reopens_12 rfl ?_
      refine V_dup2 dX7_reopens_13 rfl rfl ?_
      obtain ⟨g6, h⟩ := gu_o h
      refine V_laload dX7_reopens_14 (tq_99 hG) (ib_in g6) ?_
      refine V_aload_n dX7_reopens_15 rfl ?_
      refine V_getR (kf := 21) k_X7 (by decide) lk_RX7_76 rfl dX7_reopens_16 (tq_85 hG) rfl ?_
      refine V_bipush (v := 40) dX7_reopens_19 rfl ?_
      refine V_iload_n dX7_reopens_21 rfl ?_
      refine V_imul dX7_reopens_22 ?_
      refine V_iload_n dX7_reopens_23 rfl ?_
      refine V_iadd dX7_reopens_24 ?_
      obtain ⟨g7, h⟩ := gu_o h
      refine V_laload dX7_reopens_25 (tq_105 hG) (ib_in g7) ?_
      refine V_lsub dX7_reopens_26 ?_
      obtain ⟨g8, h⟩ := gu_o h
      obtain ⟨m9, e10, h⟩ := vl_o h
      refine V_lastore (μ2 := m9) dX7_reopens_27 (tq_99 hG) (ib_in g8) e10.symm ?_
      refine V_iinc (v := v2 + 1) (lv2 := [some (.ref 85), some (.int v1), some (.int (v2 + 1))]) dX7_reopens_28 rfl rfl (by decide) rfl ?_
      refine V_goto (tgt := 2) dX7_reopens_31 (by decide) ?_
      exact V_wk [true, true, true] rfl (ih _ _ _ _ h)
def D_X7_reopens_0 (fu : Nat)  (a1 : Int32) (μ : Mem) : Option Mem :=
  D_X7_reopens_2 fu fu a1 0 μ
set_option maxRecDepth 20000 in
theorem T_X7_reopens_0 (G : GX) (fu : Nat)  (hG : gt G = tbl) : ∀ (a1 : Int32) (μ : Mem) (r : Mem) , D_X7_reopens_0 fu a1 μ = some r → V G mX7_reopens 0 [some (.ref 85), some (.int a1), none] [] μ (.inl none) (r) := by
  intro a1 μ r h
  unfold D_X7_reopens_0 at h
  refine V_iconst (v := 0) dX7_reopens_0 rfl ?_
  refine V_istore_n (lv2 := [some (.ref 85), some (.int a1), some (.int 0)]) dX7_reopens_1 (by decide) rfl ?_
  exact V_wk [true, true, true] rfl (T_X7_reopens_2 G fu hG fu _ _ _ _ h)
theorem VM_X7_reopens (G : GX) (fu : Nat)  (hG : gt G = tbl) (a1 : Int32) (μ : Mem) (r : Mem) (h : D_X7_reopens_0 fu a1 μ = some r) : VM G mX7_reopens [.ref 85, .int a1] μ (.inl none) (r) := V_entry ok_mX7_reopens rfl rfl (Nat.le_of_ble_eq_true rfl) (T_X7_reopens_0 G fu hG a1 μ r h)
def D_X7_does_0 (fu : Nat)  (a1 : Int32) (μ : Mem) : Option Mem :=
  (D_X7_tell_0 μ a1 0).bind fun x1 =>
  gu (ib a1 160) <|
  if (μ.1 87 (Int32.toNatClampNeg a1)) = 0 then
    (D_X7_places_0 fu a1 μ).bind fun x4 =>
    some x4
  else
  if (μ.1 87 (Int32.toNatClampNeg a1)) = 1 then
    (D_X7_tell_0 μ a1 1).bind fun x6 =>
    (D_X7_tell_0 μ a1 2).bind fun x8 =>
    (D_X7_signs_0 x1 x6 x8 μ).bind fun x10 =>
    some x10
  else
  if (μ.1 87 (Int32.toNatClampNeg a1)) = 2 then
    vl (wI μ 85 29 ((μ.1 85 29) ||| (1 <<< (x1 &&& 31)))) fun m12 =>
    some m12
  else
  if (μ.1 87 (Int32.toNatClampNeg a1)) = 3 then
    if (μ.1 85 48) = 0 then
      (D_X7_tell_0 μ a1 1).bind fun x14 =>
      (D_X7_tell_0 μ a1 2).bind fun x16 =>
      (D_X7_rulesAre_0 x1 x14 x16 μ).bind fun x18 =>
      some x18
    else
      some μ
  else
  if (μ.1 87 (Int32.toNatClampNeg a1)) = 4 then
    (D_X7_harms_0 fu a1 μ).bind fun x20 =>
    some x20
  else
  if (μ.1 87 (Int32.toNatClampNeg a1)) = 5 then
    (D_X7_tell_0 μ a1 1).bind fun x22 =>
    (D_X7_grows_0 fu x1 x22 μ).bind fun x24 =>
    some x24
  else
  if (μ.1 87 (Int32.toNatClampNeg a1)) = 6 then
    gu (ib x1 10) <|
    vl (wI μ 111 (Int32.toNatClampNeg x1) 1) fun m27 =>
    (D_X7_tell_0 m27 a1 1).bind fun x29 =>
    gu (ib x1 10) <|
    vl (wI m27 112 (Int32.toNatClampNeg x1) x29) fun m32 =>
    some m32
  else
  if (μ.1 87 (Int32.toNatClampNeg a1)) = 7 then
    gu (ib x1 10) <|
    vl (wI μ 111 (Int32.toNatClampNeg x1) 2) fun m35 =>
    some m35
  else
    (D_X7_reopens_0 fu x1 μ).bind fun x37 =>
    some x37
set_option maxRecDepth 20000 in
theorem T_X7_does_0 (G : GX) (fu : Nat)  (hG : gt G = tbl) : ∀ (a1 : Int32) (μ : Mem) (r : Mem) , D_X7_does_0 fu a1 μ = some r → V G mX7_does 0 [some (.ref 85), some (.int a1), none] [] μ (.inl none) (r) := by
  intro a1 μ r h
  unfold D_X7_does_0 at h
  refine V_aload_n dX7_does_0 rfl ?_
  refine V_iload_n dX7_does_1 rfl ?_
  refine V_iconst (v := 0) dX7_does_2 rfl ?_
  obtain ⟨x1, y2, h⟩ := bi_o h
  refine V_callV (as := [.int a1, .int 0]) (q := 85) (rest := []) dX7_does_3 ov_mX7_tell lk_RX7_289 (by decide) (by decide) rfl rfl (Nat.le_of_ble_eq_true rfl) (tq_85 hG) rfl (VM_X7_tell G μ hG a1 0 _ y2) ?_
  refine V_istore_n (lv2 := [some (.ref 85), some (.int a1), some (.int x1)]) dX7_does_6 (by decide) rfl ?_
  refine V_aload_n dX7_does_7 rfl ?_
  refine V_getR (kf := 2) k_X7 (by decide) lk_RX7_14 rfl dX7_does_8 (tq_85 hG) rfl ?_
  refine V_iload_n dX7_does_11 rfl ?_
  obtain ⟨g3, h⟩ := gu_o h
  refine V_iaload dX7_does_12 (tq_87 hG) (ib_in g3) ?_
  by_cases c13_0 : (μ.1 87 (Int32.toNatClampNeg a1)) = 0
  · rw [if_pos c13_0] at h
    have qc13_0 : ((μ.1 87 (Int32.toNatClampNeg a1)) : Int32).toInt = 0 := by rw [c13_0]; decide
    refine V_tabIn (tgt := 60) dX7_does_13 (by rw [qc13_0]; decide) (by rw [qc13_0]; decide) (by rw [qc13_0]; rfl) (by decide) ?_
    refine V_aload_n dX7_does_60 rfl ?_
    refine V_iload_n dX7_does_61 rfl ?_
    obtain ⟨x4, y5, h⟩ := bi_o h
    refine V_callV (as := [.int a1]) (q := 85) (rest := []) dX7_does_62 ov_mX7_places lk_RX7_299 (by decide) (by decide) rfl rfl (Nat.le_of_ble_eq_true rfl) (tq_85 hG) rfl (VM_X7_places G fu hG a1 μ _ y5) ?_
    refine V_goto (tgt := 189) dX7_does_65 (by decide) ?_
    cases h
    exact V_vret rfl dX7_does_189
  · rw [if_neg c13_0] at h
    by_cases c13_1 : (μ.1 87 (Int32.toNatClampNeg a1)) = 1
    · rw [if_pos c13_1] at h
      have qc13_1 : ((μ.1 87 (Int32.toNatClampNeg a1)) : Int32).toInt = 1 := by rw [c13_1]; decide
      refine V_tabIn (tgt := 68) dX7_does_13 (by rw [qc13_1]; decide) (by rw [qc13_1]; decide) (by rw [qc13_1]; rfl) (by decide) ?_
      refine V_aload_n dX7_does_68 rfl ?_
      refine V_iload_n dX7_does_69 rfl ?_
      refine V_aload_n dX7_does_70 rfl ?_
      refine V_iload_n dX7_does_71 rfl ?_
      refine V_iconst (v := 1) dX7_does_72 rfl ?_
      obtain ⟨x6, y7, h⟩ := bi_o h
      refine V_callV (as := [.int a1, .int 1]) (q := 85) (rest := [.int x1, .ref 85]) dX7_does_73 ov_mX7_tell lk_RX7_289 (by decide) (by decide) rfl rfl (Nat.le_of_ble_eq_true rfl) (tq_85 hG) rfl (VM_X7_tell G μ hG a1 1 _ y7) ?_
      refine V_aload_n dX7_does_76 rfl ?_
      refine V_iload_n dX7_does_77 rfl ?_
      refine V_iconst (v := 2) dX7_does_78 rfl ?_
      obtain ⟨x8, y9, h⟩ := bi_o h
      refine V_callV (as := [.int a1, .int 2]) (q := 85) (rest := [.int x6, .int x1, .ref 85]) dX7_does_79 ov_mX7_tell lk_RX7_289 (by decide) (by decide) rfl rfl (Nat.le_of_ble_eq_true rfl) (tq_85 hG) rfl (VM_X7_tell G μ hG a1 2 _ y9) ?_
      obtain ⟨x10, y11, h⟩ := bi_o h
      refine V_callV (as := [.int x1, .int x6, .int x8]) (q := 85) (rest := []) dX7_does_82 ov_mX7_signs lk_RX7_302 (by decide) (by decide) rfl rfl (Nat.le_of_ble_eq_true rfl) (tq_85 hG) rfl (VM_X7_signs G hG x1 x6 x8 μ _ y11) ?_
      refine V_goto (tgt := 189) dX7_does_85 (by decide) ?_
      cases h
      exact V_vret rfl dX7_does_189
    · rw [if_neg c13_1] at h
      by_cases c13_2 : (μ.1 87 (Int32.toNatClampNeg a1)) = 2
      · rw [if_pos c13_2] at h
        have qc13_2 : ((μ.1 87 (Int32.toNatClampNeg a1)) : Int32).toInt = 2 := by rw [c13_2]; decide
        refine V_tabIn (tgt := 88) dX7_does_13 (by rw [qc13_2]; decide) (by rw [qc13_2]; decide) (by rw [qc13_2]; rfl) (by decide) ?_
        refine V_aload_n dX7_does_88 rfl ?_
        refine V_dup dX7_does_89 rfl ?_
        refine V_getI (kf := 29) k_X7 (by decide) lk_RX7_149 rfl dX7_does_90 (tq_85 hG) rfl ?_
        refine V_iconst (v := 1) dX7_does_93 rfl ?_
        refine V_iload_n dX7_does_94 rfl ?_
        refine V_ishl dX7_does_95 ?_
        refine V_ior dX7_does_96 ?_
        obtain ⟨m12, e13, h⟩ := vl_o h
        refine V_putI (kf := 29) k_X7 (by decide) lk_RX7_149 rfl rfl (by decide +kernel) dX7_does_97 (tq_85 hG) rfl e13.symm ?_
        refine V_goto (tgt := 189) dX7_does_100 (by decide) ?_
        cases h
        exact V_vret rfl dX7_does_189
      · rw [if_neg c13_2] at h
        by_cases c13_3 : (μ.1 87 (Int32.toNatClampNeg a1)) = 3
        · rw [if_pos c13_3] at h
          have qc13_3 : ((μ.1 87 (Int32.toNatClampNeg a1)) : Int32).toInt = 3 := by rw [c13_3]; decide
          refine V_tabIn (tgt := 103) dX7_does_13 (by rw [qc13_3]; decide) (by rw [qc13_3]; decide) (by rw [qc13_3]; rfl) (by decide) ?_
          refine V_aload_n dX7_does_103 rfl ?_
          refine V_getI (kf := 48) k_X7 (by decide) lk_RX7_306 rfl dX7_does_104 (tq_85 hG) rfl ?_
          by_cases c107 : (μ.1 85 48) = 0
          · rw [if_pos c107] at h
            refine V_ifne_f (tgt := 189) dX7_does_107 (by decide) c107 ?_
            refine V_aload_n dX7_does_110 rfl ?_
            refine V_iload_n dX7_does_111 rfl ?_
            refine V_aload_n dX7_does_112 rfl ?_
            refine V_iload_n dX7_does_113 rfl ?_
            refine V_iconst (v := 1) dX7_does_114 rfl ?_
            obtain ⟨x14, y15, h⟩ := bi_o h
            refine V_callV (as := [.int a1, .int 1]) (q := 85) (rest := [.int x1, .ref 85]) dX7_does_115 ov_mX7_tell lk_RX7_289 (by decide) (by decide) rfl rfl (Nat.le_of_ble_eq_true rfl) (tq_85 hG) rfl (VM_X7_tell G μ hG a1 1 _ y15) ?_
            refine V_aload_n dX7_does_118 rfl ?_
            refine V_iload_n dX7_does_119 rfl ?_
            refine V_iconst (v := 2) dX7_does_120 rfl ?_
            obtain ⟨x16, y17, h⟩ := bi_o h
            refine V_callV (as := [.int a1, .int 2]) (q := 85) (rest := [.int x14, .int x1, .ref 85]) dX7_does_121 ov_mX7_tell lk_RX7_289 (by decide) (by decide) rfl rfl (Nat.le_of_ble_eq_true rfl) (tq_85 hG) rfl (VM_X7_tell G μ hG a1 2 _ y17) ?_
            obtain ⟨x18, y19, h⟩ := bi_o h
            refine V_callV (as := [.int x1, .int x14, .int x16]) (q := 85) (rest := []) dX7_does_124 ov_mX7_rulesAre lk_RX7_310 (by decide) (by decide) rfl rfl (Nat.le_of_ble_eq_true rfl) (tq_85 hG) rfl (VM_X7_rulesAre G hG x1 x14 x16 μ _ y19) ?_
            refine V_goto (tgt := 189) dX7_does_127 (by decide) ?_
            cases h
            exact V_vret rfl dX7_does_189
          · rw [if_neg c107] at h
            refine V_ifne_t (tgt := 189) dX7_does_107 (by decide) c107 ?_
            cases h
            exact V_vret rfl dX7_does_189
        · rw [if_neg c13_3] at h
          by_cases c13_4 : (μ.1 87 (Int32.toNatClampNeg a1)) = 4
          · rw [if_pos c13_4] at h
            have qc13_4 : ((μ.1 87 (Int32.toNatClampNeg a1)) : Int32).toInt = 4 := by rw [c13_4]; decide
            refine V_tabIn (tgt := 130) dX7_does_13 (by rw [qc13_4]; decide) (by rw [qc13_4]; decide) (by rw [qc13_4]; rfl) (by decide) ?_
            refine V_aload_n dX7_does_130 rfl ?_
            refine V_iload_n dX7_does_131 rfl ?_
            obtain ⟨x20, y21, h⟩ := bi_o h
            refine V_callV (as := [.int a1]) (q := 85) (rest := []) dX7_does_132 ov_mX7_harms lk_RX7_313 (by decide) (by decide) rfl rfl (Nat.le_of_ble_eq_true rfl) (tq_85 hG) rfl (VM_X7_harms G fu hG a1 μ _ y21) ?_
            refine V_goto (tgt := 189) dX7_does_135 (by decide) ?_
            cases h
            exact V_vret rfl dX7_does_189
          · rw [if_neg c13_4] at h
            by_cases c13_5 : (μ.1 87 (Int32.toNatClampNeg a1)) = 5
            · rw [if_pos c13_5] at h
              have qc13_5 : ((μ.1 87 (Int32.toNatClampNeg a1)) : Int32).toInt = 5 := by rw [c13_5]; decide
              refine V_tabIn (tgt := 138) dX7_does_13 (by rw [qc13_5]; decide) (by rw [qc13_5]; decide) (by rw [qc13_5]; rfl) (by decide) ?_
              refine V_aload_n dX7_does_138 rfl ?_
              refine V_iload_n dX7_does_139 rfl ?_
              refine V_aload_n dX7_does_140 rfl ?_
              refine V_iload_n dX7_does_141 rfl ?_
              refine V_iconst (v := 1) dX7_does_142 rfl ?_
              obtain ⟨x22, y23, h⟩ := bi_o h
              refine V_callV (as := [.int a1, .int 1]) (q := 85) (rest := [.int x1, .ref 85]) dX7_does_143 ov_mX7_tell lk_RX7_289 (by decide) (by decide) rfl rfl (Nat.le_of_ble_eq_true rfl) (tq_85 hG) rfl (VM_X7_tell G μ hG a1 1 _ y23) ?_
              obtain ⟨x24, y25, h⟩ := bi_o h
              refine V_callV (as := [.int x1, .int x22]) (q := 85) (rest := []) dX7_does_146 ov_mX7_grows lk_RX7_316 (by decide) (by decide) rfl rfl (Nat.le_of_ble_eq_true rfl) (tq_85 hG) rfl (VM_X7_grows G fu hG x1 x22 μ _ y25) ?_
              refine V_goto (tgt := 189) dX7_does_149 (by decide) ?_
              cases h
              exact V_vret rfl dX7_does_189
            · rw [if_neg c13_5] at h
              by_cases c13_6 : (μ.1 87 (Int32.toNatClampNeg a1)) = 6
              · rw [if_pos c13_6] at h
                have qc13_6 : ((μ.1 87 (Int32.toNatClampNeg a1)) : Int32).toInt = 6 := by rw [c13_6]; decide
                refine V_tabIn (tgt := 152) dX7_does_13 (by rw [qc13_6]; decide) (by rw [qc13_6]; decide) (by rw [qc13_6]; rfl) (by decide) ?_
                refine V_aload_n dX7_does_152 rfl ?_
                refine V_getR (kf := 27) k_X7 (by decide) lk_RX7_94 rfl dX7_does_153 (tq_85 hG) rfl ?_
                refine V_iload_n dX7_does_156 rfl ?_
                refine V_iconst (v := 1) dX7_does_157 rfl ?_
                obtain ⟨g26, h⟩ := gu_o h
                obtain ⟨m27, e28, h⟩ := vl_o h
                refine V_iastore (μ2 := m27) dX7_does_158 (tq_111 hG) (ib_in g26) e28.symm ?_
                refine V_aload_n dX7_does_159 rfl ?_
                refine V_getR (kf := 28) k_X7 (by decide) lk_RX7_97 rfl dX7_does_160 (tq_85 hG) rfl ?_
                refine V_iload_n dX7_does_163 rfl ?_
                refine V_aload_n dX7_does_164 rfl ?_
                refine V_iload_n dX7_does_165 rfl ?_
                refine V_iconst (v := 1) dX7_does_166 rfl ?_
                obtain ⟨x29, y30, h⟩ := bi_o h
                refine V_callV (as := [.int a1, .int 1]) (q := 85) (rest := [.int x1, .ref 112]) dX7_does_167 ov_mX7_tell lk_RX7_289 (by decide) (by decide) rfl rfl (Nat.le_of_ble_eq_true rfl) (tq_85 hG) rfl (VM_X7_tell G m27 hG a1 1 _ y30) ?_
                obtain ⟨g31, h⟩ := gu_o h
                obtain ⟨m32, e33, h⟩ := vl_o h
                refine V_iastore (μ2 := m32) dX7_does_170 (tq_112 hG) (ib_in g31) e33.symm ?_
                refine V_goto (tgt := 189) dX7_does_171 (by decide) ?_
                cases h
                exact V_vret rfl dX7_does_189
              · rw [if_neg c13_6] at h
                by_cases c13_7 : (μ.1 87 (Int32.toNatClampNeg a1)) = 7
                · rw [if_pos c13_7] at h
                  have qc13_7 : ((μ.1 87 (Int32.toNatClampNeg a1)) : Int32).toInt = 7 := by rw [c13_7]; decide
                  refine V_tabIn (tgt := 174) dX7_does_13 (by rw [qc13_7]; decide) (by rw [qc13_7]; decide) (by rw [qc13_7]; rfl) (by decide) ?_
                  refine V_aload_n dX7_does_174 rfl ?_
                  refine V_getR (kf := 27) k_X7 (by decide) lk_RX7_94 rfl dX7_does_175 (tq_85 hG) rfl ?_
                  refine V_iload_n dX7_does_178 rfl ?_
                  refine V_iconst (v := 2) dX7_does_179 rfl ?_
                  obtain ⟨g34, h⟩ := gu_o h
                  obtain ⟨m35, e36, h⟩ := vl_o h
                  refine V_iastore (μ2 := m35) dX7_does_180 (tq_111 hG) (ib_in g34) e36.symm ?_
                  refine V_goto (tgt := 189) dX7_does_181 (by decide) ?_
                  cases h
                  exact V_vret rfl dX7_does_189
                · rw [if_neg c13_7] at h
                  refine V_tabOut (tgt := 184) dX7_does_13 (tab_out 8 7 (by decide) (fun j hj => ?_)) (by decide) ?_
                  · match j, hj with
                    | 0, _ => exact fun z => c13_0 (Int32.toInt_inj.mp (by rw [z]; decide))
                    | 1, _ => exact fun z => c13_1 (Int32.toInt_inj.mp (by rw [z]; decide))
                    | 2, _ => exact fun z => c13_2 (Int32.toInt_inj.mp (by rw [z]; decide))
                    | 3, _ => exact fun z => c13_3 (Int32.toInt_inj.mp (by rw [z]; decide))
                    | 4, _ => exact fun z => c13_4 (Int32.toInt_inj.mp (by rw [z]; decide))
                    | 5, _ => exact fun z => c13_5 (Int32.toInt_inj.mp (by rw [z]; decide))
                    | 6, _ => exact fun z => c13_6 (Int32.toInt_inj.mp (by rw [z]; decide))
                    | 7, _ => exact fun z => c13_7 (Int32.toInt_inj.mp (by rw [z]; decide))
                    | j + 8, hj => exact absurd hj (by omega)
                  refine V_aload_n dX7_does_184 rfl ?_
                  refine V_iload_n dX7_does_185 rfl ?_
                  obtain ⟨x37, y38, h⟩ := bi_o h
                  refine V_callV (as := [.int x1]) (q := 85) (rest := []) dX7_does_186 ov_mX7_reopens lk_RX7_319 (by decide) (by decide) rfl rfl (Nat.le_of_ble_eq_true rfl) (tq_85 hG) rfl (VM_X7_reopens G fu hG x1 μ _ y38) ?_
                  cases h
                  exact V_vret rfl dX7_does_189
theorem VM_X7_does (G : GX) (fu : Nat)  (hG : gt G = tbl) (a1 : Int32) (μ : Mem) (r : Mem) (h : D_X7_does_0 fu a1 μ = some r) : VM G mX7_does [.ref 85, .int a1] μ (.inl none) (r) := V_entry ok_mX7_does rfl rfl (Nat.le_of_ble_eq_true rfl) (T_X7_does_0 G fu hG a1 μ r h)
def D_X7_goes_0 (fu : Nat)  (a1 : Int32) (μ : Mem) : Option Mem :=
  (D_X7_can_0 fu μ a1).bind fun x1 =>
  if x1 = true then
    (D_X7_does_0 fu a1 μ).bind fun x3 =>
    some x3
  else
    vl (wI μ 85 49 ((μ.1 85 49) + 1)) fun m5 =>
    some m5
set_option maxRecDepth 20000 in
theorem T_X7_goes_0 (G : GX) (fu : Nat)  (hG : gt G = tbl) : ∀ (a1 : Int32) (μ : Mem) (r : Mem) , D_X7_goes_0 fu a1 μ = some r → V G mX7_goes 0 [some (.ref 85), some (.int a1)] [] μ (.inl none) (r) := by
  intro a1 μ r h
  unfold D_X7_goes_0 at h
  refine V_aload_n dX7_goes_0 rfl ?_
  refine V_iload_n dX7_goes_1 rfl ?_
  obtain ⟨x1, y2, h⟩ := bi_o h
  refine V_callV (as := [.int a1]) (q := 85) (rest := []) dX7_goes_2 ov_mX7_can lk_RX7_328 (by decide) (by decide) rfl rfl (Nat.le_of_ble_eq_true rfl) (tq_85 hG) rfl (VM_X7_can G fu μ hG a1 _ y2) ?_
  by_cases c5 : x1 = true
  · rw [if_pos c5] at h
    refine V_ifeq_f (tgt := 16) dX7_goes_5 (by decide) (b2i_t.mp c5) ?_
    refine V_aload_n dX7_goes_8 rfl ?_
    refine V_iload_n dX7_goes_9 rfl ?_
    obtain ⟨x3, y4, h⟩ := bi_o h
    refine V_callV (as := [.int a1]) (q := 85) (rest := []) dX7_goes_10 ov_mX7_does lk_RX7_331 (by decide) (by decide) rfl rfl (Nat.le_of_ble_eq_true rfl) (tq_85 hG) rfl (VM_X7_does G fu hG a1 μ _ y4) ?_
    refine V_goto (tgt := 26) dX7_goes_13 (by decide) ?_
    cases h
    exact V_vret rfl dX7_goes_26
  · rw [if_neg c5] at h
    refine V_ifeq_t (tgt := 16) dX7_goes_5 (by decide) (b2i_f.mp c5) ?_
    refine V_aload_n dX7_goes_16 rfl ?_
    refine V_dup dX7_goes_17 rfl ?_
    refine V_getI (kf := 49) k_X7 (by decide) lk_RX7_334 rfl dX7_goes_18 (tq_85 hG) rfl ?_
    refine V_iconst (v := 1) dX7_goes_21 rfl ?_
    refine V_iadd dX7_goes_22 ?_
    obtain ⟨m5, e6, h⟩ := vl_o h
    refine V_putI (kf := 49) k_X7 (by decide) lk_RX7_334 rfl rfl (by decide +kernel) dX7_goes_23 (tq_85 hG) rfl e6.symm ?_
    cases h
    exact V_vret rfl dX7_goes_26
theorem VM_X7_goes (G : GX) (fu : Nat)  (hG : gt G = tbl) (a1 : Int32) (μ : Mem) (r : Mem) (h : D_X7_goes_0 fu a1 μ = some r) : VM G mX7_goes [.ref 85, .int a1] μ (.inl none) (r) := V_entry ok_mX7_goes rfl rfl (Nat.le_of_ble_eq_true rfl) (T_X7_goes_0 G fu hG a1 μ r h)
def D_X7_begins_0 (fu : Nat)  (μ : Mem) : Option Mem :=
  (D_X7_clears_0 fu μ).bind fun x1 =>
  vl (wI x1 85 49 0) fun m3 =>
  some m3
set_option maxRecDepth 20000 in
theorem T_X7_begins_0 (G : GX) (fu : Nat)  (hG : gt G = tbl) : ∀ (μ : Mem) (r : Mem) , D_X7_begins_0 fu μ = some r → V G mX7_begins 0 [some (.ref 85)] [] μ (.inl none) (r) := by
  intro μ r h
  unfold D_X7_begins_0 at h
  refine V_aload_n dX7_begins_0 rfl ?_
  obtain ⟨x1, y2, h⟩ := bi_o h
  refine V_callV (as := []) (q := 85) (rest := []) dX7_begins_1 ov_mX7_clears lk_RX7_337 (by decide) (by decide) rfl rfl (Nat.le_of_ble_eq_true rfl) (tq_85 hG) rfl (VM_X7_clears G fu hG μ _ y2) ?_
  refine V_aload_n dX7_begins_4 rfl ?_
  refine V_iconst (v := 0) dX7_begins_5 rfl ?_
  obtain ⟨m3, e4, h⟩ := vl_o h
  refine V_putI (kf := 49) k_X7 (by decide) lk_RX7_334 rfl rfl (by decide +kernel) dX7_begins_6 (tq_85 hG) rfl e4.symm ?_
  cases h
  exact V_vret rfl dX7_begins_9
theorem VM_X7_begins (G : GX) (fu : Nat)  (hG : gt G = tbl) (μ : Mem) (r : Mem) (h : D_X7_begins_0 fu μ = some r) : VM G mX7_begins [.ref 85] μ (.inl none) (r) := V_entry ok_mX7_begins rfl rfl (Nat.le_of_ble_eq_true rfl) (T_X7_begins_0 G fu hG μ r h)
def D_X7_goesOver_6 (fu : Nat)  : Nat → Int32 → Mem → Option Mem
  | 0, _, _ => none
  | n + 1, v1, μ =>
    if (μ.1 85 5) ≤ v1 then
      some μ
    else
      (D_X7_goes_0 fu v1 μ).bind fun x3 =>
      (D_X7_goesOver_6 fu n) (v1 + 1) x3
set_option maxRecDepth 20000 in
theorem T_X7_goesOver_6 (G : GX) (fu : Nat)  (hG : gt G = tbl) : ∀ (n : Nat) (v1 : Int32) (μ : Mem) (r : Mem) , D_X7_goesOver_6 fu n v1 μ = some r → V G mX7_goesOver 6 [some (.ref 85), some (.int v1)] [] μ (.inl none) (r) := by
  intro n
  induction n with
  | zero =>
    intro v1 μ r h
    exact nomatch (show (none : Option Mem) = some r from h)
  | succ n ih =>
    intro v1 μ r h
    rw [D_X7_goesOver_6] at h
    refine V_iload_n dX7_goesOver_6 rfl ?_
    refine V_aload_n dX7_goesOver_7 rfl ?_
    refine V_getI (kf := 5) k_X7 (by decide) lk_RX7_17 rfl dX7_goesOver_8 (tq_85 hG) rfl ?_
    by_cases c11 : (μ.1 85 5) ≤ v1
    · rw [if_pos c11] at h
      refine V_icmpge_t (tgt := 25) dX7_goesOver_11 (by decide) c11 ?_
      cases h
      exact V_vret rfl dX7_goesOver_25
    · rw [if_neg c11] at h
      refine V_icmpge_f (tgt := 25) dX7_goesOver_11 (by decide) c11 ?_
      refine V_aload_n dX7_goesOver_14 rfl ?_
      refine V_iload_n dX7_goesOver_15 rfl ?_
      obtain ⟨x3, y4, h⟩ := bi_o h
      refine V_callV (as := [.int v1]) (q := 85) (rest := []) dX7_goesOver_16 ov_mX7_goes lk_RX7_343 (by decide) (by decide) rfl rfl (Nat.le_of_ble_eq_true rfl) (tq_85 hG) rfl (VM_X7_goes G fu hG v1 μ _ y4) ?_
      refine V_iinc (v := v1 + 1) (lv2 := [some (.ref 85), some (.int (v1 + 1))]) dX7_goesOver_19 rfl rfl (by decide) rfl ?_
      refine V_goto (tgt := 6) dX7_goesOver_22 (by decide) ?_
      exact V_wk [true, true] rfl (ih _ _ _ h)
def D_X7_goesOver_0 (fu : Nat)  (μ : Mem) : Option Mem :=
  (D_X7_begins_0 fu μ).bind fun x1 =>
  D_X7_goesOver_6 fu fu 0 x1
set_option maxRecDepth 20000 in
theorem T_X7_goesOver_0 (G : GX) (fu : Nat)  (hG : gt G = tbl) : ∀ (μ : Mem) (r : Mem) , D_X7_goesOver_0 fu μ = some r → V G mX7_goesOver 0 [some (.ref 85), none] [] μ (.inl none) (r) := by
  intro μ r h
  unfold D_X7_goesOver_0 at h
  refine V_aload_n dX7_goesOver_0 rfl ?_
  obtain ⟨x1, y2, h⟩ := bi_o h
  refine V_callV (as := []) (q := 85) (rest := []) dX7_goesOver_1 ov_mX7_begins lk_RX7_340 (by decide) (by decide) rfl rfl (Nat.le_of_ble_eq_true rfl) (tq_85 hG) rfl (VM_X7_begins G fu hG μ _ y2) ?_
  refine V_iconst (v := 0) dX7_goesOver_4 rfl ?_
  refine V_istore_n (lv2 := [some (.ref 85), some (.int 0)]) dX7_goesOver_5 (by decide) rfl ?_
  exact V_wk [true, true] rfl (T_X7_goesOver_6 G fu hG fu _ _ _ h)
theorem VM_X7_goesOver (G : GX) (fu : Nat)  (hG : gt G = tbl) (μ : Mem) (r : Mem) (h : D_X7_goesOver_0 fu μ = some r) : VM G mX7_goesOver [.ref 85] μ (.inl none) (r) := V_entry ok_mX7_goesOver rfl rfl (Nat.le_of_ble_eq_true rfl) (T_X7_goesOver_0 G fu hG μ r h)
def D_X7_goesWithout_24 (fu : Nat)  (k6 : Int32 → Int32 → Mem → Option Mem) (v1 : Int32) (v2 : Int32) (μ : Mem) : Option Mem :=
  k6 v1 (v2 + 1) μ
set_option maxRecDepth 20000 in
theorem T_X7_goesWithout_24 (G : GX) (fu : Nat)  (hG : gt G = tbl) (k6 : Int32 → Int32 → Mem → Option Mem) (hk6 : ∀ (v1 : Int32) (v2 : Int32) (μ : Mem) (r : Mem), k6 v1 v2 μ = some r → V G mX7_goesWithout 6 [some (.ref 85), some (.int v1), some (.int v2)] [] μ (.inl none) (r)) : ∀ (v1 : Int32) (v2 : Int32) (μ : Mem) (r : Mem) , D_X7_goesWithout_24 fu k6 v1 v2 μ = some r → V G mX7_goesWithout 24 [some (.ref 85), some (.int v1), some (.int v2)] [] μ (.inl none) (r) := by
  intro v1 v2 μ r h
  unfold D_X7_goesWithout_24 at h
  refine V_iinc (v := v2 + 1) (lv2 := [some (.ref 85), some (.int v1), some (.int (v2 + 1))]) dX7_goesWithout_24 rfl rfl (by decide) rfl ?_
  refine V_goto (tgt := 6) dX7_goesWithout_27 (by decide) ?_
  exact V_wk [true, true, true] rfl (hk6 _ _ _ _ h)
def D_X7_goesWithout_6 (fu : Nat)  : Nat → Int32 → Int32 → Mem → Option Mem
  | 0, _, _, _ => none
  | n + 1, v1, v2, μ =>
    if (μ.1 85 5) ≤ v2 then
      some μ
    else
      if v2 = v1 then
        D_X7_goesWithout_24 fu (D_X7_goesWithout_6 fu n) v1 v2 μ
      else
        (D_X7_goes_0 fu v2 μ).bind fun x3 =>
        D_X7_goesWithout_24 fu (D_X7_goesWithout_6 fu n) v1 v2 x3
set_option maxRecDepth 20000 in
theorem T_X7_goesWithout_6 (G : GX) (fu : Nat)  (hG : gt G = tbl) : ∀ (n : Nat) (v1 : Int32) (v2 : Int32) (μ : Mem) (r : Mem) , D_X7_goesWithout_6 fu n v1 v2 μ = some r → V G mX7_goesWithout 6 [some (.ref 85), some (.int v1), some (.int v2)] [] μ (.inl none) (r) := by
  intro n
  induction n with
  | zero =>
    intro v1 v2 μ r h
    exact nomatch (show (none : Option Mem) = some r from h)
  | succ n ih =>
    intro v1 v2 μ r h
    rw [D_X7_goesWithout_6] at h
    refine V_iload_n dX7_goesWithout_6 rfl ?_
    refine V_aload_n dX7_goesWithout_7 rfl ?_
    refine V_getI (kf := 5) k_X7 (by decide) lk_RX7_17 rfl dX7_goesWithout_8 (tq_85 hG) rfl ?_
    by_cases c11 : (μ.1 85 5) ≤ v2
    · rw [if_pos c11] at h
      refine V_icmpge_t (tgt := 30) dX7_goesWithout_11 (by decide) c11 ?_
      cases h
      exact V_vret rfl dX7_goesWithout_30
    · rw [if_neg c11] at h
      refine V_icmpge_f (tgt := 30) dX7_goesWithout_11 (by decide) c11 ?_
      refine V_iload_n dX7_goesWithout_14 rfl ?_
      refine V_iload_n dX7_goesWithout_15 rfl ?_
      by_cases c16 : v2 = v1
      · rw [if_pos c16] at h
        refine V_icmpeq_t (tgt := 24) dX7_goesWithout_16 (by decide) c16 ?_
        exact V_wk [true, true, true] rfl (T_X7_goesWithout_24 G fu hG (D_X7_goesWithout_6 fu n) ih _ _ _ _ h)
      · rw [if_neg c16] at h
        refine V_icmpeq_f (tgt := 24) dX7_goesWithout_16 (by decide) c16 ?_
        refine V_aload_n dX7_goesWithout_19 rfl ?_
        refine V_iload_n dX7_goesWithout_20 rfl ?_
        obtain ⟨x3, y4, h⟩ := bi_o h
        refine V_callV (as := [.int v2]) (q := 85) (rest := []) dX7_goesWithout_21 ov_mX7_goes lk_RX7_343 (by decide) (by decide) rfl rfl (Nat.le_of_ble_eq_true rfl) (tq_85 hG) rfl (VM_X7_goes G fu hG v2 μ _ y4) ?_
        exact V_wk [true, true, true] rfl (T_X7_goesWithout_24 G fu hG (D_X7_goesWithout_6 fu n) ih _ _ _ _ h)
def D_X7_goesWithout_0 (fu : Nat)  (a1 : Int32) (μ : Mem) : Option Mem :=
  (D_X7_begins_0 fu μ).bind fun x1 =>
  D_X7_goesWithout_6 fu fu a1 0 x1
set_option maxRecDepth 20000 in
theorem T_X7_goesWithout_0 (G : GX) (fu : Nat)  (hG : gt G = tbl) : ∀ (a1 : Int32) (μ : Mem) (r : Mem) , D_X7_goesWithout_0 fu a1 μ = some r → V G mX7_goesWithout 0 [some (.ref 85), some (.int a1), none] [] μ (.inl none) (r) := by
  intro a1 μ r h
  unfold D_X7_goesWithout_0 at h
  refine V_aload_n dX7_goesWithout_0 rfl ?_
  obtain ⟨x1, y2, h⟩ := bi_o h
  refine V_callV (as := []) (q := 85) (rest := []) dX7_goesWithout_1 ov_mX7_begins lk_RX7_340 (by decide) (by decide) rfl rfl (Nat.le_of_ble_eq_true rfl) (tq_85 hG) rfl (VM_X7_begins G fu hG μ _ y2) ?_
  refine V_iconst (v := 0) dX7_goesWithout_4 rfl ?_
  refine V_istore_n (lv2 := [some (.ref 85), some (.int a1), some (.int 0)]) dX7_goesWithout_5 (by decide) rfl ?_
  exact V_wk [true, true, true] rfl (T_X7_goesWithout_6 G fu hG fu _ _ _ _ h)
theorem VM_X7_goesWithout (G : GX) (fu : Nat)  (hG : gt G = tbl) (a1 : Int32) (μ : Mem) (r : Mem) (h : D_X7_goesWithout_0 fu a1 μ = some r) : VM G mX7_goesWithout [.ref 85, .int a1] μ (.inl none) (r) := V_entry ok_mX7_goesWithout rfl rfl (Nat.le_of_ble_eq_true rfl) (T_X7_goesWithout_0 G fu hG a1 μ r h)
def D_X7_goesBy_19 (fu : Nat)  : Nat → Int32 → Mem → Option Mem
  | 0, _, _ => none
  | n + 1, v4, μ =>
    if (μ.1 85 5) ≤ v4 then
      vl (wI μ 85 48 0) fun m7 =>
      some m7
    else
      (D_X7_goes_0 fu v4 μ).bind fun x9 =>
      (D_X7_goesBy_19 fu n) (v4 + 1) x9
set_option maxRecDepth 20000 in
theorem T_X7_goesBy_19 (G : GX) (fu : Nat)  (hG : gt G = tbl) : ∀ (n : Nat) (v4 : Int32) (μ : Mem) (r : Mem) , D_X7_goesBy_19 fu n v4 μ = some r → V G mX7_goesBy 19 [some (.ref 85), none, none, none, some (.int v4)] [] μ (.inl none) (r) := by
  intro n
  induction n with
  | zero =>
    intro v4 μ r h
    exact nomatch (show (none : Option Mem) = some r from h)
  | succ n ih =>
    intro v4 μ r h
    rw [D_X7_goesBy_19] at h
    refine V_iload dX7_goesBy_19 rfl ?_
    refine V_aload_n dX7_goesBy_21 rfl ?_
    refine V_getI (kf := 5) k_X7 (by decide) lk_RX7_17 rfl dX7_goesBy_22 (tq_85 hG) rfl ?_
    by_cases c25 : (μ.1 85 5) ≤ v4
    · rw [if_pos c25] at h
      refine V_icmpge_t (tgt := 40) dX7_goesBy_25 (by decide) c25 ?_
      refine V_aload_n dX7_goesBy_40 rfl ?_
      refine V_iconst (v := 0) dX7_goesBy_41 rfl ?_
      obtain ⟨m7, e8, h⟩ := vl_o h
      refine V_putZ (kf := 48) k_X7 (by decide) lk_RX7_306 rfl rfl (by decide +kernel) (by decide) (by decide) dX7_goesBy_42 (tq_85 hG) rfl e8.symm ?_
      cases h
      exact V_vret rfl dX7_goesBy_45
    · rw [if_neg c25] at h
      refine V_icmpge_f (tgt := 40) dX7_goesBy_25 (by decide) c25 ?_
      refine V_aload_n dX7_goesBy_28 rfl ?_
      refine V_iload dX7_goesBy_29 rfl ?_
      obtain ⟨x9, y10, h⟩ := bi_o h
      refine V_callV (as := [.int v4]) (q := 85) (rest := []) dX7_goesBy_31 ov_mX7_goes lk_RX7_343 (by decide) (by decide) rfl rfl (Nat.le_of_ble_eq_true rfl) (tq_85 hG) rfl (VM_X7_goes G fu hG v4 μ _ y10) ?_
      refine V_iinc (v := v4 + 1) (lv2 := [some (.ref 85), none, none, none, some (.int (v4 + 1))]) dX7_goesBy_34 rfl rfl (by decide) rfl ?_
      refine V_goto (tgt := 19) dX7_goesBy_37 (by decide) ?_
      exact V_wk [true, false, false, false, true] rfl (ih _ _ _ h)
def D_X7_goesBy_0 (fu : Nat)  (a1 : Int32) (a2 : Int32) (a3 : Int32) (μ : Mem) : Option Mem :=
  (D_X7_begins_0 fu μ).bind fun x1 =>
  (D_X7_rulesAre_0 a1 a2 a3 x1).bind fun x3 =>
  vl (wI x3 85 48 1) fun m5 =>
  D_X7_goesBy_19 fu fu 0 m5
set_option maxRecDepth 20000 in
theorem T_X7_goesBy_0 (G : GX) (fu : Nat)  (hG : gt G = tbl) : ∀ (a1 : Int32) (a2 : Int32) (a3 : Int32) (μ : Mem) (r : Mem) , D_X7_goesBy_0 fu a1 a2 a3 μ = some r → V G mX7_goesBy 0 [some (.ref 85), some (.int a1), some (.int a2), some (.int a3), none] [] μ (.inl none) (r) := by
  intro a1 a2 a3 μ r h
  unfold D_X7_goesBy_0 at h
  refine V_aload_n dX7_goesBy_0 rfl ?_
  obtain ⟨x1, y2, h⟩ := bi_o h
  refine V_callV (as := []) (q := 85) (rest := []) dX7_goesBy_1 ov_mX7_begins lk_RX7_340 (by decide) (by decide) rfl rfl (Nat.le_of_ble_eq_true rfl) (tq_85 hG) rfl (VM_X7_begins G fu hG μ _ y2) ?_
  refine V_aload_n dX7_goesBy_4 rfl ?_
  refine V_iload_n dX7_goesBy_5 rfl ?_
  refine V_iload_n dX7_goesBy_6 rfl ?_
  refine V_iload_n dX7_goesBy_7 rfl ?_
  obtain ⟨x3, y4, h⟩ := bi_o h
  refine V_callV (as := [.int a1, .int a2, .int a3]) (q := 85) (rest := []) dX7_goesBy_8 ov_mX7_rulesAre lk_RX7_310 (by decide) (by decide) rfl rfl (Nat.le_of_ble_eq_true rfl) (tq_85 hG) rfl (VM_X7_rulesAre G hG a1 a2 a3 x1 _ y4) ?_
  refine V_aload_n dX7_goesBy_11 rfl ?_
  refine V_iconst (v := 1) dX7_goesBy_12 rfl ?_
  obtain ⟨m5, e6, h⟩ := vl_o h
  refine V_putZ (kf := 48) k_X7 (by decide) lk_RX7_306 rfl rfl (by decide +kernel) (by decide) (by decide) dX7_goesBy_13 (tq_85 hG) rfl e6.symm ?_
  refine V_iconst (v := 0) dX7_goesBy_16 rfl ?_
  refine V_istore (lv2 := [some (.ref 85), some (.int a1), some (.int a2), some (.int a3), some (.int 0)]) dX7_goesBy_17 (by decide) rfl ?_
  exact V_wk [true, false, false, false, true] rfl (T_X7_goesBy_19 G fu hG fu _ _ _ h)
theorem VM_X7_goesBy (G : GX) (fu : Nat)  (hG : gt G = tbl) (a1 : Int32) (a2 : Int32) (a3 : Int32) (μ : Mem) (r : Mem) (h : D_X7_goesBy_0 fu a1 a2 a3 μ = some r) : VM G mX7_goesBy [.ref 85, .int a1, .int a2, .int a3] μ (.inl none) (r) := V_entry ok_mX7_goesBy rfl rfl (Nat.le_of_ble_eq_true rfl) (T_X7_goesBy_0 G fu hG a1 a2 a3 μ r h)
def D_X7_hasRoom_16  (v1 : Int32) (s1 : Int32) (μ : Mem) : Option (Bool × Mem) :=
  (D_X7_needs_0 s1 v1 2 μ).bind fun x1 =>
  some (x1.1, x1.2)
set_option maxRecDepth 20000 in
theorem T_X7_hasRoom_16 (G : GX)  (hG : gt G = tbl) : ∀ (v1 : Int32) (s1 : Int32) (μ : Mem) (r : (Bool × Mem)) , D_X7_hasRoom_16  v1 s1 μ = some r → V G mX7_hasRoom 16 [none, some (.int v1)] [.int s1, .ref 85] μ (.inl (some (.int (b2i r.1)))) (r.2) := by
  intro v1 s1 μ r h
  unfold D_X7_hasRoom_16 at h
  refine V_iload_n dX7_hasRoom_16 rfl ?_
  refine V_iconst (v := 2) dX7_hasRoom_17 rfl ?_
  obtain ⟨x1, y2, h⟩ := bi_o h
  refine V_callV (as := [.int s1, .int v1, .int 2]) (q := 85) (rest := []) dX7_hasRoom_18 ov_mX7_needs lk_RX7_346 (by decide) (by decide) rfl rfl (Nat.le_of_ble_eq_true rfl) (tq_85 hG) rfl (VM_X7_needs G hG s1 v1 2 μ _ y2) ?_
  cases h
  exact V_zret rfl (b2i_nar _) dX7_hasRoom_21
def D_X7_hasRoom_0  (a1 : Int32) (μ : Mem) : Option (Bool × Mem) :=
  if (160 : Int32) ≤ (μ.1 85 5) then
    D_X7_hasRoom_16 a1 0 μ
  else
    D_X7_hasRoom_16 a1 1 μ
set_option maxRecDepth 20000 in
theorem T_X7_hasRoom_0 (G : GX)  (hG : gt G = tbl) : ∀ (a1 : Int32) (μ : Mem) (r : (Bool × Mem)) , D_X7_hasRoom_0  a1 μ = some r → V G mX7_hasRoom 0 [some (.ref 85), some (.int a1)] [] μ (.inl (some (.int (b2i r.1)))) (r.2) := by
  intro a1 μ r h
  unfold D_X7_hasRoom_0 at h
  refine V_aload_n dX7_hasRoom_0 rfl ?_
  refine V_aload_n dX7_hasRoom_1 rfl ?_
  refine V_getI (kf := 5) k_X7 (by decide) lk_RX7_17 rfl dX7_hasRoom_2 (tq_85 hG) rfl ?_
  refine V_sipush (v := 160) dX7_hasRoom_5 rfl ?_
  by_cases c8 : (160 : Int32) ≤ (μ.1 85 5)
  · rw [if_pos c8] at h
    refine V_icmpge_t (tgt := 15) dX7_hasRoom_8 (by decide) c8 ?_
    refine V_iconst (v := 0) dX7_hasRoom_15 rfl ?_
    exact V_wk [false, true] rfl (T_X7_hasRoom_16 G hG _ _ _ _ h)
  · rw [if_neg c8] at h
    refine V_icmpge_f (tgt := 15) dX7_hasRoom_8 (by decide) c8 ?_
    refine V_iconst (v := 1) dX7_hasRoom_11 rfl ?_
    refine V_goto (tgt := 16) dX7_hasRoom_12 (by decide) ?_
    exact V_wk [false, true] rfl (T_X7_hasRoom_16 G hG _ _ _ _ h)
theorem VM_X7_hasRoom (G : GX)  (hG : gt G = tbl) (a1 : Int32) (μ : Mem) (r : (Bool × Mem)) (h : D_X7_hasRoom_0  a1 μ = some r) : VM G mX7_hasRoom [.ref 85, .int a1] μ (.inl (some (.int (b2i r.1)))) (r.2) := V_entry ok_mX7_hasRoom rfl rfl (Nat.le_of_ble_eq_true rfl) (T_X7_hasRoom_0 G hG a1 μ r h)
def D_X7_place_98 (fu : Nat)  (v1 : Int32) (v2 : Int32) (v3 : Int32) (v4 : Int32) (s1 : Int32) (μ : Mem) : Option (Int32 × Mem) :=
  (D_X7_needs_0 s1 2 2 μ).bind fun x15 =>
  if x15.1 = true then
    (D_X7_hasRoom_0 2 x15.2).bind fun x17 =>
    if x17.1 = true then
      (D_X7_eventsOf_0 fu x17.2 0).bind fun x19 =>
      (D_X7_notes_0 0 v1 v2 v3 v4 x19 x17.2).bind fun x21 =>
      (D_X7_does_0 fu ((x21.1 85 5) - 1) x21).bind fun x23 =>
      some (x19, x23)
    else
      some (0, x17.2)
  else
    some (0, x15.2)
set_option maxRecDepth 20000 in
theorem T_X7_place_98 (G : GX) (fu : Nat)  (hG : gt G = tbl) : ∀ (v1 : Int32) (v2 : Int32) (v3 : Int32) (v4 : Int32) (s1 : Int32) (μ : Mem) (r : (Int32 × Mem)) , D_X7_place_98 fu v1 v2 v3 v4 s1 μ = some r → V G mX7_place 98 [some (.ref 85), some (.int v1), some (.int v2), some (.int v3), some (.int v4), none, none] [.int s1, .ref 85] μ (.inl (some (.int r.1))) (r.2) := by
  intro v1 v2 v3 v4 s1 μ r h
  unfold D_X7_place_98 at h
  refine V_iconst (v := 2) dX7_place_98 rfl ?_
  refine V_iconst (v := 2) dX7_place_99 rfl ?_
  obtain ⟨x15, y16, h⟩ := bi_o h
  refine V_callV (as := [.int s1, .int 2, .int 2]) (q := 85) (rest := []) dX7_place_100 ov_mX7_needs lk_RX7_346 (by decide) (by decide) rfl rfl (Nat.le_of_ble_eq_true rfl) (tq_85 hG) rfl (VM_X7_needs G hG s1 2 2 μ _ y16) ?_
  by_cases c103 : x15.1 = true
  · rw [if_pos c103] at h
    refine V_ifeq_f (tgt := 114) dX7_place_103 (by decide) (b2i_t.mp c103) ?_
    refine V_aload_n dX7_place_106 rfl ?_
    refine V_iconst (v := 2) dX7_place_107 rfl ?_
    obtain ⟨x17, y18, h⟩ := bi_o h
    refine V_callV (as := [.int 2]) (q := 85) (rest := []) dX7_place_108 ov_mX7_hasRoom lk_RX7_365 (by decide) (by decide) rfl rfl (Nat.le_of_ble_eq_true rfl) (tq_85 hG) rfl (VM_X7_hasRoom G hG 2 x15.2 _ y18) ?_
    by_cases c111 : x17.1 = true
    · rw [if_pos c111] at h
      refine V_ifne_t (tgt := 116) dX7_place_111 (by decide) (b2i_t.mp c111) ?_
      refine V_aload_n dX7_place_116 rfl ?_
      refine V_iconst (v := 0) dX7_place_117 rfl ?_
      obtain ⟨x19, y20, h⟩ := bi_o h
      refine V_callV (as := [.int 0]) (q := 85) (rest := []) dX7_place_118 ov_mX7_eventsOf lk_RX7_362 (by decide) (by decide) rfl rfl (Nat.le_of_ble_eq_true rfl) (tq_85 hG) rfl (VM_X7_eventsOf G fu x17.2 hG 0 _ y20) ?_
      refine V_istore (lv2 := [some (.ref 85), some (.int v1), some (.int v2), some (.int v3), some (.int v4), none, some (.int x19)]) dX7_place_121 (by decide) rfl ?_
      refine V_aload_n dX7_place_123 rfl ?_
      refine V_iconst (v := 0) dX7_place_124 rfl ?_
      refine V_iload_n dX7_place_125 rfl ?_
      refine V_iload_n dX7_place_126 rfl ?_
      refine V_iload_n dX7_place_127 rfl ?_
      refine V_iload dX7_place_128 rfl ?_
      refine V_iload dX7_place_130 rfl ?_
      obtain ⟨x21, y22, h⟩ := bi_o h
      refine V_callV (as := [.int 0, .int v1, .int v2, .int v3, .int v4, .int x19]) (q := 85) (rest := []) dX7_place_132 ov_mX7_notes lk_RX7_368 (by decide) (by decide) rfl rfl (Nat.le_of_ble_eq_true rfl) (tq_85 hG) rfl (VM_X7_notes G hG 0 v1 v2 v3 v4 x19 x17.2 _ y22) ?_
      refine V_aload_n dX7_place_135 rfl ?_
      refine V_aload_n dX7_place_136 rfl ?_
      refine V_getI (kf := 5) k_X7 (by decide) lk_RX7_17 rfl dX7_place_137 (tq_85 hG) rfl ?_
      refine V_iconst (v := 1) dX7_place_140 rfl ?_
      refine V_isub dX7_place_141 ?_
      obtain ⟨x23, y24, h⟩ := bi_o h
      refine V_callV (as := [.int ((x21.1 85 5) - 1)]) (q := 85) (rest := []) dX7_place_142 ov_mX7_does lk_RX7_331 (by decide) (by decide) rfl rfl (Nat.le_of_ble_eq_true rfl) (tq_85 hG) rfl (VM_X7_does G fu hG ((x21.1 85 5) - 1) x21 _ y24) ?_
      refine V_iload dX7_place_145 rfl ?_
      cases h
      exact V_iret rfl dX7_place_147
    · rw [if_neg c111] at h
      refine V_ifne_f (tgt := 116) dX7_place_111 (by decide) (b2i_f.mp c111) ?_
      refine V_iconst (v := 0) dX7_place_114 rfl ?_
      cases h
      exact V_iret rfl dX7_place_115
  · rw [if_neg c103] at h
    refine V_ifeq_t (tgt := 114) dX7_place_103 (by decide) (b2i_f.mp c103) ?_
    refine V_iconst (v := 0) dX7_place_114 rfl ?_
    cases h
    exact V_iret rfl dX7_place_115
def D_X7_place_97 (fu : Nat)  (v1 : Int32) (v2 : Int32) (v3 : Int32) (v4 : Int32) (μ : Mem) : Option (Int32 × Mem) :=
  D_X7_place_98 fu v1 v2 v3 v4 0 μ
set_option maxRecDepth 20000 in
theorem T_X7_place_97 (G : GX) (fu : Nat)  (hG : gt G = tbl) : ∀ (v1 : Int32) (v2 : Int32) (v3 : Int32) (v4 : Int32) (μ : Mem) (r : (Int32 × Mem)) , D_X7_place_97 fu v1 v2 v3 v4 μ = some r → V G mX7_place 97 [some (.ref 85), some (.int v1), some (.int v2), some (.int v3), some (.int v4), none, none] [.ref 85] μ (.inl (some (.int r.1))) (r.2) := by
  intro v1 v2 v3 v4 μ r h
  unfold D_X7_place_97 at h
  refine V_iconst (v := 0) dX7_place_97 rfl ?_
  exact V_wk [true, true, true, true, true, false, false] rfl (T_X7_place_98 G fu hG _ _ _ _ _ _ _ h)
def D_X7_place_59 (fu : Nat)  (v1 : Int32) (v2 : Int32) (v3 : Int32) (v4 : Int32) (s0 : Int32) (μ : Mem) : Option (Int32 × Mem) :=
  (D_X7_needs_0 s0 1 1 μ).bind fun x11 =>
  if x11.1 = true then
    (D_X7_eventsOf_0 fu x11.2 0).bind fun x13 =>
    if (40 : Int32) ≤ x13 then
      D_X7_place_97 fu v1 v2 v3 v4 x11.2
    else
      (D_X7_canPlace_0 fu x11.2 v1 v2 v3).bind fun x25 =>
      if x25 = true then
        D_X7_place_98 fu v1 v2 v3 v4 1 x11.2
      else
        D_X7_place_97 fu v1 v2 v3 v4 x11.2
  else
    some (0, x11.2)
set_option maxRecDepth 20000 in
theorem T_X7_place_59 (G : GX) (fu : Nat)  (hG : gt G = tbl) : ∀ (v1 : Int32) (v2 : Int32) (v3 : Int32) (v4 : Int32) (s0 : Int32) (μ : Mem) (r : (Int32 × Mem)) , D_X7_place_59 fu v1 v2 v3 v4 s0 μ = some r → V G mX7_place 59 [some (.ref 85), some (.int v1), some (.int v2), some (.int v3), some (.int v4), none, none] [.int s0] μ (.inl (some (.int r.1))) (r.2) := by
  intro v1 v2 v3 v4 s0 μ r h
  unfold D_X7_place_59 at h
  refine V_istore (lv2 := [some (.ref 85), some (.int v1), some (.int v2), some (.int v3), some (.int v4), some (.int s0), none]) dX7_place_59 (by decide) rfl ?_
  refine V_aload_n dX7_place_61 rfl ?_
  refine V_iload dX7_place_62 rfl ?_
  refine V_iconst (v := 1) dX7_place_64 rfl ?_
  refine V_iconst (v := 1) dX7_place_65 rfl ?_
  obtain ⟨x11, y12, h⟩ := bi_o h
  refine V_callV (as := [.int s0, .int 1, .int 1]) (q := 85) (rest := []) dX7_place_66 ov_mX7_needs lk_RX7_346 (by decide) (by decide) rfl rfl (Nat.le_of_ble_eq_true rfl) (tq_85 hG) rfl (VM_X7_needs G hG s0 1 1 μ _ y12) ?_
  by_cases c69 : x11.1 = true
  · rw [if_pos c69] at h
    refine V_ifeq_f (tgt := 114) dX7_place_69 (by decide) (b2i_t.mp c69) ?_
    refine V_aload_n dX7_place_72 rfl ?_
    refine V_aload_n dX7_place_73 rfl ?_
    refine V_iconst (v := 0) dX7_place_74 rfl ?_
    obtain ⟨x13, y14, h⟩ := bi_o h
    refine V_callV (as := [.int 0]) (q := 85) (rest := [.ref 85]) dX7_place_75 ov_mX7_eventsOf lk_RX7_362 (by decide) (by decide) rfl rfl (Nat.le_of_ble_eq_true rfl) (tq_85 hG) rfl (VM_X7_eventsOf G fu x11.2 hG 0 _ y14) ?_
    refine V_bipush (v := 40) dX7_place_78 rfl ?_
    by_cases c80 : (40 : Int32) ≤ x13
    · rw [if_pos c80] at h
      refine V_icmpge_t (tgt := 97) dX7_place_80 (by decide) c80 ?_
      exact V_wk [true, true, true, true, true, false, false] rfl (T_X7_place_97 G fu hG _ _ _ _ _ _ h)
    · rw [if_neg c80] at h
      refine V_icmpge_f (tgt := 97) dX7_place_80 (by decide) c80 ?_
      refine V_aload_n dX7_place_83 rfl ?_
      refine V_iload_n dX7_place_84 rfl ?_
      refine V_iload_n dX7_place_85 rfl ?_
      refine V_iload_n dX7_place_86 rfl ?_
      obtain ⟨x25, y26, h⟩ := bi_o h
      refine V_callV (as := [.int v1, .int v2, .int v3]) (q := 85) (rest := [.ref 85]) dX7_place_87 ov_mX7_canPlace lk_RX7_292 (by decide) (by decide) rfl rfl (Nat.le_of_ble_eq_true rfl) (tq_85 hG) rfl (VM_X7_canPlace G fu x11.2 hG v1 v2 v3 _ y26) ?_
      by_cases c90 : x25 = true
      · rw [if_pos c90] at h
        refine V_ifeq_f (tgt := 97) dX7_place_90 (by decide) (b2i_t.mp c90) ?_
        refine V_iconst (v := 1) dX7_place_93 rfl ?_
        refine V_goto (tgt := 98) dX7_place_94 (by decide) ?_
        exact V_wk [true, true, true, true, true, false, false] rfl (T_X7_place_98 G fu hG _ _ _ _ _ _ _ h)
      · rw [if_neg c90] at h
        refine V_ifeq_t (tgt := 97) dX7_place_90 (by decide) (b2i_f.mp c90) ?_
        exact V_wk [true, true, true, true, true, false, false] rfl (T_X7_place_97 G fu hG _ _ _ _ _ _ h)
  · rw [if_neg c69] at h
    refine V_ifeq_t (tgt := 114) dX7_place_69 (by decide) (b2i_f.mp c69) ?_
    refine V_iconst (v := 0) dX7_place_114 rfl ?_
    cases h
    exact V_iret rfl dX7_place_115
def D_X7_place_58 (fu : Nat)  (v1 : Int32) (v2 : Int32) (v3 : Int32) (v4 : Int32) (μ : Mem) : Option (Int32 × Mem) :=
  D_X7_place_59 fu v1 v2 v3 v4 0 μ
set_option maxRecDepth 20000 in
theorem T_X7_place_58 (G : GX) (fu : Nat)  (hG : gt G = tbl) : ∀ (v1 : Int32) (v2 : Int32) (v3 : Int32) (v4 : Int32) (μ : Mem) (r : (Int32 × Mem)) , D_X7_place_58 fu v1 v2 v3 v4 μ = some r → V G mX7_place 58 [some (.ref 85), some (.int v1), some (.int v2), some (.int v3), some (.int v4), none, none] [] μ (.inl (some (.int r.1))) (r.2) := by
  intro v1 v2 v3 v4 μ r h
  unfold D_X7_place_58 at h
  refine V_iconst (v := 0) dX7_place_58 rfl ?_
  exact V_wk [true, true, true, true, true, false, false] rfl (T_X7_place_59 G fu hG _ _ _ _ _ _ _ h)
def D_X7_place_0 (fu : Nat)  (a1 : Int32) (a2 : Int32) (a3 : Int32) (a4 : Int32) (μ : Mem) : Option (Int32 × Mem) :=
  vl (wI μ 85 0 0) fun m1 =>
  (D_X7_within_0 m1 ((a1 : Int32).toInt64) 0 11).bind fun x3 =>
  if x3 = true then
    (D_X7_within_0 m1 ((a2 : Int32).toInt64) 0 900000000).bind fun x5 =>
    if x5 = true then
      (D_X7_within_0 m1 ((a3 : Int32).toInt64) 1 100000000).bind fun x7 =>
      if x7 = true then
        (D_X7_within_0 m1 ((a4 : Int32).toInt64) 1 4).bind fun x9 =>
        if x9 = true then
          D_X7_place_59 fu a1 a2 a3 a4 1 m1
        else
          D_X7_place_58 fu a1 a2 a3 a4 m1
      else
        D_X7_place_58 fu a1 a2 a3 a4 m1
    else
      D_X7_place_58 fu a1 a2 a3 a4 m1
  else
    D_X7_place_58 fu a1 a2 a3 a4 m1
set_option maxRecDepth 20000 in
theorem T_X7_place_0 (G : GX) (fu : Nat)  (hG : gt G = tbl) : ∀ (a1 : Int32) (a2 : Int32) (a3 : Int32) (a4 : Int32) (μ : Mem) (r : (Int32 × Mem)) , D_X7_place_0 fu a1 a2 a3 a4 μ = some r → V G mX7_place 0 [some (.ref 85), some (.int a1), some (.int a2), some (.int a3), some (.int a4), none, none] [] μ (.inl (some (.int r.1))) (r.2) := by
  intro a1 a2 a3 a4 μ r h
  unfold D_X7_place_0 at h
  refine V_aload_n dX7_place_0 rfl ?_
  refine V_iconst (v := 0) dX7_place_1 rfl ?_
  obtain ⟨m1, e2, h⟩ := vl_o h
  refine V_putI (kf := 0) k_X7 (by decide) lk_RX7_1 rfl rfl (by decide +kernel) dX7_place_2 (tq_85 hG) rfl e2.symm ?_
  refine V_iload_n dX7_place_5 rfl ?_
  refine V_i2l dX7_place_6 ?_
  refine V_lconst (v := 0) dX7_place_7 rfl ?_
  refine V_ldc2 (v := 11) dX7_place_8 lk_RX7_350 ?_
  obtain ⟨x3, y4, h⟩ := bi_o h
  refine V_callS (as := [.long ((a1 : Int32).toInt64), .long 0, .long 11]) (rest := []) dX7_place_11 os_mX7_within rfl lk_RX7_352 (by decide) (by decide) rfl rfl (Nat.le_of_ble_eq_true rfl) (VM_X7_within G m1 hG ((a1 : Int32).toInt64) 0 11 _ y4) ?_
  by_cases c14 : x3 = true
  · rw [if_pos c14] at h
    refine V_ifeq_f (tgt := 58) dX7_place_14 (by decide) (b2i_t.mp c14) ?_
    refine V_iload_n dX7_place_17 rfl ?_
    refine V_i2l dX7_place_18 ?_
    refine V_lconst (v := 0) dX7_place_19 rfl ?_
    refine V_ldc2 (v := 900000000) dX7_place_20 lk_RX7_356 ?_
    obtain ⟨x5, y6, h⟩ := bi_o h
    refine V_callS (as := [.long ((a2 : Int32).toInt64), .long 0, .long 900000000]) (rest := []) dX7_place_23 os_mX7_within rfl lk_RX7_352 (by decide) (by decide) rfl rfl (Nat.le_of_ble_eq_true rfl) (VM_X7_within G m1 hG ((a2 : Int32).toInt64) 0 900000000 _ y6) ?_
    by_cases c26 : x5 = true
    · rw [if_pos c26] at h
      refine V_ifeq_f (tgt := 58) dX7_place_26 (by decide) (b2i_t.mp c26) ?_
      refine V_iload_n dX7_place_29 rfl ?_
      refine V_i2l dX7_place_30 ?_
      refine V_lconst (v := 1) dX7_place_31 rfl ?_
      refine V_ldc2 (v := 100000000) dX7_place_32 lk_RX7_358 ?_
      obtain ⟨x7, y8, h⟩ := bi_o h
      refine V_callS (as := [.long ((a3 : Int32).toInt64), .long 1, .long 100000000]) (rest := []) dX7_place_35 os_mX7_within rfl lk_RX7_352 (by decide) (by decide) rfl rfl (Nat.le_of_ble_eq_true rfl) (VM_X7_within G m1 hG ((a3 : Int32).toInt64) 1 100000000 _ y8) ?_
      by_cases c38 : x7 = true
      · rw [if_pos c38] at h
        refine V_ifeq_f (tgt := 58) dX7_place_38 (by decide) (b2i_t.mp c38) ?_
        refine V_iload dX7_place_41 rfl ?_
        refine V_i2l dX7_place_43 ?_
        refine V_lconst (v := 1) dX7_place_44 rfl ?_
        refine V_ldc2 (v := 4) dX7_place_45 lk_RX7_360 ?_
        obtain ⟨x9, y10, h⟩ := bi_o h
        refine V_callS (as := [.long ((a4 : Int32).toInt64), .long 1, .long 4]) (rest := []) dX7_place_48 os_mX7_within rfl lk_RX7_352 (by decide) (by decide) rfl rfl (Nat.le_of_ble_eq_true rfl) (VM_X7_within G m1 hG ((a4 : Int32).toInt64) 1 4 _ y10) ?_
        by_cases c51 : x9 = true
        · rw [if_pos c51] at h
          refine V_ifeq_f (tgt := 58) dX7_place_51 (by decide) (b2i_t.mp c51) ?_
          refine V_iconst (v := 1) dX7_place_54 rfl ?_
          refine V_goto (tgt := 59) dX7_place_55 (by decide) ?_
          exact V_wk [true, true, true, true, true, false, false] rfl (T_X7_place_59 G fu hG _ _ _ _ _ _ _ h)
        · rw [if_neg c51] at h
          refine V_ifeq_t (tgt := 58) dX7_place_51 (by decide) (b2i_f.mp c51) ?_
          exact V_wk [true, true, true, true, true, false, false] rfl (T_X7_place_58 G fu hG _ _ _ _ _ _ h)
      · rw [if_neg c38] at h
        refine V_ifeq_t (tgt := 58) dX7_place_38 (by decide) (b2i_f.mp c38) ?_
        exact V_wk [true, true, true, true, true, false, false] rfl (T_X7_place_58 G fu hG _ _ _ _ _ _ h)
    · rw [if_neg c26] at h
      refine V_ifeq_t (tgt := 58) dX7_place_26 (by decide) (b2i_f.mp c26) ?_
      exact V_wk [true, true, true, true, true, false, false] rfl (T_X7_place_58 G fu hG _ _ _ _ _ _ h)
  · rw [if_neg c14] at h
    refine V_ifeq_t (tgt := 58) dX7_place_14 (by decide) (b2i_f.mp c14) ?_
    exact V_wk [true, true, true, true, true, false, false] rfl (T_X7_place_58 G fu hG _ _ _ _ _ _ h)
theorem VM_X7_place (G : GX) (fu : Nat)  (hG : gt G = tbl) (a1 : Int32) (a2 : Int32) (a3 : Int32) (a4 : Int32) (μ : Mem) (r : (Int32 × Mem)) (h : D_X7_place_0 fu a1 a2 a3 a4 μ = some r) : VM G mX7_place [.ref 85, .int a1, .int a2, .int a3, .int a4] μ (.inl (some (.int r.1))) (r.2) := V_entry ok_mX7_place rfl rfl (Nat.le_of_ble_eq_true rfl) (T_X7_place_0 G fu hG a1 a2 a3 a4 μ r h)
def D_X7_isOne_27  (v2 : Int32) (s1 : Int32) (μ : Mem) : Option (Bool × Mem) :=
  (D_X7_needs_0 s1 v2 0 μ).bind fun x4 =>
  some (x4.1, x4.2)
set_option maxRecDepth 20000 in
theorem T_X7_isOne_27 (G : GX)  (hG : gt G = tbl) : ∀ (v2 : Int32) (s1 : Int32) (μ : Mem) (r : (Bool × Mem)) , D_X7_isOne_27  v2 s1 μ = some r → V G mX7_isOne 27 [none, none, some (.int v2)] [.int s1, .ref 85] μ (.inl (some (.int (b2i r.1)))) (r.2) := by
  intro v2 s1 μ r h
  unfold D_X7_isOne_27 at h
  refine V_iload_n dX7_isOne_27 rfl ?_
  refine V_iconst (v := 0) dX7_isOne_28 rfl ?_
  obtain ⟨x4, y5, h⟩ := bi_o h
  refine V_callV (as := [.int s1, .int v2, .int 0]) (q := 85) (rest := []) dX7_isOne_29 ov_mX7_needs lk_RX7_346 (by decide) (by decide) rfl rfl (Nat.le_of_ble_eq_true rfl) (tq_85 hG) rfl (VM_X7_needs G hG s1 v2 0 μ _ y5) ?_
  cases h
  exact V_zret rfl (b2i_nar _) dX7_isOne_32
def D_X7_isOne_26  (v2 : Int32) (μ : Mem) : Option (Bool × Mem) :=
  D_X7_isOne_27 v2 0 μ
set_option maxRecDepth 20000 in
theorem T_X7_isOne_26 (G : GX)  (hG : gt G = tbl) : ∀ (v2 : Int32) (μ : Mem) (r : (Bool × Mem)) , D_X7_isOne_26  v2 μ = some r → V G mX7_isOne 26 [none, none, some (.int v2)] [.ref 85] μ (.inl (some (.int (b2i r.1)))) (r.2) := by
  intro v2 μ r h
  unfold D_X7_isOne_26 at h
  refine V_iconst (v := 0) dX7_isOne_26 rfl ?_
  exact V_wk [false, false, true] rfl (T_X7_isOne_27 G hG _ _ _ _ h)
def D_X7_isOne_0  (a1 : Int32) (a2 : Int32) (μ : Mem) : Option (Bool × Mem) :=
  (D_X7_within_0 μ ((a1 : Int32).toInt64) 0 39).bind fun x1 =>
  if x1 = true then
    gu (ib a1 40) <|
    if (μ.1 90 (Int32.toNatClampNeg a1)) = 0 then
      D_X7_isOne_26 a2 μ
    else
      D_X7_isOne_27 a2 1 μ
  else
    D_X7_isOne_26 a2 μ
set_option maxRecDepth 20000 in
theorem T_X7_isOne_0 (G : GX)  (hG : gt G = tbl) : ∀ (a1 : Int32) (a2 : Int32) (μ : Mem) (r : (Bool × Mem)) , D_X7_isOne_0  a1 a2 μ = some r → V G mX7_isOne 0 [some (.ref 85), some (.int a1), some (.int a2)] [] μ (.inl (some (.int (b2i r.1)))) (r.2) := by
  intro a1 a2 μ r h
  unfold D_X7_isOne_0 at h
  refine V_aload_n dX7_isOne_0 rfl ?_
  refine V_iload_n dX7_isOne_1 rfl ?_
  refine V_i2l dX7_isOne_2 ?_
  refine V_lconst (v := 0) dX7_isOne_3 rfl ?_
  refine V_ldc2 (v := 39) dX7_isOne_4 lk_RX7_372 ?_
  obtain ⟨x1, y2, h⟩ := bi_o h
  refine V_callS (as := [.long ((a1 : Int32).toInt64), .long 0, .long 39]) (rest := [.ref 85]) dX7_isOne_7 os_mX7_within rfl lk_RX7_352 (by decide) (by decide) rfl rfl (Nat.le_of_ble_eq_true rfl) (VM_X7_within G μ hG ((a1 : Int32).toInt64) 0 39 _ y2) ?_
  by_cases c10 : x1 = true
  · rw [if_pos c10] at h
    refine V_ifeq_f (tgt := 26) dX7_isOne_10 (by decide) (b2i_t.mp c10) ?_
    refine V_aload_n dX7_isOne_13 rfl ?_
    refine V_getR (kf := 6) k_X7 (by decide) lk_RX7_29 rfl dX7_isOne_14 (tq_85 hG) rfl ?_
    refine V_iload_n dX7_isOne_17 rfl ?_
    obtain ⟨g3, h⟩ := gu_o h
    refine V_baload dX7_isOne_18 (tq_90 hG) (ib_in g3) ?_
    by_cases c19 : (μ.1 90 (Int32.toNatClampNeg a1)) = 0
    · rw [if_pos c19] at h
      refine V_ifeq_t (tgt := 26) dX7_isOne_19 (by decide) c19 ?_
      exact V_wk [false, false, true] rfl (T_X7_isOne_26 G hG _ _ _ h)
    · rw [if_neg c19] at h
      refine V_ifeq_f (tgt := 26) dX7_isOne_19 (by decide) c19 ?_
      refine V_iconst (v := 1) dX7_isOne_22 rfl ?_
      refine V_goto (tgt := 27) dX7_isOne_23 (by decide) ?_
      exact V_wk [false, false, true] rfl (T_X7_isOne_27 G hG _ _ _ _ h)
  · rw [if_neg c10] at h
    refine V_ifeq_t (tgt := 26) dX7_isOne_10 (by decide) (b2i_f.mp c10) ?_
    exact V_wk [false, false, true] rfl (T_X7_isOne_26 G hG _ _ _ h)
theorem VM_X7_isOne (G : GX)  (hG : gt G = tbl) (a1 : Int32) (a2 : Int32) (μ : Mem) (r : (Bool × Mem)) (h : D_X7_isOne_0  a1 a2 μ = some r) : VM G mX7_isOne [.ref 85, .int a1, .int a2] μ (.inl (some (.int (b2i r.1)))) (r.2) := V_entry ok_mX7_isOne rfl rfl (Nat.le_of_ble_eq_true rfl) (T_X7_isOne_0 G hG a1 a2 μ r h)
def D_X7_sign_44 (fu : Nat)  (v1 : Int32) (v2 : Int32) (v3 : Int32) (s1 : Int32) (μ : Mem) : Option (Int32 × Mem) :=
  (D_X7_needs_0 s1 2 1 μ).bind fun x9 =>
  if x9.1 = true then
    (D_X7_canSign_0 fu x9.2 v1 v2 v3).bind fun x11 =>
    (D_X7_needs_0 (b2i x11) 3 2 x9.2).bind fun x13 =>
    if x13.1 = true then
      (D_X7_hasRoom_0 3 x13.2).bind fun x15 =>
      if x15.1 = true then
        (D_X7_notes_0 1 v1 v2 v3 0 (-1) x15.2).bind fun x17 =>
        (D_X7_does_0 fu ((x17.1 85 5) - 1) x17).bind fun x19 =>
        (D_X7_signedTenths_0 fu x19 v1).bind fun x21 =>
        some (10 - x21, x19)
      else
        some (0, x15.2)
    else
      some (0, x13.2)
  else
    some (0, x9.2)
set_option maxRecDepth 20000 in
theorem T_X7_sign_44 (G : GX) (fu : Nat)  (hG : gt G = tbl) : ∀ (v1 : Int32) (v2 : Int32) (v3 : Int32) (s1 : Int32) (μ : Mem) (r : (Int32 × Mem)) , D_X7_sign_44 fu v1 v2 v3 s1 μ = some r → V G mX7_sign 44 [some (.ref 85), some (.int v1), some (.int v2), some (.int v3)] [.int s1, .ref 85] μ (.inl (some (.int r.1))) (r.2) := by
  intro v1 v2 v3 s1 μ r h
  unfold D_X7_sign_44 at h
  refine V_iconst (v := 2) dX7_sign_44 rfl ?_
  refine V_iconst (v := 1) dX7_sign_45 rfl ?_
  obtain ⟨x9, y10, h⟩ := bi_o h
  refine V_callV (as := [.int s1, .int 2, .int 1]) (q := 85) (rest := []) dX7_sign_46 ov_mX7_needs lk_RX7_346 (by decide) (by decide) rfl rfl (Nat.le_of_ble_eq_true rfl) (tq_85 hG) rfl (VM_X7_needs G hG s1 2 1 μ _ y10) ?_
  by_cases c49 : x9.1 = true
  · rw [if_pos c49] at h
    refine V_ifeq_f (tgt := 76) dX7_sign_49 (by decide) (b2i_t.mp c49) ?_
    refine V_aload_n dX7_sign_52 rfl ?_
    refine V_aload_n dX7_sign_53 rfl ?_
    refine V_iload_n dX7_sign_54 rfl ?_
    refine V_iload_n dX7_sign_55 rfl ?_
    refine V_iload_n dX7_sign_56 rfl ?_
    obtain ⟨x11, y12, h⟩ := bi_o h
    refine V_callV (as := [.int v1, .int v2, .int v3]) (q := 85) (rest := [.ref 85]) dX7_sign_57 ov_mX7_canSign lk_RX7_296 (by decide) (by decide) rfl rfl (Nat.le_of_ble_eq_true rfl) (tq_85 hG) rfl (VM_X7_canSign G fu x9.2 hG v1 v2 v3 _ y12) ?_
    refine V_iconst (v := 3) dX7_sign_60 rfl ?_
    refine V_iconst (v := 2) dX7_sign_61 rfl ?_
    obtain ⟨x13, y14, h⟩ := bi_o h
    refine V_callV (as := [.int (b2i x11), .int 3, .int 2]) (q := 85) (rest := []) dX7_sign_62 ov_mX7_needs lk_RX7_346 (by decide) (by decide) rfl rfl (Nat.le_of_ble_eq_true rfl) (tq_85 hG) rfl (VM_X7_needs G hG (b2i x11) 3 2 x9.2 _ y14) ?_
    by_cases c65 : x13.1 = true
    · rw [if_pos c65] at h
      refine V_ifeq_f (tgt := 76) dX7_sign_65 (by decide) (b2i_t.mp c65) ?_
      refine V_aload_n dX7_sign_68 rfl ?_
      refine V_iconst (v := 3) dX7_sign_69 rfl ?_
      obtain ⟨x15, y16, h⟩ := bi_o h
      refine V_callV (as := [.int 3]) (q := 85) (rest := []) dX7_sign_70 ov_mX7_hasRoom lk_RX7_365 (by decide) (by decide) rfl rfl (Nat.le_of_ble_eq_true rfl) (tq_85 hG) rfl (VM_X7_hasRoom G hG 3 x13.2 _ y16) ?_
      by_cases c73 : x15.1 = true
      · rw [if_pos c73] at h
        refine V_ifne_t (tgt := 78) dX7_sign_73 (by decide) (b2i_t.mp c73) ?_
        refine V_aload_n dX7_sign_78 rfl ?_
        refine V_iconst (v := 1) dX7_sign_79 rfl ?_
        refine V_iload_n dX7_sign_80 rfl ?_
        refine V_iload_n dX7_sign_81 rfl ?_
        refine V_iload_n dX7_sign_82 rfl ?_
        refine V_iconst (v := 0) dX7_sign_83 rfl ?_
        refine V_iconst (v := (-1)) dX7_sign_84 rfl ?_
        obtain ⟨x17, y18, h⟩ := bi_o h
        refine V_callV (as := [.int 1, .int v1, .int v2, .int v3, .int 0, .int (-1)]) (q := 85) (rest := []) dX7_sign_85 ov_mX7_notes lk_RX7_368 (by decide) (by decide) rfl rfl (Nat.le_of_ble_eq_true rfl) (tq_85 hG) rfl (VM_X7_notes G hG 1 v1 v2 v3 0 (-1) x15.2 _ y18) ?_
        refine V_aload_n dX7_sign_88 rfl ?_
        refine V_aload_n dX7_sign_89 rfl ?_
        refine V_getI (kf := 5) k_X7 (by decide) lk_RX7_17 rfl dX7_sign_90 (tq_85 hG) rfl ?_
        refine V_iconst (v := 1) dX7_sign_93 rfl ?_
        refine V_isub dX7_sign_94 ?_
        obtain ⟨x19, y20, h⟩ := bi_o h
        refine V_callV (as := [.int ((x17.1 85 5) - 1)]) (q := 85) (rest := []) dX7_sign_95 ov_mX7_does lk_RX7_331 (by decide) (by decide) rfl rfl (Nat.le_of_ble_eq_true rfl) (tq_85 hG) rfl (VM_X7_does G fu hG ((x17.1 85 5) - 1) x17 _ y20) ?_
        refine V_bipush (v := 10) dX7_sign_98 rfl ?_
        refine V_aload_n dX7_sign_100 rfl ?_
        refine V_iload_n dX7_sign_101 rfl ?_
        obtain ⟨x21, y22, h⟩ := bi_o h
        refine V_callV (as := [.int v1]) (q := 85) (rest := [.int 10]) dX7_sign_102 ov_mX7_signedTenths lk_RX7_286 (by decide) (by decide) rfl rfl (Nat.le_of_ble_eq_true rfl) (tq_85 hG) rfl (VM_X7_signedTenths G fu x19 hG v1 _ y22) ?_
        refine V_isub dX7_sign_105 ?_
        cases h
        exact V_iret rfl dX7_sign_106
      · rw [if_neg c73] at h
        refine V_ifne_f (tgt := 78) dX7_sign_73 (by decide) (b2i_f.mp c73) ?_
        refine V_iconst (v := 0) dX7_sign_76 rfl ?_
        cases h
        exact V_iret rfl dX7_sign_77
    · rw [if_neg c65] at h
      refine V_ifeq_t (tgt := 76) dX7_sign_65 (by decide) (b2i_f.mp c65) ?_
      refine V_iconst (v := 0) dX7_sign_76 rfl ?_
      cases h
      exact V_iret rfl dX7_sign_77
  · rw [if_neg c49] at h
    refine V_ifeq_t (tgt := 76) dX7_sign_49 (by decide) (b2i_f.mp c49) ?_
    refine V_iconst (v := 0) dX7_sign_76 rfl ?_
    cases h
    exact V_iret rfl dX7_sign_77
def D_X7_sign_43 (fu : Nat)  (v1 : Int32) (v2 : Int32) (v3 : Int32) (μ : Mem) : Option (Int32 × Mem) :=
  D_X7_sign_44 fu v1 v2 v3 0 μ
set_option maxRecDepth 20000 in
theorem T_X7_sign_43 (G : GX) (fu : Nat)  (hG : gt G = tbl) : ∀ (v1 : Int32) (v2 : Int32) (v3 : Int32) (μ : Mem) (r : (Int32 × Mem)) , D_X7_sign_43 fu v1 v2 v3 μ = some r → V G mX7_sign 43 [some (.ref 85), some (.int v1), some (.int v2), some (.int v3)] [.ref 85] μ (.inl (some (.int r.1))) (r.2) := by
  intro v1 v2 v3 μ r h
  unfold D_X7_sign_43 at h
  refine V_iconst (v := 0) dX7_sign_43 rfl ?_
  exact V_wk [true, true, true, true] rfl (T_X7_sign_44 G fu hG _ _ _ _ _ _ h)
def D_X7_sign_0 (fu : Nat)  (a1 : Int32) (a2 : Int32) (a3 : Int32) (μ : Mem) : Option (Int32 × Mem) :=
  vl (wI μ 85 0 0) fun m1 =>
  (D_X7_isOne_0 a1 1 m1).bind fun x3 =>
  if x3.1 = true then
    (D_X7_within_0 x3.2 ((a2 : Int32).toInt64) 0 9).bind fun x5 =>
    if x5 = true then
      (D_X7_within_0 x3.2 ((a3 : Int32).toInt64) 1 10).bind fun x7 =>
      if x7 = true then
        D_X7_sign_44 fu a1 a2 a3 1 x3.2
      else
        D_X7_sign_43 fu a1 a2 a3 x3.2
    else
      D_X7_sign_43 fu a1 a2 a3 x3.2
  else
    some (0, x3.2)
set_option maxRecDepth 20000 in
theorem T_X7_sign_0 (G : GX) (fu : Nat)  (hG : gt G = tbl) : ∀ (a1 : Int32) (a2 : Int32) (a3 : Int32) (μ : Mem) (r : (Int32 × Mem)) , D_X7_sign_0 fu a1 a2 a3 μ = some r → V G mX7_sign 0 [some (.ref 85), some (.int a1), some (.int a2), some (.int a3)] [] μ (.inl (some (.int r.1))) (r.2) := by
  intro a1 a2 a3 μ r h
  unfold D_X7_sign_0 at h
  refine V_aload_n dX7_sign_0 rfl ?_
  refine V_iconst (v := 0) dX7_sign_1 rfl ?_
  obtain ⟨m1, e2, h⟩ := vl_o h
  refine V_putI (kf := 0) k_X7 (by decide) lk_RX7_1 rfl rfl (by decide +kernel) dX7_sign_2 (tq_85 hG) rfl e2.symm ?_
  refine V_aload_n dX7_sign_5 rfl ?_
  refine V_iload_n dX7_sign_6 rfl ?_
  refine V_iconst (v := 1) dX7_sign_7 rfl ?_
  obtain ⟨x3, y4, h⟩ := bi_o h
  refine V_callV (as := [.int a1, .int 1]) (q := 85) (rest := []) dX7_sign_8 ov_mX7_isOne lk_RX7_374 (by decide) (by decide) rfl rfl (Nat.le_of_ble_eq_true rfl) (tq_85 hG) rfl (VM_X7_isOne G hG a1 1 m1 _ y4) ?_
  by_cases c11 : x3.1 = true
  · rw [if_pos c11] at h
    refine V_ifeq_f (tgt := 76) dX7_sign_11 (by decide) (b2i_t.mp c11) ?_
    refine V_aload_n dX7_sign_14 rfl ?_
    refine V_iload_n dX7_sign_15 rfl ?_
    refine V_i2l dX7_sign_16 ?_
    refine V_lconst (v := 0) dX7_sign_17 rfl ?_
    refine V_ldc2 (v := 9) dX7_sign_18 lk_RX7_377 ?_
    obtain ⟨x5, y6, h⟩ := bi_o h
    refine V_callS (as := [.long ((a2 : Int32).toInt64), .long 0, .long 9]) (rest := [.ref 85]) dX7_sign_21 os_mX7_within rfl lk_RX7_352 (by decide) (by decide) rfl rfl (Nat.le_of_ble_eq_true rfl) (VM_X7_within G x3.2 hG ((a2 : Int32).toInt64) 0 9 _ y6) ?_
    by_cases c24 : x5 = true
    · rw [if_pos c24] at h
      refine V_ifeq_f (tgt := 43) dX7_sign_24 (by decide) (b2i_t.mp c24) ?_
      refine V_iload_n dX7_sign_27 rfl ?_
      refine V_i2l dX7_sign_28 ?_
      refine V_lconst (v := 1) dX7_sign_29 rfl ?_
      refine V_ldc2 (v := 10) dX7_sign_30 lk_RX7_252 ?_
      obtain ⟨x7, y8, h⟩ := bi_o h
      refine V_callS (as := [.long ((a3 : Int32).toInt64), .long 1, .long 10]) (rest := [.ref 85]) dX7_sign_33 os_mX7_within rfl lk_RX7_352 (by decide) (by decide) rfl rfl (Nat.le_of_ble_eq_true rfl) (VM_X7_within G x3.2 hG ((a3 : Int32).toInt64) 1 10 _ y8) ?_
      by_cases c36 : x7 = true
      · rw [if_pos c36] at h
        refine V_ifeq_f (tgt := 43) dX7_sign_36 (by decide) (b2i_t.mp c36) ?_
        refine V_iconst (v := 1) dX7_sign_39 rfl ?_
        refine V_goto (tgt := 44) dX7_sign_40 (by decide) ?_
        exact V_wk [true, true, true, true] rfl (T_X7_sign_44 G fu hG _ _ _ _ _ _ h)
      · rw [if_neg c36] at h
        refine V_ifeq_t (tgt := 43) dX7_sign_36 (by decide) (b2i_f.mp c36) ?_
        exact V_wk [true, true, true, true] rfl (T_X7_sign_43 G fu hG _ _ _ _ _ h)
    · rw [if_neg c24] at h
      refine V_ifeq_t (tgt := 43) dX7_sign_24 (by decide) (b2i_f.mp c24) ?_
      exact V_wk [true, true, true, true] rfl (T_X7_sign_43 G fu hG _ _ _ _ _ h)
  · rw [if_neg c11] at h
    refine V_ifeq_t (tgt := 76) dX7_sign_11 (by decide) (b2i_f.mp c11) ?_
    refine V_iconst (v := 0) dX7_sign_76 rfl ?_
    cases h
    exact V_iret rfl dX7_sign_77
theorem VM_X7_sign (G : GX) (fu : Nat)  (hG : gt G = tbl) (a1 : Int32) (a2 : Int32) (a3 : Int32) (μ : Mem) (r : (Int32 × Mem)) (h : D_X7_sign_0 fu a1 a2 a3 μ = some r) : VM G mX7_sign [.ref 85, .int a1, .int a2, .int a3] μ (.inl (some (.int r.1))) (r.2) := V_entry ok_mX7_sign rfl rfl (Nat.le_of_ble_eq_true rfl) (T_X7_sign_0 G fu hG a1 a2 a3 μ r h)
def D_X7_bits_4 (fu : Nat) (μ : Mem)  : Nat → Int32 → Int32 → Option Int32
  | 0, _, _ => none
  | n + 1, v1, v2 =>
    if v2 = 0 then
      some v1
    else
      (D_X7_bits_4 fu μ n) (v1 + 1) (v2 &&& (v2 - 1))
set_option maxRecDepth 20000 in
theorem T_X7_bits_4 (G : GX) (fu : Nat) (μ : Mem)  (hG : gt G = tbl) : ∀ (n : Nat) (v1 : Int32) (v2 : Int32) (r : Int32) , D_X7_bits_4 fu μ n v1 v2 = some r → V G mX7_bits 4 [none, some (.int v1), some (.int v2)] [] μ (.inl (some (.int r))) (μ) := by
  intro n
  induction n with
  | zero =>
    intro v1 v2 r h
    exact nomatch (show (none : Option Int32) = some r from h)
  | succ n ih =>
    intro v1 v2 r h
    rw [D_X7_bits_4] at h
    refine V_iload_n dX7_bits_4 rfl ?_
    by_cases c5 : v2 = 0
    · rw [if_pos c5] at h
      refine V_ifeq_t (tgt := 20) dX7_bits_5 (by decide) c5 ?_
      refine V_iload_n dX7_bits_20 rfl ?_
      cases h
      exact V_iret rfl dX7_bits_21
    · rw [if_neg c5] at h
      refine V_ifeq_f (tgt := 20) dX7_bits_5 (by decide) c5 ?_
      refine V_iinc (v := v1 + 1) (lv2 := [none, some (.int (v1 + 1)), some (.int v2)]) dX7_bits_8 rfl rfl (by decide) rfl ?_
      refine V_iload_n dX7_bits_11 rfl ?_
      refine V_iload_n dX7_bits_12 rfl ?_
      refine V_iconst (v := 1) dX7_bits_13 rfl ?_
      refine V_isub dX7_bits_14 ?_
      refine V_iand dX7_bits_15 ?_
      refine V_istore_n (lv2 := [none, some (.int (v1 + 1)), some (.int (v2 &&& (v2 - 1)))]) dX7_bits_16 (by decide) rfl ?_
      refine V_goto (tgt := 4) dX7_bits_17 (by decide) ?_
      exact V_wk [false, true, true] rfl (ih _ _ _ h)
def D_X7_bits_0 (fu : Nat) (μ : Mem)  (a0 : Int32) : Option Int32 :=
  D_X7_bits_4 fu μ fu 0 a0
set_option maxRecDepth 20000 in
theorem T_X7_bits_0 (G : GX) (fu : Nat) (μ : Mem)  (hG : gt G = tbl) : ∀ (a0 : Int32) (r : Int32) , D_X7_bits_0 fu μ a0 = some r → V G mX7_bits 0 [some (.int a0), none, none] [] μ (.inl (some (.int r))) (μ) := by
  intro a0 r h
  unfold D_X7_bits_0 at h
  refine V_iconst (v := 0) dX7_bits_0 rfl ?_
  refine V_istore_n (lv2 := [some (.int a0), some (.int 0), none]) dX7_bits_1 (by decide) rfl ?_
  refine V_iload_n dX7_bits_2 rfl ?_
  refine V_istore_n (lv2 := [some (.int a0), some (.int 0), some (.int a0)]) dX7_bits_3 (by decide) rfl ?_
  exact V_wk [false, true, true] rfl (T_X7_bits_4 G fu μ hG fu _ _ _ h)
theorem VM_X7_bits (G : GX) (fu : Nat) (μ : Mem)  (hG : gt G = tbl) (a0 : Int32) (r : Int32) (h : D_X7_bits_0 fu μ a0 = some r) : VM G mX7_bits [.int a0] μ (.inl (some (.int r))) (μ) := V_entry ok_mX7_bits rfl rfl (Nat.le_of_ble_eq_true rfl) (T_X7_bits_0 G fu μ hG a0 r h)
def D_X7_lack_45 (fu : Nat)  (v1 : Int32) (s1 : Int32) (μ : Mem) : Option (Int32 × Mem) :=
  (D_X7_needs_0 s1 2 2 μ).bind fun x9 =>
  if x9.1 = true then
    (D_X7_hasRoom_0 2 x9.2).bind fun x11 =>
    if x11.1 = true then
      (D_X7_notes_0 2 v1 0 0 0 (-1) x11.2).bind fun x13 =>
      (D_X7_does_0 fu ((x13.1 85 5) - 1) x13).bind fun x15 =>
      (D_X7_bits_0 fu x15 (x15.1 85 29)).bind fun x17 =>
      some (x17, x15)
    else
      some (0, x11.2)
  else
    some (0, x9.2)
set_option maxRecDepth 20000 in
theorem T_X7_lack_45 (G : GX) (fu : Nat)  (hG : gt G = tbl) : ∀ (v1 : Int32) (s1 : Int32) (μ : Mem) (r : (Int32 × Mem)) , D_X7_lack_45 fu v1 s1 μ = some r → V G mX7_lack 45 [some (.ref 85), some (.int v1)] [.int s1, .ref 85] μ (.inl (some (.int r.1))) (r.2) := by
  intro v1 s1 μ r h
  unfold D_X7_lack_45 at h
  refine V_iconst (v := 2) dX7_lack_45 rfl ?_
  refine V_iconst (v := 2) dX7_lack_46 rfl ?_
  obtain ⟨x9, y10, h⟩ := bi_o h
  refine V_callV (as := [.int s1, .int 2, .int 2]) (q := 85) (rest := []) dX7_lack_47 ov_mX7_needs lk_RX7_346 (by decide) (by decide) rfl rfl (Nat.le_of_ble_eq_true rfl) (tq_85 hG) rfl (VM_X7_needs G hG s1 2 2 μ _ y10) ?_
  by_cases c50 : x9.1 = true
  · rw [if_pos c50] at h
    refine V_ifeq_f (tgt := 61) dX7_lack_50 (by decide) (b2i_t.mp c50) ?_
    refine V_aload_n dX7_lack_53 rfl ?_
    refine V_iconst (v := 2) dX7_lack_54 rfl ?_
    obtain ⟨x11, y12, h⟩ := bi_o h
    refine V_callV (as := [.int 2]) (q := 85) (rest := []) dX7_lack_55 ov_mX7_hasRoom lk_RX7_365 (by decide) (by decide) rfl rfl (Nat.le_of_ble_eq_true rfl) (tq_85 hG) rfl (VM_X7_hasRoom G hG 2 x9.2 _ y12) ?_
    by_cases c58 : x11.1 = true
    · rw [if_pos c58] at h
      refine V_ifne_t (tgt := 63) dX7_lack_58 (by decide) (b2i_t.mp c58) ?_
      refine V_aload_n dX7_lack_63 rfl ?_
      refine V_iconst (v := 2) dX7_lack_64 rfl ?_
      refine V_iload_n dX7_lack_65 rfl ?_
      refine V_iconst (v := 0) dX7_lack_66 rfl ?_
      refine V_iconst (v := 0) dX7_lack_67 rfl ?_
      refine V_iconst (v := 0) dX7_lack_68 rfl ?_
      refine V_iconst (v := (-1)) dX7_lack_69 rfl ?_
      obtain ⟨x13, y14, h⟩ := bi_o h
      refine V_callV (as := [.int 2, .int v1, .int 0, .int 0, .int 0, .int (-1)]) (q := 85) (rest := []) dX7_lack_70 ov_mX7_notes lk_RX7_368 (by decide) (by decide) rfl rfl (Nat.le_of_ble_eq_true rfl) (tq_85 hG) rfl (VM_X7_notes G hG 2 v1 0 0 0 (-1) x11.2 _ y14) ?_
      refine V_aload_n dX7_lack_73 rfl ?_
      refine V_aload_n dX7_lack_74 rfl ?_
      refine V_getI (kf := 5) k_X7 (by decide) lk_RX7_17 rfl dX7_lack_75 (tq_85 hG) rfl ?_
      refine V_iconst (v := 1) dX7_lack_78 rfl ?_
      refine V_isub dX7_lack_79 ?_
      obtain ⟨x15, y16, h⟩ := bi_o h
      refine V_callV (as := [.int ((x13.1 85 5) - 1)]) (q := 85) (rest := []) dX7_lack_80 ov_mX7_does lk_RX7_331 (by decide) (by decide) rfl rfl (Nat.le_of_ble_eq_true rfl) (tq_85 hG) rfl (VM_X7_does G fu hG ((x13.1 85 5) - 1) x13 _ y16) ?_
      refine V_aload_n dX7_lack_83 rfl ?_
      refine V_getI (kf := 29) k_X7 (by decide) lk_RX7_149 rfl dX7_lack_84 (tq_85 hG) rfl ?_
      obtain ⟨x17, y18, h⟩ := bi_o h
      refine V_callS (as := [.int (x15.1 85 29)]) (rest := []) dX7_lack_87 os_mX7_bits rfl lk_RX7_379 (by decide) (by decide) rfl rfl (Nat.le_of_ble_eq_true rfl) (VM_X7_bits G fu x15 hG (x15.1 85 29) _ y18) ?_
      cases h
      exact V_iret rfl dX7_lack_90
    · rw [if_neg c58] at h
      refine V_ifne_f (tgt := 63) dX7_lack_58 (by decide) (b2i_f.mp c58) ?_
      refine V_iconst (v := 0) dX7_lack_61 rfl ?_
      cases h
      exact V_iret rfl dX7_lack_62
  · rw [if_neg c50] at h
    refine V_ifeq_t (tgt := 61) dX7_lack_50 (by decide) (b2i_f.mp c50) ?_
    refine V_iconst (v := 0) dX7_lack_61 rfl ?_
    cases h
    exact V_iret rfl dX7_lack_62
def D_X7_lack_44 (fu : Nat)  (v1 : Int32) (μ : Mem) : Option (Int32 × Mem) :=
  D_X7_lack_45 fu v1 0 μ
set_option maxRecDepth 20000 in
theorem T_X7_lack_44 (G : GX) (fu : Nat)  (hG : gt G = tbl) : ∀ (v1 : Int32) (μ : Mem) (r : (Int32 × Mem)) , D_X7_lack_44 fu v1 μ = some r → V G mX7_lack 44 [some (.ref 85), some (.int v1)] [.ref 85] μ (.inl (some (.int r.1))) (r.2) := by
  intro v1 μ r h
  unfold D_X7_lack_44 at h
  refine V_iconst (v := 0) dX7_lack_44 rfl ?_
  exact V_wk [true, true] rfl (T_X7_lack_45 G fu hG _ _ _ _ h)
def D_X7_lack_0 (fu : Nat)  (a1 : Int32) (μ : Mem) : Option (Int32 × Mem) :=
  vl (wI μ 85 0 0) fun m1 =>
  (D_X7_within_0 m1 ((a1 : Int32).toInt64) 0 11).bind fun x3 =>
  (D_X7_needs_0 (b2i x3) 1 1 m1).bind fun x5 =>
  if x5.1 = true then
    (D_X7_isLacking_0 x5.2 a1).bind fun x7 =>
    if x7 = true then
      D_X7_lack_44 fu a1 x5.2
    else
      (D_X7_isGap_0 x5.2 a1).bind fun x19 =>
      if x19 = true then
        D_X7_lack_45 fu a1 1 x5.2
      else
        D_X7_lack_44 fu a1 x5.2
  else
    some (0, x5.2)
set_option maxRecDepth 20000 in
theorem T_X7_lack_0 (G : GX) (fu : Nat)  (hG : gt G = tbl) : ∀ (a1 : Int32) (μ : Mem) (r : (Int32 × Mem)) , D_X7_lack_0 fu a1 μ = some r → V G mX7_lack 0 [some (.ref 85), some (.int a1)] [] μ (.inl (some (.int r.1))) (r.2) := by
  intro a1 μ r h
  unfold D_X7_lack_0 at h
  refine V_aload_n dX7_lack_0 rfl ?_
  refine V_iconst (v := 0) dX7_lack_1 rfl ?_
  obtain ⟨m1, e2, h⟩ := vl_o h
  refine V_putI (kf := 0) k_X7 (by decide) lk_RX7_1 rfl rfl (by decide +kernel) dX7_lack_2 (tq_85 hG) rfl e2.symm ?_
  refine V_aload_n dX7_lack_5 rfl ?_
  refine V_iload_n dX7_lack_6 rfl ?_
  refine V_i2l dX7_lack_7 ?_
  refine V_lconst (v := 0) dX7_lack_8 rfl ?_
  refine V_ldc2 (v := 11) dX7_lack_9 lk_RX7_350 ?_
  obtain ⟨x3, y4, h⟩ := bi_o h
  refine V_callS (as := [.long ((a1 : Int32).toInt64), .long 0, .long 11]) (rest := [.ref 85]) dX7_lack_12 os_mX7_within rfl lk_RX7_352 (by decide) (by decide) rfl rfl (Nat.le_of_ble_eq_true rfl) (VM_X7_within G m1 hG ((a1 : Int32).toInt64) 0 11 _ y4) ?_
  refine V_iconst (v := 1) dX7_lack_15 rfl ?_
  refine V_iconst (v := 1) dX7_lack_16 rfl ?_
  obtain ⟨x5, y6, h⟩ := bi_o h
  refine V_callV (as := [.int (b2i x3), .int 1, .int 1]) (q := 85) (rest := []) dX7_lack_17 ov_mX7_needs lk_RX7_346 (by decide) (by decide) rfl rfl (Nat.le_of_ble_eq_true rfl) (tq_85 hG) rfl (VM_X7_needs G hG (b2i x3) 1 1 m1 _ y6) ?_
  by_cases c20 : x5.1 = true
  · rw [if_pos c20] at h
    refine V_ifeq_f (tgt := 61) dX7_lack_20 (by decide) (b2i_t.mp c20) ?_
    refine V_aload_n dX7_lack_23 rfl ?_
    refine V_aload_n dX7_lack_24 rfl ?_
    refine V_iload_n dX7_lack_25 rfl ?_
    obtain ⟨x7, y8, h⟩ := bi_o h
    refine V_callV (as := [.int a1]) (q := 85) (rest := [.ref 85]) dX7_lack_26 ov_mX7_isLacking lk_RX7_201 (by decide) (by decide) rfl rfl (Nat.le_of_ble_eq_true rfl) (tq_85 hG) rfl (VM_X7_isLacking G x5.2 hG a1 _ y8) ?_
    by_cases c29 : x7 = true
    · rw [if_pos c29] at h
      refine V_ifne_t (tgt := 44) dX7_lack_29 (by decide) (b2i_t.mp c29) ?_
      exact V_wk [true, true] rfl (T_X7_lack_44 G fu hG _ _ _ h)
    · rw [if_neg c29] at h
      refine V_ifne_f (tgt := 44) dX7_lack_29 (by decide) (b2i_f.mp c29) ?_
      refine V_aload_n dX7_lack_32 rfl ?_
      refine V_iload_n dX7_lack_33 rfl ?_
      obtain ⟨x19, y20, h⟩ := bi_o h
      refine V_callV (as := [.int a1]) (q := 85) (rest := [.ref 85]) dX7_lack_34 ov_mX7_isGap lk_RX7_205 (by decide) (by decide) rfl rfl (Nat.le_of_ble_eq_true rfl) (tq_85 hG) rfl (VM_X7_isGap G x5.2 hG a1 _ y20) ?_
      by_cases c37 : x19 = true
      · rw [if_pos c37] at h
        refine V_ifeq_f (tgt := 44) dX7_lack_37 (by decide) (b2i_t.mp c37) ?_
        refine V_iconst (v := 1) dX7_lack_40 rfl ?_
        refine V_goto (tgt := 45) dX7_lack_41 (by decide) ?_
        exact V_wk [true, true] rfl (T_X7_lack_45 G fu hG _ _ _ _ h)
      · rw [if_neg c37] at h
        refine V_ifeq_t (tgt := 44) dX7_lack_37 (by decide) (b2i_f.mp c37) ?_
        exact V_wk [true, true] rfl (T_X7_lack_44 G fu hG _ _ _ h)
  · rw [if_neg c20] at h
    refine V_ifeq_t (tgt := 61) dX7_lack_20 (by decide) (b2i_f.mp c20) ?_
    refine V_iconst (v := 0) dX7_lack_61 rfl ?_
    cases h
    exact V_iret rfl dX7_lack_62
theorem VM_X7_lack (G : GX) (fu : Nat)  (hG : gt G = tbl) (a1 : Int32) (μ : Mem) (r : (Int32 × Mem)) (h : D_X7_lack_0 fu a1 μ = some r) : VM G mX7_lack [.ref 85, .int a1] μ (.inl (some (.int r.1))) (r.2) := V_entry ok_mX7_lack rfl rfl (Nat.le_of_ble_eq_true rfl) (T_X7_lack_0 G fu hG a1 μ r h)
def D_X7_areRules_0 (μ : Mem)  (a0 : Int32) (a1 : Int32) (a2 : Int32) : Option Bool :=
  (D_X7_within_0 μ ((a0 : Int32).toInt64) 0 3).bind fun x1 =>
  if x1 = true then
    (D_X7_within_0 μ ((a1 : Int32).toInt64) 0 3).bind fun x3 =>
    if x3 = true then
      (D_X7_within_0 μ ((a2 : Int32).toInt64) 0 3).bind fun x5 =>
      if x5 = true then
        some true
      else
        some false
    else
      some false
  else
    some false
set_option maxRecDepth 20000 in
theorem T_X7_areRules_0 (G : GX) (μ : Mem)  (hG : gt G = tbl) : ∀ (a0 : Int32) (a1 : Int32) (a2 : Int32) (r : Bool) , D_X7_areRules_0 μ a0 a1 a2 = some r → V G mX7_areRules 0 [some (.int a0), some (.int a1), some (.int a2)] [] μ (.inl (some (.int (b2i r)))) (μ) := by
  intro a0 a1 a2 r h
  unfold D_X7_areRules_0 at h
  refine V_iload_n dX7_areRules_0 rfl ?_
  refine V_i2l dX7_areRules_1 ?_
  refine V_lconst (v := 0) dX7_areRules_2 rfl ?_
  refine V_ldc2 (v := 3) dX7_areRules_3 lk_RX7_382 ?_
  obtain ⟨x1, y2, h⟩ := bi_o h
  refine V_callS (as := [.long ((a0 : Int32).toInt64), .long 0, .long 3]) (rest := []) dX7_areRules_6 os_mX7_within rfl lk_RX7_352 (by decide) (by decide) rfl rfl (Nat.le_of_ble_eq_true rfl) (VM_X7_within G μ hG ((a0 : Int32).toInt64) 0 3 _ y2) ?_
  by_cases c9 : x1 = true
  · rw [if_pos c9] at h
    refine V_ifeq_f (tgt := 40) dX7_areRules_9 (by decide) (b2i_t.mp c9) ?_
    refine V_iload_n dX7_areRules_12 rfl ?_
    refine V_i2l dX7_areRules_13 ?_
    refine V_lconst (v := 0) dX7_areRules_14 rfl ?_
    refine V_ldc2 (v := 3) dX7_areRules_15 lk_RX7_382 ?_
    obtain ⟨x3, y4, h⟩ := bi_o h
    refine V_callS (as := [.long ((a1 : Int32).toInt64), .long 0, .long 3]) (rest := []) dX7_areRules_18 os_mX7_within rfl lk_RX7_352 (by decide) (by decide) rfl rfl (Nat.le_of_ble_eq_true rfl) (VM_X7_within G μ hG ((a1 : Int32).toInt64) 0 3 _ y4) ?_
    by_cases c21 : x3 = true
    · rw [if_pos c21] at h
      refine V_ifeq_f (tgt := 40) dX7_areRules_21 (by decide) (b2i_t.mp c21) ?_
      refine V_iload_n dX7_areRules_24 rfl ?_
      refine V_i2l dX7_areRules_25 ?_
      refine V_lconst (v := 0) dX7_areRules_26 rfl ?_
      refine V_ldc2 (v := 3) dX7_areRules_27 lk_RX7_382 ?_
      obtain ⟨x5, y6, h⟩ := bi_o h
      refine V_callS (as := [.long ((a2 : Int32).toInt64), .long 0, .long 3]) (rest := []) dX7_areRules_30 os_mX7_within rfl lk_RX7_352 (by decide) (by decide) rfl rfl (Nat.le_of_ble_eq_true rfl) (VM_X7_within G μ hG ((a2 : Int32).toInt64) 0 3 _ y6) ?_
      by_cases c33 : x5 = true
      · rw [if_pos c33] at h
        refine V_ifeq_f (tgt := 40) dX7_areRules_33 (by decide) (b2i_t.mp c33) ?_
        refine V_iconst (v := 1) dX7_areRules_36 rfl ?_
        refine V_goto (tgt := 41) dX7_areRules_37 (by decide) ?_
        cases h
        exact V_zret rfl (by decide) dX7_areRules_41
      · rw [if_neg c33] at h
        refine V_ifeq_t (tgt := 40) dX7_areRules_33 (by decide) (b2i_f.mp c33) ?_
        refine V_iconst (v := 0) dX7_areRules_40 rfl ?_
        cases h
        exact V_zret rfl (by decide) dX7_areRules_41
    · rw [if_neg c21] at h
      refine V_ifeq_t (tgt := 40) dX7_areRules_21 (by decide) (b2i_f.mp c21) ?_
      refine V_iconst (v := 0) dX7_areRules_40 rfl ?_
      cases h
      exact V_zret rfl (by decide) dX7_areRules_41
  · rw [if_neg c9] at h
    refine V_ifeq_t (tgt := 40) dX7_areRules_9 (by decide) (b2i_f.mp c9) ?_
    refine V_iconst (v := 0) dX7_areRules_40 rfl ?_
    cases h
    exact V_zret rfl (by decide) dX7_areRules_41
theorem VM_X7_areRules (G : GX) (μ : Mem)  (hG : gt G = tbl) (a0 : Int32) (a1 : Int32) (a2 : Int32) (r : Bool) (h : D_X7_areRules_0 μ a0 a1 a2 = some r) : VM G mX7_areRules [.int a0, .int a1, .int a2] μ (.inl (some (.int (b2i r)))) (μ) := V_entry ok_mX7_areRules rfl rfl (Nat.le_of_ble_eq_true rfl) (T_X7_areRules_0 G μ hG a0 a1 a2 r h)
def D_X7_rules_46 (fu : Nat)  (v1 : Int32) (v2 : Int32) (v3 : Int32) (μ : Mem) : Option (Int32 × Mem) :=
  (D_X7_hasRoom_0 2 μ).bind fun x7 =>
  if x7.1 = true then
    (D_X7_notes_0 3 v1 v2 v3 0 (-1) x7.2).bind fun x9 =>
    (D_X7_does_0 fu ((x9.1 85 5) - 1) x9).bind fun x11 =>
    some (1, x11)
  else
    some (0, x7.2)
set_option maxRecDepth 20000 in
theorem T_X7_rules_46 (G : GX) (fu : Nat)  (hG : gt G = tbl) : ∀ (v1 : Int32) (v2 : Int32) (v3 : Int32) (μ : Mem) (r : (Int32 × Mem)) , D_X7_rules_46 fu v1 v2 v3 μ = some r → V G mX7_rules 46 [some (.ref 85), some (.int v1), some (.int v2), some (.int v3)] [] μ (.inl (some (.int r.1))) (r.2) := by
  intro v1 v2 v3 μ r h
  unfold D_X7_rules_46 at h
  refine V_aload_n dX7_rules_46 rfl ?_
  refine V_iconst (v := 2) dX7_rules_47 rfl ?_
  obtain ⟨x7, y8, h⟩ := bi_o h
  refine V_callV (as := [.int 2]) (q := 85) (rest := []) dX7_rules_48 ov_mX7_hasRoom lk_RX7_365 (by decide) (by decide) rfl rfl (Nat.le_of_ble_eq_true rfl) (tq_85 hG) rfl (VM_X7_hasRoom G hG 2 μ _ y8) ?_
  by_cases c51 : x7.1 = true
  · rw [if_pos c51] at h
    refine V_ifne_t (tgt := 56) dX7_rules_51 (by decide) (b2i_t.mp c51) ?_
    refine V_aload_n dX7_rules_56 rfl ?_
    refine V_iconst (v := 3) dX7_rules_57 rfl ?_
    refine V_iload_n dX7_rules_58 rfl ?_
    refine V_iload_n dX7_rules_59 rfl ?_
    refine V_iload_n dX7_rules_60 rfl ?_
    refine V_iconst (v := 0) dX7_rules_61 rfl ?_
    refine V_iconst (v := (-1)) dX7_rules_62 rfl ?_
    obtain ⟨x9, y10, h⟩ := bi_o h
    refine V_callV (as := [.int 3, .int v1, .int v2, .int v3, .int 0, .int (-1)]) (q := 85) (rest := []) dX7_rules_63 ov_mX7_notes lk_RX7_368 (by decide) (by decide) rfl rfl (Nat.le_of_ble_eq_true rfl) (tq_85 hG) rfl (VM_X7_notes G hG 3 v1 v2 v3 0 (-1) x7.2 _ y10) ?_
    refine V_aload_n dX7_rules_66 rfl ?_
    refine V_aload_n dX7_rules_67 rfl ?_
    refine V_getI (kf := 5) k_X7 (by decide) lk_RX7_17 rfl dX7_rules_68 (tq_85 hG) rfl ?_
    refine V_iconst (v := 1) dX7_rules_71 rfl ?_
    refine V_isub dX7_rules_72 ?_
    obtain ⟨x11, y12, h⟩ := bi_o h
    refine V_callV (as := [.int ((x9.1 85 5) - 1)]) (q := 85) (rest := []) dX7_rules_73 ov_mX7_does lk_RX7_331 (by decide) (by decide) rfl rfl (Nat.le_of_ble_eq_true rfl) (tq_85 hG) rfl (VM_X7_does G fu hG ((x9.1 85 5) - 1) x9 _ y12) ?_
    refine V_iconst (v := 1) dX7_rules_76 rfl ?_
    cases h
    exact V_iret rfl dX7_rules_77
  · rw [if_neg c51] at h
    refine V_ifne_f (tgt := 56) dX7_rules_51 (by decide) (b2i_f.mp c51) ?_
    refine V_iconst (v := 0) dX7_rules_54 rfl ?_
    cases h
    exact V_iret rfl dX7_rules_55
def D_X7_rules_0 (fu : Nat)  (a1 : Int32) (a2 : Int32) (a3 : Int32) (μ : Mem) : Option (Int32 × Mem) :=
  vl (wI μ 85 0 0) fun m1 =>
  (D_X7_areRules_0 m1 a1 a2 a3).bind fun x3 =>
  (D_X7_needs_0 (b2i x3) 1 1 m1).bind fun x5 =>
  if x5.1 = true then
    if a1 = (x5.2.1 85 30) then
      if a2 = (x5.2.1 85 31) then
        if a3 = (x5.2.1 85 32) then
          some (0, x5.2)
        else
          D_X7_rules_46 fu a1 a2 a3 x5.2
      else
        D_X7_rules_46 fu a1 a2 a3 x5.2
    else
      D_X7_rules_46 fu a1 a2 a3 x5.2
  else
    some (0, x5.2)
set_option maxRecDepth 20000 in
theorem T_X7_rules_0 (G : GX) (fu : Nat)  (hG : gt G = tbl) : ∀ (a1 : Int32) (a2 : Int32) (a3 : Int32) (μ : Mem) (r : (Int32 × Mem)) , D_X7_rules_0 fu a1 a2 a3 μ = some r → V G mX7_rules 0 [some (.ref 85), some (.int a1), some (.int a2), some (.int a3)] [] μ (.inl (some (.int r.1))) (r.2) := by
  intro a1 a2 a3 μ r h
  unfold D_X7_rules_0 at h
  refine V_aload_n dX7_rules_0 rfl ?_
  refine V_iconst (v := 0) dX7_rules_1 rfl ?_
  obtain ⟨m1, e2, h⟩ := vl_o h
  refine V_putI (kf := 0) k_X7 (by decide) lk_RX7_1 rfl rfl (by decide +kernel) dX7_rules_2 (tq_85 hG) rfl e2.symm ?_
  refine V_aload_n dX7_rules_5 rfl ?_
  refine V_iload_n dX7_rules_6 rfl ?_
  refine V_iload_n dX7_rules_7 rfl ?_
  refine V_iload_n dX7_rules_8 rfl ?_
  obtain ⟨x3, y4, h⟩ := bi_o h
  refine V_callS (as := [.int a1, .int a2, .int a3]) (rest := [.ref 85]) dX7_rules_9 os_mX7_areRules rfl lk_RX7_384 (by decide) (by decide) rfl rfl (Nat.le_of_ble_eq_true rfl) (VM_X7_areRules G m1 hG a1 a2 a3 _ y4) ?_
  refine V_iconst (v := 1) dX7_rules_12 rfl ?_
  refine V_iconst (v := 1) dX7_rules_13 rfl ?_
  obtain ⟨x5, y6, h⟩ := bi_o h
  refine V_callV (as := [.int (b2i x3), .int 1, .int 1]) (q := 85) (rest := []) dX7_rules_14 ov_mX7_needs lk_RX7_346 (by decide) (by decide) rfl rfl (Nat.le_of_ble_eq_true rfl) (tq_85 hG) rfl (VM_X7_needs G hG (b2i x3) 1 1 m1 _ y6) ?_
  by_cases c17 : x5.1 = true
  · rw [if_pos c17] at h
    refine V_ifne_t (tgt := 22) dX7_rules_17 (by decide) (b2i_t.mp c17) ?_
    refine V_iload_n dX7_rules_22 rfl ?_
    refine V_aload_n dX7_rules_23 rfl ?_
    refine V_getI (kf := 30) k_X7 (by decide) lk_RX7_152 rfl dX7_rules_24 (tq_85 hG) rfl ?_
    by_cases c27 : a1 = (x5.2.1 85 30)
    · rw [if_pos c27] at h
      refine V_icmpne_f (tgt := 46) dX7_rules_27 (by decide) c27 ?_
      refine V_iload_n dX7_rules_30 rfl ?_
      refine V_aload_n dX7_rules_31 rfl ?_
      refine V_getI (kf := 31) k_X7 (by decide) lk_RX7_155 rfl dX7_rules_32 (tq_85 hG) rfl ?_
      by_cases c35 : a2 = (x5.2.1 85 31)
      · rw [if_pos c35] at h
        refine V_icmpne_f (tgt := 46) dX7_rules_35 (by decide) c35 ?_
        refine V_iload_n dX7_rules_38 rfl ?_
        refine V_aload_n dX7_rules_39 rfl ?_
        refine V_getI (kf := 32) k_X7 (by decide) lk_RX7_158 rfl dX7_rules_40 (tq_85 hG) rfl ?_
        by_cases c43 : a3 = (x5.2.1 85 32)
        · rw [if_pos c43] at h
          refine V_icmpeq_t (tgt := 54) dX7_rules_43 (by decide) c43 ?_
          refine V_iconst (v := 0) dX7_rules_54 rfl ?_
          cases h
          exact V_iret rfl dX7_rules_55
        · rw [if_neg c43] at h
          refine V_icmpeq_f (tgt := 54) dX7_rules_43 (by decide) c43 ?_
          exact V_wk [true, true, true, true] rfl (T_X7_rules_46 G fu hG _ _ _ _ _ h)
      · rw [if_neg c35] at h
        refine V_icmpne_t (tgt := 46) dX7_rules_35 (by decide) c35 ?_
        exact V_wk [true, true, true, true] rfl (T_X7_rules_46 G fu hG _ _ _ _ _ h)
    · rw [if_neg c27] at h
      refine V_icmpne_t (tgt := 46) dX7_rules_27 (by decide) c27 ?_
      exact V_wk [true, true, true, true] rfl (T_X7_rules_46 G fu hG _ _ _ _ _ h)
  · rw [if_neg c17] at h
    refine V_ifne_f (tgt := 22) dX7_rules_17 (by decide) (b2i_f.mp c17) ?_
    refine V_iconst (v := 0) dX7_rules_20 rfl ?_
    cases h
    exact V_iret rfl dX7_rules_21
theorem VM_X7_rules (G : GX) (fu : Nat)  (hG : gt G = tbl) (a1 : Int32) (a2 : Int32) (a3 : Int32) (μ : Mem) (r : (Int32 × Mem)) (h : D_X7_rules_0 fu a1 a2 a3 μ = some r) : VM G mX7_rules [.ref 85, .int a1, .int a2, .int a3] μ (.inl (some (.int r.1))) (r.2) := V_entry ok_mX7_rules rfl rfl (Nat.le_of_ble_eq_true rfl) (T_X7_rules_0 G fu hG a1 a2 a3 μ r h)
def D_X7_areYears_0 (μ : Mem)  (a0 : Int32) (a1 : Int32) (a2 : Int32) : Option Bool :=
  if a0 < 0 then
    some false
  else
    if a1 < a0 then
      some false
    else
      if a2 < a1 then
        some false
      else
        if (12 : Int32) ≤ a2 then
          some false
        else
          some true
set_option maxRecDepth 20000 in
theorem T_X7_areYears_0 (G : GX) (μ : Mem)  (hG : gt G = tbl) : ∀ (a0 : Int32) (a1 : Int32) (a2 : Int32) (r : Bool) , D_X7_areYears_0 μ a0 a1 a2 = some r → V G mX7_areYears 0 [some (.int a0), some (.int a1), some (.int a2)] [] μ (.inl (some (.int (b2i r)))) (μ) := by
  intro a0 a1 a2 r h
  unfold D_X7_areYears_0 at h
  refine V_iload_n dX7_areYears_0 rfl ?_
  by_cases c1 : a0 < 0
  · rw [if_pos c1] at h
    refine V_iflt_t (tgt := 24) dX7_areYears_1 (by decide) c1 ?_
    refine V_iconst (v := 0) dX7_areYears_24 rfl ?_
    cases h
    exact V_zret rfl (by decide) dX7_areYears_25
  · rw [if_neg c1] at h
    refine V_iflt_f (tgt := 24) dX7_areYears_1 (by decide) c1 ?_
    refine V_iload_n dX7_areYears_4 rfl ?_
    refine V_iload_n dX7_areYears_5 rfl ?_
    by_cases c6 : a1 < a0
    · rw [if_pos c6] at h
      refine V_icmpgt_t (tgt := 24) dX7_areYears_6 (by decide) c6 ?_
      refine V_iconst (v := 0) dX7_areYears_24 rfl ?_
      cases h
      exact V_zret rfl (by decide) dX7_areYears_25
    · rw [if_neg c6] at h
      refine V_icmpgt_f (tgt := 24) dX7_areYears_6 (by decide) c6 ?_
      refine V_iload_n dX7_areYears_9 rfl ?_
      refine V_iload_n dX7_areYears_10 rfl ?_
      by_cases c11 : a2 < a1
      · rw [if_pos c11] at h
        refine V_icmpgt_t (tgt := 24) dX7_areYears_11 (by decide) c11 ?_
        refine V_iconst (v := 0) dX7_areYears_24 rfl ?_
        cases h
        exact V_zret rfl (by decide) dX7_areYears_25
      · rw [if_neg c11] at h
        refine V_icmpgt_f (tgt := 24) dX7_areYears_11 (by decide) c11 ?_
        refine V_iload_n dX7_areYears_14 rfl ?_
        refine V_bipush (v := 12) dX7_areYears_15 rfl ?_
        by_cases c17 : (12 : Int32) ≤ a2
        · rw [if_pos c17] at h
          refine V_icmpge_t (tgt := 24) dX7_areYears_17 (by decide) c17 ?_
          refine V_iconst (v := 0) dX7_areYears_24 rfl ?_
          cases h
          exact V_zret rfl (by decide) dX7_areYears_25
        · rw [if_neg c17] at h
          refine V_icmpge_f (tgt := 24) dX7_areYears_17 (by decide) c17 ?_
          refine V_iconst (v := 1) dX7_areYears_20 rfl ?_
          refine V_goto (tgt := 25) dX7_areYears_21 (by decide) ?_
          cases h
          exact V_zret rfl (by decide) dX7_areYears_25
theorem VM_X7_areYears (G : GX) (μ : Mem)  (hG : gt G = tbl) (a0 : Int32) (a1 : Int32) (a2 : Int32) (r : Bool) (h : D_X7_areYears_0 μ a0 a1 a2 = some r) : VM G mX7_areYears [.int a0, .int a1, .int a2] μ (.inl (some (.int (b2i r)))) (μ) := V_entry ok_mX7_areYears rfl rfl (Nat.le_of_ble_eq_true rfl) (T_X7_areYears_0 G μ hG a0 a1 a2 r h)
def D_X7_isLoss_0 (μ : Mem)  (a0 : Int32) : Option Bool :=
  (D_X7_within_0 μ ((a0 : Int32).toInt64) 1 1000000000).bind fun x1 =>
  some x1
set_option maxRecDepth 20000 in
theorem T_X7_isLoss_0 (G : GX) (μ : Mem)  (hG : gt G = tbl) : ∀ (a0 : Int32) (r : Bool) , D_X7_isLoss_0 μ a0 = some r → V G mX7_isLoss 0 [some (.int a0)] [] μ (.inl (some (.int (b2i r)))) (μ) := by
  intro a0 r h
  unfold D_X7_isLoss_0 at h
  refine V_iload_n dX7_isLoss_0 rfl ?_
  refine V_i2l dX7_isLoss_1 ?_
  refine V_lconst (v := 1) dX7_isLoss_2 rfl ?_
  refine V_ldc2 (v := 1000000000) dX7_isLoss_3 lk_RX7_387 ?_
  obtain ⟨x1, y2, h⟩ := bi_o h
  refine V_callS (as := [.long ((a0 : Int32).toInt64), .long 1, .long 1000000000]) (rest := []) dX7_isLoss_6 os_mX7_within rfl lk_RX7_352 (by decide) (by decide) rfl rfl (Nat.le_of_ble_eq_true rfl) (VM_X7_within G μ hG ((a0 : Int32).toInt64) 1 1000000000 _ y2) ?_
  cases h
  exact V_zret rfl (b2i_nar _) dX7_isLoss_9
theorem VM_X7_isLoss (G : GX) (μ : Mem)  (hG : gt G = tbl) (a0 : Int32) (r : Bool) (h : D_X7_isLoss_0 μ a0 = some r) : VM G mX7_isLoss [.int a0] μ (.inl (some (.int (b2i r)))) (μ) := V_entry ok_mX7_isLoss rfl rfl (Nat.le_of_ble_eq_true rfl) (T_X7_isLoss_0 G μ hG a0 r h)
def D_X7_harm_52 (fu : Nat)  (v1 : Int32) (v2 : Int32) (v3 : Int32) (v4 : Int32) (s1 : Int32) (μ : Mem) : Option (Int32 × Mem) :=
  (D_X7_needs_0 s1 2 2 μ).bind fun x11 =>
  if x11.1 = true then
    (D_X7_hasRoom_0 2 x11.2).bind fun x13 =>
    if x13.1 = true then
      (D_X7_eventsOf_0 fu x13.2 4).bind fun x15 =>
      (D_X7_notes_0 4 v1 v2 v3 v4 x15 x13.2).bind fun x17 =>
      (D_X7_does_0 fu ((x17.1 85 5) - 1) x17).bind fun x19 =>
      some (x15, x19)
    else
      some (0, x13.2)
  else
    some (0, x11.2)
set_option maxRecDepth 20000 in
theorem T_X7_harm_52 (G : GX) (fu : Nat)  (hG : gt G = tbl) : ∀ (v1 : Int32) (v2 : Int32) (v3 : Int32) (v4 : Int32) (s1 : Int32) (μ : Mem) (r : (Int32 × Mem)) , D_X7_harm_52 fu v1 v2 v3 v4 s1 μ = some r → V G mX7_harm 52 [some (.ref 85), some (.int v1), some (.int v2), some (.int v3), some (.int v4), none] [.int s1, .ref 85] μ (.inl (some (.int r.1))) (r.2) := by
  intro v1 v2 v3 v4 s1 μ r h
  unfold D_X7_harm_52 at h
  refine V_iconst (v := 2) dX7_harm_52 rfl ?_
  refine V_iconst (v := 2) dX7_harm_53 rfl ?_
  obtain ⟨x11, y12, h⟩ := bi_o h
  refine V_callV (as := [.int s1, .int 2, .int 2]) (q := 85) (rest := []) dX7_harm_54 ov_mX7_needs lk_RX7_346 (by decide) (by decide) rfl rfl (Nat.le_of_ble_eq_true rfl) (tq_85 hG) rfl (VM_X7_needs G hG s1 2 2 μ _ y12) ?_
  by_cases c57 : x11.1 = true
  · rw [if_pos c57] at h
    refine V_ifeq_f (tgt := 68) dX7_harm_57 (by decide) (b2i_t.mp c57) ?_
    refine V_aload_n dX7_harm_60 rfl ?_
    refine V_iconst (v := 2) dX7_harm_61 rfl ?_
    obtain ⟨x13, y14, h⟩ := bi_o h
    refine V_callV (as := [.int 2]) (q := 85) (rest := []) dX7_harm_62 ov_mX7_hasRoom lk_RX7_365 (by decide) (by decide) rfl rfl (Nat.le_of_ble_eq_true rfl) (tq_85 hG) rfl (VM_X7_hasRoom G hG 2 x11.2 _ y14) ?_
    by_cases c65 : x13.1 = true
    · rw [if_pos c65] at h
      refine V_ifne_t (tgt := 70) dX7_harm_65 (by decide) (b2i_t.mp c65) ?_
      refine V_aload_n dX7_harm_70 rfl ?_
      refine V_iconst (v := 4) dX7_harm_71 rfl ?_
      obtain ⟨x15, y16, h⟩ := bi_o h
      refine V_callV (as := [.int 4]) (q := 85) (rest := []) dX7_harm_72 ov_mX7_eventsOf lk_RX7_362 (by decide) (by decide) rfl rfl (Nat.le_of_ble_eq_true rfl) (tq_85 hG) rfl (VM_X7_eventsOf G fu x13.2 hG 4 _ y16) ?_
      refine V_istore (lv2 := [some (.ref 85), some (.int v1), some (.int v2), some (.int v3), some (.int v4), some (.int x15)]) dX7_harm_75 (by decide) rfl ?_
      refine V_aload_n dX7_harm_77 rfl ?_
      refine V_iconst (v := 4) dX7_harm_78 rfl ?_
      refine V_iload_n dX7_harm_79 rfl ?_
      refine V_iload_n dX7_harm_80 rfl ?_
      refine V_iload_n dX7_harm_81 rfl ?_
      refine V_iload dX7_harm_82 rfl ?_
      refine V_iload dX7_harm_84 rfl ?_
      obtain ⟨x17, y18, h⟩ := bi_o h
      refine V_callV (as := [.int 4, .int v1, .int v2, .int v3, .int v4, .int x15]) (q := 85) (rest := []) dX7_harm_86 ov_mX7_notes lk_RX7_368 (by decide) (by decide) rfl rfl (Nat.le_of_ble_eq_true rfl) (tq_85 hG) rfl (VM_X7_notes G hG 4 v1 v2 v3 v4 x15 x13.2 _ y18) ?_
      refine V_aload_n dX7_harm_89 rfl ?_
      refine V_aload_n dX7_harm_90 rfl ?_
      refine V_getI (kf := 5) k_X7 (by decide) lk_RX7_17 rfl dX7_harm_91 (tq_85 hG) rfl ?_
      refine V_iconst (v := 1) dX7_harm_94 rfl ?_
      refine V_isub dX7_harm_95 ?_
      obtain ⟨x19, y20, h⟩ := bi_o h
      refine V_callV (as := [.int ((x17.1 85 5) - 1)]) (q := 85) (rest := []) dX7_harm_96 ov_mX7_does lk_RX7_331 (by decide) (by decide) rfl rfl (Nat.le_of_ble_eq_true rfl) (tq_85 hG) rfl (VM_X7_does G fu hG ((x17.1 85 5) - 1) x17 _ y20) ?_
      refine V_iload dX7_harm_99 rfl ?_
      cases h
      exact V_iret rfl dX7_harm_101
    · rw [if_neg c65] at h
      refine V_ifne_f (tgt := 70) dX7_harm_65 (by decide) (b2i_f.mp c65) ?_
      refine V_iconst (v := 0) dX7_harm_68 rfl ?_
      cases h
      exact V_iret rfl dX7_harm_69
  · rw [if_neg c57] at h
    refine V_ifeq_t (tgt := 68) dX7_harm_57 (by decide) (b2i_f.mp c57) ?_
    refine V_iconst (v := 0) dX7_harm_68 rfl ?_
    cases h
    exact V_iret rfl dX7_harm_69
def D_X7_harm_28 (fu : Nat)  (v1 : Int32) (v2 : Int32) (v3 : Int32) (v4 : Int32) (s1 : Int32) (μ : Mem) : Option (Int32 × Mem) :=
  (D_X7_needs_0 s1 1 1 μ).bind fun x7 =>
  if x7.1 = true then
    (D_X7_eventsOf_0 fu x7.2 4).bind fun x9 =>
    if (24 : Int32) ≤ x9 then
      D_X7_harm_52 fu v1 v2 v3 v4 0 x7.2
    else
      D_X7_harm_52 fu v1 v2 v3 v4 1 x7.2
  else
    some (0, x7.2)
set_option maxRecDepth 20000 in
theorem T_X7_harm_28 (G : GX) (fu : Nat)  (hG : gt G = tbl) : ∀ (v1 : Int32) (v2 : Int32) (v3 : Int32) (v4 : Int32) (s1 : Int32) (μ : Mem) (r : (Int32 × Mem)) , D_X7_harm_28 fu v1 v2 v3 v4 s1 μ = some r → V G mX7_harm 28 [some (.ref 85), some (.int v1), some (.int v2), some (.int v3), some (.int v4), none] [.int s1, .ref 85] μ (.inl (some (.int r.1))) (r.2) := by
  intro v1 v2 v3 v4 s1 μ r h
  unfold D_X7_harm_28 at h
  refine V_iconst (v := 1) dX7_harm_28 rfl ?_
  refine V_iconst (v := 1) dX7_harm_29 rfl ?_
  obtain ⟨x7, y8, h⟩ := bi_o h
  refine V_callV (as := [.int s1, .int 1, .int 1]) (q := 85) (rest := []) dX7_harm_30 ov_mX7_needs lk_RX7_346 (by decide) (by decide) rfl rfl (Nat.le_of_ble_eq_true rfl) (tq_85 hG) rfl (VM_X7_needs G hG s1 1 1 μ _ y8) ?_
  by_cases c33 : x7.1 = true
  · rw [if_pos c33] at h
    refine V_ifeq_f (tgt := 68) dX7_harm_33 (by decide) (b2i_t.mp c33) ?_
    refine V_aload_n dX7_harm_36 rfl ?_
    refine V_aload_n dX7_harm_37 rfl ?_
    refine V_iconst (v := 4) dX7_harm_38 rfl ?_
    obtain ⟨x9, y10, h⟩ := bi_o h
    refine V_callV (as := [.int 4]) (q := 85) (rest := [.ref 85]) dX7_harm_39 ov_mX7_eventsOf lk_RX7_362 (by decide) (by decide) rfl rfl (Nat.le_of_ble_eq_true rfl) (tq_85 hG) rfl (VM_X7_eventsOf G fu x7.2 hG 4 _ y10) ?_
    refine V_bipush (v := 24) dX7_harm_42 rfl ?_
    by_cases c44 : (24 : Int32) ≤ x9
    · rw [if_pos c44] at h
      refine V_icmpge_t (tgt := 51) dX7_harm_44 (by decide) c44 ?_
      refine V_iconst (v := 0) dX7_harm_51 rfl ?_
      exact V_wk [true, true, true, true, true, false] rfl (T_X7_harm_52 G fu hG _ _ _ _ _ _ _ h)
    · rw [if_neg c44] at h
      refine V_icmpge_f (tgt := 51) dX7_harm_44 (by decide) c44 ?_
      refine V_iconst (v := 1) dX7_harm_47 rfl ?_
      refine V_goto (tgt := 52) dX7_harm_48 (by decide) ?_
      exact V_wk [true, true, true, true, true, false] rfl (T_X7_harm_52 G fu hG _ _ _ _ _ _ _ h)
  · rw [if_neg c33] at h
    refine V_ifeq_t (tgt := 68) dX7_harm_33 (by decide) (b2i_f.mp c33) ?_
    refine V_iconst (v := 0) dX7_harm_68 rfl ?_
    cases h
    exact V_iret rfl dX7_harm_69
def D_X7_harm_27 (fu : Nat)  (v1 : Int32) (v2 : Int32) (v3 : Int32) (v4 : Int32) (μ : Mem) : Option (Int32 × Mem) :=
  D_X7_harm_28 fu v1 v2 v3 v4 0 μ
set_option maxRecDepth 20000 in
theorem T_X7_harm_27 (G : GX) (fu : Nat)  (hG : gt G = tbl) : ∀ (v1 : Int32) (v2 : Int32) (v3 : Int32) (v4 : Int32) (μ : Mem) (r : (Int32 × Mem)) , D_X7_harm_27 fu v1 v2 v3 v4 μ = some r → V G mX7_harm 27 [some (.ref 85), some (.int v1), some (.int v2), some (.int v3), some (.int v4), none] [.ref 85] μ (.inl (some (.int r.1))) (r.2) := by
  intro v1 v2 v3 v4 μ r h
  unfold D_X7_harm_27 at h
  refine V_iconst (v := 0) dX7_harm_27 rfl ?_
  exact V_wk [true, true, true, true, true, false] rfl (T_X7_harm_28 G fu hG _ _ _ _ _ _ _ h)
def D_X7_harm_0 (fu : Nat)  (a1 : Int32) (a2 : Int32) (a3 : Int32) (a4 : Int32) (μ : Mem) : Option (Int32 × Mem) :=
  vl (wI μ 85 0 0) fun m1 =>
  (D_X7_areYears_0 m1 a1 a2 a3).bind fun x3 =>
  if x3 = true then
    (D_X7_isLoss_0 m1 a4).bind fun x5 =>
    if x5 = true then
      D_X7_harm_28 fu a1 a2 a3 a4 1 m1
    else
      D_X7_harm_27 fu a1 a2 a3 a4 m1
  else
    D_X7_harm_27 fu a1 a2 a3 a4 m1
set_option maxRecDepth 20000 in
theorem T_X7_harm_0 (G : GX) (fu : Nat)  (hG : gt G = tbl) : ∀ (a1 : Int32) (a2 : Int32) (a3 : Int32) (a4 : Int32) (μ : Mem) (r : (Int32 × Mem)) , D_X7_harm_0 fu a1 a2 a3 a4 μ = some r → V G mX7_harm 0 [some (.ref 85), some (.int a1), some (.int a2), some (.int a3), some (.int a4), none] [] μ (.inl (some (.int r.1))) (r.2) := by
  intro a1 a2 a3 a4 μ r h
  unfold D_X7_harm_0 at h
  refine V_aload_n dX7_harm_0 rfl ?_
  refine V_iconst (v := 0) dX7_harm_1 rfl ?_
  obtain ⟨m1, e2, h⟩ := vl_o h
  refine V_putI (kf := 0) k_X7 (by decide) lk_RX7_1 rfl rfl (by decide +kernel) dX7_harm_2 (tq_85 hG) rfl e2.symm ?_
  refine V_aload_n dX7_harm_5 rfl ?_
  refine V_iload_n dX7_harm_6 rfl ?_
  refine V_iload_n dX7_harm_7 rfl ?_
  refine V_iload_n dX7_harm_8 rfl ?_
  obtain ⟨x3, y4, h⟩ := bi_o h
  refine V_callS (as := [.int a1, .int a2, .int a3]) (rest := [.ref 85]) dX7_harm_9 os_mX7_areYears rfl lk_RX7_389 (by decide) (by decide) rfl rfl (Nat.le_of_ble_eq_true rfl) (VM_X7_areYears G m1 hG a1 a2 a3 _ y4) ?_
  by_cases c12 : x3 = true
  · rw [if_pos c12] at h
    refine V_ifeq_f (tgt := 27) dX7_harm_12 (by decide) (b2i_t.mp c12) ?_
    refine V_iload dX7_harm_15 rfl ?_
    obtain ⟨x5, y6, h⟩ := bi_o h
    refine V_callS (as := [.int a4]) (rest := [.ref 85]) dX7_harm_17 os_mX7_isLoss rfl lk_RX7_392 (by decide) (by decide) rfl rfl (Nat.le_of_ble_eq_true rfl) (VM_X7_isLoss G m1 hG a4 _ y6) ?_
    by_cases c20 : x5 = true
    · rw [if_pos c20] at h
      refine V_ifeq_f (tgt := 27) dX7_harm_20 (by decide) (b2i_t.mp c20) ?_
      refine V_iconst (v := 1) dX7_harm_23 rfl ?_
      refine V_goto (tgt := 28) dX7_harm_24 (by decide) ?_
      exact V_wk [true, true, true, true, true, false] rfl (T_X7_harm_28 G fu hG _ _ _ _ _ _ _ h)
    · rw [if_neg c20] at h
      refine V_ifeq_t (tgt := 27) dX7_harm_20 (by decide) (b2i_f.mp c20) ?_
      exact V_wk [true, true, true, true, true, false] rfl (T_X7_harm_27 G fu hG _ _ _ _ _ _ h)
  · rw [if_neg c12] at h
    refine V_ifeq_t (tgt := 27) dX7_harm_12 (by decide) (b2i_f.mp c12) ?_
    exact V_wk [true, true, true, true, true, false] rfl (T_X7_harm_27 G fu hG _ _ _ _ _ _ h)
theorem VM_X7_harm (G : GX) (fu : Nat)  (hG : gt G = tbl) (a1 : Int32) (a2 : Int32) (a3 : Int32) (a4 : Int32) (μ : Mem) (r : (Int32 × Mem)) (h : D_X7_harm_0 fu a1 a2 a3 a4 μ = some r) : VM G mX7_harm [.ref 85, .int a1, .int a2, .int a3, .int a4] μ (.inl (some (.int r.1))) (r.2) := V_entry ok_mX7_harm rfl rfl (Nat.le_of_ble_eq_true rfl) (T_X7_harm_0 G fu hG a1 a2 a3 a4 μ r h)
def D_X7_isHarmOne_27  (s1 : Int32) (μ : Mem) : Option (Bool × Mem) :=
  (D_X7_needs_0 s1 1 0 μ).bind fun x4 =>
  some (x4.1, x4.2)
set_option maxRecDepth 20000 in
theorem T_X7_isHarmOne_27 (G : GX)  (hG : gt G = tbl) : ∀ (s1 : Int32) (μ : Mem) (r : (Bool × Mem)) , D_X7_isHarmOne_27  s1 μ = some r → V G mX7_isHarmOne 27 [none, none] [.int s1, .ref 85] μ (.inl (some (.int (b2i r.1)))) (r.2) := by
  intro s1 μ r h
  unfold D_X7_isHarmOne_27 at h
  refine V_iconst (v := 1) dX7_isHarmOne_27 rfl ?_
  refine V_iconst (v := 0) dX7_isHarmOne_28 rfl ?_
  obtain ⟨x4, y5, h⟩ := bi_o h
  refine V_callV (as := [.int s1, .int 1, .int 0]) (q := 85) (rest := []) dX7_isHarmOne_29 ov_mX7_needs lk_RX7_346 (by decide) (by decide) rfl rfl (Nat.le_of_ble_eq_true rfl) (tq_85 hG) rfl (VM_X7_needs G hG s1 1 0 μ _ y5) ?_
  cases h
  exact V_zret rfl (b2i_nar _) dX7_isHarmOne_32
def D_X7_isHarmOne_26  (μ : Mem) : Option (Bool × Mem) :=
  D_X7_isHarmOne_27 0 μ
set_option maxRecDepth 20000 in
theorem T_X7_isHarmOne_26 (G : GX)  (hG : gt G = tbl) : ∀ (μ : Mem) (r : (Bool × Mem)) , D_X7_isHarmOne_26  μ = some r → V G mX7_isHarmOne 26 [none, none] [.ref 85] μ (.inl (some (.int (b2i r.1)))) (r.2) := by
  intro μ r h
  unfold D_X7_isHarmOne_26 at h
  refine V_iconst (v := 0) dX7_isHarmOne_26 rfl ?_
  exact V_wk [false, false] rfl (T_X7_isHarmOne_27 G hG _ _ _ h)
def D_X7_isHarmOne_0  (a1 : Int32) (μ : Mem) : Option (Bool × Mem) :=
  (D_X7_within_0 μ ((a1 : Int32).toInt64) 0 23).bind fun x1 =>
  if x1 = true then
    gu (ib a1 25) <|
    if (μ.1 91 (Int32.toNatClampNeg a1)) = 0 then
      D_X7_isHarmOne_26 μ
    else
      D_X7_isHarmOne_27 1 μ
  else
    D_X7_isHarmOne_26 μ
set_option maxRecDepth 20000 in
theorem T_X7_isHarmOne_0 (G : GX)  (hG : gt G = tbl) : ∀ (a1 : Int32) (μ : Mem) (r : (Bool × Mem)) , D_X7_isHarmOne_0  a1 μ = some r → V G mX7_isHarmOne 0 [some (.ref 85), some (.int a1)] [] μ (.inl (some (.int (b2i r.1)))) (r.2) := by
  intro a1 μ r h
  unfold D_X7_isHarmOne_0 at h
  refine V_aload_n dX7_isHarmOne_0 rfl ?_
  refine V_iload_n dX7_isHarmOne_1 rfl ?_
  refine V_i2l dX7_isHarmOne_2 ?_
  refine V_lconst (v := 0) dX7_isHarmOne_3 rfl ?_
  refine V_ldc2 (v := 23) dX7_isHarmOne_4 lk_RX7_395 ?_
  obtain ⟨x1, y2, h⟩ := bi_o h
  refine V_callS (as := [.long ((a1 : Int32).toInt64), .long 0, .long 23]) (rest := [.ref 85]) dX7_isHarmOne_7 os_mX7_within rfl lk_RX7_352 (by decide) (by decide) rfl rfl (Nat.le_of_ble_eq_true rfl) (VM_X7_within G μ hG ((a1 : Int32).toInt64) 0 23 _ y2) ?_
  by_cases c10 : x1 = true
  · rw [if_pos c10] at h
    refine V_ifeq_f (tgt := 26) dX7_isHarmOne_10 (by decide) (b2i_t.mp c10) ?_
    refine V_aload_n dX7_isHarmOne_13 rfl ?_
    refine V_getR (kf := 7) k_X7 (by decide) lk_RX7_33 rfl dX7_isHarmOne_14 (tq_85 hG) rfl ?_
    refine V_iload_n dX7_isHarmOne_17 rfl ?_
    obtain ⟨g3, h⟩ := gu_o h
    refine V_baload dX7_isHarmOne_18 (tq_91 hG) (ib_in g3) ?_
    by_cases c19 : (μ.1 91 (Int32.toNatClampNeg a1)) = 0
    · rw [if_pos c19] at h
      refine V_ifeq_t (tgt := 26) dX7_isHarmOne_19 (by decide) c19 ?_
      exact V_wk [false, false] rfl (T_X7_isHarmOne_26 G hG _ _ h)
    · rw [if_neg c19] at h
      refine V_ifeq_f (tgt := 26) dX7_isHarmOne_19 (by decide) c19 ?_
      refine V_iconst (v := 1) dX7_isHarmOne_22 rfl ?_
      refine V_goto (tgt := 27) dX7_isHarmOne_23 (by decide) ?_
      exact V_wk [false, false] rfl (T_X7_isHarmOne_27 G hG _ _ _ h)
  · rw [if_neg c10] at h
    refine V_ifeq_t (tgt := 26) dX7_isHarmOne_10 (by decide) (b2i_f.mp c10) ?_
    exact V_wk [false, false] rfl (T_X7_isHarmOne_26 G hG _ _ h)
theorem VM_X7_isHarmOne (G : GX)  (hG : gt G = tbl) (a1 : Int32) (μ : Mem) (r : (Bool × Mem)) (h : D_X7_isHarmOne_0  a1 μ = some r) : VM G mX7_isHarmOne [.ref 85, .int a1] μ (.inl (some (.int (b2i r.1)))) (r.2) := V_entry ok_mX7_isHarmOne rfl rfl (Nat.le_of_ble_eq_true rfl) (T_X7_isHarmOne_0 G hG a1 μ r h)
def D_X7_grow_0 (fu : Nat)  (a1 : Int32) (a2 : Int32) (μ : Mem) : Option (Int64 × Mem) :=
  vl (wI μ 85 0 0) fun m1 =>
  (D_X7_isHarmOne_0 a1 m1).bind fun x3 =>
  if x3.1 = true then
    (D_X7_isLoss_0 x3.2 a2).bind fun x5 =>
    (D_X7_needs_0 (b2i x5) 2 1 x3.2).bind fun x7 =>
    if x7.1 = true then
      (D_X7_hasRoom_0 3 x7.2).bind fun x9 =>
      if x9.1 = true then
        (D_X7_insuredOf_0 fu x9.2 a1).bind fun x11 =>
        (D_X7_notes_0 5 a1 a2 0 0 (-1) x9.2).bind fun x13 =>
        (D_X7_does_0 fu ((x13.1 85 5) - 1) x13).bind fun x15 =>
        (D_X7_insuredOf_0 fu x15 a1).bind fun x17 =>
        some (x17 - x11, x15)
      else
        some (0, x9.2)
    else
      some (0, x7.2)
  else
    some (0, x3.2)
set_option maxRecDepth 20000 in
theorem T_X7_grow_0 (G : GX) (fu : Nat)  (hG : gt G = tbl) : ∀ (a1 : Int32) (a2 : Int32) (μ : Mem) (r : (Int64 × Mem)) , D_X7_grow_0 fu a1 a2 μ = some r → V G mX7_grow 0 [some (.ref 85), some (.int a1), some (.int a2), none, none] [] μ (.inl (some (.long r.1))) (r.2) := by
  intro a1 a2 μ r h
  unfold D_X7_grow_0 at h
  refine V_aload_n dX7_grow_0 rfl ?_
  refine V_iconst (v := 0) dX7_grow_1 rfl ?_
  obtain ⟨m1, e2, h⟩ := vl_o h
  refine V_putI (kf := 0) k_X7 (by decide) lk_RX7_1 rfl rfl (by decide +kernel) dX7_grow_2 (tq_85 hG) rfl e2.symm ?_
  refine V_aload_n dX7_grow_5 rfl ?_
  refine V_iload_n dX7_grow_6 rfl ?_
  obtain ⟨x3, y4, h⟩ := bi_o h
  refine V_callV (as := [.int a1]) (q := 85) (rest := []) dX7_grow_7 ov_mX7_isHarmOne lk_RX7_397 (by decide) (by decide) rfl rfl (Nat.le_of_ble_eq_true rfl) (tq_85 hG) rfl (VM_X7_isHarmOne G hG a1 m1 _ y4) ?_
  by_cases c10 : x3.1 = true
  · rw [if_pos c10] at h
    refine V_ifeq_f (tgt := 34) dX7_grow_10 (by decide) (b2i_t.mp c10) ?_
    refine V_aload_n dX7_grow_13 rfl ?_
    refine V_iload_n dX7_grow_14 rfl ?_
    obtain ⟨x5, y6, h⟩ := bi_o h
    refine V_callS (as := [.int a2]) (rest := [.ref 85]) dX7_grow_15 os_mX7_isLoss rfl lk_RX7_392 (by decide) (by decide) rfl rfl (Nat.le_of_ble_eq_true rfl) (VM_X7_isLoss G x3.2 hG a2 _ y6) ?_
    refine V_iconst (v := 2) dX7_grow_18 rfl ?_
    refine V_iconst (v := 1) dX7_grow_19 rfl ?_
    obtain ⟨x7, y8, h⟩ := bi_o h
    refine V_callV (as := [.int (b2i x5), .int 2, .int 1]) (q := 85) (rest := []) dX7_grow_20 ov_mX7_needs lk_RX7_346 (by decide) (by decide) rfl rfl (Nat.le_of_ble_eq_true rfl) (tq_85 hG) rfl (VM_X7_needs G hG (b2i x5) 2 1 x3.2 _ y8) ?_
    by_cases c23 : x7.1 = true
    · rw [if_pos c23] at h
      refine V_ifeq_f (tgt := 34) dX7_grow_23 (by decide) (b2i_t.mp c23) ?_
      refine V_aload_n dX7_grow_26 rfl ?_
      refine V_iconst (v := 3) dX7_grow_27 rfl ?_
      obtain ⟨x9, y10, h⟩ := bi_o h
      refine V_callV (as := [.int 3]) (q := 85) (rest := []) dX7_grow_28 ov_mX7_hasRoom lk_RX7_365 (by decide) (by decide) rfl rfl (Nat.le_of_ble_eq_true rfl) (tq_85 hG) rfl (VM_X7_hasRoom G hG 3 x7.2 _ y10) ?_
      by_cases c31 : x9.1 = true
      · rw [if_pos c31] at h
        refine V_ifne_t (tgt := 36) dX7_grow_31 (by decide) (b2i_t.mp c31) ?_
        refine V_aload_n dX7_grow_36 rfl ?_
        refine V_iload_n dX7_grow_37 rfl ?_
        obtain ⟨x11, y12, h⟩ := bi_o h
        refine V_callV (as := [.int a1]) (q := 85) (rest := []) dX7_grow_38 ov_mX7_insuredOf lk_RX7_277 (by decide) (by decide) rfl rfl (Nat.le_of_ble_eq_true rfl) (tq_85 hG) rfl (VM_X7_insuredOf G fu x9.2 hG a1 _ y12) ?_
        refine V_lstore_n (lv2 := [some (.ref 85), some (.int a1), some (.int a2), some (.long x11), none]) dX7_grow_41 (by decide) rfl ?_
        refine V_aload_n dX7_grow_42 rfl ?_
        refine V_iconst (v := 5) dX7_grow_43 rfl ?_
        refine V_iload_n dX7_grow_44 rfl ?_
        refine V_iload_n dX7_grow_45 rfl ?_
        refine V_iconst (v := 0) dX7_grow_46 rfl ?_
        refine V_iconst (v := 0) dX7_grow_47 rfl ?_
        refine V_iconst (v := (-1)) dX7_grow_48 rfl ?_
        obtain ⟨x13, y14, h⟩ := bi_o h
        refine V_callV (as := [.int 5, .int a1, .int a2, .int 0, .int 0, .int (-1)]) (q := 85) (rest := []) dX7_grow_49 ov_mX7_notes lk_RX7_368 (by decide) (by decide) rfl rfl (Nat.le_of_ble_eq_true rfl) (tq_85 hG) rfl (VM_X7_notes G hG 5 a1 a2 0 0 (-1) x9.2 _ y14) ?_
        refine V_aload_n dX7_grow_52 rfl ?_
        refine V_aload_n dX7_grow_53 rfl ?_
        refine V_getI (kf := 5) k_X7 (by decide) lk_RX7_17 rfl dX7_grow_54 (tq_85 hG) rfl ?_
        refine V_iconst (v := 1) dX7_grow_57 rfl ?_
        refine V_isub dX7_grow_58 ?_
        obtain ⟨x15, y16, h⟩ := bi_o h
        refine V_callV (as := [.int ((x13.1 85 5) - 1)]) (q := 85) (rest := []) dX7_grow_59 ov_mX7_does lk_RX7_331 (by decide) (by decide) rfl rfl (Nat.le_of_ble_eq_true rfl) (tq_85 hG) rfl (VM_X7_does G fu hG ((x13.1 85 5) - 1) x13 _ y16) ?_
        refine V_aload_n dX7_grow_62 rfl ?_
        refine V_iload_n dX7_grow_63 rfl ?_
        obtain ⟨x17, y18, h⟩ := bi_o h
        refine V_callV (as := [.int a1]) (q := 85) (rest := []) dX7_grow_64 ov_mX7_insuredOf lk_RX7_277 (by decide) (by decide) rfl rfl (Nat.le_of_ble_eq_true rfl) (tq_85 hG) rfl (VM_X7_insuredOf G fu x15 hG a1 _ y18) ?_
        refine V_lload_n dX7_grow_67 rfl ?_
        refine V_lsub dX7_grow_68 ?_
        cases h
        exact V_lret rfl dX7_grow_69
      · rw [if_neg c31] at h
        refine V_ifne_f (tgt := 36) dX7_grow_31 (by decide) (b2i_f.mp c31) ?_
        refine V_lconst (v := 0) dX7_grow_34 rfl ?_
        cases h
        exact V_lret rfl dX7_grow_35
    · rw [if_neg c23] at h
      refine V_ifeq_t (tgt := 34) dX7_grow_23 (by decide) (b2i_f.mp c23) ?_
      refine V_lconst (v := 0) dX7_grow_34 rfl ?_
      cases h
      exact V_lret rfl dX7_grow_35
  · rw [if_neg c10] at h
    refine V_ifeq_t (tgt := 34) dX7_grow_10 (by decide) (b2i_f.mp c10) ?_
    refine V_lconst (v := 0) dX7_grow_34 rfl ?_
    cases h
    exact V_lret rfl dX7_grow_35
theorem VM_X7_grow (G : GX) (fu : Nat)  (hG : gt G = tbl) (a1 : Int32) (a2 : Int32) (μ : Mem) (r : (Int64 × Mem)) (h : D_X7_grow_0 fu a1 a2 μ = some r) : VM G mX7_grow [.ref 85, .int a1, .int a2] μ (.inl (some (.long r.1))) (r.2) := V_entry ok_mX7_grow rfl rfl (Nat.le_of_ble_eq_true rfl) (T_X7_grow_0 G fu hG a1 a2 μ r h)
def D_X7_reopen_0 (fu : Nat)  (a1 : Int32) (μ : Mem) : Option (Int64 × Mem) :=
  vl (wI μ 85 0 0) fun m1 =>
  (D_X7_isHarmOne_0 a1 m1).bind fun x3 =>
  if x3.1 = true then
    (D_X7_hasRoom_0 2 x3.2).bind fun x5 =>
    if x5.1 = true then
      (D_X7_insuredOf_0 fu x5.2 a1).bind fun x7 =>
      (D_X7_notes_0 8 a1 0 0 0 (-1) x5.2).bind fun x9 =>
      (D_X7_does_0 fu ((x9.1 85 5) - 1) x9).bind fun x11 =>
      (D_X7_insuredOf_0 fu x11 a1).bind fun x13 =>
      some (x13 - x7, x11)
    else
      some (0, x5.2)
  else
    some (0, x3.2)
set_option maxRecDepth 20000 in
theorem T_X7_reopen_0 (G : GX) (fu : Nat)  (hG : gt G = tbl) : ∀ (a1 : Int32) (μ : Mem) (r : (Int64 × Mem)) , D_X7_reopen_0 fu a1 μ = some r → V G mX7_reopen 0 [some (.ref 85), some (.int a1), none, none] [] μ (.inl (some (.long r.1))) (r.2) := by
  intro a1 μ r h
  unfold D_X7_reopen_0 at h
  refine V_aload_n dX7_reopen_0 rfl ?_
  refine V_iconst (v := 0) dX7_reopen_1 rfl ?_
  obtain ⟨m1, e2, h⟩ := vl_o h
  refine V_putI (kf := 0) k_X7 (by decide) lk_RX7_1 rfl rfl (by decide +kernel) dX7_reopen_2 (tq_85 hG) rfl e2.symm ?_
  refine V_aload_n dX7_reopen_5 rfl ?_
  refine V_iload_n dX7_reopen_6 rfl ?_
  obtain ⟨x3, y4, h⟩ := bi_o h
  refine V_callV (as := [.int a1]) (q := 85) (rest := []) dX7_reopen_7 ov_mX7_isHarmOne lk_RX7_397 (by decide) (by decide) rfl rfl (Nat.le_of_ble_eq_true rfl) (tq_85 hG) rfl (VM_X7_isHarmOne G hG a1 m1 _ y4) ?_
  by_cases c10 : x3.1 = true
  · rw [if_pos c10] at h
    refine V_ifeq_f (tgt := 21) dX7_reopen_10 (by decide) (b2i_t.mp c10) ?_
    refine V_aload_n dX7_reopen_13 rfl ?_
    refine V_iconst (v := 2) dX7_reopen_14 rfl ?_
    obtain ⟨x5, y6, h⟩ := bi_o h
    refine V_callV (as := [.int 2]) (q := 85) (rest := []) dX7_reopen_15 ov_mX7_hasRoom lk_RX7_365 (by decide) (by decide) rfl rfl (Nat.le_of_ble_eq_true rfl) (tq_85 hG) rfl (VM_X7_hasRoom G hG 2 x3.2 _ y6) ?_
    by_cases c18 : x5.1 = true
    · rw [if_pos c18] at h
      refine V_ifne_t (tgt := 23) dX7_reopen_18 (by decide) (b2i_t.mp c18) ?_
      refine V_aload_n dX7_reopen_23 rfl ?_
      refine V_iload_n dX7_reopen_24 rfl ?_
      obtain ⟨x7, y8, h⟩ := bi_o h
      refine V_callV (as := [.int a1]) (q := 85) (rest := []) dX7_reopen_25 ov_mX7_insuredOf lk_RX7_277 (by decide) (by decide) rfl rfl (Nat.le_of_ble_eq_true rfl) (tq_85 hG) rfl (VM_X7_insuredOf G fu x5.2 hG a1 _ y8) ?_
      refine V_lstore_n (lv2 := [some (.ref 85), some (.int a1), some (.long x7), none]) dX7_reopen_28 (by decide) rfl ?_
      refine V_aload_n dX7_reopen_29 rfl ?_
      refine V_bipush (v := 8) dX7_reopen_30 rfl ?_
      refine V_iload_n dX7_reopen_32 rfl ?_
      refine V_iconst (v := 0) dX7_reopen_33 rfl ?_
      refine V_iconst (v := 0) dX7_reopen_34 rfl ?_
      refine V_iconst (v := 0) dX7_reopen_35 rfl ?_
      refine V_iconst (v := (-1)) dX7_reopen_36 rfl ?_
      obtain ⟨x9, y10, h⟩ := bi_o h
      refine V_callV (as := [.int 8, .int a1, .int 0, .int 0, .int 0, .int (-1)]) (q := 85) (rest := []) dX7_reopen_37 ov_mX7_notes lk_RX7_368 (by decide) (by decide) rfl rfl (Nat.le_of_ble_eq_true rfl) (tq_85 hG) rfl (VM_X7_notes G hG 8 a1 0 0 0 (-1) x5.2 _ y10) ?_
      refine V_aload_n dX7_reopen_40 rfl ?_
      refine V_aload_n dX7_reopen_41 rfl ?_
      refine V_getI (kf := 5) k_X7 (by decide) lk_RX7_17 rfl dX7_reopen_42 (tq_85 hG) rfl ?_
      refine V_iconst (v := 1) dX7_reopen_45 rfl ?_
      refine V_isub dX7_reopen_46 ?_
      obtain ⟨x11, y12, h⟩ := bi_o h
      refine V_callV (as := [.int ((x9.1 85 5) - 1)]) (q := 85) (rest := []) dX7_reopen_47 ov_mX7_does lk_RX7_331 (by decide) (by decide) rfl rfl (Nat.le_of_ble_eq_true rfl) (tq_85 hG) rfl (VM_X7_does G fu hG ((x9.1 85 5) - 1) x9 _ y12) ?_
      refine V_aload_n dX7_reopen_50 rfl ?_
      refine V_iload_n dX7_reopen_51 rfl ?_
      obtain ⟨x13, y14, h⟩ := bi_o h
      refine V_callV (as := [.int a1]) (q := 85) (rest := []) dX7_reopen_52 ov_mX7_insuredOf lk_RX7_277 (by decide) (by decide) rfl rfl (Nat.le_of_ble_eq_true rfl) (tq_85 hG) rfl (VM_X7_insuredOf G fu x11 hG a1 _ y14) ?_
      refine V_lload_n dX7_reopen_55 rfl ?_
      refine V_lsub dX7_reopen_56 ?_
      cases h
      exact V_lret rfl dX7_reopen_57
    · rw [if_neg c18] at h
      refine V_ifne_f (tgt := 23) dX7_reopen_18 (by decide) (b2i_f.mp c18) ?_
      refine V_lconst (v := 0) dX7_reopen_21 rfl ?_
      cases h
      exact V_lret rfl dX7_reopen_22
  · rw [if_neg c10] at h
    refine V_ifeq_t (tgt := 21) dX7_reopen_10 (by decide) (b2i_f.mp c10) ?_
    refine V_lconst (v := 0) dX7_reopen_21 rfl ?_
    cases h
    exact V_lret rfl dX7_reopen_22
theorem VM_X7_reopen (G : GX) (fu : Nat)  (hG : gt G = tbl) (a1 : Int32) (μ : Mem) (r : (Int64 × Mem)) (h : D_X7_reopen_0 fu a1 μ = some r) : VM G mX7_reopen [.ref 85, .int a1] μ (.inl (some (.long r.1))) (r.2) := V_entry ok_mX7_reopen rfl rfl (Nat.le_of_ble_eq_true rfl) (T_X7_reopen_0 G fu hG a1 μ r h)
def D_X7_standing_26 (fu : Nat) (μ : Mem)  (k4 : Int32 → Int32 → Int32 → Option Int32) (v1 : Int32) (v3 : Int32) (s0 : Int32) (s1 : Int32) : Option Int32 :=
  k4 v1 (s0 + s1) (v3 + 1)
set_option maxRecDepth 20000 in
theorem T_X7_standing_26 (G : GX) (fu : Nat) (μ : Mem)  (hG : gt G = tbl) (k4 : Int32 → Int32 → Int32 → Option Int32) (hk4 : ∀ (v1 : Int32) (v2 : Int32) (v3 : Int32) (r : Int32), k4 v1 v2 v3 = some r → V G mX7_standing 4 [some (.ref 85), some (.int v1), some (.int v2), some (.int v3)] [] μ (.inl (some (.int r))) (μ)) : ∀ (v1 : Int32) (v3 : Int32) (s0 : Int32) (s1 : Int32) (r : Int32) , D_X7_standing_26 fu μ k4 v1 v3 s0 s1 = some r → V G mX7_standing 26 [some (.ref 85), some (.int v1), none, some (.int v3)] [.int s1, .int s0] μ (.inl (some (.int r))) (μ) := by
  intro v1 v3 s0 s1 r h
  unfold D_X7_standing_26 at h
  refine V_iadd dX7_standing_26 ?_
  refine V_istore_n (lv2 := [some (.ref 85), some (.int v1), some (.int (s0 + s1)), some (.int v3)]) dX7_standing_27 (by decide) rfl ?_
  refine V_iinc (v := v3 + 1) (lv2 := [some (.ref 85), some (.int v1), some (.int (s0 + s1)), some (.int (v3 + 1))]) dX7_standing_28 rfl rfl (by decide) rfl ?_
  refine V_goto (tgt := 4) dX7_standing_31 (by decide) ?_
  exact V_wk [true, true, true, true] rfl (hk4 _ _ _ _ h)
def D_X7_standing_4 (fu : Nat) (μ : Mem)  : Nat → Int32 → Int32 → Int32 → Option Int32
  | 0, _, _, _ => none
  | n + 1, v1, v2, v3 =>
    if (10 : Int32) ≤ v3 then
      some v2
    else
      gu (ib v3 10) <|
      if (μ.1 111 (Int32.toNatClampNeg v3)) = v1 then
        D_X7_standing_26 fu μ (D_X7_standing_4 fu μ n) v1 v3 v2 1
      else
        D_X7_standing_26 fu μ (D_X7_standing_4 fu μ n) v1 v3 v2 0
set_option maxRecDepth 20000 in
theorem T_X7_standing_4 (G : GX) (fu : Nat) (μ : Mem)  (hG : gt G = tbl) : ∀ (n : Nat) (v1 : Int32) (v2 : Int32) (v3 : Int32) (r : Int32) , D_X7_standing_4 fu μ n v1 v2 v3 = some r → V G mX7_standing 4 [some (.ref 85), some (.int v1), some (.int v2), some (.int v3)] [] μ (.inl (some (.int r))) (μ) := by
  intro n
  induction n with
  | zero =>
    intro v1 v2 v3 r h
    exact nomatch (show (none : Option Int32) = some r from h)
  | succ n ih =>
    intro v1 v2 v3 r h
    rw [D_X7_standing_4] at h
    refine V_iload_n dX7_standing_4 rfl ?_
    refine V_bipush (v := 10) dX7_standing_5 rfl ?_
    by_cases c7 : (10 : Int32) ≤ v3
    · rw [if_pos c7] at h
      refine V_icmpge_t (tgt := 34) dX7_standing_7 (by decide) c7 ?_
      refine V_iload_n dX7_standing_34 rfl ?_
      cases h
      exact V_iret rfl dX7_standing_35
    · rw [if_neg c7] at h
      refine V_icmpge_f (tgt := 34) dX7_standing_7 (by decide) c7 ?_
      refine V_iload_n dX7_standing_10 rfl ?_
      refine V_aload_n dX7_standing_11 rfl ?_
      refine V_getR (kf := 27) k_X7 (by decide) lk_RX7_94 rfl dX7_standing_12 (tq_85 hG) rfl ?_
      refine V_iload_n dX7_standing_15 rfl ?_
      obtain ⟨g1, h⟩ := gu_o h
      refine V_iaload dX7_standing_16 (tq_111 hG) (ib_in g1) ?_
      refine V_iload_n dX7_standing_17 rfl ?_
      by_cases c18 : (μ.1 111 (Int32.toNatClampNeg v3)) = v1
      · rw [if_pos c18] at h
        refine V_icmpne_f (tgt := 25) dX7_standing_18 (by decide) c18 ?_
        refine V_iconst (v := 1) dX7_standing_21 rfl ?_
        refine V_goto (tgt := 26) dX7_standing_22 (by decide) ?_
        exact V_wk [true, true, false, true] rfl (T_X7_standing_26 G fu μ hG (D_X7_standing_4 fu μ n) ih _ _ _ _ _ h)
      · rw [if_neg c18] at h
        refine V_icmpne_t (tgt := 25) dX7_standing_18 (by decide) c18 ?_
        refine V_iconst (v := 0) dX7_standing_25 rfl ?_
        exact V_wk [true, true, false, true] rfl (T_X7_standing_26 G fu μ hG (D_X7_standing_4 fu μ n) ih _ _ _ _ _ h)
def D_X7_standing_0 (fu : Nat) (μ : Mem)  (a1 : Int32) : Option Int32 :=
  D_X7_standing_4 fu μ fu a1 0 1
set_option maxRecDepth 20000 in
theorem T_X7_standing_0 (G : GX) (fu : Nat) (μ : Mem)  (hG : gt G = tbl) : ∀ (a1 : Int32) (r : Int32) , D_X7_standing_0 fu μ a1 = some r → V G mX7_standing 0 [some (.ref 85), some (.int a1), none, none] [] μ (.inl (some (.int r))) (μ) := by
  intro a1 r h
  unfold D_X7_standing_0 at h
  refine V_iconst (v := 0) dX7_standing_0 rfl ?_
  refine V_istore_n (lv2 := [some (.ref 85), some (.int a1), some (.int 0), none]) dX7_standing_1 (by decide) rfl ?_
  refine V_iconst (v := 1) dX7_standing_2 rfl ?_
  refine V_istore_n (lv2 := [some (.ref 85), some (.int a1), some (.int 0), some (.int 1)]) dX7_standing_3 (by decide) rfl ?_
  exact V_wk [true, true, true, true] rfl (T_X7_standing_4 G fu μ hG fu _ _ _ _ h)
theorem VM_X7_standing (G : GX) (fu : Nat) (μ : Mem)  (hG : gt G = tbl) (a1 : Int32) (r : Int32) (h : D_X7_standing_0 fu μ a1 = some r) : VM G mX7_standing [.ref 85, .int a1] μ (.inl (some (.int r))) (μ) := V_entry ok_mX7_standing rfl rfl (Nat.le_of_ble_eq_true rfl) (T_X7_standing_0 G fu μ hG a1 r h)
def D_X7_settle_58 (fu : Nat)  (v1 : Int32) (v2 : Int32) (s1 : Int32) (μ : Mem) : Option (Int32 × Mem) :=
  (D_X7_needs_0 s1 2 2 μ).bind fun x10 =>
  if x10.1 = true then
    (D_X7_hasRoom_0 2 x10.2).bind fun x12 =>
    if x12.1 = true then
      (D_X7_notes_0 6 v1 v2 0 0 (-1) x12.2).bind fun x14 =>
      (D_X7_does_0 fu ((x14.1 85 5) - 1) x14).bind fun x16 =>
      (D_X7_standing_0 fu x16 1).bind fun x18 =>
      some (x18, x16)
    else
      some (0, x12.2)
  else
    some (0, x10.2)
set_option maxRecDepth 20000 in
theorem T_X7_settle_58 (G : GX) (fu : Nat)  (hG : gt G = tbl) : ∀ (v1 : Int32) (v2 : Int32) (s1 : Int32) (μ : Mem) (r : (Int32 × Mem)) , D_X7_settle_58 fu v1 v2 s1 μ = some r → V G mX7_settle 58 [some (.ref 85), some (.int v1), some (.int v2)] [.int s1, .ref 85] μ (.inl (some (.int r.1))) (r.2) := by
  intro v1 v2 s1 μ r h
  unfold D_X7_settle_58 at h
  refine V_iconst (v := 2) dX7_settle_58 rfl ?_
  refine V_iconst (v := 2) dX7_settle_59 rfl ?_
  obtain ⟨x10, y11, h⟩ := bi_o h
  refine V_callV (as := [.int s1, .int 2, .int 2]) (q := 85) (rest := []) dX7_settle_60 ov_mX7_needs lk_RX7_346 (by decide) (by decide) rfl rfl (Nat.le_of_ble_eq_true rfl) (tq_85 hG) rfl (VM_X7_needs G hG s1 2 2 μ _ y11) ?_
  by_cases c63 : x10.1 = true
  · rw [if_pos c63] at h
    refine V_ifeq_f (tgt := 74) dX7_settle_63 (by decide) (b2i_t.mp c63) ?_
    refine V_aload_n dX7_settle_66 rfl ?_
    refine V_iconst (v := 2) dX7_settle_67 rfl ?_
    obtain ⟨x12, y13, h⟩ := bi_o h
    refine V_callV (as := [.int 2]) (q := 85) (rest := []) dX7_settle_68 ov_mX7_hasRoom lk_RX7_365 (by decide) (by decide) rfl rfl (Nat.le_of_ble_eq_true rfl) (tq_85 hG) rfl (VM_X7_hasRoom G hG 2 x10.2 _ y13) ?_
    by_cases c71 : x12.1 = true
    · rw [if_pos c71] at h
      refine V_ifne_t (tgt := 76) dX7_settle_71 (by decide) (b2i_t.mp c71) ?_
      refine V_aload_n dX7_settle_76 rfl ?_
      refine V_bipush (v := 6) dX7_settle_77 rfl ?_
      refine V_iload_n dX7_settle_79 rfl ?_
      refine V_iload_n dX7_settle_80 rfl ?_
      refine V_iconst (v := 0) dX7_settle_81 rfl ?_
      refine V_iconst (v := 0) dX7_settle_82 rfl ?_
      refine V_iconst (v := (-1)) dX7_settle_83 rfl ?_
      obtain ⟨x14, y15, h⟩ := bi_o h
      refine V_callV (as := [.int 6, .int v1, .int v2, .int 0, .int 0, .int (-1)]) (q := 85) (rest := []) dX7_settle_84 ov_mX7_notes lk_RX7_368 (by decide) (by decide) rfl rfl (Nat.le_of_ble_eq_true rfl) (tq_85 hG) rfl (VM_X7_notes G hG 6 v1 v2 0 0 (-1) x12.2 _ y15) ?_
      refine V_aload_n dX7_settle_87 rfl ?_
      refine V_aload_n dX7_settle_88 rfl ?_
      refine V_getI (kf := 5) k_X7 (by decide) lk_RX7_17 rfl dX7_settle_89 (tq_85 hG) rfl ?_
      refine V_iconst (v := 1) dX7_settle_92 rfl ?_
      refine V_isub dX7_settle_93 ?_
      obtain ⟨x16, y17, h⟩ := bi_o h
      refine V_callV (as := [.int ((x14.1 85 5) - 1)]) (q := 85) (rest := []) dX7_settle_94 ov_mX7_does lk_RX7_331 (by decide) (by decide) rfl rfl (Nat.le_of_ble_eq_true rfl) (tq_85 hG) rfl (VM_X7_does G fu hG ((x14.1 85 5) - 1) x14 _ y17) ?_
      refine V_aload_n dX7_settle_97 rfl ?_
      refine V_iconst (v := 1) dX7_settle_98 rfl ?_
      obtain ⟨x18, y19, h⟩ := bi_o h
      refine V_callV (as := [.int 1]) (q := 85) (rest := []) dX7_settle_99 ov_mX7_standing lk_RX7_400 (by decide) (by decide) rfl rfl (Nat.le_of_ble_eq_true rfl) (tq_85 hG) rfl (VM_X7_standing G fu x16 hG 1 _ y19) ?_
      cases h
      exact V_iret rfl dX7_settle_102
    · rw [if_neg c71] at h
      refine V_ifne_f (tgt := 76) dX7_settle_71 (by decide) (b2i_f.mp c71) ?_
      refine V_iconst (v := 0) dX7_settle_74 rfl ?_
      cases h
      exact V_iret rfl dX7_settle_75
  · rw [if_neg c63] at h
    refine V_ifeq_t (tgt := 74) dX7_settle_63 (by decide) (b2i_f.mp c63) ?_
    refine V_iconst (v := 0) dX7_settle_74 rfl ?_
    cases h
    exact V_iret rfl dX7_settle_75
def D_X7_settle_35 (fu : Nat)  (v1 : Int32) (v2 : Int32) (s1 : Int32) (μ : Mem) : Option (Int32 × Mem) :=
  (D_X7_needs_0 s1 1 1 μ).bind fun x7 =>
  if x7.1 = true then
    gu (ib v1 10) <|
    if (x7.2.1 111 (Int32.toNatClampNeg v1)) = 0 then
      D_X7_settle_58 fu v1 v2 1 x7.2
    else
      D_X7_settle_58 fu v1 v2 0 x7.2
  else
    some (0, x7.2)
set_option maxRecDepth 20000 in
theorem T_X7_settle_35 (G : GX) (fu : Nat)  (hG : gt G = tbl) : ∀ (v1 : Int32) (v2 : Int32) (s1 : Int32) (μ : Mem) (r : (Int32 × Mem)) , D_X7_settle_35 fu v1 v2 s1 μ = some r → V G mX7_settle 35 [some (.ref 85), some (.int v1), some (.int v2)] [.int s1, .ref 85] μ (.inl (some (.int r.1))) (r.2) := by
  intro v1 v2 s1 μ r h
  unfold D_X7_settle_35 at h
  refine V_iconst (v := 1) dX7_settle_35 rfl ?_
  refine V_iconst (v := 1) dX7_settle_36 rfl ?_
  obtain ⟨x7, y8, h⟩ := bi_o h
  refine V_callV (as := [.int s1, .int 1, .int 1]) (q := 85) (rest := []) dX7_settle_37 ov_mX7_needs lk_RX7_346 (by decide) (by decide) rfl rfl (Nat.le_of_ble_eq_true rfl) (tq_85 hG) rfl (VM_X7_needs G hG s1 1 1 μ _ y8) ?_
  by_cases c40 : x7.1 = true
  · rw [if_pos c40] at h
    refine V_ifeq_f (tgt := 74) dX7_settle_40 (by decide) (b2i_t.mp c40) ?_
    refine V_aload_n dX7_settle_43 rfl ?_
    refine V_aload_n dX7_settle_44 rfl ?_
    refine V_getR (kf := 27) k_X7 (by decide) lk_RX7_94 rfl dX7_settle_45 (tq_85 hG) rfl ?_
    refine V_iload_n dX7_settle_48 rfl ?_
    obtain ⟨g9, h⟩ := gu_o h
    refine V_iaload dX7_settle_49 (tq_111 hG) (ib_in g9) ?_
    by_cases c50 : (x7.2.1 111 (Int32.toNatClampNeg v1)) = 0
    · rw [if_pos c50] at h
      refine V_ifne_f (tgt := 57) dX7_settle_50 (by decide) c50 ?_
      refine V_iconst (v := 1) dX7_settle_53 rfl ?_
      refine V_goto (tgt := 58) dX7_settle_54 (by decide) ?_
      exact V_wk [true, true, true] rfl (T_X7_settle_58 G fu hG _ _ _ _ _ h)
    · rw [if_neg c50] at h
      refine V_ifne_t (tgt := 57) dX7_settle_50 (by decide) c50 ?_
      refine V_iconst (v := 0) dX7_settle_57 rfl ?_
      exact V_wk [true, true, true] rfl (T_X7_settle_58 G fu hG _ _ _ _ _ h)
  · rw [if_neg c40] at h
    refine V_ifeq_t (tgt := 74) dX7_settle_40 (by decide) (b2i_f.mp c40) ?_
    refine V_iconst (v := 0) dX7_settle_74 rfl ?_
    cases h
    exact V_iret rfl dX7_settle_75
def D_X7_settle_34 (fu : Nat)  (v1 : Int32) (v2 : Int32) (μ : Mem) : Option (Int32 × Mem) :=
  D_X7_settle_35 fu v1 v2 0 μ
set_option maxRecDepth 20000 in
theorem T_X7_settle_34 (G : GX) (fu : Nat)  (hG : gt G = tbl) : ∀ (v1 : Int32) (v2 : Int32) (μ : Mem) (r : (Int32 × Mem)) , D_X7_settle_34 fu v1 v2 μ = some r → V G mX7_settle 34 [some (.ref 85), some (.int v1), some (.int v2)] [.ref 85] μ (.inl (some (.int r.1))) (r.2) := by
  intro v1 v2 μ r h
  unfold D_X7_settle_34 at h
  refine V_iconst (v := 0) dX7_settle_34 rfl ?_
  exact V_wk [true, true, true] rfl (T_X7_settle_35 G fu hG _ _ _ _ _ h)
def D_X7_settle_0 (fu : Nat)  (a1 : Int32) (a2 : Int32) (μ : Mem) : Option (Int32 × Mem) :=
  vl (wI μ 85 0 0) fun m1 =>
  (D_X7_within_0 m1 ((a1 : Int32).toInt64) 1 9).bind fun x3 =>
  if x3 = true then
    (D_X7_within_0 m1 ((a2 : Int32).toInt64) 0 1000000000).bind fun x5 =>
    if x5 = true then
      D_X7_settle_35 fu a1 a2 1 m1
    else
      D_X7_settle_34 fu a1 a2 m1
  else
    D_X7_settle_34 fu a1 a2 m1
set_option maxRecDepth 20000 in
theorem T_X7_settle_0 (G : GX) (fu : Nat)  (hG : gt G = tbl) : ∀ (a1 : Int32) (a2 : Int32) (μ : Mem) (r : (Int32 × Mem)) , D_X7_settle_0 fu a1 a2 μ = some r → V G mX7_settle 0 [some (.ref 85), some (.int a1), some (.int a2)] [] μ (.inl (some (.int r.1))) (r.2) := by
  intro a1 a2 μ r h
  unfold D_X7_settle_0 at h
  refine V_aload_n dX7_settle_0 rfl ?_
  refine V_iconst (v := 0) dX7_settle_1 rfl ?_
  obtain ⟨m1, e2, h⟩ := vl_o h
  refine V_putI (kf := 0) k_X7 (by decide) lk_RX7_1 rfl rfl (by decide +kernel) dX7_settle_2 (tq_85 hG) rfl e2.symm ?_
  refine V_aload_n dX7_settle_5 rfl ?_
  refine V_iload_n dX7_settle_6 rfl ?_
  refine V_i2l dX7_settle_7 ?_
  refine V_lconst (v := 1) dX7_settle_8 rfl ?_
  refine V_ldc2 (v := 9) dX7_settle_9 lk_RX7_377 ?_
  obtain ⟨x3, y4, h⟩ := bi_o h
  refine V_callS (as := [.long ((a1 : Int32).toInt64), .long 1, .long 9]) (rest := [.ref 85]) dX7_settle_12 os_mX7_within rfl lk_RX7_352 (by decide) (by decide) rfl rfl (Nat.le_of_ble_eq_true rfl) (VM_X7_within G m1 hG ((a1 : Int32).toInt64) 1 9 _ y4) ?_
  by_cases c15 : x3 = true
  · rw [if_pos c15] at h
    refine V_ifeq_f (tgt := 34) dX7_settle_15 (by decide) (b2i_t.mp c15) ?_
    refine V_iload_n dX7_settle_18 rfl ?_
    refine V_i2l dX7_settle_19 ?_
    refine V_lconst (v := 0) dX7_settle_20 rfl ?_
    refine V_ldc2 (v := 1000000000) dX7_settle_21 lk_RX7_387 ?_
    obtain ⟨x5, y6, h⟩ := bi_o h
    refine V_callS (as := [.long ((a2 : Int32).toInt64), .long 0, .long 1000000000]) (rest := [.ref 85]) dX7_settle_24 os_mX7_within rfl lk_RX7_352 (by decide) (by decide) rfl rfl (Nat.le_of_ble_eq_true rfl) (VM_X7_within G m1 hG ((a2 : Int32).toInt64) 0 1000000000 _ y6) ?_
    by_cases c27 : x5 = true
    · rw [if_pos c27] at h
      refine V_ifeq_f (tgt := 34) dX7_settle_27 (by decide) (b2i_t.mp c27) ?_
      refine V_iconst (v := 1) dX7_settle_30 rfl ?_
      refine V_goto (tgt := 35) dX7_settle_31 (by decide) ?_
      exact V_wk [true, true, true] rfl (T_X7_settle_35 G fu hG _ _ _ _ _ h)
    · rw [if_neg c27] at h
      refine V_ifeq_t (tgt := 34) dX7_settle_27 (by decide) (b2i_f.mp c27) ?_
      exact V_wk [true, true, true] rfl (T_X7_settle_34 G fu hG _ _ _ _ h)
  · rw [if_neg c15] at h
    refine V_ifeq_t (tgt := 34) dX7_settle_15 (by decide) (b2i_f.mp c15) ?_
    exact V_wk [true, true, true] rfl (T_X7_settle_34 G fu hG _ _ _ _ h)
theorem VM_X7_settle (G : GX) (fu : Nat)  (hG : gt G = tbl) (a1 : Int32) (a2 : Int32) (μ : Mem) (r : (Int32 × Mem)) (h : D_X7_settle_0 fu a1 a2 μ = some r) : VM G mX7_settle [.ref 85, .int a1, .int a2] μ (.inl (some (.int r.1))) (r.2) := V_entry ok_mX7_settle rfl rfl (Nat.le_of_ble_eq_true rfl) (T_X7_settle_0 G fu hG a1 a2 μ r h)
def D_X7_fall_38 (fu : Nat)  (v1 : Int32) (s1 : Int32) (μ : Mem) : Option (Int32 × Mem) :=
  (D_X7_needs_0 s1 2 2 μ).bind fun x8 =>
  if x8.1 = true then
    (D_X7_hasRoom_0 2 x8.2).bind fun x10 =>
    if x10.1 = true then
      (D_X7_notes_0 7 v1 0 0 0 (-1) x10.2).bind fun x12 =>
      (D_X7_does_0 fu ((x12.1 85 5) - 1) x12).bind fun x14 =>
      (D_X7_standing_0 fu x14 2).bind fun x16 =>
      some (x16, x14)
    else
      some (0, x10.2)
  else
    some (0, x8.2)
set_option maxRecDepth 20000 in
theorem T_X7_fall_38 (G : GX) (fu : Nat)  (hG : gt G = tbl) : ∀ (v1 : Int32) (s1 : Int32) (μ : Mem) (r : (Int32 × Mem)) , D_X7_fall_38 fu v1 s1 μ = some r → V G mX7_fall 38 [some (.ref 85), some (.int v1)] [.int s1, .ref 85] μ (.inl (some (.int r.1))) (r.2) := by
  intro v1 s1 μ r h
  unfold D_X7_fall_38 at h
  refine V_iconst (v := 2) dX7_fall_38 rfl ?_
  refine V_iconst (v := 2) dX7_fall_39 rfl ?_
  obtain ⟨x8, y9, h⟩ := bi_o h
  refine V_callV (as := [.int s1, .int 2, .int 2]) (q := 85) (rest := []) dX7_fall_40 ov_mX7_needs lk_RX7_346 (by decide) (by decide) rfl rfl (Nat.le_of_ble_eq_true rfl) (tq_85 hG) rfl (VM_X7_needs G hG s1 2 2 μ _ y9) ?_
  by_cases c43 : x8.1 = true
  · rw [if_pos c43] at h
    refine V_ifeq_f (tgt := 54) dX7_fall_43 (by decide) (b2i_t.mp c43) ?_
    refine V_aload_n dX7_fall_46 rfl ?_
    refine V_iconst (v := 2) dX7_fall_47 rfl ?_
    obtain ⟨x10, y11, h⟩ := bi_o h
    refine V_callV (as := [.int 2]) (q := 85) (rest := []) dX7_fall_48 ov_mX7_hasRoom lk_RX7_365 (by decide) (by decide) rfl rfl (Nat.le_of_ble_eq_true rfl) (tq_85 hG) rfl (VM_X7_hasRoom G hG 2 x8.2 _ y11) ?_
    by_cases c51 : x10.1 = true
    · rw [if_pos c51] at h
      refine V_ifne_t (tgt := 56) dX7_fall_51 (by decide) (b2i_t.mp c51) ?_
      refine V_aload_n dX7_fall_56 rfl ?_
      refine V_bipush (v := 7) dX7_fall_57 rfl ?_
      refine V_iload_n dX7_fall_59 rfl ?_
      refine V_iconst (v := 0) dX7_fall_60 rfl ?_
      refine V_iconst (v := 0) dX7_fall_61 rfl ?_
      refine V_iconst (v := 0) dX7_fall_62 rfl ?_
      refine V_iconst (v := (-1)) dX7_fall_63 rfl ?_
      obtain ⟨x12, y13, h⟩ := bi_o h
      refine V_callV (as := [.int 7, .int v1, .int 0, .int 0, .int 0, .int (-1)]) (q := 85) (rest := []) dX7_fall_64 ov_mX7_notes lk_RX7_368 (by decide) (by decide) rfl rfl (Nat.le_of_ble_eq_true rfl) (tq_85 hG) rfl (VM_X7_notes G hG 7 v1 0 0 0 (-1) x10.2 _ y13) ?_
      refine V_aload_n dX7_fall_67 rfl ?_
      refine V_aload_n dX7_fall_68 rfl ?_
      refine V_getI (kf := 5) k_X7 (by decide) lk_RX7_17 rfl dX7_fall_69 (tq_85 hG) rfl ?_
      refine V_iconst (v := 1) dX7_fall_72 rfl ?_
      refine V_isub dX7_fall_73 ?_
      obtain ⟨x14, y15, h⟩ := bi_o h
      refine V_callV (as := [.int ((x12.1 85 5) - 1)]) (q := 85) (rest := []) dX7_fall_74 ov_mX7_does lk_RX7_331 (by decide) (by decide) rfl rfl (Nat.le_of_ble_eq_true rfl) (tq_85 hG) rfl (VM_X7_does G fu hG ((x12.1 85 5) - 1) x12 _ y15) ?_
      refine V_aload_n dX7_fall_77 rfl ?_
      refine V_iconst (v := 2) dX7_fall_78 rfl ?_
      obtain ⟨x16, y17, h⟩ := bi_o h
      refine V_callV (as := [.int 2]) (q := 85) (rest := []) dX7_fall_79 ov_mX7_standing lk_RX7_400 (by decide) (by decide) rfl rfl (Nat.le_of_ble_eq_true rfl) (tq_85 hG) rfl (VM_X7_standing G fu x14 hG 2 _ y17) ?_
      cases h
      exact V_iret rfl dX7_fall_82
    · rw [if_neg c51] at h
      refine V_ifne_f (tgt := 56) dX7_fall_51 (by decide) (b2i_f.mp c51) ?_
      refine V_iconst (v := 0) dX7_fall_54 rfl ?_
      cases h
      exact V_iret rfl dX7_fall_55
  · rw [if_neg c43] at h
    refine V_ifeq_t (tgt := 54) dX7_fall_43 (by decide) (b2i_f.mp c43) ?_
    refine V_iconst (v := 0) dX7_fall_54 rfl ?_
    cases h
    exact V_iret rfl dX7_fall_55
def D_X7_fall_0 (fu : Nat)  (a1 : Int32) (μ : Mem) : Option (Int32 × Mem) :=
  vl (wI μ 85 0 0) fun m1 =>
  (D_X7_within_0 m1 ((a1 : Int32).toInt64) 1 9).bind fun x3 =>
  (D_X7_needs_0 (b2i x3) 1 1 m1).bind fun x5 =>
  if x5.1 = true then
    gu (ib a1 10) <|
    if (x5.2.1 111 (Int32.toNatClampNeg a1)) = 0 then
      D_X7_fall_38 fu a1 1 x5.2
    else
      D_X7_fall_38 fu a1 0 x5.2
  else
    some (0, x5.2)
set_option maxRecDepth 20000 in
theorem T_X7_fall_0 (G : GX) (fu : Nat)  (hG : gt G = tbl) : ∀ (a1 : Int32) (μ : Mem) (r : (Int32 × Mem)) , D_X7_fall_0 fu a1 μ = some r → V G mX7_fall 0 [some (.ref 85), some (.int a1)] [] μ (.inl (some (.int r.1))) (r.2) := by
  intro a1 μ r h
  unfold D_X7_fall_0 at h
  refine V_aload_n dX7_fall_0 rfl ?_
  refine V_iconst (v := 0) dX7_fall_1 rfl ?_
  obtain ⟨m1, e2, h⟩ := vl_o h
  refine V_putI (kf := 0) k_X7 (by decide) lk_RX7_1 rfl rfl (by decide +kernel) dX7_fall_2 (tq_85 hG) rfl e2.symm ?_
  refine V_aload_n dX7_fall_5 rfl ?_
  refine V_iload_n dX7_fall_6 rfl ?_
  refine V_i2l dX7_fall_7 ?_
  refine V_lconst (v := 1) dX7_fall_8 rfl ?_
  refine V_ldc2 (v := 9) dX7_fall_9 lk_RX7_377 ?_
  obtain ⟨x3, y4, h⟩ := bi_o h
  refine V_callS (as := [.long ((a1 : Int32).toInt64), .long 1, .long 9]) (rest := [.ref 85]) dX7_fall_12 os_mX7_within rfl lk_RX7_352 (by decide) (by decide) rfl rfl (Nat.le_of_ble_eq_true rfl) (VM_X7_within G m1 hG ((a1 : Int32).toInt64) 1 9 _ y4) ?_
  refine V_iconst (v := 1) dX7_fall_15 rfl ?_
  refine V_iconst (v := 1) dX7_fall_16 rfl ?_
  obtain ⟨x5, y6, h⟩ := bi_o h
  refine V_callV (as := [.int (b2i x3), .int 1, .int 1]) (q := 85) (rest := []) dX7_fall_17 ov_mX7_needs lk_RX7_346 (by decide) (by decide) rfl rfl (Nat.le_of_ble_eq_true rfl) (tq_85 hG) rfl (VM_X7_needs G hG (b2i x3) 1 1 m1 _ y6) ?_
  by_cases c20 : x5.1 = true
  · rw [if_pos c20] at h
    refine V_ifeq_f (tgt := 54) dX7_fall_20 (by decide) (b2i_t.mp c20) ?_
    refine V_aload_n dX7_fall_23 rfl ?_
    refine V_aload_n dX7_fall_24 rfl ?_
    refine V_getR (kf := 27) k_X7 (by decide) lk_RX7_94 rfl dX7_fall_25 (tq_85 hG) rfl ?_
    refine V_iload_n dX7_fall_28 rfl ?_
    obtain ⟨g7, h⟩ := gu_o h
    refine V_iaload dX7_fall_29 (tq_111 hG) (ib_in g7) ?_
    by_cases c30 : (x5.2.1 111 (Int32.toNatClampNeg a1)) = 0
    · rw [if_pos c30] at h
      refine V_ifne_f (tgt := 37) dX7_fall_30 (by decide) c30 ?_
      refine V_iconst (v := 1) dX7_fall_33 rfl ?_
      refine V_goto (tgt := 38) dX7_fall_34 (by decide) ?_
      exact V_wk [true, true] rfl (T_X7_fall_38 G fu hG _ _ _ _ h)
    · rw [if_neg c30] at h
      refine V_ifne_t (tgt := 37) dX7_fall_30 (by decide) c30 ?_
      refine V_iconst (v := 0) dX7_fall_37 rfl ?_
      exact V_wk [true, true] rfl (T_X7_fall_38 G fu hG _ _ _ _ h)
  · rw [if_neg c20] at h
    refine V_ifeq_t (tgt := 54) dX7_fall_20 (by decide) (b2i_f.mp c20) ?_
    refine V_iconst (v := 0) dX7_fall_54 rfl ?_
    cases h
    exact V_iret rfl dX7_fall_55
theorem VM_X7_fall (G : GX) (fu : Nat)  (hG : gt G = tbl) (a1 : Int32) (μ : Mem) (r : (Int32 × Mem)) (h : D_X7_fall_0 fu a1 μ = some r) : VM G mX7_fall [.ref 85, .int a1] μ (.inl (some (.int r.1))) (r.2) := V_entry ok_mX7_fall rfl rfl (Nat.le_of_ble_eq_true rfl) (T_X7_fall_0 G fu hG a1 μ r h)
def D_X7_back_0 (fu : Nat)  (μ : Mem) : Option (Int32 × Mem) :=
  vl (wI μ 85 0 0) fun m1 =>
  if (m1.1 85 5) = 0 then
    some ((-1), m1)
  else
    vl (wI m1 85 5 ((m1.1 85 5) - 1)) fun m3 =>
    (D_X7_goesOver_0 fu m3).bind fun x5 =>
    some (x5.1 85 5, x5)
set_option maxRecDepth 20000 in
theorem T_X7_back_0 (G : GX) (fu : Nat)  (hG : gt G = tbl) : ∀ (μ : Mem) (r : (Int32 × Mem)) , D_X7_back_0 fu μ = some r → V G mX7_back 0 [some (.ref 85)] [] μ (.inl (some (.int r.1))) (r.2) := by
  intro μ r h
  unfold D_X7_back_0 at h
  refine V_aload_n dX7_back_0 rfl ?_
  refine V_iconst (v := 0) dX7_back_1 rfl ?_
  obtain ⟨m1, e2, h⟩ := vl_o h
  refine V_putI (kf := 0) k_X7 (by decide) lk_RX7_1 rfl rfl (by decide +kernel) dX7_back_2 (tq_85 hG) rfl e2.symm ?_
  refine V_aload_n dX7_back_5 rfl ?_
  refine V_getI (kf := 5) k_X7 (by decide) lk_RX7_17 rfl dX7_back_6 (tq_85 hG) rfl ?_
  by_cases c9 : (m1.1 85 5) = 0
  · rw [if_pos c9] at h
    refine V_ifne_f (tgt := 14) dX7_back_9 (by decide) c9 ?_
    refine V_iconst (v := (-1)) dX7_back_12 rfl ?_
    cases h
    exact V_iret rfl dX7_back_13
  · rw [if_neg c9] at h
    refine V_ifne_t (tgt := 14) dX7_back_9 (by decide) c9 ?_
    refine V_aload_n dX7_back_14 rfl ?_
    refine V_dup dX7_back_15 rfl ?_
    refine V_getI (kf := 5) k_X7 (by decide) lk_RX7_17 rfl dX7_back_16 (tq_85 hG) rfl ?_
    refine V_iconst (v := 1) dX7_back_19 rfl ?_
    refine V_isub dX7_back_20 ?_
    obtain ⟨m3, e4, h⟩ := vl_o h
    refine V_putI (kf := 5) k_X7 (by decide) lk_RX7_17 rfl rfl (by decide +kernel) dX7_back_21 (tq_85 hG) rfl e4.symm ?_
    refine V_aload_n dX7_back_24 rfl ?_
    obtain ⟨x5, y6, h⟩ := bi_o h
    refine V_callV (as := []) (q := 85) (rest := []) dX7_back_25 ov_mX7_goesOver lk_RX7_403 (by decide) (by decide) rfl rfl (Nat.le_of_ble_eq_true rfl) (tq_85 hG) rfl (VM_X7_goesOver G fu hG m3 _ y6) ?_
    refine V_aload_n dX7_back_28 rfl ?_
    refine V_getI (kf := 5) k_X7 (by decide) lk_RX7_17 rfl dX7_back_29 (tq_85 hG) rfl ?_
    cases h
    exact V_iret rfl dX7_back_32
theorem VM_X7_back (G : GX) (fu : Nat)  (hG : gt G = tbl) (μ : Mem) (r : (Int32 × Mem)) (h : D_X7_back_0 fu μ = some r) : VM G mX7_back [.ref 85] μ (.inl (some (.int r.1))) (r.2) := V_entry ok_mX7_back rfl rfl (Nat.le_of_ble_eq_true rfl) (T_X7_back_0 G fu hG μ r h)
def D_X7_standingBits_28 (fu : Nat) (μ : Mem)  (k4 : Int32 → Int32 → Int32 → Option Int32) (v1 : Int32) (v3 : Int32) (s0 : Int32) (s1 : Int32) : Option Int32 :=
  k4 v1 (s0 ||| s1) (v3 + 1)
set_option maxRecDepth 20000 in
theorem T_X7_standingBits_28 (G : GX) (fu : Nat) (μ : Mem)  (hG : gt G = tbl) (k4 : Int32 → Int32 → Int32 → Option Int32) (hk4 : ∀ (v1 : Int32) (v2 : Int32) (v3 : Int32) (r : Int32), k4 v1 v2 v3 = some r → V G mX7_standingBits 4 [some (.ref 85), some (.int v1), some (.int v2), some (.int v3)] [] μ (.inl (some (.int r))) (μ)) : ∀ (v1 : Int32) (v3 : Int32) (s0 : Int32) (s1 : Int32) (r : Int32) , D_X7_standingBits_28 fu μ k4 v1 v3 s0 s1 = some r → V G mX7_standingBits 28 [some (.ref 85), some (.int v1), none, some (.int v3)] [.int s1, .int s0] μ (.inl (some (.int r))) (μ) := by
  intro v1 v3 s0 s1 r h
  unfold D_X7_standingBits_28 at h
  refine V_ior dX7_standingBits_28 ?_
  refine V_istore_n (lv2 := [some (.ref 85), some (.int v1), some (.int (s0 ||| s1)), some (.int v3)]) dX7_standingBits_29 (by decide) rfl ?_
  refine V_iinc (v := v3 + 1) (lv2 := [some (.ref 85), some (.int v1), some (.int (s0 ||| s1)), some (.int (v3 + 1))]) dX7_standingBits_30 rfl rfl (by decide) rfl ?_
  refine V_goto (tgt := 4) dX7_standingBits_33 (by decide) ?_
  exact V_wk [true, true, true, true] rfl (hk4 _ _ _ _ h)
def D_X7_standingBits_4 (fu : Nat) (μ : Mem)  : Nat → Int32 → Int32 → Int32 → Option Int32
  | 0, _, _, _ => none
  | n + 1, v1, v2, v3 =>
    if (10 : Int32) ≤ v3 then
      some v2
    else
      gu (ib v3 10) <|
      if (μ.1 111 (Int32.toNatClampNeg v3)) = v1 then
        D_X7_standingBits_28 fu μ (D_X7_standingBits_4 fu μ n) v1 v3 v2 (1 <<< (v3 &&& 31))
      else
        D_X7_standingBits_28 fu μ (D_X7_standingBits_4 fu μ n) v1 v3 v2 0
set_option maxRecDepth 20000 in
theorem T_X7_standingBits_4 (G : GX) (fu : Nat) (μ : Mem)  (hG : gt G = tbl) : ∀ (n : Nat) (v1 : Int32) (v2 : Int32) (v3 : Int32) (r : Int32) , D_X7_standingBits_4 fu μ n v1 v2 v3 = some r → V G mX7_standingBits 4 [some (.ref 85), some (.int v1), some (.int v2), some (.int v3)] [] μ (.inl (some (.int r))) (μ) := by
  intro n
  induction n with
  | zero =>
    intro v1 v2 v3 r h
    exact nomatch (show (none : Option Int32) = some r from h)
  | succ n ih =>
    intro v1 v2 v3 r h
    rw [D_X7_standingBits_4] at h
    refine V_iload_n dX7_standingBits_4 rfl ?_
    refine V_bipush (v := 10) dX7_standingBits_5 rfl ?_
    by_cases c7 : (10 : Int32) ≤ v3
    · rw [if_pos c7] at h
      refine V_icmpge_t (tgt := 36) dX7_standingBits_7 (by decide) c7 ?_
      refine V_iload_n dX7_standingBits_36 rfl ?_
      cases h
      exact V_iret rfl dX7_standingBits_37
    · rw [if_neg c7] at h
      refine V_icmpge_f (tgt := 36) dX7_standingBits_7 (by decide) c7 ?_
      refine V_iload_n dX7_standingBits_10 rfl ?_
      refine V_aload_n dX7_standingBits_11 rfl ?_
      refine V_getR (kf := 27) k_X7 (by decide) lk_RX7_94 rfl dX7_standingBits_12 (tq_85 hG) rfl ?_
      refine V_iload_n dX7_standingBits_15 rfl ?_
      obtain ⟨g1, h⟩ := gu_o h
      refine V_iaload dX7_standingBits_16 (tq_111 hG) (ib_in g1) ?_
      refine V_iload_n dX7_standingBits_17 rfl ?_
      by_cases c18 : (μ.1 111 (Int32.toNatClampNeg v3)) = v1
      · rw [if_pos c18] at h
        refine V_icmpne_f (tgt := 27) dX7_standingBits_18 (by decide) c18 ?_
        refine V_iconst (v := 1) dX7_standingBits_21 rfl ?_
        refine V_iload_n dX7_standingBits_22 rfl ?_
        refine V_ishl dX7_standingBits_23 ?_
        refine V_goto (tgt := 28) dX7_standingBits_24 (by decide) ?_
        exact V_wk [true, true, false, true] rfl (T_X7_standingBits_28 G fu μ hG (D_X7_standingBits_4 fu μ n) ih _ _ _ _ _ h)
      · rw [if_neg c18] at h
        refine V_icmpne_t (tgt := 27) dX7_standingBits_18 (by decide) c18 ?_
        refine V_iconst (v := 0) dX7_standingBits_27 rfl ?_
        exact V_wk [true, true, false, true] rfl (T_X7_standingBits_28 G fu μ hG (D_X7_standingBits_4 fu μ n) ih _ _ _ _ _ h)
def D_X7_standingBits_0 (fu : Nat) (μ : Mem)  (a1 : Int32) : Option Int32 :=
  D_X7_standingBits_4 fu μ fu a1 0 1
set_option maxRecDepth 20000 in
theorem T_X7_standingBits_0 (G : GX) (fu : Nat) (μ : Mem)  (hG : gt G = tbl) : ∀ (a1 : Int32) (r : Int32) , D_X7_standingBits_0 fu μ a1 = some r → V G mX7_standingBits 0 [some (.ref 85), some (.int a1), none, none] [] μ (.inl (some (.int r))) (μ) := by
  intro a1 r h
  unfold D_X7_standingBits_0 at h
  refine V_iconst (v := 0) dX7_standingBits_0 rfl ?_
  refine V_istore_n (lv2 := [some (.ref 85), some (.int a1), some (.int 0), none]) dX7_standingBits_1 (by decide) rfl ?_
  refine V_iconst (v := 1) dX7_standingBits_2 rfl ?_
  refine V_istore_n (lv2 := [some (.ref 85), some (.int a1), some (.int 0), some (.int 1)]) dX7_standingBits_3 (by decide) rfl ?_
  exact V_wk [true, true, true, true] rfl (T_X7_standingBits_4 G fu μ hG fu _ _ _ _ h)
theorem VM_X7_standingBits (G : GX) (fu : Nat) (μ : Mem)  (hG : gt G = tbl) (a1 : Int32) (r : Int32) (h : D_X7_standingBits_0 fu μ a1 = some r) : VM G mX7_standingBits [.ref 85, .int a1] μ (.inl (some (.int r))) (μ) := V_entry ok_mX7_standingBits rfl rfl (Nat.le_of_ble_eq_true rfl) (T_X7_standingBits_0 G fu μ hG a1 r h)
def D_X7_signersBits_52 (fu : Nat) (μ : Mem)  (k4 : Int32 → Int32 → Option Int32) (v1 : Int32) (v2 : Int32) : Option Int32 :=
  k4 v1 (v2 + 1)
set_option maxRecDepth 20000 in
theorem T_X7_signersBits_52 (G : GX) (fu : Nat) (μ : Mem)  (hG : gt G = tbl) (k4 : Int32 → Int32 → Option Int32) (hk4 : ∀ (v1 : Int32) (v2 : Int32) (r : Int32), k4 v1 v2 = some r → V G mX7_signersBits 4 [some (.ref 85), some (.int v1), some (.int v2), none] [] μ (.inl (some (.int r))) (μ)) : ∀ (v1 : Int32) (v2 : Int32) (r : Int32) , D_X7_signersBits_52 fu μ k4 v1 v2 = some r → V G mX7_signersBits 52 [some (.ref 85), some (.int v1), some (.int v2), none] [] μ (.inl (some (.int r))) (μ) := by
  intro v1 v2 r h
  unfold D_X7_signersBits_52 at h
  refine V_iinc (v := v2 + 1) (lv2 := [some (.ref 85), some (.int v1), some (.int (v2 + 1)), none]) dX7_signersBits_52 rfl rfl (by decide) rfl ?_
  refine V_goto (tgt := 4) dX7_signersBits_55 (by decide) ?_
  exact V_wk [true, true, true, false] rfl (hk4 _ _ _ h)
def D_X7_signersBits_12 (fu : Nat) (μ : Mem)  (k4 : Int32 → Int32 → Option Int32) : Nat → Int32 → Int32 → Int32 → Option Int32
  | 0, _, _, _ => none
  | n + 1, v1, v2, v3 =>
    gu (ib v2 40) <|
    if (μ.1 90 (Int32.toNatClampNeg v2)) = 0 then
      D_X7_signersBits_52 fu μ k4 v1 v2
    else
      gu (ib v2 40) <|
      if (μ.1 96 (Int32.toNatClampNeg v2)) ≤ v3 then
        D_X7_signersBits_52 fu μ k4 v1 v2
      else
        gu (ib ((4 * v2) + v3) 160) <|
        vl (v1 ||| (1 <<< ((μ.1 97 (Int32.toNatClampNeg ((4 * v2) + v3))) &&& 31)) : Int32) fun x4 =>
        (D_X7_signersBits_12 fu μ k4 n) x4 v2 (v3 + 1)
set_option maxRecDepth 20000 in
theorem T_X7_signersBits_12 (G : GX) (fu : Nat) (μ : Mem)  (hG : gt G = tbl) (k4 : Int32 → Int32 → Option Int32) (hk4 : ∀ (v1 : Int32) (v2 : Int32) (r : Int32), k4 v1 v2 = some r → V G mX7_signersBits 4 [some (.ref 85), some (.int v1), some (.int v2), none] [] μ (.inl (some (.int r))) (μ)) : ∀ (n : Nat) (v1 : Int32) (v2 : Int32) (v3 : Int32) (r : Int32) , D_X7_signersBits_12 fu μ k4 n v1 v2 v3 = some r → V G mX7_signersBits 12 [some (.ref 85), some (.int v1), some (.int v2), some (.int v3)] [] μ (.inl (some (.int r))) (μ) := by
  intro n
  induction n with
  | zero =>
    intro v1 v2 v3 r h
    exact nomatch (show (none : Option Int32) = some r from h)
  | succ n ih =>
    intro v1 v2 v3 r h
    rw [D_X7_signersBits_12] at h
    refine V_aload_n dX7_signersBits_12 rfl ?_
    refine V_getR (kf := 6) k_X7 (by decide) lk_RX7_29 rfl dX7_signersBits_13 (tq_85 hG) rfl ?_
    refine V_iload_n dX7_signersBits_16 rfl ?_
    obtain ⟨g1, h⟩ := gu_o h
    refine V_baload dX7_signersBits_17 (tq_90 hG) (ib_in g1) ?_
    by_cases c18 : (μ.1 90 (Int32.toNatClampNeg v2)) = 0
    · rw [if_pos c18] at h
      refine V_ifeq_t (tgt := 52) dX7_signersBits_18 (by decide) c18 ?_
      exact V_wk [true, true, true, false] rfl (T_X7_signersBits_52 G fu μ hG k4 hk4 _ _ _ h)
    · rw [if_neg c18] at h
      refine V_ifeq_f (tgt := 52) dX7_signersBits_18 (by decide) c18 ?_
      refine V_iload_n dX7_signersBits_21 rfl ?_
      refine V_aload_n dX7_signersBits_22 rfl ?_
      refine V_getR (kf := 12) k_X7 (by decide) lk_RX7_48 rfl dX7_signersBits_23 (tq_85 hG) rfl ?_
      refine V_iload_n dX7_signersBits_26 rfl ?_
      obtain ⟨g2, h⟩ := gu_o h
      refine V_iaload dX7_signersBits_27 (tq_96 hG) (ib_in g2) ?_
      by_cases c28 : (μ.1 96 (Int32.toNatClampNeg v2)) ≤ v3
      · rw [if_pos c28] at h
        refine V_icmpge_t (tgt := 52) dX7_signersBits_28 (by decide) c28 ?_
        exact V_wk [true, true, true, false] rfl (T_X7_signersBits_52 G fu μ hG k4 hk4 _ _ _ h)
      · rw [if_neg c28] at h
        refine V_icmpge_f (tgt := 52) dX7_signersBits_28 (by decide) c28 ?_
        refine V_iload_n dX7_signersBits_31 rfl ?_
        refine V_iconst (v := 1) dX7_signersBits_32 rfl ?_
        refine V_aload_n dX7_signersBits_33 rfl ?_
        refine V_getR (kf := 13) k_X7 (by decide) lk_RX7_51 rfl dX7_signersBits_34 (tq_85 hG) rfl ?_
        refine V_iconst (v := 4) dX7_signersBits_37 rfl ?_
        refine V_iload_n dX7_signersBits_38 rfl ?_
        refine V_imul dX7_signersBits_39 ?_
        refine V_iload_n dX7_signersBits_40 rfl ?_
        refine V_iadd dX7_signersBits_41 ?_
        obtain ⟨g3, h⟩ := gu_o h
        refine V_iaload dX7_signersBits_42 (tq_97 hG) (ib_in g3) ?_
        refine V_ishl dX7_signersBits_43 ?_
        refine V_ior dX7_signersBits_44 ?_
        obtain ⟨x4, e5, h⟩ := vl_o h
        refine V_topi e5 ?_
        refine V_istore_n (lv2 := [some (.ref 85), some (.int x4), some (.int v2), some (.int v3)]) dX7_signersBits_45 (by decide) rfl ?_
        refine V_iinc (v := v3 + 1) (lv2 := [some (.ref 85), some (.int x4), some (.int v2), some (.int (v3 + 1))]) dX7_signersBits_46 rfl rfl (by decide) rfl ?_
        refine V_goto (tgt := 12) dX7_signersBits_49 (by decide) ?_
        exact V_wk [true, true, true, true] rfl (ih _ _ _ _ h)
def D_X7_signersBits_4 (fu : Nat) (μ : Mem)  : Nat → Int32 → Int32 → Option Int32
  | 0, _, _ => none
  | n + 1, v1, v2 =>
    if (40 : Int32) ≤ v2 then
      some v1
    else
      D_X7_signersBits_12 fu μ (D_X7_signersBits_4 fu μ n) fu v1 v2 0
set_option maxRecDepth 20000 in
theorem T_X7_signersBits_4 (G : GX) (fu : Nat) (μ : Mem)  (hG : gt G = tbl) : ∀ (n : Nat) (v1 : Int32) (v2 : Int32) (r : Int32) , D_X7_signersBits_4 fu μ n v1 v2 = some r → V G mX7_signersBits 4 [some (.ref 85), some (.int v1), some (.int v2), none] [] μ (.inl (some (.int r))) (μ) := by
  intro n
  induction n with
  | zero =>
    intro v1 v2 r h
    exact nomatch (show (none : Option Int32) = some r from h)
  | succ n ih =>
    intro v1 v2 r h
    rw [D_X7_signersBits_4] at h
    refine V_iload_n dX7_signersBits_4 rfl ?_
    refine V_bipush (v := 40) dX7_signersBits_5 rfl ?_
    by_cases c7 : (40 : Int32) ≤ v2
    · rw [if_pos c7] at h
      refine V_icmpge_t (tgt := 58) dX7_signersBits_7 (by decide) c7 ?_
      refine V_iload_n dX7_signersBits_58 rfl ?_
      cases h
      exact V_iret rfl dX7_signersBits_59
    · rw [if_neg c7] at h
      refine V_icmpge_f (tgt := 58) dX7_signersBits_7 (by decide) c7 ?_
      refine V_iconst (v := 0) dX7_signersBits_10 rfl ?_
      refine V_istore_n (lv2 := [some (.ref 85), some (.int v1), some (.int v2), some (.int 0)]) dX7_signersBits_11 (by decide) rfl ?_
      exact V_wk [true, true, true, true] rfl (T_X7_signersBits_12 G fu μ hG (D_X7_signersBits_4 fu μ n) ih fu _ _ _ _ h)
def D_X7_signersBits_0 (fu : Nat) (μ : Mem)  : Option Int32 :=
  D_X7_signersBits_4 fu μ fu 0 0
set_option maxRecDepth 20000 in
theorem T_X7_signersBits_0 (G : GX) (fu : Nat) (μ : Mem)  (hG : gt G = tbl) : ∀ (r : Int32) , D_X7_signersBits_0 fu μ = some r → V G mX7_signersBits 0 [some (.ref 85), none, none, none] [] μ (.inl (some (.int r))) (μ) := by
  intro r h
  unfold D_X7_signersBits_0 at h
  refine V_iconst (v := 0) dX7_signersBits_0 rfl ?_
  refine V_istore_n (lv2 := [some (.ref 85), some (.int 0), none, none]) dX7_signersBits_1 (by decide) rfl ?_
  refine V_iconst (v := 0) dX7_signersBits_2 rfl ?_
  refine V_istore_n (lv2 := [some (.ref 85), some (.int 0), some (.int 0), none]) dX7_signersBits_3 (by decide) rfl ?_
  exact V_wk [true, true, true, false] rfl (T_X7_signersBits_4 G fu μ hG fu _ _ _ h)
theorem VM_X7_signersBits (G : GX) (fu : Nat) (μ : Mem)  (hG : gt G = tbl) (r : Int32) (h : D_X7_signersBits_0 fu μ = some r) : VM G mX7_signersBits [.ref 85] μ (.inl (some (.int r))) (μ) := V_entry ok_mX7_signersBits rfl rfl (Nat.le_of_ble_eq_true rfl) (T_X7_signersBits_0 G fu μ hG r h)
def D_X7_told_165 (fu : Nat)  (k143 : Int32 → Int32 → Mem → Option (Int32 × Mem)) (v3 : Int32) (s0 : Int32) (s1 : Int32) (μ : Mem) : Option (Int32 × Mem) :=
  k143 (s0 ||| s1) (v3 + 1) μ
set_option maxRecDepth 20000 in
theorem T_X7_told_165 (G : GX) (fu : Nat)  (hG : gt G = tbl) (k143 : Int32 → Int32 → Mem → Option (Int32 × Mem)) (hk143 : ∀ (v2 : Int32) (v3 : Int32) (μ : Mem) (r : (Int32 × Mem)), k143 v2 v3 μ = some r → V G mX7_told 143 [some (.ref 85), none, some (.int v2), some (.int v3)] [] μ (.inl (some (.int r.1))) (r.2)) : ∀ (v3 : Int32) (s0 : Int32) (s1 : Int32) (μ : Mem) (r : (Int32 × Mem)) , D_X7_told_165 fu k143 v3 s0 s1 μ = some r → V G mX7_told 165 [some (.ref 85), none, none, some (.int v3)] [.int s1, .int s0] μ (.inl (some (.int r.1))) (r.2) := by
  intro v3 s0 s1 μ r h
  unfold D_X7_told_165 at h
  refine V_ior dX7_told_165 ?_
  refine V_istore_n (lv2 := [some (.ref 85), none, some (.int (s0 ||| s1)), some (.int v3)]) dX7_told_166 (by decide) rfl ?_
  refine V_iinc (v := v3 + 1) (lv2 := [some (.ref 85), none, some (.int (s0 ||| s1)), some (.int (v3 + 1))]) dX7_told_167 rfl rfl (by decide) rfl ?_
  refine V_goto (tgt := 143) dX7_told_170 (by decide) ?_
  exact V_wk [true, false, true, true] rfl (hk143 _ _ _ _ h)
def D_X7_told_143 (fu : Nat)  : Nat → Int32 → Int32 → Mem → Option (Int32 × Mem)
  | 0, _, _, _ => none
  | n + 1, v2, v3, μ =>
    if (12 : Int32) ≤ v3 then
      some (v2, μ)
    else
      (D_X7_isGap_0 μ v3).bind fun x9 =>
      if x9 = true then
        D_X7_told_165 fu (D_X7_told_143 fu n) v3 v2 (1 <<< (v3 &&& 31)) μ
      else
        D_X7_told_165 fu (D_X7_told_143 fu n) v3 v2 0 μ
set_option maxRecDepth 20000 in
theorem T_X7_told_143 (G : GX) (fu : Nat)  (hG : gt G = tbl) : ∀ (n : Nat) (v2 : Int32) (v3 : Int32) (μ : Mem) (r : (Int32 × Mem)) , D_X7_told_143 fu n v2 v3 μ = some r → V G mX7_told 143 [some (.ref 85), none, some (.int v2), some (.int v3)] [] μ (.inl (some (.int r.1))) (r.2) := by
  intro n
  induction n with
  | zero =>
    intro v2 v3 μ r h
    exact nomatch (show (none : Option (Int32 × Mem)) = some r from h)
  | succ n ih =>
    intro v2 v3 μ r h
    rw [D_X7_told_143] at h
    refine V_iload_n dX7_told_143 rfl ?_
    refine V_bipush (v := 12) dX7_told_144 rfl ?_
    by_cases c146 : (12 : Int32) ≤ v3
    · rw [if_pos c146] at h
      refine V_icmpge_t (tgt := 173) dX7_told_146 (by decide) c146 ?_
      refine V_iload_n dX7_told_173 rfl ?_
      cases h
      exact V_iret rfl dX7_told_174
    · rw [if_neg c146] at h
      refine V_icmpge_f (tgt := 173) dX7_told_146 (by decide) c146 ?_
      refine V_iload_n dX7_told_149 rfl ?_
      refine V_aload_n dX7_told_150 rfl ?_
      refine V_iload_n dX7_told_151 rfl ?_
      obtain ⟨x9, y10, h⟩ := bi_o h
      refine V_callV (as := [.int v3]) (q := 85) (rest := [.int v2]) dX7_told_152 ov_mX7_isGap lk_RX7_205 (by decide) (by decide) rfl rfl (Nat.le_of_ble_eq_true rfl) (tq_85 hG) rfl (VM_X7_isGap G μ hG v3 _ y10) ?_
      by_cases c155 : x9 = true
      · rw [if_pos c155] at h
        refine V_ifeq_f (tgt := 164) dX7_told_155 (by decide) (b2i_t.mp c155) ?_
        refine V_iconst (v := 1) dX7_told_158 rfl ?_
        refine V_iload_n dX7_told_159 rfl ?_
        refine V_ishl dX7_told_160 ?_
        refine V_goto (tgt := 165) dX7_told_161 (by decide) ?_
        exact V_wk [true, false, false, true] rfl (T_X7_told_165 G fu hG (D_X7_told_143 fu n) ih _ _ _ _ _ h)
      · rw [if_neg c155] at h
        refine V_ifeq_t (tgt := 164) dX7_told_155 (by decide) (b2i_f.mp c155) ?_
        refine V_iconst (v := 0) dX7_told_164 rfl ?_
        exact V_wk [true, false, false, true] rfl (T_X7_told_165 G fu hG (D_X7_told_143 fu n) ih _ _ _ _ _ h)
def D_X7_told_135 (fu : Nat)  (s1 : Int32) (μ : Mem) : Option (Int32 × Mem) :=
  (D_X7_standingBits_0 fu μ s1).bind fun x11 =>
  some (x11, μ)
set_option maxRecDepth 20000 in
theorem T_X7_told_135 (G : GX) (fu : Nat)  (hG : gt G = tbl) : ∀ (s1 : Int32) (μ : Mem) (r : (Int32 × Mem)) , D_X7_told_135 fu s1 μ = some r → V G mX7_told 135 [none, none, none, none] [.int s1, .ref 85] μ (.inl (some (.int r.1))) (r.2) := by
  intro s1 μ r h
  unfold D_X7_told_135 at h
  obtain ⟨x11, y12, h⟩ := bi_o h
  refine V_callV (as := [.int s1]) (q := 85) (rest := []) dX7_told_135 ov_mX7_standingBits lk_RX7_410 (by decide) (by decide) rfl rfl (Nat.le_of_ble_eq_true rfl) (tq_85 hG) rfl (VM_X7_standingBits G fu μ hG s1 _ y12) ?_
  cases h
  exact V_iret rfl dX7_told_138
def D_X7_told_0 (fu : Nat)  (a1 : Int32) (μ : Mem) : Option (Int32 × Mem) :=
  vl (wI μ 85 0 0) fun m1 =>
  (D_X7_within_0 m1 ((a1 : Int32).toInt64) 0 10).bind fun x3 =>
  (D_X7_needs_0 (b2i x3) 1 1 m1).bind fun x5 =>
  if x5.1 = true then
    if a1 = (10 : Int32) then
      (D_X7_signersBits_0 fu x5.2).bind fun x7 =>
      some (x7, x5.2)
    else
      if (3 : Int32) ≤ a1 then
        if (6 : Int32) ≤ a1 then
          if a1 = (6 : Int32) then
            some (x5.2.1 85 29, x5.2)
          else
            if a1 ≤ (7 : Int32) then
              D_X7_told_143 fu fu 0 0 x5.2
            else
              if a1 = (8 : Int32) then
                D_X7_told_135 fu 1 x5.2
              else
                D_X7_told_135 fu 2 x5.2
        else
          if a1 = (3 : Int32) then
            some (x5.2.1 85 30, x5.2)
          else
            if a1 = (4 : Int32) then
              some (x5.2.1 85 31, x5.2)
            else
              some (x5.2.1 85 32, x5.2)
      else
        if a1 = 0 then
          (D_X7_eventsOf_0 fu x5.2 0).bind fun x13 =>
          some (x13, x5.2)
        else
          if a1 = (1 : Int32) then
            (D_X7_eventsOf_0 fu x5.2 4).bind fun x15 =>
            some (x15, x5.2)
          else
            some (x5.2.1 85 5, x5.2)
  else
    some (0, x5.2)
set_option maxRecDepth 20000 in
theorem T_X7_told_0 (G : GX) (fu : Nat)  (hG : gt G = tbl) : ∀ (a1 : Int32) (μ : Mem) (r : (Int32 × Mem)) , D_X7_told_0 fu a1 μ = some r → V G mX7_told 0 [some (.ref 85), some (.int a1), none, none] [] μ (.inl (some (.int r.1))) (r.2) := by
  intro a1 μ r h
  unfold D_X7_told_0 at h
  refine V_aload_n dX7_told_0 rfl ?_
  refine V_iconst (v := 0) dX7_told_1 rfl ?_
  obtain ⟨m1, e2, h⟩ := vl_o h
  refine V_putI (kf := 0) k_X7 (by decide) lk_RX7_1 rfl rfl (by decide +kernel) dX7_told_2 (tq_85 hG) rfl e2.symm ?_
  refine V_aload_n dX7_told_5 rfl ?_
  refine V_iload_n dX7_told_6 rfl ?_
  refine V_i2l dX7_told_7 ?_
  refine V_lconst (v := 0) dX7_told_8 rfl ?_
  refine V_ldc2 (v := 10) dX7_told_9 lk_RX7_252 ?_
  obtain ⟨x3, y4, h⟩ := bi_o h
  refine V_callS (as := [.long ((a1 : Int32).toInt64), .long 0, .long 10]) (rest := [.ref 85]) dX7_told_12 os_mX7_within rfl lk_RX7_352 (by decide) (by decide) rfl rfl (Nat.le_of_ble_eq_true rfl) (VM_X7_within G m1 hG ((a1 : Int32).toInt64) 0 10 _ y4) ?_
  refine V_iconst (v := 1) dX7_told_15 rfl ?_
  refine V_iconst (v := 1) dX7_told_16 rfl ?_
  obtain ⟨x5, y6, h⟩ := bi_o h
  refine V_callV (as := [.int (b2i x3), .int 1, .int 1]) (q := 85) (rest := []) dX7_told_17 ov_mX7_needs lk_RX7_346 (by decide) (by decide) rfl rfl (Nat.le_of_ble_eq_true rfl) (tq_85 hG) rfl (VM_X7_needs G hG (b2i x3) 1 1 m1 _ y6) ?_
  by_cases c20 : x5.1 = true
  · rw [if_pos c20] at h
    refine V_ifne_t (tgt := 25) dX7_told_20 (by decide) (b2i_t.mp c20) ?_
    refine V_iload_n dX7_told_25 rfl ?_
    refine V_bipush (v := 10) dX7_told_26 rfl ?_
    by_cases c28 : a1 = (10 : Int32)
    · rw [if_pos c28] at h
      refine V_icmpne_f (tgt := 36) dX7_told_28 (by decide) c28 ?_
      refine V_aload_n dX7_told_31 rfl ?_
      obtain ⟨x7, y8, h⟩ := bi_o h
      refine V_callV (as := []) (q := 85) (rest := []) dX7_told_32 ov_mX7_signersBits lk_RX7_406 (by decide) (by decide) rfl rfl (Nat.le_of_ble_eq_true rfl) (tq_85 hG) rfl (VM_X7_signersBits G fu x5.2 hG _ y8) ?_
      cases h
      exact V_iret rfl dX7_told_35
    · rw [if_neg c28] at h
      refine V_icmpne_t (tgt := 36) dX7_told_28 (by decide) c28 ?_
      refine V_iload_n dX7_told_36 rfl ?_
      refine V_iconst (v := 3) dX7_told_37 rfl ?_
      by_cases c38 : (3 : Int32) ≤ a1
      · rw [if_pos c38] at h
        refine V_icmpge_t (tgt := 71) dX7_told_38 (by decide) c38 ?_
        refine V_iload_n dX7_told_71 rfl ?_
        refine V_bipush (v := 6) dX7_told_72 rfl ?_
        by_cases c74 : (6 : Int32) ≤ a1
        · rw [if_pos c74] at h
          refine V_icmpge_t (tgt := 106) dX7_told_74 (by decide) c74 ?_
          refine V_iload_n dX7_told_106 rfl ?_
          refine V_bipush (v := 6) dX7_told_107 rfl ?_
          by_cases c109 : a1 = (6 : Int32)
          · rw [if_pos c109] at h
            refine V_icmpne_f (tgt := 117) dX7_told_109 (by decide) c109 ?_
            refine V_aload_n dX7_told_112 rfl ?_
            refine V_getI (kf := 29) k_X7 (by decide) lk_RX7_149 rfl dX7_told_113 (tq_85 hG) rfl ?_
            cases h
            exact V_iret rfl dX7_told_116
          · rw [if_neg c109] at h
            refine V_icmpne_t (tgt := 117) dX7_told_109 (by decide) c109 ?_
            refine V_iload_n dX7_told_117 rfl ?_
            refine V_bipush (v := 7) dX7_told_118 rfl ?_
            by_cases c120 : a1 ≤ (7 : Int32)
            · rw [if_pos c120] at h
              refine V_icmple_t (tgt := 139) dX7_told_120 (by decide) c120 ?_
              refine V_iconst (v := 0) dX7_told_139 rfl ?_
              refine V_istore_n (lv2 := [some (.ref 85), some (.int a1), some (.int 0), none]) dX7_told_140 (by decide) rfl ?_
              refine V_iconst (v := 0) dX7_told_141 rfl ?_
              refine V_istore_n (lv2 := [some (.ref 85), some (.int a1), some (.int 0), some (.int 0)]) dX7_told_142 (by decide) rfl ?_
              exact V_wk [true, false, true, true] rfl (T_X7_told_143 G fu hG fu _ _ _ _ h)
            · rw [if_neg c120] at h
              refine V_icmple_f (tgt := 139) dX7_told_120 (by decide) c120 ?_
              refine V_aload_n dX7_told_123 rfl ?_
              refine V_iload_n dX7_told_124 rfl ?_
              refine V_bipush (v := 8) dX7_told_125 rfl ?_
              by_cases c127 : a1 = (8 : Int32)
              · rw [if_pos c127] at h
                refine V_icmpne_f (tgt := 134) dX7_told_127 (by decide) c127 ?_
                refine V_iconst (v := 1) dX7_told_130 rfl ?_
                refine V_goto (tgt := 135) dX7_told_131 (by decide) ?_
                exact V_wk [false, false, false, false] rfl (T_X7_told_135 G fu hG _ _ _ h)
              · rw [if_neg c127] at h
                refine V_icmpne_t (tgt := 134) dX7_told_127 (by decide) c127 ?_
                refine V_iconst (v := 2) dX7_told_134 rfl ?_
                exact V_wk [false, false, false, false] rfl (T_X7_told_135 G fu hG _ _ _ h)
        · rw [if_neg c74] at h
          refine V_icmpge_f (tgt := 106) dX7_told_74 (by decide) c74 ?_
          refine V_iload_n dX7_told_77 rfl ?_
          refine V_iconst (v := 3) dX7_told_78 rfl ?_
          by_cases c79 : a1 = (3 : Int32)
          · rw [if_pos c79] at h
            refine V_icmpne_f (tgt := 89) dX7_told_79 (by decide) c79 ?_
            refine V_aload_n dX7_told_82 rfl ?_
            refine V_getI (kf := 30) k_X7 (by decide) lk_RX7_152 rfl dX7_told_83 (tq_85 hG) rfl ?_
            refine V_goto (tgt := 105) dX7_told_86 (by decide) ?_
            cases h
            exact V_iret rfl dX7_told_105
          · rw [if_neg c79] at h
            refine V_icmpne_t (tgt := 89) dX7_told_79 (by decide) c79 ?_
            refine V_iload_n dX7_told_89 rfl ?_
            refine V_iconst (v := 4) dX7_told_90 rfl ?_
            by_cases c91 : a1 = (4 : Int32)
            · rw [if_pos c91] at h
              refine V_icmpne_f (tgt := 101) dX7_told_91 (by decide) c91 ?_
              refine V_aload_n dX7_told_94 rfl ?_
              refine V_getI (kf := 31) k_X7 (by decide) lk_RX7_155 rfl dX7_told_95 (tq_85 hG) rfl ?_
              refine V_goto (tgt := 105) dX7_told_98 (by decide) ?_
              cases h
              exact V_iret rfl dX7_told_105
            · rw [if_neg c91] at h
              refine V_icmpne_t (tgt := 101) dX7_told_91 (by decide) c91 ?_
              refine V_aload_n dX7_told_101 rfl ?_
              refine V_getI (kf := 32) k_X7 (by decide) lk_RX7_158 rfl dX7_told_102 (tq_85 hG) rfl ?_
              cases h
              exact V_iret rfl dX7_told_105
      · rw [if_neg c38] at h
        refine V_icmpge_f (tgt := 71) dX7_told_38 (by decide) c38 ?_
        refine V_iload_n dX7_told_41 rfl ?_
        by_cases c42 : a1 = 0
        · rw [if_pos c42] at h
          refine V_ifne_f (tgt := 53) dX7_told_42 (by decide) c42 ?_
          refine V_aload_n dX7_told_45 rfl ?_
          refine V_iconst (v := 0) dX7_told_46 rfl ?_
          obtain ⟨x13, y14, h⟩ := bi_o h
          refine V_callV (as := [.int 0]) (q := 85) (rest := []) dX7_told_47 ov_mX7_eventsOf lk_RX7_362 (by decide) (by decide) rfl rfl (Nat.le_of_ble_eq_true rfl) (tq_85 hG) rfl (VM_X7_eventsOf G fu x5.2 hG 0 _ y14) ?_
          refine V_goto (tgt := 70) dX7_told_50 (by decide) ?_
          cases h
          exact V_iret rfl dX7_told_70
        · rw [if_neg c42] at h
          refine V_ifne_t (tgt := 53) dX7_told_42 (by decide) c42 ?_
          refine V_iload_n dX7_told_53 rfl ?_
          refine V_iconst (v := 1) dX7_told_54 rfl ?_
          by_cases c55 : a1 = (1 : Int32)
          · rw [if_pos c55] at h
            refine V_icmpne_f (tgt := 66) dX7_told_55 (by decide) c55 ?_
            refine V_aload_n dX7_told_58 rfl ?_
            refine V_iconst (v := 4) dX7_told_59 rfl ?_
            obtain ⟨x15, y16, h⟩ := bi_o h
            refine V_callV (as := [.int 4]) (q := 85) (rest := []) dX7_told_60 ov_mX7_eventsOf lk_RX7_362 (by decide) (by decide) rfl rfl (Nat.le_of_ble_eq_true rfl) (tq_85 hG) rfl (VM_X7_eventsOf G fu x5.2 hG 4 _ y16) ?_
            refine V_goto (tgt := 70) dX7_told_63 (by decide) ?_
            cases h
            exact V_iret rfl dX7_told_70
          · rw [if_neg c55] at h
            refine V_icmpne_t (tgt := 66) dX7_told_55 (by decide) c55 ?_
            refine V_aload_n dX7_told_66 rfl ?_
            refine V_getI (kf := 5) k_X7 (by decide) lk_RX7_17 rfl dX7_told_67 (tq_85 hG) rfl ?_
            cases h
            exact V_iret rfl dX7_told_70
  · rw [if_neg c20] at h
    refine V_ifne_f (tgt := 25) dX7_told_20 (by decide) (b2i_f.mp c20) ?_
    refine V_iconst (v := 0) dX7_told_23 rfl ?_
    cases h
    exact V_iret rfl dX7_told_24
theorem VM_X7_told (G : GX) (fu : Nat)  (hG : gt G = tbl) (a1 : Int32) (μ : Mem) (r : (Int32 × Mem)) (h : D_X7_told_0 fu a1 μ = some r) : VM G mX7_told [.ref 85, .int a1] μ (.inl (some (.int r.1))) (r.2) := V_entry ok_mX7_told rfl rfl (Nat.le_of_ble_eq_true rfl) (T_X7_told_0 G fu hG a1 μ r h)
def D_X7_isEvent_0  (a1 : Int32) (μ : Mem) : Option (Bool × Mem) :=
  (D_X7_within_0 μ ((a1 : Int32).toInt64) 0 (((μ.1 85 5) - 1 : Int32).toInt64)).bind fun x1 =>
  (D_X7_needs_0 (b2i x1) 1 0 μ).bind fun x3 =>
  some (x3.1, x3.2)
set_option maxRecDepth 20000 in
theorem T_X7_isEvent_0 (G : GX)  (hG : gt G = tbl) : ∀ (a1 : Int32) (μ : Mem) (r : (Bool × Mem)) , D_X7_isEvent_0  a1 μ = some r → V G mX7_isEvent 0 [some (.ref 85), some (.int a1)] [] μ (.inl (some (.int (b2i r.1)))) (r.2) := by
  intro a1 μ r h
  unfold D_X7_isEvent_0 at h
  refine V_aload_n dX7_isEvent_0 rfl ?_
  refine V_iload_n dX7_isEvent_1 rfl ?_
  refine V_i2l dX7_isEvent_2 ?_
  refine V_lconst (v := 0) dX7_isEvent_3 rfl ?_
  refine V_aload_n dX7_isEvent_4 rfl ?_
  refine V_getI (kf := 5) k_X7 (by decide) lk_RX7_17 rfl dX7_isEvent_5 (tq_85 hG) rfl ?_
  refine V_iconst (v := 1) dX7_isEvent_8 rfl ?_
  refine V_isub dX7_isEvent_9 ?_
  refine V_i2l dX7_isEvent_10 ?_
  obtain ⟨x1, y2, h⟩ := bi_o h
  refine V_callS (as := [.long ((a1 : Int32).toInt64), .long 0, .long (((μ.1 85 5) - 1 : Int32).toInt64)]) (rest := [.ref 85]) dX7_isEvent_11 os_mX7_within rfl lk_RX7_352 (by decide) (by decide) rfl rfl (Nat.le_of_ble_eq_true rfl) (VM_X7_within G μ hG ((a1 : Int32).toInt64) 0 (((μ.1 85 5) - 1 : Int32).toInt64) _ y2) ?_
  refine V_iconst (v := 1) dX7_isEvent_14 rfl ?_
  refine V_iconst (v := 0) dX7_isEvent_15 rfl ?_
  obtain ⟨x3, y4, h⟩ := bi_o h
  refine V_callV (as := [.int (b2i x1), .int 1, .int 0]) (q := 85) (rest := []) dX7_isEvent_16 ov_mX7_needs lk_RX7_346 (by decide) (by decide) rfl rfl (Nat.le_of_ble_eq_true rfl) (tq_85 hG) rfl (VM_X7_needs G hG (b2i x1) 1 0 μ _ y4) ?_
  cases h
  exact V_zret rfl (b2i_nar _) dX7_isEvent_19
theorem VM_X7_isEvent (G : GX)  (hG : gt G = tbl) (a1 : Int32) (μ : Mem) (r : (Bool × Mem)) (h : D_X7_isEvent_0  a1 μ = some r) : VM G mX7_isEvent [.ref 85, .int a1] μ (.inl (some (.int (b2i r.1)))) (r.2) := V_entry ok_mX7_isEvent rfl rfl (Nat.le_of_ble_eq_true rfl) (T_X7_isEvent_0 G hG a1 μ r h)
def D_X7_event_61  (v1 : Int32) (μ : Mem) : Option (Int32 × Mem) :=
  gu (ib v1 160) <|
  some (μ.1 88 (Int32.toNatClampNeg v1), μ)
set_option maxRecDepth 20000 in
theorem T_X7_event_61 (G : GX)  (hG : gt G = tbl) : ∀ (v1 : Int32) (μ : Mem) (r : (Int32 × Mem)) , D_X7_event_61  v1 μ = some r → V G mX7_event 61 [some (.ref 85), some (.int v1), none] [] μ (.inl (some (.int r.1))) (r.2) := by
  intro v1 μ r h
  unfold D_X7_event_61 at h
  refine V_aload_n dX7_event_61 rfl ?_
  refine V_getR (kf := 3) k_X7 (by decide) lk_RX7_20 rfl dX7_event_62 (tq_85 hG) rfl ?_
  refine V_iload_n dX7_event_65 rfl ?_
  obtain ⟨g11, h⟩ := gu_o h
  refine V_iaload dX7_event_66 (tq_88 hG) (ib_in g11) ?_
  refine V_goto (tgt := 76) dX7_event_67 (by decide) ?_
  cases h
  exact V_iret rfl dX7_event_76
def D_X7_event_0  (a1 : Int32) (a2 : Int32) (μ : Mem) : Option (Int32 × Mem) :=
  vl (wI μ 85 0 0) fun m1 =>
  (D_X7_isEvent_0 a1 m1).bind fun x3 =>
  if x3.1 = true then
    (D_X7_within_0 x3.2 ((a2 : Int32).toInt64) 0 1).bind fun x5 =>
    (D_X7_needs_0 (b2i x5) 2 1 x3.2).bind fun x7 =>
    if x7.1 = true then
      if a2 = 0 then
        gu (ib a1 160) <|
        some (x7.2.1 87 (Int32.toNatClampNeg a1), x7.2)
      else
        gu (ib a1 160) <|
        if (x7.2.1 87 (Int32.toNatClampNeg a1)) = 0 then
          D_X7_event_61 a1 x7.2
        else
          gu (ib a1 160) <|
          if (x7.2.1 87 (Int32.toNatClampNeg a1)) = (4 : Int32) then
            D_X7_event_61 a1 x7.2
          else
            (D_X7_tell_0 x7.2 a1 0).bind fun x13 =>
            some (x13, x7.2)
    else
      some (0, x7.2)
  else
    some (0, x3.2)
set_option maxRecDepth 20000 in
theorem T_X7_event_0 (G : GX)  (hG : gt G = tbl) : ∀ (a1 : Int32) (a2 : Int32) (μ : Mem) (r : (Int32 × Mem)) , D_X7_event_0  a1 a2 μ = some r → V G mX7_event 0 [some (.ref 85), some (.int a1), some (.int a2)] [] μ (.inl (some (.int r.1))) (r.2) := by
  intro a1 a2 μ r h
  unfold D_X7_event_0 at h
  refine V_aload_n dX7_event_0 rfl ?_
  refine V_iconst (v := 0) dX7_event_1 rfl ?_
  obtain ⟨m1, e2, h⟩ := vl_o h
  refine V_putI (kf := 0) k_X7 (by decide) lk_RX7_1 rfl rfl (by decide +kernel) dX7_event_2 (tq_85 hG) rfl e2.symm ?_
  refine V_aload_n dX7_event_5 rfl ?_
  refine V_iload_n dX7_event_6 rfl ?_
  obtain ⟨x3, y4, h⟩ := bi_o h
  refine V_callV (as := [.int a1]) (q := 85) (rest := []) dX7_event_7 ov_mX7_isEvent lk_RX7_413 (by decide) (by decide) rfl rfl (Nat.le_of_ble_eq_true rfl) (tq_85 hG) rfl (VM_X7_isEvent G hG a1 m1 _ y4) ?_
  by_cases c10 : x3.1 = true
  · rw [if_pos c10] at h
    refine V_ifeq_f (tgt := 29) dX7_event_10 (by decide) (b2i_t.mp c10) ?_
    refine V_aload_n dX7_event_13 rfl ?_
    refine V_iload_n dX7_event_14 rfl ?_
    refine V_i2l dX7_event_15 ?_
    refine V_lconst (v := 0) dX7_event_16 rfl ?_
    refine V_lconst (v := 1) dX7_event_17 rfl ?_
    obtain ⟨x5, y6, h⟩ := bi_o h
    refine V_callS (as := [.long ((a2 : Int32).toInt64), .long 0, .long 1]) (rest := [.ref 85]) dX7_event_18 os_mX7_within rfl lk_RX7_352 (by decide) (by decide) rfl rfl (Nat.le_of_ble_eq_true rfl) (VM_X7_within G x3.2 hG ((a2 : Int32).toInt64) 0 1 _ y6) ?_
    refine V_iconst (v := 2) dX7_event_21 rfl ?_
    refine V_iconst (v := 1) dX7_event_22 rfl ?_
    obtain ⟨x7, y8, h⟩ := bi_o h
    refine V_callV (as := [.int (b2i x5), .int 2, .int 1]) (q := 85) (rest := []) dX7_event_23 ov_mX7_needs lk_RX7_346 (by decide) (by decide) rfl rfl (Nat.le_of_ble_eq_true rfl) (tq_85 hG) rfl (VM_X7_needs G hG (b2i x5) 2 1 x3.2 _ y8) ?_
    by_cases c26 : x7.1 = true
    · rw [if_pos c26] at h
      refine V_ifne_t (tgt := 31) dX7_event_26 (by decide) (b2i_t.mp c26) ?_
      refine V_iload_n dX7_event_31 rfl ?_
      by_cases c32 : a2 = 0
      · rw [if_pos c32] at h
        refine V_ifne_f (tgt := 42) dX7_event_32 (by decide) c32 ?_
        refine V_aload_n dX7_event_35 rfl ?_
        refine V_getR (kf := 2) k_X7 (by decide) lk_RX7_14 rfl dX7_event_36 (tq_85 hG) rfl ?_
        refine V_iload_n dX7_event_39 rfl ?_
        obtain ⟨g9, h⟩ := gu_o h
        refine V_iaload dX7_event_40 (tq_87 hG) (ib_in g9) ?_
        cases h
        exact V_iret rfl dX7_event_41
      · rw [if_neg c32] at h
        refine V_ifne_t (tgt := 42) dX7_event_32 (by decide) c32 ?_
        refine V_aload_n dX7_event_42 rfl ?_
        refine V_getR (kf := 2) k_X7 (by decide) lk_RX7_14 rfl dX7_event_43 (tq_85 hG) rfl ?_
        refine V_iload_n dX7_event_46 rfl ?_
        obtain ⟨g10, h⟩ := gu_o h
        refine V_iaload dX7_event_47 (tq_87 hG) (ib_in g10) ?_
        by_cases c48 : (x7.2.1 87 (Int32.toNatClampNeg a1)) = 0
        · rw [if_pos c48] at h
          refine V_ifeq_t (tgt := 61) dX7_event_48 (by decide) c48 ?_
          exact V_wk [true, true, false] rfl (T_X7_event_61 G hG _ _ _ h)
        · rw [if_neg c48] at h
          refine V_ifeq_f (tgt := 61) dX7_event_48 (by decide) c48 ?_
          refine V_aload_n dX7_event_51 rfl ?_
          refine V_getR (kf := 2) k_X7 (by decide) lk_RX7_14 rfl dX7_event_52 (tq_85 hG) rfl ?_
          refine V_iload_n dX7_event_55 rfl ?_
          obtain ⟨g12, h⟩ := gu_o h
          refine V_iaload dX7_event_56 (tq_87 hG) (ib_in g12) ?_
          refine V_iconst (v := 4) dX7_event_57 rfl ?_
          by_cases c58 : (x7.2.1 87 (Int32.toNatClampNeg a1)) = (4 : Int32)
          · rw [if_pos c58] at h
            refine V_icmpne_f (tgt := 70) dX7_event_58 (by decide) c58 ?_
            exact V_wk [true, true, false] rfl (T_X7_event_61 G hG _ _ _ h)
          · rw [if_neg c58] at h
            refine V_icmpne_t (tgt := 70) dX7_event_58 (by decide) c58 ?_
            refine V_aload_n dX7_event_70 rfl ?_
            refine V_iload_n dX7_event_71 rfl ?_
            refine V_iconst (v := 0) dX7_event_72 rfl ?_
            obtain ⟨x13, y14, h⟩ := bi_o h
            refine V_callV (as := [.int a1, .int 0]) (q := 85) (rest := []) dX7_event_73 ov_mX7_tell lk_RX7_289 (by decide) (by decide) rfl rfl (Nat.le_of_ble_eq_true rfl) (tq_85 hG) rfl (VM_X7_tell G x7.2 hG a1 0 _ y14) ?_
            cases h
            exact V_iret rfl dX7_event_76
    · rw [if_neg c26] at h
      refine V_ifne_f (tgt := 31) dX7_event_26 (by decide) (b2i_f.mp c26) ?_
      refine V_iconst (v := 0) dX7_event_29 rfl ?_
      cases h
      exact V_iret rfl dX7_event_30
  · rw [if_neg c10] at h
    refine V_ifeq_t (tgt := 29) dX7_event_10 (by decide) (b2i_f.mp c10) ?_
    refine V_iconst (v := 0) dX7_event_29 rfl ?_
    cases h
    exact V_iret rfl dX7_event_30
theorem VM_X7_event (G : GX)  (hG : gt G = tbl) (a1 : Int32) (a2 : Int32) (μ : Mem) (r : (Int32 × Mem)) (h : D_X7_event_0  a1 a2 μ = some r) : VM G mX7_event [.ref 85, .int a1, .int a2] μ (.inl (some (.int r.1))) (r.2) := V_entry ok_mX7_event rfl rfl (Nat.le_of_ble_eq_true rfl) (T_X7_event_0 G hG a1 a2 μ r h)
def D_X7_rungAt_2 (fu : Nat) (μ : Mem)  : Nat → Int32 → Int32 → Option Int32
  | 0, _, _ => none
  | n + 1, v1, v2 =>
    gu (ib v1 40) <|
    (D_X7_rungOf_0 μ (μ.1 92 (Int32.toNatClampNeg v1)) v2).bind fun x2 =>
    if x2 = v1 then
      some v2
    else
      (D_X7_rungAt_2 fu μ n) v1 (v2 + 1)
set_option maxRecDepth 20000 in
theorem T_X7_rungAt_2 (G : GX) (fu : Nat) (μ : Mem)  (hG : gt G = tbl) : ∀ (n : Nat) (v1 : Int32) (v2 : Int32) (r : Int32) , D_X7_rungAt_2 fu μ n v1 v2 = some r → V G mX7_rungAt 2 [some (.ref 85), some (.int v1), some (.int v2)] [] μ (.inl (some (.int r))) (μ) := by
  intro n
  induction n with
  | zero =>
    intro v1 v2 r h
    exact nomatch (show (none : Option Int32) = some r from h)
  | succ n ih =>
    intro v1 v2 r h
    rw [D_X7_rungAt_2] at h
    refine V_aload_n dX7_rungAt_2 rfl ?_
    refine V_aload_n dX7_rungAt_3 rfl ?_
    refine V_getR (kf := 8) k_X7 (by decide) lk_RX7_36 rfl dX7_rungAt_4 (tq_85 hG) rfl ?_
    refine V_iload_n dX7_rungAt_7 rfl ?_
    obtain ⟨g1, h⟩ := gu_o h
    refine V_iaload dX7_rungAt_8 (tq_92 hG) (ib_in g1) ?_
    refine V_iload_n dX7_rungAt_9 rfl ?_
    obtain ⟨x2, y3, h⟩ := bi_o h
    refine V_callV (as := [.int (μ.1 92 (Int32.toNatClampNeg v1)), .int v2]) (q := 85) (rest := []) dX7_rungAt_10 ov_mX7_rungOf lk_RX7_161 (by decide) (by decide) rfl rfl (Nat.le_of_ble_eq_true rfl) (tq_85 hG) rfl (VM_X7_rungOf G μ hG (μ.1 92 (Int32.toNatClampNeg v1)) v2 _ y3) ?_
    refine V_iload_n dX7_rungAt_13 rfl ?_
    by_cases c14 : x2 = v1
    · rw [if_pos c14] at h
      refine V_icmpeq_t (tgt := 23) dX7_rungAt_14 (by decide) c14 ?_
      refine V_iload_n dX7_rungAt_23 rfl ?_
      cases h
      exact V_iret rfl dX7_rungAt_24
    · rw [if_neg c14] at h
      refine V_icmpeq_f (tgt := 23) dX7_rungAt_14 (by decide) c14 ?_
      refine V_iinc (v := v2 + 1) (lv2 := [some (.ref 85), some (.int v1), some (.int (v2 + 1))]) dX7_rungAt_17 rfl rfl (by decide) rfl ?_
      refine V_goto (tgt := 2) dX7_rungAt_20 (by decide) ?_
      exact V_wk [true, true, true] rfl (ih _ _ _ h)
def D_X7_rungAt_0 (fu : Nat) (μ : Mem)  (a1 : Int32) : Option Int32 :=
  D_X7_rungAt_2 fu μ fu a1 0
set_option maxRecDepth 20000 in
theorem T_X7_rungAt_0 (G : GX) (fu : Nat) (μ : Mem)  (hG : gt G = tbl) : ∀ (a1 : Int32) (r : Int32) , D_X7_rungAt_0 fu μ a1 = some r → V G mX7_rungAt 0 [some (.ref 85), some (.int a1), none] [] μ (.inl (some (.int r))) (μ) := by
  intro a1 r h
  unfold D_X7_rungAt_0 at h
  refine V_iconst (v := 0) dX7_rungAt_0 rfl ?_
  refine V_istore_n (lv2 := [some (.ref 85), some (.int a1), some (.int 0)]) dX7_rungAt_1 (by decide) rfl ?_
  exact V_wk [true, true, true] rfl (T_X7_rungAt_2 G fu μ hG fu _ _ _ h)
theorem VM_X7_rungAt (G : GX) (fu : Nat) (μ : Mem)  (hG : gt G = tbl) (a1 : Int32) (r : Int32) (h : D_X7_rungAt_0 fu μ a1 = some r) : VM G mX7_rungAt [.ref 85, .int a1] μ (.inl (some (.int r))) (μ) := V_entry ok_mX7_rungAt rfl rfl (Nat.le_of_ble_eq_true rfl) (T_X7_rungAt_0 G fu μ hG a1 r h)
def D_X7_layer_0 (fu : Nat)  (a1 : Int32) (a2 : Int32) (μ : Mem) : Option (Int64 × Mem) :=
  vl (wI μ 85 0 0) fun m1 =>
  (D_X7_isOne_0 a1 1 m1).bind fun x3 =>
  if x3.1 = true then
    (D_X7_within_0 x3.2 ((a2 : Int32).toInt64) 0 10).bind fun x5 =>
    (D_X7_needs_0 (b2i x5) 2 1 x3.2).bind fun x7 =>
    if x7.1 = true then
      if (4 : Int32) ≤ a2 then
        if (7 : Int32) ≤ a2 then
          if a2 = (7 : Int32) then
            gu (ib a1 40) <|
            some ((x7.2.1 96 (Int32.toNatClampNeg a1) : Int32).toInt64, x7.2)
          else
            if a2 = (8 : Int32) then
              (D_X7_signedTenths_0 fu x7.2 a1).bind fun x10 =>
              some ((10 - x10 : Int32).toInt64, x7.2)
            else
              if a2 = (9 : Int32) then
                (D_X7_rungAt_0 fu x7.2 a1).bind fun x12 =>
                some ((x12 : Int32).toInt64, x7.2)
              else
                (D_X7_left_0 x7.2 a1).bind fun x14 =>
                if x14 = (0 : Int64) then
                  some (1, x7.2)
                else
                  some (0, x7.2)
        else
          if a2 = (4 : Int32) then
            gu (ib a1 40) <|
            some (x7.2.2.1 99 (Int32.toNatClampNeg a1), x7.2)
          else
            if a2 = (5 : Int32) then
              (D_X7_left_0 x7.2 a1).bind fun x17 =>
              some (x17, x7.2)
            else
              (D_X7_holeOf_0 x7.2 a1).bind fun x19 =>
              some ((x19 : Int32).toInt64, x7.2)
      else
        if a2 = 0 then
          gu (ib a1 40) <|
          some ((x7.2.1 92 (Int32.toNatClampNeg a1) : Int32).toInt64, x7.2)
        else
          if a2 = (1 : Int32) then
            gu (ib a1 40) <|
            some ((x7.2.1 93 (Int32.toNatClampNeg a1) : Int32).toInt64, x7.2)
          else
            if a2 = (2 : Int32) then
              gu (ib a1 40) <|
              some ((x7.2.1 94 (Int32.toNatClampNeg a1) : Int32).toInt64, x7.2)
            else
              gu (ib a1 40) <|
              some ((x7.2.1 95 (Int32.toNatClampNeg a1) : Int32).toInt64, x7.2)
    else
      some (0, x7.2)
  else
    some (0, x3.2)
set_option maxRecDepth 20000 in
theorem T_X7_layer_0 (G : GX) (fu : Nat)  (hG : gt G = tbl) : ∀ (a1 : Int32) (a2 : Int32) (μ : Mem) (r : (Int64 × Mem)) , D_X7_layer_0 fu a1 a2 μ = some r → V G mX7_layer 0 [some (.ref 85), some (.int a1), some (.int a2)] [] μ (.inl (some (.long r.1))) (r.2) := by
  intro a1 a2 μ r h
  unfold D_X7_layer_0 at h
  refine V_aload_n dX7_layer_0 rfl ?_
  refine V_iconst (v := 0) dX7_layer_1 rfl ?_
  obtain ⟨m1, e2, h⟩ := vl_o h
  refine V_putI (kf := 0) k_X7 (by decide) lk_RX7_1 rfl rfl (by decide +kernel) dX7_layer_2 (tq_85 hG) rfl e2.symm ?_
  refine V_aload_n dX7_layer_5 rfl ?_
  refine V_iload_n dX7_layer_6 rfl ?_
  refine V_iconst (v := 1) dX7_layer_7 rfl ?_
  obtain ⟨x3, y4, h⟩ := bi_o h
  refine V_callV (as := [.int a1, .int 1]) (q := 85) (rest := []) dX7_layer_8 ov_mX7_isOne lk_RX7_374 (by decide) (by decide) rfl rfl (Nat.le_of_ble_eq_true rfl) (tq_85 hG) rfl (VM_X7_isOne G hG a1 1 m1 _ y4) ?_
  by_cases c11 : x3.1 = true
  · rw [if_pos c11] at h
    refine V_ifeq_f (tgt := 32) dX7_layer_11 (by decide) (b2i_t.mp c11) ?_
    refine V_aload_n dX7_layer_14 rfl ?_
    refine V_iload_n dX7_layer_15 rfl ?_
    refine V_i2l dX7_layer_16 ?_
    refine V_lconst (v := 0) dX7_layer_17 rfl ?_
    refine V_ldc2 (v := 10) dX7_layer_18 lk_RX7_252 ?_
    obtain ⟨x5, y6, h⟩ := bi_o h
    refine V_callS (as := [.long ((a2 : Int32).toInt64), .long 0, .long 10]) (rest := [.ref 85]) dX7_layer_21 os_mX7_within rfl lk_RX7_352 (by decide) (by decide) rfl rfl (Nat.le_of_ble_eq_true rfl) (VM_X7_within G x3.2 hG ((a2 : Int32).toInt64) 0 10 _ y6) ?_
    refine V_iconst (v := 2) dX7_layer_24 rfl ?_
    refine V_iconst (v := 1) dX7_layer_25 rfl ?_
    obtain ⟨x7, y8, h⟩ := bi_o h
    refine V_callV (as := [.int (b2i x5), .int 2, .int 1]) (q := 85) (rest := []) dX7_layer_26 ov_mX7_needs lk_RX7_346 (by decide) (by decide) rfl rfl (Nat.le_of_ble_eq_true rfl) (tq_85 hG) rfl (VM_X7_needs G hG (b2i x5) 2 1 x3.2 _ y8) ?_
    by_cases c29 : x7.1 = true
    · rw [if_pos c29] at h
      refine V_ifne_t (tgt := 34) dX7_layer_29 (by decide) (b2i_t.mp c29) ?_
      refine V_iload_n dX7_layer_34 rfl ?_
      refine V_iconst (v := 4) dX7_layer_35 rfl ?_
      by_cases c36 : (4 : Int32) ≤ a2
      · rw [if_pos c36] at h
        refine V_icmpge_t (tgt := 91) dX7_layer_36 (by decide) c36 ?_
        refine V_iload_n dX7_layer_91 rfl ?_
        refine V_bipush (v := 7) dX7_layer_92 rfl ?_
        by_cases c94 : (7 : Int32) ≤ a2
        · rw [if_pos c94] at h
          refine V_icmpge_t (tgt := 131) dX7_layer_94 (by decide) c94 ?_
          refine V_iload_n dX7_layer_131 rfl ?_
          refine V_bipush (v := 7) dX7_layer_132 rfl ?_
          by_cases c134 : a2 = (7 : Int32)
          · rw [if_pos c134] at h
            refine V_icmpne_f (tgt := 145) dX7_layer_134 (by decide) c134 ?_
            refine V_aload_n dX7_layer_137 rfl ?_
            refine V_getR (kf := 12) k_X7 (by decide) lk_RX7_48 rfl dX7_layer_138 (tq_85 hG) rfl ?_
            refine V_iload_n dX7_layer_141 rfl ?_
            obtain ⟨g9, h⟩ := gu_o h
            refine V_iaload dX7_layer_142 (tq_96 hG) (ib_in g9) ?_
            refine V_i2l dX7_layer_143 ?_
            cases h
            exact V_lret rfl dX7_layer_144
          · rw [if_neg c134] at h
            refine V_icmpne_t (tgt := 145) dX7_layer_134 (by decide) c134 ?_
            refine V_iload_n dX7_layer_145 rfl ?_
            refine V_bipush (v := 8) dX7_layer_146 rfl ?_
            by_cases c148 : a2 = (8 : Int32)
            · rw [if_pos c148] at h
              refine V_icmpne_f (tgt := 163) dX7_layer_148 (by decide) c148 ?_
              refine V_bipush (v := 10) dX7_layer_151 rfl ?_
              refine V_aload_n dX7_layer_153 rfl ?_
              refine V_iload_n dX7_layer_154 rfl ?_
              obtain ⟨x10, y11, h⟩ := bi_o h
              refine V_callV (as := [.int a1]) (q := 85) (rest := [.int 10]) dX7_layer_155 ov_mX7_signedTenths lk_RX7_286 (by decide) (by decide) rfl rfl (Nat.le_of_ble_eq_true rfl) (tq_85 hG) rfl (VM_X7_signedTenths G fu x7.2 hG a1 _ y11) ?_
              refine V_isub dX7_layer_158 ?_
              refine V_i2l dX7_layer_159 ?_
              refine V_goto (tgt := 193) dX7_layer_160 (by decide) ?_
              cases h
              exact V_lret rfl dX7_layer_193
            · rw [if_neg c148] at h
              refine V_icmpne_t (tgt := 163) dX7_layer_148 (by decide) c148 ?_
              refine V_iload_n dX7_layer_163 rfl ?_
              refine V_bipush (v := 9) dX7_layer_164 rfl ?_
              by_cases c166 : a2 = (9 : Int32)
              · rw [if_pos c166] at h
                refine V_icmpne_f (tgt := 178) dX7_layer_166 (by decide) c166 ?_
                refine V_aload_n dX7_layer_169 rfl ?_
                refine V_iload_n dX7_layer_170 rfl ?_
                obtain ⟨x12, y13, h⟩ := bi_o h
                refine V_callV (as := [.int a1]) (q := 85) (rest := []) dX7_layer_171 ov_mX7_rungAt lk_RX7_416 (by decide) (by decide) rfl rfl (Nat.le_of_ble_eq_true rfl) (tq_85 hG) rfl (VM_X7_rungAt G fu x7.2 hG a1 _ y13) ?_
                refine V_i2l dX7_layer_174 ?_
                refine V_goto (tgt := 193) dX7_layer_175 (by decide) ?_
                cases h
                exact V_lret rfl dX7_layer_193
              · rw [if_neg c166] at h
                refine V_icmpne_t (tgt := 178) dX7_layer_166 (by decide) c166 ?_
                refine V_aload_n dX7_layer_178 rfl ?_
                refine V_iload_n dX7_layer_179 rfl ?_
                obtain ⟨x14, y15, h⟩ := bi_o h
                refine V_callV (as := [.int a1]) (q := 85) (rest := []) dX7_layer_180 ov_mX7_left lk_RX7_175 (by decide) (by decide) rfl rfl (Nat.le_of_ble_eq_true rfl) (tq_85 hG) rfl (VM_X7_left G x7.2 hG a1 _ y15) ?_
                refine V_lconst (v := 0) dX7_layer_183 rfl ?_
                refine V_lcmp dX7_layer_184 ?_
                by_cases c185 : x14 = (0 : Int64)
                · rw [if_pos c185] at h
                  refine V_ifne_f (tgt := 192) dX7_layer_185 (by decide) ((lc_eq x14 0).mpr c185) ?_
                  refine V_lconst (v := 1) dX7_layer_188 rfl ?_
                  refine V_goto (tgt := 193) dX7_layer_189 (by decide) ?_
                  cases h
                  exact V_lret rfl dX7_layer_193
                · rw [if_neg c185] at h
                  refine V_ifne_t (tgt := 192) dX7_layer_185 (by decide) (fun z => c185 ((lc_eq x14 0).mp z)) ?_
                  refine V_lconst (v := 0) dX7_layer_192 rfl ?_
                  cases h
                  exact V_lret rfl dX7_layer_193
        · rw [if_neg c94] at h
          refine V_icmpge_f (tgt := 131) dX7_layer_94 (by decide) c94 ?_
          refine V_iload_n dX7_layer_97 rfl ?_
          refine V_iconst (v := 4) dX7_layer_98 rfl ?_
          by_cases c99 : a2 = (4 : Int32)
          · rw [if_pos c99] at h
            refine V_icmpne_f (tgt := 111) dX7_layer_99 (by decide) c99 ?_
            refine V_aload_n dX7_layer_102 rfl ?_
            refine V_getR (kf := 15) k_X7 (by decide) lk_RX7_57 rfl dX7_layer_103 (tq_85 hG) rfl ?_
            refine V_iload_n dX7_layer_106 rfl ?_
            obtain ⟨g16, h⟩ := gu_o h
            refine V_laload dX7_layer_107 (tq_99 hG) (ib_in g16) ?_
            refine V_goto (tgt := 130) dX7_layer_108 (by decide) ?_
            cases h
            exact V_lret rfl dX7_layer_130
          · rw [if_neg c99] at h
            refine V_icmpne_t (tgt := 111) dX7_layer_99 (by decide) c99 ?_
            refine V_iload_n dX7_layer_111 rfl ?_
            refine V_iconst (v := 5) dX7_layer_112 rfl ?_
            by_cases c113 : a2 = (5 : Int32)
            · rw [if_pos c113] at h
              refine V_icmpne_f (tgt := 124) dX7_layer_113 (by decide) c113 ?_
              refine V_aload_n dX7_layer_116 rfl ?_
              refine V_iload_n dX7_layer_117 rfl ?_
              obtain ⟨x17, y18, h⟩ := bi_o h
              refine V_callV (as := [.int a1]) (q := 85) (rest := []) dX7_layer_118 ov_mX7_left lk_RX7_175 (by decide) (by decide) rfl rfl (Nat.le_of_ble_eq_true rfl) (tq_85 hG) rfl (VM_X7_left G x7.2 hG a1 _ y18) ?_
              refine V_goto (tgt := 130) dX7_layer_121 (by decide) ?_
              cases h
              exact V_lret rfl dX7_layer_130
            · rw [if_neg c113] at h
              refine V_icmpne_t (tgt := 124) dX7_layer_113 (by decide) c113 ?_
              refine V_aload_n dX7_layer_124 rfl ?_
              refine V_iload_n dX7_layer_125 rfl ?_
              obtain ⟨x19, y20, h⟩ := bi_o h
              refine V_callV (as := [.int a1]) (q := 85) (rest := []) dX7_layer_126 ov_mX7_holeOf lk_RX7_172 (by decide) (by decide) rfl rfl (Nat.le_of_ble_eq_true rfl) (tq_85 hG) rfl (VM_X7_holeOf G x7.2 hG a1 _ y20) ?_
              refine V_i2l dX7_layer_129 ?_
              cases h
              exact V_lret rfl dX7_layer_130
      · rw [if_neg c36] at h
        refine V_icmpge_f (tgt := 91) dX7_layer_36 (by decide) c36 ?_
        refine V_iload_n dX7_layer_39 rfl ?_
        by_cases c40 : a2 = 0
        · rw [if_pos c40] at h
          refine V_ifne_f (tgt := 53) dX7_layer_40 (by decide) c40 ?_
          refine V_aload_n dX7_layer_43 rfl ?_
          refine V_getR (kf := 8) k_X7 (by decide) lk_RX7_36 rfl dX7_layer_44 (tq_85 hG) rfl ?_
          refine V_iload_n dX7_layer_47 rfl ?_
          obtain ⟨g21, h⟩ := gu_o h
          refine V_iaload dX7_layer_48 (tq_92 hG) (ib_in g21) ?_
          refine V_i2l dX7_layer_49 ?_
          refine V_goto (tgt := 90) dX7_layer_50 (by decide) ?_
          cases h
          exact V_lret rfl dX7_layer_90
        · rw [if_neg c40] at h
          refine V_ifne_t (tgt := 53) dX7_layer_40 (by decide) c40 ?_
          refine V_iload_n dX7_layer_53 rfl ?_
          refine V_iconst (v := 1) dX7_layer_54 rfl ?_
          by_cases c55 : a2 = (1 : Int32)
          · rw [if_pos c55] at h
            refine V_icmpne_f (tgt := 68) dX7_layer_55 (by decide) c55 ?_
            refine V_aload_n dX7_layer_58 rfl ?_
            refine V_getR (kf := 9) k_X7 (by decide) lk_RX7_39 rfl dX7_layer_59 (tq_85 hG) rfl ?_
            refine V_iload_n dX7_layer_62 rfl ?_
            obtain ⟨g22, h⟩ := gu_o h
            refine V_iaload dX7_layer_63 (tq_93 hG) (ib_in g22) ?_
            refine V_i2l dX7_layer_64 ?_
            refine V_goto (tgt := 90) dX7_layer_65 (by decide) ?_
            cases h
            exact V_lret rfl dX7_layer_90
          · rw [if_neg c55] at h
            refine V_icmpne_t (tgt := 68) dX7_layer_55 (by decide) c55 ?_
            refine V_iload_n dX7_layer_68 rfl ?_
            refine V_iconst (v := 2) dX7_layer_69 rfl ?_
            by_cases c70 : a2 = (2 : Int32)
            · rw [if_pos c70] at h
              refine V_icmpne_f (tgt := 83) dX7_layer_70 (by decide) c70 ?_
              refine V_aload_n dX7_layer_73 rfl ?_
              refine V_getR (kf := 10) k_X7 (by decide) lk_RX7_42 rfl dX7_layer_74 (tq_85 hG) rfl ?_
              refine V_iload_n dX7_layer_77 rfl ?_
              obtain ⟨g23, h⟩ := gu_o h
              refine V_iaload dX7_layer_78 (tq_94 hG) (ib_in g23) ?_
              refine V_i2l dX7_layer_79 ?_
              refine V_goto (tgt := 90) dX7_layer_80 (by decide) ?_
              cases h
              exact V_lret rfl dX7_layer_90
            · rw [if_neg c70] at h
              refine V_icmpne_t (tgt := 83) dX7_layer_70 (by decide) c70 ?_
              refine V_aload_n dX7_layer_83 rfl ?_
              refine V_getR (kf := 11) k_X7 (by decide) lk_RX7_45 rfl dX7_layer_84 (tq_85 hG) rfl ?_
              refine V_iload_n dX7_layer_87 rfl ?_
              obtain ⟨g24, h⟩ := gu_o h
              refine V_iaload dX7_layer_88 (tq_95 hG) (ib_in g24) ?_
              refine V_i2l dX7_layer_89 ?_
              cases h
              exact V_lret rfl dX7_layer_90
    · rw [if_neg c29] at h
      refine V_ifne_f (tgt := 34) dX7_layer_29 (by decide) (b2i_f.mp c29) ?_
      refine V_lconst (v := 0) dX7_layer_32 rfl ?_
      cases h
      exact V_lret rfl dX7_layer_33
  · rw [if_neg c11] at h
    refine V_ifeq_t (tgt := 32) dX7_layer_11 (by decide) (b2i_f.mp c11) ?_
    refine V_lconst (v := 0) dX7_layer_32 rfl ?_
    cases h
    exact V_lret rfl dX7_layer_33
theorem VM_X7_layer (G : GX) (fu : Nat)  (hG : gt G = tbl) (a1 : Int32) (a2 : Int32) (μ : Mem) (r : (Int64 × Mem)) (h : D_X7_layer_0 fu a1 a2 μ = some r) : VM G mX7_layer [.ref 85, .int a1, .int a2] μ (.inl (some (.long r.1))) (r.2) := V_entry ok_mX7_layer rfl rfl (Nat.le_of_ble_eq_true rfl) (T_X7_layer_0 G fu hG a1 a2 μ r h)
def D_X7_signed_101 (fu : Nat)  : Nat → Int32 → Int32 → Int64 → Int32 → Mem → Option (Int64 × Mem)
  | 0, _, _, _, _, _ => none
  | n + 1, v1, v2, v4, v6, μ =>
    if (24 : Int32) ≤ v6 then
      some (v4, μ)
    else
      gu (ib (((160 * v6) + (4 * v1)) + v2) 4000) <|
      vl (v4 + ((μ.1 108 (Int32.toNatClampNeg (((160 * v6) + (4 * v1)) + v2)) : Int32).toInt64) : Int64) fun x9 =>
      (D_X7_signed_101 fu n) v1 v2 x9 (v6 + 1) μ
set_option maxRecDepth 20000 in
theorem T_X7_signed_101 (G : GX) (fu : Nat)  (hG : gt G = tbl) : ∀ (n : Nat) (v1 : Int32) (v2 : Int32) (v4 : Int64) (v6 : Int32) (μ : Mem) (r : (Int64 × Mem)) , D_X7_signed_101 fu n v1 v2 v4 v6 μ = some r → V G mX7_signed 101 [some (.ref 85), some (.int v1), some (.int v2), none, some (.long v4), none, some (.int v6)] [] μ (.inl (some (.long r.1))) (r.2) := by
  intro n
  induction n with
  | zero =>
    intro v1 v2 v4 v6 μ r h
    exact nomatch (show (none : Option (Int64 × Mem)) = some r from h)
  | succ n ih =>
    intro v1 v2 v4 v6 μ r h
    rw [D_X7_signed_101] at h
    refine V_iload dX7_signed_101 rfl ?_
    refine V_bipush (v := 24) dX7_signed_103 rfl ?_
    by_cases c105 : (24 : Int32) ≤ v6
    · rw [if_pos c105] at h
      refine V_icmpge_t (tgt := 137) dX7_signed_105 (by decide) c105 ?_
      refine V_lload dX7_signed_137 rfl ?_
      cases h
      exact V_lret rfl dX7_signed_139
    · rw [if_neg c105] at h
      refine V_icmpge_f (tgt := 137) dX7_signed_105 (by decide) c105 ?_
      refine V_lload dX7_signed_108 rfl ?_
      refine V_aload_n dX7_signed_110 rfl ?_
      refine V_getR (kf := 24) k_X7 (by decide) lk_RX7_85 rfl dX7_signed_111 (tq_85 hG) rfl ?_
      refine V_sipush (v := 160) dX7_signed_114 rfl ?_
      refine V_iload dX7_signed_117 rfl ?_
      refine V_imul dX7_signed_119 ?_
      refine V_iconst (v := 4) dX7_signed_120 rfl ?_
      refine V_iload_n dX7_signed_121 rfl ?_
      refine V_imul dX7_signed_122 ?_
      refine V_iadd dX7_signed_123 ?_
      refine V_iload_n dX7_signed_124 rfl ?_
      refine V_iadd dX7_signed_125 ?_
      obtain ⟨g8, h⟩ := gu_o h
      refine V_iaload dX7_signed_126 (tq_108 hG) (ib_in g8) ?_
      refine V_i2l dX7_signed_127 ?_
      refine V_ladd dX7_signed_128 ?_
      obtain ⟨x9, e10, h⟩ := vl_o h
      refine V_topl e10 ?_
      refine V_lstore (lv2 := [some (.ref 85), some (.int v1), some (.int v2), none, some (.long x9), none, some (.int v6)]) dX7_signed_129 (by decide) rfl ?_
      refine V_iinc (v := v6 + 1) (lv2 := [some (.ref 85), some (.int v1), some (.int v2), none, some (.long x9), none, some (.int (v6 + 1))]) dX7_signed_131 rfl rfl (by decide) rfl ?_
      refine V_goto (tgt := 101) dX7_signed_134 (by decide) ?_
      exact V_wk [true, true, true, false, true, false, true] rfl (ih _ _ _ _ _ _ h)
def D_X7_signed_36 (fu : Nat)  (v1 : Int32) (v2 : Int32) (v3 : Int32) (s1 : Int32) (μ : Mem) : Option (Int64 × Mem) :=
  (D_X7_needs_0 s1 2 1 μ).bind fun x5 =>
  if x5.1 = true then
    gu (ib v1 40) <|
    if v2 < (x5.2.1 96 (Int32.toNatClampNeg v1)) then
      if (2 : Int32) ≤ v3 then
        D_X7_signed_101 fu fu v1 v2 0 0 x5.2
      else
        if v3 = 0 then
          gu (ib ((4 * v1) + v2) 160) <|
          some ((x5.2.1 97 (Int32.toNatClampNeg ((4 * v1) + v2)) : Int32).toInt64, x5.2)
        else
          gu (ib ((4 * v1) + v2) 160) <|
          some ((x5.2.1 98 (Int32.toNatClampNeg ((4 * v1) + v2)) : Int32).toInt64, x5.2)
    else
      some ((-1), x5.2)
  else
    some (0, x5.2)
set_option maxRecDepth 20000 in
theorem T_X7_signed_36 (G : GX) (fu : Nat)  (hG : gt G = tbl) : ∀ (v1 : Int32) (v2 : Int32) (v3 : Int32) (s1 : Int32) (μ : Mem) (r : (Int64 × Mem)) , D_X7_signed_36 fu v1 v2 v3 s1 μ = some r → V G mX7_signed 36 [some (.ref 85), some (.int v1), some (.int v2), some (.int v3), none, none, none] [.int s1, .ref 85] μ (.inl (some (.long r.1))) (r.2) := by
  intro v1 v2 v3 s1 μ r h
  unfold D_X7_signed_36 at h
  refine V_iconst (v := 2) dX7_signed_36 rfl ?_
  refine V_iconst (v := 1) dX7_signed_37 rfl ?_
  obtain ⟨x5, y6, h⟩ := bi_o h
  refine V_callV (as := [.int s1, .int 2, .int 1]) (q := 85) (rest := []) dX7_signed_38 ov_mX7_needs lk_RX7_346 (by decide) (by decide) rfl rfl (Nat.le_of_ble_eq_true rfl) (tq_85 hG) rfl (VM_X7_needs G hG s1 2 1 μ _ y6) ?_
  by_cases c41 : x5.1 = true
  · rw [if_pos c41] at h
    refine V_ifne_t (tgt := 46) dX7_signed_41 (by decide) (b2i_t.mp c41) ?_
    refine V_iload_n dX7_signed_46 rfl ?_
    refine V_aload_n dX7_signed_47 rfl ?_
    refine V_getR (kf := 12) k_X7 (by decide) lk_RX7_48 rfl dX7_signed_48 (tq_85 hG) rfl ?_
    refine V_iload_n dX7_signed_51 rfl ?_
    obtain ⟨g7, h⟩ := gu_o h
    refine V_iaload dX7_signed_52 (tq_96 hG) (ib_in g7) ?_
    by_cases c53 : v2 < (x5.2.1 96 (Int32.toNatClampNeg v1))
    · rw [if_pos c53] at h
      refine V_icmplt_t (tgt := 60) dX7_signed_53 (by decide) c53 ?_
      refine V_iload_n dX7_signed_60 rfl ?_
      refine V_iconst (v := 2) dX7_signed_61 rfl ?_
      by_cases c62 : (2 : Int32) ≤ v3
      · rw [if_pos c62] at h
        refine V_icmpge_t (tgt := 95) dX7_signed_62 (by decide) c62 ?_
        refine V_lconst (v := 0) dX7_signed_95 rfl ?_
        refine V_lstore (lv2 := [some (.ref 85), some (.int v1), some (.int v2), some (.int v3), some (.long 0), none, none]) dX7_signed_96 (by decide) rfl ?_
        refine V_iconst (v := 0) dX7_signed_98 rfl ?_
        refine V_istore (lv2 := [some (.ref 85), some (.int v1), some (.int v2), some (.int v3), some (.long 0), none, some (.int 0)]) dX7_signed_99 (by decide) rfl ?_
        exact V_wk [true, true, true, false, true, false, true] rfl (T_X7_signed_101 G fu hG fu _ _ _ _ _ _ h)
      · rw [if_neg c62] at h
        refine V_icmpge_f (tgt := 95) dX7_signed_62 (by decide) c62 ?_
        refine V_iload_n dX7_signed_65 rfl ?_
        by_cases c66 : v3 = 0
        · rw [if_pos c66] at h
          refine V_ifne_f (tgt := 83) dX7_signed_66 (by decide) c66 ?_
          refine V_aload_n dX7_signed_69 rfl ?_
          refine V_getR (kf := 13) k_X7 (by decide) lk_RX7_51 rfl dX7_signed_70 (tq_85 hG) rfl ?_
          refine V_iconst (v := 4) dX7_signed_73 rfl ?_
          refine V_iload_n dX7_signed_74 rfl ?_
          refine V_imul dX7_signed_75 ?_
          refine V_iload_n dX7_signed_76 rfl ?_
          refine V_iadd dX7_signed_77 ?_
          obtain ⟨g11, h⟩ := gu_o h
          refine V_iaload dX7_signed_78 (tq_97 hG) (ib_in g11) ?_
          refine V_i2l dX7_signed_79 ?_
          refine V_goto (tgt := 94) dX7_signed_80 (by decide) ?_
          cases h
          exact V_lret rfl dX7_signed_94
        · rw [if_neg c66] at h
          refine V_ifne_t (tgt := 83) dX7_signed_66 (by decide) c66 ?_
          refine V_aload_n dX7_signed_83 rfl ?_
          refine V_getR (kf := 14) k_X7 (by decide) lk_RX7_54 rfl dX7_signed_84 (tq_85 hG) rfl ?_
          refine V_iconst (v := 4) dX7_signed_87 rfl ?_
          refine V_iload_n dX7_signed_88 rfl ?_
          refine V_imul dX7_signed_89 ?_
          refine V_iload_n dX7_signed_90 rfl ?_
          refine V_iadd dX7_signed_91 ?_
          obtain ⟨g12, h⟩ := gu_o h
          refine V_iaload dX7_signed_92 (tq_98 hG) (ib_in g12) ?_
          refine V_i2l dX7_signed_93 ?_
          cases h
          exact V_lret rfl dX7_signed_94
    · rw [if_neg c53] at h
      refine V_icmplt_f (tgt := 60) dX7_signed_53 (by decide) c53 ?_
      refine V_ldc2 (v := (-1)) dX7_signed_56 lk_RX7_419 ?_
      cases h
      exact V_lret rfl dX7_signed_59
  · rw [if_neg c41] at h
    refine V_ifne_f (tgt := 46) dX7_signed_41 (by decide) (b2i_f.mp c41) ?_
    refine V_lconst (v := 0) dX7_signed_44 rfl ?_
    cases h
    exact V_lret rfl dX7_signed_45
def D_X7_signed_35 (fu : Nat)  (v1 : Int32) (v2 : Int32) (v3 : Int32) (μ : Mem) : Option (Int64 × Mem) :=
  D_X7_signed_36 fu v1 v2 v3 0 μ
set_option maxRecDepth 20000 in
theorem T_X7_signed_35 (G : GX) (fu : Nat)  (hG : gt G = tbl) : ∀ (v1 : Int32) (v2 : Int32) (v3 : Int32) (μ : Mem) (r : (Int64 × Mem)) , D_X7_signed_35 fu v1 v2 v3 μ = some r → V G mX7_signed 35 [some (.ref 85), some (.int v1), some (.int v2), some (.int v3), none, none, none] [.ref 85] μ (.inl (some (.long r.1))) (r.2) := by
  intro v1 v2 v3 μ r h
  unfold D_X7_signed_35 at h
  refine V_iconst (v := 0) dX7_signed_35 rfl ?_
  exact V_wk [true, true, true, true, false, false, false] rfl (T_X7_signed_36 G fu hG _ _ _ _ _ _ h)
def D_X7_signed_0 (fu : Nat)  (a1 : Int32) (a2 : Int32) (a3 : Int32) (μ : Mem) : Option (Int64 × Mem) :=
  vl (wI μ 85 0 0) fun m1 =>
  (D_X7_isOne_0 a1 1 m1).bind fun x3 =>
  if x3.1 = true then
    if a2 < 0 then
      D_X7_signed_35 fu a1 a2 a3 x3.2
    else
      (D_X7_within_0 x3.2 ((a3 : Int32).toInt64) 0 2).bind fun x13 =>
      if x13 = true then
        D_X7_signed_36 fu a1 a2 a3 1 x3.2
      else
        D_X7_signed_35 fu a1 a2 a3 x3.2
  else
    some (0, x3.2)
set_option maxRecDepth 20000 in
theorem T_X7_signed_0 (G : GX) (fu : Nat)  (hG : gt G = tbl) : ∀ (a1 : Int32) (a2 : Int32) (a3 : Int32) (μ : Mem) (r : (Int64 × Mem)) , D_X7_signed_0 fu a1 a2 a3 μ = some r → V G mX7_signed 0 [some (.ref 85), some (.int a1), some (.int a2), some (.int a3), none, none, none] [] μ (.inl (some (.long r.1))) (r.2) := by
  intro a1 a2 a3 μ r h
  unfold D_X7_signed_0 at h
  refine V_aload_n dX7_signed_0 rfl ?_
  refine V_iconst (v := 0) dX7_signed_1 rfl ?_
  obtain ⟨m1, e2, h⟩ := vl_o h
  refine V_putI (kf := 0) k_X7 (by decide) lk_RX7_1 rfl rfl (by decide +kernel) dX7_signed_2 (tq_85 hG) rfl e2.symm ?_
  refine V_aload_n dX7_signed_5 rfl ?_
  refine V_iload_n dX7_signed_6 rfl ?_
  refine V_iconst (v := 1) dX7_signed_7 rfl ?_
  obtain ⟨x3, y4, h⟩ := bi_o h
  refine V_callV (as := [.int a1, .int 1]) (q := 85) (rest := []) dX7_signed_8 ov_mX7_isOne lk_RX7_374 (by decide) (by decide) rfl rfl (Nat.le_of_ble_eq_true rfl) (tq_85 hG) rfl (VM_X7_isOne G hG a1 1 m1 _ y4) ?_
  by_cases c11 : x3.1 = true
  · rw [if_pos c11] at h
    refine V_ifeq_f (tgt := 44) dX7_signed_11 (by decide) (b2i_t.mp c11) ?_
    refine V_aload_n dX7_signed_14 rfl ?_
    refine V_iload_n dX7_signed_15 rfl ?_
    by_cases c16 : a2 < 0
    · rw [if_pos c16] at h
      refine V_iflt_t (tgt := 35) dX7_signed_16 (by decide) c16 ?_
      exact V_wk [true, true, true, true, false, false, false] rfl (T_X7_signed_35 G fu hG _ _ _ _ _ h)
    · rw [if_neg c16] at h
      refine V_iflt_f (tgt := 35) dX7_signed_16 (by decide) c16 ?_
      refine V_iload_n dX7_signed_19 rfl ?_
      refine V_i2l dX7_signed_20 ?_
      refine V_lconst (v := 0) dX7_signed_21 rfl ?_
      refine V_ldc2 (v := 2) dX7_signed_22 lk_RX7_246 ?_
      obtain ⟨x13, y14, h⟩ := bi_o h
      refine V_callS (as := [.long ((a3 : Int32).toInt64), .long 0, .long 2]) (rest := [.ref 85]) dX7_signed_25 os_mX7_within rfl lk_RX7_352 (by decide) (by decide) rfl rfl (Nat.le_of_ble_eq_true rfl) (VM_X7_within G x3.2 hG ((a3 : Int32).toInt64) 0 2 _ y14) ?_
      by_cases c28 : x13 = true
      · rw [if_pos c28] at h
        refine V_ifeq_f (tgt := 35) dX7_signed_28 (by decide) (b2i_t.mp c28) ?_
        refine V_iconst (v := 1) dX7_signed_31 rfl ?_
        refine V_goto (tgt := 36) dX7_signed_32 (by decide) ?_
        exact V_wk [true, true, true, true, false, false, false] rfl (T_X7_signed_36 G fu hG _ _ _ _ _ _ h)
      · rw [if_neg c28] at h
        refine V_ifeq_t (tgt := 35) dX7_signed_28 (by decide) (b2i_f.mp c28) ?_
        exact V_wk [true, true, true, true, false, false, false] rfl (T_X7_signed_35 G fu hG _ _ _ _ _ h)
  · rw [if_neg c11] at h
    refine V_ifeq_t (tgt := 44) dX7_signed_11 (by decide) (b2i_f.mp c11) ?_
    refine V_lconst (v := 0) dX7_signed_44 rfl ?_
    cases h
    exact V_lret rfl dX7_signed_45
theorem VM_X7_signed (G : GX) (fu : Nat)  (hG : gt G = tbl) (a1 : Int32) (a2 : Int32) (a3 : Int32) (μ : Mem) (r : (Int64 × Mem)) (h : D_X7_signed_0 fu a1 a2 a3 μ = some r) : VM G mX7_signed [.ref 85, .int a1, .int a2, .int a3] μ (.inl (some (.long r.1))) (r.2) := V_entry ok_mX7_signed rfl rfl (Nat.le_of_ble_eq_true rfl) (T_X7_signed_0 G fu hG a1 a2 a3 μ r h)
def D_X7_ofYear_80 (fu : Nat) (μ : Mem)  (k5 : Int32 → Int32 → Int64 → Int32 → Option Int64) (v1 : Int32) (v2 : Int32) (v3 : Int64) (v5 : Int32) : Option Int64 :=
  k5 v1 v2 v3 (v5 + 1)
set_option maxRecDepth 20000 in
theorem T_X7_ofYear_80 (G : GX) (fu : Nat) (μ : Mem)  (hG : gt G = tbl) (k5 : Int32 → Int32 → Int64 → Int32 → Option Int64) (hk5 : ∀ (v1 : Int32) (v2 : Int32) (v3 : Int64) (v5 : Int32) (r : Int64), k5 v1 v2 v3 v5 = some r → V G mX7_ofYear 5 [some (.ref 85), some (.int v1), some (.int v2), some (.long v3), none, some (.int v5)] [] μ (.inl (some (.long r))) (μ)) : ∀ (v1 : Int32) (v2 : Int32) (v3 : Int64) (v5 : Int32) (r : Int64) , D_X7_ofYear_80 fu μ k5 v1 v2 v3 v5 = some r → V G mX7_ofYear 80 [some (.ref 85), some (.int v1), some (.int v2), some (.long v3), none, some (.int v5)] [] μ (.inl (some (.long r))) (μ) := by
  intro v1 v2 v3 v5 r h
  unfold D_X7_ofYear_80 at h
  refine V_iinc (v := v5 + 1) (lv2 := [some (.ref 85), some (.int v1), some (.int v2), some (.long v3), none, some (.int (v5 + 1))]) dX7_ofYear_80 rfl rfl (by decide) rfl ?_
  refine V_goto (tgt := 5) dX7_ofYear_83 (by decide) ?_
  exact V_wk [true, true, true, true, false, true] rfl (hk5 _ _ _ _ _ h)
def D_X7_ofYear_78 (fu : Nat) (μ : Mem)  (k5 : Int32 → Int32 → Int64 → Int32 → Option Int64) (v1 : Int32) (v2 : Int32) (v5 : Int32) (s0 : Int64) (s1 : Int64) : Option Int64 :=
  D_X7_ofYear_80 fu μ k5 v1 v2 (s0 + s1) v5
set_option maxRecDepth 20000 in
theorem T_X7_ofYear_78 (G : GX) (fu : Nat) (μ : Mem)  (hG : gt G = tbl) (k5 : Int32 → Int32 → Int64 → Int32 → Option Int64) (hk5 : ∀ (v1 : Int32) (v2 : Int32) (v3 : Int64) (v5 : Int32) (r : Int64), k5 v1 v2 v3 v5 = some r → V G mX7_ofYear 5 [some (.ref 85), some (.int v1), some (.int v2), some (.long v3), none, some (.int v5)] [] μ (.inl (some (.long r))) (μ)) : ∀ (v1 : Int32) (v2 : Int32) (v5 : Int32) (s0 : Int64) (s1 : Int64) (r : Int64) , D_X7_ofYear_78 fu μ k5 v1 v2 v5 s0 s1 = some r → V G mX7_ofYear 78 [some (.ref 85), some (.int v1), some (.int v2), none, none, some (.int v5)] [.long s1, .long s0] μ (.inl (some (.long r))) (μ) := by
  intro v1 v2 v5 s0 s1 r h
  unfold D_X7_ofYear_78 at h
  refine V_ladd dX7_ofYear_78 ?_
  refine V_lstore_n (lv2 := [some (.ref 85), some (.int v1), some (.int v2), some (.long (s0 + s1)), none, some (.int v5)]) dX7_ofYear_79 (by decide) rfl ?_
  exact V_wk [true, true, true, true, false, true] rfl (T_X7_ofYear_80 G fu μ hG k5 hk5 _ _ _ _ _ h)
def D_X7_ofYear_5 (fu : Nat) (μ : Mem)  : Nat → Int32 → Int32 → Int64 → Int32 → Option Int64
  | 0, _, _, _, _ => none
  | n + 1, v1, v2, v3, v5 =>
    if (40 : Int32) ≤ v5 then
      some v3
    else
      (D_X7_isIn_0 μ v5 v1).bind fun x1 =>
      if x1 = true then
        if v2 = (3 : Int32) then
          gu (ib v5 40) <|
          D_X7_ofYear_78 fu μ (D_X7_ofYear_5 fu μ n) v1 v2 v5 v3 ((μ.1 94 (Int32.toNatClampNeg v5) : Int32).toInt64)
        else
          if v2 = (4 : Int32) then
            (D_X7_holeOf_0 μ v5).bind fun x4 =>
            D_X7_ofYear_78 fu μ (D_X7_ofYear_5 fu μ n) v1 v2 v5 v3 ((x4 : Int32).toInt64)
          else
            if v2 = (5 : Int32) then
              gu (ib v5 40) <|
              D_X7_ofYear_78 fu μ (D_X7_ofYear_5 fu μ n) v1 v2 v5 v3 (μ.2.1 99 (Int32.toNatClampNeg v5))
            else
              (D_X7_left_0 μ v5).bind fun x7 =>
              D_X7_ofYear_78 fu μ (D_X7_ofYear_5 fu μ n) v1 v2 v5 v3 x7
      else
        D_X7_ofYear_80 fu μ (D_X7_ofYear_5 fu μ n) v1 v2 v3 v5
set_option maxRecDepth 20000 in
theorem T_X7_ofYear_5 (G : GX) (fu : Nat) (μ : Mem)  (hG : gt G = tbl) : ∀ (n : Nat) (v1 : Int32) (v2 : Int32) (v3 : Int64) (v5 : Int32) (r : Int64) , D_X7_ofYear_5 fu μ n v1 v2 v3 v5 = some r → V G mX7_ofYear 5 [some (.ref 85), some (.int v1), some (.int v2), some (.long v3), none, some (.int v5)] [] μ (.inl (some (.long r))) (μ) := by
  intro n
  induction n with
  | zero =>
    intro v1 v2 v3 v5 r h
    exact nomatch (show (none : Option Int64) = some r from h)
  | succ n ih =>
    intro v1 v2 v3 v5 r h
    rw [D_X7_ofYear_5] at h
    refine V_iload dX7_ofYear_5 rfl ?_
    refine V_bipush (v := 40) dX7_ofYear_7 rfl ?_
    by_cases c9 : (40 : Int32) ≤ v5
    · rw [if_pos c9] at h
      refine V_icmpge_t (tgt := 86) dX7_ofYear_9 (by decide) c9 ?_
      refine V_lload_n dX7_ofYear_86 rfl ?_
      cases h
      exact V_lret rfl dX7_ofYear_87
    · rw [if_neg c9] at h
      refine V_icmpge_f (tgt := 86) dX7_ofYear_9 (by decide) c9 ?_
      refine V_aload_n dX7_ofYear_12 rfl ?_
      refine V_iload dX7_ofYear_13 rfl ?_
      refine V_iload_n dX7_ofYear_15 rfl ?_
      obtain ⟨x1, y2, h⟩ := bi_o h
      refine V_callV (as := [.int v5, .int v1]) (q := 85) (rest := []) dX7_ofYear_16 ov_mX7_isIn lk_RX7_283 (by decide) (by decide) rfl rfl (Nat.le_of_ble_eq_true rfl) (tq_85 hG) rfl (VM_X7_isIn G μ hG v5 v1 _ y2) ?_
      by_cases c19 : x1 = true
      · rw [if_pos c19] at h
        refine V_ifne_t (tgt := 25) dX7_ofYear_19 (by decide) (b2i_t.mp c19) ?_
        refine V_lload_n dX7_ofYear_25 rfl ?_
        refine V_iload_n dX7_ofYear_26 rfl ?_
        refine V_iconst (v := 3) dX7_ofYear_27 rfl ?_
        by_cases c28 : v2 = (3 : Int32)
        · rw [if_pos c28] at h
          refine V_icmpne_f (tgt := 42) dX7_ofYear_28 (by decide) c28 ?_
          refine V_aload_n dX7_ofYear_31 rfl ?_
          refine V_getR (kf := 10) k_X7 (by decide) lk_RX7_42 rfl dX7_ofYear_32 (tq_85 hG) rfl ?_
          refine V_iload dX7_ofYear_35 rfl ?_
          obtain ⟨g3, h⟩ := gu_o h
          refine V_iaload dX7_ofYear_37 (tq_94 hG) (ib_in g3) ?_
          refine V_i2l dX7_ofYear_38 ?_
          refine V_goto (tgt := 78) dX7_ofYear_39 (by decide) ?_
          exact V_wk [true, true, true, false, false, true] rfl (T_X7_ofYear_78 G fu μ hG (D_X7_ofYear_5 fu μ n) ih _ _ _ _ _ _ h)
        · rw [if_neg c28] at h
          refine V_icmpne_t (tgt := 42) dX7_ofYear_28 (by decide) c28 ?_
          refine V_iload_n dX7_ofYear_42 rfl ?_
          refine V_iconst (v := 4) dX7_ofYear_43 rfl ?_
          by_cases c44 : v2 = (4 : Int32)
          · rw [if_pos c44] at h
            refine V_icmpne_f (tgt := 57) dX7_ofYear_44 (by decide) c44 ?_
            refine V_aload_n dX7_ofYear_47 rfl ?_
            refine V_iload dX7_ofYear_48 rfl ?_
            obtain ⟨x4, y5, h⟩ := bi_o h
            refine V_callV (as := [.int v5]) (q := 85) (rest := [.long v3]) dX7_ofYear_50 ov_mX7_holeOf lk_RX7_172 (by decide) (by decide) rfl rfl (Nat.le_of_ble_eq_true rfl) (tq_85 hG) rfl (VM_X7_holeOf G μ hG v5 _ y5) ?_
            refine V_i2l dX7_ofYear_53 ?_
            refine V_goto (tgt := 78) dX7_ofYear_54 (by decide) ?_
            exact V_wk [true, true, true, false, false, true] rfl (T_X7_ofYear_78 G fu μ hG (D_X7_ofYear_5 fu μ n) ih _ _ _ _ _ _ h)
          · rw [if_neg c44] at h
            refine V_icmpne_t (tgt := 57) dX7_ofYear_44 (by decide) c44 ?_
            refine V_iload_n dX7_ofYear_57 rfl ?_
            refine V_iconst (v := 5) dX7_ofYear_58 rfl ?_
            by_cases c59 : v2 = (5 : Int32)
            · rw [if_pos c59] at h
              refine V_icmpne_f (tgt := 72) dX7_ofYear_59 (by decide) c59 ?_
              refine V_aload_n dX7_ofYear_62 rfl ?_
              refine V_getR (kf := 15) k_X7 (by decide) lk_RX7_57 rfl dX7_ofYear_63 (tq_85 hG) rfl ?_
              refine V_iload dX7_ofYear_66 rfl ?_
              obtain ⟨g6, h⟩ := gu_o h
              refine V_laload dX7_ofYear_68 (tq_99 hG) (ib_in g6) ?_
              refine V_goto (tgt := 78) dX7_ofYear_69 (by decide) ?_
              exact V_wk [true, true, true, false, false, true] rfl (T_X7_ofYear_78 G fu μ hG (D_X7_ofYear_5 fu μ n) ih _ _ _ _ _ _ h)
            · rw [if_neg c59] at h
              refine V_icmpne_t (tgt := 72) dX7_ofYear_59 (by decide) c59 ?_
              refine V_aload_n dX7_ofYear_72 rfl ?_
              refine V_iload dX7_ofYear_73 rfl ?_
              obtain ⟨x7, y8, h⟩ := bi_o h
              refine V_callV (as := [.int v5]) (q := 85) (rest := [.long v3]) dX7_ofYear_75 ov_mX7_left lk_RX7_175 (by decide) (by decide) rfl rfl (Nat.le_of_ble_eq_true rfl) (tq_85 hG) rfl (VM_X7_left G μ hG v5 _ y8) ?_
              exact V_wk [true, true, true, false, false, true] rfl (T_X7_ofYear_78 G fu μ hG (D_X7_ofYear_5 fu μ n) ih _ _ _ _ _ _ h)
      · rw [if_neg c19] at h
        refine V_ifne_f (tgt := 25) dX7_ofYear_19 (by decide) (b2i_f.mp c19) ?_
        refine V_goto (tgt := 80) dX7_ofYear_22 (by decide) ?_
        exact V_wk [true, true, true, true, false, true] rfl (T_X7_ofYear_80 G fu μ hG (D_X7_ofYear_5 fu μ n) ih _ _ _ _ _ h)
def D_X7_ofYear_0 (fu : Nat) (μ : Mem)  (a1 : Int32) (a2 : Int32) : Option Int64 :=
  D_X7_ofYear_5 fu μ fu a1 a2 0 0
set_option maxRecDepth 20000 in
theorem T_X7_ofYear_0 (G : GX) (fu : Nat) (μ : Mem)  (hG : gt G = tbl) : ∀ (a1 : Int32) (a2 : Int32) (r : Int64) , D_X7_ofYear_0 fu μ a1 a2 = some r → V G mX7_ofYear 0 [some (.ref 85), some (.int a1), some (.int a2), none, none, none] [] μ (.inl (some (.long r))) (μ) := by
  intro a1 a2 r h
  unfold D_X7_ofYear_0 at h
  refine V_lconst (v := 0) dX7_ofYear_0 rfl ?_
  refine V_lstore_n (lv2 := [some (.ref 85), some (.int a1), some (.int a2), some (.long 0), none, none]) dX7_ofYear_1 (by decide) rfl ?_
  refine V_iconst (v := 0) dX7_ofYear_2 rfl ?_
  refine V_istore (lv2 := [some (.ref 85), some (.int a1), some (.int a2), some (.long 0), none, some (.int 0)]) dX7_ofYear_3 (by decide) rfl ?_
  exact V_wk [true, true, true, true, false, true] rfl (T_X7_ofYear_5 G fu μ hG fu _ _ _ _ _ h)
theorem VM_X7_ofYear (G : GX) (fu : Nat) (μ : Mem)  (hG : gt G = tbl) (a1 : Int32) (a2 : Int32) (r : Int64) (h : D_X7_ofYear_0 fu μ a1 a2 = some r) : VM G mX7_ofYear [.ref 85, .int a1, .int a2] μ (.inl (some (.long r))) (μ) := V_entry ok_mX7_ofYear rfl rfl (Nat.le_of_ble_eq_true rfl) (T_X7_ofYear_0 G fu μ hG a1 a2 r h)
def D_X7_year_35 (fu : Nat)  (v1 : Int32) (v2 : Int32) (s1 : Int32) (μ : Mem) : Option (Int64 × Mem) :=
  (D_X7_needs_0 s1 1 1 μ).bind fun x7 =>
  if x7.1 = true then
    (D_X7_layersOf_0 x7.2 v1).bind fun x9 =>
    if v2 = 0 then
      some ((x9 : Int32).toInt64, x7.2)
    else
      if v2 ≤ (2 : Int32) then
        if x9 = 0 then
          some ((-1), x7.2)
        else
          if v2 = (1 : Int32) then
            (D_X7_rungOf_0 x7.2 v1 0).bind fun x11 =>
            gu (ib x11 40) <|
            some ((x7.2.1 93 (Int32.toNatClampNeg x11) : Int32).toInt64, x7.2)
          else
            (D_X7_rungOf_0 x7.2 v1 (x9 - 1)).bind fun x14 =>
            (D_X7_top_0 x7.2 x14).bind fun x16 =>
            some ((x16 : Int32).toInt64, x7.2)
      else
        (D_X7_ofYear_0 fu x7.2 v1 v2).bind fun x18 =>
        some (x18, x7.2)
  else
    some (0, x7.2)
set_option maxRecDepth 20000 in
theorem T_X7_year_35 (G : GX) (fu : Nat)  (hG : gt G = tbl) : ∀ (v1 : Int32) (v2 : Int32) (s1 : Int32) (μ : Mem) (r : (Int64 × Mem)) , D_X7_year_35 fu v1 v2 s1 μ = some r → V G mX7_year 35 [some (.ref 85), some (.int v1), some (.int v2), none] [.int s1, .ref 85] μ (.inl (some (.long r.1))) (r.2) := by
  intro v1 v2 s1 μ r h
  unfold D_X7_year_35 at h
  refine V_iconst (v := 1) dX7_year_35 rfl ?_
  refine V_iconst (v := 1) dX7_year_36 rfl ?_
  obtain ⟨x7, y8, h⟩ := bi_o h
  refine V_callV (as := [.int s1, .int 1, .int 1]) (q := 85) (rest := []) dX7_year_37 ov_mX7_needs lk_RX7_346 (by decide) (by decide) rfl rfl (Nat.le_of_ble_eq_true rfl) (tq_85 hG) rfl (VM_X7_needs G hG s1 1 1 μ _ y8) ?_
  by_cases c40 : x7.1 = true
  · rw [if_pos c40] at h
    refine V_ifne_t (tgt := 45) dX7_year_40 (by decide) (b2i_t.mp c40) ?_
    refine V_aload_n dX7_year_45 rfl ?_
    refine V_iload_n dX7_year_46 rfl ?_
    obtain ⟨x9, y10, h⟩ := bi_o h
    refine V_callV (as := [.int v1]) (q := 85) (rest := []) dX7_year_47 ov_mX7_layersOf lk_RX7_169 (by decide) (by decide) rfl rfl (Nat.le_of_ble_eq_true rfl) (tq_85 hG) rfl (VM_X7_layersOf G x7.2 hG v1 _ y10) ?_
    refine V_istore_n (lv2 := [some (.ref 85), some (.int v1), some (.int v2), some (.int x9)]) dX7_year_50 (by decide) rfl ?_
    refine V_iload_n dX7_year_51 rfl ?_
    by_cases c52 : v2 = 0
    · rw [if_pos c52] at h
      refine V_ifne_f (tgt := 58) dX7_year_52 (by decide) c52 ?_
      refine V_iload_n dX7_year_55 rfl ?_
      refine V_i2l dX7_year_56 ?_
      cases h
      exact V_lret rfl dX7_year_57
    · rw [if_neg c52] at h
      refine V_ifne_t (tgt := 58) dX7_year_52 (by decide) c52 ?_
      refine V_iload_n dX7_year_58 rfl ?_
      refine V_iconst (v := 2) dX7_year_59 rfl ?_
      by_cases c60 : v2 ≤ (2 : Int32)
      · rw [if_pos c60] at h
        refine V_icmple_t (tgt := 70) dX7_year_60 (by decide) c60 ?_
        refine V_iload_n dX7_year_70 rfl ?_
        by_cases c71 : x9 = 0
        · rw [if_pos c71] at h
          refine V_ifne_f (tgt := 78) dX7_year_71 (by decide) c71 ?_
          refine V_ldc2 (v := (-1)) dX7_year_74 lk_RX7_419 ?_
          cases h
          exact V_lret rfl dX7_year_77
        · rw [if_neg c71] at h
          refine V_ifne_t (tgt := 78) dX7_year_71 (by decide) c71 ?_
          refine V_iload_n dX7_year_78 rfl ?_
          refine V_iconst (v := 1) dX7_year_79 rfl ?_
          by_cases c80 : v2 = (1 : Int32)
          · rw [if_pos c80] at h
            refine V_icmpne_f (tgt := 98) dX7_year_80 (by decide) c80 ?_
            refine V_aload_n dX7_year_83 rfl ?_
            refine V_getR (kf := 9) k_X7 (by decide) lk_RX7_39 rfl dX7_year_84 (tq_85 hG) rfl ?_
            refine V_aload_n dX7_year_87 rfl ?_
            refine V_iload_n dX7_year_88 rfl ?_
            refine V_iconst (v := 0) dX7_year_89 rfl ?_
            obtain ⟨x11, y12, h⟩ := bi_o h
            refine V_callV (as := [.int v1, .int 0]) (q := 85) (rest := [.ref 93]) dX7_year_90 ov_mX7_rungOf lk_RX7_161 (by decide) (by decide) rfl rfl (Nat.le_of_ble_eq_true rfl) (tq_85 hG) rfl (VM_X7_rungOf G x7.2 hG v1 0 _ y12) ?_
            obtain ⟨g13, h⟩ := gu_o h
            refine V_iaload dX7_year_93 (tq_93 hG) (ib_in g13) ?_
            refine V_i2l dX7_year_94 ?_
            refine V_goto (tgt := 111) dX7_year_95 (by decide) ?_
            cases h
            exact V_lret rfl dX7_year_111
          · rw [if_neg c80] at h
            refine V_icmpne_t (tgt := 98) dX7_year_80 (by decide) c80 ?_
            refine V_aload_n dX7_year_98 rfl ?_
            refine V_aload_n dX7_year_99 rfl ?_
            refine V_iload_n dX7_year_100 rfl ?_
            refine V_iload_n dX7_year_101 rfl ?_
            refine V_iconst (v := 1) dX7_year_102 rfl ?_
            refine V_isub dX7_year_103 ?_
            obtain ⟨x14, y15, h⟩ := bi_o h
            refine V_callV (as := [.int v1, .int (x9 - 1)]) (q := 85) (rest := [.ref 85]) dX7_year_104 ov_mX7_rungOf lk_RX7_161 (by decide) (by decide) rfl rfl (Nat.le_of_ble_eq_true rfl) (tq_85 hG) rfl (VM_X7_rungOf G x7.2 hG v1 (x9 - 1) _ y15) ?_
            obtain ⟨x16, y17, h⟩ := bi_o h
            refine V_callV (as := [.int x14]) (q := 85) (rest := []) dX7_year_107 ov_mX7_top lk_RX7_165 (by decide) (by decide) rfl rfl (Nat.le_of_ble_eq_true rfl) (tq_85 hG) rfl (VM_X7_top G x7.2 hG x14 _ y17) ?_
            refine V_i2l dX7_year_110 ?_
            cases h
            exact V_lret rfl dX7_year_111
      · rw [if_neg c60] at h
        refine V_icmple_f (tgt := 70) dX7_year_60 (by decide) c60 ?_
        refine V_aload_n dX7_year_63 rfl ?_
        refine V_iload_n dX7_year_64 rfl ?_
        refine V_iload_n dX7_year_65 rfl ?_
        obtain ⟨x18, y19, h⟩ := bi_o h
        refine V_callV (as := [.int v1, .int v2]) (q := 85) (rest := []) dX7_year_66 ov_mX7_ofYear lk_RX7_423 (by decide) (by decide) rfl rfl (Nat.le_of_ble_eq_true rfl) (tq_85 hG) rfl (VM_X7_ofYear G fu x7.2 hG v1 v2 _ y19) ?_
        cases h
        exact V_lret rfl dX7_year_69
  · rw [if_neg c40] at h
    refine V_ifne_f (tgt := 45) dX7_year_40 (by decide) (b2i_f.mp c40) ?_
    refine V_lconst (v := 0) dX7_year_43 rfl ?_
    cases h
    exact V_lret rfl dX7_year_44
def D_X7_year_34 (fu : Nat)  (v1 : Int32) (v2 : Int32) (μ : Mem) : Option (Int64 × Mem) :=
  D_X7_year_35 fu v1 v2 0 μ
set_option maxRecDepth 20000 in
theorem T_X7_year_34 (G : GX) (fu : Nat)  (hG : gt G = tbl) : ∀ (v1 : Int32) (v2 : Int32) (μ : Mem) (r : (Int64 × Mem)) , D_X7_year_34 fu v1 v2 μ = some r → V G mX7_year 34 [some (.ref 85), some (.int v1), some (.int v2), none] [.ref 85] μ (.inl (some (.long r.1))) (r.2) := by
  intro v1 v2 μ r h
  unfold D_X7_year_34 at h
  refine V_iconst (v := 0) dX7_year_34 rfl ?_
  exact V_wk [true, true, true, false] rfl (T_X7_year_35 G fu hG _ _ _ _ _ h)
def D_X7_year_0 (fu : Nat)  (a1 : Int32) (a2 : Int32) (μ : Mem) : Option (Int64 × Mem) :=
  vl (wI μ 85 0 0) fun m1 =>
  (D_X7_within_0 m1 ((a1 : Int32).toInt64) 0 11).bind fun x3 =>
  if x3 = true then
    (D_X7_within_0 m1 ((a2 : Int32).toInt64) 0 6).bind fun x5 =>
    if x5 = true then
      D_X7_year_35 fu a1 a2 1 m1
    else
      D_X7_year_34 fu a1 a2 m1
  else
    D_X7_year_34 fu a1 a2 m1
set_option maxRecDepth 20000 in
theorem T_X7_year_0 (G : GX) (fu : Nat)  (hG : gt G = tbl) : ∀ (a1 : Int32) (a2 : Int32) (μ : Mem) (r : (Int64 × Mem)) , D_X7_year_0 fu a1 a2 μ = some r → V G mX7_year 0 [some (.ref 85), some (.int a1), some (.int a2), none] [] μ (.inl (some (.long r.1))) (r.2) := by
  intro a1 a2 μ r h
  unfold D_X7_year_0 at h
  refine V_aload_n dX7_year_0 rfl ?_
  refine V_iconst (v := 0) dX7_year_1 rfl ?_
  obtain ⟨m1, e2, h⟩ := vl_o h
  refine V_putI (kf := 0) k_X7 (by decide) lk_RX7_1 rfl rfl (by decide +kernel) dX7_year_2 (tq_85 hG) rfl e2.symm ?_
  refine V_aload_n dX7_year_5 rfl ?_
  refine V_iload_n dX7_year_6 rfl ?_
  refine V_i2l dX7_year_7 ?_
  refine V_lconst (v := 0) dX7_year_8 rfl ?_
  refine V_ldc2 (v := 11) dX7_year_9 lk_RX7_350 ?_
  obtain ⟨x3, y4, h⟩ := bi_o h
  refine V_callS (as := [.long ((a1 : Int32).toInt64), .long 0, .long 11]) (rest := [.ref 85]) dX7_year_12 os_mX7_within rfl lk_RX7_352 (by decide) (by decide) rfl rfl (Nat.le_of_ble_eq_true rfl) (VM_X7_within G m1 hG ((a1 : Int32).toInt64) 0 11 _ y4) ?_
  by_cases c15 : x3 = true
  · rw [if_pos c15] at h
    refine V_ifeq_f (tgt := 34) dX7_year_15 (by decide) (b2i_t.mp c15) ?_
    refine V_iload_n dX7_year_18 rfl ?_
    refine V_i2l dX7_year_19 ?_
    refine V_lconst (v := 0) dX7_year_20 rfl ?_
    refine V_ldc2 (v := 6) dX7_year_21 lk_RX7_421 ?_
    obtain ⟨x5, y6, h⟩ := bi_o h
    refine V_callS (as := [.long ((a2 : Int32).toInt64), .long 0, .long 6]) (rest := [.ref 85]) dX7_year_24 os_mX7_within rfl lk_RX7_352 (by decide) (by decide) rfl rfl (Nat.le_of_ble_eq_true rfl) (VM_X7_within G m1 hG ((a2 : Int32).toInt64) 0 6 _ y6) ?_
    by_cases c27 : x5 = true
    · rw [if_pos c27] at h
      refine V_ifeq_f (tgt := 34) dX7_year_27 (by decide) (b2i_t.mp c27) ?_
      refine V_iconst (v := 1) dX7_year_30 rfl ?_
      refine V_goto (tgt := 35) dX7_year_31 (by decide) ?_
      exact V_wk [true, true, true, false] rfl (T_X7_year_35 G fu hG _ _ _ _ _ h)
    · rw [if_neg c27] at h
      refine V_ifeq_t (tgt := 34) dX7_year_27 (by decide) (b2i_f.mp c27) ?_
      exact V_wk [true, true, true, false] rfl (T_X7_year_34 G fu hG _ _ _ _ h)
  · rw [if_neg c15] at h
    refine V_ifeq_t (tgt := 34) dX7_year_15 (by decide) (b2i_f.mp c15) ?_
    exact V_wk [true, true, true, false] rfl (T_X7_year_34 G fu hG _ _ _ _ h)
theorem VM_X7_year (G : GX) (fu : Nat)  (hG : gt G = tbl) (a1 : Int32) (a2 : Int32) (μ : Mem) (r : (Int64 × Mem)) (h : D_X7_year_0 fu a1 a2 μ = some r) : VM G mX7_year [.ref 85, .int a1, .int a2] μ (.inl (some (.long r.1))) (r.2) := V_entry ok_mX7_year rfl rfl (Nat.le_of_ble_eq_true rfl) (T_X7_year_0 G fu hG a1 a2 μ r h)
def D_X7_isHeight_0 (μ : Mem)  (a0 : Int32) : Option Bool :=
  (D_X7_within_0 μ ((a0 : Int32).toInt64) 0 1000000000).bind fun x1 =>
  some x1
set_option maxRecDepth 20000 in
theorem T_X7_isHeight_0 (G : GX) (μ : Mem)  (hG : gt G = tbl) : ∀ (a0 : Int32) (r : Bool) , D_X7_isHeight_0 μ a0 = some r → V G mX7_isHeight 0 [some (.int a0)] [] μ (.inl (some (.int (b2i r)))) (μ) := by
  intro a0 r h
  unfold D_X7_isHeight_0 at h
  refine V_iload_n dX7_isHeight_0 rfl ?_
  refine V_i2l dX7_isHeight_1 ?_
  refine V_lconst (v := 0) dX7_isHeight_2 rfl ?_
  refine V_ldc2 (v := 1000000000) dX7_isHeight_3 lk_RX7_387 ?_
  obtain ⟨x1, y2, h⟩ := bi_o h
  refine V_callS (as := [.long ((a0 : Int32).toInt64), .long 0, .long 1000000000]) (rest := []) dX7_isHeight_6 os_mX7_within rfl lk_RX7_352 (by decide) (by decide) rfl rfl (Nat.le_of_ble_eq_true rfl) (VM_X7_within G μ hG ((a0 : Int32).toInt64) 0 1000000000 _ y2) ?_
  cases h
  exact V_zret rfl (b2i_nar _) dX7_isHeight_9
theorem VM_X7_isHeight (G : GX) (μ : Mem)  (hG : gt G = tbl) (a0 : Int32) (r : Bool) (h : D_X7_isHeight_0 μ a0 = some r) : VM G mX7_isHeight [.int a0] μ (.inl (some (.int (b2i r)))) (μ) := V_entry ok_mX7_isHeight rfl rfl (Nat.le_of_ble_eq_true rfl) (T_X7_isHeight_0 G μ hG a0 r h)
def D_X7_layerAt_38 (fu : Nat) (μ : Mem)  (k2 : Int32 → Int32 → Int32 → Option Int32) (v1 : Int32) (v2 : Int32) (v3 : Int32) : Option Int32 :=
  k2 v1 v2 (v3 + 1)
set_option maxRecDepth 20000 in
theorem T_X7_layerAt_38 (G : GX) (fu : Nat) (μ : Mem)  (hG : gt G = tbl) (k2 : Int32 → Int32 → Int32 → Option Int32) (hk2 : ∀ (v1 : Int32) (v2 : Int32) (v3 : Int32) (r : Int32), k2 v1 v2 v3 = some r → V G mX7_layerAt 2 [some (.ref 85), some (.int v1), some (.int v2), some (.int v3)] [] μ (.inl (some (.int r))) (μ)) : ∀ (v1 : Int32) (v2 : Int32) (v3 : Int32) (r : Int32) , D_X7_layerAt_38 fu μ k2 v1 v2 v3 = some r → V G mX7_layerAt 38 [some (.ref 85), some (.int v1), some (.int v2), some (.int v3)] [] μ (.inl (some (.int r))) (μ) := by
  intro v1 v2 v3 r h
  unfold D_X7_layerAt_38 at h
  refine V_iinc (v := v3 + 1) (lv2 := [some (.ref 85), some (.int v1), some (.int v2), some (.int (v3 + 1))]) dX7_layerAt_38 rfl rfl (by decide) rfl ?_
  refine V_goto (tgt := 2) dX7_layerAt_41 (by decide) ?_
  exact V_wk [true, true, true, true] rfl (hk2 _ _ _ _ h)
def D_X7_layerAt_2 (fu : Nat) (μ : Mem)  : Nat → Int32 → Int32 → Int32 → Option Int32
  | 0, _, _, _ => none
  | n + 1, v1, v2, v3 =>
    if (40 : Int32) ≤ v3 then
      some (-1)
    else
      (D_X7_isIn_0 μ v3 v1).bind fun x1 =>
      if x1 = true then
        gu (ib v3 40) <|
        if v2 < (μ.1 93 (Int32.toNatClampNeg v3)) then
          D_X7_layerAt_38 fu μ (D_X7_layerAt_2 fu μ n) v1 v2 v3
        else
          (D_X7_top_0 μ v3).bind fun x4 =>
          if x4 ≤ v2 then
            D_X7_layerAt_38 fu μ (D_X7_layerAt_2 fu μ n) v1 v2 v3
          else
            some v3
      else
        D_X7_layerAt_38 fu μ (D_X7_layerAt_2 fu μ n) v1 v2 v3
set_option maxRecDepth 20000 in
theorem T_X7_layerAt_2 (G : GX) (fu : Nat) (μ : Mem)  (hG : gt G = tbl) : ∀ (n : Nat) (v1 : Int32) (v2 : Int32) (v3 : Int32) (r : Int32) , D_X7_layerAt_2 fu μ n v1 v2 v3 = some r → V G mX7_layerAt 2 [some (.ref 85), some (.int v1), some (.int v2), some (.int v3)] [] μ (.inl (some (.int r))) (μ) := by
  intro n
  induction n with
  | zero =>
    intro v1 v2 v3 r h
    exact nomatch (show (none : Option Int32) = some r from h)
  | succ n ih =>
    intro v1 v2 v3 r h
    rw [D_X7_layerAt_2] at h
    refine V_iload_n dX7_layerAt_2 rfl ?_
    refine V_bipush (v := 40) dX7_layerAt_3 rfl ?_
    by_cases c5 : (40 : Int32) ≤ v3
    · rw [if_pos c5] at h
      refine V_icmpge_t (tgt := 44) dX7_layerAt_5 (by decide) c5 ?_
      refine V_iconst (v := (-1)) dX7_layerAt_44 rfl ?_
      cases h
      exact V_iret rfl dX7_layerAt_45
    · rw [if_neg c5] at h
      refine V_icmpge_f (tgt := 44) dX7_layerAt_5 (by decide) c5 ?_
      refine V_aload_n dX7_layerAt_8 rfl ?_
      refine V_iload_n dX7_layerAt_9 rfl ?_
      refine V_iload_n dX7_layerAt_10 rfl ?_
      obtain ⟨x1, y2, h⟩ := bi_o h
      refine V_callV (as := [.int v3, .int v1]) (q := 85) (rest := []) dX7_layerAt_11 ov_mX7_isIn lk_RX7_283 (by decide) (by decide) rfl rfl (Nat.le_of_ble_eq_true rfl) (tq_85 hG) rfl (VM_X7_isIn G μ hG v3 v1 _ y2) ?_
      by_cases c14 : x1 = true
      · rw [if_pos c14] at h
        refine V_ifeq_f (tgt := 38) dX7_layerAt_14 (by decide) (b2i_t.mp c14) ?_
        refine V_aload_n dX7_layerAt_17 rfl ?_
        refine V_getR (kf := 9) k_X7 (by decide) lk_RX7_39 rfl dX7_layerAt_18 (tq_85 hG) rfl ?_
        refine V_iload_n dX7_layerAt_21 rfl ?_
        obtain ⟨g3, h⟩ := gu_o h
        refine V_iaload dX7_layerAt_22 (tq_93 hG) (ib_in g3) ?_
        refine V_iload_n dX7_layerAt_23 rfl ?_
        by_cases c24 : v2 < (μ.1 93 (Int32.toNatClampNeg v3))
        · rw [if_pos c24] at h
          refine V_icmpgt_t (tgt := 38) dX7_layerAt_24 (by decide) c24 ?_
          exact V_wk [true, true, true, true] rfl (T_X7_layerAt_38 G fu μ hG (D_X7_layerAt_2 fu μ n) ih _ _ _ _ h)
        · rw [if_neg c24] at h
          refine V_icmpgt_f (tgt := 38) dX7_layerAt_24 (by decide) c24 ?_
          refine V_iload_n dX7_layerAt_27 rfl ?_
          refine V_aload_n dX7_layerAt_28 rfl ?_
          refine V_iload_n dX7_layerAt_29 rfl ?_
          obtain ⟨x4, y5, h⟩ := bi_o h
          refine V_callV (as := [.int v3]) (q := 85) (rest := [.int v2]) dX7_layerAt_30 ov_mX7_top lk_RX7_165 (by decide) (by decide) rfl rfl (Nat.le_of_ble_eq_true rfl) (tq_85 hG) rfl (VM_X7_top G μ hG v3 _ y5) ?_
          by_cases c33 : x4 ≤ v2
          · rw [if_pos c33] at h
            refine V_icmpge_t (tgt := 38) dX7_layerAt_33 (by decide) c33 ?_
            exact V_wk [true, true, true, true] rfl (T_X7_layerAt_38 G fu μ hG (D_X7_layerAt_2 fu μ n) ih _ _ _ _ h)
          · rw [if_neg c33] at h
            refine V_icmpge_f (tgt := 38) dX7_layerAt_33 (by decide) c33 ?_
            refine V_iload_n dX7_layerAt_36 rfl ?_
            cases h
            exact V_iret rfl dX7_layerAt_37
      · rw [if_neg c14] at h
        refine V_ifeq_t (tgt := 38) dX7_layerAt_14 (by decide) (b2i_f.mp c14) ?_
        exact V_wk [true, true, true, true] rfl (T_X7_layerAt_38 G fu μ hG (D_X7_layerAt_2 fu μ n) ih _ _ _ _ h)
def D_X7_layerAt_0 (fu : Nat) (μ : Mem)  (a1 : Int32) (a2 : Int32) : Option Int32 :=
  D_X7_layerAt_2 fu μ fu a1 a2 0
set_option maxRecDepth 20000 in
theorem T_X7_layerAt_0 (G : GX) (fu : Nat) (μ : Mem)  (hG : gt G = tbl) : ∀ (a1 : Int32) (a2 : Int32) (r : Int32) , D_X7_layerAt_0 fu μ a1 a2 = some r → V G mX7_layerAt 0 [some (.ref 85), some (.int a1), some (.int a2), none] [] μ (.inl (some (.int r))) (μ) := by
  intro a1 a2 r h
  unfold D_X7_layerAt_0 at h
  refine V_iconst (v := 0) dX7_layerAt_0 rfl ?_
  refine V_istore_n (lv2 := [some (.ref 85), some (.int a1), some (.int a2), some (.int 0)]) dX7_layerAt_1 (by decide) rfl ?_
  exact V_wk [true, true, true, true] rfl (T_X7_layerAt_2 G fu μ hG fu _ _ _ _ h)
theorem VM_X7_layerAt (G : GX) (fu : Nat) (μ : Mem)  (hG : gt G = tbl) (a1 : Int32) (a2 : Int32) (r : Int32) (h : D_X7_layerAt_0 fu μ a1 a2 = some r) : VM G mX7_layerAt [.ref 85, .int a1, .int a2] μ (.inl (some (.int r))) (μ) := V_entry ok_mX7_layerAt rfl rfl (Nat.le_of_ble_eq_true rfl) (T_X7_layerAt_0 G fu μ hG a1 a2 r h)
def D_X7_at_87 (fu : Nat)  (k57 : Int32 → Int32 → Int32 → Mem → Option (Int32 × Mem)) (v1 : Int32) (v2 : Int32) (v4 : Int32) (μ : Mem) : Option (Int32 × Mem) :=
  k57 v1 v2 (v4 + 1) μ
set_option maxRecDepth 20000 in
theorem T_X7_at_87 (G : GX) (fu : Nat)  (hG : gt G = tbl) (k57 : Int32 → Int32 → Int32 → Mem → Option (Int32 × Mem)) (hk57 : ∀ (v1 : Int32) (v2 : Int32) (v4 : Int32) (μ : Mem) (r : (Int32 × Mem)), k57 v1 v2 v4 μ = some r → V G mX7_at 57 [some (.ref 85), some (.int v1), some (.int v2), none, some (.int v4)] [] μ (.inl (some (.int r.1))) (r.2)) : ∀ (v1 : Int32) (v2 : Int32) (v4 : Int32) (μ : Mem) (r : (Int32 × Mem)) , D_X7_at_87 fu k57 v1 v2 v4 μ = some r → V G mX7_at 87 [some (.ref 85), some (.int v1), some (.int v2), none, some (.int v4)] [] μ (.inl (some (.int r.1))) (r.2) := by
  intro v1 v2 v4 μ r h
  unfold D_X7_at_87 at h
  refine V_iinc (v := v4 + 1) (lv2 := [some (.ref 85), some (.int v1), some (.int v2), none, some (.int (v4 + 1))]) dX7_at_87 rfl rfl (by decide) rfl ?_
  refine V_goto (tgt := 57) dX7_at_90 (by decide) ?_
  exact V_wk [true, true, true, false, true] rfl (hk57 _ _ _ _ _ h)
def D_X7_at_57 (fu : Nat)  : Nat → Int32 → Int32 → Int32 → Mem → Option (Int32 × Mem)
  | 0, _, _, _, _ => none
  | n + 1, v1, v2, v4, μ =>
    if (40 : Int32) ≤ v4 then
      some ((-2), μ)
    else
      (D_X7_isIn_0 μ v4 v1).bind fun x11 =>
      if x11 = true then
        gu (ib v4 40) <|
        if (μ.1 93 (Int32.toNatClampNeg v4)) ≤ v2 then
          D_X7_at_87 fu (D_X7_at_57 fu n) v1 v2 v4 μ
        else
          some ((-1), μ)
      else
        D_X7_at_87 fu (D_X7_at_57 fu n) v1 v2 v4 μ
set_option maxRecDepth 20000 in
theorem T_X7_at_57 (G : GX) (fu : Nat)  (hG : gt G = tbl) : ∀ (n : Nat) (v1 : Int32) (v2 : Int32) (v4 : Int32) (μ : Mem) (r : (Int32 × Mem)) , D_X7_at_57 fu n v1 v2 v4 μ = some r → V G mX7_at 57 [some (.ref 85), some (.int v1), some (.int v2), none, some (.int v4)] [] μ (.inl (some (.int r.1))) (r.2) := by
  intro n
  induction n with
  | zero =>
    intro v1 v2 v4 μ r h
    exact nomatch (show (none : Option (Int32 × Mem)) = some r from h)
  | succ n ih =>
    intro v1 v2 v4 μ r h
    rw [D_X7_at_57] at h
    refine V_iload dX7_at_57 rfl ?_
    refine V_bipush (v := 40) dX7_at_59 rfl ?_
    by_cases c61 : (40 : Int32) ≤ v4
    · rw [if_pos c61] at h
      refine V_icmpge_t (tgt := 93) dX7_at_61 (by decide) c61 ?_
      refine V_bipush (v := (-2)) dX7_at_93 rfl ?_
      cases h
      exact V_iret rfl dX7_at_95
    · rw [if_neg c61] at h
      refine V_icmpge_f (tgt := 93) dX7_at_61 (by decide) c61 ?_
      refine V_aload_n dX7_at_64 rfl ?_
      refine V_iload dX7_at_65 rfl ?_
      refine V_iload_n dX7_at_67 rfl ?_
      obtain ⟨x11, y12, h⟩ := bi_o h
      refine V_callV (as := [.int v4, .int v1]) (q := 85) (rest := []) dX7_at_68 ov_mX7_isIn lk_RX7_283 (by decide) (by decide) rfl rfl (Nat.le_of_ble_eq_true rfl) (tq_85 hG) rfl (VM_X7_isIn G μ hG v4 v1 _ y12) ?_
      by_cases c71 : x11 = true
      · rw [if_pos c71] at h
        refine V_ifeq_f (tgt := 87) dX7_at_71 (by decide) (b2i_t.mp c71) ?_
        refine V_aload_n dX7_at_74 rfl ?_
        refine V_getR (kf := 9) k_X7 (by decide) lk_RX7_39 rfl dX7_at_75 (tq_85 hG) rfl ?_
        refine V_iload dX7_at_78 rfl ?_
        obtain ⟨g13, h⟩ := gu_o h
        refine V_iaload dX7_at_80 (tq_93 hG) (ib_in g13) ?_
        refine V_iload_n dX7_at_81 rfl ?_
        by_cases c82 : (μ.1 93 (Int32.toNatClampNeg v4)) ≤ v2
        · rw [if_pos c82] at h
          refine V_icmple_t (tgt := 87) dX7_at_82 (by decide) c82 ?_
          exact V_wk [true, true, true, false, true] rfl (T_X7_at_87 G fu hG (D_X7_at_57 fu n) ih _ _ _ _ _ h)
        · rw [if_neg c82] at h
          refine V_icmple_f (tgt := 87) dX7_at_82 (by decide) c82 ?_
          refine V_iconst (v := (-1)) dX7_at_85 rfl ?_
          cases h
          exact V_iret rfl dX7_at_86
      · rw [if_neg c71] at h
        refine V_ifeq_t (tgt := 87) dX7_at_71 (by decide) (b2i_f.mp c71) ?_
        exact V_wk [true, true, true, false, true] rfl (T_X7_at_87 G fu hG (D_X7_at_57 fu n) ih _ _ _ _ _ h)
def D_X7_at_30 (fu : Nat)  (v1 : Int32) (v2 : Int32) (s1 : Int32) (μ : Mem) : Option (Int32 × Mem) :=
  (D_X7_needs_0 s1 1 1 μ).bind fun x7 =>
  if x7.1 = true then
    (D_X7_layerAt_0 fu x7.2 v1 v2).bind fun x9 =>
    if x9 = (-1 : Int32) then
      D_X7_at_57 fu fu v1 v2 0 x7.2
    else
      some (x9, x7.2)
  else
    some (0, x7.2)
set_option maxRecDepth 20000 in
theorem T_X7_at_30 (G : GX) (fu : Nat)  (hG : gt G = tbl) : ∀ (v1 : Int32) (v2 : Int32) (s1 : Int32) (μ : Mem) (r : (Int32 × Mem)) , D_X7_at_30 fu v1 v2 s1 μ = some r → V G mX7_at 30 [some (.ref 85), some (.int v1), some (.int v2), none, none] [.int s1, .ref 85] μ (.inl (some (.int r.1))) (r.2) := by
  intro v1 v2 s1 μ r h
  unfold D_X7_at_30 at h
  refine V_iconst (v := 1) dX7_at_30 rfl ?_
  refine V_iconst (v := 1) dX7_at_31 rfl ?_
  obtain ⟨x7, y8, h⟩ := bi_o h
  refine V_callV (as := [.int s1, .int 1, .int 1]) (q := 85) (rest := []) dX7_at_32 ov_mX7_needs lk_RX7_346 (by decide) (by decide) rfl rfl (Nat.le_of_ble_eq_true rfl) (tq_85 hG) rfl (VM_X7_needs G hG s1 1 1 μ _ y8) ?_
  by_cases c35 : x7.1 = true
  · rw [if_pos c35] at h
    refine V_ifne_t (tgt := 40) dX7_at_35 (by decide) (b2i_t.mp c35) ?_
    refine V_aload_n dX7_at_40 rfl ?_
    refine V_iload_n dX7_at_41 rfl ?_
    refine V_iload_n dX7_at_42 rfl ?_
    obtain ⟨x9, y10, h⟩ := bi_o h
    refine V_callV (as := [.int v1, .int v2]) (q := 85) (rest := []) dX7_at_43 ov_mX7_layerAt lk_RX7_429 (by decide) (by decide) rfl rfl (Nat.le_of_ble_eq_true rfl) (tq_85 hG) rfl (VM_X7_layerAt G fu x7.2 hG v1 v2 _ y10) ?_
    refine V_istore_n (lv2 := [some (.ref 85), some (.int v1), some (.int v2), some (.int x9), none]) dX7_at_46 (by decide) rfl ?_
    refine V_iload_n dX7_at_47 rfl ?_
    refine V_iconst (v := (-1)) dX7_at_48 rfl ?_
    by_cases c49 : x9 = (-1 : Int32)
    · rw [if_pos c49] at h
      refine V_icmpeq_t (tgt := 54) dX7_at_49 (by decide) c49 ?_
      refine V_iconst (v := 0) dX7_at_54 rfl ?_
      refine V_istore (lv2 := [some (.ref 85), some (.int v1), some (.int v2), some (.int x9), some (.int 0)]) dX7_at_55 (by decide) rfl ?_
      exact V_wk [true, true, true, false, true] rfl (T_X7_at_57 G fu hG fu _ _ _ _ _ h)
    · rw [if_neg c49] at h
      refine V_icmpeq_f (tgt := 54) dX7_at_49 (by decide) c49 ?_
      refine V_iload_n dX7_at_52 rfl ?_
      cases h
      exact V_iret rfl dX7_at_53
  · rw [if_neg c35] at h
    refine V_ifne_f (tgt := 40) dX7_at_35 (by decide) (b2i_f.mp c35) ?_
    refine V_iconst (v := 0) dX7_at_38 rfl ?_
    cases h
    exact V_iret rfl dX7_at_39
def D_X7_at_29 (fu : Nat)  (v1 : Int32) (v2 : Int32) (μ : Mem) : Option (Int32 × Mem) :=
  D_X7_at_30 fu v1 v2 0 μ
set_option maxRecDepth 20000 in
theorem T_X7_at_29 (G : GX) (fu : Nat)  (hG : gt G = tbl) : ∀ (v1 : Int32) (v2 : Int32) (μ : Mem) (r : (Int32 × Mem)) , D_X7_at_29 fu v1 v2 μ = some r → V G mX7_at 29 [some (.ref 85), some (.int v1), some (.int v2), none, none] [.ref 85] μ (.inl (some (.int r.1))) (r.2) := by
  intro v1 v2 μ r h
  unfold D_X7_at_29 at h
  refine V_iconst (v := 0) dX7_at_29 rfl ?_
  exact V_wk [true, true, true, false, false] rfl (T_X7_at_30 G fu hG _ _ _ _ _ h)
def D_X7_at_0 (fu : Nat)  (a1 : Int32) (a2 : Int32) (μ : Mem) : Option (Int32 × Mem) :=
  vl (wI μ 85 0 0) fun m1 =>
  (D_X7_within_0 m1 ((a1 : Int32).toInt64) 0 11).bind fun x3 =>
  if x3 = true then
    (D_X7_isHeight_0 m1 a2).bind fun x5 =>
    if x5 = true then
      D_X7_at_30 fu a1 a2 1 m1
    else
      D_X7_at_29 fu a1 a2 m1
  else
    D_X7_at_29 fu a1 a2 m1
set_option maxRecDepth 20000 in
theorem T_X7_at_0 (G : GX) (fu : Nat)  (hG : gt G = tbl) : ∀ (a1 : Int32) (a2 : Int32) (μ : Mem) (r : (Int32 × Mem)) , D_X7_at_0 fu a1 a2 μ = some r → V G mX7_at 0 [some (.ref 85), some (.int a1), some (.int a2), none, none] [] μ (.inl (some (.int r.1))) (r.2) := by
  intro a1 a2 μ r h
  unfold D_X7_at_0 at h
  refine V_aload_n dX7_at_0 rfl ?_
  refine V_iconst (v := 0) dX7_at_1 rfl ?_
  obtain ⟨m1, e2, h⟩ := vl_o h
  refine V_putI (kf := 0) k_X7 (by decide) lk_RX7_1 rfl rfl (by decide +kernel) dX7_at_2 (tq_85 hG) rfl e2.symm ?_
  refine V_aload_n dX7_at_5 rfl ?_
  refine V_iload_n dX7_at_6 rfl ?_
  refine V_i2l dX7_at_7 ?_
  refine V_lconst (v := 0) dX7_at_8 rfl ?_
  refine V_ldc2 (v := 11) dX7_at_9 lk_RX7_350 ?_
  obtain ⟨x3, y4, h⟩ := bi_o h
  refine V_callS (as := [.long ((a1 : Int32).toInt64), .long 0, .long 11]) (rest := [.ref 85]) dX7_at_12 os_mX7_within rfl lk_RX7_352 (by decide) (by decide) rfl rfl (Nat.le_of_ble_eq_true rfl) (VM_X7_within G m1 hG ((a1 : Int32).toInt64) 0 11 _ y4) ?_
  by_cases c15 : x3 = true
  · rw [if_pos c15] at h
    refine V_ifeq_f (tgt := 29) dX7_at_15 (by decide) (b2i_t.mp c15) ?_
    refine V_iload_n dX7_at_18 rfl ?_
    obtain ⟨x5, y6, h⟩ := bi_o h
    refine V_callS (as := [.int a2]) (rest := [.ref 85]) dX7_at_19 os_mX7_isHeight rfl lk_RX7_426 (by decide) (by decide) rfl rfl (Nat.le_of_ble_eq_true rfl) (VM_X7_isHeight G m1 hG a2 _ y6) ?_
    by_cases c22 : x5 = true
    · rw [if_pos c22] at h
      refine V_ifeq_f (tgt := 29) dX7_at_22 (by decide) (b2i_t.mp c22) ?_
      refine V_iconst (v := 1) dX7_at_25 rfl ?_
      refine V_goto (tgt := 30) dX7_at_26 (by decide) ?_
      exact V_wk [true, true, true, false, false] rfl (T_X7_at_30 G fu hG _ _ _ _ _ h)
    · rw [if_neg c22] at h
      refine V_ifeq_t (tgt := 29) dX7_at_22 (by decide) (b2i_f.mp c22) ?_
      exact V_wk [true, true, true, false, false] rfl (T_X7_at_29 G fu hG _ _ _ _ h)
  · rw [if_neg c15] at h
    refine V_ifeq_t (tgt := 29) dX7_at_15 (by decide) (b2i_f.mp c15) ?_
    exact V_wk [true, true, true, false, false] rfl (T_X7_at_29 G fu hG _ _ _ _ h)
theorem VM_X7_at (G : GX) (fu : Nat)  (hG : gt G = tbl) (a1 : Int32) (a2 : Int32) (μ : Mem) (r : (Int32 × Mem)) (h : D_X7_at_0 fu a1 a2 μ = some r) : VM G mX7_at [.ref 85, .int a1, .int a2] μ (.inl (some (.int r.1))) (r.2) := V_entry ok_mX7_at rfl rfl (Nat.le_of_ble_eq_true rfl) (T_X7_at_0 G fu hG a1 a2 μ r h)
def D_X7_rung_27  (v1 : Int32) (v2 : Int32) (s1 : Int32) (μ : Mem) : Option (Int32 × Mem) :=
  (D_X7_needs_0 s1 1 1 μ).bind fun x5 =>
  if x5.1 = true then
    (D_X7_rungOf_0 x5.2 v1 v2).bind fun x7 =>
    some (x7, x5.2)
  else
    some (0, x5.2)
set_option maxRecDepth 20000 in
theorem T_X7_rung_27 (G : GX)  (hG : gt G = tbl) : ∀ (v1 : Int32) (v2 : Int32) (s1 : Int32) (μ : Mem) (r : (Int32 × Mem)) , D_X7_rung_27  v1 v2 s1 μ = some r → V G mX7_rung 27 [some (.ref 85), some (.int v1), some (.int v2)] [.int s1, .ref 85] μ (.inl (some (.int r.1))) (r.2) := by
  intro v1 v2 s1 μ r h
  unfold D_X7_rung_27 at h
  refine V_iconst (v := 1) dX7_rung_27 rfl ?_
  refine V_iconst (v := 1) dX7_rung_28 rfl ?_
  obtain ⟨x5, y6, h⟩ := bi_o h
  refine V_callV (as := [.int s1, .int 1, .int 1]) (q := 85) (rest := []) dX7_rung_29 ov_mX7_needs lk_RX7_346 (by decide) (by decide) rfl rfl (Nat.le_of_ble_eq_true rfl) (tq_85 hG) rfl (VM_X7_needs G hG s1 1 1 μ _ y6) ?_
  by_cases c32 : x5.1 = true
  · rw [if_pos c32] at h
    refine V_ifne_t (tgt := 37) dX7_rung_32 (by decide) (b2i_t.mp c32) ?_
    refine V_aload_n dX7_rung_37 rfl ?_
    refine V_iload_n dX7_rung_38 rfl ?_
    refine V_iload_n dX7_rung_39 rfl ?_
    obtain ⟨x7, y8, h⟩ := bi_o h
    refine V_callV (as := [.int v1, .int v2]) (q := 85) (rest := []) dX7_rung_40 ov_mX7_rungOf lk_RX7_161 (by decide) (by decide) rfl rfl (Nat.le_of_ble_eq_true rfl) (tq_85 hG) rfl (VM_X7_rungOf G x5.2 hG v1 v2 _ y8) ?_
    cases h
    exact V_iret rfl dX7_rung_43
  · rw [if_neg c32] at h
    refine V_ifne_f (tgt := 37) dX7_rung_32 (by decide) (b2i_f.mp c32) ?_
    refine V_iconst (v := 0) dX7_rung_35 rfl ?_
    cases h
    exact V_iret rfl dX7_rung_36
def D_X7_rung_26  (v1 : Int32) (v2 : Int32) (μ : Mem) : Option (Int32 × Mem) :=
  D_X7_rung_27 v1 v2 0 μ
set_option maxRecDepth 20000 in
theorem T_X7_rung_26 (G : GX)  (hG : gt G = tbl) : ∀ (v1 : Int32) (v2 : Int32) (μ : Mem) (r : (Int32 × Mem)) , D_X7_rung_26  v1 v2 μ = some r → V G mX7_rung 26 [some (.ref 85), some (.int v1), some (.int v2)] [.ref 85] μ (.inl (some (.int r.1))) (r.2) := by
  intro v1 v2 μ r h
  unfold D_X7_rung_26 at h
  refine V_iconst (v := 0) dX7_rung_26 rfl ?_
  exact V_wk [true, true, true] rfl (T_X7_rung_27 G hG _ _ _ _ _ h)
def D_X7_rung_0  (a1 : Int32) (a2 : Int32) (μ : Mem) : Option (Int32 × Mem) :=
  vl (wI μ 85 0 0) fun m1 =>
  (D_X7_within_0 m1 ((a1 : Int32).toInt64) 0 11).bind fun x3 =>
  if x3 = true then
    if a2 < 0 then
      D_X7_rung_26 a1 a2 m1
    else
      D_X7_rung_27 a1 a2 1 m1
  else
    D_X7_rung_26 a1 a2 m1
set_option maxRecDepth 20000 in
theorem T_X7_rung_0 (G : GX)  (hG : gt G = tbl) : ∀ (a1 : Int32) (a2 : Int32) (μ : Mem) (r : (Int32 × Mem)) , D_X7_rung_0  a1 a2 μ = some r → V G mX7_rung 0 [some (.ref 85), some (.int a1), some (.int a2)] [] μ (.inl (some (.int r.1))) (r.2) := by
  intro a1 a2 μ r h
  unfold D_X7_rung_0 at h
  refine V_aload_n dX7_rung_0 rfl ?_
  refine V_iconst (v := 0) dX7_rung_1 rfl ?_
  obtain ⟨m1, e2, h⟩ := vl_o h
  refine V_putI (kf := 0) k_X7 (by decide) lk_RX7_1 rfl rfl (by decide +kernel) dX7_rung_2 (tq_85 hG) rfl e2.symm ?_
  refine V_aload_n dX7_rung_5 rfl ?_
  refine V_iload_n dX7_rung_6 rfl ?_
  refine V_i2l dX7_rung_7 ?_
  refine V_lconst (v := 0) dX7_rung_8 rfl ?_
  refine V_ldc2 (v := 11) dX7_rung_9 lk_RX7_350 ?_
  obtain ⟨x3, y4, h⟩ := bi_o h
  refine V_callS (as := [.long ((a1 : Int32).toInt64), .long 0, .long 11]) (rest := [.ref 85]) dX7_rung_12 os_mX7_within rfl lk_RX7_352 (by decide) (by decide) rfl rfl (Nat.le_of_ble_eq_true rfl) (VM_X7_within G m1 hG ((a1 : Int32).toInt64) 0 11 _ y4) ?_
  by_cases c15 : x3 = true
  · rw [if_pos c15] at h
    refine V_ifeq_f (tgt := 26) dX7_rung_15 (by decide) (b2i_t.mp c15) ?_
    refine V_iload_n dX7_rung_18 rfl ?_
    by_cases c19 : a2 < 0
    · rw [if_pos c19] at h
      refine V_iflt_t (tgt := 26) dX7_rung_19 (by decide) c19 ?_
      exact V_wk [true, true, true] rfl (T_X7_rung_26 G hG _ _ _ _ h)
    · rw [if_neg c19] at h
      refine V_iflt_f (tgt := 26) dX7_rung_19 (by decide) c19 ?_
      refine V_iconst (v := 1) dX7_rung_22 rfl ?_
      refine V_goto (tgt := 27) dX7_rung_23 (by decide) ?_
      exact V_wk [true, true, true] rfl (T_X7_rung_27 G hG _ _ _ _ _ h)
  · rw [if_neg c15] at h
    refine V_ifeq_t (tgt := 26) dX7_rung_15 (by decide) (b2i_f.mp c15) ?_
    exact V_wk [true, true, true] rfl (T_X7_rung_26 G hG _ _ _ _ h)
theorem VM_X7_rung (G : GX)  (hG : gt G = tbl) (a1 : Int32) (a2 : Int32) (μ : Mem) (r : (Int32 × Mem)) (h : D_X7_rung_0  a1 a2 μ = some r) : VM G mX7_rung [.ref 85, .int a1, .int a2] μ (.inl (some (.int r.1))) (r.2) := V_entry ok_mX7_rung rfl rfl (Nat.le_of_ble_eq_true rfl) (T_X7_rung_0 G hG a1 a2 μ r h)
def D_X7_damage_0 (fu : Nat)  (a1 : Int32) (a2 : Int32) (μ : Mem) : Option (Int64 × Mem) :=
  vl (wI μ 85 0 0) fun m1 =>
  (D_X7_isHarmOne_0 a1 m1).bind fun x3 =>
  if x3.1 = true then
    (D_X7_within_0 x3.2 ((a2 : Int32).toInt64) 0 5).bind fun x5 =>
    (D_X7_needs_0 (b2i x5) 2 1 x3.2).bind fun x7 =>
    if x7.1 = true then
      if (3 : Int32) ≤ a2 then
        if a2 = (3 : Int32) then
          gu (ib a1 25) <|
          some (x7.2.2.1 104 (Int32.toNatClampNeg a1), x7.2)
        else
          if a2 = (4 : Int32) then
            (D_X7_insuredOf_0 fu x7.2 a1).bind fun x10 =>
            some (x10, x7.2)
          else
            gu (ib a1 25) <|
            some ((x7.2.1 103 (Int32.toNatClampNeg a1) : Int32).toInt64, x7.2)
      else
        if a2 = 0 then
          gu (ib a1 25) <|
          some ((x7.2.1 100 (Int32.toNatClampNeg a1) : Int32).toInt64, x7.2)
        else
          if a2 = (1 : Int32) then
            gu (ib a1 25) <|
            some ((x7.2.1 101 (Int32.toNatClampNeg a1) : Int32).toInt64, x7.2)
          else
            gu (ib a1 25) <|
            some ((x7.2.1 102 (Int32.toNatClampNeg a1) : Int32).toInt64, x7.2)
    else
      some (0, x7.2)
  else
    some (0, x3.2)
set_option maxRecDepth 20000 in
theorem T_X7_damage_0 (G : GX) (fu : Nat)  (hG : gt G = tbl) : ∀ (a1 : Int32) (a2 : Int32) (μ : Mem) (r : (Int64 × Mem)) , D_X7_damage_0 fu a1 a2 μ = some r → V G mX7_damage 0 [some (.ref 85), some (.int a1), some (.int a2)] [] μ (.inl (some (.long r.1))) (r.2) := by
  intro a1 a2 μ r h
  unfold D_X7_damage_0 at h
  refine V_aload_n dX7_damage_0 rfl ?_
  refine V_iconst (v := 0) dX7_damage_1 rfl ?_
  obtain ⟨m1, e2, h⟩ := vl_o h
  refine V_putI (kf := 0) k_X7 (by decide) lk_RX7_1 rfl rfl (by decide +kernel) dX7_damage_2 (tq_85 hG) rfl e2.symm ?_
  refine V_aload_n dX7_damage_5 rfl ?_
  refine V_iload_n dX7_damage_6 rfl ?_
  obtain ⟨x3, y4, h⟩ := bi_o h
  refine V_callV (as := [.int a1]) (q := 85) (rest := []) dX7_damage_7 ov_mX7_isHarmOne lk_RX7_397 (by decide) (by decide) rfl rfl (Nat.le_of_ble_eq_true rfl) (tq_85 hG) rfl (VM_X7_isHarmOne G hG a1 m1 _ y4) ?_
  by_cases c10 : x3.1 = true
  · rw [if_pos c10] at h
    refine V_ifeq_f (tgt := 31) dX7_damage_10 (by decide) (b2i_t.mp c10) ?_
    refine V_aload_n dX7_damage_13 rfl ?_
    refine V_iload_n dX7_damage_14 rfl ?_
    refine V_i2l dX7_damage_15 ?_
    refine V_lconst (v := 0) dX7_damage_16 rfl ?_
    refine V_ldc2 (v := 5) dX7_damage_17 lk_RX7_432 ?_
    obtain ⟨x5, y6, h⟩ := bi_o h
    refine V_callS (as := [.long ((a2 : Int32).toInt64), .long 0, .long 5]) (rest := [.ref 85]) dX7_damage_20 os_mX7_within rfl lk_RX7_352 (by decide) (by decide) rfl rfl (Nat.le_of_ble_eq_true rfl) (VM_X7_within G x3.2 hG ((a2 : Int32).toInt64) 0 5 _ y6) ?_
    refine V_iconst (v := 2) dX7_damage_23 rfl ?_
    refine V_iconst (v := 1) dX7_damage_24 rfl ?_
    obtain ⟨x7, y8, h⟩ := bi_o h
    refine V_callV (as := [.int (b2i x5), .int 2, .int 1]) (q := 85) (rest := []) dX7_damage_25 ov_mX7_needs lk_RX7_346 (by decide) (by decide) rfl rfl (Nat.le_of_ble_eq_true rfl) (tq_85 hG) rfl (VM_X7_needs G hG (b2i x5) 2 1 x3.2 _ y8) ?_
    by_cases c28 : x7.1 = true
    · rw [if_pos c28] at h
      refine V_ifne_t (tgt := 33) dX7_damage_28 (by decide) (b2i_t.mp c28) ?_
      refine V_iload_n dX7_damage_33 rfl ?_
      refine V_iconst (v := 3) dX7_damage_34 rfl ?_
      by_cases c35 : (3 : Int32) ≤ a2
      · rw [if_pos c35] at h
        refine V_icmpge_t (tgt := 75) dX7_damage_35 (by decide) c35 ?_
        refine V_iload_n dX7_damage_75 rfl ?_
        refine V_iconst (v := 3) dX7_damage_76 rfl ?_
        by_cases c77 : a2 = (3 : Int32)
        · rw [if_pos c77] at h
          refine V_icmpne_f (tgt := 89) dX7_damage_77 (by decide) c77 ?_
          refine V_aload_n dX7_damage_80 rfl ?_
          refine V_getR (kf := 20) k_X7 (by decide) lk_RX7_73 rfl dX7_damage_81 (tq_85 hG) rfl ?_
          refine V_iload_n dX7_damage_84 rfl ?_
          obtain ⟨g9, h⟩ := gu_o h
          refine V_laload dX7_damage_85 (tq_104 hG) (ib_in g9) ?_
          refine V_goto (tgt := 109) dX7_damage_86 (by decide) ?_
          cases h
          exact V_lret rfl dX7_damage_109
        · rw [if_neg c77] at h
          refine V_icmpne_t (tgt := 89) dX7_damage_77 (by decide) c77 ?_
          refine V_iload_n dX7_damage_89 rfl ?_
          refine V_iconst (v := 4) dX7_damage_90 rfl ?_
          by_cases c91 : a2 = (4 : Int32)
          · rw [if_pos c91] at h
            refine V_icmpne_f (tgt := 102) dX7_damage_91 (by decide) c91 ?_
            refine V_aload_n dX7_damage_94 rfl ?_
            refine V_iload_n dX7_damage_95 rfl ?_
            obtain ⟨x10, y11, h⟩ := bi_o h
            refine V_callV (as := [.int a1]) (q := 85) (rest := []) dX7_damage_96 ov_mX7_insuredOf lk_RX7_277 (by decide) (by decide) rfl rfl (Nat.le_of_ble_eq_true rfl) (tq_85 hG) rfl (VM_X7_insuredOf G fu x7.2 hG a1 _ y11) ?_
            refine V_goto (tgt := 109) dX7_damage_99 (by decide) ?_
            cases h
            exact V_lret rfl dX7_damage_109
          · rw [if_neg c91] at h
            refine V_icmpne_t (tgt := 102) dX7_damage_91 (by decide) c91 ?_
            refine V_aload_n dX7_damage_102 rfl ?_
            refine V_getR (kf := 19) k_X7 (by decide) lk_RX7_70 rfl dX7_damage_103 (tq_85 hG) rfl ?_
            refine V_iload_n dX7_damage_106 rfl ?_
            obtain ⟨g12, h⟩ := gu_o h
            refine V_iaload dX7_damage_107 (tq_103 hG) (ib_in g12) ?_
            refine V_i2l dX7_damage_108 ?_
            cases h
            exact V_lret rfl dX7_damage_109
      · rw [if_neg c35] at h
        refine V_icmpge_f (tgt := 75) dX7_damage_35 (by decide) c35 ?_
        refine V_iload_n dX7_damage_38 rfl ?_
        by_cases c39 : a2 = 0
        · rw [if_pos c39] at h
          refine V_ifne_f (tgt := 52) dX7_damage_39 (by decide) c39 ?_
          refine V_aload_n dX7_damage_42 rfl ?_
          refine V_getR (kf := 16) k_X7 (by decide) lk_RX7_61 rfl dX7_damage_43 (tq_85 hG) rfl ?_
          refine V_iload_n dX7_damage_46 rfl ?_
          obtain ⟨g13, h⟩ := gu_o h
          refine V_iaload dX7_damage_47 (tq_100 hG) (ib_in g13) ?_
          refine V_i2l dX7_damage_48 ?_
          refine V_goto (tgt := 74) dX7_damage_49 (by decide) ?_
          cases h
          exact V_lret rfl dX7_damage_74
        · rw [if_neg c39] at h
          refine V_ifne_t (tgt := 52) dX7_damage_39 (by decide) c39 ?_
          refine V_iload_n dX7_damage_52 rfl ?_
          refine V_iconst (v := 1) dX7_damage_53 rfl ?_
          by_cases c54 : a2 = (1 : Int32)
          · rw [if_pos c54] at h
            refine V_icmpne_f (tgt := 67) dX7_damage_54 (by decide) c54 ?_
            refine V_aload_n dX7_damage_57 rfl ?_
            refine V_getR (kf := 17) k_X7 (by decide) lk_RX7_64 rfl dX7_damage_58 (tq_85 hG) rfl ?_
            refine V_iload_n dX7_damage_61 rfl ?_
            obtain ⟨g14, h⟩ := gu_o h
            refine V_iaload dX7_damage_62 (tq_101 hG) (ib_in g14) ?_
            refine V_i2l dX7_damage_63 ?_
            refine V_goto (tgt := 74) dX7_damage_64 (by decide) ?_
            cases h
            exact V_lret rfl dX7_damage_74
          · rw [if_neg c54] at h
            refine V_icmpne_t (tgt := 67) dX7_damage_54 (by decide) c54 ?_
            refine V_aload_n dX7_damage_67 rfl ?_
            refine V_getR (kf := 18) k_X7 (by decide) lk_RX7_67 rfl dX7_damage_68 (tq_85 hG) rfl ?_
            refine V_iload_n dX7_damage_71 rfl ?_
            obtain ⟨g15, h⟩ := gu_o h
            refine V_iaload dX7_damage_72 (tq_102 hG) (ib_in g15) ?_
            refine V_i2l dX7_damage_73 ?_
            cases h
            exact V_lret rfl dX7_damage_74
    · rw [if_neg c28] at h
      refine V_ifne_f (tgt := 33) dX7_damage_28 (by decide) (b2i_f.mp c28) ?_
      refine V_lconst (v := 0) dX7_damage_31 rfl ?_
      cases h
      exact V_lret rfl dX7_damage_32
  · rw [if_neg c10] at h
    refine V_ifeq_t (tgt := 31) dX7_damage_10 (by decide) (b2i_f.mp c10) ?_
    refine V_lconst (v := 0) dX7_damage_31 rfl ?_
    cases h
    exact V_lret rfl dX7_damage_32
theorem VM_X7_damage (G : GX) (fu : Nat)  (hG : gt G = tbl) (a1 : Int32) (a2 : Int32) (μ : Mem) (r : (Int64 × Mem)) (h : D_X7_damage_0 fu a1 a2 μ = some r) : VM G mX7_damage [.ref 85, .int a1, .int a2] μ (.inl (some (.long r.1))) (r.2) := V_entry ok_mX7_damage rfl rfl (Nat.le_of_ble_eq_true rfl) (T_X7_damage_0 G fu hG a1 a2 μ r h)
def D_X7_areBoth_48  (s1 : Int32) (μ : Mem) : Option (Bool × Mem) :=
  (D_X7_needs_0 s1 1 0 μ).bind fun x4 =>
  some (x4.1, x4.2)
set_option maxRecDepth 20000 in
theorem T_X7_areBoth_48 (G : GX)  (hG : gt G = tbl) : ∀ (s1 : Int32) (μ : Mem) (r : (Bool × Mem)) , D_X7_areBoth_48  s1 μ = some r → V G mX7_areBoth 48 [none, none, none] [.int s1, .ref 85] μ (.inl (some (.int (b2i r.1)))) (r.2) := by
  intro s1 μ r h
  unfold D_X7_areBoth_48 at h
  refine V_iconst (v := 1) dX7_areBoth_48 rfl ?_
  refine V_iconst (v := 0) dX7_areBoth_49 rfl ?_
  obtain ⟨x4, y5, h⟩ := bi_o h
  refine V_callV (as := [.int s1, .int 1, .int 0]) (q := 85) (rest := []) dX7_areBoth_50 ov_mX7_needs lk_RX7_346 (by decide) (by decide) rfl rfl (Nat.le_of_ble_eq_true rfl) (tq_85 hG) rfl (VM_X7_needs G hG s1 1 0 μ _ y5) ?_
  cases h
  exact V_zret rfl (b2i_nar _) dX7_areBoth_53
def D_X7_areBoth_47  (μ : Mem) : Option (Bool × Mem) :=
  D_X7_areBoth_48 0 μ
set_option maxRecDepth 20000 in
theorem T_X7_areBoth_47 (G : GX)  (hG : gt G = tbl) : ∀ (μ : Mem) (r : (Bool × Mem)) , D_X7_areBoth_47  μ = some r → V G mX7_areBoth 47 [none, none, none] [.ref 85] μ (.inl (some (.int (b2i r.1)))) (r.2) := by
  intro μ r h
  unfold D_X7_areBoth_47 at h
  refine V_iconst (v := 0) dX7_areBoth_47 rfl ?_
  exact V_wk [false, false, false] rfl (T_X7_areBoth_48 G hG _ _ _ h)
def D_X7_areBoth_0  (a1 : Int32) (a2 : Int32) (μ : Mem) : Option (Bool × Mem) :=
  (D_X7_within_0 μ ((a1 : Int32).toInt64) 0 23).bind fun x1 =>
  if x1 = true then
    gu (ib a1 25) <|
    if (μ.1 91 (Int32.toNatClampNeg a1)) = 0 then
      D_X7_areBoth_47 μ
    else
      (D_X7_within_0 μ ((a2 : Int32).toInt64) 0 39).bind fun x6 =>
      if x6 = true then
        gu (ib a2 40) <|
        if (μ.1 90 (Int32.toNatClampNeg a2)) = 0 then
          D_X7_areBoth_47 μ
        else
          D_X7_areBoth_48 1 μ
      else
        D_X7_areBoth_47 μ
  else
    D_X7_areBoth_47 μ
set_option maxRecDepth 20000 in
theorem T_X7_areBoth_0 (G : GX)  (hG : gt G = tbl) : ∀ (a1 : Int32) (a2 : Int32) (μ : Mem) (r : (Bool × Mem)) , D_X7_areBoth_0  a1 a2 μ = some r → V G mX7_areBoth 0 [some (.ref 85), some (.int a1), some (.int a2)] [] μ (.inl (some (.int (b2i r.1)))) (r.2) := by
  intro a1 a2 μ r h
  unfold D_X7_areBoth_0 at h
  refine V_aload_n dX7_areBoth_0 rfl ?_
  refine V_iload_n dX7_areBoth_1 rfl ?_
  refine V_i2l dX7_areBoth_2 ?_
  refine V_lconst (v := 0) dX7_areBoth_3 rfl ?_
  refine V_ldc2 (v := 23) dX7_areBoth_4 lk_RX7_395 ?_
  obtain ⟨x1, y2, h⟩ := bi_o h
  refine V_callS (as := [.long ((a1 : Int32).toInt64), .long 0, .long 23]) (rest := [.ref 85]) dX7_areBoth_7 os_mX7_within rfl lk_RX7_352 (by decide) (by decide) rfl rfl (Nat.le_of_ble_eq_true rfl) (VM_X7_within G μ hG ((a1 : Int32).toInt64) 0 23 _ y2) ?_
  by_cases c10 : x1 = true
  · rw [if_pos c10] at h
    refine V_ifeq_f (tgt := 47) dX7_areBoth_10 (by decide) (b2i_t.mp c10) ?_
    refine V_aload_n dX7_areBoth_13 rfl ?_
    refine V_getR (kf := 7) k_X7 (by decide) lk_RX7_33 rfl dX7_areBoth_14 (tq_85 hG) rfl ?_
    refine V_iload_n dX7_areBoth_17 rfl ?_
    obtain ⟨g3, h⟩ := gu_o h
    refine V_baload dX7_areBoth_18 (tq_91 hG) (ib_in g3) ?_
    by_cases c19 : (μ.1 91 (Int32.toNatClampNeg a1)) = 0
    · rw [if_pos c19] at h
      refine V_ifeq_t (tgt := 47) dX7_areBoth_19 (by decide) c19 ?_
      exact V_wk [false, false, false] rfl (T_X7_areBoth_47 G hG _ _ h)
    · rw [if_neg c19] at h
      refine V_ifeq_f (tgt := 47) dX7_areBoth_19 (by decide) c19 ?_
      refine V_iload_n dX7_areBoth_22 rfl ?_
      refine V_i2l dX7_areBoth_23 ?_
      refine V_lconst (v := 0) dX7_areBoth_24 rfl ?_
      refine V_ldc2 (v := 39) dX7_areBoth_25 lk_RX7_372 ?_
      obtain ⟨x6, y7, h⟩ := bi_o h
      refine V_callS (as := [.long ((a2 : Int32).toInt64), .long 0, .long 39]) (rest := [.ref 85]) dX7_areBoth_28 os_mX7_within rfl lk_RX7_352 (by decide) (by decide) rfl rfl (Nat.le_of_ble_eq_true rfl) (VM_X7_within G μ hG ((a2 : Int32).toInt64) 0 39 _ y7) ?_
      by_cases c31 : x6 = true
      · rw [if_pos c31] at h
        refine V_ifeq_f (tgt := 47) dX7_areBoth_31 (by decide) (b2i_t.mp c31) ?_
        refine V_aload_n dX7_areBoth_34 rfl ?_
        refine V_getR (kf := 6) k_X7 (by decide) lk_RX7_29 rfl dX7_areBoth_35 (tq_85 hG) rfl ?_
        refine V_iload_n dX7_areBoth_38 rfl ?_
        obtain ⟨g8, h⟩ := gu_o h
        refine V_baload dX7_areBoth_39 (tq_90 hG) (ib_in g8) ?_
        by_cases c40 : (μ.1 90 (Int32.toNatClampNeg a2)) = 0
        · rw [if_pos c40] at h
          refine V_ifeq_t (tgt := 47) dX7_areBoth_40 (by decide) c40 ?_
          exact V_wk [false, false, false] rfl (T_X7_areBoth_47 G hG _ _ h)
        · rw [if_neg c40] at h
          refine V_ifeq_f (tgt := 47) dX7_areBoth_40 (by decide) c40 ?_
          refine V_iconst (v := 1) dX7_areBoth_43 rfl ?_
          refine V_goto (tgt := 48) dX7_areBoth_44 (by decide) ?_
          exact V_wk [false, false, false] rfl (T_X7_areBoth_48 G hG _ _ _ h)
      · rw [if_neg c31] at h
        refine V_ifeq_t (tgt := 47) dX7_areBoth_31 (by decide) (b2i_f.mp c31) ?_
        exact V_wk [false, false, false] rfl (T_X7_areBoth_47 G hG _ _ h)
  · rw [if_neg c10] at h
    refine V_ifeq_t (tgt := 47) dX7_areBoth_10 (by decide) (b2i_f.mp c10) ?_
    exact V_wk [false, false, false] rfl (T_X7_areBoth_47 G hG _ _ h)
theorem VM_X7_areBoth (G : GX)  (hG : gt G = tbl) (a1 : Int32) (a2 : Int32) (μ : Mem) (r : (Bool × Mem)) (h : D_X7_areBoth_0  a1 a2 μ = some r) : VM G mX7_areBoth [.ref 85, .int a1, .int a2] μ (.inl (some (.int (b2i r.1)))) (r.2) := V_entry ok_mX7_areBoth rfl rfl (Nat.le_of_ble_eq_true rfl) (T_X7_areBoth_0 G hG a1 a2 μ r h)
def D_X7_took_0  (a1 : Int32) (a2 : Int32) (μ : Mem) : Option (Int64 × Mem) :=
  vl (wI μ 85 0 0) fun m1 =>
  (D_X7_areBoth_0 a1 a2 m1).bind fun x3 =>
  if x3.1 = true then
    gu (ib ((40 * a1) + a2) 1000) <|
    some (x3.2.2.1 105 (Int32.toNatClampNeg ((40 * a1) + a2)), x3.2)
  else
    some (0, x3.2)
set_option maxRecDepth 20000 in
theorem T_X7_took_0 (G : GX)  (hG : gt G = tbl) : ∀ (a1 : Int32) (a2 : Int32) (μ : Mem) (r : (Int64 × Mem)) , D_X7_took_0  a1 a2 μ = some r → V G mX7_took 0 [some (.ref 85), some (.int a1), some (.int a2)] [] μ (.inl (some (.long r.1))) (r.2) := by
  intro a1 a2 μ r h
  unfold D_X7_took_0 at h
  refine V_aload_n dX7_took_0 rfl ?_
  refine V_iconst (v := 0) dX7_took_1 rfl ?_
  obtain ⟨m1, e2, h⟩ := vl_o h
  refine V_putI (kf := 0) k_X7 (by decide) lk_RX7_1 rfl rfl (by decide +kernel) dX7_took_2 (tq_85 hG) rfl e2.symm ?_
  refine V_aload_n dX7_took_5 rfl ?_
  refine V_iload_n dX7_took_6 rfl ?_
  refine V_iload_n dX7_took_7 rfl ?_
  obtain ⟨x3, y4, h⟩ := bi_o h
  refine V_callV (as := [.int a1, .int a2]) (q := 85) (rest := []) dX7_took_8 ov_mX7_areBoth lk_RX7_434 (by decide) (by decide) rfl rfl (Nat.le_of_ble_eq_true rfl) (tq_85 hG) rfl (VM_X7_areBoth G hG a1 a2 m1 _ y4) ?_
  by_cases c11 : x3.1 = true
  · rw [if_pos c11] at h
    refine V_ifeq_f (tgt := 28) dX7_took_11 (by decide) (b2i_t.mp c11) ?_
    refine V_aload_n dX7_took_14 rfl ?_
    refine V_getR (kf := 21) k_X7 (by decide) lk_RX7_76 rfl dX7_took_15 (tq_85 hG) rfl ?_
    refine V_bipush (v := 40) dX7_took_18 rfl ?_
    refine V_iload_n dX7_took_20 rfl ?_
    refine V_imul dX7_took_21 ?_
    refine V_iload_n dX7_took_22 rfl ?_
    refine V_iadd dX7_took_23 ?_
    obtain ⟨g5, h⟩ := gu_o h
    refine V_laload dX7_took_24 (tq_105 hG) (ib_in g5) ?_
    refine V_goto (tgt := 29) dX7_took_25 (by decide) ?_
    cases h
    exact V_lret rfl dX7_took_29
  · rw [if_neg c11] at h
    refine V_ifeq_t (tgt := 28) dX7_took_11 (by decide) (b2i_f.mp c11) ?_
    refine V_lconst (v := 0) dX7_took_28 rfl ?_
    cases h
    exact V_lret rfl dX7_took_29
theorem VM_X7_took (G : GX)  (hG : gt G = tbl) (a1 : Int32) (a2 : Int32) (μ : Mem) (r : (Int64 × Mem)) (h : D_X7_took_0  a1 a2 μ = some r) : VM G mX7_took [.ref 85, .int a1, .int a2] μ (.inl (some (.long r.1))) (r.2) := V_entry ok_mX7_took rfl rfl (Nat.le_of_ble_eq_true rfl) (T_X7_took_0 G hG a1 a2 μ r h)
def D_X7_hole_0  (a1 : Int32) (a2 : Int32) (μ : Mem) : Option (Int64 × Mem) :=
  vl (wI μ 85 0 0) fun m1 =>
  (D_X7_areBoth_0 a1 a2 m1).bind fun x3 =>
  if x3.1 = true then
    gu (ib ((40 * a1) + a2) 1000) <|
    some (x3.2.2.1 106 (Int32.toNatClampNeg ((40 * a1) + a2)), x3.2)
  else
    some (0, x3.2)
set_option maxRecDepth 20000 in
theorem T_X7_hole_0 (G : GX)  (hG : gt G = tbl) : ∀ (a1 : Int32) (a2 : Int32) (μ : Mem) (r : (Int64 × Mem)) , D_X7_hole_0  a1 a2 μ = some r → V G mX7_hole 0 [some (.ref 85), some (.int a1), some (.int a2)] [] μ (.inl (some (.long r.1))) (r.2) := by
  intro a1 a2 μ r h
  unfold D_X7_hole_0 at h
  refine V_aload_n dX7_hole_0 rfl ?_
  refine V_iconst (v := 0) dX7_hole_1 rfl ?_
  obtain ⟨m1, e2, h⟩ := vl_o h
  refine V_putI (kf := 0) k_X7 (by decide) lk_RX7_1 rfl rfl (by decide +kernel) dX7_hole_2 (tq_85 hG) rfl e2.symm ?_
  refine V_aload_n dX7_hole_5 rfl ?_
  refine V_iload_n dX7_hole_6 rfl ?_
  refine V_iload_n dX7_hole_7 rfl ?_
  obtain ⟨x3, y4, h⟩ := bi_o h
  refine V_callV (as := [.int a1, .int a2]) (q := 85) (rest := []) dX7_hole_8 ov_mX7_areBoth lk_RX7_434 (by decide) (by decide) rfl rfl (Nat.le_of_ble_eq_true rfl) (tq_85 hG) rfl (VM_X7_areBoth G hG a1 a2 m1 _ y4) ?_
  by_cases c11 : x3.1 = true
  · rw [if_pos c11] at h
    refine V_ifeq_f (tgt := 28) dX7_hole_11 (by decide) (b2i_t.mp c11) ?_
    refine V_aload_n dX7_hole_14 rfl ?_
    refine V_getR (kf := 22) k_X7 (by decide) lk_RX7_79 rfl dX7_hole_15 (tq_85 hG) rfl ?_
    refine V_bipush (v := 40) dX7_hole_18 rfl ?_
    refine V_iload_n dX7_hole_20 rfl ?_
    refine V_imul dX7_hole_21 ?_
    refine V_iload_n dX7_hole_22 rfl ?_
    refine V_iadd dX7_hole_23 ?_
    obtain ⟨g5, h⟩ := gu_o h
    refine V_laload dX7_hole_24 (tq_106 hG) (ib_in g5) ?_
    refine V_goto (tgt := 29) dX7_hole_25 (by decide) ?_
    cases h
    exact V_lret rfl dX7_hole_29
  · rw [if_neg c11] at h
    refine V_ifeq_t (tgt := 28) dX7_hole_11 (by decide) (b2i_f.mp c11) ?_
    refine V_lconst (v := 0) dX7_hole_28 rfl ?_
    cases h
    exact V_lret rfl dX7_hole_29
theorem VM_X7_hole (G : GX)  (hG : gt G = tbl) (a1 : Int32) (a2 : Int32) (μ : Mem) (r : (Int64 × Mem)) (h : D_X7_hole_0  a1 a2 μ = some r) : VM G mX7_hole [.ref 85, .int a1, .int a2] μ (.inl (some (.long r.1))) (r.2) := V_entry ok_mX7_hole rfl rfl (Nat.le_of_ble_eq_true rfl) (T_X7_hole_0 G hG a1 a2 μ r h)
def D_X7_moved_0  (a1 : Int32) (a2 : Int32) (μ : Mem) : Option (Int64 × Mem) :=
  vl (wI μ 85 0 0) fun m1 =>
  (D_X7_areBoth_0 a1 a2 m1).bind fun x3 =>
  if x3.1 = true then
    gu (ib ((40 * a1) + a2) 1000) <|
    some (x3.2.2.1 107 (Int32.toNatClampNeg ((40 * a1) + a2)), x3.2)
  else
    some (0, x3.2)
set_option maxRecDepth 20000 in
theorem T_X7_moved_0 (G : GX)  (hG : gt G = tbl) : ∀ (a1 : Int32) (a2 : Int32) (μ : Mem) (r : (Int64 × Mem)) , D_X7_moved_0  a1 a2 μ = some r → V G mX7_moved 0 [some (.ref 85), some (.int a1), some (.int a2)] [] μ (.inl (some (.long r.1))) (r.2) := by
  intro a1 a2 μ r h
  unfold D_X7_moved_0 at h
  refine V_aload_n dX7_moved_0 rfl ?_
  refine V_iconst (v := 0) dX7_moved_1 rfl ?_
  obtain ⟨m1, e2, h⟩ := vl_o h
  refine V_putI (kf := 0) k_X7 (by decide) lk_RX7_1 rfl rfl (by decide +kernel) dX7_moved_2 (tq_85 hG) rfl e2.symm ?_
  refine V_aload_n dX7_moved_5 rfl ?_
  refine V_iload_n dX7_moved_6 rfl ?_
  refine V_iload_n dX7_moved_7 rfl ?_
  obtain ⟨x3, y4, h⟩ := bi_o h
  refine V_callV (as := [.int a1, .int a2]) (q := 85) (rest := []) dX7_moved_8 ov_mX7_areBoth lk_RX7_434 (by decide) (by decide) rfl rfl (Nat.le_of_ble_eq_true rfl) (tq_85 hG) rfl (VM_X7_areBoth G hG a1 a2 m1 _ y4) ?_
  by_cases c11 : x3.1 = true
  · rw [if_pos c11] at h
    refine V_ifeq_f (tgt := 28) dX7_moved_11 (by decide) (b2i_t.mp c11) ?_
    refine V_aload_n dX7_moved_14 rfl ?_
    refine V_getR (kf := 23) k_X7 (by decide) lk_RX7_82 rfl dX7_moved_15 (tq_85 hG) rfl ?_
    refine V_bipush (v := 40) dX7_moved_18 rfl ?_
    refine V_iload_n dX7_moved_20 rfl ?_
    refine V_imul dX7_moved_21 ?_
    refine V_iload_n dX7_moved_22 rfl ?_
    refine V_iadd dX7_moved_23 ?_
    obtain ⟨g5, h⟩ := gu_o h
    refine V_laload dX7_moved_24 (tq_107 hG) (ib_in g5) ?_
    refine V_goto (tgt := 29) dX7_moved_25 (by decide) ?_
    cases h
    exact V_lret rfl dX7_moved_29
  · rw [if_neg c11] at h
    refine V_ifeq_t (tgt := 28) dX7_moved_11 (by decide) (b2i_f.mp c11) ?_
    refine V_lconst (v := 0) dX7_moved_28 rfl ?_
    cases h
    exact V_lret rfl dX7_moved_29
theorem VM_X7_moved (G : GX)  (hG : gt G = tbl) (a1 : Int32) (a2 : Int32) (μ : Mem) (r : (Int64 × Mem)) (h : D_X7_moved_0  a1 a2 μ = some r) : VM G mX7_moved [.ref 85, .int a1, .int a2] μ (.inl (some (.long r.1))) (r.2) := V_entry ok_mX7_moved rfl rfl (Nat.le_of_ble_eq_true rfl) (T_X7_moved_0 G hG a1 a2 μ r h)
def D_X7_bears_0 (fu : Nat)  (a1 : Int32) (a2 : Int32) (μ : Mem) : Option (Int64 × Mem) :=
  vl (wI μ 85 0 0) fun m1 =>
  (D_X7_isHarmOne_0 a1 m1).bind fun x3 =>
  if x3.1 = true then
    (D_X7_within_0 x3.2 ((a2 : Int32).toInt64) 0 9).bind fun x5 =>
    (D_X7_needs_0 (b2i x5) 2 1 x3.2).bind fun x7 =>
    if x7.1 = true then
      (D_X7_bearsOf_0 fu x7.2 a1 a2).bind fun x9 =>
      some (x9, x7.2)
    else
      some (0, x7.2)
  else
    some (0, x3.2)
set_option maxRecDepth 20000 in
theorem T_X7_bears_0 (G : GX) (fu : Nat)  (hG : gt G = tbl) : ∀ (a1 : Int32) (a2 : Int32) (μ : Mem) (r : (Int64 × Mem)) , D_X7_bears_0 fu a1 a2 μ = some r → V G mX7_bears 0 [some (.ref 85), some (.int a1), some (.int a2)] [] μ (.inl (some (.long r.1))) (r.2) := by
  intro a1 a2 μ r h
  unfold D_X7_bears_0 at h
  refine V_aload_n dX7_bears_0 rfl ?_
  refine V_iconst (v := 0) dX7_bears_1 rfl ?_
  obtain ⟨m1, e2, h⟩ := vl_o h
  refine V_putI (kf := 0) k_X7 (by decide) lk_RX7_1 rfl rfl (by decide +kernel) dX7_bears_2 (tq_85 hG) rfl e2.symm ?_
  refine V_aload_n dX7_bears_5 rfl ?_
  refine V_iload_n dX7_bears_6 rfl ?_
  obtain ⟨x3, y4, h⟩ := bi_o h
  refine V_callV (as := [.int a1]) (q := 85) (rest := []) dX7_bears_7 ov_mX7_isHarmOne lk_RX7_397 (by decide) (by decide) rfl rfl (Nat.le_of_ble_eq_true rfl) (tq_85 hG) rfl (VM_X7_isHarmOne G hG a1 m1 _ y4) ?_
  by_cases c10 : x3.1 = true
  · rw [if_pos c10] at h
    refine V_ifeq_f (tgt := 31) dX7_bears_10 (by decide) (b2i_t.mp c10) ?_
    refine V_aload_n dX7_bears_13 rfl ?_
    refine V_iload_n dX7_bears_14 rfl ?_
    refine V_i2l dX7_bears_15 ?_
    refine V_lconst (v := 0) dX7_bears_16 rfl ?_
    refine V_ldc2 (v := 9) dX7_bears_17 lk_RX7_377 ?_
    obtain ⟨x5, y6, h⟩ := bi_o h
    refine V_callS (as := [.long ((a2 : Int32).toInt64), .long 0, .long 9]) (rest := [.ref 85]) dX7_bears_20 os_mX7_within rfl lk_RX7_352 (by decide) (by decide) rfl rfl (Nat.le_of_ble_eq_true rfl) (VM_X7_within G x3.2 hG ((a2 : Int32).toInt64) 0 9 _ y6) ?_
    refine V_iconst (v := 2) dX7_bears_23 rfl ?_
    refine V_iconst (v := 1) dX7_bears_24 rfl ?_
    obtain ⟨x7, y8, h⟩ := bi_o h
    refine V_callV (as := [.int (b2i x5), .int 2, .int 1]) (q := 85) (rest := []) dX7_bears_25 ov_mX7_needs lk_RX7_346 (by decide) (by decide) rfl rfl (Nat.le_of_ble_eq_true rfl) (tq_85 hG) rfl (VM_X7_needs G hG (b2i x5) 2 1 x3.2 _ y8) ?_
    by_cases c28 : x7.1 = true
    · rw [if_pos c28] at h
      refine V_ifne_t (tgt := 33) dX7_bears_28 (by decide) (b2i_t.mp c28) ?_
      refine V_aload_n dX7_bears_33 rfl ?_
      refine V_iload_n dX7_bears_34 rfl ?_
      refine V_iload_n dX7_bears_35 rfl ?_
      obtain ⟨x9, y10, h⟩ := bi_o h
      refine V_callV (as := [.int a1, .int a2]) (q := 85) (rest := []) dX7_bears_36 ov_mX7_bearsOf lk_RX7_280 (by decide) (by decide) rfl rfl (Nat.le_of_ble_eq_true rfl) (tq_85 hG) rfl (VM_X7_bearsOf G fu x7.2 hG a1 a2 _ y10) ?_
      cases h
      exact V_lret rfl dX7_bears_39
    · rw [if_neg c28] at h
      refine V_ifne_f (tgt := 33) dX7_bears_28 (by decide) (b2i_f.mp c28) ?_
      refine V_lconst (v := 0) dX7_bears_31 rfl ?_
      cases h
      exact V_lret rfl dX7_bears_32
  · rw [if_neg c10] at h
    refine V_ifeq_t (tgt := 31) dX7_bears_10 (by decide) (b2i_f.mp c10) ?_
    refine V_lconst (v := 0) dX7_bears_31 rfl ?_
    cases h
    exact V_lret rfl dX7_bears_32
theorem VM_X7_bears (G : GX) (fu : Nat)  (hG : gt G = tbl) (a1 : Int32) (a2 : Int32) (μ : Mem) (r : (Int64 × Mem)) (h : D_X7_bears_0 fu a1 a2 μ = some r) : VM G mX7_bears [.ref 85, .int a1, .int a2] μ (.inl (some (.long r.1))) (r.2) := V_entry ok_mX7_bears rfl rfl (Nat.le_of_ble_eq_true rfl) (T_X7_bears_0 G fu hG a1 a2 μ r h)
def D_X7_falls_0  (a1 : Int32) (a2 : Int32) (μ : Mem) : Option (Int64 × Mem) :=
  vl (wI μ 85 0 0) fun m1 =>
  (D_X7_isHarmOne_0 a1 m1).bind fun x3 =>
  if x3.1 = true then
    (D_X7_within_0 x3.2 ((a2 : Int32).toInt64) 0 6).bind fun x5 =>
    (D_X7_needs_0 (b2i x5) 2 1 x3.2).bind fun x7 =>
    if x7.1 = true then
      gu (ib ((7 * a1) + a2) 175) <|
      some (x7.2.2.1 110 (Int32.toNatClampNeg ((7 * a1) + a2)), x7.2)
    else
      some (0, x7.2)
  else
    some (0, x3.2)
set_option maxRecDepth 20000 in
theorem T_X7_falls_0 (G : GX)  (hG : gt G = tbl) : ∀ (a1 : Int32) (a2 : Int32) (μ : Mem) (r : (Int64 × Mem)) , D_X7_falls_0  a1 a2 μ = some r → V G mX7_falls 0 [some (.ref 85), some (.int a1), some (.int a2)] [] μ (.inl (some (.long r.1))) (r.2) := by
  intro a1 a2 μ r h
  unfold D_X7_falls_0 at h
  refine V_aload_n dX7_falls_0 rfl ?_
  refine V_iconst (v := 0) dX7_falls_1 rfl ?_
  obtain ⟨m1, e2, h⟩ := vl_o h
  refine V_putI (kf := 0) k_X7 (by decide) lk_RX7_1 rfl rfl (by decide +kernel) dX7_falls_2 (tq_85 hG) rfl e2.symm ?_
  refine V_aload_n dX7_falls_5 rfl ?_
  refine V_iload_n dX7_falls_6 rfl ?_
  obtain ⟨x3, y4, h⟩ := bi_o h
  refine V_callV (as := [.int a1]) (q := 85) (rest := []) dX7_falls_7 ov_mX7_isHarmOne lk_RX7_397 (by decide) (by decide) rfl rfl (Nat.le_of_ble_eq_true rfl) (tq_85 hG) rfl (VM_X7_isHarmOne G hG a1 m1 _ y4) ?_
  by_cases c10 : x3.1 = true
  · rw [if_pos c10] at h
    refine V_ifeq_f (tgt := 31) dX7_falls_10 (by decide) (b2i_t.mp c10) ?_
    refine V_aload_n dX7_falls_13 rfl ?_
    refine V_iload_n dX7_falls_14 rfl ?_
    refine V_i2l dX7_falls_15 ?_
    refine V_lconst (v := 0) dX7_falls_16 rfl ?_
    refine V_ldc2 (v := 6) dX7_falls_17 lk_RX7_421 ?_
    obtain ⟨x5, y6, h⟩ := bi_o h
    refine V_callS (as := [.long ((a2 : Int32).toInt64), .long 0, .long 6]) (rest := [.ref 85]) dX7_falls_20 os_mX7_within rfl lk_RX7_352 (by decide) (by decide) rfl rfl (Nat.le_of_ble_eq_true rfl) (VM_X7_within G x3.2 hG ((a2 : Int32).toInt64) 0 6 _ y6) ?_
    refine V_iconst (v := 2) dX7_falls_23 rfl ?_
    refine V_iconst (v := 1) dX7_falls_24 rfl ?_
    obtain ⟨x7, y8, h⟩ := bi_o h
    refine V_callV (as := [.int (b2i x5), .int 2, .int 1]) (q := 85) (rest := []) dX7_falls_25 ov_mX7_needs lk_RX7_346 (by decide) (by decide) rfl rfl (Nat.le_of_ble_eq_true rfl) (tq_85 hG) rfl (VM_X7_needs G hG (b2i x5) 2 1 x3.2 _ y8) ?_
    by_cases c28 : x7.1 = true
    · rw [if_pos c28] at h
      refine V_ifne_t (tgt := 33) dX7_falls_28 (by decide) (b2i_t.mp c28) ?_
      refine V_aload_n dX7_falls_33 rfl ?_
      refine V_getR (kf := 26) k_X7 (by decide) lk_RX7_91 rfl dX7_falls_34 (tq_85 hG) rfl ?_
      refine V_bipush (v := 7) dX7_falls_37 rfl ?_
      refine V_iload_n dX7_falls_39 rfl ?_
      refine V_imul dX7_falls_40 ?_
      refine V_iload_n dX7_falls_41 rfl ?_
      refine V_iadd dX7_falls_42 ?_
      obtain ⟨g9, h⟩ := gu_o h
      refine V_laload dX7_falls_43 (tq_110 hG) (ib_in g9) ?_
      cases h
      exact V_lret rfl dX7_falls_44
    · rw [if_neg c28] at h
      refine V_ifne_f (tgt := 33) dX7_falls_28 (by decide) (b2i_f.mp c28) ?_
      refine V_lconst (v := 0) dX7_falls_31 rfl ?_
      cases h
      exact V_lret rfl dX7_falls_32
  · rw [if_neg c10] at h
    refine V_ifeq_t (tgt := 31) dX7_falls_10 (by decide) (b2i_f.mp c10) ?_
    refine V_lconst (v := 0) dX7_falls_31 rfl ?_
    cases h
    exact V_lret rfl dX7_falls_32
theorem VM_X7_falls (G : GX)  (hG : gt G = tbl) (a1 : Int32) (a2 : Int32) (μ : Mem) (r : (Int64 × Mem)) (h : D_X7_falls_0  a1 a2 μ = some r) : VM G mX7_falls [.ref 85, .int a1, .int a2] μ (.inl (some (.long r.1))) (r.2) := V_entry ok_mX7_falls rfl rfl (Nat.le_of_ble_eq_true rfl) (T_X7_falls_0 G hG a1 a2 μ r h)
def D_X7_cashOf_17 (fu : Nat) (μ : Mem)  : Nat → Int64 → Int32 → Option Int64
  | 0, _, _ => none
  | n + 1, v2, v4 =>
    if (10 : Int32) ≤ v4 then
      some v2
    else
      gu (ib v4 10) <|
      vl (v2 + ((μ.1 112 (Int32.toNatClampNeg v4) : Int32).toInt64) : Int64) fun x2 =>
      (D_X7_cashOf_17 fu μ n) x2 (v4 + 1)
set_option maxRecDepth 20000 in
theorem T_X7_cashOf_17 (G : GX) (fu : Nat) (μ : Mem)  (hG : gt G = tbl) : ∀ (n : Nat) (v2 : Int64) (v4 : Int32) (r : Int64) , D_X7_cashOf_17 fu μ n v2 v4 = some r → V G mX7_cashOf 17 [some (.ref 85), none, some (.long v2), none, some (.int v4)] [] μ (.inl (some (.long r))) (μ) := by
  intro n
  induction n with
  | zero =>
    intro v2 v4 r h
    exact nomatch (show (none : Option Int64) = some r from h)
  | succ n ih =>
    intro v2 v4 r h
    rw [D_X7_cashOf_17] at h
    refine V_iload dX7_cashOf_17 rfl ?_
    refine V_bipush (v := 10) dX7_cashOf_19 rfl ?_
    by_cases c21 : (10 : Int32) ≤ v4
    · rw [if_pos c21] at h
      refine V_icmpge_t (tgt := 41) dX7_cashOf_21 (by decide) c21 ?_
      refine V_lload_n dX7_cashOf_41 rfl ?_
      cases h
      exact V_lret rfl dX7_cashOf_42
    · rw [if_neg c21] at h
      refine V_icmpge_f (tgt := 41) dX7_cashOf_21 (by decide) c21 ?_
      refine V_lload_n dX7_cashOf_24 rfl ?_
      refine V_aload_n dX7_cashOf_25 rfl ?_
      refine V_getR (kf := 28) k_X7 (by decide) lk_RX7_97 rfl dX7_cashOf_26 (tq_85 hG) rfl ?_
      refine V_iload dX7_cashOf_29 rfl ?_
      obtain ⟨g1, h⟩ := gu_o h
      refine V_iaload dX7_cashOf_31 (tq_112 hG) (ib_in g1) ?_
      refine V_i2l dX7_cashOf_32 ?_
      refine V_ladd dX7_cashOf_33 ?_
      obtain ⟨x2, e3, h⟩ := vl_o h
      refine V_topl e3 ?_
      refine V_lstore_n (lv2 := [some (.ref 85), none, some (.long x2), none, some (.int v4)]) dX7_cashOf_34 (by decide) rfl ?_
      refine V_iinc (v := v4 + 1) (lv2 := [some (.ref 85), none, some (.long x2), none, some (.int (v4 + 1))]) dX7_cashOf_35 rfl rfl (by decide) rfl ?_
      refine V_goto (tgt := 17) dX7_cashOf_38 (by decide) ?_
      exact V_wk [true, false, true, false, true] rfl (ih _ _ _ h)
def D_X7_cashOf_0 (fu : Nat) (μ : Mem)  (a1 : Int32) : Option Int64 :=
  if a1 ≤ 0 then
    D_X7_cashOf_17 fu μ fu 0 1
  else
    gu (ib a1 10) <|
    some ((μ.1 112 (Int32.toNatClampNeg a1) : Int32).toInt64)
set_option maxRecDepth 20000 in
theorem T_X7_cashOf_0 (G : GX) (fu : Nat) (μ : Mem)  (hG : gt G = tbl) : ∀ (a1 : Int32) (r : Int64) , D_X7_cashOf_0 fu μ a1 = some r → V G mX7_cashOf 0 [some (.ref 85), some (.int a1), none, none, none] [] μ (.inl (some (.long r))) (μ) := by
  intro a1 r h
  unfold D_X7_cashOf_0 at h
  refine V_iload_n dX7_cashOf_0 rfl ?_
  by_cases c1 : a1 ≤ 0
  · rw [if_pos c1] at h
    refine V_ifle_t (tgt := 12) dX7_cashOf_1 (by decide) c1 ?_
    refine V_lconst (v := 0) dX7_cashOf_12 rfl ?_
    refine V_lstore_n (lv2 := [some (.ref 85), some (.int a1), some (.long 0), none, none]) dX7_cashOf_13 (by decide) rfl ?_
    refine V_iconst (v := 1) dX7_cashOf_14 rfl ?_
    refine V_istore (lv2 := [some (.ref 85), some (.int a1), some (.long 0), none, some (.int 1)]) dX7_cashOf_15 (by decide) rfl ?_
    exact V_wk [true, false, true, false, true] rfl (T_X7_cashOf_17 G fu μ hG fu _ _ _ h)
  · rw [if_neg c1] at h
    refine V_ifle_f (tgt := 12) dX7_cashOf_1 (by decide) c1 ?_
    refine V_aload_n dX7_cashOf_4 rfl ?_
    refine V_getR (kf := 28) k_X7 (by decide) lk_RX7_97 rfl dX7_cashOf_5 (tq_85 hG) rfl ?_
    refine V_iload_n dX7_cashOf_8 rfl ?_
    obtain ⟨g4, h⟩ := gu_o h
    refine V_iaload dX7_cashOf_9 (tq_112 hG) (ib_in g4) ?_
    refine V_i2l dX7_cashOf_10 ?_
    cases h
    exact V_lret rfl dX7_cashOf_11
theorem VM_X7_cashOf (G : GX) (fu : Nat) (μ : Mem)  (hG : gt G = tbl) (a1 : Int32) (r : Int64) (h : D_X7_cashOf_0 fu μ a1 = some r) : VM G mX7_cashOf [.ref 85, .int a1] μ (.inl (some (.long r))) (μ) := V_entry ok_mX7_cashOf rfl rfl (Nat.le_of_ble_eq_true rfl) (T_X7_cashOf_0 G fu μ hG a1 r h)
def D_X7_signedBy_94 (fu : Nat) (μ : Mem)  (k5 : Int32 → Int32 → Int64 → Int32 → Option Int64) (v1 : Int32) (v2 : Int32) (v3 : Int64) (v5 : Int32) : Option Int64 :=
  k5 v1 v2 v3 (v5 + 1)
set_option maxRecDepth 20000 in
theorem T_X7_signedBy_94 (G : GX) (fu : Nat) (μ : Mem)  (hG : gt G = tbl) (k5 : Int32 → Int32 → Int64 → Int32 → Option Int64) (hk5 : ∀ (v1 : Int32) (v2 : Int32) (v3 : Int64) (v5 : Int32) (r : Int64), k5 v1 v2 v3 v5 = some r → V G mX7_signedBy 5 [some (.ref 85), some (.int v1), some (.int v2), some (.long v3), none, some (.int v5), none] [] μ (.inl (some (.long r))) (μ)) : ∀ (v1 : Int32) (v2 : Int32) (v3 : Int64) (v5 : Int32) (r : Int64) , D_X7_signedBy_94 fu μ k5 v1 v2 v3 v5 = some r → V G mX7_signedBy 94 [some (.ref 85), some (.int v1), some (.int v2), some (.long v3), none, some (.int v5), none] [] μ (.inl (some (.long r))) (μ) := by
  intro v1 v2 v3 v5 r h
  unfold D_X7_signedBy_94 at h
  refine V_iinc (v := v5 + 1) (lv2 := [some (.ref 85), some (.int v1), some (.int v2), some (.long v3), none, some (.int (v5 + 1)), none]) dX7_signedBy_94 rfl rfl (by decide) rfl ?_
  refine V_goto (tgt := 5) dX7_signedBy_97 (by decide) ?_
  exact V_wk [true, true, true, true, false, true, false] rfl (hk5 _ _ _ _ _ h)
def D_X7_signedBy_88 (fu : Nat) (μ : Mem)  (k5 : Int32 → Int32 → Int64 → Int32 → Option Int64) (k15 : Int32 → Int32 → Int64 → Int32 → Int32 → Option Int64) (v1 : Int32) (v2 : Int32) (v3 : Int64) (v5 : Int32) (v6 : Int32) : Option Int64 :=
  k15 v1 v2 v3 v5 (v6 + 1)
set_option maxRecDepth 20000 in
theorem T_X7_signedBy_88 (G : GX) (fu : Nat) (μ : Mem)  (hG : gt G = tbl) (k5 : Int32 → Int32 → Int64 → Int32 → Option Int64) (hk5 : ∀ (v1 : Int32) (v2 : Int32) (v3 : Int64) (v5 : Int32) (r : Int64), k5 v1 v2 v3 v5 = some r → V G mX7_signedBy 5 [some (.ref 85), some (.int v1), some (.int v2), some (.long v3), none, some (.int v5), none] [] μ (.inl (some (.long r))) (μ)) (k15 : Int32 → Int32 → Int64 → Int32 → Int32 → Option Int64) (hk15 : ∀ (v1 : Int32) (v2 : Int32) (v3 : Int64) (v5 : Int32) (v6 : Int32) (r : Int64), k15 v1 v2 v3 v5 v6 = some r → V G mX7_signedBy 15 [some (.ref 85), some (.int v1), some (.int v2), some (.long v3), none, some (.int v5), some (.int v6)] [] μ (.inl (some (.long r))) (μ)) : ∀ (v1 : Int32) (v2 : Int32) (v3 : Int64) (v5 : Int32) (v6 : Int32) (r : Int64) , D_X7_signedBy_88 fu μ k5 k15 v1 v2 v3 v5 v6 = some r → V G mX7_signedBy 88 [some (.ref 85), some (.int v1), some (.int v2), some (.long v3), none, some (.int v5), some (.int v6)] [] μ (.inl (some (.long r))) (μ) := by
  intro v1 v2 v3 v5 v6 r h
  unfold D_X7_signedBy_88 at h
  refine V_iinc (v := v6 + 1) (lv2 := [some (.ref 85), some (.int v1), some (.int v2), some (.long v3), none, some (.int v5), some (.int (v6 + 1))]) dX7_signedBy_88 rfl rfl (by decide) rfl ?_
  refine V_goto (tgt := 15) dX7_signedBy_91 (by decide) ?_
  exact V_wk [true, true, true, true, false, true, true] rfl (hk15 _ _ _ _ _ _ h)
def D_X7_signedBy_86 (fu : Nat) (μ : Mem)  (k5 : Int32 → Int32 → Int64 → Int32 → Option Int64) (k15 : Int32 → Int32 → Int64 → Int32 → Int32 → Option Int64) (v1 : Int32) (v2 : Int32) (v5 : Int32) (v6 : Int32) (s0 : Int64) (s1 : Int64) : Option Int64 :=
  D_X7_signedBy_88 fu μ k5 k15 v1 v2 (s0 + s1) v5 v6
set_option maxRecDepth 20000 in
theorem T_X7_signedBy_86 (G : GX) (fu : Nat) (μ : Mem)  (hG : gt G = tbl) (k5 : Int32 → Int32 → Int64 → Int32 → Option Int64) (hk5 : ∀ (v1 : Int32) (v2 : Int32) (v3 : Int64) (v5 : Int32) (r : Int64), k5 v1 v2 v3 v5 = some r → V G mX7_signedBy 5 [some (.ref 85), some (.int v1), some (.int v2), some (.long v3), none, some (.int v5), none] [] μ (.inl (some (.long r))) (μ)) (k15 : Int32 → Int32 → Int64 → Int32 → Int32 → Option Int64) (hk15 : ∀ (v1 : Int32) (v2 : Int32) (v3 : Int64) (v5 : Int32) (v6 : Int32) (r : Int64), k15 v1 v2 v3 v5 v6 = some r → V G mX7_signedBy 15 [some (.ref 85), some (.int v1), some (.int v2), some (.long v3), none, some (.int v5), some (.int v6)] [] μ (.inl (some (.long r))) (μ)) : ∀ (v1 : Int32) (v2 : Int32) (v5 : Int32) (v6 : Int32) (s0 : Int64) (s1 : Int64) (r : Int64) , D_X7_signedBy_86 fu μ k5 k15 v1 v2 v5 v6 s0 s1 = some r → V G mX7_signedBy 86 [some (.ref 85), some (.int v1), some (.int v2), none, none, some (.int v5), some (.int v6)] [.long s1, .long s0] μ (.inl (some (.long r))) (μ) := by
  intro v1 v2 v5 v6 s0 s1 r h
  unfold D_X7_signedBy_86 at h
  refine V_ladd dX7_signedBy_86 ?_
  refine V_lstore_n (lv2 := [some (.ref 85), some (.int v1), some (.int v2), some (.long (s0 + s1)), none, some (.int v5), some (.int v6)]) dX7_signedBy_87 (by decide) rfl ?_
  exact V_wk [true, true, true, true, false, true, true] rfl (T_X7_signedBy_88 G fu μ hG k5 hk5 k15 hk15 _ _ _ _ _ _ h)
def D_X7_signedBy_15 (fu : Nat) (μ : Mem)  (k5 : Int32 → Int32 → Int64 → Int32 → Option Int64) : Nat → Int32 → Int32 → Int64 → Int32 → Int32 → Option Int64
  | 0, _, _, _, _, _ => none
  | n + 1, v1, v2, v3, v5, v6 =>
    gu (ib v5 40) <|
    if (μ.1 90 (Int32.toNatClampNeg v5)) = 0 then
      D_X7_signedBy_94 fu μ k5 v1 v2 v3 v5
    else
      gu (ib v5 40) <|
      if (μ.1 96 (Int32.toNatClampNeg v5)) ≤ v6 then
        D_X7_signedBy_94 fu μ k5 v1 v2 v3 v5
      else
        gu (ib ((4 * v5) + v6) 160) <|
        if (μ.1 97 (Int32.toNatClampNeg ((4 * v5) + v6))) = v1 then
          if v2 = 0 then
            D_X7_signedBy_86 fu μ k5 (D_X7_signedBy_15 fu μ k5 n) v1 v2 v5 v6 v3 1
          else
            (D_X7_left_0 μ v5).bind fun x4 =>
            gu (ib ((4 * v5) + v6) 160) <|
            D_X7_signedBy_86 fu μ k5 (D_X7_signedBy_15 fu μ k5 n) v1 v2 v5 v6 v3 ((x4 * ((μ.1 98 (Int32.toNatClampNeg ((4 * v5) + v6)) : Int32).toInt64)) / 10)
        else
          D_X7_signedBy_88 fu μ k5 (D_X7_signedBy_15 fu μ k5 n) v1 v2 v3 v5 v6
set_option maxRecDepth 20000 in
theorem T_X7_signedBy_15 (G : GX) (fu : Nat) (μ : Mem)  (hG : gt G = tbl) (k5 : Int32 → Int32 → Int64 → Int32 → Option Int64) (hk5 : ∀ (v1 : Int32) (v2 : Int32) (v3 : Int64) (v5 : Int32) (r : Int64), k5 v1 v2 v3 v5 = some r → V G mX7_signedBy 5 [some (.ref 85), some (.int v1), some (.int v2), some (.long v3), none, some (.int v5), none] [] μ (.inl (some (.long r))) (μ)) : ∀ (n : Nat) (v1 : Int32) (v2 : Int32) (v3 : Int64) (v5 : Int32) (v6 : Int32) (r : Int64) , D_X7_signedBy_15 fu μ k5 n v1 v2 v3 v5 v6 = some r → V G mX7_signedBy 15 [some (.ref 85), some (.int v1), some (.int v2), some (.long v3), none, some (.int v5), some (.int v6)] [] μ (.inl (some (.long r))) (μ) := by
  intro n
  induction n with
  | zero =>
    intro v1 v2 v3 v5 v6 r h
    exact nomatch (show (none : Option Int64) = some r from h)
  | succ n ih =>
    intro v1 v2 v3 v5 v6 r h
    rw [D_X7_signedBy_15] at h
    refine V_aload_n dX7_signedBy_15 rfl ?_
    refine V_getR (kf := 6) k_X7 (by decide) lk_RX7_29 rfl dX7_signedBy_16 (tq_85 hG) rfl ?_
    refine V_iload dX7_signedBy_19 rfl ?_
    obtain ⟨g1, h⟩ := gu_o h
    refine V_baload dX7_signedBy_21 (tq_90 hG) (ib_in g1) ?_
    by_cases c22 : (μ.1 90 (Int32.toNatClampNeg v5)) = 0
    · rw [if_pos c22] at h
      refine V_ifeq_t (tgt := 94) dX7_signedBy_22 (by decide) c22 ?_
      exact V_wk [true, true, true, true, false, true, false] rfl (T_X7_signedBy_94 G fu μ hG k5 hk5 _ _ _ _ _ h)
    · rw [if_neg c22] at h
      refine V_ifeq_f (tgt := 94) dX7_signedBy_22 (by decide) c22 ?_
      refine V_iload dX7_signedBy_25 rfl ?_
      refine V_aload_n dX7_signedBy_27 rfl ?_
      refine V_getR (kf := 12) k_X7 (by decide) lk_RX7_48 rfl dX7_signedBy_28 (tq_85 hG) rfl ?_
      refine V_iload dX7_signedBy_31 rfl ?_
      obtain ⟨g2, h⟩ := gu_o h
      refine V_iaload dX7_signedBy_33 (tq_96 hG) (ib_in g2) ?_
      by_cases c34 : (μ.1 96 (Int32.toNatClampNeg v5)) ≤ v6
      · rw [if_pos c34] at h
        refine V_icmpge_t (tgt := 94) dX7_signedBy_34 (by decide) c34 ?_
        exact V_wk [true, true, true, true, false, true, false] rfl (T_X7_signedBy_94 G fu μ hG k5 hk5 _ _ _ _ _ h)
      · rw [if_neg c34] at h
        refine V_icmpge_f (tgt := 94) dX7_signedBy_34 (by decide) c34 ?_
        refine V_aload_n dX7_signedBy_37 rfl ?_
        refine V_getR (kf := 13) k_X7 (by decide) lk_RX7_51 rfl dX7_signedBy_38 (tq_85 hG) rfl ?_
        refine V_iconst (v := 4) dX7_signedBy_41 rfl ?_
        refine V_iload dX7_signedBy_42 rfl ?_
        refine V_imul dX7_signedBy_44 ?_
        refine V_iload dX7_signedBy_45 rfl ?_
        refine V_iadd dX7_signedBy_47 ?_
        obtain ⟨g3, h⟩ := gu_o h
        refine V_iaload dX7_signedBy_48 (tq_97 hG) (ib_in g3) ?_
        refine V_iload_n dX7_signedBy_49 rfl ?_
        by_cases c50 : (μ.1 97 (Int32.toNatClampNeg ((4 * v5) + v6))) = v1
        · rw [if_pos c50] at h
          refine V_icmpne_f (tgt := 88) dX7_signedBy_50 (by decide) c50 ?_
          refine V_lload_n dX7_signedBy_53 rfl ?_
          refine V_iload_n dX7_signedBy_54 rfl ?_
          by_cases c55 : v2 = 0
          · rw [if_pos c55] at h
            refine V_ifne_f (tgt := 62) dX7_signedBy_55 (by decide) c55 ?_
            refine V_lconst (v := 1) dX7_signedBy_58 rfl ?_
            refine V_goto (tgt := 86) dX7_signedBy_59 (by decide) ?_
            exact V_wk [true, true, true, false, false, true, true] rfl (T_X7_signedBy_86 G fu μ hG k5 hk5 (D_X7_signedBy_15 fu μ k5 n) ih _ _ _ _ _ _ _ h)
          · rw [if_neg c55] at h
            refine V_ifne_t (tgt := 62) dX7_signedBy_55 (by decide) c55 ?_
            refine V_aload_n dX7_signedBy_62 rfl ?_
            refine V_iload dX7_signedBy_63 rfl ?_
            obtain ⟨x4, y5, h⟩ := bi_o h
            refine V_callV (as := [.int v5]) (q := 85) (rest := [.long v3]) dX7_signedBy_65 ov_mX7_left lk_RX7_175 (by decide) (by decide) rfl rfl (Nat.le_of_ble_eq_true rfl) (tq_85 hG) rfl (VM_X7_left G μ hG v5 _ y5) ?_
            refine V_aload_n dX7_signedBy_68 rfl ?_
            refine V_getR (kf := 14) k_X7 (by decide) lk_RX7_54 rfl dX7_signedBy_69 (tq_85 hG) rfl ?_
            refine V_iconst (v := 4) dX7_signedBy_72 rfl ?_
            refine V_iload dX7_signedBy_73 rfl ?_
            refine V_imul dX7_signedBy_75 ?_
            refine V_iload dX7_signedBy_76 rfl ?_
            refine V_iadd dX7_signedBy_78 ?_
            obtain ⟨g6, h⟩ := gu_o h
            refine V_iaload dX7_signedBy_79 (tq_98 hG) (ib_in g6) ?_
            refine V_i2l dX7_signedBy_80 ?_
            refine V_lmul dX7_signedBy_81 ?_
            refine V_ldc2 (v := 10) dX7_signedBy_82 lk_RX7_252 ?_
            refine V_ldiv dX7_signedBy_85 (by decide) ?_
            exact V_wk [true, true, true, false, false, true, true] rfl (T_X7_signedBy_86 G fu μ hG k5 hk5 (D_X7_signedBy_15 fu μ k5 n) ih _ _ _ _ _ _ _ h)
        · rw [if_neg c50] at h
          refine V_icmpne_t (tgt := 88) dX7_signedBy_50 (by decide) c50 ?_
          exact V_wk [true, true, true, true, false, true, true] rfl (T_X7_signedBy_88 G fu μ hG k5 hk5 (D_X7_signedBy_15 fu μ k5 n) ih _ _ _ _ _ _ h)
def D_X7_signedBy_5 (fu : Nat) (μ : Mem)  : Nat → Int32 → Int32 → Int64 → Int32 → Option Int64
  | 0, _, _, _, _ => none
  | n + 1, v1, v2, v3, v5 =>
    if (40 : Int32) ≤ v5 then
      some v3
    else
      D_X7_signedBy_15 fu μ (D_X7_signedBy_5 fu μ n) fu v1 v2 v3 v5 0
set_option maxRecDepth 20000 in
theorem T_X7_signedBy_5 (G : GX) (fu : Nat) (μ : Mem)  (hG : gt G = tbl) : ∀ (n : Nat) (v1 : Int32) (v2 : Int32) (v3 : Int64) (v5 : Int32) (r : Int64) , D_X7_signedBy_5 fu μ n v1 v2 v3 v5 = some r → V G mX7_signedBy 5 [some (.ref 85), some (.int v1), some (.int v2), some (.long v3), none, some (.int v5), none] [] μ (.inl (some (.long r))) (μ) := by
  intro n
  induction n with
  | zero =>
    intro v1 v2 v3 v5 r h
    exact nomatch (show (none : Option Int64) = some r from h)
  | succ n ih =>
    intro v1 v2 v3 v5 r h
    rw [D_X7_signedBy_5] at h
    refine V_iload dX7_signedBy_5 rfl ?_
    refine V_bipush (v := 40) dX7_signedBy_7 rfl ?_
    by_cases c9 : (40 : Int32) ≤ v5
    · rw [if_pos c9] at h
      refine V_icmpge_t (tgt := 100) dX7_signedBy_9 (by decide) c9 ?_
      refine V_lload_n dX7_signedBy_100 rfl ?_
      cases h
      exact V_lret rfl dX7_signedBy_101
    · rw [if_neg c9] at h
      refine V_icmpge_f (tgt := 100) dX7_signedBy_9 (by decide) c9 ?_
      refine V_iconst (v := 0) dX7_signedBy_12 rfl ?_
      refine V_istore (lv2 := [some (.ref 85), some (.int v1), some (.int v2), some (.long v3), none, some (.int v5), some (.int 0)]) dX7_signedBy_13 (by decide) rfl ?_
      exact V_wk [true, true, true, true, false, true, true] rfl (T_X7_signedBy_15 G fu μ hG (D_X7_signedBy_5 fu μ n) ih fu _ _ _ _ _ _ h)
def D_X7_signedBy_0 (fu : Nat) (μ : Mem)  (a1 : Int32) (a2 : Int32) : Option Int64 :=
  D_X7_signedBy_5 fu μ fu a1 a2 0 0
set_option maxRecDepth 20000 in
theorem T_X7_signedBy_0 (G : GX) (fu : Nat) (μ : Mem)  (hG : gt G = tbl) : ∀ (a1 : Int32) (a2 : Int32) (r : Int64) , D_X7_signedBy_0 fu μ a1 a2 = some r → V G mX7_signedBy 0 [some (.ref 85), some (.int a1), some (.int a2), none, none, none, none] [] μ (.inl (some (.long r))) (μ) := by
  intro a1 a2 r h
  unfold D_X7_signedBy_0 at h
  refine V_lconst (v := 0) dX7_signedBy_0 rfl ?_
  refine V_lstore_n (lv2 := [some (.ref 85), some (.int a1), some (.int a2), some (.long 0), none, none, none]) dX7_signedBy_1 (by decide) rfl ?_
  refine V_iconst (v := 0) dX7_signedBy_2 rfl ?_
  refine V_istore (lv2 := [some (.ref 85), some (.int a1), some (.int a2), some (.long 0), none, some (.int 0), none]) dX7_signedBy_3 (by decide) rfl ?_
  exact V_wk [true, true, true, true, false, true, false] rfl (T_X7_signedBy_5 G fu μ hG fu _ _ _ _ _ h)
theorem VM_X7_signedBy (G : GX) (fu : Nat) (μ : Mem)  (hG : gt G = tbl) (a1 : Int32) (a2 : Int32) (r : Int64) (h : D_X7_signedBy_0 fu μ a1 a2 = some r) : VM G mX7_signedBy [.ref 85, .int a1, .int a2] μ (.inl (some (.long r))) (μ) := V_entry ok_mX7_signedBy rfl rfl (Nat.le_of_ble_eq_true rfl) (T_X7_signedBy_0 G fu μ hG a1 a2 r h)
def D_X7_insurer_35 (fu : Nat)  (v1 : Int32) (v2 : Int32) (s1 : Int32) (μ : Mem) : Option (Int64 × Mem) :=
  (D_X7_needs_0 s1 1 1 μ).bind fun x7 =>
  if x7.1 = true then
    if (3 : Int32) ≤ v2 then
      (D_X7_signedBy_0 fu x7.2 v1 (v2 - 3)).bind fun x9 =>
      some (x9, x7.2)
    else
      if v2 = 0 then
        (D_X7_bearsAll_0 fu x7.2 v1).bind fun x11 =>
        some (x11, x7.2)
      else
        if v2 = (1 : Int32) then
          gu (ib v1 10) <|
          some ((x7.2.1 111 (Int32.toNatClampNeg v1) : Int32).toInt64, x7.2)
        else
          (D_X7_cashOf_0 fu x7.2 v1).bind fun x14 =>
          some (x14, x7.2)
  else
    some (0, x7.2)
set_option maxRecDepth 20000 in
theorem T_X7_insurer_35 (G : GX) (fu : Nat)  (hG : gt G = tbl) : ∀ (v1 : Int32) (v2 : Int32) (s1 : Int32) (μ : Mem) (r : (Int64 × Mem)) , D_X7_insurer_35 fu v1 v2 s1 μ = some r → V G mX7_insurer 35 [some (.ref 85), some (.int v1), some (.int v2)] [.int s1, .ref 85] μ (.inl (some (.long r.1))) (r.2) := by
  intro v1 v2 s1 μ r h
  unfold D_X7_insurer_35 at h
  refine V_iconst (v := 1) dX7_insurer_35 rfl ?_
  refine V_iconst (v := 1) dX7_insurer_36 rfl ?_
  obtain ⟨x7, y8, h⟩ := bi_o h
  refine V_callV (as := [.int s1, .int 1, .int 1]) (q := 85) (rest := []) dX7_insurer_37 ov_mX7_needs lk_RX7_346 (by decide) (by decide) rfl rfl (Nat.le_of_ble_eq_true rfl) (tq_85 hG) rfl (VM_X7_needs G hG s1 1 1 μ _ y8) ?_
  by_cases c40 : x7.1 = true
  · rw [if_pos c40] at h
    refine V_ifne_t (tgt := 45) dX7_insurer_40 (by decide) (b2i_t.mp c40) ?_
    refine V_iload_n dX7_insurer_45 rfl ?_
    refine V_iconst (v := 3) dX7_insurer_46 rfl ?_
    by_cases c47 : (3 : Int32) ≤ v2
    · rw [if_pos c47] at h
      refine V_icmpge_t (tgt := 83) dX7_insurer_47 (by decide) c47 ?_
      refine V_aload_n dX7_insurer_83 rfl ?_
      refine V_iload_n dX7_insurer_84 rfl ?_
      refine V_iload_n dX7_insurer_85 rfl ?_
      refine V_iconst (v := 3) dX7_insurer_86 rfl ?_
      refine V_isub dX7_insurer_87 ?_
      obtain ⟨x9, y10, h⟩ := bi_o h
      refine V_callV (as := [.int v1, .int (v2 - 3)]) (q := 85) (rest := []) dX7_insurer_88 ov_mX7_signedBy lk_RX7_443 (by decide) (by decide) rfl rfl (Nat.le_of_ble_eq_true rfl) (tq_85 hG) rfl (VM_X7_signedBy G fu x7.2 hG v1 (v2 - 3) _ y10) ?_
      cases h
      exact V_lret rfl dX7_insurer_91
    · rw [if_neg c47] at h
      refine V_icmpge_f (tgt := 83) dX7_insurer_47 (by decide) c47 ?_
      refine V_iload_n dX7_insurer_50 rfl ?_
      by_cases c51 : v2 = 0
      · rw [if_pos c51] at h
        refine V_ifne_f (tgt := 62) dX7_insurer_51 (by decide) c51 ?_
        refine V_aload_n dX7_insurer_54 rfl ?_
        refine V_iload_n dX7_insurer_55 rfl ?_
        obtain ⟨x11, y12, h⟩ := bi_o h
        refine V_callV (as := [.int v1]) (q := 85) (rest := []) dX7_insurer_56 ov_mX7_bearsAll lk_RX7_437 (by decide) (by decide) rfl rfl (Nat.le_of_ble_eq_true rfl) (tq_85 hG) rfl (VM_X7_bearsAll G fu x7.2 hG v1 _ y12) ?_
        refine V_goto (tgt := 82) dX7_insurer_59 (by decide) ?_
        cases h
        exact V_lret rfl dX7_insurer_82
      · rw [if_neg c51] at h
        refine V_ifne_t (tgt := 62) dX7_insurer_51 (by decide) c51 ?_
        refine V_iload_n dX7_insurer_62 rfl ?_
        refine V_iconst (v := 1) dX7_insurer_63 rfl ?_
        by_cases c64 : v2 = (1 : Int32)
        · rw [if_pos c64] at h
          refine V_icmpne_f (tgt := 77) dX7_insurer_64 (by decide) c64 ?_
          refine V_aload_n dX7_insurer_67 rfl ?_
          refine V_getR (kf := 27) k_X7 (by decide) lk_RX7_94 rfl dX7_insurer_68 (tq_85 hG) rfl ?_
          refine V_iload_n dX7_insurer_71 rfl ?_
          obtain ⟨g13, h⟩ := gu_o h
          refine V_iaload dX7_insurer_72 (tq_111 hG) (ib_in g13) ?_
          refine V_i2l dX7_insurer_73 ?_
          refine V_goto (tgt := 82) dX7_insurer_74 (by decide) ?_
          cases h
          exact V_lret rfl dX7_insurer_82
        · rw [if_neg c64] at h
          refine V_icmpne_t (tgt := 77) dX7_insurer_64 (by decide) c64 ?_
          refine V_aload_n dX7_insurer_77 rfl ?_
          refine V_iload_n dX7_insurer_78 rfl ?_
          obtain ⟨x14, y15, h⟩ := bi_o h
          refine V_callV (as := [.int v1]) (q := 85) (rest := []) dX7_insurer_79 ov_mX7_cashOf lk_RX7_440 (by decide) (by decide) rfl rfl (Nat.le_of_ble_eq_true rfl) (tq_85 hG) rfl (VM_X7_cashOf G fu x7.2 hG v1 _ y15) ?_
          cases h
          exact V_lret rfl dX7_insurer_82
  · rw [if_neg c40] at h
    refine V_ifne_f (tgt := 45) dX7_insurer_40 (by decide) (b2i_f.mp c40) ?_
    refine V_lconst (v := 0) dX7_insurer_43 rfl ?_
    cases h
    exact V_lret rfl dX7_insurer_44
def D_X7_insurer_34 (fu : Nat)  (v1 : Int32) (v2 : Int32) (μ : Mem) : Option (Int64 × Mem) :=
  D_X7_insurer_35 fu v1 v2 0 μ
set_option maxRecDepth 20000 in
theorem T_X7_insurer_34 (G : GX) (fu : Nat)  (hG : gt G = tbl) : ∀ (v1 : Int32) (v2 : Int32) (μ : Mem) (r : (Int64 × Mem)) , D_X7_insurer_34 fu v1 v2 μ = some r → V G mX7_insurer 34 [some (.ref 85), some (.int v1), some (.int v2)] [.ref 85] μ (.inl (some (.long r.1))) (r.2) := by
  intro v1 v2 μ r h
  unfold D_X7_insurer_34 at h
  refine V_iconst (v := 0) dX7_insurer_34 rfl ?_
  exact V_wk [true, true, true] rfl (T_X7_insurer_35 G fu hG _ _ _ _ _ h)
def D_X7_insurer_0 (fu : Nat)  (a1 : Int32) (a2 : Int32) (μ : Mem) : Option (Int64 × Mem) :=
  vl (wI μ 85 0 0) fun m1 =>
  (D_X7_within_0 m1 ((a1 : Int32).toInt64) 0 9).bind fun x3 =>
  if x3 = true then
    (D_X7_within_0 m1 ((a2 : Int32).toInt64) 0 4).bind fun x5 =>
    if x5 = true then
      D_X7_insurer_35 fu a1 a2 1 m1
    else
      D_X7_insurer_34 fu a1 a2 m1
  else
    D_X7_insurer_34 fu a1 a2 m1
set_option maxRecDepth 20000 in
theorem T_X7_insurer_0 (G : GX) (fu : Nat)  (hG : gt G = tbl) : ∀ (a1 : Int32) (a2 : Int32) (μ : Mem) (r : (Int64 × Mem)) , D_X7_insurer_0 fu a1 a2 μ = some r → V G mX7_insurer 0 [some (.ref 85), some (.int a1), some (.int a2)] [] μ (.inl (some (.long r.1))) (r.2) := by
  intro a1 a2 μ r h
  unfold D_X7_insurer_0 at h
  refine V_aload_n dX7_insurer_0 rfl ?_
  refine V_iconst (v := 0) dX7_insurer_1 rfl ?_
  obtain ⟨m1, e2, h⟩ := vl_o h
  refine V_putI (kf := 0) k_X7 (by decide) lk_RX7_1 rfl rfl (by decide +kernel) dX7_insurer_2 (tq_85 hG) rfl e2.symm ?_
  refine V_aload_n dX7_insurer_5 rfl ?_
  refine V_iload_n dX7_insurer_6 rfl ?_
  refine V_i2l dX7_insurer_7 ?_
  refine V_lconst (v := 0) dX7_insurer_8 rfl ?_
  refine V_ldc2 (v := 9) dX7_insurer_9 lk_RX7_377 ?_
  obtain ⟨x3, y4, h⟩ := bi_o h
  refine V_callS (as := [.long ((a1 : Int32).toInt64), .long 0, .long 9]) (rest := [.ref 85]) dX7_insurer_12 os_mX7_within rfl lk_RX7_352 (by decide) (by decide) rfl rfl (Nat.le_of_ble_eq_true rfl) (VM_X7_within G m1 hG ((a1 : Int32).toInt64) 0 9 _ y4) ?_
  by_cases c15 : x3 = true
  · rw [if_pos c15] at h
    refine V_ifeq_f (tgt := 34) dX7_insurer_15 (by decide) (b2i_t.mp c15) ?_
    refine V_iload_n dX7_insurer_18 rfl ?_
    refine V_i2l dX7_insurer_19 ?_
    refine V_lconst (v := 0) dX7_insurer_20 rfl ?_
    refine V_ldc2 (v := 4) dX7_insurer_21 lk_RX7_360 ?_
    obtain ⟨x5, y6, h⟩ := bi_o h
    refine V_callS (as := [.long ((a2 : Int32).toInt64), .long 0, .long 4]) (rest := [.ref 85]) dX7_insurer_24 os_mX7_within rfl lk_RX7_352 (by decide) (by decide) rfl rfl (Nat.le_of_ble_eq_true rfl) (VM_X7_within G m1 hG ((a2 : Int32).toInt64) 0 4 _ y6) ?_
    by_cases c27 : x5 = true
    · rw [if_pos c27] at h
      refine V_ifeq_f (tgt := 34) dX7_insurer_27 (by decide) (b2i_t.mp c27) ?_
      refine V_iconst (v := 1) dX7_insurer_30 rfl ?_
      refine V_goto (tgt := 35) dX7_insurer_31 (by decide) ?_
      exact V_wk [true, true, true] rfl (T_X7_insurer_35 G fu hG _ _ _ _ _ h)
    · rw [if_neg c27] at h
      refine V_ifeq_t (tgt := 34) dX7_insurer_27 (by decide) (b2i_f.mp c27) ?_
      exact V_wk [true, true, true] rfl (T_X7_insurer_34 G fu hG _ _ _ _ h)
  · rw [if_neg c15] at h
    refine V_ifeq_t (tgt := 34) dX7_insurer_15 (by decide) (b2i_f.mp c15) ?_
    exact V_wk [true, true, true] rfl (T_X7_insurer_34 G fu hG _ _ _ _ h)
theorem VM_X7_insurer (G : GX) (fu : Nat)  (hG : gt G = tbl) (a1 : Int32) (a2 : Int32) (μ : Mem) (r : (Int64 × Mem)) (h : D_X7_insurer_0 fu a1 a2 μ = some r) : VM G mX7_insurer [.ref 85, .int a1, .int a2] μ (.inl (some (.long r.1))) (r.2) := V_entry ok_mX7_insurer rfl rfl (Nat.le_of_ble_eq_true rfl) (T_X7_insurer_0 G fu hG a1 a2 μ r h)
def D_X7_burden_64 (fu : Nat)  (k30 : Int32 → Int64 → Int32 → Mem → Option (Int64 × Mem)) (v1 : Int32) (v4 : Int32) (s0 : Int64) (s1 : Int64) (μ : Mem) : Option (Int64 × Mem) :=
  k30 v1 (s0 + s1) (v4 + 1) μ
set_option maxRecDepth 20000 in
theorem T_X7_burden_64 (G : GX) (fu : Nat)  (hG : gt G = tbl) (k30 : Int32 → Int64 → Int32 → Mem → Option (Int64 × Mem)) (hk30 : ∀ (v1 : Int32) (v2 : Int64) (v4 : Int32) (μ : Mem) (r : (Int64 × Mem)), k30 v1 v2 v4 μ = some r → V G mX7_burden 30 [some (.ref 85), some (.int v1), some (.long v2), none, some (.int v4)] [] μ (.inl (some (.long r.1))) (r.2)) : ∀ (v1 : Int32) (v4 : Int32) (s0 : Int64) (s1 : Int64) (μ : Mem) (r : (Int64 × Mem)) , D_X7_burden_64 fu k30 v1 v4 s0 s1 μ = some r → V G mX7_burden 64 [some (.ref 85), some (.int v1), none, none, some (.int v4)] [.long s1, .long s0] μ (.inl (some (.long r.1))) (r.2) := by
  intro v1 v4 s0 s1 μ r h
  unfold D_X7_burden_64 at h
  refine V_ladd dX7_burden_64 ?_
  refine V_lstore_n (lv2 := [some (.ref 85), some (.int v1), some (.long (s0 + s1)), none, some (.int v4)]) dX7_burden_65 (by decide) rfl ?_
  refine V_iinc (v := v4 + 1) (lv2 := [some (.ref 85), some (.int v1), some (.long (s0 + s1)), none, some (.int (v4 + 1))]) dX7_burden_66 rfl rfl (by decide) rfl ?_
  refine V_goto (tgt := 30) dX7_burden_69 (by decide) ?_
  exact V_wk [true, true, true, false, true] rfl (hk30 _ _ _ _ _ h)
def D_X7_burden_30 (fu : Nat)  : Nat → Int32 → Int64 → Int32 → Mem → Option (Int64 × Mem)
  | 0, _, _, _, _ => none
  | n + 1, v1, v2, v4, μ =>
    if (24 : Int32) ≤ v4 then
      some (v2, μ)
    else
      gu (ib v4 25) <|
      if (μ.1 91 (Int32.toNatClampNeg v4)) = 0 then
        D_X7_burden_64 fu (D_X7_burden_30 fu n) v1 v4 v2 0 μ
      else
        gu (ib ((7 * v4) + v1) 175) <|
        D_X7_burden_64 fu (D_X7_burden_30 fu n) v1 v4 v2 (μ.2.1 110 (Int32.toNatClampNeg ((7 * v4) + v1))) μ
set_option maxRecDepth 20000 in
theorem T_X7_burden_30 (G : GX) (fu : Nat)  (hG : gt G = tbl) : ∀ (n : Nat) (v1 : Int32) (v2 : Int64) (v4 : Int32) (μ : Mem) (r : (Int64 × Mem)) , D_X7_burden_30 fu n v1 v2 v4 μ = some r → V G mX7_burden 30 [some (.ref 85), some (.int v1), some (.long v2), none, some (.int v4)] [] μ (.inl (some (.long r.1))) (r.2) := by
  intro n
  induction n with
  | zero =>
    intro v1 v2 v4 μ r h
    exact nomatch (show (none : Option (Int64 × Mem)) = some r from h)
  | succ n ih =>
    intro v1 v2 v4 μ r h
    rw [D_X7_burden_30] at h
    refine V_iload dX7_burden_30 rfl ?_
    refine V_bipush (v := 24) dX7_burden_32 rfl ?_
    by_cases c34 : (24 : Int32) ≤ v4
    · rw [if_pos c34] at h
      refine V_icmpge_t (tgt := 72) dX7_burden_34 (by decide) c34 ?_
      refine V_lload_n dX7_burden_72 rfl ?_
      cases h
      exact V_lret rfl dX7_burden_73
    · rw [if_neg c34] at h
      refine V_icmpge_f (tgt := 72) dX7_burden_34 (by decide) c34 ?_
      refine V_lload_n dX7_burden_37 rfl ?_
      refine V_aload_n dX7_burden_38 rfl ?_
      refine V_getR (kf := 7) k_X7 (by decide) lk_RX7_33 rfl dX7_burden_39 (tq_85 hG) rfl ?_
      refine V_iload dX7_burden_42 rfl ?_
      obtain ⟨g7, h⟩ := gu_o h
      refine V_baload dX7_burden_44 (tq_91 hG) (ib_in g7) ?_
      by_cases c45 : (μ.1 91 (Int32.toNatClampNeg v4)) = 0
      · rw [if_pos c45] at h
        refine V_ifeq_t (tgt := 63) dX7_burden_45 (by decide) c45 ?_
        refine V_lconst (v := 0) dX7_burden_63 rfl ?_
        exact V_wk [true, true, false, false, true] rfl (T_X7_burden_64 G fu hG (D_X7_burden_30 fu n) ih _ _ _ _ _ _ h)
      · rw [if_neg c45] at h
        refine V_ifeq_f (tgt := 63) dX7_burden_45 (by decide) c45 ?_
        refine V_aload_n dX7_burden_48 rfl ?_
        refine V_getR (kf := 26) k_X7 (by decide) lk_RX7_91 rfl dX7_burden_49 (tq_85 hG) rfl ?_
        refine V_bipush (v := 7) dX7_burden_52 rfl ?_
        refine V_iload dX7_burden_54 rfl ?_
        refine V_imul dX7_burden_56 ?_
        refine V_iload_n dX7_burden_57 rfl ?_
        refine V_iadd dX7_burden_58 ?_
        obtain ⟨g8, h⟩ := gu_o h
        refine V_laload dX7_burden_59 (tq_110 hG) (ib_in g8) ?_
        refine V_goto (tgt := 64) dX7_burden_60 (by decide) ?_
        exact V_wk [true, true, false, false, true] rfl (T_X7_burden_64 G fu hG (D_X7_burden_30 fu n) ih _ _ _ _ _ _ h)
def D_X7_burden_0 (fu : Nat)  (a1 : Int32) (μ : Mem) : Option (Int64 × Mem) :=
  vl (wI μ 85 0 0) fun m1 =>
  (D_X7_within_0 m1 ((a1 : Int32).toInt64) 0 6).bind fun x3 =>
  (D_X7_needs_0 (b2i x3) 1 1 m1).bind fun x5 =>
  if x5.1 = true then
    D_X7_burden_30 fu fu a1 0 0 x5.2
  else
    some (0, x5.2)
set_option maxRecDepth 20000 in
theorem T_X7_burden_0 (G : GX) (fu : Nat)  (hG : gt G = tbl) : ∀ (a1 : Int32) (μ : Mem) (r : (Int64 × Mem)) , D_X7_burden_0 fu a1 μ = some r → V G mX7_burden 0 [some (.ref 85), some (.int a1), none, none, none] [] μ (.inl (some (.long r.1))) (r.2) := by
  intro a1 μ r h
  unfold D_X7_burden_0 at h
  refine V_aload_n dX7_burden_0 rfl ?_
  refine V_iconst (v := 0) dX7_burden_1 rfl ?_
  obtain ⟨m1, e2, h⟩ := vl_o h
  refine V_putI (kf := 0) k_X7 (by decide) lk_RX7_1 rfl rfl (by decide +kernel) dX7_burden_2 (tq_85 hG) rfl e2.symm ?_
  refine V_aload_n dX7_burden_5 rfl ?_
  refine V_iload_n dX7_burden_6 rfl ?_
  refine V_i2l dX7_burden_7 ?_
  refine V_lconst (v := 0) dX7_burden_8 rfl ?_
  refine V_ldc2 (v := 6) dX7_burden_9 lk_RX7_421 ?_
  obtain ⟨x3, y4, h⟩ := bi_o h
  refine V_callS (as := [.long ((a1 : Int32).toInt64), .long 0, .long 6]) (rest := [.ref 85]) dX7_burden_12 os_mX7_within rfl lk_RX7_352 (by decide) (by decide) rfl rfl (Nat.le_of_ble_eq_true rfl) (VM_X7_within G m1 hG ((a1 : Int32).toInt64) 0 6 _ y4) ?_
  refine V_iconst (v := 1) dX7_burden_15 rfl ?_
  refine V_iconst (v := 1) dX7_burden_16 rfl ?_
  obtain ⟨x5, y6, h⟩ := bi_o h
  refine V_callV (as := [.int (b2i x3), .int 1, .int 1]) (q := 85) (rest := []) dX7_burden_17 ov_mX7_needs lk_RX7_346 (by decide) (by decide) rfl rfl (Nat.le_of_ble_eq_true rfl) (tq_85 hG) rfl (VM_X7_needs G hG (b2i x3) 1 1 m1 _ y6) ?_
  by_cases c20 : x5.1 = true
  · rw [if_pos c20] at h
    refine V_ifne_t (tgt := 25) dX7_burden_20 (by decide) (b2i_t.mp c20) ?_
    refine V_lconst (v := 0) dX7_burden_25 rfl ?_
    refine V_lstore_n (lv2 := [some (.ref 85), some (.int a1), some (.long 0), none, none]) dX7_burden_26 (by decide) rfl ?_
    refine V_iconst (v := 0) dX7_burden_27 rfl ?_
    refine V_istore (lv2 := [some (.ref 85), some (.int a1), some (.long 0), none, some (.int 0)]) dX7_burden_28 (by decide) rfl ?_
    exact V_wk [true, true, true, false, true] rfl (T_X7_burden_30 G fu hG fu _ _ _ _ _ h)
  · rw [if_neg c20] at h
    refine V_ifne_f (tgt := 25) dX7_burden_20 (by decide) (b2i_f.mp c20) ?_
    refine V_lconst (v := 0) dX7_burden_23 rfl ?_
    cases h
    exact V_lret rfl dX7_burden_24
theorem VM_X7_burden (G : GX) (fu : Nat)  (hG : gt G = tbl) (a1 : Int32) (μ : Mem) (r : (Int64 × Mem)) (h : D_X7_burden_0 fu a1 μ = some r) : VM G mX7_burden [.ref 85, .int a1] μ (.inl (some (.long r.1))) (r.2) := V_entry ok_mX7_burden rfl rfl (Nat.le_of_ble_eq_true rfl) (T_X7_burden_0 G fu hG a1 μ r h)
def D_X7_rank_87 (fu : Nat)  (k27 : Int32 → Int32 → Mem → Option (Int32 × Mem)) (k38 : Int32 → Int32 → Int32 → Int32 → Mem → Option (Int32 × Mem)) (v1 : Int32) (v2 : Int32) (v4 : Int32) (s0 : Int32) (s1 : Int32) (μ : Mem) : Option (Int32 × Mem) :=
  k38 v1 v2 (s0 + s1) (v4 + 1) μ
set_option maxRecDepth 20000 in
theorem T_X7_rank_87 (G : GX) (fu : Nat)  (hG : gt G = tbl) (k27 : Int32 → Int32 → Mem → Option (Int32 × Mem)) (hk27 : ∀ (v1 : Int32) (v2 : Int32) (μ : Mem) (r : (Int32 × Mem)), k27 v1 v2 μ = some r → V G mX7_rank 27 [some (.ref 85), some (.int v1), some (.int v2), none, none] [] μ (.inl (some (.int r.1))) (r.2)) (k38 : Int32 → Int32 → Int32 → Int32 → Mem → Option (Int32 × Mem)) (hk38 : ∀ (v1 : Int32) (v2 : Int32) (v3 : Int32) (v4 : Int32) (μ : Mem) (r : (Int32 × Mem)), k38 v1 v2 v3 v4 μ = some r → V G mX7_rank 38 [some (.ref 85), some (.int v1), some (.int v2), some (.int v3), some (.int v4)] [] μ (.inl (some (.int r.1))) (r.2)) : ∀ (v1 : Int32) (v2 : Int32) (v4 : Int32) (s0 : Int32) (s1 : Int32) (μ : Mem) (r : (Int32 × Mem)) , D_X7_rank_87 fu k27 k38 v1 v2 v4 s0 s1 μ = some r → V G mX7_rank 87 [some (.ref 85), some (.int v1), some (.int v2), none, some (.int v4)] [.int s1, .int s0] μ (.inl (some (.int r.1))) (r.2) := by
  intro v1 v2 v4 s0 s1 μ r h
  unfold D_X7_rank_87 at h
  refine V_iadd dX7_rank_87 ?_
  refine V_istore_n (lv2 := [some (.ref 85), some (.int v1), some (.int v2), some (.int (s0 + s1)), some (.int v4)]) dX7_rank_88 (by decide) rfl ?_
  refine V_iinc (v := v4 + 1) (lv2 := [some (.ref 85), some (.int v1), some (.int v2), some (.int (s0 + s1)), some (.int (v4 + 1))]) dX7_rank_89 rfl rfl (by decide) rfl ?_
  refine V_goto (tgt := 38) dX7_rank_92 (by decide) ?_
  exact V_wk [true, true, true, true, true] rfl (hk38 _ _ _ _ _ _ h)
def D_X7_rank_82 (fu : Nat)  (k27 : Int32 → Int32 → Mem → Option (Int32 × Mem)) (k38 : Int32 → Int32 → Int32 → Int32 → Mem → Option (Int32 × Mem)) (v1 : Int32) (v2 : Int32) (v4 : Int32) (s0 : Int32) (μ : Mem) : Option (Int32 × Mem) :=
  D_X7_rank_87 fu k27 k38 v1 v2 v4 s0 1 μ
set_option maxRecDepth 20000 in
theorem T_X7_rank_82 (G : GX) (fu : Nat)  (hG : gt G = tbl) (k27 : Int32 → Int32 → Mem → Option (Int32 × Mem)) (hk27 : ∀ (v1 : Int32) (v2 : Int32) (μ : Mem) (r : (Int32 × Mem)), k27 v1 v2 μ = some r → V G mX7_rank 27 [some (.ref 85), some (.int v1), some (.int v2), none, none] [] μ (.inl (some (.int r.1))) (r.2)) (k38 : Int32 → Int32 → Int32 → Int32 → Mem → Option (Int32 × Mem)) (hk38 : ∀ (v1 : Int32) (v2 : Int32) (v3 : Int32) (v4 : Int32) (μ : Mem) (r : (Int32 × Mem)), k38 v1 v2 v3 v4 μ = some r → V G mX7_rank 38 [some (.ref 85), some (.int v1), some (.int v2), some (.int v3), some (.int v4)] [] μ (.inl (some (.int r.1))) (r.2)) : ∀ (v1 : Int32) (v2 : Int32) (v4 : Int32) (s0 : Int32) (μ : Mem) (r : (Int32 × Mem)) , D_X7_rank_82 fu k27 k38 v1 v2 v4 s0 μ = some r → V G mX7_rank 82 [some (.ref 85), some (.int v1), some (.int v2), none, some (.int v4)] [.int s0] μ (.inl (some (.int r.1))) (r.2) := by
  intro v1 v2 v4 s0 μ r h
  unfold D_X7_rank_82 at h
  refine V_iconst (v := 1) dX7_rank_82 rfl ?_
  refine V_goto (tgt := 87) dX7_rank_83 (by decide) ?_
  exact V_wk [true, true, true, false, true] rfl (T_X7_rank_87 G fu hG k27 hk27 k38 hk38 _ _ _ _ _ _ _ h)
def D_X7_rank_86 (fu : Nat)  (k27 : Int32 → Int32 → Mem → Option (Int32 × Mem)) (k38 : Int32 → Int32 → Int32 → Int32 → Mem → Option (Int32 × Mem)) (v1 : Int32) (v2 : Int32) (v4 : Int32) (s0 : Int32) (μ : Mem) : Option (Int32 × Mem) :=
  D_X7_rank_87 fu k27 k38 v1 v2 v4 s0 0 μ
set_option maxRecDepth 20000 in
theorem T_X7_rank_86 (G : GX) (fu : Nat)  (hG : gt G = tbl) (k27 : Int32 → Int32 → Mem → Option (Int32 × Mem)) (hk27 : ∀ (v1 : Int32) (v2 : Int32) (μ : Mem) (r : (Int32 × Mem)), k27 v1 v2 μ = some r → V G mX7_rank 27 [some (.ref 85), some (.int v1), some (.int v2), none, none] [] μ (.inl (some (.int r.1))) (r.2)) (k38 : Int32 → Int32 → Int32 → Int32 → Mem → Option (Int32 × Mem)) (hk38 : ∀ (v1 : Int32) (v2 : Int32) (v3 : Int32) (v4 : Int32) (μ : Mem) (r : (Int32 × Mem)), k38 v1 v2 v3 v4 μ = some r → V G mX7_rank 38 [some (.ref 85), some (.int v1), some (.int v2), some (.int v3), some (.int v4)] [] μ (.inl (some (.int r.1))) (r.2)) : ∀ (v1 : Int32) (v2 : Int32) (v4 : Int32) (s0 : Int32) (μ : Mem) (r : (Int32 × Mem)) , D_X7_rank_86 fu k27 k38 v1 v2 v4 s0 μ = some r → V G mX7_rank 86 [some (.ref 85), some (.int v1), some (.int v2), none, some (.int v4)] [.int s0] μ (.inl (some (.int r.1))) (r.2) := by
  intro v1 v2 v4 s0 μ r h
  unfold D_X7_rank_86 at h
  refine V_iconst (v := 0) dX7_rank_86 rfl ?_
  exact V_wk [true, true, true, false, true] rfl (T_X7_rank_87 G fu hG k27 hk27 k38 hk38 _ _ _ _ _ _ _ h)
def D_X7_rank_38 (fu : Nat)  (k27 : Int32 → Int32 → Mem → Option (Int32 × Mem)) : Nat → Int32 → Int32 → Int32 → Int32 → Mem → Option (Int32 × Mem)
  | 0, _, _, _, _, _ => none
  | n + 1, v1, v2, v3, v4, μ =>
    if (10 : Int32) ≤ v4 then
      if v3 = v1 then
        some (v2, μ)
      else
        k27 v1 (v2 + 1) μ
    else
      (D_X7_bearsAll_0 fu μ v4).bind fun x7 =>
      (D_X7_bearsAll_0 fu μ v2).bind fun x9 =>
      if x9 < x7 then
        D_X7_rank_82 fu k27 (D_X7_rank_38 fu k27 n) v1 v2 v4 v3 μ
      else
        (D_X7_bearsAll_0 fu μ v4).bind fun x11 =>
        (D_X7_bearsAll_0 fu μ v2).bind fun x13 =>
        if x11 = x13 then
          if v2 ≤ v4 then
            D_X7_rank_86 fu k27 (D_X7_rank_38 fu k27 n) v1 v2 v4 v3 μ
          else
            D_X7_rank_82 fu k27 (D_X7_rank_38 fu k27 n) v1 v2 v4 v3 μ
        else
          D_X7_rank_86 fu k27 (D_X7_rank_38 fu k27 n) v1 v2 v4 v3 μ
set_option maxRecDepth 20000 in
theorem T_X7_rank_38 (G : GX) (fu : Nat)  (hG : gt G = tbl) (k27 : Int32 → Int32 → Mem → Option (Int32 × Mem)) (hk27 : ∀ (v1 : Int32) (v2 : Int32) (μ : Mem) (r : (Int32 × Mem)), k27 v1 v2 μ = some r → V G mX7_rank 27 [some (.ref 85), some (.int v1), some (.int v2), none, none] [] μ (.inl (some (.int r.1))) (r.2)) : ∀ (n : Nat) (v1 : Int32) (v2 : Int32) (v3 : Int32) (v4 : Int32) (μ : Mem) (r : (Int32 × Mem)) , D_X7_rank_38 fu k27 n v1 v2 v3 v4 μ = some r → V G mX7_rank 38 [some (.ref 85), some (.int v1), some (.int v2), some (.int v3), some (.int v4)] [] μ (.inl (some (.int r.1))) (r.2) := by
  intro n
  induction n with
  | zero =>
    intro v1 v2 v3 v4 μ r h
    exact nomatch (show (none : Option (Int32 × Mem)) = some r from h)
  | succ n ih =>
    intro v1 v2 v3 v4 μ r h
    rw [D_X7_rank_38] at h
    refine V_iload dX7_rank_38 rfl ?_
    refine V_bipush (v := 10) dX7_rank_40 rfl ?_
    by_cases c42 : (10 : Int32) ≤ v4
    · rw [if_pos c42] at h
      refine V_icmpge_t (tgt := 95) dX7_rank_42 (by decide) c42 ?_
      refine V_iload_n dX7_rank_95 rfl ?_
      refine V_iload_n dX7_rank_96 rfl ?_
      by_cases c97 : v3 = v1
      · rw [if_pos c97] at h
        refine V_icmpne_f (tgt := 102) dX7_rank_97 (by decide) c97 ?_
        refine V_iload_n dX7_rank_100 rfl ?_
        cases h
        exact V_iret rfl dX7_rank_101
      · rw [if_neg c97] at h
        refine V_icmpne_t (tgt := 102) dX7_rank_97 (by decide) c97 ?_
        refine V_iinc (v := v2 + 1) (lv2 := [some (.ref 85), some (.int v1), some (.int (v2 + 1)), some (.int v3), some (.int v4)]) dX7_rank_102 rfl rfl (by decide) rfl ?_
        refine V_goto (tgt := 27) dX7_rank_105 (by decide) ?_
        exact V_wk [true, true, true, false, false] rfl (hk27 _ _ _ _ h)
    · rw [if_neg c42] at h
      refine V_icmpge_f (tgt := 95) dX7_rank_42 (by decide) c42 ?_
      refine V_iload_n dX7_rank_45 rfl ?_
      refine V_aload_n dX7_rank_46 rfl ?_
      refine V_iload dX7_rank_47 rfl ?_
      obtain ⟨x7, y8, h⟩ := bi_o h
      refine V_callV (as := [.int v4]) (q := 85) (rest := [.int v3]) dX7_rank_49 ov_mX7_bearsAll lk_RX7_437 (by decide) (by decide) rfl rfl (Nat.le_of_ble_eq_true rfl) (tq_85 hG) rfl (VM_X7_bearsAll G fu μ hG v4 _ y8) ?_
      refine V_aload_n dX7_rank_52 rfl ?_
      refine V_iload_n dX7_rank_53 rfl ?_
      obtain ⟨x9, y10, h⟩ := bi_o h
      refine V_callV (as := [.int v2]) (q := 85) (rest := [.long x7, .int v3]) dX7_rank_54 ov_mX7_bearsAll lk_RX7_437 (by decide) (by decide) rfl rfl (Nat.le_of_ble_eq_true rfl) (tq_85 hG) rfl (VM_X7_bearsAll G fu μ hG v2 _ y10) ?_
      refine V_lcmp dX7_rank_57 ?_
      by_cases c58 : x9 < x7
      · rw [if_pos c58] at h
        refine V_ifgt_t (tgt := 82) dX7_rank_58 (by decide) ((lc_gt x7 x9).mpr c58) ?_
        exact V_wk [true, true, true, false, true] rfl (T_X7_rank_82 G fu hG k27 hk27 (D_X7_rank_38 fu k27 n) ih _ _ _ _ _ _ h)
      · rw [if_neg c58] at h
        refine V_ifgt_f (tgt := 82) dX7_rank_58 (by decide) (fun z => c58 ((lc_gt x7 x9).mp z)) ?_
        refine V_aload_n dX7_rank_61 rfl ?_
        refine V_iload dX7_rank_62 rfl ?_
        obtain ⟨x11, y12, h⟩ := bi_o h
        refine V_callV (as := [.int v4]) (q := 85) (rest := [.int v3]) dX7_rank_64 ov_mX7_bearsAll lk_RX7_437 (by decide) (by decide) rfl rfl (Nat.le_of_ble_eq_true rfl) (tq_85 hG) rfl (VM_X7_bearsAll G fu μ hG v4 _ y12) ?_
        refine V_aload_n dX7_rank_67 rfl ?_
        refine V_iload_n dX7_rank_68 rfl ?_
        obtain ⟨x13, y14, h⟩ := bi_o h
        refine V_callV (as := [.int v2]) (q := 85) (rest := [.long x11, .int v3]) dX7_rank_69 ov_mX7_bearsAll lk_RX7_437 (by decide) (by decide) rfl rfl (Nat.le_of_ble_eq_true rfl) (tq_85 hG) rfl (VM_X7_bearsAll G fu μ hG v2 _ y14) ?_
        refine V_lcmp dX7_rank_72 ?_
        by_cases c73 : x11 = x13
        · rw [if_pos c73] at h
          refine V_ifne_f (tgt := 86) dX7_rank_73 (by decide) ((lc_eq x11 x13).mpr c73) ?_
          refine V_iload dX7_rank_76 rfl ?_
          refine V_iload_n dX7_rank_78 rfl ?_
          by_cases c79 : v2 ≤ v4
          · rw [if_pos c79] at h
            refine V_icmpge_t (tgt := 86) dX7_rank_79 (by decide) c79 ?_
            exact V_wk [true, true, true, false, true] rfl (T_X7_rank_86 G fu hG k27 hk27 (D_X7_rank_38 fu k27 n) ih _ _ _ _ _ _ h)
          · rw [if_neg c79] at h
            refine V_icmpge_f (tgt := 86) dX7_rank_79 (by decide) c79 ?_
            exact V_wk [true, true, true, false, true] rfl (T_X7_rank_82 G fu hG k27 hk27 (D_X7_rank_38 fu k27 n) ih _ _ _ _ _ _ h)
        · rw [if_neg c73] at h
          refine V_ifne_t (tgt := 86) dX7_rank_73 (by decide) (fun z => c73 ((lc_eq x11 x13).mp z)) ?_
          exact V_wk [true, true, true, false, true] rfl (T_X7_rank_86 G fu hG k27 hk27 (D_X7_rank_38 fu k27 n) ih _ _ _ _ _ _ h)
def D_X7_rank_27 (fu : Nat)  : Nat → Int32 → Int32 → Mem → Option (Int32 × Mem)
  | 0, _, _, _ => none
  | n + 1, v1, v2, μ =>
    if (10 : Int32) ≤ v2 then
      some ((-1), μ)
    else
      D_X7_rank_38 fu (D_X7_rank_27 fu n) fu v1 v2 0 0 μ
set_option maxRecDepth 20000 in
theorem T_X7_rank_27 (G : GX) (fu : Nat)  (hG : gt G = tbl) : ∀ (n : Nat) (v1 : Int32) (v2 : Int32) (μ : Mem) (r : (Int32 × Mem)) , D_X7_rank_27 fu n v1 v2 μ = some r → V G mX7_rank 27 [some (.ref 85), some (.int v1), some (.int v2), none, none] [] μ (.inl (some (.int r.1))) (r.2) := by
  intro n
  induction n with
  | zero =>
    intro v1 v2 μ r h
    exact nomatch (show (none : Option (Int32 × Mem)) = some r from h)
  | succ n ih =>
    intro v1 v2 μ r h
    rw [D_X7_rank_27] at h
    refine V_iload_n dX7_rank_27 rfl ?_
    refine V_bipush (v := 10) dX7_rank_28 rfl ?_
    by_cases c30 : (10 : Int32) ≤ v2
    · rw [if_pos c30] at h
      refine V_icmpge_t (tgt := 108) dX7_rank_30 (by decide) c30 ?_
      refine V_iconst (v := (-1)) dX7_rank_108 rfl ?_
      cases h
      exact V_iret rfl dX7_rank_109
    · rw [if_neg c30] at h
      refine V_icmpge_f (tgt := 108) dX7_rank_30 (by decide) c30 ?_
      refine V_iconst (v := 0) dX7_rank_33 rfl ?_
      refine V_istore_n (lv2 := [some (.ref 85), some (.int v1), some (.int v2), some (.int 0), none]) dX7_rank_34 (by decide) rfl ?_
      refine V_iconst (v := 0) dX7_rank_35 rfl ?_
      refine V_istore (lv2 := [some (.ref 85), some (.int v1), some (.int v2), some (.int 0), some (.int 0)]) dX7_rank_36 (by decide) rfl ?_
      exact V_wk [true, true, true, true, true] rfl (T_X7_rank_38 G fu hG (D_X7_rank_27 fu n) ih fu _ _ _ _ _ _ h)
def D_X7_rank_0 (fu : Nat)  (a1 : Int32) (μ : Mem) : Option (Int32 × Mem) :=
  vl (wI μ 85 0 0) fun m1 =>
  (D_X7_within_0 m1 ((a1 : Int32).toInt64) 0 9).bind fun x3 =>
  (D_X7_needs_0 (b2i x3) 1 1 m1).bind fun x5 =>
  if x5.1 = true then
    D_X7_rank_27 fu fu a1 0 x5.2
  else
    some (0, x5.2)
set_option maxRecDepth 20000 in
theorem T_X7_rank_0 (G : GX) (fu : Nat)  (hG : gt G = tbl) : ∀ (a1 : Int32) (μ : Mem) (r : (Int32 × Mem)) , D_X7_rank_0 fu a1 μ = some r → V G mX7_rank 0 [some (.ref 85), some (.int a1), none, none, none] [] μ (.inl (some (.int r.1))) (r.2) := by
  intro a1 μ r h
  unfold D_X7_rank_0 at h
  refine V_aload_n dX7_rank_0 rfl ?_
  refine V_iconst (v := 0) dX7_rank_1 rfl ?_
  obtain ⟨m1, e2, h⟩ := vl_o h
  refine V_putI (kf := 0) k_X7 (by decide) lk_RX7_1 rfl rfl (by decide +kernel) dX7_rank_2 (tq_85 hG) rfl e2.symm ?_
  refine V_aload_n dX7_rank_5 rfl ?_
  refine V_iload_n dX7_rank_6 rfl ?_
  refine V_i2l dX7_rank_7 ?_
  refine V_lconst (v := 0) dX7_rank_8 rfl ?_
  refine V_ldc2 (v := 9) dX7_rank_9 lk_RX7_377 ?_
  obtain ⟨x3, y4, h⟩ := bi_o h
  refine V_callS (as := [.long ((a1 : Int32).toInt64), .long 0, .long 9]) (rest := [.ref 85]) dX7_rank_12 os_mX7_within rfl lk_RX7_352 (by decide) (by decide) rfl rfl (Nat.le_of_ble_eq_true rfl) (VM_X7_within G m1 hG ((a1 : Int32).toInt64) 0 9 _ y4) ?_
  refine V_iconst (v := 1) dX7_rank_15 rfl ?_
  refine V_iconst (v := 1) dX7_rank_16 rfl ?_
  obtain ⟨x5, y6, h⟩ := bi_o h
  refine V_callV (as := [.int (b2i x3), .int 1, .int 1]) (q := 85) (rest := []) dX7_rank_17 ov_mX7_needs lk_RX7_346 (by decide) (by decide) rfl rfl (Nat.le_of_ble_eq_true rfl) (tq_85 hG) rfl (VM_X7_needs G hG (b2i x3) 1 1 m1 _ y6) ?_
  by_cases c20 : x5.1 = true
  · rw [if_pos c20] at h
    refine V_ifne_t (tgt := 25) dX7_rank_20 (by decide) (b2i_t.mp c20) ?_
    refine V_iconst (v := 0) dX7_rank_25 rfl ?_
    refine V_istore_n (lv2 := [some (.ref 85), some (.int a1), some (.int 0), none, none]) dX7_rank_26 (by decide) rfl ?_
    exact V_wk [true, true, true, false, false] rfl (T_X7_rank_27 G fu hG fu _ _ _ _ h)
  · rw [if_neg c20] at h
    refine V_ifne_f (tgt := 25) dX7_rank_20 (by decide) (b2i_f.mp c20) ?_
    refine V_iconst (v := 0) dX7_rank_23 rfl ?_
    cases h
    exact V_iret rfl dX7_rank_24
theorem VM_X7_rank (G : GX) (fu : Nat)  (hG : gt G = tbl) (a1 : Int32) (μ : Mem) (r : (Int32 × Mem)) (h : D_X7_rank_0 fu a1 μ = some r) : VM G mX7_rank [.ref 85, .int a1] μ (.inl (some (.int r.1))) (r.2) := V_entry ok_mX7_rank rfl rfl (Nat.le_of_ble_eq_true rfl) (T_X7_rank_0 G fu hG a1 μ r h)
def D_X7_offs_33 (fu : Nat)  (v1 : Int32) (v2 : Int32) (v3 : Int32) (v4 : Int32) (s1 : Int32) (μ : Mem) : Option (Int32 × Mem) :=
  (D_X7_needs_0 s1 1 1 μ).bind fun x7 =>
  if x7.1 = true then
    (D_X7_offsBy_0 fu x7.2 v1 v2 v3 v4).bind fun x9 =>
    some (x9, x7.2)
  else
    some (0, x7.2)
set_option maxRecDepth 20000 in
theorem T_X7_offs_33 (G : GX) (fu : Nat)  (hG : gt G = tbl) : ∀ (v1 : Int32) (v2 : Int32) (v3 : Int32) (v4 : Int32) (s1 : Int32) (μ : Mem) (r : (Int32 × Mem)) , D_X7_offs_33 fu v1 v2 v3 v4 s1 μ = some r → V G mX7_offs 33 [some (.ref 85), some (.int v1), some (.int v2), some (.int v3), some (.int v4)] [.int s1, .ref 85] μ (.inl (some (.int r.1))) (r.2) := by
  intro v1 v2 v3 v4 s1 μ r h
  unfold D_X7_offs_33 at h
  refine V_iconst (v := 1) dX7_offs_33 rfl ?_
  refine V_iconst (v := 1) dX7_offs_34 rfl ?_
  obtain ⟨x7, y8, h⟩ := bi_o h
  refine V_callV (as := [.int s1, .int 1, .int 1]) (q := 85) (rest := []) dX7_offs_35 ov_mX7_needs lk_RX7_346 (by decide) (by decide) rfl rfl (Nat.le_of_ble_eq_true rfl) (tq_85 hG) rfl (VM_X7_needs G hG s1 1 1 μ _ y8) ?_
  by_cases c38 : x7.1 = true
  · rw [if_pos c38] at h
    refine V_ifeq_f (tgt := 53) dX7_offs_38 (by decide) (b2i_t.mp c38) ?_
    refine V_aload_n dX7_offs_41 rfl ?_
    refine V_iload_n dX7_offs_42 rfl ?_
    refine V_iload_n dX7_offs_43 rfl ?_
    refine V_iload_n dX7_offs_44 rfl ?_
    refine V_iload dX7_offs_45 rfl ?_
    obtain ⟨x9, y10, h⟩ := bi_o h
    refine V_callV (as := [.int v1, .int v2, .int v3, .int v4]) (q := 85) (rest := []) dX7_offs_47 ov_mX7_offsBy lk_RX7_190 (by decide) (by decide) rfl rfl (Nat.le_of_ble_eq_true rfl) (tq_85 hG) rfl (VM_X7_offsBy G fu x7.2 hG v1 v2 v3 v4 _ y10) ?_
    refine V_goto (tgt := 54) dX7_offs_50 (by decide) ?_
    cases h
    exact V_iret rfl dX7_offs_54
  · rw [if_neg c38] at h
    refine V_ifeq_t (tgt := 53) dX7_offs_38 (by decide) (b2i_f.mp c38) ?_
    refine V_iconst (v := 0) dX7_offs_53 rfl ?_
    cases h
    exact V_iret rfl dX7_offs_54
def D_X7_offs_32 (fu : Nat)  (v1 : Int32) (v2 : Int32) (v3 : Int32) (v4 : Int32) (μ : Mem) : Option (Int32 × Mem) :=
  D_X7_offs_33 fu v1 v2 v3 v4 0 μ
set_option maxRecDepth 20000 in
theorem T_X7_offs_32 (G : GX) (fu : Nat)  (hG : gt G = tbl) : ∀ (v1 : Int32) (v2 : Int32) (v3 : Int32) (v4 : Int32) (μ : Mem) (r : (Int32 × Mem)) , D_X7_offs_32 fu v1 v2 v3 v4 μ = some r → V G mX7_offs 32 [some (.ref 85), some (.int v1), some (.int v2), some (.int v3), some (.int v4)] [.ref 85] μ (.inl (some (.int r.1))) (r.2) := by
  intro v1 v2 v3 v4 μ r h
  unfold D_X7_offs_32 at h
  refine V_iconst (v := 0) dX7_offs_32 rfl ?_
  exact V_wk [true, true, true, true, true] rfl (T_X7_offs_33 G fu hG _ _ _ _ _ _ _ h)
def D_X7_offs_0 (fu : Nat)  (a1 : Int32) (a2 : Int32) (a3 : Int32) (a4 : Int32) (μ : Mem) : Option (Int32 × Mem) :=
  vl (wI μ 85 0 0) fun m1 =>
  (D_X7_areYears_0 m1 a1 a2 a3).bind fun x3 =>
  if x3 = true then
    (D_X7_within_0 m1 ((a4 : Int32).toInt64) 0 3).bind fun x5 =>
    if x5 = true then
      D_X7_offs_33 fu a1 a2 a3 a4 1 m1
    else
      D_X7_offs_32 fu a1 a2 a3 a4 m1
  else
    D_X7_offs_32 fu a1 a2 a3 a4 m1
set_option maxRecDepth 20000 in
theorem T_X7_offs_0 (G : GX) (fu : Nat)  (hG : gt G = tbl) : ∀ (a1 : Int32) (a2 : Int32) (a3 : Int32) (a4 : Int32) (μ : Mem) (r : (Int32 × Mem)) , D_X7_offs_0 fu a1 a2 a3 a4 μ = some r → V G mX7_offs 0 [some (.ref 85), some (.int a1), some (.int a2), some (.int a3), some (.int a4)] [] μ (.inl (some (.int r.1))) (r.2) := by
  intro a1 a2 a3 a4 μ r h
  unfold D_X7_offs_0 at h
  refine V_aload_n dX7_offs_0 rfl ?_
  refine V_iconst (v := 0) dX7_offs_1 rfl ?_
  obtain ⟨m1, e2, h⟩ := vl_o h
  refine V_putI (kf := 0) k_X7 (by decide) lk_RX7_1 rfl rfl (by decide +kernel) dX7_offs_2 (tq_85 hG) rfl e2.symm ?_
  refine V_aload_n dX7_offs_5 rfl ?_
  refine V_iload_n dX7_offs_6 rfl ?_
  refine V_iload_n dX7_offs_7 rfl ?_
  refine V_iload_n dX7_offs_8 rfl ?_
  obtain ⟨x3, y4, h⟩ := bi_o h
  refine V_callS (as := [.int a1, .int a2, .int a3]) (rest := [.ref 85]) dX7_offs_9 os_mX7_areYears rfl lk_RX7_389 (by decide) (by decide) rfl rfl (Nat.le_of_ble_eq_true rfl) (VM_X7_areYears G m1 hG a1 a2 a3 _ y4) ?_
  by_cases c12 : x3 = true
  · rw [if_pos c12] at h
    refine V_ifeq_f (tgt := 32) dX7_offs_12 (by decide) (b2i_t.mp c12) ?_
    refine V_iload dX7_offs_15 rfl ?_
    refine V_i2l dX7_offs_17 ?_
    refine V_lconst (v := 0) dX7_offs_18 rfl ?_
    refine V_ldc2 (v := 3) dX7_offs_19 lk_RX7_382 ?_
    obtain ⟨x5, y6, h⟩ := bi_o h
    refine V_callS (as := [.long ((a4 : Int32).toInt64), .long 0, .long 3]) (rest := [.ref 85]) dX7_offs_22 os_mX7_within rfl lk_RX7_352 (by decide) (by decide) rfl rfl (Nat.le_of_ble_eq_true rfl) (VM_X7_within G m1 hG ((a4 : Int32).toInt64) 0 3 _ y6) ?_
    by_cases c25 : x5 = true
    · rw [if_pos c25] at h
      refine V_ifeq_f (tgt := 32) dX7_offs_25 (by decide) (b2i_t.mp c25) ?_
      refine V_iconst (v := 1) dX7_offs_28 rfl ?_
      refine V_goto (tgt := 33) dX7_offs_29 (by decide) ?_
      exact V_wk [true, true, true, true, true] rfl (T_X7_offs_33 G fu hG _ _ _ _ _ _ _ h)
    · rw [if_neg c25] at h
      refine V_ifeq_t (tgt := 32) dX7_offs_25 (by decide) (b2i_f.mp c25) ?_
      exact V_wk [true, true, true, true, true] rfl (T_X7_offs_32 G fu hG _ _ _ _ _ _ h)
  · rw [if_neg c12] at h
    refine V_ifeq_t (tgt := 32) dX7_offs_12 (by decide) (b2i_f.mp c12) ?_
    exact V_wk [true, true, true, true, true] rfl (T_X7_offs_32 G fu hG _ _ _ _ _ _ h)
theorem VM_X7_offs (G : GX) (fu : Nat)  (hG : gt G = tbl) (a1 : Int32) (a2 : Int32) (a3 : Int32) (a4 : Int32) (μ : Mem) (r : (Int32 × Mem)) (h : D_X7_offs_0 fu a1 a2 a3 a4 μ = some r) : VM G mX7_offs [.ref 85, .int a1, .int a2, .int a3, .int a4] μ (.inl (some (.int r.1))) (r.2) := V_entry ok_mX7_offs rfl rfl (Nat.le_of_ble_eq_true rfl) (T_X7_offs_0 G fu hG a1 a2 a3 a4 μ r h)
def D_X7_thinks_0 (fu : Nat)  (a1 : Int32) (a2 : Int32) (a3 : Int32) (μ : Mem) : Option Mem :=
  gu (ib 24 25) <|
  vl (wI μ 100 (Int32.toNatClampNeg 24) a1) fun m2 =>
  gu (ib 24 25) <|
  vl (wI m2 101 (Int32.toNatClampNeg 24) a2) fun m5 =>
  gu (ib 24 25) <|
  vl (wI m5 102 (Int32.toNatClampNeg 24) a3) fun m8 =>
  (D_X7_clearsHarm_0 fu 24 m8).bind fun x10 =>
  some x10
set_option maxRecDepth 20000 in
theorem T_X7_thinks_0 (G : GX) (fu : Nat)  (hG : gt G = tbl) : ∀ (a1 : Int32) (a2 : Int32) (a3 : Int32) (μ : Mem) (r : Mem) , D_X7_thinks_0 fu a1 a2 a3 μ = some r → V G mX7_thinks 0 [some (.ref 85), some (.int a1), some (.int a2), some (.int a3)] [] μ (.inl none) (r) := by
  intro a1 a2 a3 μ r h
  unfold D_X7_thinks_0 at h
  refine V_aload_n dX7_thinks_0 rfl ?_
  refine V_getR (kf := 16) k_X7 (by decide) lk_RX7_61 rfl dX7_thinks_1 (tq_85 hG) rfl ?_
  refine V_bipush (v := 24) dX7_thinks_4 rfl ?_
  refine V_iload_n dX7_thinks_6 rfl ?_
  obtain ⟨g1, h⟩ := gu_o h
  obtain ⟨m2, e3, h⟩ := vl_o h
  refine V_iastore (μ2 := m2) dX7_thinks_7 (tq_100 hG) (ib_in g1) e3.symm ?_
  refine V_aload_n dX7_thinks_8 rfl ?_
  refine V_getR (kf := 17) k_X7 (by decide) lk_RX7_64 rfl dX7_thinks_9 (tq_85 hG) rfl ?_
  refine V_bipush (v := 24) dX7_thinks_12 rfl ?_
  refine V_iload_n dX7_thinks_14 rfl ?_
  obtain ⟨g4, h⟩ := gu_o h
  obtain ⟨m5, e6, h⟩ := vl_o h
  refine V_iastore (μ2 := m5) dX7_thinks_15 (tq_101 hG) (ib_in g4) e6.symm ?_
  refine V_aload_n dX7_thinks_16 rfl ?_
  refine V_getR (kf := 18) k_X7 (by decide) lk_RX7_67 rfl dX7_thinks_17 (tq_85 hG) rfl ?_
  refine V_bipush (v := 24) dX7_thinks_20 rfl ?_
  refine V_iload_n dX7_thinks_22 rfl ?_
  obtain ⟨g7, h⟩ := gu_o h
  obtain ⟨m8, e9, h⟩ := vl_o h
  refine V_iastore (μ2 := m8) dX7_thinks_23 (tq_102 hG) (ib_in g7) e9.symm ?_
  refine V_aload_n dX7_thinks_24 rfl ?_
  refine V_bipush (v := 24) dX7_thinks_25 rfl ?_
  obtain ⟨x10, y11, h⟩ := bi_o h
  refine V_callV (as := [.int 24]) (q := 85) (rest := []) dX7_thinks_27 ov_mX7_clearsHarm lk_RX7_145 (by decide) (by decide) rfl rfl (Nat.le_of_ble_eq_true rfl) (tq_85 hG) rfl (VM_X7_clearsHarm G fu hG 24 m8 _ y11) ?_
  cases h
  exact V_vret rfl dX7_thinks_30
theorem VM_X7_thinks (G : GX) (fu : Nat)  (hG : gt G = tbl) (a1 : Int32) (a2 : Int32) (a3 : Int32) (μ : Mem) (r : Mem) (h : D_X7_thinks_0 fu a1 a2 a3 μ = some r) : VM G mX7_thinks [.ref 85, .int a1, .int a2, .int a3] μ (.inl none) (r) := V_entry ok_mX7_thinks rfl rfl (Nat.le_of_ble_eq_true rfl) (T_X7_thinks_0 G fu hG a1 a2 a3 μ r h)
def D_X7_thinksOf_0 (fu : Nat)  (a1 : Int32) (a2 : Int32) (a3 : Int32) (a4 : Int32) (μ : Mem) : Option Mem :=
  (D_X7_thinks_0 fu a1 a2 a3 μ).bind fun x1 =>
  (D_X7_spreads_0 fu 24 ((a4 : Int32).toInt64) x1).bind fun x3 =>
  some x3
set_option maxRecDepth 20000 in
theorem T_X7_thinksOf_0 (G : GX) (fu : Nat)  (hG : gt G = tbl) : ∀ (a1 : Int32) (a2 : Int32) (a3 : Int32) (a4 : Int32) (μ : Mem) (r : Mem) , D_X7_thinksOf_0 fu a1 a2 a3 a4 μ = some r → V G mX7_thinksOf 0 [some (.ref 85), some (.int a1), some (.int a2), some (.int a3), some (.int a4)] [] μ (.inl none) (r) := by
  intro a1 a2 a3 a4 μ r h
  unfold D_X7_thinksOf_0 at h
  refine V_aload_n dX7_thinksOf_0 rfl ?_
  refine V_iload_n dX7_thinksOf_1 rfl ?_
  refine V_iload_n dX7_thinksOf_2 rfl ?_
  refine V_iload_n dX7_thinksOf_3 rfl ?_
  obtain ⟨x1, y2, h⟩ := bi_o h
  refine V_callV (as := [.int a1, .int a2, .int a3]) (q := 85) (rest := []) dX7_thinksOf_4 ov_mX7_thinks lk_RX7_446 (by decide) (by decide) rfl rfl (Nat.le_of_ble_eq_true rfl) (tq_85 hG) rfl (VM_X7_thinks G fu hG a1 a2 a3 μ _ y2) ?_
  refine V_aload_n dX7_thinksOf_7 rfl ?_
  refine V_bipush (v := 24) dX7_thinksOf_8 rfl ?_
  refine V_iload dX7_thinksOf_10 rfl ?_
  refine V_i2l dX7_thinksOf_12 ?_
  obtain ⟨x3, y4, h⟩ := bi_o h
  refine V_callV (as := [.int 24, .long ((a4 : Int32).toInt64)]) (q := 85) (rest := []) dX7_thinksOf_13 ov_mX7_spreads lk_RX7_325 (by decide) (by decide) rfl rfl (Nat.le_of_ble_eq_true rfl) (tq_85 hG) rfl (VM_X7_spreads G fu hG 24 ((a4 : Int32).toInt64) x1 _ y4) ?_
  cases h
  exact V_vret rfl dX7_thinksOf_16
theorem VM_X7_thinksOf (G : GX) (fu : Nat)  (hG : gt G = tbl) (a1 : Int32) (a2 : Int32) (a3 : Int32) (a4 : Int32) (μ : Mem) (r : Mem) (h : D_X7_thinksOf_0 fu a1 a2 a3 a4 μ = some r) : VM G mX7_thinksOf [.ref 85, .int a1, .int a2, .int a3, .int a4] μ (.inl none) (r) := V_entry ok_mX7_thinksOf rfl rfl (Nat.le_of_ble_eq_true rfl) (T_X7_thinksOf_0 G fu hG a1 a2 a3 a4 μ r h)
def D_X7_would_41 (fu : Nat)  (v1 : Int32) (v2 : Int32) (v3 : Int32) (v4 : Int32) (v5 : Int32) (s1 : Int32) (μ : Mem) : Option (Int64 × Mem) :=
  (D_X7_needs_0 s1 1 1 μ).bind fun x9 =>
  if x9.1 = true then
    (D_X7_thinksOf_0 fu v1 v2 v3 v4 x9.2).bind fun x11 =>
    (D_X7_bearsOf_0 fu x11 24 v5).bind fun x13 =>
    (D_X7_goesOver_0 fu x11).bind fun x15 =>
    some (x13, x15)
  else
    some (0, x9.2)
set_option maxRecDepth 20000 in
theorem T_X7_would_41 (G : GX) (fu : Nat)  (hG : gt G = tbl) : ∀ (v1 : Int32) (v2 : Int32) (v3 : Int32) (v4 : Int32) (v5 : Int32) (s1 : Int32) (μ : Mem) (r : (Int64 × Mem)) , D_X7_would_41 fu v1 v2 v3 v4 v5 s1 μ = some r → V G mX7_would 41 [some (.ref 85), some (.int v1), some (.int v2), some (.int v3), some (.int v4), some (.int v5), none, none] [.int s1, .ref 85] μ (.inl (some (.long r.1))) (r.2) := by
  intro v1 v2 v3 v4 v5 s1 μ r h
  unfold D_X7_would_41 at h
  refine V_iconst (v := 1) dX7_would_41 rfl ?_
  refine V_iconst (v := 1) dX7_would_42 rfl ?_
  obtain ⟨x9, y10, h⟩ := bi_o h
  refine V_callV (as := [.int s1, .int 1, .int 1]) (q := 85) (rest := []) dX7_would_43 ov_mX7_needs lk_RX7_346 (by decide) (by decide) rfl rfl (Nat.le_of_ble_eq_true rfl) (tq_85 hG) rfl (VM_X7_needs G hG s1 1 1 μ _ y10) ?_
  by_cases c46 : x9.1 = true
  · rw [if_pos c46] at h
    refine V_ifne_t (tgt := 51) dX7_would_46 (by decide) (b2i_t.mp c46) ?_
    refine V_aload_n dX7_would_51 rfl ?_
    refine V_iload_n dX7_would_52 rfl ?_
    refine V_iload_n dX7_would_53 rfl ?_
    refine V_iload_n dX7_would_54 rfl ?_
    refine V_iload dX7_would_55 rfl ?_
    obtain ⟨x11, y12, h⟩ := bi_o h
    refine V_callV (as := [.int v1, .int v2, .int v3, .int v4]) (q := 85) (rest := []) dX7_would_57 ov_mX7_thinksOf lk_RX7_449 (by decide) (by decide) rfl rfl (Nat.le_of_ble_eq_true rfl) (tq_85 hG) rfl (VM_X7_thinksOf G fu hG v1 v2 v3 v4 x9.2 _ y12) ?_
    refine V_aload_n dX7_would_60 rfl ?_
    refine V_bipush (v := 24) dX7_would_61 rfl ?_
    refine V_iload dX7_would_63 rfl ?_
    obtain ⟨x13, y14, h⟩ := bi_o h
    refine V_callV (as := [.int 24, .int v5]) (q := 85) (rest := []) dX7_would_65 ov_mX7_bearsOf lk_RX7_280 (by decide) (by decide) rfl rfl (Nat.le_of_ble_eq_true rfl) (tq_85 hG) rfl (VM_X7_bearsOf G fu x11 hG 24 v5 _ y14) ?_
    refine V_lstore (lv2 := [some (.ref 85), some (.int v1), some (.int v2), some (.int v3), some (.int v4), some (.int v5), some (.long x13), none]) dX7_would_68 (by decide) rfl ?_
    refine V_aload_n dX7_would_70 rfl ?_
    obtain ⟨x15, y16, h⟩ := bi_o h
    refine V_callV (as := []) (q := 85) (rest := []) dX7_would_71 ov_mX7_goesOver lk_RX7_403 (by decide) (by decide) rfl rfl (Nat.le_of_ble_eq_true rfl) (tq_85 hG) rfl (VM_X7_goesOver G fu hG x11 _ y16) ?_
    refine V_lload dX7_would_74 rfl ?_
    cases h
    exact V_lret rfl dX7_would_76
  · rw [if_neg c46] at h
    refine V_ifne_f (tgt := 51) dX7_would_46 (by decide) (b2i_f.mp c46) ?_
    refine V_lconst (v := 0) dX7_would_49 rfl ?_
    cases h
    exact V_lret rfl dX7_would_50
def D_X7_would_40 (fu : Nat)  (v1 : Int32) (v2 : Int32) (v3 : Int32) (v4 : Int32) (v5 : Int32) (μ : Mem) : Option (Int64 × Mem) :=
  D_X7_would_41 fu v1 v2 v3 v4 v5 0 μ
set_option maxRecDepth 20000 in
theorem T_X7_would_40 (G : GX) (fu : Nat)  (hG : gt G = tbl) : ∀ (v1 : Int32) (v2 : Int32) (v3 : Int32) (v4 : Int32) (v5 : Int32) (μ : Mem) (r : (Int64 × Mem)) , D_X7_would_40 fu v1 v2 v3 v4 v5 μ = some r → V G mX7_would 40 [some (.ref 85), some (.int v1), some (.int v2), some (.int v3), some (.int v4), some (.int v5), none, none] [.ref 85] μ (.inl (some (.long r.1))) (r.2) := by
  intro v1 v2 v3 v4 v5 μ r h
  unfold D_X7_would_40 at h
  refine V_iconst (v := 0) dX7_would_40 rfl ?_
  exact V_wk [true, true, true, true, true, true, false, false] rfl (T_X7_would_41 G fu hG _ _ _ _ _ _ _ _ h)
def D_X7_would_0 (fu : Nat)  (a1 : Int32) (a2 : Int32) (a3 : Int32) (a4 : Int32) (a5 : Int32) (μ : Mem) : Option (Int64 × Mem) :=
  vl (wI μ 85 0 0) fun m1 =>
  (D_X7_areYears_0 m1 a1 a2 a3).bind fun x3 =>
  if x3 = true then
    (D_X7_isLoss_0 m1 a4).bind fun x5 =>
    if x5 = true then
      (D_X7_within_0 m1 ((a5 : Int32).toInt64) 0 9).bind fun x7 =>
      if x7 = true then
        D_X7_would_41 fu a1 a2 a3 a4 a5 1 m1
      else
        D_X7_would_40 fu a1 a2 a3 a4 a5 m1
    else
      D_X7_would_40 fu a1 a2 a3 a4 a5 m1
  else
    D_X7_would_40 fu a1 a2 a3 a4 a5 m1
set_option maxRecDepth 20000 in
theorem T_X7_would_0 (G : GX) (fu : Nat)  (hG : gt G = tbl) : ∀ (a1 : Int32) (a2 : Int32) (a3 : Int32) (a4 : Int32) (a5 : Int32) (μ : Mem) (r : (Int64 × Mem)) , D_X7_would_0 fu a1 a2 a3 a4 a5 μ = some r → V G mX7_would 0 [some (.ref 85), some (.int a1), some (.int a2), some (.int a3), some (.int a4), some (.int a5), none, none] [] μ (.inl (some (.long r.1))) (r.2) := by
  intro a1 a2 a3 a4 a5 μ r h
  unfold D_X7_would_0 at h
  refine V_aload_n dX7_would_0 rfl ?_
  refine V_iconst (v := 0) dX7_would_1 rfl ?_
  obtain ⟨m1, e2, h⟩ := vl_o h
  refine V_putI (kf := 0) k_X7 (by decide) lk_RX7_1 rfl rfl (by decide +kernel) dX7_would_2 (tq_85 hG) rfl e2.symm ?_
  refine V_aload_n dX7_would_5 rfl ?_
  refine V_iload_n dX7_would_6 rfl ?_
  refine V_iload_n dX7_would_7 rfl ?_
  refine V_iload_n dX7_would_8 rfl ?_
  obtain ⟨x3, y4, h⟩ := bi_o h
  refine V_callS (as := [.int a1, .int a2, .int a3]) (rest := [.ref 85]) dX7_would_9 os_mX7_areYears rfl lk_RX7_389 (by decide) (by decide) rfl rfl (Nat.le_of_ble_eq_true rfl) (VM_X7_areYears G m1 hG a1 a2 a3 _ y4) ?_
  by_cases c12 : x3 = true
  · rw [if_pos c12] at h
    refine V_ifeq_f (tgt := 40) dX7_would_12 (by decide) (b2i_t.mp c12) ?_
    refine V_iload dX7_would_15 rfl ?_
    obtain ⟨x5, y6, h⟩ := bi_o h
    refine V_callS (as := [.int a4]) (rest := [.ref 85]) dX7_would_17 os_mX7_isLoss rfl lk_RX7_392 (by decide) (by decide) rfl rfl (Nat.le_of_ble_eq_true rfl) (VM_X7_isLoss G m1 hG a4 _ y6) ?_
    by_cases c20 : x5 = true
    · rw [if_pos c20] at h
      refine V_ifeq_f (tgt := 40) dX7_would_20 (by decide) (b2i_t.mp c20) ?_
      refine V_iload dX7_would_23 rfl ?_
      refine V_i2l dX7_would_25 ?_
      refine V_lconst (v := 0) dX7_would_26 rfl ?_
      refine V_ldc2 (v := 9) dX7_would_27 lk_RX7_377 ?_
      obtain ⟨x7, y8, h⟩ := bi_o h
      refine V_callS (as := [.long ((a5 : Int32).toInt64), .long 0, .long 9]) (rest := [.ref 85]) dX7_would_30 os_mX7_within rfl lk_RX7_352 (by decide) (by decide) rfl rfl (Nat.le_of_ble_eq_true rfl) (VM_X7_within G m1 hG ((a5 : Int32).toInt64) 0 9 _ y8) ?_
      by_cases c33 : x7 = true
      · rw [if_pos c33] at h
        refine V_ifeq_f (tgt := 40) dX7_would_33 (by decide) (b2i_t.mp c33) ?_
        refine V_iconst (v := 1) dX7_would_36 rfl ?_
        refine V_goto (tgt := 41) dX7_would_37 (by decide) ?_
        exact V_wk [true, true, true, true, true, true, false, false] rfl (T_X7_would_41 G fu hG _ _ _ _ _ _ _ _ h)
      · rw [if_neg c33] at h
        refine V_ifeq_t (tgt := 40) dX7_would_33 (by decide) (b2i_f.mp c33) ?_
        exact V_wk [true, true, true, true, true, true, false, false] rfl (T_X7_would_40 G fu hG _ _ _ _ _ _ _ h)
    · rw [if_neg c20] at h
      refine V_ifeq_t (tgt := 40) dX7_would_20 (by decide) (b2i_f.mp c20) ?_
      exact V_wk [true, true, true, true, true, true, false, false] rfl (T_X7_would_40 G fu hG _ _ _ _ _ _ _ h)
  · rw [if_neg c12] at h
    refine V_ifeq_t (tgt := 40) dX7_would_12 (by decide) (b2i_f.mp c12) ?_
    exact V_wk [true, true, true, true, true, true, false, false] rfl (T_X7_would_40 G fu hG _ _ _ _ _ _ _ h)
theorem VM_X7_would (G : GX) (fu : Nat)  (hG : gt G = tbl) (a1 : Int32) (a2 : Int32) (a3 : Int32) (a4 : Int32) (a5 : Int32) (μ : Mem) (r : (Int64 × Mem)) (h : D_X7_would_0 fu a1 a2 a3 a4 a5 μ = some r) : VM G mX7_would [.ref 85, .int a1, .int a2, .int a3, .int a4, .int a5] μ (.inl (some (.long r.1))) (r.2) := V_entry ok_mX7_would rfl rfl (Nat.le_of_ble_eq_true rfl) (T_X7_would_0 G fu hG a1 a2 a3 a4 a5 μ r h)
def D_X7_takes_38 (fu : Nat)  (v1 : Int32) (v2 : Int32) (v3 : Int32) (v4 : Int32) (v5 : Int32) (s1 : Int32) (μ : Mem) : Option (Int64 × Mem) :=
  (D_X7_needs_0 s1 2 1 μ).bind fun x9 =>
  if x9.1 = true then
    (D_X7_thinksOf_0 fu v1 v2 v3 v4 x9.2).bind fun x11 =>
    gu (ib (960 + v5) 1000) <|
    (D_X7_goesOver_0 fu x11).bind fun x14 =>
    some (x11.2.1 105 (Int32.toNatClampNeg (960 + v5)), x14)
  else
    some (0, x9.2)
set_option maxRecDepth 20000 in
theorem T_X7_takes_38 (G : GX) (fu : Nat)  (hG : gt G = tbl) : ∀ (v1 : Int32) (v2 : Int32) (v3 : Int32) (v4 : Int32) (v5 : Int32) (s1 : Int32) (μ : Mem) (r : (Int64 × Mem)) , D_X7_takes_38 fu v1 v2 v3 v4 v5 s1 μ = some r → V G mX7_takes 38 [some (.ref 85), some (.int v1), some (.int v2), some (.int v3), some (.int v4), some (.int v5), none, none] [.int s1, .ref 85] μ (.inl (some (.long r.1))) (r.2) := by
  intro v1 v2 v3 v4 v5 s1 μ r h
  unfold D_X7_takes_38 at h
  refine V_iconst (v := 2) dX7_takes_38 rfl ?_
  refine V_iconst (v := 1) dX7_takes_39 rfl ?_
  obtain ⟨x9, y10, h⟩ := bi_o h
  refine V_callV (as := [.int s1, .int 2, .int 1]) (q := 85) (rest := []) dX7_takes_40 ov_mX7_needs lk_RX7_346 (by decide) (by decide) rfl rfl (Nat.le_of_ble_eq_true rfl) (tq_85 hG) rfl (VM_X7_needs G hG s1 2 1 μ _ y10) ?_
  by_cases c43 : x9.1 = true
  · rw [if_pos c43] at h
    refine V_ifne_t (tgt := 48) dX7_takes_43 (by decide) (b2i_t.mp c43) ?_
    refine V_aload_n dX7_takes_48 rfl ?_
    refine V_iload_n dX7_takes_49 rfl ?_
    refine V_iload_n dX7_takes_50 rfl ?_
    refine V_iload_n dX7_takes_51 rfl ?_
    refine V_iload dX7_takes_52 rfl ?_
    obtain ⟨x11, y12, h⟩ := bi_o h
    refine V_callV (as := [.int v1, .int v2, .int v3, .int v4]) (q := 85) (rest := []) dX7_takes_54 ov_mX7_thinksOf lk_RX7_449 (by decide) (by decide) rfl rfl (Nat.le_of_ble_eq_true rfl) (tq_85 hG) rfl (VM_X7_thinksOf G fu hG v1 v2 v3 v4 x9.2 _ y12) ?_
    refine V_aload_n dX7_takes_57 rfl ?_
    refine V_getR (kf := 21) k_X7 (by decide) lk_RX7_76 rfl dX7_takes_58 (tq_85 hG) rfl ?_
    refine V_sipush (v := 960) dX7_takes_61 rfl ?_
    refine V_iload dX7_takes_64 rfl ?_
    refine V_iadd dX7_takes_66 ?_
    obtain ⟨g13, h⟩ := gu_o h
    refine V_laload dX7_takes_67 (tq_105 hG) (ib_in g13) ?_
    refine V_lstore (lv2 := [some (.ref 85), some (.int v1), some (.int v2), some (.int v3), some (.int v4), some (.int v5), some (.long (x11.2.1 105 (Int32.toNatClampNeg (960 + v5)))), none]) dX7_takes_68 (by decide) rfl ?_
    refine V_aload_n dX7_takes_70 rfl ?_
    obtain ⟨x14, y15, h⟩ := bi_o h
    refine V_callV (as := []) (q := 85) (rest := []) dX7_takes_71 ov_mX7_goesOver lk_RX7_403 (by decide) (by decide) rfl rfl (Nat.le_of_ble_eq_true rfl) (tq_85 hG) rfl (VM_X7_goesOver G fu hG x11 _ y15) ?_
    refine V_lload dX7_takes_74 rfl ?_
    cases h
    exact V_lret rfl dX7_takes_76
  · rw [if_neg c43] at h
    refine V_ifne_f (tgt := 48) dX7_takes_43 (by decide) (b2i_f.mp c43) ?_
    refine V_lconst (v := 0) dX7_takes_46 rfl ?_
    cases h
    exact V_lret rfl dX7_takes_47
def D_X7_takes_37 (fu : Nat)  (v1 : Int32) (v2 : Int32) (v3 : Int32) (v4 : Int32) (v5 : Int32) (μ : Mem) : Option (Int64 × Mem) :=
  D_X7_takes_38 fu v1 v2 v3 v4 v5 0 μ
set_option maxRecDepth 20000 in
theorem T_X7_takes_37 (G : GX) (fu : Nat)  (hG : gt G = tbl) : ∀ (v1 : Int32) (v2 : Int32) (v3 : Int32) (v4 : Int32) (v5 : Int32) (μ : Mem) (r : (Int64 × Mem)) , D_X7_takes_37 fu v1 v2 v3 v4 v5 μ = some r → V G mX7_takes 37 [some (.ref 85), some (.int v1), some (.int v2), some (.int v3), some (.int v4), some (.int v5), none, none] [.ref 85] μ (.inl (some (.long r.1))) (r.2) := by
  intro v1 v2 v3 v4 v5 μ r h
  unfold D_X7_takes_37 at h
  refine V_iconst (v := 0) dX7_takes_37 rfl ?_
  exact V_wk [true, true, true, true, true, true, false, false] rfl (T_X7_takes_38 G fu hG _ _ _ _ _ _ _ _ h)
def D_X7_takes_0 (fu : Nat)  (a1 : Int32) (a2 : Int32) (a3 : Int32) (a4 : Int32) (a5 : Int32) (μ : Mem) : Option (Int64 × Mem) :=
  vl (wI μ 85 0 0) fun m1 =>
  (D_X7_isOne_0 a5 1 m1).bind fun x3 =>
  if x3.1 = true then
    (D_X7_areYears_0 x3.2 a1 a2 a3).bind fun x5 =>
    if x5 = true then
      (D_X7_isLoss_0 x3.2 a4).bind fun x7 =>
      if x7 = true then
        D_X7_takes_38 fu a1 a2 a3 a4 a5 1 x3.2
      else
        D_X7_takes_37 fu a1 a2 a3 a4 a5 x3.2
    else
      D_X7_takes_37 fu a1 a2 a3 a4 a5 x3.2
  else
    some (0, x3.2)
set_option maxRecDepth 20000 in
theorem T_X7_takes_0 (G : GX) (fu : Nat)  (hG : gt G = tbl) : ∀ (a1 : Int32) (a2 : Int32) (a3 : Int32) (a4 : Int32) (a5 : Int32) (μ : Mem) (r : (Int64 × Mem)) , D_X7_takes_0 fu a1 a2 a3 a4 a5 μ = some r → V G mX7_takes 0 [some (.ref 85), some (.int a1), some (.int a2), some (.int a3), some (.int a4), some (.int a5), none, none] [] μ (.inl (some (.long r.1))) (r.2) := by
  intro a1 a2 a3 a4 a5 μ r h
  unfold D_X7_takes_0 at h
  refine V_aload_n dX7_takes_0 rfl ?_
  refine V_iconst (v := 0) dX7_takes_1 rfl ?_
  obtain ⟨m1, e2, h⟩ := vl_o h
  refine V_putI (kf := 0) k_X7 (by decide) lk_RX7_1 rfl rfl (by decide +kernel) dX7_takes_2 (tq_85 hG) rfl e2.symm ?_
  refine V_aload_n dX7_takes_5 rfl ?_
  refine V_iload dX7_takes_6 rfl ?_
  refine V_iconst (v := 1) dX7_takes_8 rfl ?_
  obtain ⟨x3, y4, h⟩ := bi_o h
  refine V_callV (as := [.int a5, .int 1]) (q := 85) (rest := []) dX7_takes_9 ov_mX7_isOne lk_RX7_374 (by decide) (by decide) rfl rfl (Nat.le_of_ble_eq_true rfl) (tq_85 hG) rfl (VM_X7_isOne G hG a5 1 m1 _ y4) ?_
  by_cases c12 : x3.1 = true
  · rw [if_pos c12] at h
    refine V_ifeq_f (tgt := 46) dX7_takes_12 (by decide) (b2i_t.mp c12) ?_
    refine V_aload_n dX7_takes_15 rfl ?_
    refine V_iload_n dX7_takes_16 rfl ?_
    refine V_iload_n dX7_takes_17 rfl ?_
    refine V_iload_n dX7_takes_18 rfl ?_
    obtain ⟨x5, y6, h⟩ := bi_o h
    refine V_callS (as := [.int a1, .int a2, .int a3]) (rest := [.ref 85]) dX7_takes_19 os_mX7_areYears rfl lk_RX7_389 (by decide) (by decide) rfl rfl (Nat.le_of_ble_eq_true rfl) (VM_X7_areYears G x3.2 hG a1 a2 a3 _ y6) ?_
    by_cases c22 : x5 = true
    · rw [if_pos c22] at h
      refine V_ifeq_f (tgt := 37) dX7_takes_22 (by decide) (b2i_t.mp c22) ?_
      refine V_iload dX7_takes_25 rfl ?_
      obtain ⟨x7, y8, h⟩ := bi_o h
      refine V_callS (as := [.int a4]) (rest := [.ref 85]) dX7_takes_27 os_mX7_isLoss rfl lk_RX7_392 (by decide) (by decide) rfl rfl (Nat.le_of_ble_eq_true rfl) (VM_X7_isLoss G x3.2 hG a4 _ y8) ?_
      by_cases c30 : x7 = true
      · rw [if_pos c30] at h
        refine V_ifeq_f (tgt := 37) dX7_takes_30 (by decide) (b2i_t.mp c30) ?_
        refine V_iconst (v := 1) dX7_takes_33 rfl ?_
        refine V_goto (tgt := 38) dX7_takes_34 (by decide) ?_
        exact V_wk [true, true, true, true, true, true, false, false] rfl (T_X7_takes_38 G fu hG _ _ _ _ _ _ _ _ h)
      · rw [if_neg c30] at h
        refine V_ifeq_t (tgt := 37) dX7_takes_30 (by decide) (b2i_f.mp c30) ?_
        exact V_wk [true, true, true, true, true, true, false, false] rfl (T_X7_takes_37 G fu hG _ _ _ _ _ _ _ h)
    · rw [if_neg c22] at h
      refine V_ifeq_t (tgt := 37) dX7_takes_22 (by decide) (b2i_f.mp c22) ?_
      exact V_wk [true, true, true, true, true, true, false, false] rfl (T_X7_takes_37 G fu hG _ _ _ _ _ _ _ h)
  · rw [if_neg c12] at h
    refine V_ifeq_t (tgt := 46) dX7_takes_12 (by decide) (b2i_f.mp c12) ?_
    refine V_lconst (v := 0) dX7_takes_46 rfl ?_
    cases h
    exact V_lret rfl dX7_takes_47
theorem VM_X7_takes (G : GX) (fu : Nat)  (hG : gt G = tbl) (a1 : Int32) (a2 : Int32) (a3 : Int32) (a4 : Int32) (a5 : Int32) (μ : Mem) (r : (Int64 × Mem)) (h : D_X7_takes_0 fu a1 a2 a3 a4 a5 μ = some r) : VM G mX7_takes [.ref 85, .int a1, .int a2, .int a3, .int a4, .int a5] μ (.inl (some (.long r.1))) (r.2) := V_entry ok_mX7_takes rfl rfl (Nat.le_of_ble_eq_true rfl) (T_X7_takes_0 G fu hG a1 a2 a3 a4 a5 μ r h)
def D_X7_drops_41 (fu : Nat)  (v1 : Int32) (v2 : Int32) (v3 : Int32) (v4 : Int32) (v5 : Int32) (s1 : Int32) (μ : Mem) : Option (Int64 × Mem) :=
  (D_X7_needs_0 s1 1 1 μ).bind fun x9 =>
  if x9.1 = true then
    (D_X7_thinksOf_0 fu v1 v2 v3 v4 x9.2).bind fun x11 =>
    gu (ib (168 + v5) 175) <|
    (D_X7_goesOver_0 fu x11).bind fun x14 =>
    some (x11.2.1 110 (Int32.toNatClampNeg (168 + v5)), x14)
  else
    some (0, x9.2)
set_option maxRecDepth 20000 in
theorem T_X7_drops_41 (G : GX) (fu : Nat)  (hG : gt G = tbl) : ∀ (v1 : Int32) (v2 : Int32) (v3 : Int32) (v4 : Int32) (v5 : Int32) (s1 : Int32) (μ : Mem) (r : (Int64 × Mem)) , D_X7_drops_41 fu v1 v2 v3 v4 v5 s1 μ = some r → V G mX7_drops 41 [some (.ref 85), some (.int v1), some (.int v2), some (.int v3), some (.int v4), some (.int v5), none, none] [.int s1, .ref 85] μ (.inl (some (.long r.1))) (r.2) := by
  intro v1 v2 v3 v4 v5 s1 μ r h
  unfold D_X7_drops_41 at h
  refine V_iconst (v := 1) dX7_drops_41 rfl ?_
  refine V_iconst (v := 1) dX7_drops_42 rfl ?_
  obtain ⟨x9, y10, h⟩ := bi_o h
  refine V_callV (as := [.int s1, .int 1, .int 1]) (q := 85) (rest := []) dX7_drops_43 ov_mX7_needs lk_RX7_346 (by decide) (by decide) rfl rfl (Nat.le_of_ble_eq_true rfl) (tq_85 hG) rfl (VM_X7_needs G hG s1 1 1 μ _ y10) ?_
  by_cases c46 : x9.1 = true
  · rw [if_pos c46] at h
    refine V_ifne_t (tgt := 51) dX7_drops_46 (by decide) (b2i_t.mp c46) ?_
    refine V_aload_n dX7_drops_51 rfl ?_
    refine V_iload_n dX7_drops_52 rfl ?_
    refine V_iload_n dX7_drops_53 rfl ?_
    refine V_iload_n dX7_drops_54 rfl ?_
    refine V_iload dX7_drops_55 rfl ?_
    obtain ⟨x11, y12, h⟩ := bi_o h
    refine V_callV (as := [.int v1, .int v2, .int v3, .int v4]) (q := 85) (rest := []) dX7_drops_57 ov_mX7_thinksOf lk_RX7_449 (by decide) (by decide) rfl rfl (Nat.le_of_ble_eq_true rfl) (tq_85 hG) rfl (VM_X7_thinksOf G fu hG v1 v2 v3 v4 x9.2 _ y12) ?_
    refine V_aload_n dX7_drops_60 rfl ?_
    refine V_getR (kf := 26) k_X7 (by decide) lk_RX7_91 rfl dX7_drops_61 (tq_85 hG) rfl ?_
    refine V_sipush (v := 168) dX7_drops_64 rfl ?_
    refine V_iload dX7_drops_67 rfl ?_
    refine V_iadd dX7_drops_69 ?_
    obtain ⟨g13, h⟩ := gu_o h
    refine V_laload dX7_drops_70 (tq_110 hG) (ib_in g13) ?_
    refine V_lstore (lv2 := [some (.ref 85), some (.int v1), some (.int v2), some (.int v3), some (.int v4), some (.int v5), some (.long (x11.2.1 110 (Int32.toNatClampNeg (168 + v5)))), none]) dX7_drops_71 (by decide) rfl ?_
    refine V_aload_n dX7_drops_73 rfl ?_
    obtain ⟨x14, y15, h⟩ := bi_o h
    refine V_callV (as := []) (q := 85) (rest := []) dX7_drops_74 ov_mX7_goesOver lk_RX7_403 (by decide) (by decide) rfl rfl (Nat.le_of_ble_eq_true rfl) (tq_85 hG) rfl (VM_X7_goesOver G fu hG x11 _ y15) ?_
    refine V_lload dX7_drops_77 rfl ?_
    cases h
    exact V_lret rfl dX7_drops_79
  · rw [if_neg c46] at h
    refine V_ifne_f (tgt := 51) dX7_drops_46 (by decide) (b2i_f.mp c46) ?_
    refine V_lconst (v := 0) dX7_drops_49 rfl ?_
    cases h
    exact V_lret rfl dX7_drops_50
def D_X7_drops_40 (fu : Nat)  (v1 : Int32) (v2 : Int32) (v3 : Int32) (v4 : Int32) (v5 : Int32) (μ : Mem) : Option (Int64 × Mem) :=
  D_X7_drops_41 fu v1 v2 v3 v4 v5 0 μ
set_option maxRecDepth 20000 in
theorem T_X7_drops_40 (G : GX) (fu : Nat)  (hG : gt G = tbl) : ∀ (v1 : Int32) (v2 : Int32) (v3 : Int32) (v4 : Int32) (v5 : Int32) (μ : Mem) (r : (Int64 × Mem)) , D_X7_drops_40 fu v1 v2 v3 v4 v5 μ = some r → V G mX7_drops 40 [some (.ref 85), some (.int v1), some (.int v2), some (.int v3), some (.int v4), some (.int v5), none, none] [.ref 85] μ (.inl (some (.long r.1))) (r.2) := by
  intro v1 v2 v3 v4 v5 μ r h
  unfold D_X7_drops_40 at h
  refine V_iconst (v := 0) dX7_drops_40 rfl ?_
  exact V_wk [true, true, true, true, true, true, false, false] rfl (T_X7_drops_41 G fu hG _ _ _ _ _ _ _ _ h)
def D_X7_drops_0 (fu : Nat)  (a1 : Int32) (a2 : Int32) (a3 : Int32) (a4 : Int32) (a5 : Int32) (μ : Mem) : Option (Int64 × Mem) :=
  vl (wI μ 85 0 0) fun m1 =>
  (D_X7_areYears_0 m1 a1 a2 a3).bind fun x3 =>
  if x3 = true then
    (D_X7_isLoss_0 m1 a4).bind fun x5 =>
    if x5 = true then
      (D_X7_within_0 m1 ((a5 : Int32).toInt64) 0 6).bind fun x7 =>
      if x7 = true then
        D_X7_drops_41 fu a1 a2 a3 a4 a5 1 m1
      else
        D_X7_drops_40 fu a1 a2 a3 a4 a5 m1
    else
      D_X7_drops_40 fu a1 a2 a3 a4 a5 m1
  else
    D_X7_drops_40 fu a1 a2 a3 a4 a5 m1
set_option maxRecDepth 20000 in
theorem T_X7_drops_0 (G : GX) (fu : Nat)  (hG : gt G = tbl) : ∀ (a1 : Int32) (a2 : Int32) (a3 : Int32) (a4 : Int32) (a5 : Int32) (μ : Mem) (r : (Int64 × Mem)) , D_X7_drops_0 fu a1 a2 a3 a4 a5 μ = some r → V G mX7_drops 0 [some (.ref 85), some (.int a1), some (.int a2), some (.int a3), some (.int a4), some (.int a5), none, none] [] μ (.inl (some (.long r.1))) (r.2) := by
  intro a1 a2 a3 a4 a5 μ r h
  unfold D_X7_drops_0 at h
  refine V_aload_n dX7_drops_0 rfl ?_
  refine V_iconst (v := 0) dX7_drops_1 rfl ?_
  obtain ⟨m1, e2, h⟩ := vl_o h
  refine V_putI (kf := 0) k_X7 (by decide) lk_RX7_1 rfl rfl (by decide +kernel) dX7_drops_2 (tq_85 hG) rfl e2.symm ?_
  refine V_aload_n dX7_drops_5 rfl ?_
  refine V_iload_n dX7_drops_6 rfl ?_
  refine V_iload_n dX7_drops_7 rfl ?_
  refine V_iload_n dX7_drops_8 rfl ?_
  obtain ⟨x3, y4, h⟩ := bi_o h
  refine V_callS (as := [.int a1, .int a2, .int a3]) (rest := [.ref 85]) dX7_drops_9 os_mX7_areYears rfl lk_RX7_389 (by decide) (by decide) rfl rfl (Nat.le_of_ble_eq_true rfl) (VM_X7_areYears G m1 hG a1 a2 a3 _ y4) ?_
  by_cases c12 : x3 = true
  · rw [if_pos c12] at h
    refine V_ifeq_f (tgt := 40) dX7_drops_12 (by decide) (b2i_t.mp c12) ?_
    refine V_iload dX7_drops_15 rfl ?_
    obtain ⟨x5, y6, h⟩ := bi_o h
    refine V_callS (as := [.int a4]) (rest := [.ref 85]) dX7_drops_17 os_mX7_isLoss rfl lk_RX7_392 (by decide) (by decide) rfl rfl (Nat.le_of_ble_eq_true rfl) (VM_X7_isLoss G m1 hG a4 _ y6) ?_
    by_cases c20 : x5 = true
    · rw [if_pos c20] at h
      refine V_ifeq_f (tgt := 40) dX7_drops_20 (by decide) (b2i_t.mp c20) ?_
      refine V_iload dX7_drops_23 rfl ?_
      refine V_i2l dX7_drops_25 ?_
      refine V_lconst (v := 0) dX7_drops_26 rfl ?_
      refine V_ldc2 (v := 6) dX7_drops_27 lk_RX7_421 ?_
      obtain ⟨x7, y8, h⟩ := bi_o h
      refine V_callS (as := [.long ((a5 : Int32).toInt64), .long 0, .long 6]) (rest := [.ref 85]) dX7_drops_30 os_mX7_within rfl lk_RX7_352 (by decide) (by decide) rfl rfl (Nat.le_of_ble_eq_true rfl) (VM_X7_within G m1 hG ((a5 : Int32).toInt64) 0 6 _ y8) ?_
      by_cases c33 : x7 = true
      · rw [if_pos c33] at h
        refine V_ifeq_f (tgt := 40) dX7_drops_33 (by decide) (b2i_t.mp c33) ?_
        refine V_iconst (v := 1) dX7_drops_36 rfl ?_
        refine V_goto (tgt := 41) dX7_drops_37 (by decide) ?_
        exact V_wk [true, true, true, true, true, true, false, false] rfl (T_X7_drops_41 G fu hG _ _ _ _ _ _ _ _ h)
      · rw [if_neg c33] at h
        refine V_ifeq_t (tgt := 40) dX7_drops_33 (by decide) (b2i_f.mp c33) ?_
        exact V_wk [true, true, true, true, true, true, false, false] rfl (T_X7_drops_40 G fu hG _ _ _ _ _ _ _ h)
    · rw [if_neg c20] at h
      refine V_ifeq_t (tgt := 40) dX7_drops_20 (by decide) (b2i_f.mp c20) ?_
      exact V_wk [true, true, true, true, true, true, false, false] rfl (T_X7_drops_40 G fu hG _ _ _ _ _ _ _ h)
  · rw [if_neg c12] at h
    refine V_ifeq_t (tgt := 40) dX7_drops_12 (by decide) (b2i_f.mp c12) ?_
    exact V_wk [true, true, true, true, true, true, false, false] rfl (T_X7_drops_40 G fu hG _ _ _ _ _ _ _ h)
theorem VM_X7_drops (G : GX) (fu : Nat)  (hG : gt G = tbl) (a1 : Int32) (a2 : Int32) (a3 : Int32) (a4 : Int32) (a5 : Int32) (μ : Mem) (r : (Int64 × Mem)) (h : D_X7_drops_0 fu a1 a2 a3 a4 a5 μ = some r) : VM G mX7_drops [.ref 85, .int a1, .int a2, .int a3, .int a4, .int a5] μ (.inl (some (.long r.1))) (r.2) := V_entry ok_mX7_drops rfl rfl (Nat.le_of_ble_eq_true rfl) (T_X7_drops_0 G fu hG a1 a2 a3 a4 a5 μ r h)
def D_X7_share_41 (fu : Nat)  (v1 : Int32) (v2 : Int32) (v3 : Int32) (v4 : Int32) (v5 : Int32) (s1 : Int32) (μ : Mem) : Option (Int64 × Mem) :=
  (D_X7_needs_0 s1 1 1 μ).bind fun x9 =>
  if x9.1 = true then
    (D_X7_thinks_0 fu v1 v2 v3 x9.2).bind fun x11 =>
    (D_X7_laysLike_0 fu 24 x11).bind fun x13 =>
    (D_X7_weightSum_0 fu x13 12).bind fun x15 =>
    if x15 = (0 : Int64) then
      some (0, x13)
    else
      (D_X7_shares_0 fu ((v4 : Int32).toInt64) 12 x13).bind fun x17 =>
      gu (ib v5 40) <|
      some (x17.2.1 117 (Int32.toNatClampNeg v5), x17)
  else
    some (0, x9.2)
set_option maxRecDepth 20000 in
theorem T_X7_share_41 (G : GX) (fu : Nat)  (hG : gt G = tbl) : ∀ (v1 : Int32) (v2 : Int32) (v3 : Int32) (v4 : Int32) (v5 : Int32) (s1 : Int32) (μ : Mem) (r : (Int64 × Mem)) , D_X7_share_41 fu v1 v2 v3 v4 v5 s1 μ = some r → V G mX7_share 41 [some (.ref 85), some (.int v1), some (.int v2), some (.int v3), some (.int v4), some (.int v5)] [.int s1, .ref 85] μ (.inl (some (.long r.1))) (r.2) := by
  intro v1 v2 v3 v4 v5 s1 μ r h
  unfold D_X7_share_41 at h
  refine V_iconst (v := 1) dX7_share_41 rfl ?_
  refine V_iconst (v := 1) dX7_share_42 rfl ?_
  obtain ⟨x9, y10, h⟩ := bi_o h
  refine V_callV (as := [.int s1, .int 1, .int 1]) (q := 85) (rest := []) dX7_share_43 ov_mX7_needs lk_RX7_346 (by decide) (by decide) rfl rfl (Nat.le_of_ble_eq_true rfl) (tq_85 hG) rfl (VM_X7_needs G hG s1 1 1 μ _ y10) ?_
  by_cases c46 : x9.1 = true
  · rw [if_pos c46] at h
    refine V_ifne_t (tgt := 51) dX7_share_46 (by decide) (b2i_t.mp c46) ?_
    refine V_aload_n dX7_share_51 rfl ?_
    refine V_iload_n dX7_share_52 rfl ?_
    refine V_iload_n dX7_share_53 rfl ?_
    refine V_iload_n dX7_share_54 rfl ?_
    obtain ⟨x11, y12, h⟩ := bi_o h
    refine V_callV (as := [.int v1, .int v2, .int v3]) (q := 85) (rest := []) dX7_share_55 ov_mX7_thinks lk_RX7_446 (by decide) (by decide) rfl rfl (Nat.le_of_ble_eq_true rfl) (tq_85 hG) rfl (VM_X7_thinks G fu hG v1 v2 v3 x9.2 _ y12) ?_
    refine V_aload_n dX7_share_58 rfl ?_
    refine V_bipush (v := 24) dX7_share_59 rfl ?_
    obtain ⟨x13, y14, h⟩ := bi_o h
    refine V_callV (as := [.int 24]) (q := 85) (rest := []) dX7_share_61 ov_mX7_laysLike lk_RX7_231 (by decide) (by decide) rfl rfl (Nat.le_of_ble_eq_true rfl) (tq_85 hG) rfl (VM_X7_laysLike G fu hG 24 x11 _ y14) ?_
    refine V_aload_n dX7_share_64 rfl ?_
    refine V_bipush (v := 12) dX7_share_65 rfl ?_
    obtain ⟨x15, y16, h⟩ := bi_o h
    refine V_callV (as := [.int 12]) (q := 85) (rest := []) dX7_share_67 ov_mX7_weightSum lk_RX7_194 (by decide) (by decide) rfl rfl (Nat.le_of_ble_eq_true rfl) (tq_85 hG) rfl (VM_X7_weightSum G fu x13 hG 12 _ y16) ?_
    refine V_lconst (v := 0) dX7_share_70 rfl ?_
    refine V_lcmp dX7_share_71 ?_
    by_cases c72 : x15 = (0 : Int64)
    · rw [if_pos c72] at h
      refine V_ifne_f (tgt := 77) dX7_share_72 (by decide) ((lc_eq x15 0).mpr c72) ?_
      refine V_lconst (v := 0) dX7_share_75 rfl ?_
      cases h
      exact V_lret rfl dX7_share_76
    · rw [if_neg c72] at h
      refine V_ifne_t (tgt := 77) dX7_share_72 (by decide) (fun z => c72 ((lc_eq x15 0).mp z)) ?_
      refine V_aload_n dX7_share_77 rfl ?_
      refine V_iload dX7_share_78 rfl ?_
      refine V_i2l dX7_share_80 ?_
      refine V_bipush (v := 12) dX7_share_81 rfl ?_
      obtain ⟨x17, y18, h⟩ := bi_o h
      refine V_callV (as := [.long ((v4 : Int32).toInt64), .int 12]) (q := 85) (rest := []) dX7_share_83 ov_mX7_shares lk_RX7_211 (by decide) (by decide) rfl rfl (Nat.le_of_ble_eq_true rfl) (tq_85 hG) rfl (VM_X7_shares G fu hG ((v4 : Int32).toInt64) 12 x13 _ y18) ?_
      refine V_aload_n dX7_share_86 rfl ?_
      refine V_getR (kf := 37) k_X7 (by decide) lk_RX7_112 rfl dX7_share_87 (tq_85 hG) rfl ?_
      refine V_iload dX7_share_90 rfl ?_
      obtain ⟨g19, h⟩ := gu_o h
      refine V_laload dX7_share_92 (tq_117 hG) (ib_in g19) ?_
      cases h
      exact V_lret rfl dX7_share_93
  · rw [if_neg c46] at h
    refine V_ifne_f (tgt := 51) dX7_share_46 (by decide) (b2i_f.mp c46) ?_
    refine V_lconst (v := 0) dX7_share_49 rfl ?_
    cases h
    exact V_lret rfl dX7_share_50
def D_X7_share_40 (fu : Nat)  (v1 : Int32) (v2 : Int32) (v3 : Int32) (v4 : Int32) (v5 : Int32) (μ : Mem) : Option (Int64 × Mem) :=
  D_X7_share_41 fu v1 v2 v3 v4 v5 0 μ
set_option maxRecDepth 20000 in
theorem T_X7_share_40 (G : GX) (fu : Nat)  (hG : gt G = tbl) : ∀ (v1 : Int32) (v2 : Int32) (v3 : Int32) (v4 : Int32) (v5 : Int32) (μ : Mem) (r : (Int64 × Mem)) , D_X7_share_40 fu v1 v2 v3 v4 v5 μ = some r → V G mX7_share 40 [some (.ref 85), some (.int v1), some (.int v2), some (.int v3), some (.int v4), some (.int v5)] [.ref 85] μ (.inl (some (.long r.1))) (r.2) := by
  intro v1 v2 v3 v4 v5 μ r h
  unfold D_X7_share_40 at h
  refine V_iconst (v := 0) dX7_share_40 rfl ?_
  exact V_wk [true, true, true, true, true, true] rfl (T_X7_share_41 G fu hG _ _ _ _ _ _ _ _ h)
def D_X7_share_0 (fu : Nat)  (a1 : Int32) (a2 : Int32) (a3 : Int32) (a4 : Int32) (a5 : Int32) (μ : Mem) : Option (Int64 × Mem) :=
  vl (wI μ 85 0 0) fun m1 =>
  (D_X7_areYears_0 m1 a1 a2 a3).bind fun x3 =>
  if x3 = true then
    (D_X7_isLoss_0 m1 a4).bind fun x5 =>
    if x5 = true then
      (D_X7_within_0 m1 ((a5 : Int32).toInt64) 0 11).bind fun x7 =>
      if x7 = true then
        D_X7_share_41 fu a1 a2 a3 a4 a5 1 m1
      else
        D_X7_share_40 fu a1 a2 a3 a4 a5 m1
    else
      D_X7_share_40 fu a1 a2 a3 a4 a5 m1
  else
    D_X7_share_40 fu a1 a2 a3 a4 a5 m1
set_option maxRecDepth 20000 in
theorem T_X7_share_0 (G : GX) (fu : Nat)  (hG : gt G = tbl) : ∀ (a1 : Int32) (a2 : Int32) (a3 : Int32) (a4 : Int32) (a5 : Int32) (μ : Mem) (r : (Int64 × Mem)) , D_X7_share_0 fu a1 a2 a3 a4 a5 μ = some r → V G mX7_share 0 [some (.ref 85), some (.int a1), some (.int a2), some (.int a3), some (.int a4), some (.int a5)] [] μ (.inl (some (.long r.1))) (r.2) := by
  intro a1 a2 a3 a4 a5 μ r h
  unfold D_X7_share_0 at h
  refine V_aload_n dX7_share_0 rfl ?_
  refine V_iconst (v := 0) dX7_share_1 rfl ?_
  obtain ⟨m1, e2, h⟩ := vl_o h
  refine V_putI (kf := 0) k_X7 (by decide) lk_RX7_1 rfl rfl (by decide +kernel) dX7_share_2 (tq_85 hG) rfl e2.symm ?_
  refine V_aload_n dX7_share_5 rfl ?_
  refine V_iload_n dX7_share_6 rfl ?_
  refine V_iload_n dX7_share_7 rfl ?_
  refine V_iload_n dX7_share_8 rfl ?_
  obtain ⟨x3, y4, h⟩ := bi_o h
  refine V_callS (as := [.int a1, .int a2, .int a3]) (rest := [.ref 85]) dX7_share_9 os_mX7_areYears rfl lk_RX7_389 (by decide) (by decide) rfl rfl (Nat.le_of_ble_eq_true rfl) (VM_X7_areYears G m1 hG a1 a2 a3 _ y4) ?_
  by_cases c12 : x3 = true
  · rw [if_pos c12] at h
    refine V_ifeq_f (tgt := 40) dX7_share_12 (by decide) (b2i_t.mp c12) ?_
    refine V_iload dX7_share_15 rfl ?_
    obtain ⟨x5, y6, h⟩ := bi_o h
    refine V_callS (as := [.int a4]) (rest := [.ref 85]) dX7_share_17 os_mX7_isLoss rfl lk_RX7_392 (by decide) (by decide) rfl rfl (Nat.le_of_ble_eq_true rfl) (VM_X7_isLoss G m1 hG a4 _ y6) ?_
    by_cases c20 : x5 = true
    · rw [if_pos c20] at h
      refine V_ifeq_f (tgt := 40) dX7_share_20 (by decide) (b2i_t.mp c20) ?_
      refine V_iload dX7_share_23 rfl ?_
      refine V_i2l dX7_share_25 ?_
      refine V_lconst (v := 0) dX7_share_26 rfl ?_
      refine V_ldc2 (v := 11) dX7_share_27 lk_RX7_350 ?_
      obtain ⟨x7, y8, h⟩ := bi_o h
      refine V_callS (as := [.long ((a5 : Int32).toInt64), .long 0, .long 11]) (rest := [.ref 85]) dX7_share_30 os_mX7_within rfl lk_RX7_352 (by decide) (by decide) rfl rfl (Nat.le_of_ble_eq_true rfl) (VM_X7_within G m1 hG ((a5 : Int32).toInt64) 0 11 _ y8) ?_
      by_cases c33 : x7 = true
      · rw [if_pos c33] at h
        refine V_ifeq_f (tgt := 40) dX7_share_33 (by decide) (b2i_t.mp c33) ?_
        refine V_iconst (v := 1) dX7_share_36 rfl ?_
        refine V_goto (tgt := 41) dX7_share_37 (by decide) ?_
        exact V_wk [true, true, true, true, true, true] rfl (T_X7_share_41 G fu hG _ _ _ _ _ _ _ _ h)
      · rw [if_neg c33] at h
        refine V_ifeq_t (tgt := 40) dX7_share_33 (by decide) (b2i_f.mp c33) ?_
        exact V_wk [true, true, true, true, true, true] rfl (T_X7_share_40 G fu hG _ _ _ _ _ _ _ h)
    · rw [if_neg c20] at h
      refine V_ifeq_t (tgt := 40) dX7_share_20 (by decide) (b2i_f.mp c20) ?_
      exact V_wk [true, true, true, true, true, true] rfl (T_X7_share_40 G fu hG _ _ _ _ _ _ _ h)
  · rw [if_neg c12] at h
    refine V_ifeq_t (tgt := 40) dX7_share_12 (by decide) (b2i_f.mp c12) ?_
    exact V_wk [true, true, true, true, true, true] rfl (T_X7_share_40 G fu hG _ _ _ _ _ _ _ h)
theorem VM_X7_share (G : GX) (fu : Nat)  (hG : gt G = tbl) (a1 : Int32) (a2 : Int32) (a3 : Int32) (a4 : Int32) (a5 : Int32) (μ : Mem) (r : (Int64 × Mem)) (h : D_X7_share_0 fu a1 a2 a3 a4 a5 μ = some r) : VM G mX7_share [.ref 85, .int a1, .int a2, .int a3, .int a4, .int a5] μ (.inl (some (.long r.1))) (r.2) := V_entry ok_mX7_share rfl rfl (Nat.le_of_ble_eq_true rfl) (T_X7_share_0 G fu hG a1 a2 a3 a4 a5 μ r h)
def D_X7_weight_33 (fu : Nat)  (v1 : Int32) (v2 : Int32) (v3 : Int32) (v4 : Int32) (s1 : Int32) (μ : Mem) : Option (Int64 × Mem) :=
  (D_X7_needs_0 s1 1 1 μ).bind fun x7 =>
  if x7.1 = true then
    (D_X7_thinks_0 fu v1 v2 v3 x7.2).bind fun x9 =>
    (D_X7_laysSizes_0 fu 24 x9).bind fun x11 =>
    gu (ib v4 40) <|
    some (x11.2.1 116 (Int32.toNatClampNeg v4), x11)
  else
    some (0, x7.2)
set_option maxRecDepth 20000 in
theorem T_X7_weight_33 (G : GX) (fu : Nat)  (hG : gt G = tbl) : ∀ (v1 : Int32) (v2 : Int32) (v3 : Int32) (v4 : Int32) (s1 : Int32) (μ : Mem) (r : (Int64 × Mem)) , D_X7_weight_33 fu v1 v2 v3 v4 s1 μ = some r → V G mX7_weight 33 [some (.ref 85), some (.int v1), some (.int v2), some (.int v3), some (.int v4)] [.int s1, .ref 85] μ (.inl (some (.long r.1))) (r.2) := by
  intro v1 v2 v3 v4 s1 μ r h
  unfold D_X7_weight_33 at h
  refine V_iconst (v := 1) dX7_weight_33 rfl ?_
  refine V_iconst (v := 1) dX7_weight_34 rfl ?_
  obtain ⟨x7, y8, h⟩ := bi_o h
  refine V_callV (as := [.int s1, .int 1, .int 1]) (q := 85) (rest := []) dX7_weight_35 ov_mX7_needs lk_RX7_346 (by decide) (by decide) rfl rfl (Nat.le_of_ble_eq_true rfl) (tq_85 hG) rfl (VM_X7_needs G hG s1 1 1 μ _ y8) ?_
  by_cases c38 : x7.1 = true
  · rw [if_pos c38] at h
    refine V_ifne_t (tgt := 43) dX7_weight_38 (by decide) (b2i_t.mp c38) ?_
    refine V_aload_n dX7_weight_43 rfl ?_
    refine V_iload_n dX7_weight_44 rfl ?_
    refine V_iload_n dX7_weight_45 rfl ?_
    refine V_iload_n dX7_weight_46 rfl ?_
    obtain ⟨x9, y10, h⟩ := bi_o h
    refine V_callV (as := [.int v1, .int v2, .int v3]) (q := 85) (rest := []) dX7_weight_47 ov_mX7_thinks lk_RX7_446 (by decide) (by decide) rfl rfl (Nat.le_of_ble_eq_true rfl) (tq_85 hG) rfl (VM_X7_thinks G fu hG v1 v2 v3 x7.2 _ y10) ?_
    refine V_aload_n dX7_weight_50 rfl ?_
    refine V_bipush (v := 24) dX7_weight_51 rfl ?_
    obtain ⟨x11, y12, h⟩ := bi_o h
    refine V_callV (as := [.int 24]) (q := 85) (rest := []) dX7_weight_53 ov_mX7_laysSizes lk_RX7_270 (by decide) (by decide) rfl rfl (Nat.le_of_ble_eq_true rfl) (tq_85 hG) rfl (VM_X7_laysSizes G fu hG 24 x9 _ y12) ?_
    refine V_aload_n dX7_weight_56 rfl ?_
    refine V_getR (kf := 36) k_X7 (by decide) lk_RX7_109 rfl dX7_weight_57 (tq_85 hG) rfl ?_
    refine V_iload dX7_weight_60 rfl ?_
    obtain ⟨g13, h⟩ := gu_o h
    refine V_laload dX7_weight_62 (tq_116 hG) (ib_in g13) ?_
    cases h
    exact V_lret rfl dX7_weight_63
  · rw [if_neg c38] at h
    refine V_ifne_f (tgt := 43) dX7_weight_38 (by decide) (b2i_f.mp c38) ?_
    refine V_lconst (v := 0) dX7_weight_41 rfl ?_
    cases h
    exact V_lret rfl dX7_weight_42
def D_X7_weight_32 (fu : Nat)  (v1 : Int32) (v2 : Int32) (v3 : Int32) (v4 : Int32) (μ : Mem) : Option (Int64 × Mem) :=
  D_X7_weight_33 fu v1 v2 v3 v4 0 μ
set_option maxRecDepth 20000 in
theorem T_X7_weight_32 (G : GX) (fu : Nat)  (hG : gt G = tbl) : ∀ (v1 : Int32) (v2 : Int32) (v3 : Int32) (v4 : Int32) (μ : Mem) (r : (Int64 × Mem)) , D_X7_weight_32 fu v1 v2 v3 v4 μ = some r → V G mX7_weight 32 [some (.ref 85), some (.int v1), some (.int v2), some (.int v3), some (.int v4)] [.ref 85] μ (.inl (some (.long r.1))) (r.2) := by
  intro v1 v2 v3 v4 μ r h
  unfold D_X7_weight_32 at h
  refine V_iconst (v := 0) dX7_weight_32 rfl ?_
  exact V_wk [true, true, true, true, true] rfl (T_X7_weight_33 G fu hG _ _ _ _ _ _ _ h)
def D_X7_weight_0 (fu : Nat)  (a1 : Int32) (a2 : Int32) (a3 : Int32) (a4 : Int32) (μ : Mem) : Option (Int64 × Mem) :=
  vl (wI μ 85 0 0) fun m1 =>
  (D_X7_areYears_0 m1 a1 a2 a3).bind fun x3 =>
  if x3 = true then
    (D_X7_within_0 m1 ((a4 : Int32).toInt64) 0 11).bind fun x5 =>
    if x5 = true then
      D_X7_weight_33 fu a1 a2 a3 a4 1 m1
    else
      D_X7_weight_32 fu a1 a2 a3 a4 m1
  else
    D_X7_weight_32 fu a1 a2 a3 a4 m1
set_option maxRecDepth 20000 in
theorem T_X7_weight_0 (G : GX) (fu : Nat)  (hG : gt G = tbl) : ∀ (a1 : Int32) (a2 : Int32) (a3 : Int32) (a4 : Int32) (μ : Mem) (r : (Int64 × Mem)) , D_X7_weight_0 fu a1 a2 a3 a4 μ = some r → V G mX7_weight 0 [some (.ref 85), some (.int a1), some (.int a2), some (.int a3), some (.int a4)] [] μ (.inl (some (.long r.1))) (r.2) := by
  intro a1 a2 a3 a4 μ r h
  unfold D_X7_weight_0 at h
  refine V_aload_n dX7_weight_0 rfl ?_
  refine V_iconst (v := 0) dX7_weight_1 rfl ?_
  obtain ⟨m1, e2, h⟩ := vl_o h
  refine V_putI (kf := 0) k_X7 (by decide) lk_RX7_1 rfl rfl (by decide +kernel) dX7_weight_2 (tq_85 hG) rfl e2.symm ?_
  refine V_aload_n dX7_weight_5 rfl ?_
  refine V_iload_n dX7_weight_6 rfl ?_
  refine V_iload_n dX7_weight_7 rfl ?_
  refine V_iload_n dX7_weight_8 rfl ?_
  obtain ⟨x3, y4, h⟩ := bi_o h
  refine V_callS (as := [.int a1, .int a2, .int a3]) (rest := [.ref 85]) dX7_weight_9 os_mX7_areYears rfl lk_RX7_389 (by decide) (by decide) rfl rfl (Nat.le_of_ble_eq_true rfl) (VM_X7_areYears G m1 hG a1 a2 a3 _ y4) ?_
  by_cases c12 : x3 = true
  · rw [if_pos c12] at h
    refine V_ifeq_f (tgt := 32) dX7_weight_12 (by decide) (b2i_t.mp c12) ?_
    refine V_iload dX7_weight_15 rfl ?_
    refine V_i2l dX7_weight_17 ?_
    refine V_lconst (v := 0) dX7_weight_18 rfl ?_
    refine V_ldc2 (v := 11) dX7_weight_19 lk_RX7_350 ?_
    obtain ⟨x5, y6, h⟩ := bi_o h
    refine V_callS (as := [.long ((a4 : Int32).toInt64), .long 0, .long 11]) (rest := [.ref 85]) dX7_weight_22 os_mX7_within rfl lk_RX7_352 (by decide) (by decide) rfl rfl (Nat.le_of_ble_eq_true rfl) (VM_X7_within G m1 hG ((a4 : Int32).toInt64) 0 11 _ y6) ?_
    by_cases c25 : x5 = true
    · rw [if_pos c25] at h
      refine V_ifeq_f (tgt := 32) dX7_weight_25 (by decide) (b2i_t.mp c25) ?_
      refine V_iconst (v := 1) dX7_weight_28 rfl ?_
      refine V_goto (tgt := 33) dX7_weight_29 (by decide) ?_
      exact V_wk [true, true, true, true, true] rfl (T_X7_weight_33 G fu hG _ _ _ _ _ _ _ h)
    · rw [if_neg c25] at h
      refine V_ifeq_t (tgt := 32) dX7_weight_25 (by decide) (b2i_f.mp c25) ?_
      exact V_wk [true, true, true, true, true] rfl (T_X7_weight_32 G fu hG _ _ _ _ _ _ h)
  · rw [if_neg c12] at h
    refine V_ifeq_t (tgt := 32) dX7_weight_12 (by decide) (b2i_f.mp c12) ?_
    exact V_wk [true, true, true, true, true] rfl (T_X7_weight_32 G fu hG _ _ _ _ _ _ h)
theorem VM_X7_weight (G : GX) (fu : Nat)  (hG : gt G = tbl) (a1 : Int32) (a2 : Int32) (a3 : Int32) (a4 : Int32) (μ : Mem) (r : (Int64 × Mem)) (h : D_X7_weight_0 fu a1 a2 a3 a4 μ = some r) : VM G mX7_weight [.ref 85, .int a1, .int a2, .int a3, .int a4] μ (.inl (some (.long r.1))) (r.2) := V_entry ok_mX7_weight rfl rfl (Nat.le_of_ble_eq_true rfl) (T_X7_weight_0 G fu hG a1 a2 a3 a4 μ r h)
def D_X7_picks_25 (fu : Nat)  (v1 : Int32) (v2 : Int32) (v3 : Int32) (v4 : Int32) (s1 : Int32) (μ : Mem) : Option (Int32 × Mem) :=
  (D_X7_needs_0 s1 1 1 μ).bind fun x5 =>
  if x5.1 = true then
    (D_X7_thinks_0 fu v1 v2 v3 x5.2).bind fun x7 =>
    (D_X7_picked_0 fu x7 24 v4).bind fun x9 =>
    some (x9, x7)
  else
    some (0, x5.2)
set_option maxRecDepth 20000 in
theorem T_X7_picks_25 (G : GX) (fu : Nat)  (hG : gt G = tbl) : ∀ (v1 : Int32) (v2 : Int32) (v3 : Int32) (v4 : Int32) (s1 : Int32) (μ : Mem) (r : (Int32 × Mem)) , D_X7_picks_25 fu v1 v2 v3 v4 s1 μ = some r → V G mX7_picks 25 [some (.ref 85), some (.int v1), some (.int v2), some (.int v3), some (.int v4)] [.int s1, .ref 85] μ (.inl (some (.int r.1))) (r.2) := by
  intro v1 v2 v3 v4 s1 μ r h
  unfold D_X7_picks_25 at h
  refine V_iconst (v := 1) dX7_picks_25 rfl ?_
  refine V_iconst (v := 1) dX7_picks_26 rfl ?_
  obtain ⟨x5, y6, h⟩ := bi_o h
  refine V_callV (as := [.int s1, .int 1, .int 1]) (q := 85) (rest := []) dX7_picks_27 ov_mX7_needs lk_RX7_346 (by decide) (by decide) rfl rfl (Nat.le_of_ble_eq_true rfl) (tq_85 hG) rfl (VM_X7_needs G hG s1 1 1 μ _ y6) ?_
  by_cases c30 : x5.1 = true
  · rw [if_pos c30] at h
    refine V_ifne_t (tgt := 35) dX7_picks_30 (by decide) (b2i_t.mp c30) ?_
    refine V_aload_n dX7_picks_35 rfl ?_
    refine V_iload_n dX7_picks_36 rfl ?_
    refine V_iload_n dX7_picks_37 rfl ?_
    refine V_iload_n dX7_picks_38 rfl ?_
    obtain ⟨x7, y8, h⟩ := bi_o h
    refine V_callV (as := [.int v1, .int v2, .int v3]) (q := 85) (rest := []) dX7_picks_39 ov_mX7_thinks lk_RX7_446 (by decide) (by decide) rfl rfl (Nat.le_of_ble_eq_true rfl) (tq_85 hG) rfl (VM_X7_thinks G fu hG v1 v2 v3 x5.2 _ y8) ?_
    refine V_aload_n dX7_picks_42 rfl ?_
    refine V_bipush (v := 24) dX7_picks_43 rfl ?_
    refine V_iload dX7_picks_45 rfl ?_
    obtain ⟨x9, y10, h⟩ := bi_o h
    refine V_callV (as := [.int 24, .int v4]) (q := 85) (rest := []) dX7_picks_47 ov_mX7_picked lk_RX7_225 (by decide) (by decide) rfl rfl (Nat.le_of_ble_eq_true rfl) (tq_85 hG) rfl (VM_X7_picked G fu x7 hG 24 v4 _ y10) ?_
    cases h
    exact V_iret rfl dX7_picks_50
  · rw [if_neg c30] at h
    refine V_ifne_f (tgt := 35) dX7_picks_30 (by decide) (b2i_f.mp c30) ?_
    refine V_iconst (v := 0) dX7_picks_33 rfl ?_
    cases h
    exact V_iret rfl dX7_picks_34
def D_X7_picks_24 (fu : Nat)  (v1 : Int32) (v2 : Int32) (v3 : Int32) (v4 : Int32) (μ : Mem) : Option (Int32 × Mem) :=
  D_X7_picks_25 fu v1 v2 v3 v4 0 μ
set_option maxRecDepth 20000 in
theorem T_X7_picks_24 (G : GX) (fu : Nat)  (hG : gt G = tbl) : ∀ (v1 : Int32) (v2 : Int32) (v3 : Int32) (v4 : Int32) (μ : Mem) (r : (Int32 × Mem)) , D_X7_picks_24 fu v1 v2 v3 v4 μ = some r → V G mX7_picks 24 [some (.ref 85), some (.int v1), some (.int v2), some (.int v3), some (.int v4)] [.ref 85] μ (.inl (some (.int r.1))) (r.2) := by
  intro v1 v2 v3 v4 μ r h
  unfold D_X7_picks_24 at h
  refine V_iconst (v := 0) dX7_picks_24 rfl ?_
  exact V_wk [true, true, true, true, true] rfl (T_X7_picks_25 G fu hG _ _ _ _ _ _ _ h)
def D_X7_picks_0 (fu : Nat)  (a1 : Int32) (a2 : Int32) (a3 : Int32) (a4 : Int32) (μ : Mem) : Option (Int32 × Mem) :=
  vl (wI μ 85 0 0) fun m1 =>
  (D_X7_areYears_0 m1 a1 a2 a3).bind fun x3 =>
  if x3 = true then
    if a4 < 0 then
      D_X7_picks_24 fu a1 a2 a3 a4 m1
    else
      D_X7_picks_25 fu a1 a2 a3 a4 1 m1
  else
    D_X7_picks_24 fu a1 a2 a3 a4 m1
set_option maxRecDepth 20000 in
theorem T_X7_picks_0 (G : GX) (fu : Nat)  (hG : gt G = tbl) : ∀ (a1 : Int32) (a2 : Int32) (a3 : Int32) (a4 : Int32) (μ : Mem) (r : (Int32 × Mem)) , D_X7_picks_0 fu a1 a2 a3 a4 μ = some r → V G mX7_picks 0 [some (.ref 85), some (.int a1), some (.int a2), some (.int a3), some (.int a4)] [] μ (.inl (some (.int r.1))) (r.2) := by
  intro a1 a2 a3 a4 μ r h
  unfold D_X7_picks_0 at h
  refine V_aload_n dX7_picks_0 rfl ?_
  refine V_iconst (v := 0) dX7_picks_1 rfl ?_
  obtain ⟨m1, e2, h⟩ := vl_o h
  refine V_putI (kf := 0) k_X7 (by decide) lk_RX7_1 rfl rfl (by decide +kernel) dX7_picks_2 (tq_85 hG) rfl e2.symm ?_
  refine V_aload_n dX7_picks_5 rfl ?_
  refine V_iload_n dX7_picks_6 rfl ?_
  refine V_iload_n dX7_picks_7 rfl ?_
  refine V_iload_n dX7_picks_8 rfl ?_
  obtain ⟨x3, y4, h⟩ := bi_o h
  refine V_callS (as := [.int a1, .int a2, .int a3]) (rest := [.ref 85]) dX7_picks_9 os_mX7_areYears rfl lk_RX7_389 (by decide) (by decide) rfl rfl (Nat.le_of_ble_eq_true rfl) (VM_X7_areYears G m1 hG a1 a2 a3 _ y4) ?_
  by_cases c12 : x3 = true
  · rw [if_pos c12] at h
    refine V_ifeq_f (tgt := 24) dX7_picks_12 (by decide) (b2i_t.mp c12) ?_
    refine V_iload dX7_picks_15 rfl ?_
    by_cases c17 : a4 < 0
    · rw [if_pos c17] at h
      refine V_iflt_t (tgt := 24) dX7_picks_17 (by decide) c17 ?_
      exact V_wk [true, true, true, true, true] rfl (T_X7_picks_24 G fu hG _ _ _ _ _ _ h)
    · rw [if_neg c17] at h
      refine V_iflt_f (tgt := 24) dX7_picks_17 (by decide) c17 ?_
      refine V_iconst (v := 1) dX7_picks_20 rfl ?_
      refine V_goto (tgt := 25) dX7_picks_21 (by decide) ?_
      exact V_wk [true, true, true, true, true] rfl (T_X7_picks_25 G fu hG _ _ _ _ _ _ _ h)
  · rw [if_neg c12] at h
    refine V_ifeq_t (tgt := 24) dX7_picks_12 (by decide) (b2i_f.mp c12) ?_
    exact V_wk [true, true, true, true, true] rfl (T_X7_picks_24 G fu hG _ _ _ _ _ _ h)
theorem VM_X7_picks (G : GX) (fu : Nat)  (hG : gt G = tbl) (a1 : Int32) (a2 : Int32) (a3 : Int32) (a4 : Int32) (μ : Mem) (r : (Int32 × Mem)) (h : D_X7_picks_0 fu a1 a2 a3 a4 μ = some r) : VM G mX7_picks [.ref 85, .int a1, .int a2, .int a3, .int a4] μ (.inl (some (.int r.1))) (r.2) := V_entry ok_mX7_picks rfl rfl (Nat.le_of_ble_eq_true rfl) (T_X7_picks_0 G fu hG a1 a2 a3 a4 μ r h)
def D_X7_uneven_58 (fu : Nat)  : Nat → Int32 → Int32 → Int32 → Mem → Option (Int64 × Mem)
  | 0, _, _, _, _ => none
  | n + 1, v4, v5, v6, μ =>
    if (40 : Int32) ≤ v6 then
      (D_X7_laysFair_0 fu 24 ((v4 : Int32).toInt64) μ).bind fun x13 =>
      (D_X7_byFull_0 fu 24 ((v4 : Int32).toInt64) x13).bind fun x15 =>
      gu (ib v5 40) <|
      gu (ib v5 40) <|
      vl ((x15.2.1 118 (Int32.toNatClampNeg v5)) - (x15.2.1 119 (Int32.toNatClampNeg v5)) : Int64) fun x19 =>
      (D_X7_goesOver_0 fu x15).bind fun x21 =>
      some (x19, x21)
    else
      gu (ib v6 40) <|
      vl (wL μ 118 (Int32.toNatClampNeg v6) 0) fun m24 =>
      (D_X7_uneven_58 fu n) v4 v5 (v6 + 1) m24
set_option maxRecDepth 20000 in
theorem T_X7_uneven_58 (G : GX) (fu : Nat)  (hG : gt G = tbl) : ∀ (n : Nat) (v4 : Int32) (v5 : Int32) (v6 : Int32) (μ : Mem) (r : (Int64 × Mem)) , D_X7_uneven_58 fu n v4 v5 v6 μ = some r → V G mX7_uneven 58 [some (.ref 85), none, none, none, some (.int v4), some (.int v5), some (.int v6), none] [] μ (.inl (some (.long r.1))) (r.2) := by
  intro n
  induction n with
  | zero =>
    intro v4 v5 v6 μ r h
    exact nomatch (show (none : Option (Int64 × Mem)) = some r from h)
  | succ n ih =>
    intro v4 v5 v6 μ r h
    rw [D_X7_uneven_58] at h
    refine V_iload dX7_uneven_58 rfl ?_
    refine V_bipush (v := 40) dX7_uneven_60 rfl ?_
    by_cases c62 : (40 : Int32) ≤ v6
    · rw [if_pos c62] at h
      refine V_icmpge_t (tgt := 79) dX7_uneven_62 (by decide) c62 ?_
      refine V_aload_n dX7_uneven_79 rfl ?_
      refine V_bipush (v := 24) dX7_uneven_80 rfl ?_
      refine V_iload dX7_uneven_82 rfl ?_
      refine V_i2l dX7_uneven_84 ?_
      obtain ⟨x13, y14, h⟩ := bi_o h
      refine V_callV (as := [.int 24, .long ((v4 : Int32).toInt64)]) (q := 85) (rest := []) dX7_uneven_85 ov_mX7_laysFair lk_RX7_258 (by decide) (by decide) rfl rfl (Nat.le_of_ble_eq_true rfl) (tq_85 hG) rfl (VM_X7_laysFair G fu hG 24 ((v4 : Int32).toInt64) μ _ y14) ?_
      refine V_aload_n dX7_uneven_88 rfl ?_
      refine V_bipush (v := 24) dX7_uneven_89 rfl ?_
      refine V_iload dX7_uneven_91 rfl ?_
      refine V_i2l dX7_uneven_93 ?_
      obtain ⟨x15, y16, h⟩ := bi_o h
      refine V_callV (as := [.int 24, .long ((v4 : Int32).toInt64)]) (q := 85) (rest := []) dX7_uneven_94 ov_mX7_byFull lk_RX7_261 (by decide) (by decide) rfl rfl (Nat.le_of_ble_eq_true rfl) (tq_85 hG) rfl (VM_X7_byFull G fu hG 24 ((v4 : Int32).toInt64) x13 _ y16) ?_
      refine V_aload_n dX7_uneven_97 rfl ?_
      refine V_getR (kf := 38) k_X7 (by decide) lk_RX7_115 rfl dX7_uneven_98 (tq_85 hG) rfl ?_
      refine V_iload dX7_uneven_101 rfl ?_
      obtain ⟨g17, h⟩ := gu_o h
      refine V_laload dX7_uneven_103 (tq_118 hG) (ib_in g17) ?_
      refine V_aload_n dX7_uneven_104 rfl ?_
      refine V_getR (kf := 39) k_X7 (by decide) lk_RX7_118 rfl dX7_uneven_105 (tq_85 hG) rfl ?_
      refine V_iload dX7_uneven_108 rfl ?_
      obtain ⟨g18, h⟩ := gu_o h
      refine V_laload dX7_uneven_110 (tq_119 hG) (ib_in g18) ?_
      refine V_lsub dX7_uneven_111 ?_
      obtain ⟨x19, e20, h⟩ := vl_o h
      refine V_topl e20 ?_
      refine V_lstore (lv2 := [some (.ref 85), none, none, none, some (.int v4), some (.int v5), some (.long x19), none]) dX7_uneven_112 (by decide) rfl ?_
      refine V_aload_n dX7_uneven_114 rfl ?_
      obtain ⟨x21, y22, h⟩ := bi_o h
      refine V_callV (as := []) (q := 85) (rest := []) dX7_uneven_115 ov_mX7_goesOver lk_RX7_403 (by decide) (by decide) rfl rfl (Nat.le_of_ble_eq_true rfl) (tq_85 hG) rfl (VM_X7_goesOver G fu hG x15 _ y22) ?_
      refine V_lload dX7_uneven_118 rfl ?_
      cases h
      exact V_lret rfl dX7_uneven_120
    · rw [if_neg c62] at h
      refine V_icmpge_f (tgt := 79) dX7_uneven_62 (by decide) c62 ?_
      refine V_aload_n dX7_uneven_65 rfl ?_
      refine V_getR (kf := 38) k_X7 (by decide) lk_RX7_115 rfl dX7_uneven_66 (tq_85 hG) rfl ?_
      refine V_iload dX7_uneven_69 rfl ?_
      refine V_lconst (v := 0) dX7_uneven_71 rfl ?_
      obtain ⟨g23, h⟩ := gu_o h
      obtain ⟨m24, e25, h⟩ := vl_o h
      refine V_lastore (μ2 := m24) dX7_uneven_72 (tq_118 hG) (ib_in g23) e25.symm ?_
      refine V_iinc (v := v6 + 1) (lv2 := [some (.ref 85), none, none, none, some (.int v4), some (.int v5), some (.int (v6 + 1)), none]) dX7_uneven_73 rfl rfl (by decide) rfl ?_
      refine V_goto (tgt := 58) dX7_uneven_76 (by decide) ?_
      exact V_wk [true, false, false, false, true, true, true, false] rfl (ih _ _ _ _ _ h)
def D_X7_uneven_38 (fu : Nat)  (v1 : Int32) (v2 : Int32) (v3 : Int32) (v4 : Int32) (v5 : Int32) (s1 : Int32) (μ : Mem) : Option (Int64 × Mem) :=
  (D_X7_needs_0 s1 2 1 μ).bind fun x9 =>
  if x9.1 = true then
    (D_X7_thinks_0 fu v1 v2 v3 x9.2).bind fun x11 =>
    D_X7_uneven_58 fu fu v4 v5 0 x11
  else
    some (0, x9.2)
set_option maxRecDepth 20000 in
theorem T_X7_uneven_38 (G : GX) (fu : Nat)  (hG : gt G = tbl) : ∀ (v1 : Int32) (v2 : Int32) (v3 : Int32) (v4 : Int32) (v5 : Int32) (s1 : Int32) (μ : Mem) (r : (Int64 × Mem)) , D_X7_uneven_38 fu v1 v2 v3 v4 v5 s1 μ = some r → V G mX7_uneven 38 [some (.ref 85), some (.int v1), some (.int v2), some (.int v3), some (.int v4), some (.int v5), none, none] [.int s1, .ref 85] μ (.inl (some (.long r.1))) (r.2) := by
  intro v1 v2 v3 v4 v5 s1 μ r h
  unfold D_X7_uneven_38 at h
  refine V_iconst (v := 2) dX7_uneven_38 rfl ?_
  refine V_iconst (v := 1) dX7_uneven_39 rfl ?_
  obtain ⟨x9, y10, h⟩ := bi_o h
  refine V_callV (as := [.int s1, .int 2, .int 1]) (q := 85) (rest := []) dX7_uneven_40 ov_mX7_needs lk_RX7_346 (by decide) (by decide) rfl rfl (Nat.le_of_ble_eq_true rfl) (tq_85 hG) rfl (VM_X7_needs G hG s1 2 1 μ _ y10) ?_
  by_cases c43 : x9.1 = true
  · rw [if_pos c43] at h
    refine V_ifne_t (tgt := 48) dX7_uneven_43 (by decide) (b2i_t.mp c43) ?_
    refine V_aload_n dX7_uneven_48 rfl ?_
    refine V_iload_n dX7_uneven_49 rfl ?_
    refine V_iload_n dX7_uneven_50 rfl ?_
    refine V_iload_n dX7_uneven_51 rfl ?_
    obtain ⟨x11, y12, h⟩ := bi_o h
    refine V_callV (as := [.int v1, .int v2, .int v3]) (q := 85) (rest := []) dX7_uneven_52 ov_mX7_thinks lk_RX7_446 (by decide) (by decide) rfl rfl (Nat.le_of_ble_eq_true rfl) (tq_85 hG) rfl (VM_X7_thinks G fu hG v1 v2 v3 x9.2 _ y12) ?_
    refine V_iconst (v := 0) dX7_uneven_55 rfl ?_
    refine V_istore (lv2 := [some (.ref 85), some (.int v1), some (.int v2), some (.int v3), some (.int v4), some (.int v5), some (.int 0), none]) dX7_uneven_56 (by decide) rfl ?_
    exact V_wk [true, false, false, false, true, true, true, false] rfl (T_X7_uneven_58 G fu hG fu _ _ _ _ _ h)
  · rw [if_neg c43] at h
    refine V_ifne_f (tgt := 48) dX7_uneven_43 (by decide) (b2i_f.mp c43) ?_
    refine V_lconst (v := 0) dX7_uneven_46 rfl ?_
    cases h
    exact V_lret rfl dX7_uneven_47
def D_X7_uneven_37 (fu : Nat)  (v1 : Int32) (v2 : Int32) (v3 : Int32) (v4 : Int32) (v5 : Int32) (μ : Mem) : Option (Int64 × Mem) :=
  D_X7_uneven_38 fu v1 v2 v3 v4 v5 0 μ
set_option maxRecDepth 20000 in
theorem T_X7_uneven_37 (G : GX) (fu : Nat)  (hG : gt G = tbl) : ∀ (v1 : Int32) (v2 : Int32) (v3 : Int32) (v4 : Int32) (v5 : Int32) (μ : Mem) (r : (Int64 × Mem)) , D_X7_uneven_37 fu v1 v2 v3 v4 v5 μ = some r → V G mX7_uneven 37 [some (.ref 85), some (.int v1), some (.int v2), some (.int v3), some (.int v4), some (.int v5), none, none] [.ref 85] μ (.inl (some (.long r.1))) (r.2) := by
  intro v1 v2 v3 v4 v5 μ r h
  unfold D_X7_uneven_37 at h
  refine V_iconst (v := 0) dX7_uneven_37 rfl ?_
  exact V_wk [true, true, true, true, true, true, false, false] rfl (T_X7_uneven_38 G fu hG _ _ _ _ _ _ _ _ h)
def D_X7_uneven_0 (fu : Nat)  (a1 : Int32) (a2 : Int32) (a3 : Int32) (a4 : Int32) (a5 : Int32) (μ : Mem) : Option (Int64 × Mem) :=
  vl (wI μ 85 0 0) fun m1 =>
  (D_X7_isOne_0 a5 1 m1).bind fun x3 =>
  if x3.1 = true then
    (D_X7_areYears_0 x3.2 a1 a2 a3).bind fun x5 =>
    if x5 = true then
      (D_X7_isLoss_0 x3.2 a4).bind fun x7 =>
      if x7 = true then
        D_X7_uneven_38 fu a1 a2 a3 a4 a5 1 x3.2
      else
        D_X7_uneven_37 fu a1 a2 a3 a4 a5 x3.2
    else
      D_X7_uneven_37 fu a1 a2 a3 a4 a5 x3.2
  else
    some (0, x3.2)
set_option maxRecDepth 20000 in
theorem T_X7_uneven_0 (G : GX) (fu : Nat)  (hG : gt G = tbl) : ∀ (a1 : Int32) (a2 : Int32) (a3 : Int32) (a4 : Int32) (a5 : Int32) (μ : Mem) (r : (Int64 × Mem)) , D_X7_uneven_0 fu a1 a2 a3 a4 a5 μ = some r → V G mX7_uneven 0 [some (.ref 85), some (.int a1), some (.int a2), some (.int a3), some (.int a4), some (.int a5), none, none] [] μ (.inl (some (.long r.1))) (r.2) := by
  intro a1 a2 a3 a4 a5 μ r h
  unfold D_X7_uneven_0 at h
  refine V_aload_n dX7_uneven_0 rfl ?_
  refine V_iconst (v := 0) dX7_uneven_1 rfl ?_
  obtain ⟨m1, e2, h⟩ := vl_o h
  refine V_putI (kf := 0) k_X7 (by decide) lk_RX7_1 rfl rfl (by decide +kernel) dX7_uneven_2 (tq_85 hG) rfl e2.symm ?_
  refine V_aload_n dX7_uneven_5 rfl ?_
  refine V_iload dX7_uneven_6 rfl ?_
  refine V_iconst (v := 1) dX7_uneven_8 rfl ?_
  obtain ⟨x3, y4, h⟩ := bi_o h
  refine V_callV (as := [.int a5, .int 1]) (q := 85) (rest := []) dX7_uneven_9 ov_mX7_isOne lk_RX7_374 (by decide) (by decide) rfl rfl (Nat.le_of_ble_eq_true rfl) (tq_85 hG) rfl (VM_X7_isOne G hG a5 1 m1 _ y4) ?_
  by_cases c12 : x3.1 = true
  · rw [if_pos c12] at h
    refine V_ifeq_f (tgt := 46) dX7_uneven_12 (by decide) (b2i_t.mp c12) ?_
    refine V_aload_n dX7_uneven_15 rfl ?_
    refine V_iload_n dX7_uneven_16 rfl ?_
    refine V_iload_n dX7_uneven_17 rfl ?_
    refine V_iload_n dX7_uneven_18 rfl ?_
    obtain ⟨x5, y6, h⟩ := bi_o h
    refine V_callS (as := [.int a1, .int a2, .int a3]) (rest := [.ref 85]) dX7_uneven_19 os_mX7_areYears rfl lk_RX7_389 (by decide) (by decide) rfl rfl (Nat.le_of_ble_eq_true rfl) (VM_X7_areYears G x3.2 hG a1 a2 a3 _ y6) ?_
    by_cases c22 : x5 = true
    · rw [if_pos c22] at h
      refine V_ifeq_f (tgt := 37) dX7_uneven_22 (by decide) (b2i_t.mp c22) ?_
      refine V_iload dX7_uneven_25 rfl ?_
      obtain ⟨x7, y8, h⟩ := bi_o h
      refine V_callS (as := [.int a4]) (rest := [.ref 85]) dX7_uneven_27 os_mX7_isLoss rfl lk_RX7_392 (by decide) (by decide) rfl rfl (Nat.le_of_ble_eq_true rfl) (VM_X7_isLoss G x3.2 hG a4 _ y8) ?_
      by_cases c30 : x7 = true
      · rw [if_pos c30] at h
        refine V_ifeq_f (tgt := 37) dX7_uneven_30 (by decide) (b2i_t.mp c30) ?_
        refine V_iconst (v := 1) dX7_uneven_33 rfl ?_
        refine V_goto (tgt := 38) dX7_uneven_34 (by decide) ?_
        exact V_wk [true, true, true, true, true, true, false, false] rfl (T_X7_uneven_38 G fu hG _ _ _ _ _ _ _ _ h)
      · rw [if_neg c30] at h
        refine V_ifeq_t (tgt := 37) dX7_uneven_30 (by decide) (b2i_f.mp c30) ?_
        exact V_wk [true, true, true, true, true, true, false, false] rfl (T_X7_uneven_37 G fu hG _ _ _ _ _ _ _ h)
    · rw [if_neg c22] at h
      refine V_ifeq_t (tgt := 37) dX7_uneven_22 (by decide) (b2i_f.mp c22) ?_
      exact V_wk [true, true, true, true, true, true, false, false] rfl (T_X7_uneven_37 G fu hG _ _ _ _ _ _ _ h)
  · rw [if_neg c12] at h
    refine V_ifeq_t (tgt := 46) dX7_uneven_12 (by decide) (b2i_f.mp c12) ?_
    refine V_lconst (v := 0) dX7_uneven_46 rfl ?_
    cases h
    exact V_lret rfl dX7_uneven_47
theorem VM_X7_uneven (G : GX) (fu : Nat)  (hG : gt G = tbl) (a1 : Int32) (a2 : Int32) (a3 : Int32) (a4 : Int32) (a5 : Int32) (μ : Mem) (r : (Int64 × Mem)) (h : D_X7_uneven_0 fu a1 a2 a3 a4 a5 μ = some r) : VM G mX7_uneven [.ref 85, .int a1, .int a2, .int a3, .int a4, .int a5] μ (.inl (some (.long r.1))) (r.2) := V_entry ok_mX7_uneven rfl rfl (Nat.le_of_ble_eq_true rfl) (T_X7_uneven_0 G fu hG a1 a2 a3 a4 a5 μ r h)
def D_X7_behind_0 (fu : Nat)  (a1 : Int32) (μ : Mem) : Option (Int64 × Mem) :=
  (D_X7_bearsAll_0 fu μ a1).bind fun x1 =>
  (D_X7_goesOver_0 fu μ).bind fun x3 =>
  some (x1, x3)
set_option maxRecDepth 20000 in
theorem T_X7_behind_0 (G : GX) (fu : Nat)  (hG : gt G = tbl) : ∀ (a1 : Int32) (μ : Mem) (r : (Int64 × Mem)) , D_X7_behind_0 fu a1 μ = some r → V G mX7_behind 0 [some (.ref 85), some (.int a1), none, none] [] μ (.inl (some (.long r.1))) (r.2) := by
  intro a1 μ r h
  unfold D_X7_behind_0 at h
  refine V_aload_n dX7_behind_0 rfl ?_
  refine V_iload_n dX7_behind_1 rfl ?_
  obtain ⟨x1, y2, h⟩ := bi_o h
  refine V_callV (as := [.int a1]) (q := 85) (rest := []) dX7_behind_2 ov_mX7_bearsAll lk_RX7_437 (by decide) (by decide) rfl rfl (Nat.le_of_ble_eq_true rfl) (tq_85 hG) rfl (VM_X7_bearsAll G fu μ hG a1 _ y2) ?_
  refine V_lstore_n (lv2 := [some (.ref 85), some (.int a1), some (.long x1), none]) dX7_behind_5 (by decide) rfl ?_
  refine V_aload_n dX7_behind_6 rfl ?_
  obtain ⟨x3, y4, h⟩ := bi_o h
  refine V_callV (as := []) (q := 85) (rest := []) dX7_behind_7 ov_mX7_goesOver lk_RX7_403 (by decide) (by decide) rfl rfl (Nat.le_of_ble_eq_true rfl) (tq_85 hG) rfl (VM_X7_goesOver G fu hG μ _ y4) ?_
  refine V_lload_n dX7_behind_10 rfl ?_
  cases h
  exact V_lret rfl dX7_behind_11
theorem VM_X7_behind (G : GX) (fu : Nat)  (hG : gt G = tbl) (a1 : Int32) (μ : Mem) (r : (Int64 × Mem)) (h : D_X7_behind_0 fu a1 μ = some r) : VM G mX7_behind [.ref 85, .int a1] μ (.inl (some (.long r.1))) (r.2) := V_entry ok_mX7_behind rfl rfl (Nat.le_of_ble_eq_true rfl) (T_X7_behind_0 G fu hG a1 μ r h)
def D_X7_isPerson_0  (a1 : Int32) (a2 : Int32) (μ : Mem) : Option (Bool × Mem) :=
  (D_X7_within_0 μ ((a1 : Int32).toInt64) 0 9).bind fun x1 =>
  (D_X7_needs_0 (b2i x1) a2 1 μ).bind fun x3 =>
  some (x3.1, x3.2)
set_option maxRecDepth 20000 in
theorem T_X7_isPerson_0 (G : GX)  (hG : gt G = tbl) : ∀ (a1 : Int32) (a2 : Int32) (μ : Mem) (r : (Bool × Mem)) , D_X7_isPerson_0  a1 a2 μ = some r → V G mX7_isPerson 0 [some (.ref 85), some (.int a1), some (.int a2)] [] μ (.inl (some (.int (b2i r.1)))) (r.2) := by
  intro a1 a2 μ r h
  unfold D_X7_isPerson_0 at h
  refine V_aload_n dX7_isPerson_0 rfl ?_
  refine V_iload_n dX7_isPerson_1 rfl ?_
  refine V_i2l dX7_isPerson_2 ?_
  refine V_lconst (v := 0) dX7_isPerson_3 rfl ?_
  refine V_ldc2 (v := 9) dX7_isPerson_4 lk_RX7_377 ?_
  obtain ⟨x1, y2, h⟩ := bi_o h
  refine V_callS (as := [.long ((a1 : Int32).toInt64), .long 0, .long 9]) (rest := [.ref 85]) dX7_isPerson_7 os_mX7_within rfl lk_RX7_352 (by decide) (by decide) rfl rfl (Nat.le_of_ble_eq_true rfl) (VM_X7_within G μ hG ((a1 : Int32).toInt64) 0 9 _ y2) ?_
  refine V_iload_n dX7_isPerson_10 rfl ?_
  refine V_iconst (v := 1) dX7_isPerson_11 rfl ?_
  obtain ⟨x3, y4, h⟩ := bi_o h
  refine V_callV (as := [.int (b2i x1), .int a2, .int 1]) (q := 85) (rest := []) dX7_isPerson_12 ov_mX7_needs lk_RX7_346 (by decide) (by decide) rfl rfl (Nat.le_of_ble_eq_true rfl) (tq_85 hG) rfl (VM_X7_needs G hG (b2i x1) a2 1 μ _ y4) ?_
  cases h
  exact V_zret rfl (b2i_nar _) dX7_isPerson_15
theorem VM_X7_isPerson (G : GX)  (hG : gt G = tbl) (a1 : Int32) (a2 : Int32) (μ : Mem) (r : (Bool × Mem)) (h : D_X7_isPerson_0  a1 a2 μ = some r) : VM G mX7_isPerson [.ref 85, .int a1, .int a2] μ (.inl (some (.int (b2i r.1)))) (r.2) := V_entry ok_mX7_isPerson rfl rfl (Nat.le_of_ble_eq_true rfl) (T_X7_isPerson_0 G hG a1 a2 μ r h)
def D_X7_other_33 (fu : Nat)  (v1 : Int32) (v2 : Int32) (v3 : Int32) (v4 : Int32) (s1 : Int32) (μ : Mem) : Option (Int64 × Mem) :=
  (D_X7_needs_0 s1 1 1 μ).bind fun x7 =>
  if x7.1 = true then
    (D_X7_goesBy_0 fu v1 v2 v3 x7.2).bind fun x9 =>
    (D_X7_behind_0 fu v4 x9).bind fun x11 =>
    some (x11.1, x11.2)
  else
    some (0, x7.2)
set_option maxRecDepth 20000 in
theorem T_X7_other_33 (G : GX) (fu : Nat)  (hG : gt G = tbl) : ∀ (v1 : Int32) (v2 : Int32) (v3 : Int32) (v4 : Int32) (s1 : Int32) (μ : Mem) (r : (Int64 × Mem)) , D_X7_other_33 fu v1 v2 v3 v4 s1 μ = some r → V G mX7_other 33 [some (.ref 85), some (.int v1), some (.int v2), some (.int v3), some (.int v4)] [.int s1, .ref 85] μ (.inl (some (.long r.1))) (r.2) := by
  intro v1 v2 v3 v4 s1 μ r h
  unfold D_X7_other_33 at h
  refine V_iconst (v := 1) dX7_other_33 rfl ?_
  refine V_iconst (v := 1) dX7_other_34 rfl ?_
  obtain ⟨x7, y8, h⟩ := bi_o h
  refine V_callV (as := [.int s1, .int 1, .int 1]) (q := 85) (rest := []) dX7_other_35 ov_mX7_needs lk_RX7_346 (by decide) (by decide) rfl rfl (Nat.le_of_ble_eq_true rfl) (tq_85 hG) rfl (VM_X7_needs G hG s1 1 1 μ _ y8) ?_
  by_cases c38 : x7.1 = true
  · rw [if_pos c38] at h
    refine V_ifne_t (tgt := 43) dX7_other_38 (by decide) (b2i_t.mp c38) ?_
    refine V_aload_n dX7_other_43 rfl ?_
    refine V_iload_n dX7_other_44 rfl ?_
    refine V_iload_n dX7_other_45 rfl ?_
    refine V_iload_n dX7_other_46 rfl ?_
    obtain ⟨x9, y10, h⟩ := bi_o h
    refine V_callV (as := [.int v1, .int v2, .int v3]) (q := 85) (rest := []) dX7_other_47 ov_mX7_goesBy lk_RX7_453 (by decide) (by decide) rfl rfl (Nat.le_of_ble_eq_true rfl) (tq_85 hG) rfl (VM_X7_goesBy G fu hG v1 v2 v3 x7.2 _ y10) ?_
    refine V_aload_n dX7_other_50 rfl ?_
    refine V_iload dX7_other_51 rfl ?_
    obtain ⟨x11, y12, h⟩ := bi_o h
    refine V_callV (as := [.int v4]) (q := 85) (rest := []) dX7_other_53 ov_mX7_behind lk_RX7_456 (by decide) (by decide) rfl rfl (Nat.le_of_ble_eq_true rfl) (tq_85 hG) rfl (VM_X7_behind G fu hG v4 x9 _ y12) ?_
    cases h
    exact V_lret rfl dX7_other_56
  · rw [if_neg c38] at h
    refine V_ifne_f (tgt := 43) dX7_other_38 (by decide) (b2i_f.mp c38) ?_
    refine V_lconst (v := 0) dX7_other_41 rfl ?_
    cases h
    exact V_lret rfl dX7_other_42
def D_X7_other_32 (fu : Nat)  (v1 : Int32) (v2 : Int32) (v3 : Int32) (v4 : Int32) (μ : Mem) : Option (Int64 × Mem) :=
  D_X7_other_33 fu v1 v2 v3 v4 0 μ
set_option maxRecDepth 20000 in
theorem T_X7_other_32 (G : GX) (fu : Nat)  (hG : gt G = tbl) : ∀ (v1 : Int32) (v2 : Int32) (v3 : Int32) (v4 : Int32) (μ : Mem) (r : (Int64 × Mem)) , D_X7_other_32 fu v1 v2 v3 v4 μ = some r → V G mX7_other 32 [some (.ref 85), some (.int v1), some (.int v2), some (.int v3), some (.int v4)] [.ref 85] μ (.inl (some (.long r.1))) (r.2) := by
  intro v1 v2 v3 v4 μ r h
  unfold D_X7_other_32 at h
  refine V_iconst (v := 0) dX7_other_32 rfl ?_
  exact V_wk [true, true, true, true, true] rfl (T_X7_other_33 G fu hG _ _ _ _ _ _ _ h)
def D_X7_other_0 (fu : Nat)  (a1 : Int32) (a2 : Int32) (a3 : Int32) (a4 : Int32) (μ : Mem) : Option (Int64 × Mem) :=
  vl (wI μ 85 0 0) fun m1 =>
  (D_X7_areRules_0 m1 a1 a2 a3).bind fun x3 =>
  if x3 = true then
    (D_X7_within_0 m1 ((a4 : Int32).toInt64) 0 9).bind fun x5 =>
    if x5 = true then
      D_X7_other_33 fu a1 a2 a3 a4 1 m1
    else
      D_X7_other_32 fu a1 a2 a3 a4 m1
  else
    D_X7_other_32 fu a1 a2 a3 a4 m1
set_option maxRecDepth 20000 in
theorem T_X7_other_0 (G : GX) (fu : Nat)  (hG : gt G = tbl) : ∀ (a1 : Int32) (a2 : Int32) (a3 : Int32) (a4 : Int32) (μ : Mem) (r : (Int64 × Mem)) , D_X7_other_0 fu a1 a2 a3 a4 μ = some r → V G mX7_other 0 [some (.ref 85), some (.int a1), some (.int a2), some (.int a3), some (.int a4)] [] μ (.inl (some (.long r.1))) (r.2) := by
  intro a1 a2 a3 a4 μ r h
  unfold D_X7_other_0 at h
  refine V_aload_n dX7_other_0 rfl ?_
  refine V_iconst (v := 0) dX7_other_1 rfl ?_
  obtain ⟨m1, e2, h⟩ := vl_o h
  refine V_putI (kf := 0) k_X7 (by decide) lk_RX7_1 rfl rfl (by decide +kernel) dX7_other_2 (tq_85 hG) rfl e2.symm ?_
  refine V_aload_n dX7_other_5 rfl ?_
  refine V_iload_n dX7_other_6 rfl ?_
  refine V_iload_n dX7_other_7 rfl ?_
  refine V_iload_n dX7_other_8 rfl ?_
  obtain ⟨x3, y4, h⟩ := bi_o h
  refine V_callS (as := [.int a1, .int a2, .int a3]) (rest := [.ref 85]) dX7_other_9 os_mX7_areRules rfl lk_RX7_384 (by decide) (by decide) rfl rfl (Nat.le_of_ble_eq_true rfl) (VM_X7_areRules G m1 hG a1 a2 a3 _ y4) ?_
  by_cases c12 : x3 = true
  · rw [if_pos c12] at h
    refine V_ifeq_f (tgt := 32) dX7_other_12 (by decide) (b2i_t.mp c12) ?_
    refine V_iload dX7_other_15 rfl ?_
    refine V_i2l dX7_other_17 ?_
    refine V_lconst (v := 0) dX7_other_18 rfl ?_
    refine V_ldc2 (v := 9) dX7_other_19 lk_RX7_377 ?_
    obtain ⟨x5, y6, h⟩ := bi_o h
    refine V_callS (as := [.long ((a4 : Int32).toInt64), .long 0, .long 9]) (rest := [.ref 85]) dX7_other_22 os_mX7_within rfl lk_RX7_352 (by decide) (by decide) rfl rfl (Nat.le_of_ble_eq_true rfl) (VM_X7_within G m1 hG ((a4 : Int32).toInt64) 0 9 _ y6) ?_
    by_cases c25 : x5 = true
    · rw [if_pos c25] at h
      refine V_ifeq_f (tgt := 32) dX7_other_25 (by decide) (b2i_t.mp c25) ?_
      refine V_iconst (v := 1) dX7_other_28 rfl ?_
      refine V_goto (tgt := 33) dX7_other_29 (by decide) ?_
      exact V_wk [true, true, true, true, true] rfl (T_X7_other_33 G fu hG _ _ _ _ _ _ _ h)
    · rw [if_neg c25] at h
      refine V_ifeq_t (tgt := 32) dX7_other_25 (by decide) (b2i_f.mp c25) ?_
      exact V_wk [true, true, true, true, true] rfl (T_X7_other_32 G fu hG _ _ _ _ _ _ h)
  · rw [if_neg c12] at h
    refine V_ifeq_t (tgt := 32) dX7_other_12 (by decide) (b2i_f.mp c12) ?_
    exact V_wk [true, true, true, true, true] rfl (T_X7_other_32 G fu hG _ _ _ _ _ _ h)
theorem VM_X7_other (G : GX) (fu : Nat)  (hG : gt G = tbl) (a1 : Int32) (a2 : Int32) (a3 : Int32) (a4 : Int32) (μ : Mem) (r : (Int64 × Mem)) (h : D_X7_other_0 fu a1 a2 a3 a4 μ = some r) : VM G mX7_other [.ref 85, .int a1, .int a2, .int a3, .int a4] μ (.inl (some (.long r.1))) (r.2) := V_entry ok_mX7_other rfl rfl (Nat.le_of_ble_eq_true rfl) (T_X7_other_0 G fu hG a1 a2 a3 a4 μ r h)
def D_X7_best_108 (fu : Nat)  (k53 : Int32 → Int32 → Int32 → Int64 → Int32 → Mem → Option (Int64 × Mem)) (v1 : Int32) (v2 : Int32) (v3 : Int32) (v4 : Int64) (v6 : Int32) (μ : Mem) : Option (Int64 × Mem) :=
  k53 v1 v2 v3 v4 (v6 + 1) μ
set_option maxRecDepth 20000 in
theorem T_X7_best_108 (G : GX) (fu : Nat)  (hG : gt G = tbl) (k53 : Int32 → Int32 → Int32 → Int64 → Int32 → Mem → Option (Int64 × Mem)) (hk53 : ∀ (v1 : Int32) (v2 : Int32) (v3 : Int32) (v4 : Int64) (v6 : Int32) (μ : Mem) (r : (Int64 × Mem)), k53 v1 v2 v3 v4 v6 μ = some r → V G mX7_best 53 [some (.ref 85), some (.int v1), some (.int v2), some (.int v3), some (.long v4), none, some (.int v6)] [] μ (.inl (some (.long r.1))) (r.2)) : ∀ (v1 : Int32) (v2 : Int32) (v3 : Int32) (v4 : Int64) (v6 : Int32) (μ : Mem) (r : (Int64 × Mem)) , D_X7_best_108 fu k53 v1 v2 v3 v4 v6 μ = some r → V G mX7_best 108 [some (.ref 85), some (.int v1), some (.int v2), some (.int v3), some (.long v4), none, some (.int v6)] [] μ (.inl (some (.long r.1))) (r.2) := by
  intro v1 v2 v3 v4 v6 μ r h
  unfold D_X7_best_108 at h
  refine V_iinc (v := v6 + 1) (lv2 := [some (.ref 85), some (.int v1), some (.int v2), some (.int v3), some (.long v4), none, some (.int (v6 + 1))]) dX7_best_108 rfl rfl (by decide) rfl ?_
  refine V_goto (tgt := 53) dX7_best_111 (by decide) ?_
  exact V_wk [true, true, true, true, true, false, true] rfl (hk53 _ _ _ _ _ _ _ h)
def D_X7_best_98 (fu : Nat)  (k53 : Int32 → Int32 → Int32 → Int64 → Int32 → Mem → Option (Int64 × Mem)) (v1 : Int32) (v2 : Int32) (v6 : Int32) (μ : Mem) : Option (Int64 × Mem) :=
  (D_X7_bearsAll_0 fu μ v1).bind fun x13 =>
  D_X7_best_108 fu k53 v1 v2 v6 x13 v6 μ
set_option maxRecDepth 20000 in
theorem T_X7_best_98 (G : GX) (fu : Nat)  (hG : gt G = tbl) (k53 : Int32 → Int32 → Int32 → Int64 → Int32 → Mem → Option (Int64 × Mem)) (hk53 : ∀ (v1 : Int32) (v2 : Int32) (v3 : Int32) (v4 : Int64) (v6 : Int32) (μ : Mem) (r : (Int64 × Mem)), k53 v1 v2 v3 v4 v6 μ = some r → V G mX7_best 53 [some (.ref 85), some (.int v1), some (.int v2), some (.int v3), some (.long v4), none, some (.int v6)] [] μ (.inl (some (.long r.1))) (r.2)) : ∀ (v1 : Int32) (v2 : Int32) (v6 : Int32) (μ : Mem) (r : (Int64 × Mem)) , D_X7_best_98 fu k53 v1 v2 v6 μ = some r → V G mX7_best 98 [some (.ref 85), some (.int v1), some (.int v2), none, none, none, some (.int v6)] [] μ (.inl (some (.long r.1))) (r.2) := by
  intro v1 v2 v6 μ r h
  unfold D_X7_best_98 at h
  refine V_iload dX7_best_98 rfl ?_
  refine V_istore_n (lv2 := [some (.ref 85), some (.int v1), some (.int v2), some (.int v6), none, none, some (.int v6)]) dX7_best_100 (by decide) rfl ?_
  refine V_aload_n dX7_best_101 rfl ?_
  refine V_iload_n dX7_best_102 rfl ?_
  obtain ⟨x13, y14, h⟩ := bi_o h
  refine V_callV (as := [.int v1]) (q := 85) (rest := []) dX7_best_103 ov_mX7_bearsAll lk_RX7_437 (by decide) (by decide) rfl rfl (Nat.le_of_ble_eq_true rfl) (tq_85 hG) rfl (VM_X7_bearsAll G fu μ hG v1 _ y14) ?_
  refine V_lstore (lv2 := [some (.ref 85), some (.int v1), some (.int v2), some (.int v6), some (.long x13), none, some (.int v6)]) dX7_best_106 (by decide) rfl ?_
  exact V_wk [true, true, true, true, true, false, true] rfl (T_X7_best_108 G fu hG k53 hk53 _ _ _ _ _ _ _ h)
def D_X7_best_53 (fu : Nat)  : Nat → Int32 → Int32 → Int32 → Int64 → Int32 → Mem → Option (Int64 × Mem)
  | 0, _, _, _, _, _, _ => none
  | n + 1, v1, v2, v3, v4, v6, μ =>
    if (64 : Int32) ≤ v6 then
      (D_X7_goesOver_0 fu μ).bind fun x9 =>
      if v2 = 0 then
        some ((v3 / 16 : Int32).toInt64, x9)
      else
        if v2 = (1 : Int32) then
          some (((v3 / 4) - (v3 / 4) / 4 * 4 : Int32).toInt64, x9)
        else
          if v2 = (2 : Int32) then
            some ((v3 - v3 / 4 * 4 : Int32).toInt64, x9)
          else
            some (v4, x9)
    else
      (D_X7_goesBy_0 fu (v6 / 16) ((v6 / 4) - (v6 / 4) / 4 * 4) (v6 - v6 / 4 * 4) μ).bind fun x11 =>
      if v3 = (-1 : Int32) then
        D_X7_best_98 fu (D_X7_best_53 fu n) v1 v2 v6 x11
      else
        (D_X7_bearsAll_0 fu x11 v1).bind fun x15 =>
        if x15 < v4 then
          D_X7_best_98 fu (D_X7_best_53 fu n) v1 v2 v6 x11
        else
          D_X7_best_108 fu (D_X7_best_53 fu n) v1 v2 v3 v4 v6 x11
set_option maxRecDepth 20000 in
theorem T_X7_best_53 (G : GX) (fu : Nat)  (hG : gt G = tbl) : ∀ (n : Nat) (v1 : Int32) (v2 : Int32) (v3 : Int32) (v4 : Int64) (v6 : Int32) (μ : Mem) (r : (Int64 × Mem)) , D_X7_best_53 fu n v1 v2 v3 v4 v6 μ = some r → V G mX7_best 53 [some (.ref 85), some (.int v1), some (.int v2), some (.int v3), some (.long v4), none, some (.int v6)] [] μ (.inl (some (.long r.1))) (r.2) := by
  intro n
  induction n with
  | zero =>
    intro v1 v2 v3 v4 v6 μ r h
    exact nomatch (show (none : Option (Int64 × Mem)) = some r from h)
  | succ n ih =>
    intro v1 v2 v3 v4 v6 μ r h
    rw [D_X7_best_53] at h
    refine V_iload dX7_best_53 rfl ?_
    refine V_bipush (v := 64) dX7_best_55 rfl ?_
    by_cases c57 : (64 : Int32) ≤ v6
    · rw [if_pos c57] at h
      refine V_icmpge_t (tgt := 114) dX7_best_57 (by decide) c57 ?_
      refine V_aload_n dX7_best_114 rfl ?_
      obtain ⟨x9, y10, h⟩ := bi_o h
      refine V_callV (as := []) (q := 85) (rest := []) dX7_best_115 ov_mX7_goesOver lk_RX7_403 (by decide) (by decide) rfl rfl (Nat.le_of_ble_eq_true rfl) (tq_85 hG) rfl (VM_X7_goesOver G fu hG μ _ y10) ?_
      refine V_iload_n dX7_best_118 rfl ?_
      by_cases c119 : v2 = 0
      · rw [if_pos c119] at h
        refine V_ifne_f (tgt := 130) dX7_best_119 (by decide) c119 ?_
        refine V_iload_n dX7_best_122 rfl ?_
        refine V_bipush (v := 16) dX7_best_123 rfl ?_
        refine V_idiv dX7_best_125 (by decide) ?_
        refine V_i2l dX7_best_126 ?_
        refine V_goto (tgt := 158) dX7_best_127 (by decide) ?_
        cases h
        exact V_lret rfl dX7_best_158
      · rw [if_neg c119] at h
        refine V_ifne_t (tgt := 130) dX7_best_119 (by decide) c119 ?_
        refine V_iload_n dX7_best_130 rfl ?_
        refine V_iconst (v := 1) dX7_best_131 rfl ?_
        by_cases c132 : v2 = (1 : Int32)
        · rw [if_pos c132] at h
          refine V_icmpne_f (tgt := 144) dX7_best_132 (by decide) c132 ?_
          refine V_iload_n dX7_best_135 rfl ?_
          refine V_iconst (v := 4) dX7_best_136 rfl ?_
          refine V_idiv dX7_best_137 (by decide) ?_
          refine V_iconst (v := 4) dX7_best_138 rfl ?_
          refine V_irem dX7_best_139 (by decide) ?_
          refine V_i2l dX7_best_140 ?_
          refine V_goto (tgt := 158) dX7_best_141 (by decide) ?_
          cases h
          exact V_lret rfl dX7_best_158
        · rw [if_neg c132] at h
          refine V_icmpne_t (tgt := 144) dX7_best_132 (by decide) c132 ?_
          refine V_iload_n dX7_best_144 rfl ?_
          refine V_iconst (v := 2) dX7_best_145 rfl ?_
          by_cases c146 : v2 = (2 : Int32)
          · rw [if_pos c146] at h
            refine V_icmpne_f (tgt := 156) dX7_best_146 (by decide) c146 ?_
            refine V_iload_n dX7_best_149 rfl ?_
            refine V_iconst (v := 4) dX7_best_150 rfl ?_
            refine V_irem dX7_best_151 (by decide) ?_
            refine V_i2l dX7_best_152 ?_
            refine V_goto (tgt := 158) dX7_best_153 (by decide) ?_
            cases h
            exact V_lret rfl dX7_best_158
          · rw [if_neg c146] at h
            refine V_icmpne_t (tgt := 156) dX7_best_146 (by decide) c146 ?_
            refine V_lload dX7_best_156 rfl ?_
            cases h
            exact V_lret rfl dX7_best_158
    · rw [if_neg c57] at h
      refine V_icmpge_f (tgt := 114) dX7_best_57 (by decide) c57 ?_
      refine V_aload_n dX7_best_60 rfl ?_
      refine V_iload dX7_best_61 rfl ?_
      refine V_bipush (v := 16) dX7_best_63 rfl ?_
      refine V_idiv dX7_best_65 (by decide) ?_
      refine V_iload dX7_best_66 rfl ?_
      refine V_iconst (v := 4) dX7_best_68 rfl ?_
      refine V_idiv dX7_best_69 (by decide) ?_
      refine V_iconst (v := 4) dX7_best_70 rfl ?_
      refine V_irem dX7_best_71 (by decide) ?_
      refine V_iload dX7_best_72 rfl ?_
      refine V_iconst (v := 4) dX7_best_74 rfl ?_
      refine V_irem dX7_best_75 (by decide) ?_
      obtain ⟨x11, y12, h⟩ := bi_o h
      refine V_callV (as := [.int (v6 / 16), .int ((v6 / 4) - (v6 / 4) / 4 * 4), .int (v6 - v6 / 4 * 4)]) (q := 85) (rest := []) dX7_best_76 ov_mX7_goesBy lk_RX7_453 (by decide) (by decide) rfl rfl (Nat.le_of_ble_eq_true rfl) (tq_85 hG) rfl (VM_X7_goesBy G fu hG (v6 / 16) ((v6 / 4) - (v6 / 4) / 4 * 4) (v6 - v6 / 4 * 4) μ _ y12) ?_
      refine V_iload_n dX7_best_79 rfl ?_
      refine V_iconst (v := (-1)) dX7_best_80 rfl ?_
      by_cases c81 : v3 = (-1 : Int32)
      · rw [if_pos c81] at h
        refine V_icmpeq_t (tgt := 98) dX7_best_81 (by decide) c81 ?_
        exact V_wk [true, true, true, false, false, false, true] rfl (T_X7_best_98 G fu hG (D_X7_best_53 fu n) ih _ _ _ _ _ h)
      · rw [if_neg c81] at h
        refine V_icmpeq_f (tgt := 98) dX7_best_81 (by decide) c81 ?_
        refine V_aload_n dX7_best_84 rfl ?_
        refine V_iload_n dX7_best_85 rfl ?_
        obtain ⟨x15, y16, h⟩ := bi_o h
        refine V_callV (as := [.int v1]) (q := 85) (rest := []) dX7_best_86 ov_mX7_bearsAll lk_RX7_437 (by decide) (by decide) rfl rfl (Nat.le_of_ble_eq_true rfl) (tq_85 hG) rfl (VM_X7_bearsAll G fu x11 hG v1 _ y16) ?_
        refine V_lload dX7_best_89 rfl ?_
        refine V_lcmp dX7_best_91 ?_
        by_cases c92 : x15 < v4
        · rw [if_pos c92] at h
          refine V_iflt_t (tgt := 98) dX7_best_92 (by decide) ((lc_lt x15 v4).mpr c92) ?_
          exact V_wk [true, true, true, false, false, false, true] rfl (T_X7_best_98 G fu hG (D_X7_best_53 fu n) ih _ _ _ _ _ h)
        · rw [if_neg c92] at h
          refine V_iflt_f (tgt := 98) dX7_best_92 (by decide) (fun z => c92 ((lc_lt x15 v4).mp z)) ?_
          refine V_goto (tgt := 108) dX7_best_95 (by decide) ?_
          exact V_wk [true, true, true, true, true, false, true] rfl (T_X7_best_108 G fu hG (D_X7_best_53 fu n) ih _ _ _ _ _ _ _ h)
def D_X7_best_35 (fu : Nat)  (v1 : Int32) (v2 : Int32) (s1 : Int32) (μ : Mem) : Option (Int64 × Mem) :=
  (D_X7_needs_0 s1 1 1 μ).bind fun x7 =>
  if x7.1 = true then
    D_X7_best_53 fu fu v1 v2 (-1) 0 0 x7.2
  else
    some (0, x7.2)
set_option maxRecDepth 20000 in
theorem T_X7_best_35 (G : GX) (fu : Nat)  (hG : gt G = tbl) : ∀ (v1 : Int32) (v2 : Int32) (s1 : Int32) (μ : Mem) (r : (Int64 × Mem)) , D_X7_best_35 fu v1 v2 s1 μ = some r → V G mX7_best 35 [some (.ref 85), some (.int v1), some (.int v2), none, none, none, none] [.int s1, .ref 85] μ (.inl (some (.long r.1))) (r.2) := by
  intro v1 v2 s1 μ r h
  unfold D_X7_best_35 at h
  refine V_iconst (v := 1) dX7_best_35 rfl ?_
  refine V_iconst (v := 1) dX7_best_36 rfl ?_
  obtain ⟨x7, y8, h⟩ := bi_o h
  refine V_callV (as := [.int s1, .int 1, .int 1]) (q := 85) (rest := []) dX7_best_37 ov_mX7_needs lk_RX7_346 (by decide) (by decide) rfl rfl (Nat.le_of_ble_eq_true rfl) (tq_85 hG) rfl (VM_X7_needs G hG s1 1 1 μ _ y8) ?_
  by_cases c40 : x7.1 = true
  · rw [if_pos c40] at h
    refine V_ifne_t (tgt := 45) dX7_best_40 (by decide) (b2i_t.mp c40) ?_
    refine V_iconst (v := (-1)) dX7_best_45 rfl ?_
    refine V_istore_n (lv2 := [some (.ref 85), some (.int v1), some (.int v2), some (.int (-1)), none, none, none]) dX7_best_46 (by decide) rfl ?_
    refine V_lconst (v := 0) dX7_best_47 rfl ?_
    refine V_lstore (lv2 := [some (.ref 85), some (.int v1), some (.int v2), some (.int (-1)), some (.long 0), none, none]) dX7_best_48 (by decide) rfl ?_
    refine V_iconst (v := 0) dX7_best_50 rfl ?_
    refine V_istore (lv2 := [some (.ref 85), some (.int v1), some (.int v2), some (.int (-1)), some (.long 0), none, some (.int 0)]) dX7_best_51 (by decide) rfl ?_
    exact V_wk [true, true, true, true, true, false, true] rfl (T_X7_best_53 G fu hG fu _ _ _ _ _ _ _ h)
  · rw [if_neg c40] at h
    refine V_ifne_f (tgt := 45) dX7_best_40 (by decide) (b2i_f.mp c40) ?_
    refine V_lconst (v := 0) dX7_best_43 rfl ?_
    cases h
    exact V_lret rfl dX7_best_44
def D_X7_best_34 (fu : Nat)  (v1 : Int32) (v2 : Int32) (μ : Mem) : Option (Int64 × Mem) :=
  D_X7_best_35 fu v1 v2 0 μ
set_option maxRecDepth 20000 in
theorem T_X7_best_34 (G : GX) (fu : Nat)  (hG : gt G = tbl) : ∀ (v1 : Int32) (v2 : Int32) (μ : Mem) (r : (Int64 × Mem)) , D_X7_best_34 fu v1 v2 μ = some r → V G mX7_best 34 [some (.ref 85), some (.int v1), some (.int v2), none, none, none, none] [.ref 85] μ (.inl (some (.long r.1))) (r.2) := by
  intro v1 v2 μ r h
  unfold D_X7_best_34 at h
  refine V_iconst (v := 0) dX7_best_34 rfl ?_
  exact V_wk [true, true, true, false, false, false, false] rfl (T_X7_best_35 G fu hG _ _ _ _ _ h)
def D_X7_best_0 (fu : Nat)  (a1 : Int32) (a2 : Int32) (μ : Mem) : Option (Int64 × Mem) :=
  vl (wI μ 85 0 0) fun m1 =>
  (D_X7_within_0 m1 ((a1 : Int32).toInt64) 0 9).bind fun x3 =>
  if x3 = true then
    (D_X7_within_0 m1 ((a2 : Int32).toInt64) 0 3).bind fun x5 =>
    if x5 = true then
      D_X7_best_35 fu a1 a2 1 m1
    else
      D_X7_best_34 fu a1 a2 m1
  else
    D_X7_best_34 fu a1 a2 m1
set_option maxRecDepth 20000 in
theorem T_X7_best_0 (G : GX) (fu : Nat)  (hG : gt G = tbl) : ∀ (a1 : Int32) (a2 : Int32) (μ : Mem) (r : (Int64 × Mem)) , D_X7_best_0 fu a1 a2 μ = some r → V G mX7_best 0 [some (.ref 85), some (.int a1), some (.int a2), none, none, none, none] [] μ (.inl (some (.long r.1))) (r.2) := by
  intro a1 a2 μ r h
  unfold D_X7_best_0 at h
  refine V_aload_n dX7_best_0 rfl ?_
  refine V_iconst (v := 0) dX7_best_1 rfl ?_
  obtain ⟨m1, e2, h⟩ := vl_o h
  refine V_putI (kf := 0) k_X7 (by decide) lk_RX7_1 rfl rfl (by decide +kernel) dX7_best_2 (tq_85 hG) rfl e2.symm ?_
  refine V_aload_n dX7_best_5 rfl ?_
  refine V_iload_n dX7_best_6 rfl ?_
  refine V_i2l dX7_best_7 ?_
  refine V_lconst (v := 0) dX7_best_8 rfl ?_
  refine V_ldc2 (v := 9) dX7_best_9 lk_RX7_377 ?_
  obtain ⟨x3, y4, h⟩ := bi_o h
  refine V_callS (as := [.long ((a1 : Int32).toInt64), .long 0, .long 9]) (rest := [.ref 85]) dX7_best_12 os_mX7_within rfl lk_RX7_352 (by decide) (by decide) rfl rfl (Nat.le_of_ble_eq_true rfl) (VM_X7_within G m1 hG ((a1 : Int32).toInt64) 0 9 _ y4) ?_
  by_cases c15 : x3 = true
  · rw [if_pos c15] at h
    refine V_ifeq_f (tgt := 34) dX7_best_15 (by decide) (b2i_t.mp c15) ?_
    refine V_iload_n dX7_best_18 rfl ?_
    refine V_i2l dX7_best_19 ?_
    refine V_lconst (v := 0) dX7_best_20 rfl ?_
    refine V_ldc2 (v := 3) dX7_best_21 lk_RX7_382 ?_
    obtain ⟨x5, y6, h⟩ := bi_o h
    refine V_callS (as := [.long ((a2 : Int32).toInt64), .long 0, .long 3]) (rest := [.ref 85]) dX7_best_24 os_mX7_within rfl lk_RX7_352 (by decide) (by decide) rfl rfl (Nat.le_of_ble_eq_true rfl) (VM_X7_within G m1 hG ((a2 : Int32).toInt64) 0 3 _ y6) ?_
    by_cases c27 : x5 = true
    · rw [if_pos c27] at h
      refine V_ifeq_f (tgt := 34) dX7_best_27 (by decide) (b2i_t.mp c27) ?_
      refine V_iconst (v := 1) dX7_best_30 rfl ?_
      refine V_goto (tgt := 35) dX7_best_31 (by decide) ?_
      exact V_wk [true, true, true, false, false, false, false] rfl (T_X7_best_35 G fu hG _ _ _ _ _ h)
    · rw [if_neg c27] at h
      refine V_ifeq_t (tgt := 34) dX7_best_27 (by decide) (b2i_f.mp c27) ?_
      exact V_wk [true, true, true, false, false, false, false] rfl (T_X7_best_34 G fu hG _ _ _ _ h)
  · rw [if_neg c15] at h
    refine V_ifeq_t (tgt := 34) dX7_best_15 (by decide) (b2i_f.mp c15) ?_
    exact V_wk [true, true, true, false, false, false, false] rfl (T_X7_best_34 G fu hG _ _ _ _ h)
theorem VM_X7_best (G : GX) (fu : Nat)  (hG : gt G = tbl) (a1 : Int32) (a2 : Int32) (μ : Mem) (r : (Int64 × Mem)) (h : D_X7_best_0 fu a1 a2 μ = some r) : VM G mX7_best [.ref 85, .int a1, .int a2] μ (.inl (some (.long r.1))) (r.2) := V_entry ok_mX7_best rfl rfl (Nat.le_of_ble_eq_true rfl) (T_X7_best_0 G fu hG a1 a2 μ r h)
def D_X7_without_0 (fu : Nat)  (a1 : Int32) (a2 : Int32) (μ : Mem) : Option (Int64 × Mem) :=
  vl (wI μ 85 0 0) fun m1 =>
  (D_X7_isEvent_0 a1 m1).bind fun x3 =>
  if x3.1 = true then
    (D_X7_isPerson_0 a2 2 x3.2).bind fun x5 =>
    if x5.1 = true then
      (D_X7_goesWithout_0 fu a1 x5.2).bind fun x7 =>
      (D_X7_behind_0 fu a2 x7).bind fun x9 =>
      some (x9.1, x9.2)
    else
      some (0, x5.2)
  else
    some (0, x3.2)
set_option maxRecDepth 20000 in
theorem T_X7_without_0 (G : GX) (fu : Nat)  (hG : gt G = tbl) : ∀ (a1 : Int32) (a2 : Int32) (μ : Mem) (r : (Int64 × Mem)) , D_X7_without_0 fu a1 a2 μ = some r → V G mX7_without 0 [some (.ref 85), some (.int a1), some (.int a2)] [] μ (.inl (some (.long r.1))) (r.2) := by
  intro a1 a2 μ r h
  unfold D_X7_without_0 at h
  refine V_aload_n dX7_without_0 rfl ?_
  refine V_iconst (v := 0) dX7_without_1 rfl ?_
  obtain ⟨m1, e2, h⟩ := vl_o h
  refine V_putI (kf := 0) k_X7 (by decide) lk_RX7_1 rfl rfl (by decide +kernel) dX7_without_2 (tq_85 hG) rfl e2.symm ?_
  refine V_aload_n dX7_without_5 rfl ?_
  refine V_iload_n dX7_without_6 rfl ?_
  obtain ⟨x3, y4, h⟩ := bi_o h
  refine V_callV (as := [.int a1]) (q := 85) (rest := []) dX7_without_7 ov_mX7_isEvent lk_RX7_413 (by decide) (by decide) rfl rfl (Nat.le_of_ble_eq_true rfl) (tq_85 hG) rfl (VM_X7_isEvent G hG a1 m1 _ y4) ?_
  by_cases c10 : x3.1 = true
  · rw [if_pos c10] at h
    refine V_ifeq_f (tgt := 22) dX7_without_10 (by decide) (b2i_t.mp c10) ?_
    refine V_aload_n dX7_without_13 rfl ?_
    refine V_iload_n dX7_without_14 rfl ?_
    refine V_iconst (v := 2) dX7_without_15 rfl ?_
    obtain ⟨x5, y6, h⟩ := bi_o h
    refine V_callV (as := [.int a2, .int 2]) (q := 85) (rest := []) dX7_without_16 ov_mX7_isPerson lk_RX7_459 (by decide) (by decide) rfl rfl (Nat.le_of_ble_eq_true rfl) (tq_85 hG) rfl (VM_X7_isPerson G hG a2 2 x3.2 _ y6) ?_
    by_cases c19 : x5.1 = true
    · rw [if_pos c19] at h
      refine V_ifne_t (tgt := 24) dX7_without_19 (by decide) (b2i_t.mp c19) ?_
      refine V_aload_n dX7_without_24 rfl ?_
      refine V_iload_n dX7_without_25 rfl ?_
      obtain ⟨x7, y8, h⟩ := bi_o h
      refine V_callV (as := [.int a1]) (q := 85) (rest := []) dX7_without_26 ov_mX7_goesWithout lk_RX7_462 (by decide) (by decide) rfl rfl (Nat.le_of_ble_eq_true rfl) (tq_85 hG) rfl (VM_X7_goesWithout G fu hG a1 x5.2 _ y8) ?_
      refine V_aload_n dX7_without_29 rfl ?_
      refine V_iload_n dX7_without_30 rfl ?_
      obtain ⟨x9, y10, h⟩ := bi_o h
      refine V_callV (as := [.int a2]) (q := 85) (rest := []) dX7_without_31 ov_mX7_behind lk_RX7_456 (by decide) (by decide) rfl rfl (Nat.le_of_ble_eq_true rfl) (tq_85 hG) rfl (VM_X7_behind G fu hG a2 x7 _ y10) ?_
      cases h
      exact V_lret rfl dX7_without_34
    · rw [if_neg c19] at h
      refine V_ifne_f (tgt := 24) dX7_without_19 (by decide) (b2i_f.mp c19) ?_
      refine V_lconst (v := 0) dX7_without_22 rfl ?_
      cases h
      exact V_lret rfl dX7_without_23
  · rw [if_neg c10] at h
    refine V_ifeq_t (tgt := 22) dX7_without_10 (by decide) (b2i_f.mp c10) ?_
    refine V_lconst (v := 0) dX7_without_22 rfl ?_
    cases h
    exact V_lret rfl dX7_without_23
theorem VM_X7_without (G : GX) (fu : Nat)  (hG : gt G = tbl) (a1 : Int32) (a2 : Int32) (μ : Mem) (r : (Int64 × Mem)) (h : D_X7_without_0 fu a1 a2 μ = some r) : VM G mX7_without [.ref 85, .int a1, .int a2] μ (.inl (some (.long r.1))) (r.2) := V_entry ok_mX7_without rfl rfl (Nat.le_of_ble_eq_true rfl) (T_X7_without_0 G fu hG a1 a2 μ r h)
def D_X7_undone_0 (fu : Nat)  (a1 : Int32) (μ : Mem) : Option (Int32 × Mem) :=
  vl (wI μ 85 0 0) fun m1 =>
  (D_X7_isEvent_0 a1 m1).bind fun x3 =>
  if x3.1 = true then
    (D_X7_goesWithout_0 fu a1 x3.2).bind fun x5 =>
    (D_X7_goesOver_0 fu x5).bind fun x7 =>
    some (x5.1 85 49, x7)
  else
    some (0, x3.2)
set_option maxRecDepth 20000 in
theorem T_X7_undone_0 (G : GX) (fu : Nat)  (hG : gt G = tbl) : ∀ (a1 : Int32) (μ : Mem) (r : (Int32 × Mem)) , D_X7_undone_0 fu a1 μ = some r → V G mX7_undone 0 [some (.ref 85), some (.int a1), none] [] μ (.inl (some (.int r.1))) (r.2) := by
  intro a1 μ r h
  unfold D_X7_undone_0 at h
  refine V_aload_n dX7_undone_0 rfl ?_
  refine V_iconst (v := 0) dX7_undone_1 rfl ?_
  obtain ⟨m1, e2, h⟩ := vl_o h
  refine V_putI (kf := 0) k_X7 (by decide) lk_RX7_1 rfl rfl (by decide +kernel) dX7_undone_2 (tq_85 hG) rfl e2.symm ?_
  refine V_aload_n dX7_undone_5 rfl ?_
  refine V_iload_n dX7_undone_6 rfl ?_
  obtain ⟨x3, y4, h⟩ := bi_o h
  refine V_callV (as := [.int a1]) (q := 85) (rest := []) dX7_undone_7 ov_mX7_isEvent lk_RX7_413 (by decide) (by decide) rfl rfl (Nat.le_of_ble_eq_true rfl) (tq_85 hG) rfl (VM_X7_isEvent G hG a1 m1 _ y4) ?_
  by_cases c10 : x3.1 = true
  · rw [if_pos c10] at h
    refine V_ifne_t (tgt := 15) dX7_undone_10 (by decide) (b2i_t.mp c10) ?_
    refine V_aload_n dX7_undone_15 rfl ?_
    refine V_iload_n dX7_undone_16 rfl ?_
    obtain ⟨x5, y6, h⟩ := bi_o h
    refine V_callV (as := [.int a1]) (q := 85) (rest := []) dX7_undone_17 ov_mX7_goesWithout lk_RX7_462 (by decide) (by decide) rfl rfl (Nat.le_of_ble_eq_true rfl) (tq_85 hG) rfl (VM_X7_goesWithout G fu hG a1 x3.2 _ y6) ?_
    refine V_aload_n dX7_undone_20 rfl ?_
    refine V_getI (kf := 49) k_X7 (by decide) lk_RX7_334 rfl dX7_undone_21 (tq_85 hG) rfl ?_
    refine V_istore_n (lv2 := [some (.ref 85), some (.int a1), some (.int (x5.1 85 49))]) dX7_undone_24 (by decide) rfl ?_
    refine V_aload_n dX7_undone_25 rfl ?_
    obtain ⟨x7, y8, h⟩ := bi_o h
    refine V_callV (as := []) (q := 85) (rest := []) dX7_undone_26 ov_mX7_goesOver lk_RX7_403 (by decide) (by decide) rfl rfl (Nat.le_of_ble_eq_true rfl) (tq_85 hG) rfl (VM_X7_goesOver G fu hG x5 _ y8) ?_
    refine V_iload_n dX7_undone_29 rfl ?_
    cases h
    exact V_iret rfl dX7_undone_30
  · rw [if_neg c10] at h
    refine V_ifne_f (tgt := 15) dX7_undone_10 (by decide) (b2i_f.mp c10) ?_
    refine V_iconst (v := 0) dX7_undone_13 rfl ?_
    cases h
    exact V_iret rfl dX7_undone_14
theorem VM_X7_undone (G : GX) (fu : Nat)  (hG : gt G = tbl) (a1 : Int32) (μ : Mem) (r : (Int32 × Mem)) (h : D_X7_undone_0 fu a1 μ = some r) : VM G mX7_undone [.ref 85, .int a1] μ (.inl (some (.int r.1))) (r.2) := V_entry ok_mX7_undone rfl rfl (Nat.le_of_ble_eq_true rfl) (T_X7_undone_0 G fu hG a1 μ r h)
def D_X7_shift_103 (fu : Nat)  (k62 : Int32 → Int32 → Int32 → Int32 → Mem → Option (Int64 × Mem)) (v1 : Int32) (v2 : Int32) (v3 : Int32) (v4 : Int32) (μ : Mem) : Option (Int64 × Mem) :=
  k62 v1 v2 v3 (v4 + 1) μ
set_option maxRecDepth 20000 in
theorem T_X7_shift_103 (G : GX) (fu : Nat)  (hG : gt G = tbl) (k62 : Int32 → Int32 → Int32 → Int32 → Mem → Option (Int64 × Mem)) (hk62 : ∀ (v1 : Int32) (v2 : Int32) (v3 : Int32) (v4 : Int32) (μ : Mem) (r : (Int64 × Mem)), k62 v1 v2 v3 v4 μ = some r → V G mX7_shift 62 [some (.ref 85), some (.int v1), some (.int v2), some (.int v3), some (.int v4)] [] μ (.inl (some (.long r.1))) (r.2)) : ∀ (v1 : Int32) (v2 : Int32) (v3 : Int32) (v4 : Int32) (μ : Mem) (r : (Int64 × Mem)) , D_X7_shift_103 fu k62 v1 v2 v3 v4 μ = some r → V G mX7_shift 103 [some (.ref 85), some (.int v1), some (.int v2), some (.int v3), some (.int v4)] [] μ (.inl (some (.long r.1))) (r.2) := by
  intro v1 v2 v3 v4 μ r h
  unfold D_X7_shift_103 at h
  refine V_iinc (v := v4 + 1) (lv2 := [some (.ref 85), some (.int v1), some (.int v2), some (.int v3), some (.int (v4 + 1))]) dX7_shift_103 rfl rfl (by decide) rfl ?_
  refine V_goto (tgt := 62) dX7_shift_106 (by decide) ?_
  exact V_wk [true, true, true, true, true] rfl (hk62 _ _ _ _ _ _ h)
def D_X7_shift_82 (fu : Nat)  (k62 : Int32 → Int32 → Int32 → Int32 → Mem → Option (Int64 × Mem)) (v1 : Int32) (v2 : Int32) (v3 : Int32) (v4 : Int32) (μ : Mem) : Option (Int64 × Mem) :=
  if (μ.1 85 5) ≤ v4 then
    D_X7_shift_103 fu k62 v1 v2 v3 v4 μ
  else
    if v4 = v1 then
      D_X7_shift_103 fu k62 v1 v2 v3 v4 μ
    else
      (D_X7_goes_0 fu v4 μ).bind fun x17 =>
      D_X7_shift_103 fu k62 v1 v2 v3 v4 x17
set_option maxRecDepth 20000 in
theorem T_X7_shift_82 (G : GX) (fu : Nat)  (hG : gt G = tbl) (k62 : Int32 → Int32 → Int32 → Int32 → Mem → Option (Int64 × Mem)) (hk62 : ∀ (v1 : Int32) (v2 : Int32) (v3 : Int32) (v4 : Int32) (μ : Mem) (r : (Int64 × Mem)), k62 v1 v2 v3 v4 μ = some r → V G mX7_shift 62 [some (.ref 85), some (.int v1), some (.int v2), some (.int v3), some (.int v4)] [] μ (.inl (some (.long r.1))) (r.2)) : ∀ (v1 : Int32) (v2 : Int32) (v3 : Int32) (v4 : Int32) (μ : Mem) (r : (Int64 × Mem)) , D_X7_shift_82 fu k62 v1 v2 v3 v4 μ = some r → V G mX7_shift 82 [some (.ref 85), some (.int v1), some (.int v2), some (.int v3), some (.int v4)] [] μ (.inl (some (.long r.1))) (r.2) := by
  intro v1 v2 v3 v4 μ r h
  unfold D_X7_shift_82 at h
  refine V_iload dX7_shift_82 rfl ?_
  refine V_aload_n dX7_shift_84 rfl ?_
  refine V_getI (kf := 5) k_X7 (by decide) lk_RX7_17 rfl dX7_shift_85 (tq_85 hG) rfl ?_
  by_cases c88 : (μ.1 85 5) ≤ v4
  · rw [if_pos c88] at h
    refine V_icmpge_t (tgt := 103) dX7_shift_88 (by decide) c88 ?_
    exact V_wk [true, true, true, true, true] rfl (T_X7_shift_103 G fu hG k62 hk62 _ _ _ _ _ _ h)
  · rw [if_neg c88] at h
    refine V_icmpge_f (tgt := 103) dX7_shift_88 (by decide) c88 ?_
    refine V_iload dX7_shift_91 rfl ?_
    refine V_iload_n dX7_shift_93 rfl ?_
    by_cases c94 : v4 = v1
    · rw [if_pos c94] at h
      refine V_icmpeq_t (tgt := 103) dX7_shift_94 (by decide) c94 ?_
      exact V_wk [true, true, true, true, true] rfl (T_X7_shift_103 G fu hG k62 hk62 _ _ _ _ _ _ h)
    · rw [if_neg c94] at h
      refine V_icmpeq_f (tgt := 103) dX7_shift_94 (by decide) c94 ?_
      refine V_aload_n dX7_shift_97 rfl ?_
      refine V_iload dX7_shift_98 rfl ?_
      obtain ⟨x17, y18, h⟩ := bi_o h
      refine V_callV (as := [.int v4]) (q := 85) (rest := []) dX7_shift_100 ov_mX7_goes lk_RX7_343 (by decide) (by decide) rfl rfl (Nat.le_of_ble_eq_true rfl) (tq_85 hG) rfl (VM_X7_goes G fu hG v4 μ _ y18) ?_
      exact V_wk [true, true, true, true, true] rfl (T_X7_shift_103 G fu hG k62 hk62 _ _ _ _ _ _ h)
def D_X7_shift_62 (fu : Nat)  : Nat → Int32 → Int32 → Int32 → Int32 → Mem → Option (Int64 × Mem)
  | 0, _, _, _, _, _ => none
  | n + 1, v1, v2, v3, v4, μ =>
    if (μ.1 85 5) < v4 then
      (D_X7_behind_0 fu v3 μ).bind fun x13 =>
      some (x13.1, x13.2)
    else
      if v4 = v2 then
        (D_X7_goes_0 fu v1 μ).bind fun x15 =>
        D_X7_shift_82 fu (D_X7_shift_62 fu n) v1 v2 v3 v4 x15
      else
        D_X7_shift_82 fu (D_X7_shift_62 fu n) v1 v2 v3 v4 μ
set_option maxRecDepth 20000 in
theorem T_X7_shift_62 (G : GX) (fu : Nat)  (hG : gt G = tbl) : ∀ (n : Nat) (v1 : Int32) (v2 : Int32) (v3 : Int32) (v4 : Int32) (μ : Mem) (r : (Int64 × Mem)) , D_X7_shift_62 fu n v1 v2 v3 v4 μ = some r → V G mX7_shift 62 [some (.ref 85), some (.int v1), some (.int v2), some (.int v3), some (.int v4)] [] μ (.inl (some (.long r.1))) (r.2) := by
  intro n
  induction n with
  | zero =>
    intro v1 v2 v3 v4 μ r h
    exact nomatch (show (none : Option (Int64 × Mem)) = some r from h)
  | succ n ih =>
    intro v1 v2 v3 v4 μ r h
    rw [D_X7_shift_62] at h
    refine V_iload dX7_shift_62 rfl ?_
    refine V_aload_n dX7_shift_64 rfl ?_
    refine V_getI (kf := 5) k_X7 (by decide) lk_RX7_17 rfl dX7_shift_65 (tq_85 hG) rfl ?_
    by_cases c68 : (μ.1 85 5) < v4
    · rw [if_pos c68] at h
      refine V_icmpgt_t (tgt := 109) dX7_shift_68 (by decide) c68 ?_
      refine V_aload_n dX7_shift_109 rfl ?_
      refine V_iload_n dX7_shift_110 rfl ?_
      obtain ⟨x13, y14, h⟩ := bi_o h
      refine V_callV (as := [.int v3]) (q := 85) (rest := []) dX7_shift_111 ov_mX7_behind lk_RX7_456 (by decide) (by decide) rfl rfl (Nat.le_of_ble_eq_true rfl) (tq_85 hG) rfl (VM_X7_behind G fu hG v3 μ _ y14) ?_
      cases h
      exact V_lret rfl dX7_shift_114
    · rw [if_neg c68] at h
      refine V_icmpgt_f (tgt := 109) dX7_shift_68 (by decide) c68 ?_
      refine V_iload dX7_shift_71 rfl ?_
      refine V_iload_n dX7_shift_73 rfl ?_
      by_cases c74 : v4 = v2
      · rw [if_pos c74] at h
        refine V_icmpne_f (tgt := 82) dX7_shift_74 (by decide) c74 ?_
        refine V_aload_n dX7_shift_77 rfl ?_
        refine V_iload_n dX7_shift_78 rfl ?_
        obtain ⟨x15, y16, h⟩ := bi_o h
        refine V_callV (as := [.int v1]) (q := 85) (rest := []) dX7_shift_79 ov_mX7_goes lk_RX7_343 (by decide) (by decide) rfl rfl (Nat.le_of_ble_eq_true rfl) (tq_85 hG) rfl (VM_X7_goes G fu hG v1 μ _ y16) ?_
        exact V_wk [true, true, true, true, true] rfl (T_X7_shift_82 G fu hG (D_X7_shift_62 fu n) ih _ _ _ _ _ _ h)
      · rw [if_neg c74] at h
        refine V_icmpne_t (tgt := 82) dX7_shift_74 (by decide) c74 ?_
        exact V_wk [true, true, true, true, true] rfl (T_X7_shift_82 G fu hG (D_X7_shift_62 fu n) ih _ _ _ _ _ _ h)
def D_X7_shift_45 (fu : Nat)  (v1 : Int32) (v2 : Int32) (v3 : Int32) (s1 : Int32) (μ : Mem) : Option (Int64 × Mem) :=
  (D_X7_needs_0 s1 2 1 μ).bind fun x9 =>
  if x9.1 = true then
    (D_X7_begins_0 fu x9.2).bind fun x11 =>
    D_X7_shift_62 fu fu v1 v2 v3 0 x11
  else
    some (0, x9.2)
set_option maxRecDepth 20000 in
theorem T_X7_shift_45 (G : GX) (fu : Nat)  (hG : gt G = tbl) : ∀ (v1 : Int32) (v2 : Int32) (v3 : Int32) (s1 : Int32) (μ : Mem) (r : (Int64 × Mem)) , D_X7_shift_45 fu v1 v2 v3 s1 μ = some r → V G mX7_shift 45 [some (.ref 85), some (.int v1), some (.int v2), some (.int v3), none] [.int s1, .ref 85] μ (.inl (some (.long r.1))) (r.2) := by
  intro v1 v2 v3 s1 μ r h
  unfold D_X7_shift_45 at h
  refine V_iconst (v := 2) dX7_shift_45 rfl ?_
  refine V_iconst (v := 1) dX7_shift_46 rfl ?_
  obtain ⟨x9, y10, h⟩ := bi_o h
  refine V_callV (as := [.int s1, .int 2, .int 1]) (q := 85) (rest := []) dX7_shift_47 ov_mX7_needs lk_RX7_346 (by decide) (by decide) rfl rfl (Nat.le_of_ble_eq_true rfl) (tq_85 hG) rfl (VM_X7_needs G hG s1 2 1 μ _ y10) ?_
  by_cases c50 : x9.1 = true
  · rw [if_pos c50] at h
    refine V_ifne_t (tgt := 55) dX7_shift_50 (by decide) (b2i_t.mp c50) ?_
    refine V_aload_n dX7_shift_55 rfl ?_
    obtain ⟨x11, y12, h⟩ := bi_o h
    refine V_callV (as := []) (q := 85) (rest := []) dX7_shift_56 ov_mX7_begins lk_RX7_340 (by decide) (by decide) rfl rfl (Nat.le_of_ble_eq_true rfl) (tq_85 hG) rfl (VM_X7_begins G fu hG x9.2 _ y12) ?_
    refine V_iconst (v := 0) dX7_shift_59 rfl ?_
    refine V_istore (lv2 := [some (.ref 85), some (.int v1), some (.int v2), some (.int v3), some (.int 0)]) dX7_shift_60 (by decide) rfl ?_
    exact V_wk [true, true, true, true, true] rfl (T_X7_shift_62 G fu hG fu _ _ _ _ _ _ h)
  · rw [if_neg c50] at h
    refine V_ifne_f (tgt := 55) dX7_shift_50 (by decide) (b2i_f.mp c50) ?_
    refine V_lconst (v := 0) dX7_shift_53 rfl ?_
    cases h
    exact V_lret rfl dX7_shift_54
def D_X7_shift_44 (fu : Nat)  (v1 : Int32) (v2 : Int32) (v3 : Int32) (μ : Mem) : Option (Int64 × Mem) :=
  D_X7_shift_45 fu v1 v2 v3 0 μ
set_option maxRecDepth 20000 in
theorem T_X7_shift_44 (G : GX) (fu : Nat)  (hG : gt G = tbl) : ∀ (v1 : Int32) (v2 : Int32) (v3 : Int32) (μ : Mem) (r : (Int64 × Mem)) , D_X7_shift_44 fu v1 v2 v3 μ = some r → V G mX7_shift 44 [some (.ref 85), some (.int v1), some (.int v2), some (.int v3), none] [.ref 85] μ (.inl (some (.long r.1))) (r.2) := by
  intro v1 v2 v3 μ r h
  unfold D_X7_shift_44 at h
  refine V_iconst (v := 0) dX7_shift_44 rfl ?_
  exact V_wk [true, true, true, true, false] rfl (T_X7_shift_45 G fu hG _ _ _ _ _ _ h)
def D_X7_shift_0 (fu : Nat)  (a1 : Int32) (a2 : Int32) (a3 : Int32) (μ : Mem) : Option (Int64 × Mem) :=
  vl (wI μ 85 0 0) fun m1 =>
  (D_X7_isEvent_0 a1 m1).bind fun x3 =>
  if x3.1 = true then
    (D_X7_within_0 x3.2 ((a2 : Int32).toInt64) 0 ((x3.2.1 85 5 : Int32).toInt64)).bind fun x5 =>
    if x5 = true then
      (D_X7_within_0 x3.2 ((a3 : Int32).toInt64) 0 9).bind fun x7 =>
      if x7 = true then
        D_X7_shift_45 fu a1 a2 a3 1 x3.2
      else
        D_X7_shift_44 fu a1 a2 a3 x3.2
    else
      D_X7_shift_44 fu a1 a2 a3 x3.2
  else
    some (0, x3.2)
set_option maxRecDepth 20000 in
theorem T_X7_shift_0 (G : GX) (fu : Nat)  (hG : gt G = tbl) : ∀ (a1 : Int32) (a2 : Int32) (a3 : Int32) (μ : Mem) (r : (Int64 × Mem)) , D_X7_shift_0 fu a1 a2 a3 μ = some r → V G mX7_shift 0 [some (.ref 85), some (.int a1), some (.int a2), some (.int a3), none] [] μ (.inl (some (.long r.1))) (r.2) := by
  intro a1 a2 a3 μ r h
  unfold D_X7_shift_0 at h
  refine V_aload_n dX7_shift_0 rfl ?_
  refine V_iconst (v := 0) dX7_shift_1 rfl ?_
  obtain ⟨m1, e2, h⟩ := vl_o h
  refine V_putI (kf := 0) k_X7 (by decide) lk_RX7_1 rfl rfl (by decide +kernel) dX7_shift_2 (tq_85 hG) rfl e2.symm ?_
  refine V_aload_n dX7_shift_5 rfl ?_
  refine V_iload_n dX7_shift_6 rfl ?_
  obtain ⟨x3, y4, h⟩ := bi_o h
  refine V_callV (as := [.int a1]) (q := 85) (rest := []) dX7_shift_7 ov_mX7_isEvent lk_RX7_413 (by decide) (by decide) rfl rfl (Nat.le_of_ble_eq_true rfl) (tq_85 hG) rfl (VM_X7_isEvent G hG a1 m1 _ y4) ?_
  by_cases c10 : x3.1 = true
  · rw [if_pos c10] at h
    refine V_ifeq_f (tgt := 53) dX7_shift_10 (by decide) (b2i_t.mp c10) ?_
    refine V_aload_n dX7_shift_13 rfl ?_
    refine V_iload_n dX7_shift_14 rfl ?_
    refine V_i2l dX7_shift_15 ?_
    refine V_lconst (v := 0) dX7_shift_16 rfl ?_
    refine V_aload_n dX7_shift_17 rfl ?_
    refine V_getI (kf := 5) k_X7 (by decide) lk_RX7_17 rfl dX7_shift_18 (tq_85 hG) rfl ?_
    refine V_i2l dX7_shift_21 ?_
    obtain ⟨x5, y6, h⟩ := bi_o h
    refine V_callS (as := [.long ((a2 : Int32).toInt64), .long 0, .long ((x3.2.1 85 5 : Int32).toInt64)]) (rest := [.ref 85]) dX7_shift_22 os_mX7_within rfl lk_RX7_352 (by decide) (by decide) rfl rfl (Nat.le_of_ble_eq_true rfl) (VM_X7_within G x3.2 hG ((a2 : Int32).toInt64) 0 ((x3.2.1 85 5 : Int32).toInt64) _ y6) ?_
    by_cases c25 : x5 = true
    · rw [if_pos c25] at h
      refine V_ifeq_f (tgt := 44) dX7_shift_25 (by decide) (b2i_t.mp c25) ?_
      refine V_iload_n dX7_shift_28 rfl ?_
      refine V_i2l dX7_shift_29 ?_
      refine V_lconst (v := 0) dX7_shift_30 rfl ?_
      refine V_ldc2 (v := 9) dX7_shift_31 lk_RX7_377 ?_
      obtain ⟨x7, y8, h⟩ := bi_o h
      refine V_callS (as := [.long ((a3 : Int32).toInt64), .long 0, .long 9]) (rest := [.ref 85]) dX7_shift_34 os_mX7_within rfl lk_RX7_352 (by decide) (by decide) rfl rfl (Nat.le_of_ble_eq_true rfl) (VM_X7_within G x3.2 hG ((a3 : Int32).toInt64) 0 9 _ y8) ?_
      by_cases c37 : x7 = true
      · rw [if_pos c37] at h
        refine V_ifeq_f (tgt := 44) dX7_shift_37 (by decide) (b2i_t.mp c37) ?_
        refine V_iconst (v := 1) dX7_shift_40 rfl ?_
        refine V_goto (tgt := 45) dX7_shift_41 (by decide) ?_
        exact V_wk [true, true, true, true, false] rfl (T_X7_shift_45 G fu hG _ _ _ _ _ _ h)
      · rw [if_neg c37] at h
        refine V_ifeq_t (tgt := 44) dX7_shift_37 (by decide) (b2i_f.mp c37) ?_
        exact V_wk [true, true, true, true, false] rfl (T_X7_shift_44 G fu hG _ _ _ _ _ h)
    · rw [if_neg c25] at h
      refine V_ifeq_t (tgt := 44) dX7_shift_25 (by decide) (b2i_f.mp c25) ?_
      exact V_wk [true, true, true, true, false] rfl (T_X7_shift_44 G fu hG _ _ _ _ _ h)
  · rw [if_neg c10] at h
    refine V_ifeq_t (tgt := 53) dX7_shift_10 (by decide) (b2i_f.mp c10) ?_
    refine V_lconst (v := 0) dX7_shift_53 rfl ?_
    cases h
    exact V_lret rfl dX7_shift_54
theorem VM_X7_shift (G : GX) (fu : Nat)  (hG : gt G = tbl) (a1 : Int32) (a2 : Int32) (a3 : Int32) (μ : Mem) (r : (Int64 × Mem)) (h : D_X7_shift_0 fu a1 a2 a3 μ = some r) : VM G mX7_shift [.ref 85, .int a1, .int a2, .int a3] μ (.inl (some (.long r.1))) (r.2) := V_entry ok_mX7_shift rfl rfl (Nat.le_of_ble_eq_true rfl) (T_X7_shift_0 G fu hG a1 a2 a3 μ r h)
def D_X7_after_30 (fu : Nat)  : Nat → Int32 → Int32 → Int32 → Mem → Option (Int64 × Mem)
  | 0, _, _, _, _ => none
  | n + 1, v1, v2, v3, μ =>
    if v1 < v3 then
      (D_X7_behind_0 fu v2 μ).bind fun x9 =>
      some (x9.1, x9.2)
    else
      (D_X7_goes_0 fu v3 μ).bind fun x11 =>
      (D_X7_after_30 fu n) v1 v2 (v3 + 1) x11
set_option maxRecDepth 20000 in
theorem T_X7_after_30 (G : GX) (fu : Nat)  (hG : gt G = tbl) : ∀ (n : Nat) (v1 : Int32) (v2 : Int32) (v3 : Int32) (μ : Mem) (r : (Int64 × Mem)) , D_X7_after_30 fu n v1 v2 v3 μ = some r → V G mX7_after 30 [some (.ref 85), some (.int v1), some (.int v2), some (.int v3)] [] μ (.inl (some (.long r.1))) (r.2) := by
  intro n
  induction n with
  | zero =>
    intro v1 v2 v3 μ r h
    exact nomatch (show (none : Option (Int64 × Mem)) = some r from h)
  | succ n ih =>
    intro v1 v2 v3 μ r h
    rw [D_X7_after_30] at h
    refine V_iload_n dX7_after_30 rfl ?_
    refine V_iload_n dX7_after_31 rfl ?_
    by_cases c32 : v1 < v3
    · rw [if_pos c32] at h
      refine V_icmpgt_t (tgt := 46) dX7_after_32 (by decide) c32 ?_
      refine V_aload_n dX7_after_46 rfl ?_
      refine V_iload_n dX7_after_47 rfl ?_
      obtain ⟨x9, y10, h⟩ := bi_o h
      refine V_callV (as := [.int v2]) (q := 85) (rest := []) dX7_after_48 ov_mX7_behind lk_RX7_456 (by decide) (by decide) rfl rfl (Nat.le_of_ble_eq_true rfl) (tq_85 hG) rfl (VM_X7_behind G fu hG v2 μ _ y10) ?_
      cases h
      exact V_lret rfl dX7_after_51
    · rw [if_neg c32] at h
      refine V_icmpgt_f (tgt := 46) dX7_after_32 (by decide) c32 ?_
      refine V_aload_n dX7_after_35 rfl ?_
      refine V_iload_n dX7_after_36 rfl ?_
      obtain ⟨x11, y12, h⟩ := bi_o h
      refine V_callV (as := [.int v3]) (q := 85) (rest := []) dX7_after_37 ov_mX7_goes lk_RX7_343 (by decide) (by decide) rfl rfl (Nat.le_of_ble_eq_true rfl) (tq_85 hG) rfl (VM_X7_goes G fu hG v3 μ _ y12) ?_
      refine V_iinc (v := v3 + 1) (lv2 := [some (.ref 85), some (.int v1), some (.int v2), some (.int (v3 + 1))]) dX7_after_40 rfl rfl (by decide) rfl ?_
      refine V_goto (tgt := 30) dX7_after_43 (by decide) ?_
      exact V_wk [true, true, true, true] rfl (ih _ _ _ _ _ h)
def D_X7_after_0 (fu : Nat)  (a1 : Int32) (a2 : Int32) (μ : Mem) : Option (Int64 × Mem) :=
  vl (wI μ 85 0 0) fun m1 =>
  (D_X7_isEvent_0 a1 m1).bind fun x3 =>
  if x3.1 = true then
    (D_X7_isPerson_0 a2 2 x3.2).bind fun x5 =>
    if x5.1 = true then
      (D_X7_begins_0 fu x5.2).bind fun x7 =>
      D_X7_after_30 fu fu a1 a2 0 x7
    else
      some (0, x5.2)
  else
    some (0, x3.2)
set_option maxRecDepth 20000 in
theorem T_X7_after_0 (G : GX) (fu : Nat)  (hG : gt G = tbl) : ∀ (a1 : Int32) (a2 : Int32) (μ : Mem) (r : (Int64 × Mem)) , D_X7_after_0 fu a1 a2 μ = some r → V G mX7_after 0 [some (.ref 85), some (.int a1), some (.int a2), none] [] μ (.inl (some (.long r.1))) (r.2) := by
  intro a1 a2 μ r h
  unfold D_X7_after_0 at h
  refine V_aload_n dX7_after_0 rfl ?_
  refine V_iconst (v := 0) dX7_after_1 rfl ?_
  obtain ⟨m1, e2, h⟩ := vl_o h
  refine V_putI (kf := 0) k_X7 (by decide) lk_RX7_1 rfl rfl (by decide +kernel) dX7_after_2 (tq_85 hG) rfl e2.symm ?_
  refine V_aload_n dX7_after_5 rfl ?_
  refine V_iload_n dX7_after_6 rfl ?_
  obtain ⟨x3, y4, h⟩ := bi_o h
  refine V_callV (as := [.int a1]) (q := 85) (rest := []) dX7_after_7 ov_mX7_isEvent lk_RX7_413 (by decide) (by decide) rfl rfl (Nat.le_of_ble_eq_true rfl) (tq_85 hG) rfl (VM_X7_isEvent G hG a1 m1 _ y4) ?_
  by_cases c10 : x3.1 = true
  · rw [if_pos c10] at h
    refine V_ifeq_f (tgt := 22) dX7_after_10 (by decide) (b2i_t.mp c10) ?_
    refine V_aload_n dX7_after_13 rfl ?_
    refine V_iload_n dX7_after_14 rfl ?_
    refine V_iconst (v := 2) dX7_after_15 rfl ?_
    obtain ⟨x5, y6, h⟩ := bi_o h
    refine V_callV (as := [.int a2, .int 2]) (q := 85) (rest := []) dX7_after_16 ov_mX7_isPerson lk_RX7_459 (by decide) (by decide) rfl rfl (Nat.le_of_ble_eq_true rfl) (tq_85 hG) rfl (VM_X7_isPerson G hG a2 2 x3.2 _ y6) ?_
    by_cases c19 : x5.1 = true
    · rw [if_pos c19] at h
      refine V_ifne_t (tgt := 24) dX7_after_19 (by decide) (b2i_t.mp c19) ?_
      refine V_aload_n dX7_after_24 rfl ?_
      obtain ⟨x7, y8, h⟩ := bi_o h
      refine V_callV (as := []) (q := 85) (rest := []) dX7_after_25 ov_mX7_begins lk_RX7_340 (by decide) (by decide) rfl rfl (Nat.le_of_ble_eq_true rfl) (tq_85 hG) rfl (VM_X7_begins G fu hG x5.2 _ y8) ?_
      refine V_iconst (v := 0) dX7_after_28 rfl ?_
      refine V_istore_n (lv2 := [some (.ref 85), some (.int a1), some (.int a2), some (.int 0)]) dX7_after_29 (by decide) rfl ?_
      exact V_wk [true, true, true, true] rfl (T_X7_after_30 G fu hG fu _ _ _ _ _ h)
    · rw [if_neg c19] at h
      refine V_ifne_f (tgt := 24) dX7_after_19 (by decide) (b2i_f.mp c19) ?_
      refine V_lconst (v := 0) dX7_after_22 rfl ?_
      cases h
      exact V_lret rfl dX7_after_23
  · rw [if_neg c10] at h
    refine V_ifeq_t (tgt := 22) dX7_after_10 (by decide) (b2i_f.mp c10) ?_
    refine V_lconst (v := 0) dX7_after_22 rfl ?_
    cases h
    exact V_lret rfl dX7_after_23
theorem VM_X7_after (G : GX) (fu : Nat)  (hG : gt G = tbl) (a1 : Int32) (a2 : Int32) (μ : Mem) (r : (Int64 × Mem)) (h : D_X7_after_0 fu a1 a2 μ = some r) : VM G mX7_after [.ref 85, .int a1, .int a2] μ (.inl (some (.long r.1))) (r.2) := V_entry ok_mX7_after rfl rfl (Nat.le_of_ble_eq_true rfl) (T_X7_after_0 G fu hG a1 a2 μ r h)
def D_X7_usedUp_63 (fu : Nat)  (k24 : Int32 → Int32 → Int32 → Mem → Option (Int32 × Mem)) (v1 : Int32) (v2 : Int32) (v3 : Int32) (μ : Mem) : Option (Int32 × Mem) :=
  k24 v1 v2 (v3 + 1) μ
set_option maxRecDepth 20000 in
theorem T_X7_usedUp_63 (G : GX) (fu : Nat)  (hG : gt G = tbl) (k24 : Int32 → Int32 → Int32 → Mem → Option (Int32 × Mem)) (hk24 : ∀ (v1 : Int32) (v2 : Int32) (v3 : Int32) (μ : Mem) (r : (Int32 × Mem)), k24 v1 v2 v3 μ = some r → V G mX7_usedUp 24 [some (.ref 85), some (.int v1), some (.int v2), some (.int v3)] [] μ (.inl (some (.int r.1))) (r.2)) : ∀ (v1 : Int32) (v2 : Int32) (v3 : Int32) (μ : Mem) (r : (Int32 × Mem)) , D_X7_usedUp_63 fu k24 v1 v2 v3 μ = some r → V G mX7_usedUp 63 [some (.ref 85), some (.int v1), some (.int v2), some (.int v3)] [] μ (.inl (some (.int r.1))) (r.2) := by
  intro v1 v2 v3 μ r h
  unfold D_X7_usedUp_63 at h
  refine V_iinc (v := v3 + 1) (lv2 := [some (.ref 85), some (.int v1), some (.int v2), some (.int (v3 + 1))]) dX7_usedUp_63 rfl rfl (by decide) rfl ?_
  refine V_goto (tgt := 24) dX7_usedUp_66 (by decide) ?_
  exact V_wk [true, true, true, true] rfl (hk24 _ _ _ _ _ h)
def D_X7_usedUp_24 (fu : Nat)  : Nat → Int32 → Int32 → Int32 → Mem → Option (Int32 × Mem)
  | 0, _, _, _, _ => none
  | n + 1, v1, v2, v3, μ =>
    if (μ.1 85 5) ≤ v3 then
      some (v2, μ)
    else
      (D_X7_goes_0 fu v3 μ).bind fun x7 =>
      if v2 = (-1 : Int32) then
        gu (ib v1 40) <|
        if (x7.1 90 (Int32.toNatClampNeg v1)) = 0 then
          D_X7_usedUp_63 fu (D_X7_usedUp_24 fu n) v1 v2 v3 x7
        else
          (D_X7_left_0 x7 v1).bind fun x10 =>
          if x10 = (0 : Int64) then
            D_X7_usedUp_63 fu (D_X7_usedUp_24 fu n) v1 v3 v3 x7
          else
            D_X7_usedUp_63 fu (D_X7_usedUp_24 fu n) v1 v2 v3 x7
      else
        D_X7_usedUp_63 fu (D_X7_usedUp_24 fu n) v1 v2 v3 x7
set_option maxRecDepth 20000 in
theorem T_X7_usedUp_24 (G : GX) (fu : Nat)  (hG : gt G = tbl) : ∀ (n : Nat) (v1 : Int32) (v2 : Int32) (v3 : Int32) (μ : Mem) (r : (Int32 × Mem)) , D_X7_usedUp_24 fu n v1 v2 v3 μ = some r → V G mX7_usedUp 24 [some (.ref 85), some (.int v1), some (.int v2), some (.int v3)] [] μ (.inl (some (.int r.1))) (r.2) := by
  intro n
  induction n with
  | zero =>
    intro v1 v2 v3 μ r h
    exact nomatch (show (none : Option (Int32 × Mem)) = some r from h)
  | succ n ih =>
    intro v1 v2 v3 μ r h
    rw [D_X7_usedUp_24] at h
    refine V_iload_n dX7_usedUp_24 rfl ?_
    refine V_aload_n dX7_usedUp_25 rfl ?_
    refine V_getI (kf := 5) k_X7 (by decide) lk_RX7_17 rfl dX7_usedUp_26 (tq_85 hG) rfl ?_
    by_cases c29 : (μ.1 85 5) ≤ v3
    · rw [if_pos c29] at h
      refine V_icmpge_t (tgt := 69) dX7_usedUp_29 (by decide) c29 ?_
      refine V_iload_n dX7_usedUp_69 rfl ?_
      cases h
      exact V_iret rfl dX7_usedUp_70
    · rw [if_neg c29] at h
      refine V_icmpge_f (tgt := 69) dX7_usedUp_29 (by decide) c29 ?_
      refine V_aload_n dX7_usedUp_32 rfl ?_
      refine V_iload_n dX7_usedUp_33 rfl ?_
      obtain ⟨x7, y8, h⟩ := bi_o h
      refine V_callV (as := [.int v3]) (q := 85) (rest := []) dX7_usedUp_34 ov_mX7_goes lk_RX7_343 (by decide) (by decide) rfl rfl (Nat.le_of_ble_eq_true rfl) (tq_85 hG) rfl (VM_X7_goes G fu hG v3 μ _ y8) ?_
      refine V_iload_n dX7_usedUp_37 rfl ?_
      refine V_iconst (v := (-1)) dX7_usedUp_38 rfl ?_
      by_cases c39 : v2 = (-1 : Int32)
      · rw [if_pos c39] at h
        refine V_icmpne_f (tgt := 63) dX7_usedUp_39 (by decide) c39 ?_
        refine V_aload_n dX7_usedUp_42 rfl ?_
        refine V_getR (kf := 6) k_X7 (by decide) lk_RX7_29 rfl dX7_usedUp_43 (tq_85 hG) rfl ?_
        refine V_iload_n dX7_usedUp_46 rfl ?_
        obtain ⟨g9, h⟩ := gu_o h
        refine V_baload dX7_usedUp_47 (tq_90 hG) (ib_in g9) ?_
        by_cases c48 : (x7.1 90 (Int32.toNatClampNeg v1)) = 0
        · rw [if_pos c48] at h
          refine V_ifeq_t (tgt := 63) dX7_usedUp_48 (by decide) c48 ?_
          exact V_wk [true, true, true, true] rfl (T_X7_usedUp_63 G fu hG (D_X7_usedUp_24 fu n) ih _ _ _ _ _ h)
        · rw [if_neg c48] at h
          refine V_ifeq_f (tgt := 63) dX7_usedUp_48 (by decide) c48 ?_
          refine V_aload_n dX7_usedUp_51 rfl ?_
          refine V_iload_n dX7_usedUp_52 rfl ?_
          obtain ⟨x10, y11, h⟩ := bi_o h
          refine V_callV (as := [.int v1]) (q := 85) (rest := []) dX7_usedUp_53 ov_mX7_left lk_RX7_175 (by decide) (by decide) rfl rfl (Nat.le_of_ble_eq_true rfl) (tq_85 hG) rfl (VM_X7_left G x7 hG v1 _ y11) ?_
          refine V_lconst (v := 0) dX7_usedUp_56 rfl ?_
          refine V_lcmp dX7_usedUp_57 ?_
          by_cases c58 : x10 = (0 : Int64)
          · rw [if_pos c58] at h
            refine V_ifne_f (tgt := 63) dX7_usedUp_58 (by decide) ((lc_eq x10 0).mpr c58) ?_
            refine V_iload_n dX7_usedUp_61 rfl ?_
            refine V_istore_n (lv2 := [some (.ref 85), some (.int v1), some (.int v3), some (.int v3)]) dX7_usedUp_62 (by decide) rfl ?_
            exact V_wk [true, true, true, true] rfl (T_X7_usedUp_63 G fu hG (D_X7_usedUp_24 fu n) ih _ _ _ _ _ h)
          · rw [if_neg c58] at h
            refine V_ifne_t (tgt := 63) dX7_usedUp_58 (by decide) (fun z => c58 ((lc_eq x10 0).mp z)) ?_
            exact V_wk [true, true, true, true] rfl (T_X7_usedUp_63 G fu hG (D_X7_usedUp_24 fu n) ih _ _ _ _ _ h)
      · rw [if_neg c39] at h
        refine V_icmpne_t (tgt := 63) dX7_usedUp_39 (by decide) c39 ?_
        exact V_wk [true, true, true, true] rfl (T_X7_usedUp_63 G fu hG (D_X7_usedUp_24 fu n) ih _ _ _ _ _ h)
def D_X7_usedUp_0 (fu : Nat)  (a1 : Int32) (μ : Mem) : Option (Int32 × Mem) :=
  vl (wI μ 85 0 0) fun m1 =>
  (D_X7_isOne_0 a1 1 m1).bind fun x3 =>
  if x3.1 = true then
    (D_X7_begins_0 fu x3.2).bind fun x5 =>
    D_X7_usedUp_24 fu fu a1 (-1) 0 x5
  else
    some (0, x3.2)
set_option maxRecDepth 20000 in
theorem T_X7_usedUp_0 (G : GX) (fu : Nat)  (hG : gt G = tbl) : ∀ (a1 : Int32) (μ : Mem) (r : (Int32 × Mem)) , D_X7_usedUp_0 fu a1 μ = some r → V G mX7_usedUp 0 [some (.ref 85), some (.int a1), none, none] [] μ (.inl (some (.int r.1))) (r.2) := by
  intro a1 μ r h
  unfold D_X7_usedUp_0 at h
  refine V_aload_n dX7_usedUp_0 rfl ?_
  refine V_iconst (v := 0) dX7_usedUp_1 rfl ?_
  obtain ⟨m1, e2, h⟩ := vl_o h
  refine V_putI (kf := 0) k_X7 (by decide) lk_RX7_1 rfl rfl (by decide +kernel) dX7_usedUp_2 (tq_85 hG) rfl e2.symm ?_
  refine V_aload_n dX7_usedUp_5 rfl ?_
  refine V_iload_n dX7_usedUp_6 rfl ?_
  refine V_iconst (v := 1) dX7_usedUp_7 rfl ?_
  obtain ⟨x3, y4, h⟩ := bi_o h
  refine V_callV (as := [.int a1, .int 1]) (q := 85) (rest := []) dX7_usedUp_8 ov_mX7_isOne lk_RX7_374 (by decide) (by decide) rfl rfl (Nat.le_of_ble_eq_true rfl) (tq_85 hG) rfl (VM_X7_isOne G hG a1 1 m1 _ y4) ?_
  by_cases c11 : x3.1 = true
  · rw [if_pos c11] at h
    refine V_ifne_t (tgt := 16) dX7_usedUp_11 (by decide) (b2i_t.mp c11) ?_
    refine V_iconst (v := (-1)) dX7_usedUp_16 rfl ?_
    refine V_istore_n (lv2 := [some (.ref 85), some (.int a1), some (.int (-1)), none]) dX7_usedUp_17 (by decide) rfl ?_
    refine V_aload_n dX7_usedUp_18 rfl ?_
    obtain ⟨x5, y6, h⟩ := bi_o h
    refine V_callV (as := []) (q := 85) (rest := []) dX7_usedUp_19 ov_mX7_begins lk_RX7_340 (by decide) (by decide) rfl rfl (Nat.le_of_ble_eq_true rfl) (tq_85 hG) rfl (VM_X7_begins G fu hG x3.2 _ y6) ?_
    refine V_iconst (v := 0) dX7_usedUp_22 rfl ?_
    refine V_istore_n (lv2 := [some (.ref 85), some (.int a1), some (.int (-1)), some (.int 0)]) dX7_usedUp_23 (by decide) rfl ?_
    exact V_wk [true, true, true, true] rfl (T_X7_usedUp_24 G fu hG fu _ _ _ _ _ h)
  · rw [if_neg c11] at h
    refine V_ifne_f (tgt := 16) dX7_usedUp_11 (by decide) (b2i_f.mp c11) ?_
    refine V_iconst (v := 0) dX7_usedUp_14 rfl ?_
    cases h
    exact V_iret rfl dX7_usedUp_15
theorem VM_X7_usedUp (G : GX) (fu : Nat)  (hG : gt G = tbl) (a1 : Int32) (μ : Mem) (r : (Int32 × Mem)) (h : D_X7_usedUp_0 fu a1 μ = some r) : VM G mX7_usedUp [.ref 85, .int a1] μ (.inl (some (.int r.1))) (r.2) := V_entry ok_mX7_usedUp rfl rfl (Nat.le_of_ble_eq_true rfl) (T_X7_usedUp_0 G fu hG a1 μ r h)
def D_X7_isOf_49 (μ : Mem)  (v1 : Int32) (v2 : Int32) : Option Bool :=
  (D_X7_tell_0 μ v1 0).bind fun x4 =>
  if x4 = v2 then
    some true
  else
    some false
set_option maxRecDepth 20000 in
theorem T_X7_isOf_49 (G : GX) (μ : Mem)  (hG : gt G = tbl) : ∀ (v1 : Int32) (v2 : Int32) (r : Bool) , D_X7_isOf_49 μ v1 v2 = some r → V G mX7_isOf 49 [some (.ref 85), some (.int v1), some (.int v2)] [] μ (.inl (some (.int (b2i r)))) (μ) := by
  intro v1 v2 r h
  unfold D_X7_isOf_49 at h
  refine V_aload_n dX7_isOf_49 rfl ?_
  refine V_iload_n dX7_isOf_50 rfl ?_
  refine V_iconst (v := 0) dX7_isOf_51 rfl ?_
  obtain ⟨x4, y5, h⟩ := bi_o h
  refine V_callV (as := [.int v1, .int 0]) (q := 85) (rest := []) dX7_isOf_52 ov_mX7_tell lk_RX7_289 (by decide) (by decide) rfl rfl (Nat.le_of_ble_eq_true rfl) (tq_85 hG) rfl (VM_X7_tell G μ hG v1 0 _ y5) ?_
  refine V_iload_n dX7_isOf_55 rfl ?_
  by_cases c56 : x4 = v2
  · rw [if_pos c56] at h
    refine V_icmpne_f (tgt := 63) dX7_isOf_56 (by decide) c56 ?_
    refine V_iconst (v := 1) dX7_isOf_59 rfl ?_
    refine V_goto (tgt := 64) dX7_isOf_60 (by decide) ?_
    cases h
    exact V_zret rfl (by decide) dX7_isOf_64
  · rw [if_neg c56] at h
    refine V_icmpne_t (tgt := 63) dX7_isOf_56 (by decide) c56 ?_
    refine V_iconst (v := 0) dX7_isOf_63 rfl ?_
    cases h
    exact V_zret rfl (by decide) dX7_isOf_64
def D_X7_isOf_0 (μ : Mem)  (a1 : Int32) (a2 : Int32) : Option Bool :=
  gu (ib a1 160) <|
  if (μ.1 87 (Int32.toNatClampNeg a1)) = (4 : Int32) then
    gu (ib a1 160) <|
    if (μ.1 88 (Int32.toNatClampNeg a1)) = a2 then
      some true
    else
      some false
  else
    gu (ib a1 160) <|
    if (μ.1 87 (Int32.toNatClampNeg a1)) = (5 : Int32) then
      D_X7_isOf_49 μ a1 a2
    else
      gu (ib a1 160) <|
      if (μ.1 87 (Int32.toNatClampNeg a1)) = (8 : Int32) then
        D_X7_isOf_49 μ a1 a2
      else
        some false
set_option maxRecDepth 20000 in
theorem T_X7_isOf_0 (G : GX) (μ : Mem)  (hG : gt G = tbl) : ∀ (a1 : Int32) (a2 : Int32) (r : Bool) , D_X7_isOf_0 μ a1 a2 = some r → V G mX7_isOf 0 [some (.ref 85), some (.int a1), some (.int a2)] [] μ (.inl (some (.int (b2i r)))) (μ) := by
  intro a1 a2 r h
  unfold D_X7_isOf_0 at h
  refine V_aload_n dX7_isOf_0 rfl ?_
  refine V_getR (kf := 2) k_X7 (by decide) lk_RX7_14 rfl dX7_isOf_1 (tq_85 hG) rfl ?_
  refine V_iload_n dX7_isOf_4 rfl ?_
  obtain ⟨g1, h⟩ := gu_o h
  refine V_iaload dX7_isOf_5 (tq_87 hG) (ib_in g1) ?_
  refine V_iconst (v := 4) dX7_isOf_6 rfl ?_
  by_cases c7 : (μ.1 87 (Int32.toNatClampNeg a1)) = (4 : Int32)
  · rw [if_pos c7] at h
    refine V_icmpne_f (tgt := 28) dX7_isOf_7 (by decide) c7 ?_
    refine V_aload_n dX7_isOf_10 rfl ?_
    refine V_getR (kf := 3) k_X7 (by decide) lk_RX7_20 rfl dX7_isOf_11 (tq_85 hG) rfl ?_
    refine V_iload_n dX7_isOf_14 rfl ?_
    obtain ⟨g2, h⟩ := gu_o h
    refine V_iaload dX7_isOf_15 (tq_88 hG) (ib_in g2) ?_
    refine V_iload_n dX7_isOf_16 rfl ?_
    by_cases c17 : (μ.1 88 (Int32.toNatClampNeg a1)) = a2
    · rw [if_pos c17] at h
      refine V_icmpne_f (tgt := 24) dX7_isOf_17 (by decide) c17 ?_
      refine V_iconst (v := 1) dX7_isOf_20 rfl ?_
      refine V_goto (tgt := 64) dX7_isOf_21 (by decide) ?_
      cases h
      exact V_zret rfl (by decide) dX7_isOf_64
    · rw [if_neg c17] at h
      refine V_icmpne_t (tgt := 24) dX7_isOf_17 (by decide) c17 ?_
      refine V_iconst (v := 0) dX7_isOf_24 rfl ?_
      refine V_goto (tgt := 64) dX7_isOf_25 (by decide) ?_
      cases h
      exact V_zret rfl (by decide) dX7_isOf_64
  · rw [if_neg c7] at h
    refine V_icmpne_t (tgt := 28) dX7_isOf_7 (by decide) c7 ?_
    refine V_aload_n dX7_isOf_28 rfl ?_
    refine V_getR (kf := 2) k_X7 (by decide) lk_RX7_14 rfl dX7_isOf_29 (tq_85 hG) rfl ?_
    refine V_iload_n dX7_isOf_32 rfl ?_
    obtain ⟨g3, h⟩ := gu_o h
    refine V_iaload dX7_isOf_33 (tq_87 hG) (ib_in g3) ?_
    refine V_iconst (v := 5) dX7_isOf_34 rfl ?_
    by_cases c35 : (μ.1 87 (Int32.toNatClampNeg a1)) = (5 : Int32)
    · rw [if_pos c35] at h
      refine V_icmpeq_t (tgt := 49) dX7_isOf_35 (by decide) c35 ?_
      exact V_wk [true, true, true] rfl (T_X7_isOf_49 G μ hG _ _ _ h)
    · rw [if_neg c35] at h
      refine V_icmpeq_f (tgt := 49) dX7_isOf_35 (by decide) c35 ?_
      refine V_aload_n dX7_isOf_38 rfl ?_
      refine V_getR (kf := 2) k_X7 (by decide) lk_RX7_14 rfl dX7_isOf_39 (tq_85 hG) rfl ?_
      refine V_iload_n dX7_isOf_42 rfl ?_
      obtain ⟨g6, h⟩ := gu_o h
      refine V_iaload dX7_isOf_43 (tq_87 hG) (ib_in g6) ?_
      refine V_bipush (v := 8) dX7_isOf_44 rfl ?_
      by_cases c46 : (μ.1 87 (Int32.toNatClampNeg a1)) = (8 : Int32)
      · rw [if_pos c46] at h
        refine V_icmpne_f (tgt := 63) dX7_isOf_46 (by decide) c46 ?_
        exact V_wk [true, true, true] rfl (T_X7_isOf_49 G μ hG _ _ _ h)
      · rw [if_neg c46] at h
        refine V_icmpne_t (tgt := 63) dX7_isOf_46 (by decide) c46 ?_
        refine V_iconst (v := 0) dX7_isOf_63 rfl ?_
        cases h
        exact V_zret rfl (by decide) dX7_isOf_64
theorem VM_X7_isOf (G : GX) (μ : Mem)  (hG : gt G = tbl) (a1 : Int32) (a2 : Int32) (r : Bool) (h : D_X7_isOf_0 μ a1 a2 = some r) : VM G mX7_isOf [.ref 85, .int a1, .int a2] μ (.inl (some (.int (b2i r)))) (μ) := V_entry ok_mX7_isOf rfl rfl (Nat.le_of_ble_eq_true rfl) (T_X7_isOf_0 G μ hG a1 a2 r h)
def D_X7_heaviest_129 (fu : Nat)  (k51 : Int32 → Int32 → Int32 → Int64 → Int32 → Mem → Option (Int64 × Mem)) (v1 : Int32) (v2 : Int32) (v3 : Int32) (v4 : Int64) (v6 : Int32) (μ : Mem) : Option (Int64 × Mem) :=
  k51 v1 v2 v3 v4 (v6 + 1) μ
set_option maxRecDepth 20000 in
theorem T_X7_heaviest_129 (G : GX) (fu : Nat)  (hG : gt G = tbl) (k51 : Int32 → Int32 → Int32 → Int64 → Int32 → Mem → Option (Int64 × Mem)) (hk51 : ∀ (v1 : Int32) (v2 : Int32) (v3 : Int32) (v4 : Int64) (v6 : Int32) (μ : Mem) (r : (Int64 × Mem)), k51 v1 v2 v3 v4 v6 μ = some r → V G mX7_heaviest 51 [some (.ref 85), some (.int v1), some (.int v2), some (.int v3), some (.long v4), none, some (.int v6), none] [] μ (.inl (some (.long r.1))) (r.2)) : ∀ (v1 : Int32) (v2 : Int32) (v3 : Int32) (v4 : Int64) (v6 : Int32) (μ : Mem) (r : (Int64 × Mem)) , D_X7_heaviest_129 fu k51 v1 v2 v3 v4 v6 μ = some r → V G mX7_heaviest 129 [some (.ref 85), some (.int v1), some (.int v2), some (.int v3), some (.long v4), none, some (.int v6), none] [] μ (.inl (some (.long r.1))) (r.2) := by
  intro v1 v2 v3 v4 v6 μ r h
  unfold D_X7_heaviest_129 at h
  refine V_iinc (v := v6 + 1) (lv2 := [some (.ref 85), some (.int v1), some (.int v2), some (.int v3), some (.long v4), none, some (.int (v6 + 1)), none]) dX7_heaviest_129 rfl rfl (by decide) rfl ?_
  refine V_goto (tgt := 51) dX7_heaviest_132 (by decide) ?_
  exact V_wk [true, true, true, true, true, false, true, false] rfl (hk51 _ _ _ _ _ _ _ h)
def D_X7_heaviest_119 (fu : Nat)  (k51 : Int32 → Int32 → Int32 → Int64 → Int32 → Mem → Option (Int64 × Mem)) (v1 : Int32) (v2 : Int32) (v6 : Int32) (μ : Mem) : Option (Int64 × Mem) :=
  (D_X7_bearsAll_0 fu μ v1).bind fun x15 =>
  D_X7_heaviest_129 fu k51 v1 v2 v6 x15 v6 μ
set_option maxRecDepth 20000 in
theorem T_X7_heaviest_119 (G : GX) (fu : Nat)  (hG : gt G = tbl) (k51 : Int32 → Int32 → Int32 → Int64 → Int32 → Mem → Option (Int64 × Mem)) (hk51 : ∀ (v1 : Int32) (v2 : Int32) (v3 : Int32) (v4 : Int64) (v6 : Int32) (μ : Mem) (r : (Int64 × Mem)), k51 v1 v2 v3 v4 v6 μ = some r → V G mX7_heaviest 51 [some (.ref 85), some (.int v1), some (.int v2), some (.int v3), some (.long v4), none, some (.int v6), none] [] μ (.inl (some (.long r.1))) (r.2)) : ∀ (v1 : Int32) (v2 : Int32) (v6 : Int32) (μ : Mem) (r : (Int64 × Mem)) , D_X7_heaviest_119 fu k51 v1 v2 v6 μ = some r → V G mX7_heaviest 119 [some (.ref 85), some (.int v1), some (.int v2), none, none, none, some (.int v6), none] [] μ (.inl (some (.long r.1))) (r.2) := by
  intro v1 v2 v6 μ r h
  unfold D_X7_heaviest_119 at h
  refine V_iload dX7_heaviest_119 rfl ?_
  refine V_istore_n (lv2 := [some (.ref 85), some (.int v1), some (.int v2), some (.int v6), none, none, some (.int v6), none]) dX7_heaviest_121 (by decide) rfl ?_
  refine V_aload_n dX7_heaviest_122 rfl ?_
  refine V_iload_n dX7_heaviest_123 rfl ?_
  obtain ⟨x15, y16, h⟩ := bi_o h
  refine V_callV (as := [.int v1]) (q := 85) (rest := []) dX7_heaviest_124 ov_mX7_bearsAll lk_RX7_437 (by decide) (by decide) rfl rfl (Nat.le_of_ble_eq_true rfl) (tq_85 hG) rfl (VM_X7_bearsAll G fu μ hG v1 _ y16) ?_
  refine V_lstore (lv2 := [some (.ref 85), some (.int v1), some (.int v2), some (.int v6), some (.long x15), none, some (.int v6), none]) dX7_heaviest_127 (by decide) rfl ?_
  exact V_wk [true, true, true, true, true, false, true, false] rfl (T_X7_heaviest_129 G fu hG k51 hk51 _ _ _ _ _ _ _ h)
def D_X7_heaviest_94 (fu : Nat)  (k51 : Int32 → Int32 → Int32 → Int64 → Int32 → Mem → Option (Int64 × Mem)) (k68 : Int32 → Int32 → Int32 → Int64 → Int32 → Int32 → Mem → Option (Int64 × Mem)) (v1 : Int32) (v2 : Int32) (v3 : Int32) (v4 : Int64) (v6 : Int32) (v7 : Int32) (μ : Mem) : Option (Int64 × Mem) :=
  k68 v1 v2 v3 v4 v6 (v7 + 1) μ
set_option maxRecDepth 20000 in
theorem T_X7_heaviest_94 (G : GX) (fu : Nat)  (hG : gt G = tbl) (k51 : Int32 → Int32 → Int32 → Int64 → Int32 → Mem → Option (Int64 × Mem)) (hk51 : ∀ (v1 : Int32) (v2 : Int32) (v3 : Int32) (v4 : Int64) (v6 : Int32) (μ : Mem) (r : (Int64 × Mem)), k51 v1 v2 v3 v4 v6 μ = some r → V G mX7_heaviest 51 [some (.ref 85), some (.int v1), some (.int v2), some (.int v3), some (.long v4), none, some (.int v6), none] [] μ (.inl (some (.long r.1))) (r.2)) (k68 : Int32 → Int32 → Int32 → Int64 → Int32 → Int32 → Mem → Option (Int64 × Mem)) (hk68 : ∀ (v1 : Int32) (v2 : Int32) (v3 : Int32) (v4 : Int64) (v6 : Int32) (v7 : Int32) (μ : Mem) (r : (Int64 × Mem)), k68 v1 v2 v3 v4 v6 v7 μ = some r → V G mX7_heaviest 68 [some (.ref 85), some (.int v1), some (.int v2), some (.int v3), some (.long v4), none, some (.int v6), some (.int v7)] [] μ (.inl (some (.long r.1))) (r.2)) : ∀ (v1 : Int32) (v2 : Int32) (v3 : Int32) (v4 : Int64) (v6 : Int32) (v7 : Int32) (μ : Mem) (r : (Int64 × Mem)) , D_X7_heaviest_94 fu k51 k68 v1 v2 v3 v4 v6 v7 μ = some r → V G mX7_heaviest 94 [some (.ref 85), some (.int v1), some (.int v2), some (.int v3), some (.long v4), none, some (.int v6), some (.int v7)] [] μ (.inl (some (.long r.1))) (r.2) := by
  intro v1 v2 v3 v4 v6 v7 μ r h
  unfold D_X7_heaviest_94 at h
  refine V_iinc (v := v7 + 1) (lv2 := [some (.ref 85), some (.int v1), some (.int v2), some (.int v3), some (.long v4), none, some (.int v6), some (.int (v7 + 1))]) dX7_heaviest_94 rfl rfl (by decide) rfl ?_
  refine V_goto (tgt := 68) dX7_heaviest_97 (by decide) ?_
  exact V_wk [true, true, true, true, true, false, true, true] rfl (hk68 _ _ _ _ _ _ _ _ h)
def D_X7_heaviest_68 (fu : Nat)  (k51 : Int32 → Int32 → Int32 → Int64 → Int32 → Mem → Option (Int64 × Mem)) : Nat → Int32 → Int32 → Int32 → Int64 → Int32 → Int32 → Mem → Option (Int64 × Mem)
  | 0, _, _, _, _, _, _, _ => none
  | n + 1, v1, v2, v3, v4, v6, v7, μ =>
    if (μ.1 85 5) ≤ v7 then
      if v3 = (-1 : Int32) then
        D_X7_heaviest_119 fu k51 v1 v2 v6 μ
      else
        (D_X7_bearsAll_0 fu μ v1).bind fun x17 =>
        if x17 < v4 then
          D_X7_heaviest_119 fu k51 v1 v2 v6 μ
        else
          D_X7_heaviest_129 fu k51 v1 v2 v3 v4 v6 μ
    else
      (D_X7_isOf_0 μ v7 v6).bind fun x19 =>
      if x19 = true then
        D_X7_heaviest_94 fu k51 (D_X7_heaviest_68 fu k51 n) v1 v2 v3 v4 v6 v7 μ
      else
        (D_X7_goes_0 fu v7 μ).bind fun x21 =>
        D_X7_heaviest_94 fu k51 (D_X7_heaviest_68 fu k51 n) v1 v2 v3 v4 v6 v7 x21
set_option maxRecDepth 20000 in
theorem T_X7_heaviest_68 (G : GX) (fu : Nat)  (hG : gt G = tbl) (k51 : Int32 → Int32 → Int32 → Int64 → Int32 → Mem → Option (Int64 × Mem)) (hk51 : ∀ (v1 : Int32) (v2 : Int32) (v3 : Int32) (v4 : Int64) (v6 : Int32) (μ : Mem) (r : (Int64 × Mem)), k51 v1 v2 v3 v4 v6 μ = some r → V G mX7_heaviest 51 [some (.ref 85), some (.int v1), some (.int v2), some (.int v3), some (.long v4), none, some (.int v6), none] [] μ (.inl (some (.long r.1))) (r.2)) : ∀ (n : Nat) (v1 : Int32) (v2 : Int32) (v3 : Int32) (v4 : Int64) (v6 : Int32) (v7 : Int32) (μ : Mem) (r : (Int64 × Mem)) , D_X7_heaviest_68 fu k51 n v1 v2 v3 v4 v6 v7 μ = some r → V G mX7_heaviest 68 [some (.ref 85), some (.int v1), some (.int v2), some (.int v3), some (.long v4), none, some (.int v6), some (.int v7)] [] μ (.inl (some (.long r.1))) (r.2) := by
  intro n
  induction n with
  | zero =>
    intro v1 v2 v3 v4 v6 v7 μ r h
    exact nomatch (show (none : Option (Int64 × Mem)) = some r from h)
  | succ n ih =>
    intro v1 v2 v3 v4 v6 v7 μ r h
    rw [D_X7_heaviest_68] at h
    refine V_iload dX7_heaviest_68 rfl ?_
    refine V_aload_n dX7_heaviest_70 rfl ?_
    refine V_getI (kf := 5) k_X7 (by decide) lk_RX7_17 rfl dX7_heaviest_71 (tq_85 hG) rfl ?_
    by_cases c74 : (μ.1 85 5) ≤ v7
    · rw [if_pos c74] at h
      refine V_icmpge_t (tgt := 100) dX7_heaviest_74 (by decide) c74 ?_
      refine V_iload_n dX7_heaviest_100 rfl ?_
      refine V_iconst (v := (-1)) dX7_heaviest_101 rfl ?_
      by_cases c102 : v3 = (-1 : Int32)
      · rw [if_pos c102] at h
        refine V_icmpeq_t (tgt := 119) dX7_heaviest_102 (by decide) c102 ?_
        exact V_wk [true, true, true, false, false, false, true, false] rfl (T_X7_heaviest_119 G fu hG k51 hk51 _ _ _ _ _ h)
      · rw [if_neg c102] at h
        refine V_icmpeq_f (tgt := 119) dX7_heaviest_102 (by decide) c102 ?_
        refine V_aload_n dX7_heaviest_105 rfl ?_
        refine V_iload_n dX7_heaviest_106 rfl ?_
        obtain ⟨x17, y18, h⟩ := bi_o h
        refine V_callV (as := [.int v1]) (q := 85) (rest := []) dX7_heaviest_107 ov_mX7_bearsAll lk_RX7_437 (by decide) (by decide) rfl rfl (Nat.le_of_ble_eq_true rfl) (tq_85 hG) rfl (VM_X7_bearsAll G fu μ hG v1 _ y18) ?_
        refine V_lload dX7_heaviest_110 rfl ?_
        refine V_lcmp dX7_heaviest_112 ?_
        by_cases c113 : x17 < v4
        · rw [if_pos c113] at h
          refine V_iflt_t (tgt := 119) dX7_heaviest_113 (by decide) ((lc_lt x17 v4).mpr c113) ?_
          exact V_wk [true, true, true, false, false, false, true, false] rfl (T_X7_heaviest_119 G fu hG k51 hk51 _ _ _ _ _ h)
        · rw [if_neg c113] at h
          refine V_iflt_f (tgt := 119) dX7_heaviest_113 (by decide) (fun z => c113 ((lc_lt x17 v4).mp z)) ?_
          refine V_goto (tgt := 129) dX7_heaviest_116 (by decide) ?_
          exact V_wk [true, true, true, true, true, false, true, false] rfl (T_X7_heaviest_129 G fu hG k51 hk51 _ _ _ _ _ _ _ h)
    · rw [if_neg c74] at h
      refine V_icmpge_f (tgt := 100) dX7_heaviest_74 (by decide) c74 ?_
      refine V_aload_n dX7_heaviest_77 rfl ?_
      refine V_iload dX7_heaviest_78 rfl ?_
      refine V_iload dX7_heaviest_80 rfl ?_
      obtain ⟨x19, y20, h⟩ := bi_o h
      refine V_callV (as := [.int v7, .int v6]) (q := 85) (rest := []) dX7_heaviest_82 ov_mX7_isOf lk_RX7_465 (by decide) (by decide) rfl rfl (Nat.le_of_ble_eq_true rfl) (tq_85 hG) rfl (VM_X7_isOf G μ hG v7 v6 _ y20) ?_
      by_cases c85 : x19 = true
      · rw [if_pos c85] at h
        refine V_ifne_t (tgt := 94) dX7_heaviest_85 (by decide) (b2i_t.mp c85) ?_
        exact V_wk [true, true, true, true, true, false, true, true] rfl (T_X7_heaviest_94 G fu hG k51 hk51 (D_X7_heaviest_68 fu k51 n) ih _ _ _ _ _ _ _ _ h)
      · rw [if_neg c85] at h
        refine V_ifne_f (tgt := 94) dX7_heaviest_85 (by decide) (b2i_f.mp c85) ?_
        refine V_aload_n dX7_heaviest_88 rfl ?_
        refine V_iload dX7_heaviest_89 rfl ?_
        obtain ⟨x21, y22, h⟩ := bi_o h
        refine V_callV (as := [.int v7]) (q := 85) (rest := []) dX7_heaviest_91 ov_mX7_goes lk_RX7_343 (by decide) (by decide) rfl rfl (Nat.le_of_ble_eq_true rfl) (tq_85 hG) rfl (VM_X7_goes G fu hG v7 μ _ y22) ?_
        exact V_wk [true, true, true, true, true, false, true, true] rfl (T_X7_heaviest_94 G fu hG k51 hk51 (D_X7_heaviest_68 fu k51 n) ih _ _ _ _ _ _ _ _ h)
def D_X7_heaviest_51 (fu : Nat)  : Nat → Int32 → Int32 → Int32 → Int64 → Int32 → Mem → Option (Int64 × Mem)
  | 0, _, _, _, _, _, _ => none
  | n + 1, v1, v2, v3, v4, v6, μ =>
    (D_X7_eventsOf_0 fu μ 4).bind fun x9 =>
    if x9 ≤ v6 then
      (D_X7_goesOver_0 fu μ).bind fun x11 =>
      if v2 = 0 then
        some ((v3 : Int32).toInt64, x11)
      else
        some (v4, x11)
    else
      (D_X7_begins_0 fu μ).bind fun x13 =>
      D_X7_heaviest_68 fu (D_X7_heaviest_51 fu n) fu v1 v2 v3 v4 v6 0 x13
set_option maxRecDepth 20000 in
theorem T_X7_heaviest_51 (G : GX) (fu : Nat)  (hG : gt G = tbl) : ∀ (n : Nat) (v1 : Int32) (v2 : Int32) (v3 : Int32) (v4 : Int64) (v6 : Int32) (μ : Mem) (r : (Int64 × Mem)) , D_X7_heaviest_51 fu n v1 v2 v3 v4 v6 μ = some r → V G mX7_heaviest 51 [some (.ref 85), some (.int v1), some (.int v2), some (.int v3), some (.long v4), none, some (.int v6), none] [] μ (.inl (some (.long r.1))) (r.2) := by
  intro n
  induction n with
  | zero =>
    intro v1 v2 v3 v4 v6 μ r h
    exact nomatch (show (none : Option (Int64 × Mem)) = some r from h)
  | succ n ih =>
    intro v1 v2 v3 v4 v6 μ r h
    rw [D_X7_heaviest_51] at h
    refine V_iload dX7_heaviest_51 rfl ?_
    refine V_aload_n dX7_heaviest_53 rfl ?_
    refine V_iconst (v := 4) dX7_heaviest_54 rfl ?_
    obtain ⟨x9, y10, h⟩ := bi_o h
    refine V_callV (as := [.int 4]) (q := 85) (rest := [.int v6]) dX7_heaviest_55 ov_mX7_eventsOf lk_RX7_362 (by decide) (by decide) rfl rfl (Nat.le_of_ble_eq_true rfl) (tq_85 hG) rfl (VM_X7_eventsOf G fu μ hG 4 _ y10) ?_
    by_cases c58 : x9 ≤ v6
    · rw [if_pos c58] at h
      refine V_icmpge_t (tgt := 135) dX7_heaviest_58 (by decide) c58 ?_
      refine V_aload_n dX7_heaviest_135 rfl ?_
      obtain ⟨x11, y12, h⟩ := bi_o h
      refine V_callV (as := []) (q := 85) (rest := []) dX7_heaviest_136 ov_mX7_goesOver lk_RX7_403 (by decide) (by decide) rfl rfl (Nat.le_of_ble_eq_true rfl) (tq_85 hG) rfl (VM_X7_goesOver G fu hG μ _ y12) ?_
      refine V_iload_n dX7_heaviest_139 rfl ?_
      by_cases c140 : v2 = 0
      · rw [if_pos c140] at h
        refine V_ifne_f (tgt := 148) dX7_heaviest_140 (by decide) c140 ?_
        refine V_iload_n dX7_heaviest_143 rfl ?_
        refine V_i2l dX7_heaviest_144 ?_
        refine V_goto (tgt := 150) dX7_heaviest_145 (by decide) ?_
        cases h
        exact V_lret rfl dX7_heaviest_150
      · rw [if_neg c140] at h
        refine V_ifne_t (tgt := 148) dX7_heaviest_140 (by decide) c140 ?_
        refine V_lload dX7_heaviest_148 rfl ?_
        cases h
        exact V_lret rfl dX7_heaviest_150
    · rw [if_neg c58] at h
      refine V_icmpge_f (tgt := 135) dX7_heaviest_58 (by decide) c58 ?_
      refine V_aload_n dX7_heaviest_61 rfl ?_
      obtain ⟨x13, y14, h⟩ := bi_o h
      refine V_callV (as := []) (q := 85) (rest := []) dX7_heaviest_62 ov_mX7_begins lk_RX7_340 (by decide) (by decide) rfl rfl (Nat.le_of_ble_eq_true rfl) (tq_85 hG) rfl (VM_X7_begins G fu hG μ _ y14) ?_
      refine V_iconst (v := 0) dX7_heaviest_65 rfl ?_
      refine V_istore (lv2 := [some (.ref 85), some (.int v1), some (.int v2), some (.int v3), some (.long v4), none, some (.int v6), some (.int 0)]) dX7_heaviest_66 (by decide) rfl ?_
      exact V_wk [true, true, true, true, true, false, true, true] rfl (T_X7_heaviest_68 G fu hG (D_X7_heaviest_51 fu n) ih fu _ _ _ _ _ _ _ _ h)
def D_X7_heaviest_33 (fu : Nat)  (v1 : Int32) (v2 : Int32) (s1 : Int32) (μ : Mem) : Option (Int64 × Mem) :=
  (D_X7_needs_0 s1 1 1 μ).bind fun x7 =>
  if x7.1 = true then
    D_X7_heaviest_51 fu fu v1 v2 (-1) 0 0 x7.2
  else
    some (0, x7.2)
set_option maxRecDepth 20000 in
theorem T_X7_heaviest_33 (G : GX) (fu : Nat)  (hG : gt G = tbl) : ∀ (v1 : Int32) (v2 : Int32) (s1 : Int32) (μ : Mem) (r : (Int64 × Mem)) , D_X7_heaviest_33 fu v1 v2 s1 μ = some r → V G mX7_heaviest 33 [some (.ref 85), some (.int v1), some (.int v2), none, none, none, none, none] [.int s1, .ref 85] μ (.inl (some (.long r.1))) (r.2) := by
  intro v1 v2 s1 μ r h
  unfold D_X7_heaviest_33 at h
  refine V_iconst (v := 1) dX7_heaviest_33 rfl ?_
  refine V_iconst (v := 1) dX7_heaviest_34 rfl ?_
  obtain ⟨x7, y8, h⟩ := bi_o h
  refine V_callV (as := [.int s1, .int 1, .int 1]) (q := 85) (rest := []) dX7_heaviest_35 ov_mX7_needs lk_RX7_346 (by decide) (by decide) rfl rfl (Nat.le_of_ble_eq_true rfl) (tq_85 hG) rfl (VM_X7_needs G hG s1 1 1 μ _ y8) ?_
  by_cases c38 : x7.1 = true
  · rw [if_pos c38] at h
    refine V_ifne_t (tgt := 43) dX7_heaviest_38 (by decide) (b2i_t.mp c38) ?_
    refine V_iconst (v := (-1)) dX7_heaviest_43 rfl ?_
    refine V_istore_n (lv2 := [some (.ref 85), some (.int v1), some (.int v2), some (.int (-1)), none, none, none, none]) dX7_heaviest_44 (by decide) rfl ?_
    refine V_lconst (v := 0) dX7_heaviest_45 rfl ?_
    refine V_lstore (lv2 := [some (.ref 85), some (.int v1), some (.int v2), some (.int (-1)), some (.long 0), none, none, none]) dX7_heaviest_46 (by decide) rfl ?_
    refine V_iconst (v := 0) dX7_heaviest_48 rfl ?_
    refine V_istore (lv2 := [some (.ref 85), some (.int v1), some (.int v2), some (.int (-1)), some (.long 0), none, some (.int 0), none]) dX7_heaviest_49 (by decide) rfl ?_
    exact V_wk [true, true, true, true, true, false, true, false] rfl (T_X7_heaviest_51 G fu hG fu _ _ _ _ _ _ _ h)
  · rw [if_neg c38] at h
    refine V_ifne_f (tgt := 43) dX7_heaviest_38 (by decide) (b2i_f.mp c38) ?_
    refine V_lconst (v := 0) dX7_heaviest_41 rfl ?_
    cases h
    exact V_lret rfl dX7_heaviest_42
def D_X7_heaviest_32 (fu : Nat)  (v1 : Int32) (v2 : Int32) (μ : Mem) : Option (Int64 × Mem) :=
  D_X7_heaviest_33 fu v1 v2 0 μ
set_option maxRecDepth 20000 in
theorem T_X7_heaviest_32 (G : GX) (fu : Nat)  (hG : gt G = tbl) : ∀ (v1 : Int32) (v2 : Int32) (μ : Mem) (r : (Int64 × Mem)) , D_X7_heaviest_32 fu v1 v2 μ = some r → V G mX7_heaviest 32 [some (.ref 85), some (.int v1), some (.int v2), none, none, none, none, none] [.ref 85] μ (.inl (some (.long r.1))) (r.2) := by
  intro v1 v2 μ r h
  unfold D_X7_heaviest_32 at h
  refine V_iconst (v := 0) dX7_heaviest_32 rfl ?_
  exact V_wk [true, true, true, false, false, false, false, false] rfl (T_X7_heaviest_33 G fu hG _ _ _ _ _ h)
def D_X7_heaviest_0 (fu : Nat)  (a1 : Int32) (a2 : Int32) (μ : Mem) : Option (Int64 × Mem) :=
  vl (wI μ 85 0 0) fun m1 =>
  (D_X7_within_0 m1 ((a1 : Int32).toInt64) 0 9).bind fun x3 =>
  if x3 = true then
    (D_X7_within_0 m1 ((a2 : Int32).toInt64) 0 1).bind fun x5 =>
    if x5 = true then
      D_X7_heaviest_33 fu a1 a2 1 m1
    else
      D_X7_heaviest_32 fu a1 a2 m1
  else
    D_X7_heaviest_32 fu a1 a2 m1
set_option maxRecDepth 20000 in
theorem T_X7_heaviest_0 (G : GX) (fu : Nat)  (hG : gt G = tbl) : ∀ (a1 : Int32) (a2 : Int32) (μ : Mem) (r : (Int64 × Mem)) , D_X7_heaviest_0 fu a1 a2 μ = some r → V G mX7_heaviest 0 [some (.ref 85), some (.int a1), some (.int a2), none, none, none, none, none] [] μ (.inl (some (.long r.1))) (r.2) := by
  intro a1 a2 μ r h
  unfold D_X7_heaviest_0 at h
  refine V_aload_n dX7_heaviest_0 rfl ?_
  refine V_iconst (v := 0) dX7_heaviest_1 rfl ?_
  obtain ⟨m1, e2, h⟩ := vl_o h
  refine V_putI (kf := 0) k_X7 (by decide) lk_RX7_1 rfl rfl (by decide +kernel) dX7_heaviest_2 (tq_85 hG) rfl e2.symm ?_
  refine V_aload_n dX7_heaviest_5 rfl ?_
  refine V_iload_n dX7_heaviest_6 rfl ?_
  refine V_i2l dX7_heaviest_7 ?_
  refine V_lconst (v := 0) dX7_heaviest_8 rfl ?_
  refine V_ldc2 (v := 9) dX7_heaviest_9 lk_RX7_377 ?_
  obtain ⟨x3, y4, h⟩ := bi_o h
  refine V_callS (as := [.long ((a1 : Int32).toInt64), .long 0, .long 9]) (rest := [.ref 85]) dX7_heaviest_12 os_mX7_within rfl lk_RX7_352 (by decide) (by decide) rfl rfl (Nat.le_of_ble_eq_true rfl) (VM_X7_within G m1 hG ((a1 : Int32).toInt64) 0 9 _ y4) ?_
  by_cases c15 : x3 = true
  · rw [if_pos c15] at h
    refine V_ifeq_f (tgt := 32) dX7_heaviest_15 (by decide) (b2i_t.mp c15) ?_
    refine V_iload_n dX7_heaviest_18 rfl ?_
    refine V_i2l dX7_heaviest_19 ?_
    refine V_lconst (v := 0) dX7_heaviest_20 rfl ?_
    refine V_lconst (v := 1) dX7_heaviest_21 rfl ?_
    obtain ⟨x5, y6, h⟩ := bi_o h
    refine V_callS (as := [.long ((a2 : Int32).toInt64), .long 0, .long 1]) (rest := [.ref 85]) dX7_heaviest_22 os_mX7_within rfl lk_RX7_352 (by decide) (by decide) rfl rfl (Nat.le_of_ble_eq_true rfl) (VM_X7_within G m1 hG ((a2 : Int32).toInt64) 0 1 _ y6) ?_
    by_cases c25 : x5 = true
    · rw [if_pos c25] at h
      refine V_ifeq_f (tgt := 32) dX7_heaviest_25 (by decide) (b2i_t.mp c25) ?_
      refine V_iconst (v := 1) dX7_heaviest_28 rfl ?_
      refine V_goto (tgt := 33) dX7_heaviest_29 (by decide) ?_
      exact V_wk [true, true, true, false, false, false, false, false] rfl (T_X7_heaviest_33 G fu hG _ _ _ _ _ h)
    · rw [if_neg c25] at h
      refine V_ifeq_t (tgt := 32) dX7_heaviest_25 (by decide) (b2i_f.mp c25) ?_
      exact V_wk [true, true, true, false, false, false, false, false] rfl (T_X7_heaviest_32 G fu hG _ _ _ _ h)
  · rw [if_neg c15] at h
    refine V_ifeq_t (tgt := 32) dX7_heaviest_15 (by decide) (b2i_f.mp c15) ?_
    exact V_wk [true, true, true, false, false, false, false, false] rfl (T_X7_heaviest_32 G fu hG _ _ _ _ h)
theorem VM_X7_heaviest (G : GX) (fu : Nat)  (hG : gt G = tbl) (a1 : Int32) (a2 : Int32) (μ : Mem) (r : (Int64 × Mem)) (h : D_X7_heaviest_0 fu a1 a2 μ = some r) : VM G mX7_heaviest [.ref 85, .int a1, .int a2] μ (.inl (some (.long r.1))) (r.2) := V_entry ok_mX7_heaviest rfl rfl (Nat.le_of_ble_eq_true rfl) (T_X7_heaviest_0 G fu hG a1 a2 μ r h)
def D_X7_spared_96 (fu : Nat)  (k57 : Int32 → Int64 → Int32 → Int32 → Mem → Option (Int64 × Mem)) (v1 : Int32) (v2 : Int64) (v5 : Int32) (s0 : Int32) (μ : Mem) : Option (Int64 × Mem) :=
  k57 v1 v2 s0 (v5 + 1) μ
set_option maxRecDepth 20000 in
theorem T_X7_spared_96 (G : GX) (fu : Nat)  (hG : gt G = tbl) (k57 : Int32 → Int64 → Int32 → Int32 → Mem → Option (Int64 × Mem)) (hk57 : ∀ (v1 : Int32) (v2 : Int64) (v4 : Int32) (v5 : Int32) (μ : Mem) (r : (Int64 × Mem)), k57 v1 v2 v4 v5 μ = some r → V G mX7_spared 57 [some (.ref 85), some (.int v1), some (.long v2), none, some (.int v4), some (.int v5)] [] μ (.inl (some (.long r.1))) (r.2)) : ∀ (v1 : Int32) (v2 : Int64) (v5 : Int32) (s0 : Int32) (μ : Mem) (r : (Int64 × Mem)) , D_X7_spared_96 fu k57 v1 v2 v5 s0 μ = some r → V G mX7_spared 96 [some (.ref 85), some (.int v1), some (.long v2), none, none, some (.int v5)] [.int s0] μ (.inl (some (.long r.1))) (r.2) := by
  intro v1 v2 v5 s0 μ r h
  unfold D_X7_spared_96 at h
  refine V_istore (lv2 := [some (.ref 85), some (.int v1), some (.long v2), none, some (.int s0), some (.int v5)]) dX7_spared_96 (by decide) rfl ?_
  refine V_iinc (v := v5 + 1) (lv2 := [some (.ref 85), some (.int v1), some (.long v2), none, some (.int s0), some (.int (v5 + 1))]) dX7_spared_98 rfl rfl (by decide) rfl ?_
  refine V_goto (tgt := 57) dX7_spared_101 (by decide) ?_
  exact V_wk [true, true, true, false, true, true] rfl (hk57 _ _ _ _ _ _ h)
def D_X7_spared_94 (fu : Nat)  (k57 : Int32 → Int64 → Int32 → Int32 → Mem → Option (Int64 × Mem)) (v1 : Int32) (v2 : Int64) (v4 : Int32) (v5 : Int32) (μ : Mem) : Option (Int64 × Mem) :=
  D_X7_spared_96 fu k57 v1 v2 v5 v4 μ
set_option maxRecDepth 20000 in
theorem T_X7_spared_94 (G : GX) (fu : Nat)  (hG : gt G = tbl) (k57 : Int32 → Int64 → Int32 → Int32 → Mem → Option (Int64 × Mem)) (hk57 : ∀ (v1 : Int32) (v2 : Int64) (v4 : Int32) (v5 : Int32) (μ : Mem) (r : (Int64 × Mem)), k57 v1 v2 v4 v5 μ = some r → V G mX7_spared 57 [some (.ref 85), some (.int v1), some (.long v2), none, some (.int v4), some (.int v5)] [] μ (.inl (some (.long r.1))) (r.2)) : ∀ (v1 : Int32) (v2 : Int64) (v4 : Int32) (v5 : Int32) (μ : Mem) (r : (Int64 × Mem)) , D_X7_spared_94 fu k57 v1 v2 v4 v5 μ = some r → V G mX7_spared 94 [some (.ref 85), some (.int v1), some (.long v2), none, some (.int v4), some (.int v5)] [] μ (.inl (some (.long r.1))) (r.2) := by
  intro v1 v2 v4 v5 μ r h
  unfold D_X7_spared_94 at h
  refine V_iload dX7_spared_94 rfl ?_
  exact V_wk [true, true, true, false, false, true] rfl (T_X7_spared_96 G fu hG k57 hk57 _ _ _ _ _ _ h)
def D_X7_spared_57 (fu : Nat)  : Nat → Int32 → Int64 → Int32 → Int32 → Mem → Option (Int64 × Mem)
  | 0, _, _, _, _, _ => none
  | n + 1, v1, v2, v4, v5, μ =>
    if (μ.1 85 5) ≤ v5 then
      (D_X7_goesWithout_0 fu v4 μ).bind fun x13 =>
      (D_X7_behind_0 fu v1 x13).bind fun x15 =>
      some (x15.1 - v2, x15.2)
    else
      gu (ib v5 160) <|
      if (μ.1 87 (Int32.toNatClampNeg v5)) = (6 : Int32) then
        (D_X7_tell_0 μ v5 0).bind fun x18 =>
        if x18 = v1 then
          D_X7_spared_96 fu (D_X7_spared_57 fu n) v1 v2 v5 v5 μ
        else
          D_X7_spared_94 fu (D_X7_spared_57 fu n) v1 v2 v4 v5 μ
      else
        D_X7_spared_94 fu (D_X7_spared_57 fu n) v1 v2 v4 v5 μ
set_option maxRecDepth 20000 in
theorem T_X7_spared_57 (G : GX) (fu : Nat)  (hG : gt G = tbl) : ∀ (n : Nat) (v1 : Int32) (v2 : Int64) (v4 : Int32) (v5 : Int32) (μ : Mem) (r : (Int64 × Mem)) , D_X7_spared_57 fu n v1 v2 v4 v5 μ = some r → V G mX7_spared 57 [some (.ref 85), some (.int v1), some (.long v2), none, some (.int v4), some (.int v5)] [] μ (.inl (some (.long r.1))) (r.2) := by
  intro n
  induction n with
  | zero =>
    intro v1 v2 v4 v5 μ r h
    exact nomatch (show (none : Option (Int64 × Mem)) = some r from h)
  | succ n ih =>
    intro v1 v2 v4 v5 μ r h
    rw [D_X7_spared_57] at h
    refine V_iload dX7_spared_57 rfl ?_
    refine V_aload_n dX7_spared_59 rfl ?_
    refine V_getI (kf := 5) k_X7 (by decide) lk_RX7_17 rfl dX7_spared_60 (tq_85 hG) rfl ?_
    by_cases c63 : (μ.1 85 5) ≤ v5
    · rw [if_pos c63] at h
      refine V_icmpge_t (tgt := 104) dX7_spared_63 (by decide) c63 ?_
      refine V_aload_n dX7_spared_104 rfl ?_
      refine V_iload dX7_spared_105 rfl ?_
      obtain ⟨x13, y14, h⟩ := bi_o h
      refine V_callV (as := [.int v4]) (q := 85) (rest := []) dX7_spared_107 ov_mX7_goesWithout lk_RX7_462 (by decide) (by decide) rfl rfl (Nat.le_of_ble_eq_true rfl) (tq_85 hG) rfl (VM_X7_goesWithout G fu hG v4 μ _ y14) ?_
      refine V_aload_n dX7_spared_110 rfl ?_
      refine V_iload_n dX7_spared_111 rfl ?_
      obtain ⟨x15, y16, h⟩ := bi_o h
      refine V_callV (as := [.int v1]) (q := 85) (rest := []) dX7_spared_112 ov_mX7_behind lk_RX7_456 (by decide) (by decide) rfl rfl (Nat.le_of_ble_eq_true rfl) (tq_85 hG) rfl (VM_X7_behind G fu hG v1 x13 _ y16) ?_
      refine V_lload_n dX7_spared_115 rfl ?_
      refine V_lsub dX7_spared_116 ?_
      cases h
      exact V_lret rfl dX7_spared_117
    · rw [if_neg c63] at h
      refine V_icmpge_f (tgt := 104) dX7_spared_63 (by decide) c63 ?_
      refine V_aload_n dX7_spared_66 rfl ?_
      refine V_getR (kf := 2) k_X7 (by decide) lk_RX7_14 rfl dX7_spared_67 (tq_85 hG) rfl ?_
      refine V_iload dX7_spared_70 rfl ?_
      obtain ⟨g17, h⟩ := gu_o h
      refine V_iaload dX7_spared_72 (tq_87 hG) (ib_in g17) ?_
      refine V_bipush (v := 6) dX7_spared_73 rfl ?_
      by_cases c75 : (μ.1 87 (Int32.toNatClampNeg v5)) = (6 : Int32)
      · rw [if_pos c75] at h
        refine V_icmpne_f (tgt := 94) dX7_spared_75 (by decide) c75 ?_
        refine V_aload_n dX7_spared_78 rfl ?_
        refine V_iload dX7_spared_79 rfl ?_
        refine V_iconst (v := 0) dX7_spared_81 rfl ?_
        obtain ⟨x18, y19, h⟩ := bi_o h
        refine V_callV (as := [.int v5, .int 0]) (q := 85) (rest := []) dX7_spared_82 ov_mX7_tell lk_RX7_289 (by decide) (by decide) rfl rfl (Nat.le_of_ble_eq_true rfl) (tq_85 hG) rfl (VM_X7_tell G μ hG v5 0 _ y19) ?_
        refine V_iload_n dX7_spared_85 rfl ?_
        by_cases c86 : x18 = v1
        · rw [if_pos c86] at h
          refine V_icmpne_f (tgt := 94) dX7_spared_86 (by decide) c86 ?_
          refine V_iload dX7_spared_89 rfl ?_
          refine V_goto (tgt := 96) dX7_spared_91 (by decide) ?_
          exact V_wk [true, true, true, false, false, true] rfl (T_X7_spared_96 G fu hG (D_X7_spared_57 fu n) ih _ _ _ _ _ _ h)
        · rw [if_neg c86] at h
          refine V_icmpne_t (tgt := 94) dX7_spared_86 (by decide) c86 ?_
          exact V_wk [true, true, true, false, true, true] rfl (T_X7_spared_94 G fu hG (D_X7_spared_57 fu n) ih _ _ _ _ _ _ h)
      · rw [if_neg c75] at h
        refine V_icmpne_t (tgt := 94) dX7_spared_75 (by decide) c75 ?_
        exact V_wk [true, true, true, false, true, true] rfl (T_X7_spared_94 G fu hG (D_X7_spared_57 fu n) ih _ _ _ _ _ _ h)
def D_X7_spared_0 (fu : Nat)  (a1 : Int32) (μ : Mem) : Option (Int64 × Mem) :=
  vl (wI μ 85 0 0) fun m1 =>
  (D_X7_within_0 m1 ((a1 : Int32).toInt64) 1 9).bind fun x3 =>
  (D_X7_needs_0 (b2i x3) 1 1 m1).bind fun x5 =>
  if x5.1 = true then
    gu (ib a1 10) <|
    if (x5.2.1 111 (Int32.toNatClampNeg a1)) = (1 : Int32) then
      (D_X7_bearsAll_0 fu x5.2 a1).bind fun x8 =>
      gu (ib a1 10) <|
      vl (x8 + ((x5.2.1 112 (Int32.toNatClampNeg a1) : Int32).toInt64) : Int64) fun x11 =>
      D_X7_spared_57 fu fu a1 x11 (-1) 0 x5.2
    else
      some (0, x5.2)
  else
    some (0, x5.2)
set_option maxRecDepth 20000 in
theorem T_X7_spared_0 (G : GX) (fu : Nat)  (hG : gt G = tbl) : ∀ (a1 : Int32) (μ : Mem) (r : (Int64 × Mem)) , D_X7_spared_0 fu a1 μ = some r → V G mX7_spared 0 [some (.ref 85), some (.int a1), none, none, none, none] [] μ (.inl (some (.long r.1))) (r.2) := by
  intro a1 μ r h
  unfold D_X7_spared_0 at h
  refine V_aload_n dX7_spared_0 rfl ?_
  refine V_iconst (v := 0) dX7_spared_1 rfl ?_
  obtain ⟨m1, e2, h⟩ := vl_o h
  refine V_putI (kf := 0) k_X7 (by decide) lk_RX7_1 rfl rfl (by decide +kernel) dX7_spared_2 (tq_85 hG) rfl e2.symm ?_
  refine V_aload_n dX7_spared_5 rfl ?_
  refine V_iload_n dX7_spared_6 rfl ?_
  refine V_i2l dX7_spared_7 ?_
  refine V_lconst (v := 1) dX7_spared_8 rfl ?_
  refine V_ldc2 (v := 9) dX7_spared_9 lk_RX7_377 ?_
  obtain ⟨x3, y4, h⟩ := bi_o h
  refine V_callS (as := [.long ((a1 : Int32).toInt64), .long 1, .long 9]) (rest := [.ref 85]) dX7_spared_12 os_mX7_within rfl lk_RX7_352 (by decide) (by decide) rfl rfl (Nat.le_of_ble_eq_true rfl) (VM_X7_within G m1 hG ((a1 : Int32).toInt64) 1 9 _ y4) ?_
  refine V_iconst (v := 1) dX7_spared_15 rfl ?_
  refine V_iconst (v := 1) dX7_spared_16 rfl ?_
  obtain ⟨x5, y6, h⟩ := bi_o h
  refine V_callV (as := [.int (b2i x3), .int 1, .int 1]) (q := 85) (rest := []) dX7_spared_17 ov_mX7_needs lk_RX7_346 (by decide) (by decide) rfl rfl (Nat.le_of_ble_eq_true rfl) (tq_85 hG) rfl (VM_X7_needs G hG (b2i x3) 1 1 m1 _ y6) ?_
  by_cases c20 : x5.1 = true
  · rw [if_pos c20] at h
    refine V_ifne_t (tgt := 25) dX7_spared_20 (by decide) (b2i_t.mp c20) ?_
    refine V_aload_n dX7_spared_25 rfl ?_
    refine V_getR (kf := 27) k_X7 (by decide) lk_RX7_94 rfl dX7_spared_26 (tq_85 hG) rfl ?_
    refine V_iload_n dX7_spared_29 rfl ?_
    obtain ⟨g7, h⟩ := gu_o h
    refine V_iaload dX7_spared_30 (tq_111 hG) (ib_in g7) ?_
    refine V_iconst (v := 1) dX7_spared_31 rfl ?_
    by_cases c32 : (x5.2.1 111 (Int32.toNatClampNeg a1)) = (1 : Int32)
    · rw [if_pos c32] at h
      refine V_icmpeq_t (tgt := 37) dX7_spared_32 (by decide) c32 ?_
      refine V_aload_n dX7_spared_37 rfl ?_
      refine V_iload_n dX7_spared_38 rfl ?_
      obtain ⟨x8, y9, h⟩ := bi_o h
      refine V_callV (as := [.int a1]) (q := 85) (rest := []) dX7_spared_39 ov_mX7_bearsAll lk_RX7_437 (by decide) (by decide) rfl rfl (Nat.le_of_ble_eq_true rfl) (tq_85 hG) rfl (VM_X7_bearsAll G fu x5.2 hG a1 _ y9) ?_
      refine V_aload_n dX7_spared_42 rfl ?_
      refine V_getR (kf := 28) k_X7 (by decide) lk_RX7_97 rfl dX7_spared_43 (tq_85 hG) rfl ?_
      refine V_iload_n dX7_spared_46 rfl ?_
      obtain ⟨g10, h⟩ := gu_o h
      refine V_iaload dX7_spared_47 (tq_112 hG) (ib_in g10) ?_
      refine V_i2l dX7_spared_48 ?_
      refine V_ladd dX7_spared_49 ?_
      obtain ⟨x11, e12, h⟩ := vl_o h
      refine V_topl e12 ?_
      refine V_lstore_n (lv2 := [some (.ref 85), some (.int a1), some (.long x11), none, none, none]) dX7_spared_50 (by decide) rfl ?_
      refine V_iconst (v := (-1)) dX7_spared_51 rfl ?_
      refine V_istore (lv2 := [some (.ref 85), some (.int a1), some (.long x11), none, some (.int (-1)), none]) dX7_spared_52 (by decide) rfl ?_
      refine V_iconst (v := 0) dX7_spared_54 rfl ?_
      refine V_istore (lv2 := [some (.ref 85), some (.int a1), some (.long x11), none, some (.int (-1)), some (.int 0)]) dX7_spared_55 (by decide) rfl ?_
      exact V_wk [true, true, true, false, true, true] rfl (T_X7_spared_57 G fu hG fu _ _ _ _ _ _ h)
    · rw [if_neg c32] at h
      refine V_icmpeq_f (tgt := 37) dX7_spared_32 (by decide) c32 ?_
      refine V_lconst (v := 0) dX7_spared_35 rfl ?_
      cases h
      exact V_lret rfl dX7_spared_36
  · rw [if_neg c20] at h
    refine V_ifne_f (tgt := 25) dX7_spared_20 (by decide) (b2i_f.mp c20) ?_
    refine V_lconst (v := 0) dX7_spared_23 rfl ?_
    cases h
    exact V_lret rfl dX7_spared_24
theorem VM_X7_spared (G : GX) (fu : Nat)  (hG : gt G = tbl) (a1 : Int32) (μ : Mem) (r : (Int64 × Mem)) (h : D_X7_spared_0 fu a1 μ = some r) : VM G mX7_spared [.ref 85, .int a1] μ (.inl (some (.long r.1))) (r.2) := V_entry ok_mX7_spared rfl rfl (Nat.le_of_ble_eq_true rfl) (T_X7_spared_0 G fu hG a1 μ r h)
def D_X7_cover_141 (fu : Nat)  (k59 : Int32 → Int32 → Int32 → Int64 → Int32 → Mem → Option (Int32 × Mem)) (v1 : Int32) (v2 : Int32) (v3 : Int32) (v4 : Int64) (v6 : Int32) (μ : Mem) : Option (Int32 × Mem) :=
  k59 v1 v2 v3 v4 (v6 + 1) μ
set_option maxRecDepth 20000 in
theorem T_X7_cover_141 (G : GX) (fu : Nat)  (hG : gt G = tbl) (k59 : Int32 → Int32 → Int32 → Int64 → Int32 → Mem → Option (Int32 × Mem)) (hk59 : ∀ (v1 : Int32) (v2 : Int32) (v3 : Int32) (v4 : Int64) (v6 : Int32) (μ : Mem) (r : (Int32 × Mem)), k59 v1 v2 v3 v4 v6 μ = some r → V G mX7_cover 59 [some (.ref 85), some (.int v1), some (.int v2), some (.int v3), some (.long v4), none, some (.int v6), none, none, none, none] [] μ (.inl (some (.int r.1))) (r.2)) : ∀ (v1 : Int32) (v2 : Int32) (v3 : Int32) (v4 : Int64) (v6 : Int32) (μ : Mem) (r : (Int32 × Mem)) , D_X7_cover_141 fu k59 v1 v2 v3 v4 v6 μ = some r → V G mX7_cover 141 [some (.ref 85), some (.int v1), some (.int v2), some (.int v3), some (.long v4), none, some (.int v6), none, none, none, none] [] μ (.inl (some (.int r.1))) (r.2) := by
  intro v1 v2 v3 v4 v6 μ r h
  unfold D_X7_cover_141 at h
  refine V_iinc (v := v6 + 1) (lv2 := [some (.ref 85), some (.int v1), some (.int v2), some (.int v3), some (.long v4), none, some (.int (v6 + 1)), none, none, none, none]) dX7_cover_141 rfl rfl (by decide) rfl ?_
  refine V_goto (tgt := 59) dX7_cover_144 (by decide) ?_
  exact V_wk [true, true, true, true, true, false, true, false, false, false, false] rfl (hk59 _ _ _ _ _ _ _ h)
def D_X7_cover_138 (fu : Nat)  (k59 : Int32 → Int32 → Int32 → Int64 → Int32 → Mem → Option (Int32 × Mem)) (v1 : Int32) (v2 : Int32) (v3 : Int32) (v6 : Int32) (s0 : Int64) (s1 : Int64) (μ : Mem) : Option (Int32 × Mem) :=
  D_X7_cover_141 fu k59 v1 v2 v3 (s0 + s1) v6 μ
set_option maxRecDepth 20000 in
theorem T_X7_cover_138 (G : GX) (fu : Nat)  (hG : gt G = tbl) (k59 : Int32 → Int32 → Int32 → Int64 → Int32 → Mem → Option (Int32 × Mem)) (hk59 : ∀ (v1 : Int32) (v2 : Int32) (v3 : Int32) (v4 : Int64) (v6 : Int32) (μ : Mem) (r : (Int32 × Mem)), k59 v1 v2 v3 v4 v6 μ = some r → V G mX7_cover 59 [some (.ref 85), some (.int v1), some (.int v2), some (.int v3), some (.long v4), none, some (.int v6), none, none, none, none] [] μ (.inl (some (.int r.1))) (r.2)) : ∀ (v1 : Int32) (v2 : Int32) (v3 : Int32) (v6 : Int32) (s0 : Int64) (s1 : Int64) (μ : Mem) (r : (Int32 × Mem)) , D_X7_cover_138 fu k59 v1 v2 v3 v6 s0 s1 μ = some r → V G mX7_cover 138 [some (.ref 85), some (.int v1), some (.int v2), some (.int v3), none, none, some (.int v6), none, none, none, none] [.long s1, .long s0] μ (.inl (some (.int r.1))) (r.2) := by
  intro v1 v2 v3 v6 s0 s1 μ r h
  unfold D_X7_cover_138 at h
  refine V_ladd dX7_cover_138 ?_
  refine V_lstore (lv2 := [some (.ref 85), some (.int v1), some (.int v2), some (.int v3), some (.long (s0 + s1)), none, some (.int v6), none, none, none, none]) dX7_cover_139 (by decide) rfl ?_
  exact V_wk [true, true, true, true, true, false, true, false, false, false, false] rfl (T_X7_cover_141 G fu hG k59 hk59 _ _ _ _ _ _ _ h)
def D_X7_cover_103 (fu : Nat)  (k59 : Int32 → Int32 → Int32 → Int64 → Int32 → Mem → Option (Int32 × Mem)) (v1 : Int32) (v2 : Int32) (v3 : Int32) (v4 : Int64) (v6 : Int32) (s0 : Int64) (μ : Mem) : Option (Int32 × Mem) :=
  (D_X7_top_0 μ v6).bind fun x14 =>
  (D_X7_least_0 μ ((x14 : Int32).toInt64) ((v3 : Int32).toInt64)).bind fun x16 =>
  if x16 ≤ s0 then
    D_X7_cover_138 fu k59 v1 v2 v3 v6 v4 0 μ
  else
    D_X7_cover_138 fu k59 v1 v2 v3 v6 v4 (x16 - s0) μ
set_option maxRecDepth 20000 in
theorem T_X7_cover_103 (G : GX) (fu : Nat)  (hG : gt G = tbl) (k59 : Int32 → Int32 → Int32 → Int64 → Int32 → Mem → Option (Int32 × Mem)) (hk59 : ∀ (v1 : Int32) (v2 : Int32) (v3 : Int32) (v4 : Int64) (v6 : Int32) (μ : Mem) (r : (Int32 × Mem)), k59 v1 v2 v3 v4 v6 μ = some r → V G mX7_cover 59 [some (.ref 85), some (.int v1), some (.int v2), some (.int v3), some (.long v4), none, some (.int v6), none, none, none, none] [] μ (.inl (some (.int r.1))) (r.2)) : ∀ (v1 : Int32) (v2 : Int32) (v3 : Int32) (v4 : Int64) (v6 : Int32) (s0 : Int64) (μ : Mem) (r : (Int32 × Mem)) , D_X7_cover_103 fu k59 v1 v2 v3 v4 v6 s0 μ = some r → V G mX7_cover 103 [some (.ref 85), some (.int v1), some (.int v2), some (.int v3), some (.long v4), none, some (.int v6), none, none, none, none] [.long s0] μ (.inl (some (.int r.1))) (r.2) := by
  intro v1 v2 v3 v4 v6 s0 μ r h
  unfold D_X7_cover_103 at h
  refine V_lstore (lv2 := [some (.ref 85), some (.int v1), some (.int v2), some (.int v3), some (.long v4), none, some (.int v6), some (.long s0), none, none, none]) dX7_cover_103 (by decide) rfl ?_
  refine V_aload_n dX7_cover_105 rfl ?_
  refine V_iload dX7_cover_106 rfl ?_
  obtain ⟨x14, y15, h⟩ := bi_o h
  refine V_callV (as := [.int v6]) (q := 85) (rest := []) dX7_cover_108 ov_mX7_top lk_RX7_165 (by decide) (by decide) rfl rfl (Nat.le_of_ble_eq_true rfl) (tq_85 hG) rfl (VM_X7_top G μ hG v6 _ y15) ?_
  refine V_i2l dX7_cover_111 ?_
  refine V_iload_n dX7_cover_112 rfl ?_
  refine V_i2l dX7_cover_113 ?_
  obtain ⟨x16, y17, h⟩ := bi_o h
  refine V_callS (as := [.long ((x14 : Int32).toInt64), .long ((v3 : Int32).toInt64)]) (rest := []) dX7_cover_114 os_mX7_least rfl lk_RX7_179 (by decide) (by decide) rfl rfl (Nat.le_of_ble_eq_true rfl) (VM_X7_least G μ hG ((x14 : Int32).toInt64) ((v3 : Int32).toInt64) _ y17) ?_
  refine V_lstore (lv2 := [some (.ref 85), some (.int v1), some (.int v2), some (.int v3), some (.long v4), none, some (.int v6), some (.long s0), none, some (.long x16), none]) dX7_cover_117 (by decide) rfl ?_
  refine V_lload dX7_cover_119 rfl ?_
  refine V_lload dX7_cover_121 rfl ?_
  refine V_lload dX7_cover_123 rfl ?_
  refine V_lcmp dX7_cover_125 ?_
  by_cases c126 : x16 ≤ s0
  · rw [if_pos c126] at h
    refine V_ifle_t (tgt := 137) dX7_cover_126 (by decide) ((lc_le x16 s0).mpr c126) ?_
    refine V_lconst (v := 0) dX7_cover_137 rfl ?_
    exact V_wk [true, true, true, true, false, false, true, false, false, false, false] rfl (T_X7_cover_138 G fu hG k59 hk59 _ _ _ _ _ _ _ _ h)
  · rw [if_neg c126] at h
    refine V_ifle_f (tgt := 137) dX7_cover_126 (by decide) (fun z => c126 ((lc_le x16 s0).mp z)) ?_
    refine V_lload dX7_cover_129 rfl ?_
    refine V_lload dX7_cover_131 rfl ?_
    refine V_lsub dX7_cover_133 ?_
    refine V_goto (tgt := 138) dX7_cover_134 (by decide) ?_
    exact V_wk [true, true, true, true, false, false, true, false, false, false, false] rfl (T_X7_cover_138 G fu hG k59 hk59 _ _ _ _ _ _ _ _ h)
def D_X7_cover_59 (fu : Nat)  : Nat → Int32 → Int32 → Int32 → Int64 → Int32 → Mem → Option (Int32 × Mem)
  | 0, _, _, _, _, _, _ => none
  | n + 1, v1, v2, v3, v4, v6, μ =>
    if (40 : Int32) ≤ v6 then
      some ((v4 : Int64).toInt32, μ)
    else
      (D_X7_isIn_0 μ v6 v1).bind fun x11 =>
      if x11 = true then
        gu (ib v6 40) <|
        if (μ.1 93 (Int32.toNatClampNeg v6)) ≤ v2 then
          D_X7_cover_103 fu (D_X7_cover_59 fu n) v1 v2 v3 v4 v6 ((v2 : Int32).toInt64) μ
        else
          gu (ib v6 40) <|
          D_X7_cover_103 fu (D_X7_cover_59 fu n) v1 v2 v3 v4 v6 ((μ.1 93 (Int32.toNatClampNeg v6) : Int32).toInt64) μ
      else
        D_X7_cover_141 fu (D_X7_cover_59 fu n) v1 v2 v3 v4 v6 μ
set_option maxRecDepth 20000 in
theorem T_X7_cover_59 (G : GX) (fu : Nat)  (hG : gt G = tbl) : ∀ (n : Nat) (v1 : Int32) (v2 : Int32) (v3 : Int32) (v4 : Int64) (v6 : Int32) (μ : Mem) (r : (Int32 × Mem)) , D_X7_cover_59 fu n v1 v2 v3 v4 v6 μ = some r → V G mX7_cover 59 [some (.ref 85), some (.int v1), some (.int v2), some (.int v3), some (.long v4), none, some (.int v6), none, none, none, none] [] μ (.inl (some (.int r.1))) (r.2) := by
  intro n
  induction n with
  | zero =>
    intro v1 v2 v3 v4 v6 μ r h
    exact nomatch (show (none : Option (Int32 × Mem)) = some r from h)
  | succ n ih =>
    intro v1 v2 v3 v4 v6 μ r h
    rw [D_X7_cover_59] at h
    refine V_iload dX7_cover_59 rfl ?_
    refine V_bipush (v := 40) dX7_cover_61 rfl ?_
    by_cases c63 : (40 : Int32) ≤ v6
    · rw [if_pos c63] at h
      refine V_icmpge_t (tgt := 147) dX7_cover_63 (by decide) c63 ?_
      refine V_lload dX7_cover_147 rfl ?_
      refine V_l2i dX7_cover_149 ?_
      cases h
      exact V_iret rfl dX7_cover_150
    · rw [if_neg c63] at h
      refine V_icmpge_f (tgt := 147) dX7_cover_63 (by decide) c63 ?_
      refine V_aload_n dX7_cover_66 rfl ?_
      refine V_iload dX7_cover_67 rfl ?_
      refine V_iload_n dX7_cover_69 rfl ?_
      obtain ⟨x11, y12, h⟩ := bi_o h
      refine V_callV (as := [.int v6, .int v1]) (q := 85) (rest := []) dX7_cover_70 ov_mX7_isIn lk_RX7_283 (by decide) (by decide) rfl rfl (Nat.le_of_ble_eq_true rfl) (tq_85 hG) rfl (VM_X7_isIn G μ hG v6 v1 _ y12) ?_
      by_cases c73 : x11 = true
      · rw [if_pos c73] at h
        refine V_ifne_t (tgt := 79) dX7_cover_73 (by decide) (b2i_t.mp c73) ?_
        refine V_aload_n dX7_cover_79 rfl ?_
        refine V_getR (kf := 9) k_X7 (by decide) lk_RX7_39 rfl dX7_cover_80 (tq_85 hG) rfl ?_
        refine V_iload dX7_cover_83 rfl ?_
        obtain ⟨g13, h⟩ := gu_o h
        refine V_iaload dX7_cover_85 (tq_93 hG) (ib_in g13) ?_
        refine V_iload_n dX7_cover_86 rfl ?_
        by_cases c87 : (μ.1 93 (Int32.toNatClampNeg v6)) ≤ v2
        · rw [if_pos c87] at h
          refine V_icmple_t (tgt := 101) dX7_cover_87 (by decide) c87 ?_
          refine V_iload_n dX7_cover_101 rfl ?_
          refine V_i2l dX7_cover_102 ?_
          exact V_wk [true, true, true, true, true, false, true, false, false, false, false] rfl (T_X7_cover_103 G fu hG (D_X7_cover_59 fu n) ih _ _ _ _ _ _ _ _ h)
        · rw [if_neg c87] at h
          refine V_icmple_f (tgt := 101) dX7_cover_87 (by decide) c87 ?_
          refine V_aload_n dX7_cover_90 rfl ?_
          refine V_getR (kf := 9) k_X7 (by decide) lk_RX7_39 rfl dX7_cover_91 (tq_85 hG) rfl ?_
          refine V_iload dX7_cover_94 rfl ?_
          obtain ⟨g18, h⟩ := gu_o h
          refine V_iaload dX7_cover_96 (tq_93 hG) (ib_in g18) ?_
          refine V_i2l dX7_cover_97 ?_
          refine V_goto (tgt := 103) dX7_cover_98 (by decide) ?_
          exact V_wk [true, true, true, true, true, false, true, false, false, false, false] rfl (T_X7_cover_103 G fu hG (D_X7_cover_59 fu n) ih _ _ _ _ _ _ _ _ h)
      · rw [if_neg c73] at h
        refine V_ifne_f (tgt := 79) dX7_cover_73 (by decide) (b2i_f.mp c73) ?_
        refine V_goto (tgt := 141) dX7_cover_76 (by decide) ?_
        exact V_wk [true, true, true, true, true, false, true, false, false, false, false] rfl (T_X7_cover_141 G fu hG (D_X7_cover_59 fu n) ih _ _ _ _ _ _ _ h)
def D_X7_cover_43 (fu : Nat)  (v1 : Int32) (v2 : Int32) (v3 : Int32) (s1 : Int32) (μ : Mem) : Option (Int32 × Mem) :=
  (D_X7_needs_0 s1 1 1 μ).bind fun x9 =>
  if x9.1 = true then
    D_X7_cover_59 fu fu v1 v2 v3 0 0 x9.2
  else
    some (0, x9.2)
set_option maxRecDepth 20000 in
theorem T_X7_cover_43 (G : GX) (fu : Nat)  (hG : gt G = tbl) : ∀ (v1 : Int32) (v2 : Int32) (v3 : Int32) (s1 : Int32) (μ : Mem) (r : (Int32 × Mem)) , D_X7_cover_43 fu v1 v2 v3 s1 μ = some r → V G mX7_cover 43 [some (.ref 85), some (.int v1), some (.int v2), some (.int v3), none, none, none, none, none, none, none] [.int s1, .ref 85] μ (.inl (some (.int r.1))) (r.2) := by
  intro v1 v2 v3 s1 μ r h
  unfold D_X7_cover_43 at h
  refine V_iconst (v := 1) dX7_cover_43 rfl ?_
  refine V_iconst (v := 1) dX7_cover_44 rfl ?_
  obtain ⟨x9, y10, h⟩ := bi_o h
  refine V_callV (as := [.int s1, .int 1, .int 1]) (q := 85) (rest := []) dX7_cover_45 ov_mX7_needs lk_RX7_346 (by decide) (by decide) rfl rfl (Nat.le_of_ble_eq_true rfl) (tq_85 hG) rfl (VM_X7_needs G hG s1 1 1 μ _ y10) ?_
  by_cases c48 : x9.1 = true
  · rw [if_pos c48] at h
    refine V_ifne_t (tgt := 53) dX7_cover_48 (by decide) (b2i_t.mp c48) ?_
    refine V_lconst (v := 0) dX7_cover_53 rfl ?_
    refine V_lstore (lv2 := [some (.ref 85), some (.int v1), some (.int v2), some (.int v3), some (.long 0), none, none, none, none, none, none]) dX7_cover_54 (by decide) rfl ?_
    refine V_iconst (v := 0) dX7_cover_56 rfl ?_
    refine V_istore (lv2 := [some (.ref 85), some (.int v1), some (.int v2), some (.int v3), some (.long 0), none, some (.int 0), none, none, none, none]) dX7_cover_57 (by decide) rfl ?_
    exact V_wk [true, true, true, true, true, false, true, false, false, false, false] rfl (T_X7_cover_59 G fu hG fu _ _ _ _ _ _ _ h)
  · rw [if_neg c48] at h
    refine V_ifne_f (tgt := 53) dX7_cover_48 (by decide) (b2i_f.mp c48) ?_
    refine V_iconst (v := 0) dX7_cover_51 rfl ?_
    cases h
    exact V_iret rfl dX7_cover_52
def D_X7_cover_42 (fu : Nat)  (v1 : Int32) (v2 : Int32) (v3 : Int32) (μ : Mem) : Option (Int32 × Mem) :=
  D_X7_cover_43 fu v1 v2 v3 0 μ
set_option maxRecDepth 20000 in
theorem T_X7_cover_42 (G : GX) (fu : Nat)  (hG : gt G = tbl) : ∀ (v1 : Int32) (v2 : Int32) (v3 : Int32) (μ : Mem) (r : (Int32 × Mem)) , D_X7_cover_42 fu v1 v2 v3 μ = some r → V G mX7_cover 42 [some (.ref 85), some (.int v1), some (.int v2), some (.int v3), none, none, none, none, none, none, none] [.ref 85] μ (.inl (some (.int r.1))) (r.2) := by
  intro v1 v2 v3 μ r h
  unfold D_X7_cover_42 at h
  refine V_iconst (v := 0) dX7_cover_42 rfl ?_
  exact V_wk [true, true, true, true, false, false, false, false, false, false, false] rfl (T_X7_cover_43 G fu hG _ _ _ _ _ _ h)
def D_X7_cover_0 (fu : Nat)  (a1 : Int32) (a2 : Int32) (a3 : Int32) (μ : Mem) : Option (Int32 × Mem) :=
  vl (wI μ 85 0 0) fun m1 =>
  (D_X7_within_0 m1 ((a1 : Int32).toInt64) 0 11).bind fun x3 =>
  if x3 = true then
    (D_X7_isHeight_0 m1 a2).bind fun x5 =>
    if x5 = true then
      (D_X7_within_0 m1 ((a3 : Int32).toInt64) ((a2 : Int32).toInt64) 1000000000).bind fun x7 =>
      if x7 = true then
        D_X7_cover_43 fu a1 a2 a3 1 m1
      else
        D_X7_cover_42 fu a1 a2 a3 m1
    else
      D_X7_cover_42 fu a1 a2 a3 m1
  else
    D_X7_cover_42 fu a1 a2 a3 m1
set_option maxRecDepth 20000 in
theorem T_X7_cover_0 (G : GX) (fu : Nat)  (hG : gt G = tbl) : ∀ (a1 : Int32) (a2 : Int32) (a3 : Int32) (μ : Mem) (r : (Int32 × Mem)) , D_X7_cover_0 fu a1 a2 a3 μ = some r → V G mX7_cover 0 [some (.ref 85), some (.int a1), some (.int a2), some (.int a3), none, none, none, none, none, none, none] [] μ (.inl (some (.int r.1))) (r.2) := by
  intro a1 a2 a3 μ r h
  unfold D_X7_cover_0 at h
  refine V_aload_n dX7_cover_0 rfl ?_
  refine V_iconst (v := 0) dX7_cover_1 rfl ?_
  obtain ⟨m1, e2, h⟩ := vl_o h
  refine V_putI (kf := 0) k_X7 (by decide) lk_RX7_1 rfl rfl (by decide +kernel) dX7_cover_2 (tq_85 hG) rfl e2.symm ?_
  refine V_aload_n dX7_cover_5 rfl ?_
  refine V_iload_n dX7_cover_6 rfl ?_
  refine V_i2l dX7_cover_7 ?_
  refine V_lconst (v := 0) dX7_cover_8 rfl ?_
  refine V_ldc2 (v := 11) dX7_cover_9 lk_RX7_350 ?_
  obtain ⟨x3, y4, h⟩ := bi_o h
  refine V_callS (as := [.long ((a1 : Int32).toInt64), .long 0, .long 11]) (rest := [.ref 85]) dX7_cover_12 os_mX7_within rfl lk_RX7_352 (by decide) (by decide) rfl rfl (Nat.le_of_ble_eq_true rfl) (VM_X7_within G m1 hG ((a1 : Int32).toInt64) 0 11 _ y4) ?_
  by_cases c15 : x3 = true
  · rw [if_pos c15] at h
    refine V_ifeq_f (tgt := 42) dX7_cover_15 (by decide) (b2i_t.mp c15) ?_
    refine V_iload_n dX7_cover_18 rfl ?_
    obtain ⟨x5, y6, h⟩ := bi_o h
    refine V_callS (as := [.int a2]) (rest := [.ref 85]) dX7_cover_19 os_mX7_isHeight rfl lk_RX7_426 (by decide) (by decide) rfl rfl (Nat.le_of_ble_eq_true rfl) (VM_X7_isHeight G m1 hG a2 _ y6) ?_
    by_cases c22 : x5 = true
    · rw [if_pos c22] at h
      refine V_ifeq_f (tgt := 42) dX7_cover_22 (by decide) (b2i_t.mp c22) ?_
      refine V_iload_n dX7_cover_25 rfl ?_
      refine V_i2l dX7_cover_26 ?_
      refine V_iload_n dX7_cover_27 rfl ?_
      refine V_i2l dX7_cover_28 ?_
      refine V_ldc2 (v := 1000000000) dX7_cover_29 lk_RX7_387 ?_
      obtain ⟨x7, y8, h⟩ := bi_o h
      refine V_callS (as := [.long ((a3 : Int32).toInt64), .long ((a2 : Int32).toInt64), .long 1000000000]) (rest := [.ref 85]) dX7_cover_32 os_mX7_within rfl lk_RX7_352 (by decide) (by decide) rfl rfl (Nat.le_of_ble_eq_true rfl) (VM_X7_within G m1 hG ((a3 : Int32).toInt64) ((a2 : Int32).toInt64) 1000000000 _ y8) ?_
      by_cases c35 : x7 = true
      · rw [if_pos c35] at h
        refine V_ifeq_f (tgt := 42) dX7_cover_35 (by decide) (b2i_t.mp c35) ?_
        refine V_iconst (v := 1) dX7_cover_38 rfl ?_
        refine V_goto (tgt := 43) dX7_cover_39 (by decide) ?_
        exact V_wk [true, true, true, true, false, false, false, false, false, false, false] rfl (T_X7_cover_43 G fu hG _ _ _ _ _ _ h)
      · rw [if_neg c35] at h
        refine V_ifeq_t (tgt := 42) dX7_cover_35 (by decide) (b2i_f.mp c35) ?_
        exact V_wk [true, true, true, true, false, false, false, false, false, false, false] rfl (T_X7_cover_42 G fu hG _ _ _ _ _ h)
    · rw [if_neg c22] at h
      refine V_ifeq_t (tgt := 42) dX7_cover_22 (by decide) (b2i_f.mp c22) ?_
      exact V_wk [true, true, true, true, false, false, false, false, false, false, false] rfl (T_X7_cover_42 G fu hG _ _ _ _ _ h)
  · rw [if_neg c15] at h
    refine V_ifeq_t (tgt := 42) dX7_cover_15 (by decide) (b2i_f.mp c15) ?_
    exact V_wk [true, true, true, true, false, false, false, false, false, false, false] rfl (T_X7_cover_42 G fu hG _ _ _ _ _ h)
theorem VM_X7_cover (G : GX) (fu : Nat)  (hG : gt G = tbl) (a1 : Int32) (a2 : Int32) (a3 : Int32) (μ : Mem) (r : (Int32 × Mem)) (h : D_X7_cover_0 fu a1 a2 a3 μ = some r) : VM G mX7_cover [.ref 85, .int a1, .int a2, .int a3] μ (.inl (some (.int r.1))) (r.2) := V_entry ok_mX7_cover rfl rfl (Nat.le_of_ble_eq_true rfl) (T_X7_cover_0 G fu hG a1 a2 a3 μ r h)
def D_X7_reach_107 (fu : Nat)  (k48 : Int32 → Int64 → Int32 → Mem → Option (Int64 × Mem)) (v1 : Int32) (v4 : Int32) (s0 : Int64) (s1 : Int64) (μ : Mem) : Option (Int64 × Mem) :=
  k48 v1 (s0 + s1) (v4 + 1) μ
set_option maxRecDepth 20000 in
theorem T_X7_reach_107 (G : GX) (fu : Nat)  (hG : gt G = tbl) (k48 : Int32 → Int64 → Int32 → Mem → Option (Int64 × Mem)) (hk48 : ∀ (v1 : Int32) (v2 : Int64) (v4 : Int32) (μ : Mem) (r : (Int64 × Mem)), k48 v1 v2 v4 μ = some r → V G mX7_reach 48 [some (.ref 85), some (.int v1), some (.long v2), none, some (.int v4)] [] μ (.inl (some (.long r.1))) (r.2)) : ∀ (v1 : Int32) (v4 : Int32) (s0 : Int64) (s1 : Int64) (μ : Mem) (r : (Int64 × Mem)) , D_X7_reach_107 fu k48 v1 v4 s0 s1 μ = some r → V G mX7_reach 107 [some (.ref 85), some (.int v1), none, none, some (.int v4)] [.long s1, .long s0] μ (.inl (some (.long r.1))) (r.2) := by
  intro v1 v4 s0 s1 μ r h
  unfold D_X7_reach_107 at h
  refine V_ladd dX7_reach_107 ?_
  refine V_lstore_n (lv2 := [some (.ref 85), some (.int v1), some (.long (s0 + s1)), none, some (.int v4)]) dX7_reach_108 (by decide) rfl ?_
  refine V_iinc (v := v4 + 1) (lv2 := [some (.ref 85), some (.int v1), some (.long (s0 + s1)), none, some (.int (v4 + 1))]) dX7_reach_109 rfl rfl (by decide) rfl ?_
  refine V_goto (tgt := 48) dX7_reach_112 (by decide) ?_
  exact V_wk [true, true, true, false, true] rfl (hk48 _ _ _ _ _ h)
def D_X7_reach_106 (fu : Nat)  (k48 : Int32 → Int64 → Int32 → Mem → Option (Int64 × Mem)) (v1 : Int32) (v4 : Int32) (s0 : Int64) (μ : Mem) : Option (Int64 × Mem) :=
  D_X7_reach_107 fu k48 v1 v4 s0 0 μ
set_option maxRecDepth 20000 in
theorem T_X7_reach_106 (G : GX) (fu : Nat)  (hG : gt G = tbl) (k48 : Int32 → Int64 → Int32 → Mem → Option (Int64 × Mem)) (hk48 : ∀ (v1 : Int32) (v2 : Int64) (v4 : Int32) (μ : Mem) (r : (Int64 × Mem)), k48 v1 v2 v4 μ = some r → V G mX7_reach 48 [some (.ref 85), some (.int v1), some (.long v2), none, some (.int v4)] [] μ (.inl (some (.long r.1))) (r.2)) : ∀ (v1 : Int32) (v4 : Int32) (s0 : Int64) (μ : Mem) (r : (Int64 × Mem)) , D_X7_reach_106 fu k48 v1 v4 s0 μ = some r → V G mX7_reach 106 [some (.ref 85), some (.int v1), none, none, some (.int v4)] [.long s0] μ (.inl (some (.long r.1))) (r.2) := by
  intro v1 v4 s0 μ r h
  unfold D_X7_reach_106 at h
  refine V_lconst (v := 0) dX7_reach_106 rfl ?_
  exact V_wk [true, true, false, false, true] rfl (T_X7_reach_107 G fu hG k48 hk48 _ _ _ _ _ _ h)
def D_X7_reach_48 (fu : Nat)  : Nat → Int32 → Int64 → Int32 → Mem → Option (Int64 × Mem)
  | 0, _, _, _, _ => none
  | n + 1, v1, v2, v4, μ =>
    if (40 : Int32) ≤ v4 then
      some (v2, μ)
    else
      gu (ib v1 40) <|
      (D_X7_isIn_0 μ v4 (μ.1 92 (Int32.toNatClampNeg v1))).bind fun x12 =>
      if x12 = true then
        gu (ib v4 40) <|
        gu (ib v1 40) <|
        if (μ.1 93 (Int32.toNatClampNeg v1)) ≤ (μ.1 93 (Int32.toNatClampNeg v4)) then
          D_X7_reach_106 fu (D_X7_reach_48 fu n) v1 v4 v2 μ
        else
          (D_X7_holeOf_0 μ v4).bind fun x16 =>
          (D_X7_canTake_0 μ 24 v4).bind fun x18 =>
          D_X7_reach_107 fu (D_X7_reach_48 fu n) v1 v4 v2 (((x16 : Int32).toInt64) + x18) μ
      else
        D_X7_reach_106 fu (D_X7_reach_48 fu n) v1 v4 v2 μ
set_option maxRecDepth 20000 in
theorem T_X7_reach_48 (G : GX) (fu : Nat)  (hG : gt G = tbl) : ∀ (n : Nat) (v1 : Int32) (v2 : Int64) (v4 : Int32) (μ : Mem) (r : (Int64 × Mem)) , D_X7_reach_48 fu n v1 v2 v4 μ = some r → V G mX7_reach 48 [some (.ref 85), some (.int v1), some (.long v2), none, some (.int v4)] [] μ (.inl (some (.long r.1))) (r.2) := by
  intro n
  induction n with
  | zero =>
    intro v1 v2 v4 μ r h
    exact nomatch (show (none : Option (Int64 × Mem)) = some r from h)
  | succ n ih =>
    intro v1 v2 v4 μ r h
    rw [D_X7_reach_48] at h
    refine V_iload dX7_reach_48 rfl ?_
    refine V_bipush (v := 40) dX7_reach_50 rfl ?_
    by_cases c52 : (40 : Int32) ≤ v4
    · rw [if_pos c52] at h
      refine V_icmpge_t (tgt := 115) dX7_reach_52 (by decide) c52 ?_
      refine V_lload_n dX7_reach_115 rfl ?_
      cases h
      exact V_lret rfl dX7_reach_116
    · rw [if_neg c52] at h
      refine V_icmpge_f (tgt := 115) dX7_reach_52 (by decide) c52 ?_
      refine V_lload_n dX7_reach_55 rfl ?_
      refine V_aload_n dX7_reach_56 rfl ?_
      refine V_iload dX7_reach_57 rfl ?_
      refine V_aload_n dX7_reach_59 rfl ?_
      refine V_getR (kf := 8) k_X7 (by decide) lk_RX7_36 rfl dX7_reach_60 (tq_85 hG) rfl ?_
      refine V_iload_n dX7_reach_63 rfl ?_
      obtain ⟨g11, h⟩ := gu_o h
      refine V_iaload dX7_reach_64 (tq_92 hG) (ib_in g11) ?_
      obtain ⟨x12, y13, h⟩ := bi_o h
      refine V_callV (as := [.int v4, .int (μ.1 92 (Int32.toNatClampNeg v1))]) (q := 85) (rest := [.long v2]) dX7_reach_65 ov_mX7_isIn lk_RX7_283 (by decide) (by decide) rfl rfl (Nat.le_of_ble_eq_true rfl) (tq_85 hG) rfl (VM_X7_isIn G μ hG v4 (μ.1 92 (Int32.toNatClampNeg v1)) _ y13) ?_
      by_cases c68 : x12 = true
      · rw [if_pos c68] at h
        refine V_ifeq_f (tgt := 106) dX7_reach_68 (by decide) (b2i_t.mp c68) ?_
        refine V_aload_n dX7_reach_71 rfl ?_
        refine V_getR (kf := 9) k_X7 (by decide) lk_RX7_39 rfl dX7_reach_72 (tq_85 hG) rfl ?_
        refine V_iload dX7_reach_75 rfl ?_
        obtain ⟨g14, h⟩ := gu_o h
        refine V_iaload dX7_reach_77 (tq_93 hG) (ib_in g14) ?_
        refine V_aload_n dX7_reach_78 rfl ?_
        refine V_getR (kf := 9) k_X7 (by decide) lk_RX7_39 rfl dX7_reach_79 (tq_85 hG) rfl ?_
        refine V_iload_n dX7_reach_82 rfl ?_
        obtain ⟨g15, h⟩ := gu_o h
        refine V_iaload dX7_reach_83 (tq_93 hG) (ib_in g15) ?_
        by_cases c84 : (μ.1 93 (Int32.toNatClampNeg v1)) ≤ (μ.1 93 (Int32.toNatClampNeg v4))
        · rw [if_pos c84] at h
          refine V_icmpge_t (tgt := 106) dX7_reach_84 (by decide) c84 ?_
          exact V_wk [true, true, false, false, true] rfl (T_X7_reach_106 G fu hG (D_X7_reach_48 fu n) ih _ _ _ _ _ h)
        · rw [if_neg c84] at h
          refine V_icmpge_f (tgt := 106) dX7_reach_84 (by decide) c84 ?_
          refine V_aload_n dX7_reach_87 rfl ?_
          refine V_iload dX7_reach_88 rfl ?_
          obtain ⟨x16, y17, h⟩ := bi_o h
          refine V_callV (as := [.int v4]) (q := 85) (rest := [.long v2]) dX7_reach_90 ov_mX7_holeOf lk_RX7_172 (by decide) (by decide) rfl rfl (Nat.le_of_ble_eq_true rfl) (tq_85 hG) rfl (VM_X7_holeOf G μ hG v4 _ y17) ?_
          refine V_i2l dX7_reach_93 ?_
          refine V_aload_n dX7_reach_94 rfl ?_
          refine V_bipush (v := 24) dX7_reach_95 rfl ?_
          refine V_iload dX7_reach_97 rfl ?_
          obtain ⟨x18, y19, h⟩ := bi_o h
          refine V_callV (as := [.int 24, .int v4]) (q := 85) (rest := [.long ((x16 : Int32).toInt64), .long v2]) dX7_reach_99 ov_mX7_canTake lk_RX7_183 (by decide) (by decide) rfl rfl (Nat.le_of_ble_eq_true rfl) (tq_85 hG) rfl (VM_X7_canTake G μ hG 24 v4 _ y19) ?_
          refine V_ladd dX7_reach_102 ?_
          refine V_goto (tgt := 107) dX7_reach_103 (by decide) ?_
          exact V_wk [true, true, false, false, true] rfl (T_X7_reach_107 G fu hG (D_X7_reach_48 fu n) ih _ _ _ _ _ _ h)
      · rw [if_neg c68] at h
        refine V_ifeq_t (tgt := 106) dX7_reach_68 (by decide) (b2i_f.mp c68) ?_
        exact V_wk [true, true, false, false, true] rfl (T_X7_reach_106 G fu hG (D_X7_reach_48 fu n) ih _ _ _ _ _ h)
def D_X7_reach_0 (fu : Nat)  (a1 : Int32) (μ : Mem) : Option (Int64 × Mem) :=
  vl (wI μ 85 0 0) fun m1 =>
  (D_X7_isOne_0 a1 1 m1).bind fun x3 =>
  if x3.1 = true then
    (D_X7_left_0 x3.2 a1).bind fun x5 =>
    if x5 = (0 : Int64) then
      some ((-1), x3.2)
    else
      (D_X7_clearsHarm_0 fu 24 x3.2).bind fun x7 =>
      (D_X7_holeOf_0 x7 a1).bind fun x9 =>
      D_X7_reach_48 fu fu a1 (((x9 : Int32).toInt64) + 1) 0 x7
  else
    some (0, x3.2)
set_option maxRecDepth 20000 in
theorem T_X7_reach_0 (G : GX) (fu : Nat)  (hG : gt G = tbl) : ∀ (a1 : Int32) (μ : Mem) (r : (Int64 × Mem)) , D_X7_reach_0 fu a1 μ = some r → V G mX7_reach 0 [some (.ref 85), some (.int a1), none, none, none] [] μ (.inl (some (.long r.1))) (r.2) := by
  intro a1 μ r h
  unfold D_X7_reach_0 at h
  refine V_aload_n dX7_reach_0 rfl ?_
  refine V_iconst (v := 0) dX7_reach_1 rfl ?_
  obtain ⟨m1, e2, h⟩ := vl_o h
  refine V_putI (kf := 0) k_X7 (by decide) lk_RX7_1 rfl rfl (by decide +kernel) dX7_reach_2 (tq_85 hG) rfl e2.symm ?_
  refine V_aload_n dX7_reach_5 rfl ?_
  refine V_iload_n dX7_reach_6 rfl ?_
  refine V_iconst (v := 1) dX7_reach_7 rfl ?_
  obtain ⟨x3, y4, h⟩ := bi_o h
  refine V_callV (as := [.int a1, .int 1]) (q := 85) (rest := []) dX7_reach_8 ov_mX7_isOne lk_RX7_374 (by decide) (by decide) rfl rfl (Nat.le_of_ble_eq_true rfl) (tq_85 hG) rfl (VM_X7_isOne G hG a1 1 m1 _ y4) ?_
  by_cases c11 : x3.1 = true
  · rw [if_pos c11] at h
    refine V_ifne_t (tgt := 16) dX7_reach_11 (by decide) (b2i_t.mp c11) ?_
    refine V_aload_n dX7_reach_16 rfl ?_
    refine V_iload_n dX7_reach_17 rfl ?_
    obtain ⟨x5, y6, h⟩ := bi_o h
    refine V_callV (as := [.int a1]) (q := 85) (rest := []) dX7_reach_18 ov_mX7_left lk_RX7_175 (by decide) (by decide) rfl rfl (Nat.le_of_ble_eq_true rfl) (tq_85 hG) rfl (VM_X7_left G x3.2 hG a1 _ y6) ?_
    refine V_lconst (v := 0) dX7_reach_21 rfl ?_
    refine V_lcmp dX7_reach_22 ?_
    by_cases c23 : x5 = (0 : Int64)
    · rw [if_pos c23] at h
      refine V_ifne_f (tgt := 30) dX7_reach_23 (by decide) ((lc_eq x5 0).mpr c23) ?_
      refine V_ldc2 (v := (-1)) dX7_reach_26 lk_RX7_419 ?_
      cases h
      exact V_lret rfl dX7_reach_29
    · rw [if_neg c23] at h
      refine V_ifne_t (tgt := 30) dX7_reach_23 (by decide) (fun z => c23 ((lc_eq x5 0).mp z)) ?_
      refine V_aload_n dX7_reach_30 rfl ?_
      refine V_bipush (v := 24) dX7_reach_31 rfl ?_
      obtain ⟨x7, y8, h⟩ := bi_o h
      refine V_callV (as := [.int 24]) (q := 85) (rest := []) dX7_reach_33 ov_mX7_clearsHarm lk_RX7_145 (by decide) (by decide) rfl rfl (Nat.le_of_ble_eq_true rfl) (tq_85 hG) rfl (VM_X7_clearsHarm G fu hG 24 x3.2 _ y8) ?_
      refine V_aload_n dX7_reach_36 rfl ?_
      refine V_iload_n dX7_reach_37 rfl ?_
      obtain ⟨x9, y10, h⟩ := bi_o h
      refine V_callV (as := [.int a1]) (q := 85) (rest := []) dX7_reach_38 ov_mX7_holeOf lk_RX7_172 (by decide) (by decide) rfl rfl (Nat.le_of_ble_eq_true rfl) (tq_85 hG) rfl (VM_X7_holeOf G x7 hG a1 _ y10) ?_
      refine V_i2l dX7_reach_41 ?_
      refine V_lconst (v := 1) dX7_reach_42 rfl ?_
      refine V_ladd dX7_reach_43 ?_
      refine V_lstore_n (lv2 := [some (.ref 85), some (.int a1), some (.long (((x9 : Int32).toInt64) + 1)), none, none]) dX7_reach_44 (by decide) rfl ?_
      refine V_iconst (v := 0) dX7_reach_45 rfl ?_
      refine V_istore (lv2 := [some (.ref 85), some (.int a1), some (.long (((x9 : Int32).toInt64) + 1)), none, some (.int 0)]) dX7_reach_46 (by decide) rfl ?_
      exact V_wk [true, true, true, false, true] rfl (T_X7_reach_48 G fu hG fu _ _ _ _ _ h)
  · rw [if_neg c11] at h
    refine V_ifne_f (tgt := 16) dX7_reach_11 (by decide) (b2i_f.mp c11) ?_
    refine V_lconst (v := 0) dX7_reach_14 rfl ?_
    cases h
    exact V_lret rfl dX7_reach_15
theorem VM_X7_reach (G : GX) (fu : Nat)  (hG : gt G = tbl) (a1 : Int32) (μ : Mem) (r : (Int64 × Mem)) (h : D_X7_reach_0 fu a1 μ = some r) : VM G mX7_reach [.ref 85, .int a1] μ (.inl (some (.long r.1))) (r.2) := V_entry ok_mX7_reach rfl rfl (Nat.le_of_ble_eq_true rfl) (T_X7_reach_0 G fu hG a1 μ r h)
def D_X7_widest_95 (fu : Nat)  (k51 : Int32 → Int32 → Int32 → Int32 → Int32 → Mem → Option (Int32 × Mem)) (v1 : Int32) (v2 : Int32) (v3 : Int32) (v4 : Int32) (v5 : Int32) (μ : Mem) : Option (Int32 × Mem) :=
  k51 v1 v2 v3 v4 (v5 + 1) μ
set_option maxRecDepth 20000 in
theorem T_X7_widest_95 (G : GX) (fu : Nat)  (hG : gt G = tbl) (k51 : Int32 → Int32 → Int32 → Int32 → Int32 → Mem → Option (Int32 × Mem)) (hk51 : ∀ (v1 : Int32) (v2 : Int32) (v3 : Int32) (v4 : Int32) (v5 : Int32) (μ : Mem) (r : (Int32 × Mem)), k51 v1 v2 v3 v4 v5 μ = some r → V G mX7_widest 51 [some (.ref 85), some (.int v1), some (.int v2), some (.int v3), some (.int v4), some (.int v5), none] [] μ (.inl (some (.int r.1))) (r.2)) : ∀ (v1 : Int32) (v2 : Int32) (v3 : Int32) (v4 : Int32) (v5 : Int32) (μ : Mem) (r : (Int32 × Mem)) , D_X7_widest_95 fu k51 v1 v2 v3 v4 v5 μ = some r → V G mX7_widest 95 [some (.ref 85), some (.int v1), some (.int v2), some (.int v3), some (.int v4), some (.int v5), none] [] μ (.inl (some (.int r.1))) (r.2) := by
  intro v1 v2 v3 v4 v5 μ r h
  unfold D_X7_widest_95 at h
  refine V_iinc (v := v5 + 1) (lv2 := [some (.ref 85), some (.int v1), some (.int v2), some (.int v3), some (.int v4), some (.int (v5 + 1)), none]) dX7_widest_95 rfl rfl (by decide) rfl ?_
  refine V_goto (tgt := 51) dX7_widest_98 (by decide) ?_
  exact V_wk [true, true, true, true, true, true, false] rfl (hk51 _ _ _ _ _ _ _ h)
def D_X7_widest_51 (fu : Nat)  : Nat → Int32 → Int32 → Int32 → Int32 → Int32 → Mem → Option (Int32 × Mem)
  | 0, _, _, _, _, _, _ => none
  | n + 1, v1, v2, v3, v4, v5, μ =>
    (D_X7_layersOf_0 μ v1).bind fun x9 =>
    if x9 ≤ v5 then
      if v2 = 0 then
        some (v3, μ)
      else
        some (v4, μ)
    else
      (D_X7_rungOf_0 μ v1 v5).bind fun x11 =>
      (D_X7_holeOf_0 μ x11).bind fun x13 =>
      if v4 < x13 then
        (D_X7_holeOf_0 μ x11).bind fun x15 =>
        D_X7_widest_95 fu (D_X7_widest_51 fu n) v1 v2 x11 x15 v5 μ
      else
        D_X7_widest_95 fu (D_X7_widest_51 fu n) v1 v2 v3 v4 v5 μ
set_option maxRecDepth 20000 in
theorem T_X7_widest_51 (G : GX) (fu : Nat)  (hG : gt G = tbl) : ∀ (n : Nat) (v1 : Int32) (v2 : Int32) (v3 : Int32) (v4 : Int32) (v5 : Int32) (μ : Mem) (r : (Int32 × Mem)) , D_X7_widest_51 fu n v1 v2 v3 v4 v5 μ = some r → V G mX7_widest 51 [some (.ref 85), some (.int v1), some (.int v2), some (.int v3), some (.int v4), some (.int v5), none] [] μ (.inl (some (.int r.1))) (r.2) := by
  intro n
  induction n with
  | zero =>
    intro v1 v2 v3 v4 v5 μ r h
    exact nomatch (show (none : Option (Int32 × Mem)) = some r from h)
  | succ n ih =>
    intro v1 v2 v3 v4 v5 μ r h
    rw [D_X7_widest_51] at h
    refine V_iload dX7_widest_51 rfl ?_
    refine V_aload_n dX7_widest_53 rfl ?_
    refine V_iload_n dX7_widest_54 rfl ?_
    obtain ⟨x9, y10, h⟩ := bi_o h
    refine V_callV (as := [.int v1]) (q := 85) (rest := [.int v5]) dX7_widest_55 ov_mX7_layersOf lk_RX7_169 (by decide) (by decide) rfl rfl (Nat.le_of_ble_eq_true rfl) (tq_85 hG) rfl (VM_X7_layersOf G μ hG v1 _ y10) ?_
    by_cases c58 : x9 ≤ v5
    · rw [if_pos c58] at h
      refine V_icmpge_t (tgt := 101) dX7_widest_58 (by decide) c58 ?_
      refine V_iload_n dX7_widest_101 rfl ?_
      by_cases c102 : v2 = 0
      · rw [if_pos c102] at h
        refine V_ifne_f (tgt := 109) dX7_widest_102 (by decide) c102 ?_
        refine V_iload_n dX7_widest_105 rfl ?_
        refine V_goto (tgt := 111) dX7_widest_106 (by decide) ?_
        cases h
        exact V_iret rfl dX7_widest_111
      · rw [if_neg c102] at h
        refine V_ifne_t (tgt := 109) dX7_widest_102 (by decide) c102 ?_
        refine V_iload dX7_widest_109 rfl ?_
        cases h
        exact V_iret rfl dX7_widest_111
    · rw [if_neg c58] at h
      refine V_icmpge_f (tgt := 101) dX7_widest_58 (by decide) c58 ?_
      refine V_aload_n dX7_widest_61 rfl ?_
      refine V_iload_n dX7_widest_62 rfl ?_
      refine V_iload dX7_widest_63 rfl ?_
      obtain ⟨x11, y12, h⟩ := bi_o h
      refine V_callV (as := [.int v1, .int v5]) (q := 85) (rest := []) dX7_widest_65 ov_mX7_rungOf lk_RX7_161 (by decide) (by decide) rfl rfl (Nat.le_of_ble_eq_true rfl) (tq_85 hG) rfl (VM_X7_rungOf G μ hG v1 v5 _ y12) ?_
      refine V_istore (lv2 := [some (.ref 85), some (.int v1), some (.int v2), some (.int v3), some (.int v4), some (.int v5), some (.int x11)]) dX7_widest_68 (by decide) rfl ?_
      refine V_aload_n dX7_widest_70 rfl ?_
      refine V_iload dX7_widest_71 rfl ?_
      obtain ⟨x13, y14, h⟩ := bi_o h
      refine V_callV (as := [.int x11]) (q := 85) (rest := []) dX7_widest_73 ov_mX7_holeOf lk_RX7_172 (by decide) (by decide) rfl rfl (Nat.le_of_ble_eq_true rfl) (tq_85 hG) rfl (VM_X7_holeOf G μ hG x11 _ y14) ?_
      refine V_iload dX7_widest_76 rfl ?_
      by_cases c78 : v4 < x13
      · rw [if_pos c78] at h
        refine V_icmpgt_t (tgt := 84) dX7_widest_78 (by decide) c78 ?_
        refine V_iload dX7_widest_84 rfl ?_
        refine V_istore_n (lv2 := [some (.ref 85), some (.int v1), some (.int v2), some (.int x11), some (.int v4), some (.int v5), some (.int x11)]) dX7_widest_86 (by decide) rfl ?_
        refine V_aload_n dX7_widest_87 rfl ?_
        refine V_iload dX7_widest_88 rfl ?_
        obtain ⟨x15, y16, h⟩ := bi_o h
        refine V_callV (as := [.int x11]) (q := 85) (rest := []) dX7_widest_90 ov_mX7_holeOf lk_RX7_172 (by decide) (by decide) rfl rfl (Nat.le_of_ble_eq_true rfl) (tq_85 hG) rfl (VM_X7_holeOf G μ hG x11 _ y16) ?_
        refine V_istore (lv2 := [some (.ref 85), some (.int v1), some (.int v2), some (.int x11), some (.int x15), some (.int v5), some (.int x11)]) dX7_widest_93 (by decide) rfl ?_
        exact V_wk [true, true, true, true, true, true, false] rfl (T_X7_widest_95 G fu hG (D_X7_widest_51 fu n) ih _ _ _ _ _ _ _ h)
      · rw [if_neg c78] at h
        refine V_icmpgt_f (tgt := 84) dX7_widest_78 (by decide) c78 ?_
        refine V_goto (tgt := 95) dX7_widest_81 (by decide) ?_
        exact V_wk [true, true, true, true, true, true, false] rfl (T_X7_widest_95 G fu hG (D_X7_widest_51 fu n) ih _ _ _ _ _ _ _ h)
def D_X7_widest_33 (fu : Nat)  (v1 : Int32) (v2 : Int32) (s1 : Int32) (μ : Mem) : Option (Int32 × Mem) :=
  (D_X7_needs_0 s1 1 1 μ).bind fun x7 =>
  if x7.1 = true then
    D_X7_widest_51 fu fu v1 v2 (-1) 0 0 x7.2
  else
    some (0, x7.2)
set_option maxRecDepth 20000 in
theorem T_X7_widest_33 (G : GX) (fu : Nat)  (hG : gt G = tbl) : ∀ (v1 : Int32) (v2 : Int32) (s1 : Int32) (μ : Mem) (r : (Int32 × Mem)) , D_X7_widest_33 fu v1 v2 s1 μ = some r → V G mX7_widest 33 [some (.ref 85), some (.int v1), some (.int v2), none, none, none, none] [.int s1, .ref 85] μ (.inl (some (.int r.1))) (r.2) := by
  intro v1 v2 s1 μ r h
  unfold D_X7_widest_33 at h
  refine V_iconst (v := 1) dX7_widest_33 rfl ?_
  refine V_iconst (v := 1) dX7_widest_34 rfl ?_
  obtain ⟨x7, y8, h⟩ := bi_o h
  refine V_callV (as := [.int s1, .int 1, .int 1]) (q := 85) (rest := []) dX7_widest_35 ov_mX7_needs lk_RX7_346 (by decide) (by decide) rfl rfl (Nat.le_of_ble_eq_true rfl) (tq_85 hG) rfl (VM_X7_needs G hG s1 1 1 μ _ y8) ?_
  by_cases c38 : x7.1 = true
  · rw [if_pos c38] at h
    refine V_ifne_t (tgt := 43) dX7_widest_38 (by decide) (b2i_t.mp c38) ?_
    refine V_iconst (v := (-1)) dX7_widest_43 rfl ?_
    refine V_istore_n (lv2 := [some (.ref 85), some (.int v1), some (.int v2), some (.int (-1)), none, none, none]) dX7_widest_44 (by decide) rfl ?_
    refine V_iconst (v := 0) dX7_widest_45 rfl ?_
    refine V_istore (lv2 := [some (.ref 85), some (.int v1), some (.int v2), some (.int (-1)), some (.int 0), none, none]) dX7_widest_46 (by decide) rfl ?_
    refine V_iconst (v := 0) dX7_widest_48 rfl ?_
    refine V_istore (lv2 := [some (.ref 85), some (.int v1), some (.int v2), some (.int (-1)), some (.int 0), some (.int 0), none]) dX7_widest_49 (by decide) rfl ?_
    exact V_wk [true, true, true, true, true, true, false] rfl (T_X7_widest_51 G fu hG fu _ _ _ _ _ _ _ h)
  · rw [if_neg c38] at h
    refine V_ifne_f (tgt := 43) dX7_widest_38 (by decide) (b2i_f.mp c38) ?_
    refine V_iconst (v := 0) dX7_widest_41 rfl ?_
    cases h
    exact V_iret rfl dX7_widest_42
def D_X7_widest_32 (fu : Nat)  (v1 : Int32) (v2 : Int32) (μ : Mem) : Option (Int32 × Mem) :=
  D_X7_widest_33 fu v1 v2 0 μ
set_option maxRecDepth 20000 in
theorem T_X7_widest_32 (G : GX) (fu : Nat)  (hG : gt G = tbl) : ∀ (v1 : Int32) (v2 : Int32) (μ : Mem) (r : (Int32 × Mem)) , D_X7_widest_32 fu v1 v2 μ = some r → V G mX7_widest 32 [some (.ref 85), some (.int v1), some (.int v2), none, none, none, none] [.ref 85] μ (.inl (some (.int r.1))) (r.2) := by
  intro v1 v2 μ r h
  unfold D_X7_widest_32 at h
  refine V_iconst (v := 0) dX7_widest_32 rfl ?_
  exact V_wk [true, true, true, false, false, false, false] rfl (T_X7_widest_33 G fu hG _ _ _ _ _ h)
def D_X7_widest_0 (fu : Nat)  (a1 : Int32) (a2 : Int32) (μ : Mem) : Option (Int32 × Mem) :=
  vl (wI μ 85 0 0) fun m1 =>
  (D_X7_within_0 m1 ((a1 : Int32).toInt64) 0 11).bind fun x3 =>
  if x3 = true then
    (D_X7_within_0 m1 ((a2 : Int32).toInt64) 0 1).bind fun x5 =>
    if x5 = true then
      D_X7_widest_33 fu a1 a2 1 m1
    else
      D_X7_widest_32 fu a1 a2 m1
  else
    D_X7_widest_32 fu a1 a2 m1
set_option maxRecDepth 20000 in
theorem T_X7_widest_0 (G : GX) (fu : Nat)  (hG : gt G = tbl) : ∀ (a1 : Int32) (a2 : Int32) (μ : Mem) (r : (Int32 × Mem)) , D_X7_widest_0 fu a1 a2 μ = some r → V G mX7_widest 0 [some (.ref 85), some (.int a1), some (.int a2), none, none, none, none] [] μ (.inl (some (.int r.1))) (r.2) := by
  intro a1 a2 μ r h
  unfold D_X7_widest_0 at h
  refine V_aload_n dX7_widest_0 rfl ?_
  refine V_iconst (v := 0) dX7_widest_1 rfl ?_
  obtain ⟨m1, e2, h⟩ := vl_o h
  refine V_putI (kf := 0) k_X7 (by decide) lk_RX7_1 rfl rfl (by decide +kernel) dX7_widest_2 (tq_85 hG) rfl e2.symm ?_
  refine V_aload_n dX7_widest_5 rfl ?_
  refine V_iload_n dX7_widest_6 rfl ?_
  refine V_i2l dX7_widest_7 ?_
  refine V_lconst (v := 0) dX7_widest_8 rfl ?_
  refine V_ldc2 (v := 11) dX7_widest_9 lk_RX7_350 ?_
  obtain ⟨x3, y4, h⟩ := bi_o h
  refine V_callS (as := [.long ((a1 : Int32).toInt64), .long 0, .long 11]) (rest := [.ref 85]) dX7_widest_12 os_mX7_within rfl lk_RX7_352 (by decide) (by decide) rfl rfl (Nat.le_of_ble_eq_true rfl) (VM_X7_within G m1 hG ((a1 : Int32).toInt64) 0 11 _ y4) ?_
  by_cases c15 : x3 = true
  · rw [if_pos c15] at h
    refine V_ifeq_f (tgt := 32) dX7_widest_15 (by decide) (b2i_t.mp c15) ?_
    refine V_iload_n dX7_widest_18 rfl ?_
    refine V_i2l dX7_widest_19 ?_
    refine V_lconst (v := 0) dX7_widest_20 rfl ?_
    refine V_lconst (v := 1) dX7_widest_21 rfl ?_
    obtain ⟨x5, y6, h⟩ := bi_o h
    refine V_callS (as := [.long ((a2 : Int32).toInt64), .long 0, .long 1]) (rest := [.ref 85]) dX7_widest_22 os_mX7_within rfl lk_RX7_352 (by decide) (by decide) rfl rfl (Nat.le_of_ble_eq_true rfl) (VM_X7_within G m1 hG ((a2 : Int32).toInt64) 0 1 _ y6) ?_
    by_cases c25 : x5 = true
    · rw [if_pos c25] at h
      refine V_ifeq_f (tgt := 32) dX7_widest_25 (by decide) (b2i_t.mp c25) ?_
      refine V_iconst (v := 1) dX7_widest_28 rfl ?_
      refine V_goto (tgt := 33) dX7_widest_29 (by decide) ?_
      exact V_wk [true, true, true, false, false, false, false] rfl (T_X7_widest_33 G fu hG _ _ _ _ _ h)
    · rw [if_neg c25] at h
      refine V_ifeq_t (tgt := 32) dX7_widest_25 (by decide) (b2i_f.mp c25) ?_
      exact V_wk [true, true, true, false, false, false, false] rfl (T_X7_widest_32 G fu hG _ _ _ _ h)
  · rw [if_neg c15] at h
    refine V_ifeq_t (tgt := 32) dX7_widest_15 (by decide) (b2i_f.mp c15) ?_
    exact V_wk [true, true, true, false, false, false, false] rfl (T_X7_widest_32 G fu hG _ _ _ _ h)
theorem VM_X7_widest (G : GX) (fu : Nat)  (hG : gt G = tbl) (a1 : Int32) (a2 : Int32) (μ : Mem) (r : (Int32 × Mem)) (h : D_X7_widest_0 fu a1 a2 μ = some r) : VM G mX7_widest [.ref 85, .int a1, .int a2] μ (.inl (some (.int r.1))) (r.2) := V_entry ok_mX7_widest rfl rfl (Nat.le_of_ble_eq_true rfl) (T_X7_widest_0 G fu hG a1 a2 μ r h)
def D_X7_strongest_65 (fu : Nat)  (k30 : Int32 → Int32 → Int64 → Int32 → Mem → Option (Int64 × Mem)) (v1 : Int32) (v2 : Int32) (v3 : Int64) (v5 : Int32) (μ : Mem) : Option (Int64 × Mem) :=
  k30 v1 v2 v3 (v5 + 1) μ
set_option maxRecDepth 20000 in
theorem T_X7_strongest_65 (G : GX) (fu : Nat)  (hG : gt G = tbl) (k30 : Int32 → Int32 → Int64 → Int32 → Mem → Option (Int64 × Mem)) (hk30 : ∀ (v1 : Int32) (v2 : Int32) (v3 : Int64) (v5 : Int32) (μ : Mem) (r : (Int64 × Mem)), k30 v1 v2 v3 v5 μ = some r → V G mX7_strongest 30 [some (.ref 85), some (.int v1), some (.int v2), some (.long v3), none, some (.int v5)] [] μ (.inl (some (.long r.1))) (r.2)) : ∀ (v1 : Int32) (v2 : Int32) (v3 : Int64) (v5 : Int32) (μ : Mem) (r : (Int64 × Mem)) , D_X7_strongest_65 fu k30 v1 v2 v3 v5 μ = some r → V G mX7_strongest 65 [some (.ref 85), some (.int v1), some (.int v2), some (.long v3), none, some (.int v5)] [] μ (.inl (some (.long r.1))) (r.2) := by
  intro v1 v2 v3 v5 μ r h
  unfold D_X7_strongest_65 at h
  refine V_iinc (v := v5 + 1) (lv2 := [some (.ref 85), some (.int v1), some (.int v2), some (.long v3), none, some (.int (v5 + 1))]) dX7_strongest_65 rfl rfl (by decide) rfl ?_
  refine V_goto (tgt := 30) dX7_strongest_68 (by decide) ?_
  exact V_wk [true, true, true, true, false, true] rfl (hk30 _ _ _ _ _ _ h)
def D_X7_strongest_30 (fu : Nat)  : Nat → Int32 → Int32 → Int64 → Int32 → Mem → Option (Int64 × Mem)
  | 0, _, _, _, _, _ => none
  | n + 1, v1, v2, v3, v5, μ =>
    if (12 : Int32) ≤ v5 then
      if v1 = 0 then
        some ((v2 : Int32).toInt64, μ)
      else
        some (v3, μ)
    else
      (D_X7_ofYear_0 fu μ v5 6).bind fun x7 =>
      if v3 < x7 then
        (D_X7_ofYear_0 fu μ v5 6).bind fun x9 =>
        D_X7_strongest_65 fu (D_X7_strongest_30 fu n) v1 v5 x9 v5 μ
      else
        D_X7_strongest_65 fu (D_X7_strongest_30 fu n) v1 v2 v3 v5 μ
set_option maxRecDepth 20000 in
theorem T_X7_strongest_30 (G : GX) (fu : Nat)  (hG : gt G = tbl) : ∀ (n : Nat) (v1 : Int32) (v2 : Int32) (v3 : Int64) (v5 : Int32) (μ : Mem) (r : (Int64 × Mem)) , D_X7_strongest_30 fu n v1 v2 v3 v5 μ = some r → V G mX7_strongest 30 [some (.ref 85), some (.int v1), some (.int v2), some (.long v3), none, some (.int v5)] [] μ (.inl (some (.long r.1))) (r.2) := by
  intro n
  induction n with
  | zero =>
    intro v1 v2 v3 v5 μ r h
    exact nomatch (show (none : Option (Int64 × Mem)) = some r from h)
  | succ n ih =>
    intro v1 v2 v3 v5 μ r h
    rw [D_X7_strongest_30] at h
    refine V_iload dX7_strongest_30 rfl ?_
    refine V_bipush (v := 12) dX7_strongest_32 rfl ?_
    by_cases c34 : (12 : Int32) ≤ v5
    · rw [if_pos c34] at h
      refine V_icmpge_t (tgt := 71) dX7_strongest_34 (by decide) c34 ?_
      refine V_iload_n dX7_strongest_71 rfl ?_
      by_cases c72 : v1 = 0
      · rw [if_pos c72] at h
        refine V_ifne_f (tgt := 80) dX7_strongest_72 (by decide) c72 ?_
        refine V_iload_n dX7_strongest_75 rfl ?_
        refine V_i2l dX7_strongest_76 ?_
        refine V_goto (tgt := 81) dX7_strongest_77 (by decide) ?_
        cases h
        exact V_lret rfl dX7_strongest_81
      · rw [if_neg c72] at h
        refine V_ifne_t (tgt := 80) dX7_strongest_72 (by decide) c72 ?_
        refine V_lload_n dX7_strongest_80 rfl ?_
        cases h
        exact V_lret rfl dX7_strongest_81
    · rw [if_neg c34] at h
      refine V_icmpge_f (tgt := 71) dX7_strongest_34 (by decide) c34 ?_
      refine V_aload_n dX7_strongest_37 rfl ?_
      refine V_iload dX7_strongest_38 rfl ?_
      refine V_bipush (v := 6) dX7_strongest_40 rfl ?_
      obtain ⟨x7, y8, h⟩ := bi_o h
      refine V_callV (as := [.int v5, .int 6]) (q := 85) (rest := []) dX7_strongest_42 ov_mX7_ofYear lk_RX7_423 (by decide) (by decide) rfl rfl (Nat.le_of_ble_eq_true rfl) (tq_85 hG) rfl (VM_X7_ofYear G fu μ hG v5 6 _ y8) ?_
      refine V_lload_n dX7_strongest_45 rfl ?_
      refine V_lcmp dX7_strongest_46 ?_
      by_cases c47 : v3 < x7
      · rw [if_pos c47] at h
        refine V_ifgt_t (tgt := 53) dX7_strongest_47 (by decide) ((lc_gt x7 v3).mpr c47) ?_
        refine V_iload dX7_strongest_53 rfl ?_
        refine V_istore_n (lv2 := [some (.ref 85), some (.int v1), some (.int v5), some (.long v3), none, some (.int v5)]) dX7_strongest_55 (by decide) rfl ?_
        refine V_aload_n dX7_strongest_56 rfl ?_
        refine V_iload dX7_strongest_57 rfl ?_
        refine V_bipush (v := 6) dX7_strongest_59 rfl ?_
        obtain ⟨x9, y10, h⟩ := bi_o h
        refine V_callV (as := [.int v5, .int 6]) (q := 85) (rest := []) dX7_strongest_61 ov_mX7_ofYear lk_RX7_423 (by decide) (by decide) rfl rfl (Nat.le_of_ble_eq_true rfl) (tq_85 hG) rfl (VM_X7_ofYear G fu μ hG v5 6 _ y10) ?_
        refine V_lstore_n (lv2 := [some (.ref 85), some (.int v1), some (.int v5), some (.long x9), none, some (.int v5)]) dX7_strongest_64 (by decide) rfl ?_
        exact V_wk [true, true, true, true, false, true] rfl (T_X7_strongest_65 G fu hG (D_X7_strongest_30 fu n) ih _ _ _ _ _ _ h)
      · rw [if_neg c47] at h
        refine V_ifgt_f (tgt := 53) dX7_strongest_47 (by decide) (fun z => c47 ((lc_gt x7 v3).mp z)) ?_
        refine V_goto (tgt := 65) dX7_strongest_50 (by decide) ?_
        exact V_wk [true, true, true, true, false, true] rfl (T_X7_strongest_65 G fu hG (D_X7_strongest_30 fu n) ih _ _ _ _ _ _ h)
def D_X7_strongest_0 (fu : Nat)  (a1 : Int32) (μ : Mem) : Option (Int64 × Mem) :=
  vl (wI μ 85 0 0) fun m1 =>
  (D_X7_within_0 m1 ((a1 : Int32).toInt64) 0 1).bind fun x3 =>
  (D_X7_needs_0 (b2i x3) 1 1 m1).bind fun x5 =>
  if x5.1 = true then
    D_X7_strongest_30 fu fu a1 (-1) 0 0 x5.2
  else
    some (0, x5.2)
set_option maxRecDepth 20000 in
theorem T_X7_strongest_0 (G : GX) (fu : Nat)  (hG : gt G = tbl) : ∀ (a1 : Int32) (μ : Mem) (r : (Int64 × Mem)) , D_X7_strongest_0 fu a1 μ = some r → V G mX7_strongest 0 [some (.ref 85), some (.int a1), none, none, none, none] [] μ (.inl (some (.long r.1))) (r.2) := by
  intro a1 μ r h
  unfold D_X7_strongest_0 at h
  refine V_aload_n dX7_strongest_0 rfl ?_
  refine V_iconst (v := 0) dX7_strongest_1 rfl ?_
  obtain ⟨m1, e2, h⟩ := vl_o h
  refine V_putI (kf := 0) k_X7 (by decide) lk_RX7_1 rfl rfl (by decide +kernel) dX7_strongest_2 (tq_85 hG) rfl e2.symm ?_
  refine V_aload_n dX7_strongest_5 rfl ?_
  refine V_iload_n dX7_strongest_6 rfl ?_
  refine V_i2l dX7_strongest_7 ?_
  refine V_lconst (v := 0) dX7_strongest_8 rfl ?_
  refine V_lconst (v := 1) dX7_strongest_9 rfl ?_
  obtain ⟨x3, y4, h⟩ := bi_o h
  refine V_callS (as := [.long ((a1 : Int32).toInt64), .long 0, .long 1]) (rest := [.ref 85]) dX7_strongest_10 os_mX7_within rfl lk_RX7_352 (by decide) (by decide) rfl rfl (Nat.le_of_ble_eq_true rfl) (VM_X7_within G m1 hG ((a1 : Int32).toInt64) 0 1 _ y4) ?_
  refine V_iconst (v := 1) dX7_strongest_13 rfl ?_
  refine V_iconst (v := 1) dX7_strongest_14 rfl ?_
  obtain ⟨x5, y6, h⟩ := bi_o h
  refine V_callV (as := [.int (b2i x3), .int 1, .int 1]) (q := 85) (rest := []) dX7_strongest_15 ov_mX7_needs lk_RX7_346 (by decide) (by decide) rfl rfl (Nat.le_of_ble_eq_true rfl) (tq_85 hG) rfl (VM_X7_needs G hG (b2i x3) 1 1 m1 _ y6) ?_
  by_cases c18 : x5.1 = true
  · rw [if_pos c18] at h
    refine V_ifne_t (tgt := 23) dX7_strongest_18 (by decide) (b2i_t.mp c18) ?_
    refine V_iconst (v := (-1)) dX7_strongest_23 rfl ?_
    refine V_istore_n (lv2 := [some (.ref 85), some (.int a1), some (.int (-1)), none, none, none]) dX7_strongest_24 (by decide) rfl ?_
    refine V_lconst (v := 0) dX7_strongest_25 rfl ?_
    refine V_lstore_n (lv2 := [some (.ref 85), some (.int a1), some (.int (-1)), some (.long 0), none, none]) dX7_strongest_26 (by decide) rfl ?_
    refine V_iconst (v := 0) dX7_strongest_27 rfl ?_
    refine V_istore (lv2 := [some (.ref 85), some (.int a1), some (.int (-1)), some (.long 0), none, some (.int 0)]) dX7_strongest_28 (by decide) rfl ?_
    exact V_wk [true, true, true, true, false, true] rfl (T_X7_strongest_30 G fu hG fu _ _ _ _ _ _ h)
  · rw [if_neg c18] at h
    refine V_ifne_f (tgt := 23) dX7_strongest_18 (by decide) (b2i_f.mp c18) ?_
    refine V_lconst (v := 0) dX7_strongest_21 rfl ?_
    cases h
    exact V_lret rfl dX7_strongest_22
theorem VM_X7_strongest (G : GX) (fu : Nat)  (hG : gt G = tbl) (a1 : Int32) (μ : Mem) (r : (Int64 × Mem)) (h : D_X7_strongest_0 fu a1 μ = some r) : VM G mX7_strongest [.ref 85, .int a1] μ (.inl (some (.long r.1))) (r.2) := V_entry ok_mX7_strongest rfl rfl (Nat.le_of_ble_eq_true rfl) (T_X7_strongest_0 G fu hG a1 μ r h)
def D_X7_holds_63 (fu : Nat)  : Nat → Int32 → Int32 → Int32 → Mem → Option (Int32 × Mem)
  | 0, _, _, _, _ => none
  | n + 1, v1, v4, v5, μ =>
    if v4 = (-1 : Int32) then
      some (0, μ)
    else
      gu (ib v4 40) <|
      if (μ.1 96 (Int32.toNatClampNeg v4)) ≤ v5 then
        some (0, μ)
      else
        gu (ib ((4 * v4) + v5) 160) <|
        if (μ.1 97 (Int32.toNatClampNeg ((4 * v4) + v5))) = v1 then
          gu (ib ((4 * v4) + v5) 160) <|
          some (μ.1 98 (Int32.toNatClampNeg ((4 * v4) + v5)), μ)
        else
          (D_X7_holds_63 fu n) v1 v4 (v5 + 1) μ
set_option maxRecDepth 20000 in
theorem T_X7_holds_63 (G : GX) (fu : Nat)  (hG : gt G = tbl) : ∀ (n : Nat) (v1 : Int32) (v4 : Int32) (v5 : Int32) (μ : Mem) (r : (Int32 × Mem)) , D_X7_holds_63 fu n v1 v4 v5 μ = some r → V G mX7_holds 63 [some (.ref 85), some (.int v1), none, none, some (.int v4), some (.int v5)] [] μ (.inl (some (.int r.1))) (r.2) := by
  intro n
  induction n with
  | zero =>
    intro v1 v4 v5 μ r h
    exact nomatch (show (none : Option (Int32 × Mem)) = some r from h)
  | succ n ih =>
    intro v1 v4 v5 μ r h
    rw [D_X7_holds_63] at h
    refine V_iload dX7_holds_63 rfl ?_
    refine V_iconst (v := (-1)) dX7_holds_65 rfl ?_
    by_cases c66 : v4 = (-1 : Int32)
    · rw [if_pos c66] at h
      refine V_icmpeq_t (tgt := 116) dX7_holds_66 (by decide) c66 ?_
      refine V_iconst (v := 0) dX7_holds_116 rfl ?_
      cases h
      exact V_iret rfl dX7_holds_117
    · rw [if_neg c66] at h
      refine V_icmpeq_f (tgt := 116) dX7_holds_66 (by decide) c66 ?_
      refine V_iload dX7_holds_69 rfl ?_
      refine V_aload_n dX7_holds_71 rfl ?_
      refine V_getR (kf := 12) k_X7 (by decide) lk_RX7_48 rfl dX7_holds_72 (tq_85 hG) rfl ?_
      refine V_iload dX7_holds_75 rfl ?_
      obtain ⟨g13, h⟩ := gu_o h
      refine V_iaload dX7_holds_77 (tq_96 hG) (ib_in g13) ?_
      by_cases c78 : (μ.1 96 (Int32.toNatClampNeg v4)) ≤ v5
      · rw [if_pos c78] at h
        refine V_icmpge_t (tgt := 116) dX7_holds_78 (by decide) c78 ?_
        refine V_iconst (v := 0) dX7_holds_116 rfl ?_
        cases h
        exact V_iret rfl dX7_holds_117
      · rw [if_neg c78] at h
        refine V_icmpge_f (tgt := 116) dX7_holds_78 (by decide) c78 ?_
        refine V_aload_n dX7_holds_81 rfl ?_
        refine V_getR (kf := 13) k_X7 (by decide) lk_RX7_51 rfl dX7_holds_82 (tq_85 hG) rfl ?_
        refine V_iconst (v := 4) dX7_holds_85 rfl ?_
        refine V_iload dX7_holds_86 rfl ?_
        refine V_imul dX7_holds_88 ?_
        refine V_iload dX7_holds_89 rfl ?_
        refine V_iadd dX7_holds_91 ?_
        obtain ⟨g14, h⟩ := gu_o h
        refine V_iaload dX7_holds_92 (tq_97 hG) (ib_in g14) ?_
        refine V_iload_n dX7_holds_93 rfl ?_
        by_cases c94 : (μ.1 97 (Int32.toNatClampNeg ((4 * v4) + v5))) = v1
        · rw [if_pos c94] at h
          refine V_icmpne_f (tgt := 110) dX7_holds_94 (by decide) c94 ?_
          refine V_aload_n dX7_holds_97 rfl ?_
          refine V_getR (kf := 14) k_X7 (by decide) lk_RX7_54 rfl dX7_holds_98 (tq_85 hG) rfl ?_
          refine V_iconst (v := 4) dX7_holds_101 rfl ?_
          refine V_iload dX7_holds_102 rfl ?_
          refine V_imul dX7_holds_104 ?_
          refine V_iload dX7_holds_105 rfl ?_
          refine V_iadd dX7_holds_107 ?_
          obtain ⟨g15, h⟩ := gu_o h
          refine V_iaload dX7_holds_108 (tq_98 hG) (ib_in g15) ?_
          cases h
          exact V_iret rfl dX7_holds_109
        · rw [if_neg c94] at h
          refine V_icmpne_t (tgt := 110) dX7_holds_94 (by decide) c94 ?_
          refine V_iinc (v := v5 + 1) (lv2 := [some (.ref 85), some (.int v1), none, none, some (.int v4), some (.int (v5 + 1))]) dX7_holds_110 rfl rfl (by decide) rfl ?_
          refine V_goto (tgt := 63) dX7_holds_113 (by decide) ?_
          exact V_wk [true, true, false, false, true, true] rfl (ih _ _ _ _ _ h)
def D_X7_holds_42 (fu : Nat)  (v1 : Int32) (v2 : Int32) (v3 : Int32) (s1 : Int32) (μ : Mem) : Option (Int32 × Mem) :=
  (D_X7_needs_0 s1 1 1 μ).bind fun x9 =>
  if x9.1 = true then
    (D_X7_layerAt_0 fu x9.2 v2 v3).bind fun x11 =>
    D_X7_holds_63 fu fu v1 x11 0 x9.2
  else
    some (0, x9.2)
set_option maxRecDepth 20000 in
theorem T_X7_holds_42 (G : GX) (fu : Nat)  (hG : gt G = tbl) : ∀ (v1 : Int32) (v2 : Int32) (v3 : Int32) (s1 : Int32) (μ : Mem) (r : (Int32 × Mem)) , D_X7_holds_42 fu v1 v2 v3 s1 μ = some r → V G mX7_holds 42 [some (.ref 85), some (.int v1), some (.int v2), some (.int v3), none, none] [.int s1, .ref 85] μ (.inl (some (.int r.1))) (r.2) := by
  intro v1 v2 v3 s1 μ r h
  unfold D_X7_holds_42 at h
  refine V_iconst (v := 1) dX7_holds_42 rfl ?_
  refine V_iconst (v := 1) dX7_holds_43 rfl ?_
  obtain ⟨x9, y10, h⟩ := bi_o h
  refine V_callV (as := [.int s1, .int 1, .int 1]) (q := 85) (rest := []) dX7_holds_44 ov_mX7_needs lk_RX7_346 (by decide) (by decide) rfl rfl (Nat.le_of_ble_eq_true rfl) (tq_85 hG) rfl (VM_X7_needs G hG s1 1 1 μ _ y10) ?_
  by_cases c47 : x9.1 = true
  · rw [if_pos c47] at h
    refine V_ifne_t (tgt := 52) dX7_holds_47 (by decide) (b2i_t.mp c47) ?_
    refine V_aload_n dX7_holds_52 rfl ?_
    refine V_iload_n dX7_holds_53 rfl ?_
    refine V_iload_n dX7_holds_54 rfl ?_
    obtain ⟨x11, y12, h⟩ := bi_o h
    refine V_callV (as := [.int v2, .int v3]) (q := 85) (rest := []) dX7_holds_55 ov_mX7_layerAt lk_RX7_429 (by decide) (by decide) rfl rfl (Nat.le_of_ble_eq_true rfl) (tq_85 hG) rfl (VM_X7_layerAt G fu x9.2 hG v2 v3 _ y12) ?_
    refine V_istore (lv2 := [some (.ref 85), some (.int v1), some (.int v2), some (.int v3), some (.int x11), none]) dX7_holds_58 (by decide) rfl ?_
    refine V_iconst (v := 0) dX7_holds_60 rfl ?_
    refine V_istore (lv2 := [some (.ref 85), some (.int v1), some (.int v2), some (.int v3), some (.int x11), some (.int 0)]) dX7_holds_61 (by decide) rfl ?_
    exact V_wk [true, true, false, false, true, true] rfl (T_X7_holds_63 G fu hG fu _ _ _ _ _ h)
  · rw [if_neg c47] at h
    refine V_ifne_f (tgt := 52) dX7_holds_47 (by decide) (b2i_f.mp c47) ?_
    refine V_iconst (v := 0) dX7_holds_50 rfl ?_
    cases h
    exact V_iret rfl dX7_holds_51
def D_X7_holds_41 (fu : Nat)  (v1 : Int32) (v2 : Int32) (v3 : Int32) (μ : Mem) : Option (Int32 × Mem) :=
  D_X7_holds_42 fu v1 v2 v3 0 μ
set_option maxRecDepth 20000 in
theorem T_X7_holds_41 (G : GX) (fu : Nat)  (hG : gt G = tbl) : ∀ (v1 : Int32) (v2 : Int32) (v3 : Int32) (μ : Mem) (r : (Int32 × Mem)) , D_X7_holds_41 fu v1 v2 v3 μ = some r → V G mX7_holds 41 [some (.ref 85), some (.int v1), some (.int v2), some (.int v3), none, none] [.ref 85] μ (.inl (some (.int r.1))) (r.2) := by
  intro v1 v2 v3 μ r h
  unfold D_X7_holds_41 at h
  refine V_iconst (v := 0) dX7_holds_41 rfl ?_
  exact V_wk [true, true, true, true, false, false] rfl (T_X7_holds_42 G fu hG _ _ _ _ _ _ h)
def D_X7_holds_0 (fu : Nat)  (a1 : Int32) (a2 : Int32) (a3 : Int32) (μ : Mem) : Option (Int32 × Mem) :=
  vl (wI μ 85 0 0) fun m1 =>
  (D_X7_within_0 m1 ((a1 : Int32).toInt64) 0 9).bind fun x3 =>
  if x3 = true then
    (D_X7_within_0 m1 ((a2 : Int32).toInt64) 0 11).bind fun x5 =>
    if x5 = true then
      (D_X7_isHeight_0 m1 a3).bind fun x7 =>
      if x7 = true then
        D_X7_holds_42 fu a1 a2 a3 1 m1
      else
        D_X7_holds_41 fu a1 a2 a3 m1
    else
      D_X7_holds_41 fu a1 a2 a3 m1
  else
    D_X7_holds_41 fu a1 a2 a3 m1
set_option maxRecDepth 20000 in
theorem T_X7_holds_0 (G : GX) (fu : Nat)  (hG : gt G = tbl) : ∀ (a1 : Int32) (a2 : Int32) (a3 : Int32) (μ : Mem) (r : (Int32 × Mem)) , D_X7_holds_0 fu a1 a2 a3 μ = some r → V G mX7_holds 0 [some (.ref 85), some (.int a1), some (.int a2), some (.int a3), none, none] [] μ (.inl (some (.int r.1))) (r.2) := by
  intro a1 a2 a3 μ r h
  unfold D_X7_holds_0 at h
  refine V_aload_n dX7_holds_0 rfl ?_
  refine V_iconst (v := 0) dX7_holds_1 rfl ?_
  obtain ⟨m1, e2, h⟩ := vl_o h
  refine V_putI (kf := 0) k_X7 (by decide) lk_RX7_1 rfl rfl (by decide +kernel) dX7_holds_2 (tq_85 hG) rfl e2.symm ?_
  refine V_aload_n dX7_holds_5 rfl ?_
  refine V_iload_n dX7_holds_6 rfl ?_
  refine V_i2l dX7_holds_7 ?_
  refine V_lconst (v := 0) dX7_holds_8 rfl ?_
  refine V_ldc2 (v := 9) dX7_holds_9 lk_RX7_377 ?_
  obtain ⟨x3, y4, h⟩ := bi_o h
  refine V_callS (as := [.long ((a1 : Int32).toInt64), .long 0, .long 9]) (rest := [.ref 85]) dX7_holds_12 os_mX7_within rfl lk_RX7_352 (by decide) (by decide) rfl rfl (Nat.le_of_ble_eq_true rfl) (VM_X7_within G m1 hG ((a1 : Int32).toInt64) 0 9 _ y4) ?_
  by_cases c15 : x3 = true
  · rw [if_pos c15] at h
    refine V_ifeq_f (tgt := 41) dX7_holds_15 (by decide) (b2i_t.mp c15) ?_
    refine V_iload_n dX7_holds_18 rfl ?_
    refine V_i2l dX7_holds_19 ?_
    refine V_lconst (v := 0) dX7_holds_20 rfl ?_
    refine V_ldc2 (v := 11) dX7_holds_21 lk_RX7_350 ?_
    obtain ⟨x5, y6, h⟩ := bi_o h
    refine V_callS (as := [.long ((a2 : Int32).toInt64), .long 0, .long 11]) (rest := [.ref 85]) dX7_holds_24 os_mX7_within rfl lk_RX7_352 (by decide) (by decide) rfl rfl (Nat.le_of_ble_eq_true rfl) (VM_X7_within G m1 hG ((a2 : Int32).toInt64) 0 11 _ y6) ?_
    by_cases c27 : x5 = true
    · rw [if_pos c27] at h
      refine V_ifeq_f (tgt := 41) dX7_holds_27 (by decide) (b2i_t.mp c27) ?_
      refine V_iload_n dX7_holds_30 rfl ?_
      obtain ⟨x7, y8, h⟩ := bi_o h
      refine V_callS (as := [.int a3]) (rest := [.ref 85]) dX7_holds_31 os_mX7_isHeight rfl lk_RX7_426 (by decide) (by decide) rfl rfl (Nat.le_of_ble_eq_true rfl) (VM_X7_isHeight G m1 hG a3 _ y8) ?_
      by_cases c34 : x7 = true
      · rw [if_pos c34] at h
        refine V_ifeq_f (tgt := 41) dX7_holds_34 (by decide) (b2i_t.mp c34) ?_
        refine V_iconst (v := 1) dX7_holds_37 rfl ?_
        refine V_goto (tgt := 42) dX7_holds_38 (by decide) ?_
        exact V_wk [true, true, true, true, false, false] rfl (T_X7_holds_42 G fu hG _ _ _ _ _ _ h)
      · rw [if_neg c34] at h
        refine V_ifeq_t (tgt := 41) dX7_holds_34 (by decide) (b2i_f.mp c34) ?_
        exact V_wk [true, true, true, true, false, false] rfl (T_X7_holds_41 G fu hG _ _ _ _ _ h)
    · rw [if_neg c27] at h
      refine V_ifeq_t (tgt := 41) dX7_holds_27 (by decide) (b2i_f.mp c27) ?_
      exact V_wk [true, true, true, true, false, false] rfl (T_X7_holds_41 G fu hG _ _ _ _ _ h)
  · rw [if_neg c15] at h
    refine V_ifeq_t (tgt := 41) dX7_holds_15 (by decide) (b2i_f.mp c15) ?_
    exact V_wk [true, true, true, true, false, false] rfl (T_X7_holds_41 G fu hG _ _ _ _ _ h)
theorem VM_X7_holds (G : GX) (fu : Nat)  (hG : gt G = tbl) (a1 : Int32) (a2 : Int32) (a3 : Int32) (μ : Mem) (r : (Int32 × Mem)) (h : D_X7_holds_0 fu a1 a2 a3 μ = some r) : VM G mX7_holds [.ref 85, .int a1, .int a2, .int a3] μ (.inl (some (.int r.1))) (r.2) := V_entry ok_mX7_holds rfl rfl (Nat.le_of_ble_eq_true rfl) (T_X7_holds_0 G fu hG a1 a2 a3 μ r h)
def D_X7_spent_42 (fu : Nat)  (k9 : Int64 → Int32 → Mem → Option (Int64 × Mem)) (v3 : Int32) (s0 : Int64) (s1 : Int64) (μ : Mem) : Option (Int64 × Mem) :=
  k9 (s0 ||| s1) (v3 + 1) μ
set_option maxRecDepth 20000 in
theorem T_X7_spent_42 (G : GX) (fu : Nat)  (hG : gt G = tbl) (k9 : Int64 → Int32 → Mem → Option (Int64 × Mem)) (hk9 : ∀ (v1 : Int64) (v3 : Int32) (μ : Mem) (r : (Int64 × Mem)), k9 v1 v3 μ = some r → V G mX7_spent 9 [some (.ref 85), some (.long v1), none, some (.int v3)] [] μ (.inl (some (.long r.1))) (r.2)) : ∀ (v3 : Int32) (s0 : Int64) (s1 : Int64) (μ : Mem) (r : (Int64 × Mem)) , D_X7_spent_42 fu k9 v3 s0 s1 μ = some r → V G mX7_spent 42 [some (.ref 85), none, none, some (.int v3)] [.long s1, .long s0] μ (.inl (some (.long r.1))) (r.2) := by
  intro v3 s0 s1 μ r h
  unfold D_X7_spent_42 at h
  refine V_lor dX7_spent_42 ?_
  refine V_lstore_n (lv2 := [some (.ref 85), some (.long (s0 ||| s1)), none, some (.int v3)]) dX7_spent_43 (by decide) rfl ?_
  refine V_iinc (v := v3 + 1) (lv2 := [some (.ref 85), some (.long (s0 ||| s1)), none, some (.int (v3 + 1))]) dX7_spent_44 rfl rfl (by decide) rfl ?_
  refine V_goto (tgt := 9) dX7_spent_47 (by decide) ?_
  exact V_wk [true, true, false, true] rfl (hk9 _ _ _ _ h)
def D_X7_spent_41 (fu : Nat)  (k9 : Int64 → Int32 → Mem → Option (Int64 × Mem)) (v3 : Int32) (s0 : Int64) (μ : Mem) : Option (Int64 × Mem) :=
  D_X7_spent_42 fu k9 v3 s0 0 μ
set_option maxRecDepth 20000 in
theorem T_X7_spent_41 (G : GX) (fu : Nat)  (hG : gt G = tbl) (k9 : Int64 → Int32 → Mem → Option (Int64 × Mem)) (hk9 : ∀ (v1 : Int64) (v3 : Int32) (μ : Mem) (r : (Int64 × Mem)), k9 v1 v3 μ = some r → V G mX7_spent 9 [some (.ref 85), some (.long v1), none, some (.int v3)] [] μ (.inl (some (.long r.1))) (r.2)) : ∀ (v3 : Int32) (s0 : Int64) (μ : Mem) (r : (Int64 × Mem)) , D_X7_spent_41 fu k9 v3 s0 μ = some r → V G mX7_spent 41 [some (.ref 85), none, none, some (.int v3)] [.long s0] μ (.inl (some (.long r.1))) (r.2) := by
  intro v3 s0 μ r h
  unfold D_X7_spent_41 at h
  refine V_lconst (v := 0) dX7_spent_41 rfl ?_
  exact V_wk [true, false, false, true] rfl (T_X7_spent_42 G fu hG k9 hk9 _ _ _ _ _ h)
def D_X7_spent_9 (fu : Nat)  : Nat → Int64 → Int32 → Mem → Option (Int64 × Mem)
  | 0, _, _, _ => none
  | n + 1, v1, v3, μ =>
    if (40 : Int32) ≤ v3 then
      some (v1, μ)
    else
      gu (ib v3 40) <|
      if (μ.1 90 (Int32.toNatClampNeg v3)) = 0 then
        D_X7_spent_41 fu (D_X7_spent_9 fu n) v3 v1 μ
      else
        (D_X7_left_0 μ v3).bind fun x4 =>
        if x4 = (0 : Int64) then
          D_X7_spent_42 fu (D_X7_spent_9 fu n) v3 v1 ((1 : Int64) <<< ((v3 : Int32).toInt64 &&& 63)) μ
        else
          D_X7_spent_41 fu (D_X7_spent_9 fu n) v3 v1 μ
set_option maxRecDepth 20000 in
theorem T_X7_spent_9 (G : GX) (fu : Nat)  (hG : gt G = tbl) : ∀ (n : Nat) (v1 : Int64) (v3 : Int32) (μ : Mem) (r : (Int64 × Mem)) , D_X7_spent_9 fu n v1 v3 μ = some r → V G mX7_spent 9 [some (.ref 85), some (.long v1), none, some (.int v3)] [] μ (.inl (some (.long r.1))) (r.2) := by
  intro n
  induction n with
  | zero =>
    intro v1 v3 μ r h
    exact nomatch (show (none : Option (Int64 × Mem)) = some r from h)
  | succ n ih =>
    intro v1 v3 μ r h
    rw [D_X7_spent_9] at h
    refine V_iload_n dX7_spent_9 rfl ?_
    refine V_bipush (v := 40) dX7_spent_10 rfl ?_
    by_cases c12 : (40 : Int32) ≤ v3
    · rw [if_pos c12] at h
      refine V_icmpge_t (tgt := 50) dX7_spent_12 (by decide) c12 ?_
      refine V_lload_n dX7_spent_50 rfl ?_
      cases h
      exact V_lret rfl dX7_spent_51
    · rw [if_neg c12] at h
      refine V_icmpge_f (tgt := 50) dX7_spent_12 (by decide) c12 ?_
      refine V_lload_n dX7_spent_15 rfl ?_
      refine V_aload_n dX7_spent_16 rfl ?_
      refine V_getR (kf := 6) k_X7 (by decide) lk_RX7_29 rfl dX7_spent_17 (tq_85 hG) rfl ?_
      refine V_iload_n dX7_spent_20 rfl ?_
      obtain ⟨g3, h⟩ := gu_o h
      refine V_baload dX7_spent_21 (tq_90 hG) (ib_in g3) ?_
      by_cases c22 : (μ.1 90 (Int32.toNatClampNeg v3)) = 0
      · rw [if_pos c22] at h
        refine V_ifeq_t (tgt := 41) dX7_spent_22 (by decide) c22 ?_
        exact V_wk [true, false, false, true] rfl (T_X7_spent_41 G fu hG (D_X7_spent_9 fu n) ih _ _ _ _ h)
      · rw [if_neg c22] at h
        refine V_ifeq_f (tgt := 41) dX7_spent_22 (by decide) c22 ?_
        refine V_aload_n dX7_spent_25 rfl ?_
        refine V_iload_n dX7_spent_26 rfl ?_
        obtain ⟨x4, y5, h⟩ := bi_o h
        refine V_callV (as := [.int v3]) (q := 85) (rest := [.long v1]) dX7_spent_27 ov_mX7_left lk_RX7_175 (by decide) (by decide) rfl rfl (Nat.le_of_ble_eq_true rfl) (tq_85 hG) rfl (VM_X7_left G μ hG v3 _ y5) ?_
        refine V_lconst (v := 0) dX7_spent_30 rfl ?_
        refine V_lcmp dX7_spent_31 ?_
        by_cases c32 : x4 = (0 : Int64)
        · rw [if_pos c32] at h
          refine V_ifne_f (tgt := 41) dX7_spent_32 (by decide) ((lc_eq x4 0).mpr c32) ?_
          refine V_lconst (v := 1) dX7_spent_35 rfl ?_
          refine V_iload_n dX7_spent_36 rfl ?_
          refine V_lshl dX7_spent_37 ?_
          refine V_goto (tgt := 42) dX7_spent_38 (by decide) ?_
          exact V_wk [true, false, false, true] rfl (T_X7_spent_42 G fu hG (D_X7_spent_9 fu n) ih _ _ _ _ _ h)
        · rw [if_neg c32] at h
          refine V_ifne_t (tgt := 41) dX7_spent_32 (by decide) (fun z => c32 ((lc_eq x4 0).mp z)) ?_
          exact V_wk [true, false, false, true] rfl (T_X7_spent_41 G fu hG (D_X7_spent_9 fu n) ih _ _ _ _ h)
def D_X7_spent_0 (fu : Nat)  (μ : Mem) : Option (Int64 × Mem) :=
  vl (wI μ 85 0 0) fun m1 =>
  D_X7_spent_9 fu fu 0 0 m1
set_option maxRecDepth 20000 in
theorem T_X7_spent_0 (G : GX) (fu : Nat)  (hG : gt G = tbl) : ∀ (μ : Mem) (r : (Int64 × Mem)) , D_X7_spent_0 fu μ = some r → V G mX7_spent 0 [some (.ref 85), none, none, none] [] μ (.inl (some (.long r.1))) (r.2) := by
  intro μ r h
  unfold D_X7_spent_0 at h
  refine V_aload_n dX7_spent_0 rfl ?_
  refine V_iconst (v := 0) dX7_spent_1 rfl ?_
  obtain ⟨m1, e2, h⟩ := vl_o h
  refine V_putI (kf := 0) k_X7 (by decide) lk_RX7_1 rfl rfl (by decide +kernel) dX7_spent_2 (tq_85 hG) rfl e2.symm ?_
  refine V_lconst (v := 0) dX7_spent_5 rfl ?_
  refine V_lstore_n (lv2 := [some (.ref 85), some (.long 0), none, none]) dX7_spent_6 (by decide) rfl ?_
  refine V_iconst (v := 0) dX7_spent_7 rfl ?_
  refine V_istore_n (lv2 := [some (.ref 85), some (.long 0), none, some (.int 0)]) dX7_spent_8 (by decide) rfl ?_
  exact V_wk [true, true, false, true] rfl (T_X7_spent_9 G fu hG fu _ _ _ _ h)
theorem VM_X7_spent (G : GX) (fu : Nat)  (hG : gt G = tbl) (μ : Mem) (r : (Int64 × Mem)) (h : D_X7_spent_0 fu μ = some r) : VM G mX7_spent [.ref 85] μ (.inl (some (.long r.1))) (r.2) := V_entry ok_mX7_spent rfl rfl (Nat.le_of_ble_eq_true rfl) (T_X7_spent_0 G fu hG μ r h)
def D_X7_status_0  (a1 : Int32) (μ : Mem) : Option (Int32 × Mem) :=
  vl (wI μ 85 0 0) fun m1 =>
  (D_X7_within_0 m1 ((a1 : Int32).toInt64) 0 2).bind fun x3 =>
  if x3 = true then
    gu (ib a1 3) <|
    some (m1.1 86 (Int32.toNatClampNeg a1), m1)
  else
    some ((-1), m1)
set_option maxRecDepth 20000 in
theorem T_X7_status_0 (G : GX)  (hG : gt G = tbl) : ∀ (a1 : Int32) (μ : Mem) (r : (Int32 × Mem)) , D_X7_status_0  a1 μ = some r → V G mX7_status 0 [some (.ref 85), some (.int a1)] [] μ (.inl (some (.int r.1))) (r.2) := by
  intro a1 μ r h
  unfold D_X7_status_0 at h
  refine V_aload_n dX7_status_0 rfl ?_
  refine V_iconst (v := 0) dX7_status_1 rfl ?_
  obtain ⟨m1, e2, h⟩ := vl_o h
  refine V_putI (kf := 0) k_X7 (by decide) lk_RX7_1 rfl rfl (by decide +kernel) dX7_status_2 (tq_85 hG) rfl e2.symm ?_
  refine V_iload_n dX7_status_5 rfl ?_
  refine V_i2l dX7_status_6 ?_
  refine V_lconst (v := 0) dX7_status_7 rfl ?_
  refine V_ldc2 (v := 2) dX7_status_8 lk_RX7_246 ?_
  obtain ⟨x3, y4, h⟩ := bi_o h
  refine V_callS (as := [.long ((a1 : Int32).toInt64), .long 0, .long 2]) (rest := []) dX7_status_11 os_mX7_within rfl lk_RX7_352 (by decide) (by decide) rfl rfl (Nat.le_of_ble_eq_true rfl) (VM_X7_within G m1 hG ((a1 : Int32).toInt64) 0 2 _ y4) ?_
  by_cases c14 : x3 = true
  · rw [if_pos c14] at h
    refine V_ifeq_f (tgt := 26) dX7_status_14 (by decide) (b2i_t.mp c14) ?_
    refine V_aload_n dX7_status_17 rfl ?_
    refine V_getR (kf := 1) k_X7 (by decide) lk_RX7_7 rfl dX7_status_18 (tq_85 hG) rfl ?_
    refine V_iload_n dX7_status_21 rfl ?_
    obtain ⟨g5, h⟩ := gu_o h
    refine V_iaload dX7_status_22 (tq_86 hG) (ib_in g5) ?_
    refine V_goto (tgt := 27) dX7_status_23 (by decide) ?_
    cases h
    exact V_iret rfl dX7_status_27
  · rw [if_neg c14] at h
    refine V_ifeq_t (tgt := 26) dX7_status_14 (by decide) (b2i_f.mp c14) ?_
    refine V_iconst (v := (-1)) dX7_status_26 rfl ?_
    cases h
    exact V_iret rfl dX7_status_27
theorem VM_X7_status (G : GX)  (hG : gt G = tbl) (a1 : Int32) (μ : Mem) (r : (Int32 × Mem)) (h : D_X7_status_0  a1 μ = some r) : VM G mX7_status [.ref 85, .int a1] μ (.inl (some (.int r.1))) (r.2) := V_entry ok_mX7_status rfl rfl (Nat.le_of_ble_eq_true rfl) (T_X7_status_0 G hG a1 μ r h)
