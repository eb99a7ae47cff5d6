def D_X6_yearBits_4 (fu : Nat) (μ : Mem)  : Nat → Int32 → Int32 → Int32 → Option Int32
  | 0, _, _, _ => none
  | n + 1, v1, v2, v3 =>
    if v1 < v3 then
      some v2
    else
      (D_X6_yearBits_4 fu μ n) v1 (v2 ||| (1 <<< (v3 &&& 31))) (v3 + 1)
set_option maxRecDepth 20000 in
theorem T_X6_yearBits_4 (G : GX) (fu : Nat) (μ : Mem)  (hG : gt G = tbl) : ∀ (n : Nat) (v1 : Int32) (v2 : Int32) (v3 : Int32) (r : Int32) , D_X6_yearBits_4 fu μ n v1 v2 v3 = some r → V G mX6_yearBits 4 [none, some (.int v1), some (.int v2), some (.int v3)] [] μ (.inl (some (.int r))) (μ) := by
  intro n
  induction n with
  | zero =>
    intro v1 v2 v3 r h
    exact nomatch (show (none : Option Int32) = some r from h)
  | succ n ih =>
    intro v1 v2 v3 r h
    rw [D_X6_yearBits_4] at h
    refine V_iload_n dX6_yearBits_4 rfl ?_
    refine V_iload_n dX6_yearBits_5 rfl ?_
    by_cases c6 : v1 < v3
    · rw [if_pos c6] at h
      refine V_icmpgt_t (tgt := 21) dX6_yearBits_6 (by decide) c6 ?_
      refine V_iload_n dX6_yearBits_21 rfl ?_
      cases h
      exact V_iret rfl dX6_yearBits_22
    · rw [if_neg c6] at h
      refine V_icmpgt_f (tgt := 21) dX6_yearBits_6 (by decide) c6 ?_
      refine V_iload_n dX6_yearBits_9 rfl ?_
      refine V_iconst (v := 1) dX6_yearBits_10 rfl ?_
      refine V_iload_n dX6_yearBits_11 rfl ?_
      refine V_ishl dX6_yearBits_12 ?_
      refine V_ior dX6_yearBits_13 ?_
      refine V_istore_n (lv2 := [none, some (.int v1), some (.int (v2 ||| (1 <<< (v3 &&& 31)))), some (.int v3)]) dX6_yearBits_14 (by decide) rfl ?_
      refine V_iinc (v := v3 + 1) (lv2 := [none, some (.int v1), some (.int (v2 ||| (1 <<< (v3 &&& 31)))), some (.int (v3 + 1))]) dX6_yearBits_15 rfl rfl (by decide) rfl ?_
      refine V_goto (tgt := 4) dX6_yearBits_18 (by decide) ?_
      exact V_wk [false, true, true, true] rfl (ih _ _ _ _ h)
def D_X6_yearBits_0 (fu : Nat) (μ : Mem)  (a0 : Int32) (a1 : Int32) : Option Int32 :=
  D_X6_yearBits_4 fu μ fu a1 0 a0
set_option maxRecDepth 20000 in
theorem T_X6_yearBits_0 (G : GX) (fu : Nat) (μ : Mem)  (hG : gt G = tbl) : ∀ (a0 : Int32) (a1 : Int32) (r : Int32) , D_X6_yearBits_0 fu μ a0 a1 = some r → V G mX6_yearBits 0 [some (.int a0), some (.int a1), none, none] [] μ (.inl (some (.int r))) (μ) := by
  intro a0 a1 r h
  unfold D_X6_yearBits_0 at h
  refine V_iconst (v := 0) dX6_yearBits_0 rfl ?_
  refine V_istore_n (lv2 := [some (.int a0), some (.int a1), some (.int 0), none]) dX6_yearBits_1 (by decide) rfl ?_
  refine V_iload_n dX6_yearBits_2 rfl ?_
  refine V_istore_n (lv2 := [some (.int a0), some (.int a1), some (.int 0), some (.int a0)]) dX6_yearBits_3 (by decide) rfl ?_
  exact V_wk [false, true, true, true] rfl (T_X6_yearBits_4 G fu μ hG fu _ _ _ _ h)
theorem VM_X6_yearBits (G : GX) (fu : Nat) (μ : Mem)  (hG : gt G = tbl) (a0 : Int32) (a1 : Int32) (r : Int32) (h : D_X6_yearBits_0 fu μ a0 a1 = some r) : VM G mX6_yearBits [.int a0, .int a1] μ (.inl (some (.int r))) (μ) := V_entry ok_mX6_yearBits rfl rfl (Nat.le_of_ble_eq_true rfl) (T_X6_yearBits_0 G fu μ hG a0 a1 r h)
def D_X6_yearsSetOff_0 (fu : Nat) (μ : Mem)  (a0 : Int32) (a1 : Int32) (a2 : Int32) (a3 : Int32) : Option Int32 :=
  if a3 = 0 then
    (D_X6_yearBits_0 fu μ a0 a1).bind fun x1 =>
    some x1
  else
  if a3 = 1 then
    (D_X6_yearBits_0 fu μ a2 a2).bind fun x3 =>
    some x3
  else
  if a3 = 2 then
    (D_X6_yearBits_0 fu μ a0 a2).bind fun x5 =>
    some x5
  else
    (D_X6_yearBits_0 fu μ a0 a1).bind fun x7 =>
    (D_X6_yearBits_0 fu μ a2 a2).bind fun x9 =>
    some (x7 ||| x9)
set_option maxRecDepth 20000 in
theorem T_X6_yearsSetOff_0 (G : GX) (fu : Nat) (μ : Mem)  (hG : gt G = tbl) : ∀ (a0 : Int32) (a1 : Int32) (a2 : Int32) (a3 : Int32) (r : Int32) , D_X6_yearsSetOff_0 fu μ a0 a1 a2 a3 = some r → V G mX6_yearsSetOff 0 [some (.int a0), some (.int a1), some (.int a2), some (.int a3)] [] μ (.inl (some (.int r))) (μ) := by
  intro a0 a1 a2 a3 r h
  unfold D_X6_yearsSetOff_0 at h
  refine V_iload_n dX6_yearsSetOff_0 rfl ?_
  by_cases c1_0 : a3 = 0
  · rw [if_pos c1_0] at h
    have qc1_0 : (a3 : Int32).toInt = 0 := by rw [c1_0]; decide
    refine V_tabIn (tgt := 28) dX6_yearsSetOff_1 (by rw [qc1_0]; decide) (by rw [qc1_0]; decide) (by rw [qc1_0]; rfl) (by decide) ?_
    refine V_iload_n dX6_yearsSetOff_28 rfl ?_
    refine V_iload_n dX6_yearsSetOff_29 rfl ?_
    obtain ⟨x1, y2, h⟩ := bi_o h
    refine V_callS (as := [.int a0, .int a1]) (rest := []) dX6_yearsSetOff_30 os_mX6_yearBits rfl lk_RX6_380 (by decide) (by decide) rfl rfl (Nat.le_of_ble_eq_true rfl) (VM_X6_yearBits G fu μ hG a0 a1 _ y2) ?_
    cases h
    exact V_iret rfl dX6_yearsSetOff_33
  · rw [if_neg c1_0] at h
    by_cases c1_1 : a3 = 1
    · rw [if_pos c1_1] at h
      have qc1_1 : (a3 : Int32).toInt = 1 := by rw [c1_1]; decide
      refine V_tabIn (tgt := 34) dX6_yearsSetOff_1 (by rw [qc1_1]; decide) (by rw [qc1_1]; decide) (by rw [qc1_1]; rfl) (by decide) ?_
      refine V_iload_n dX6_yearsSetOff_34 rfl ?_
      refine V_iload_n dX6_yearsSetOff_35 rfl ?_
      obtain ⟨x3, y4, h⟩ := bi_o h
      refine V_callS (as := [.int a2, .int a2]) (rest := []) dX6_yearsSetOff_36 os_mX6_yearBits rfl lk_RX6_380 (by decide) (by decide) rfl rfl (Nat.le_of_ble_eq_true rfl) (VM_X6_yearBits G fu μ hG a2 a2 _ y4) ?_
      cases h
      exact V_iret rfl dX6_yearsSetOff_39
    · rw [if_neg c1_1] at h
      by_cases c1_2 : a3 = 2
      · rw [if_pos c1_2] at h
        have qc1_2 : (a3 : Int32).toInt = 2 := by rw [c1_2]; decide
        refine V_tabIn (tgt := 40) dX6_yearsSetOff_1 (by rw [qc1_2]; decide) (by rw [qc1_2]; decide) (by rw [qc1_2]; rfl) (by decide) ?_
        refine V_iload_n dX6_yearsSetOff_40 rfl ?_
        refine V_iload_n dX6_yearsSetOff_41 rfl ?_
        obtain ⟨x5, y6, h⟩ := bi_o h
        refine V_callS (as := [.int a0, .int a2]) (rest := []) dX6_yearsSetOff_42 os_mX6_yearBits rfl lk_RX6_380 (by decide) (by decide) rfl rfl (Nat.le_of_ble_eq_true rfl) (VM_X6_yearBits G fu μ hG a0 a2 _ y6) ?_
        cases h
        exact V_iret rfl dX6_yearsSetOff_45
      · rw [if_neg c1_2] at h
        refine V_tabOut (tgt := 46) dX6_yearsSetOff_1 (tab_out 3 2 (by decide) (fun j hj => ?_)) (by decide) ?_
        · match j, hj with
          | 0, _ => exact fun z => c1_0 (Int32.toInt_inj.mp (by rw [z]; decide))
          | 1, _ => exact fun z => c1_1 (Int32.toInt_inj.mp (by rw [z]; decide))
          | 2, _ => exact fun z => c1_2 (Int32.toInt_inj.mp (by rw [z]; decide))
          | j + 3, hj => exact absurd hj (by omega)
        refine V_iload_n dX6_yearsSetOff_46 rfl ?_
        refine V_iload_n dX6_yearsSetOff_47 rfl ?_
        obtain ⟨x7, y8, h⟩ := bi_o h
        refine V_callS (as := [.int a0, .int a1]) (rest := []) dX6_yearsSetOff_48 os_mX6_yearBits rfl lk_RX6_380 (by decide) (by decide) rfl rfl (Nat.le_of_ble_eq_true rfl) (VM_X6_yearBits G fu μ hG a0 a1 _ y8) ?_
        refine V_iload_n dX6_yearsSetOff_51 rfl ?_
        refine V_iload_n dX6_yearsSetOff_52 rfl ?_
        obtain ⟨x9, y10, h⟩ := bi_o h
        refine V_callS (as := [.int a2, .int a2]) (rest := [.int x7]) dX6_yearsSetOff_53 os_mX6_yearBits rfl lk_RX6_380 (by decide) (by decide) rfl rfl (Nat.le_of_ble_eq_true rfl) (VM_X6_yearBits G fu μ hG a2 a2 _ y10) ?_
        refine V_ior dX6_yearsSetOff_56 ?_
        cases h
        exact V_iret rfl dX6_yearsSetOff_57
theorem VM_X6_yearsSetOff (G : GX) (fu : Nat) (μ : Mem)  (hG : gt G = tbl) (a0 : Int32) (a1 : Int32) (a2 : Int32) (a3 : Int32) (r : Int32) (h : D_X6_yearsSetOff_0 fu μ a0 a1 a2 a3 = some r) : VM G mX6_yearsSetOff [.int a0, .int a1, .int a2, .int a3] μ (.inl (some (.int r))) (μ) := V_entry ok_mX6_yearsSetOff rfl rfl (Nat.le_of_ble_eq_true rfl) (T_X6_yearsSetOff_0 G fu μ hG a0 a1 a2 a3 r h)
def D_X6_shareOut_144 (fu : Nat) (r2 : Nat) (n2 : Nat) (r4 : Nat) (n4 : Nat) (k107 : Int32 → Int64 → Int32 → Mem → Option Mem) (v3 : Int32) (v11 : Int64) (v13 : Int32) (μ : Mem) : Option Mem :=
  k107 v3 v11 (v13 + 1) μ
set_option maxRecDepth 20000 in
theorem T_X6_shareOut_144 (G : GX) (fu : Nat) (r2 : Nat) (n2 : Nat) (r4 : Nat) (n4 : Nat) (hG : gt G = tbl) (h2 : (gt G)[r2]? = some (.inl (1, n2))) (h4 : (gt G)[r4]? = some (.inl (1, n4))) (k107 : Int32 → Int64 → Int32 → Mem → Option Mem) (hk107 : ∀ (v3 : Int32) (v11 : Int64) (v13 : Int32) (μ : Mem) (r : Mem), k107 v3 v11 v13 μ = some r → V G mX6_shareOut 107 [none, none, some (.ref r2), some (.int v3), some (.ref r4), none, none, none, none, none, none, some (.long v11), none, some (.int v13)] [] μ (.inl none) (r)) : ∀ (v3 : Int32) (v11 : Int64) (v13 : Int32) (μ : Mem) (r : Mem) , D_X6_shareOut_144 fu r2 n2 r4 n4 k107 v3 v11 v13 μ = some r → V G mX6_shareOut 144 [none, none, some (.ref r2), some (.int v3), some (.ref r4), none, none, none, none, none, none, some (.long v11), none, some (.int v13)] [] μ (.inl none) (r) := by
  intro v3 v11 v13 μ r h
  unfold D_X6_shareOut_144 at h
  refine V_iinc (v := v13 + 1) (lv2 := [none, none, some (.ref r2), some (.int v3), some (.ref r4), none, none, none, none, none, none, some (.long v11), none, some (.int (v13 + 1))]) dX6_shareOut_144 rfl rfl (by decide) rfl ?_
  refine V_goto (tgt := 107) dX6_shareOut_147 (by decide) ?_
  exact V_wk [false, false, true, true, true, false, false, false, false, false, false, true, false, true] rfl (hk107 _ _ _ _ _ h)
def D_X6_shareOut_107 (fu : Nat) (r2 : Nat) (n2 : Nat) (r4 : Nat) (n4 : Nat) : Nat → Int32 → Int64 → Int32 → Mem → Option Mem
  | 0, _, _, _, _ => none
  | n + 1, v3, v11, v13, μ =>
    if v3 ≤ v13 then
      some μ
    else
      if v11 ≤ (0 : Int64) then
        some μ
      else
        gu (ib v13 n2) <|
        if (μ.2.1 r2 (Int32.toNatClampNeg v13)) ≤ (0 : Int64) then
          D_X6_shareOut_144 fu r2 n2 r4 n4 (D_X6_shareOut_107 fu r2 n2 r4 n4 n) v3 v11 v13 μ
        else
          gu (ib v13 n4) <|
          gu (ib v13 n4) <|
          vl (wL μ r4 (Int32.toNatClampNeg v13) ((μ.2.1 r4 (Int32.toNatClampNeg v13)) + 1)) fun m6 =>
          D_X6_shareOut_144 fu r2 n2 r4 n4 (D_X6_shareOut_107 fu r2 n2 r4 n4 n) v3 (v11 - 1) v13 m6
set_option maxRecDepth 20000 in
theorem T_X6_shareOut_107 (G : GX) (fu : Nat) (r2 : Nat) (n2 : Nat) (r4 : Nat) (n4 : Nat) (hG : gt G = tbl) (h2 : (gt G)[r2]? = some (.inl (1, n2))) (h4 : (gt G)[r4]? = some (.inl (1, n4))) : ∀ (n : Nat) (v3 : Int32) (v11 : Int64) (v13 : Int32) (μ : Mem) (r : Mem) , D_X6_shareOut_107 fu r2 n2 r4 n4 n v3 v11 v13 μ = some r → V G mX6_shareOut 107 [none, none, some (.ref r2), some (.int v3), some (.ref r4), none, none, none, none, none, none, some (.long v11), none, some (.int v13)] [] μ (.inl none) (r) := by
  intro n
  induction n with
  | zero =>
    intro v3 v11 v13 μ r h
    exact nomatch (show (none : Option Mem) = some r from h)
  | succ n ih =>
    intro v3 v11 v13 μ r h
    rw [D_X6_shareOut_107] at h
    refine V_iload dX6_shareOut_107 rfl ?_
    refine V_iload_n dX6_shareOut_109 rfl ?_
    by_cases c110 : v3 ≤ v13
    · rw [if_pos c110] at h
      refine V_icmpge_t (tgt := 150) dX6_shareOut_110 (by decide) c110 ?_
      cases h
      exact V_vret rfl dX6_shareOut_150
    · rw [if_neg c110] at h
      refine V_icmpge_f (tgt := 150) dX6_shareOut_110 (by decide) c110 ?_
      refine V_lload dX6_shareOut_113 rfl ?_
      refine V_lconst (v := 0) dX6_shareOut_115 rfl ?_
      refine V_lcmp dX6_shareOut_116 ?_
      by_cases c117 : v11 ≤ (0 : Int64)
      · rw [if_pos c117] at h
        refine V_ifle_t (tgt := 150) dX6_shareOut_117 (by decide) ((lc_le v11 0).mpr c117) ?_
        cases h
        exact V_vret rfl dX6_shareOut_150
      · rw [if_neg c117] at h
        refine V_ifle_f (tgt := 150) dX6_shareOut_117 (by decide) (fun z => c117 ((lc_le v11 0).mp z)) ?_
        refine V_aload_n dX6_shareOut_120 rfl ?_
        refine V_iload dX6_shareOut_121 rfl ?_
        obtain ⟨g3, h⟩ := gu_o h
        refine V_laload dX6_shareOut_123 h2 (ib_in g3) ?_
        refine V_lconst (v := 0) dX6_shareOut_124 rfl ?_
        refine V_lcmp dX6_shareOut_125 ?_
        by_cases c126 : (μ.2.1 r2 (Int32.toNatClampNeg v13)) ≤ (0 : Int64)
        · rw [if_pos c126] at h
          refine V_ifle_t (tgt := 144) dX6_shareOut_126 (by decide) ((lc_le (μ.2.1 r2 (Int32.toNatClampNeg v13)) 0).mpr c126) ?_
          exact V_wk [false, false, true, true, true, false, false, false, false, false, false, true, false, true] rfl (T_X6_shareOut_144 G fu r2 n2 r4 n4 hG h2 h4 (D_X6_shareOut_107 fu r2 n2 r4 n4 n) ih _ _ _ _ _ h)
        · rw [if_neg c126] at h
          refine V_ifle_f (tgt := 144) dX6_shareOut_126 (by decide) (fun z => c126 ((lc_le (μ.2.1 r2 (Int32.toNatClampNeg v13)) 0).mp z)) ?_
          refine V_aload dX6_shareOut_129 rfl ?_
          refine V_iload dX6_shareOut_131 rfl ?_
          refine V_dup2 dX6_shareOut_133 rfl rfl ?_
          obtain ⟨g4, h⟩ := gu_o h
          refine V_laload dX6_shareOut_134 h4 (ib_in g4) ?_
          refine V_lconst (v := 1) dX6_shareOut_135 rfl ?_
          refine V_ladd dX6_shareOut_136 ?_
          obtain ⟨g5, h⟩ := gu_o h
          obtain ⟨m6, e7, h⟩ := vl_o h
          refine V_lastore (μ2 := m6) dX6_shareOut_137 h4 (ib_in g5) e7.symm ?_
          refine V_lload dX6_shareOut_138 rfl ?_
          refine V_lconst (v := 1) dX6_shareOut_140 rfl ?_
          refine V_lsub dX6_shareOut_141 ?_
          refine V_lstore (lv2 := [none, none, some (.ref r2), some (.int v3), some (.ref r4), none, none, none, none, none, none, some (.long (v11 - 1)), none, some (.int v13)]) dX6_shareOut_142 (by decide) rfl ?_
          exact V_wk [false, false, true, true, true, false, false, false, false, false, false, true, false, true] rfl (T_X6_shareOut_144 G fu r2 n2 r4 n4 hG h2 h4 (D_X6_shareOut_107 fu r2 n2 r4 n4 n) ih _ _ _ _ _ h)
def D_X6_shareOut_59 (fu : Nat) (r2 : Nat) (n2 : Nat) (r4 : Nat) (n4 : Nat) : Nat → Int32 → Int64 → Int64 → Int64 → Int64 → Int32 → Mem → Option Mem
  | 0, _, _, _, _, _, _, _ => none
  | n + 1, v3, v5, v7, v9, v11, v13, μ =>
    if v3 ≤ v13 then
      D_X6_shareOut_107 fu r2 n2 r4 n4 fu v3 v11 0 μ
    else
      gu (ib v13 n2) <|
      gu (ib v13 n2) <|
      gu (decide (¬ v5 = 0)) <|
      gu (ib v13 n4) <|
      vl (wL μ r4 (Int32.toNatClampNeg v13) ((v7 * (μ.2.1 r2 (Int32.toNatClampNeg v13))) + ((v9 * (μ.2.1 r2 (Int32.toNatClampNeg v13))) / v5))) fun m12 =>
      gu (ib v13 n4) <|
      (D_X6_shareOut_59 fu r2 n2 r4 n4 n) v3 v5 v7 v9 (v11 - (m12.2.1 r4 (Int32.toNatClampNeg v13))) (v13 + 1) m12
set_option maxRecDepth 20000 in
theorem T_X6_shareOut_59 (G : GX) (fu : Nat) (r2 : Nat) (n2 : Nat) (r4 : Nat) (n4 : Nat) (hG : gt G = tbl) (h2 : (gt G)[r2]? = some (.inl (1, n2))) (h4 : (gt G)[r4]? = some (.inl (1, n4))) : ∀ (n : Nat) (v3 : Int32) (v5 : Int64) (v7 : Int64) (v9 : Int64) (v11 : Int64) (v13 : Int32) (μ : Mem) (r : Mem) , D_X6_shareOut_59 fu r2 n2 r4 n4 n v3 v5 v7 v9 v11 v13 μ = some r → V G mX6_shareOut 59 [none, none, some (.ref r2), some (.int v3), some (.ref r4), some (.long v5), none, some (.long v7), none, some (.long v9), none, some (.long v11), none, some (.int v13)] [] μ (.inl none) (r) := by
  intro n
  induction n with
  | zero =>
    intro v3 v5 v7 v9 v11 v13 μ r h
    exact nomatch (show (none : Option Mem) = some r from h)
  | succ n ih =>
    intro v3 v5 v7 v9 v11 v13 μ r h
    rw [D_X6_shareOut_59] at h
    refine V_iload dX6_shareOut_59 rfl ?_
    refine V_iload_n dX6_shareOut_61 rfl ?_
    by_cases c62 : v3 ≤ v13
    · rw [if_pos c62] at h
      refine V_icmpge_t (tgt := 104) dX6_shareOut_62 (by decide) c62 ?_
      refine V_iconst (v := 0) dX6_shareOut_104 rfl ?_
      refine V_istore (lv2 := [none, none, some (.ref r2), some (.int v3), some (.ref r4), some (.long v5), none, some (.long v7), none, some (.long v9), none, some (.long v11), none, some (.int 0)]) dX6_shareOut_105 (by decide) rfl ?_
      exact V_wk [false, false, true, true, true, false, false, false, false, false, false, true, false, true] rfl (T_X6_shareOut_107 G fu r2 n2 r4 n4 hG h2 h4 fu _ _ _ _ _ h)
    · rw [if_neg c62] at h
      refine V_icmpge_f (tgt := 104) dX6_shareOut_62 (by decide) c62 ?_
      refine V_aload dX6_shareOut_65 rfl ?_
      refine V_iload dX6_shareOut_67 rfl ?_
      refine V_lload dX6_shareOut_69 rfl ?_
      refine V_aload_n dX6_shareOut_71 rfl ?_
      refine V_iload dX6_shareOut_72 rfl ?_
      obtain ⟨g8, h⟩ := gu_o h
      refine V_laload dX6_shareOut_74 h2 (ib_in g8) ?_
      refine V_lmul dX6_shareOut_75 ?_
      refine V_lload dX6_shareOut_76 rfl ?_
      refine V_aload_n dX6_shareOut_78 rfl ?_
      refine V_iload dX6_shareOut_79 rfl ?_
      obtain ⟨g9, h⟩ := gu_o h
      refine V_laload dX6_shareOut_81 h2 (ib_in g9) ?_
      refine V_lmul dX6_shareOut_82 ?_
      refine V_lload dX6_shareOut_83 rfl ?_
      obtain ⟨g10, h⟩ := gu_o h
      refine V_ldiv dX6_shareOut_85 (of_decide_eq_true g10) ?_
      refine V_ladd dX6_shareOut_86 ?_
      obtain ⟨g11, h⟩ := gu_o h
      obtain ⟨m12, e13, h⟩ := vl_o h
      refine V_lastore (μ2 := m12) dX6_shareOut_87 h4 (ib_in g11) e13.symm ?_
      refine V_lload dX6_shareOut_88 rfl ?_
      refine V_aload dX6_shareOut_90 rfl ?_
      refine V_iload dX6_shareOut_92 rfl ?_
      obtain ⟨g14, h⟩ := gu_o h
      refine V_laload dX6_shareOut_94 h4 (ib_in g14) ?_
      refine V_lsub dX6_shareOut_95 ?_
      refine V_lstore (lv2 := [none, none, some (.ref r2), some (.int v3), some (.ref r4), some (.long v5), none, some (.long v7), none, some (.long v9), none, some (.long (v11 - (m12.2.1 r4 (Int32.toNatClampNeg v13)))), none, some (.int v13)]) dX6_shareOut_96 (by decide) rfl ?_
      refine V_iinc (v := v13 + 1) (lv2 := [none, none, some (.ref r2), some (.int v3), some (.ref r4), some (.long v5), none, some (.long v7), none, some (.long v9), none, some (.long (v11 - (m12.2.1 r4 (Int32.toNatClampNeg v13)))), none, some (.int (v13 + 1))]) dX6_shareOut_98 rfl rfl (by decide) rfl ?_
      refine V_goto (tgt := 59) dX6_shareOut_101 (by decide) ?_
      exact V_wk [false, false, true, true, true, true, false, true, false, true, false, true, false, true] rfl (ih _ _ _ _ _ _ _ _ h)
def D_X6_shareOut_6 (fu : Nat) (r2 : Nat) (n2 : Nat) (r4 : Nat) (n4 : Nat) : Nat → Int64 → Int32 → Int64 → Int32 → Mem → Option Mem
  | 0, _, _, _, _, _ => none
  | n + 1, v0, v3, v5, v7, μ =>
    if v3 ≤ v7 then
      if (0 : Int64) < v5 then
        gu (decide (¬ v5 = 0)) <|
        gu (decide (¬ v5 = 0)) <|
        D_X6_shareOut_59 fu r2 n2 r4 n4 fu v3 v5 (v0 / v5) (v0 - v0 / v5 * v5) v0 0 μ
      else
        some μ
    else
      gu (ib v7 n2) <|
      gu (ib v7 n4) <|
      vl (wL μ r4 (Int32.toNatClampNeg v7) 0) fun m17 =>
      (D_X6_shareOut_6 fu r2 n2 r4 n4 n) v0 v3 (v5 + (μ.2.1 r2 (Int32.toNatClampNeg v7))) (v7 + 1) m17
set_option maxRecDepth 20000 in
theorem T_X6_shareOut_6 (G : GX) (fu : Nat) (r2 : Nat) (n2 : Nat) (r4 : Nat) (n4 : Nat) (hG : gt G = tbl) (h2 : (gt G)[r2]? = some (.inl (1, n2))) (h4 : (gt G)[r4]? = some (.inl (1, n4))) : ∀ (n : Nat) (v0 : Int64) (v3 : Int32) (v5 : Int64) (v7 : Int32) (μ : Mem) (r : Mem) , D_X6_shareOut_6 fu r2 n2 r4 n4 n v0 v3 v5 v7 μ = some r → V G mX6_shareOut 6 [some (.long v0), none, some (.ref r2), some (.int v3), some (.ref r4), some (.long v5), none, some (.int v7), none, none, none, none, none, none] [] μ (.inl none) (r) := by
  intro n
  induction n with
  | zero =>
    intro v0 v3 v5 v7 μ r h
    exact nomatch (show (none : Option Mem) = some r from h)
  | succ n ih =>
    intro v0 v3 v5 v7 μ r h
    rw [D_X6_shareOut_6] at h
    refine V_iload dX6_shareOut_6 rfl ?_
    refine V_iload_n dX6_shareOut_8 rfl ?_
    by_cases c9 : v3 ≤ v7
    · rw [if_pos c9] at h
      refine V_icmpge_t (tgt := 33) dX6_shareOut_9 (by decide) c9 ?_
      refine V_lload dX6_shareOut_33 rfl ?_
      refine V_lconst (v := 0) dX6_shareOut_35 rfl ?_
      refine V_lcmp dX6_shareOut_36 ?_
      by_cases c37 : (0 : Int64) < v5
      · rw [if_pos c37] at h
        refine V_ifgt_t (tgt := 41) dX6_shareOut_37 (by decide) ((lc_gt v5 0).mpr c37) ?_
        refine V_lload_n dX6_shareOut_41 rfl ?_
        refine V_lload dX6_shareOut_42 rfl ?_
        obtain ⟨g1, h⟩ := gu_o h
        refine V_ldiv dX6_shareOut_44 (of_decide_eq_true g1) ?_
        refine V_lstore (lv2 := [some (.long v0), none, some (.ref r2), some (.int v3), some (.ref r4), some (.long v5), none, some (.long (v0 / v5)), none, none, none, none, none, none]) dX6_shareOut_45 (by decide) rfl ?_
        refine V_lload_n dX6_shareOut_47 rfl ?_
        refine V_lload dX6_shareOut_48 rfl ?_
        obtain ⟨g2, h⟩ := gu_o h
        refine V_lrem dX6_shareOut_50 (of_decide_eq_true g2) ?_
        refine V_lstore (lv2 := [some (.long v0), none, some (.ref r2), some (.int v3), some (.ref r4), some (.long v5), none, some (.long (v0 / v5)), none, some (.long (v0 - v0 / v5 * v5)), none, none, none, none]) dX6_shareOut_51 (by decide) rfl ?_
        refine V_lload_n dX6_shareOut_53 rfl ?_
        refine V_lstore (lv2 := [some (.long v0), none, some (.ref r2), some (.int v3), some (.ref r4), some (.long v5), none, some (.long (v0 / v5)), none, some (.long (v0 - v0 / v5 * v5)), none, some (.long v0), none, none]) dX6_shareOut_54 (by decide) rfl ?_
        refine V_iconst (v := 0) dX6_shareOut_56 rfl ?_
        refine V_istore (lv2 := [some (.long v0), none, some (.ref r2), some (.int v3), some (.ref r4), some (.long v5), none, some (.long (v0 / v5)), none, some (.long (v0 - v0 / v5 * v5)), none, some (.long v0), none, some (.int 0)]) dX6_shareOut_57 (by decide) rfl ?_
        exact V_wk [false, false, true, true, true, true, false, true, false, true, false, true, false, true] rfl (T_X6_shareOut_59 G fu r2 n2 r4 n4 hG h2 h4 fu _ _ _ _ _ _ _ _ h)
      · rw [if_neg c37] at h
        refine V_ifgt_f (tgt := 41) dX6_shareOut_37 (by decide) (fun z => c37 ((lc_gt v5 0).mp z)) ?_
        cases h
        exact V_vret rfl dX6_shareOut_40
    · rw [if_neg c9] at h
      refine V_icmpge_f (tgt := 33) dX6_shareOut_9 (by decide) c9 ?_
      refine V_lload dX6_shareOut_12 rfl ?_
      refine V_aload_n dX6_shareOut_14 rfl ?_
      refine V_iload dX6_shareOut_15 rfl ?_
      obtain ⟨g15, h⟩ := gu_o h
      refine V_laload dX6_shareOut_17 h2 (ib_in g15) ?_
      refine V_ladd dX6_shareOut_18 ?_
      refine V_lstore (lv2 := [some (.long v0), none, some (.ref r2), some (.int v3), some (.ref r4), some (.long (v5 + (μ.2.1 r2 (Int32.toNatClampNeg v7)))), none, some (.int v7), none, none, none, none, none, none]) dX6_shareOut_19 (by decide) rfl ?_
      refine V_aload dX6_shareOut_21 rfl ?_
      refine V_iload dX6_shareOut_23 rfl ?_
      refine V_lconst (v := 0) dX6_shareOut_25 rfl ?_
      obtain ⟨g16, h⟩ := gu_o h
      obtain ⟨m17, e18, h⟩ := vl_o h
      refine V_lastore (μ2 := m17) dX6_shareOut_26 h4 (ib_in g16) e18.symm ?_
      refine V_iinc (v := v7 + 1) (lv2 := [some (.long v0), none, some (.ref r2), some (.int v3), some (.ref r4), some (.long (v5 + (μ.2.1 r2 (Int32.toNatClampNeg v7)))), none, some (.int (v7 + 1)), none, none, none, none, none, none]) dX6_shareOut_27 rfl rfl (by decide) rfl ?_
      refine V_goto (tgt := 6) dX6_shareOut_30 (by decide) ?_
      exact V_wk [true, false, true, true, true, true, false, true, false, false, false, false, false, false] rfl (ih _ _ _ _ _ _ h)
def D_X6_shareOut_0 (fu : Nat) (r2 : Nat) (n2 : Nat) (r4 : Nat) (n4 : Nat) (a0 : Int64) (a3 : Int32) (μ : Mem) : Option Mem :=
  D_X6_shareOut_6 fu r2 n2 r4 n4 fu a0 a3 0 0 μ
set_option maxRecDepth 20000 in
theorem T_X6_shareOut_0 (G : GX) (fu : Nat) (r2 : Nat) (n2 : Nat) (r4 : Nat) (n4 : Nat) (hG : gt G = tbl) (h2 : (gt G)[r2]? = some (.inl (1, n2))) (h4 : (gt G)[r4]? = some (.inl (1, n4))) : ∀ (a0 : Int64) (a3 : Int32) (μ : Mem) (r : Mem) , D_X6_shareOut_0 fu r2 n2 r4 n4 a0 a3 μ = some r → V G mX6_shareOut 0 [some (.long a0), none, some (.ref r2), some (.int a3), some (.ref r4), none, none, none, none, none, none, none, none, none] [] μ (.inl none) (r) := by
  intro a0 a3 μ r h
  unfold D_X6_shareOut_0 at h
  refine V_lconst (v := 0) dX6_shareOut_0 rfl ?_
  refine V_lstore (lv2 := [some (.long a0), none, some (.ref r2), some (.int a3), some (.ref r4), some (.long 0), none, none, none, none, none, none, none, none]) dX6_shareOut_1 (by decide) rfl ?_
  refine V_iconst (v := 0) dX6_shareOut_3 rfl ?_
  refine V_istore (lv2 := [some (.long a0), none, some (.ref r2), some (.int a3), some (.ref r4), some (.long 0), none, some (.int 0), none, none, none, none, none, none]) dX6_shareOut_4 (by decide) rfl ?_
  exact V_wk [true, false, true, true, true, true, false, true, false, false, false, false, false, false] rfl (T_X6_shareOut_6 G fu r2 n2 r4 n4 hG h2 h4 fu _ _ _ _ _ _ h)
theorem VM_X6_shareOut (G : GX) (fu : Nat) (r2 : Nat) (n2 : Nat) (r4 : Nat) (n4 : Nat) (hG : gt G = tbl) (h2 : (gt G)[r2]? = some (.inl (1, n2))) (h4 : (gt G)[r4]? = some (.inl (1, n4))) (a0 : Int64) (a3 : Int32) (μ : Mem) (r : Mem) (h : D_X6_shareOut_0 fu r2 n2 r4 n4 a0 a3 μ = some r) : VM G mX6_shareOut [.long a0, .ref r2, .int a3, .ref r4] μ (.inl none) (r) := V_entry ok_mX6_shareOut rfl rfl (Nat.le_of_ble_eq_true rfl) (T_X6_shareOut_0 G fu r2 n2 r4 n4 hG h2 h4 a0 a3 μ r h)
def D_X0_setRules_0 (t : Nat) (a1 : Int32) (a2 : Int32) (a3 : Int32) (μ : Mem) : Option Mem :=
  vl (wI μ t 4 a1) fun m1 =>
  vl (wI m1 t 5 a2) fun m3 =>
  vl (wI m3 t 6 a3) fun m5 =>
  some m5
set_option maxRecDepth 20000 in
theorem T_X0_setRules_0 (G : GX) (t : Nat) (hG : gt G = tbl) (ht : IsX0 t) : ∀ (a1 : Int32) (a2 : Int32) (a3 : Int32) (μ : Mem) (r : Mem) , D_X0_setRules_0 t a1 a2 a3 μ = some r → V G mX0_setRules 0 [some (.ref t), some (.int a1), some (.int a2), some (.int a3)] [] μ (.inl none) (r) := by
  intro a1 a2 a3 μ r h
  unfold D_X0_setRules_0 at h
  refine V_aload_n dX0_setRules_0 rfl ?_
  refine V_iload_n dX0_setRules_1 rfl ?_
  obtain ⟨m1, e2, h⟩ := vl_o h
  refine V_putI (kf := 4) k_X0 (by decide) lk_RX0_46 rfl rfl (by decide +kernel) dX0_setRules_2 (tq_X0_0 hG ht) rfl e2.symm ?_
  refine V_aload_n dX0_setRules_5 rfl ?_
  refine V_iload_n dX0_setRules_6 rfl ?_
  obtain ⟨m3, e4, h⟩ := vl_o h
  refine V_putI (kf := 5) k_X0 (by decide) lk_RX0_50 rfl rfl (by decide +kernel) dX0_setRules_7 (tq_X0_0 hG ht) rfl e4.symm ?_
  refine V_aload_n dX0_setRules_10 rfl ?_
  refine V_iload_n dX0_setRules_11 rfl ?_
  obtain ⟨m5, e6, h⟩ := vl_o h
  refine V_putI (kf := 6) k_X0 (by decide) lk_RX0_53 rfl rfl (by decide +kernel) dX0_setRules_12 (tq_X0_0 hG ht) rfl e6.symm ?_
  cases h
  exact V_vret rfl dX0_setRules_15
theorem VM_X0_setRules (G : GX) (t : Nat) (hG : gt G = tbl) (ht : IsX0 t) (a1 : Int32) (a2 : Int32) (a3 : Int32) (μ : Mem) (r : Mem) (h : D_X0_setRules_0 t a1 a2 a3 μ = some r) : VM G mX0_setRules [.ref t, .int a1, .int a2, .int a3] μ (.inl none) (r) := V_entry ok_mX0_setRules rfl rfl (Nat.le_of_ble_eq_true rfl) (T_X0_setRules_0 G t hG ht a1 a2 a3 μ r h)
def D_X0_clear_0 (fu : Nat) (t : Nat) (μ : Mem) : Option Mem :=
  (D_X5_clear_0 fu (t + 1) μ).bind fun x1 =>
  (D_X1_clear_0 fu (t + 14) x1).bind fun x3 =>
  (D_J7_fill_53178_0 fu (t + 27) 10 0 x3).bind fun x5 =>
  (D_J7_fill_53178_0 fu (t + 28) 10 0 x5).bind fun x7 =>
  (D_X0_setRules_0 t 0 0 0 x7).bind fun x9 =>
  some x9
set_option maxRecDepth 20000 in
theorem T_X0_clear_0 (G : GX) (fu : Nat) (t : Nat) (hG : gt G = tbl) (ht : IsX0 t) : ∀ (μ : Mem) (r : Mem) , D_X0_clear_0 fu t μ = some r → V G mX0_clear 0 [some (.ref t)] [] μ (.inl none) (r) := by
  intro μ r h
  unfold D_X0_clear_0 at h
  refine V_aload_n dX0_clear_0 rfl ?_
  refine V_getR (kf := 0) k_X0 (by decide) lk_RX0_12 rfl dX0_clear_1 (tq_X0_0 hG ht) rfl ?_
  obtain ⟨x1, y2, h⟩ := bi_o h
  refine V_callV (as := []) (q := (t + 1)) (rest := []) dX0_clear_4 ov_mX5_clear lk_RX0_32 (by decide) (by decide) rfl rfl (Nat.le_of_ble_eq_true rfl) (tq_X0_1 hG ht) rfl (VM_X5_clear G fu (t + 1) hG (is_X0_1 ht) μ _ y2) ?_
  refine V_aload_n dX0_clear_7 rfl ?_
  refine V_getR (kf := 1) k_X0 (by decide) lk_RX0_21 rfl dX0_clear_8 (tq_X0_0 hG ht) rfl ?_
  obtain ⟨x3, y4, h⟩ := bi_o h
  refine V_callV (as := []) (q := (t + 14)) (rest := []) dX0_clear_11 ov_mX1_clear lk_RX0_35 (by decide) (by decide) rfl rfl (Nat.le_of_ble_eq_true rfl) (tq_X0_14 hG ht) rfl (VM_X1_clear G fu (t + 14) hG (is_X0_14 ht) x1 _ y4) ?_
  refine V_aload_n dX0_clear_14 rfl ?_
  refine V_getR (kf := 2) k_X0 (by decide) lk_RX0_25 rfl dX0_clear_15 (tq_X0_0 hG ht) rfl ?_
  refine V_iconst (v := 0) dX0_clear_18 rfl ?_
  obtain ⟨x5, y6, h⟩ := bi_o h
  refine V_callS (as := [.ref (t + 27), .int 0]) (rest := []) dX0_clear_19 os_mJ7_fill_53178 rfl lk_RX0_36 (by decide) (by decide) rfl rfl (Nat.le_of_ble_eq_true rfl) (VM_J7_fill_53178 G fu (t + 27) 10 (tq_X0_27 hG ht) 0 x3 _ y6) ?_
  refine V_aload_n dX0_clear_22 rfl ?_
  refine V_getR (kf := 3) k_X0 (by decide) lk_RX0_29 rfl dX0_clear_23 (tq_X0_0 hG ht) rfl ?_
  refine V_iconst (v := 0) dX0_clear_26 rfl ?_
  obtain ⟨x7, y8, h⟩ := bi_o h
  refine V_callS (as := [.ref (t + 28), .int 0]) (rest := []) dX0_clear_27 os_mJ7_fill_53178 rfl lk_RX0_36 (by decide) (by decide) rfl rfl (Nat.le_of_ble_eq_true rfl) (VM_J7_fill_53178 G fu (t + 28) 10 (tq_X0_28 hG ht) 0 x5 _ y8) ?_
  refine V_aload_n dX0_clear_30 rfl ?_
  refine V_iconst (v := 0) dX0_clear_31 rfl ?_
  refine V_iconst (v := 0) dX0_clear_32 rfl ?_
  refine V_iconst (v := 0) dX0_clear_33 rfl ?_
  obtain ⟨x9, y10, h⟩ := bi_o h
  refine V_callV (as := [.int 0, .int 0, .int 0]) (q := t) (rest := []) dX0_clear_34 ov_mX0_setRules lk_RX0_42 (by decide) (by decide) rfl rfl (Nat.le_of_ble_eq_true rfl) (tq_X0_0 hG ht) rfl (VM_X0_setRules G t hG ht 0 0 0 x7 _ y10) ?_
  cases h
  exact V_vret rfl dX0_clear_37
theorem VM_X0_clear (G : GX) (fu : Nat) (t : Nat) (hG : gt G = tbl) (ht : IsX0 t) (μ : Mem) (r : Mem) (h : D_X0_clear_0 fu t μ = some r) : VM G mX0_clear [.ref t] μ (.inl none) (r) := V_entry ok_mX0_clear rfl rfl (Nat.le_of_ble_eq_true rfl) (T_X0_clear_0 G fu t hG ht μ r h)
def D_X0_putStanding_0 (t : Nat) (a1 : Int32) (a2 : Int32) (a3 : Int32) (μ : Mem) : Option (Bool × Mem) :=
  gu (ib a1 10) <|
  if (μ.1 (t + 27) (Int32.toNatClampNeg a1)) = 0 then
    gu (ib a1 10) <|
    vl (wI μ (t + 27) (Int32.toNatClampNeg a1) a2) fun m3 =>
    gu (ib a1 10) <|
    vl (wI m3 (t + 28) (Int32.toNatClampNeg a1) a3) fun m6 =>
    some (true, m6)
  else
    some (false, μ)
set_option maxRecDepth 20000 in
theorem T_X0_putStanding_0 (G : GX) (t : Nat) (hG : gt G = tbl) (ht : IsX0 t) : ∀ (a1 : Int32) (a2 : Int32) (a3 : Int32) (μ : Mem) (r : (Bool × Mem)) , D_X0_putStanding_0 t a1 a2 a3 μ = some r → V G mX0_putStanding 0 [some (.ref t), some (.int a1), some (.int a2), some (.int a3)] [] μ (.inl (some (.int (b2i r.1)))) (r.2) := by
  intro a1 a2 a3 μ r h
  unfold D_X0_putStanding_0 at h
  refine V_aload_n dX0_putStanding_0 rfl ?_
  refine V_getR (kf := 2) k_X0 (by decide) lk_RX0_25 rfl dX0_putStanding_1 (tq_X0_0 hG ht) rfl ?_
  refine V_iload_n dX0_putStanding_4 rfl ?_
  obtain ⟨g1, h⟩ := gu_o h
  refine V_iaload dX0_putStanding_5 (tq_X0_27 hG ht) (ib_in g1) ?_
  by_cases c6 : (μ.1 (t + 27) (Int32.toNatClampNeg a1)) = 0
  · rw [if_pos c6] at h
    refine V_ifeq_t (tgt := 11) dX0_putStanding_6 (by decide) c6 ?_
    refine V_aload_n dX0_putStanding_11 rfl ?_
    refine V_getR (kf := 2) k_X0 (by decide) lk_RX0_25 rfl dX0_putStanding_12 (tq_X0_0 hG ht) rfl ?_
    refine V_iload_n dX0_putStanding_15 rfl ?_
    refine V_iload_n dX0_putStanding_16 rfl ?_
    obtain ⟨g2, h⟩ := gu_o h
    obtain ⟨m3, e4, h⟩ := vl_o h
    refine V_iastore (μ2 := m3) dX0_putStanding_17 (tq_X0_27 hG ht) (ib_in g2) e4.symm ?_
    refine V_aload_n dX0_putStanding_18 rfl ?_
    refine V_getR (kf := 3) k_X0 (by decide) lk_RX0_29 rfl dX0_putStanding_19 (tq_X0_0 hG ht) rfl ?_
    refine V_iload_n dX0_putStanding_22 rfl ?_
    refine V_iload_n dX0_putStanding_23 rfl ?_
    obtain ⟨g5, h⟩ := gu_o h
    obtain ⟨m6, e7, h⟩ := vl_o h
    refine V_iastore (μ2 := m6) dX0_putStanding_24 (tq_X0_28 hG ht) (ib_in g5) e7.symm ?_
    refine V_iconst (v := 1) dX0_putStanding_25 rfl ?_
    cases h
    exact V_zret rfl (by decide) dX0_putStanding_26
  · rw [if_neg c6] at h
    refine V_ifeq_f (tgt := 11) dX0_putStanding_6 (by decide) c6 ?_
    refine V_iconst (v := 0) dX0_putStanding_9 rfl ?_
    cases h
    exact V_zret rfl (by decide) dX0_putStanding_10
theorem VM_X0_putStanding (G : GX) (t : Nat) (hG : gt G = tbl) (ht : IsX0 t) (a1 : Int32) (a2 : Int32) (a3 : Int32) (μ : Mem) (r : (Bool × Mem)) (h : D_X0_putStanding_0 t a1 a2 a3 μ = some r) : VM G mX0_putStanding [.ref t, .int a1, .int a2, .int a3] μ (.inl (some (.int (b2i r.1)))) (r.2) := V_entry ok_mX0_putStanding rfl rfl (Nat.le_of_ble_eq_true rfl) (T_X0_putStanding_0 G t hG ht a1 a2 a3 μ r h)
def D_X0_takeBackParts_10 (fu : Nat) (t : Nat) : Nat → Int32 → Int32 → Int32 → Mem → Option Mem
  | 0, _, _, _, _ => none
  | n + 1, v2, v3, v4, μ =>
    gu (ib v2 40) <|
    if (μ.1 (t + 7) (Int32.toNatClampNeg v2)) ≤ v4 then
      some μ
    else
      gu (ib ((v2 * 4) + v4) 160) <|
      gu (ib (v3 + ((v2 * 4) + v4)) 3840) <|
      gu (ib ((v2 * 4) + v4) 160) <|
      vl (wL μ (t + 11) (Int32.toNatClampNeg ((v2 * 4) + v4)) ((μ.2.1 (t + 11) (Int32.toNatClampNeg ((v2 * 4) + v4))) - (μ.2.1 (t + 24) (Int32.toNatClampNeg (v3 + ((v2 * 4) + v4)))))) fun m5 =>
      (D_X0_takeBackParts_10 fu t n) v2 v3 (v4 + 1) m5
set_option maxRecDepth 20000 in
theorem T_X0_takeBackParts_10 (G : GX) (fu : Nat) (t : Nat) (hG : gt G = tbl) (ht : IsX0 t) : ∀ (n : Nat) (v2 : Int32) (v3 : Int32) (v4 : Int32) (μ : Mem) (r : Mem) , D_X0_takeBackParts_10 fu t n v2 v3 v4 μ = some r → V G mX0_takeBackParts 10 [some (.ref t), none, some (.int v2), some (.int v3), some (.int v4), none] [] μ (.inl none) (r) := by
  intro n
  induction n with
  | zero =>
    intro v2 v3 v4 μ r h
    exact nomatch (show (none : Option Mem) = some r from h)
  | succ n ih =>
    intro v2 v3 v4 μ r h
    rw [D_X0_takeBackParts_10] at h
    refine V_iload dX0_takeBackParts_10 rfl ?_
    refine V_aload_n dX0_takeBackParts_12 rfl ?_
    refine V_getR (kf := 0) k_X0 (by decide) lk_RX0_12 rfl dX0_takeBackParts_13 (tq_X0_0 hG ht) rfl ?_
    refine V_getR (kf := 5) k_X5 (by decide) lk_RX0_145 rfl dX0_takeBackParts_16 (tq_X0_1 hG ht) rfl ?_
    refine V_iload_n dX0_takeBackParts_19 rfl ?_
    obtain ⟨g1, h⟩ := gu_o h
    refine V_iaload dX0_takeBackParts_20 (tq_X0_7 hG ht) (ib_in g1) ?_
    by_cases c21 : (μ.1 (t + 7) (Int32.toNatClampNeg v2)) ≤ v4
    · rw [if_pos c21] at h
      refine V_icmpge_t (tgt := 63) dX0_takeBackParts_21 (by decide) c21 ?_
      cases h
      exact V_vret rfl dX0_takeBackParts_63
    · rw [if_neg c21] at h
      refine V_icmpge_f (tgt := 63) dX0_takeBackParts_21 (by decide) c21 ?_
      refine V_iload_n dX0_takeBackParts_24 rfl ?_
      refine V_iconst (v := 4) dX0_takeBackParts_25 rfl ?_
      refine V_imul dX0_takeBackParts_26 ?_
      refine V_iload dX0_takeBackParts_27 rfl ?_
      refine V_iadd dX0_takeBackParts_29 ?_
      refine V_istore (lv2 := [some (.ref t), none, some (.int v2), some (.int v3), some (.int v4), some (.int ((v2 * 4) + v4))]) dX0_takeBackParts_30 (by decide) rfl ?_
      refine V_aload_n dX0_takeBackParts_32 rfl ?_
      refine V_getR (kf := 0) k_X0 (by decide) lk_RX0_12 rfl dX0_takeBackParts_33 (tq_X0_0 hG ht) rfl ?_
      refine V_getR (kf := 9) k_X5 (by decide) lk_RX0_148 rfl dX0_takeBackParts_36 (tq_X0_1 hG ht) rfl ?_
      refine V_iload dX0_takeBackParts_39 rfl ?_
      refine V_dup2 dX0_takeBackParts_41 rfl rfl ?_
      obtain ⟨g2, h⟩ := gu_o h
      refine V_laload dX0_takeBackParts_42 (tq_X0_11 hG ht) (ib_in g2) ?_
      refine V_aload_n dX0_takeBackParts_43 rfl ?_
      refine V_getR (kf := 1) k_X0 (by decide) lk_RX0_21 rfl dX0_takeBackParts_44 (tq_X0_0 hG ht) rfl ?_
      refine V_getR (kf := 9) k_X1 (by decide) lk_RX0_151 rfl dX0_takeBackParts_47 (tq_X0_14 hG ht) rfl ?_
      refine V_iload_n dX0_takeBackParts_50 rfl ?_
      refine V_iload dX0_takeBackParts_51 rfl ?_
      refine V_iadd dX0_takeBackParts_53 ?_
      obtain ⟨g3, h⟩ := gu_o h
      refine V_laload dX0_takeBackParts_54 (tq_X0_24 hG ht) (ib_in g3) ?_
      refine V_lsub dX0_takeBackParts_55 ?_
      obtain ⟨g4, h⟩ := gu_o h
      obtain ⟨m5, e6, h⟩ := vl_o h
      refine V_lastore (μ2 := m5) dX0_takeBackParts_56 (tq_X0_11 hG ht) (ib_in g4) e6.symm ?_
      refine V_iinc (v := v4 + 1) (lv2 := [some (.ref t), none, some (.int v2), some (.int v3), some (.int (v4 + 1)), some (.int ((v2 * 4) + v4))]) dX0_takeBackParts_57 rfl rfl (by decide) rfl ?_
      refine V_goto (tgt := 10) dX0_takeBackParts_60 (by decide) ?_
      exact V_wk [true, false, true, true, true, false] rfl (ih _ _ _ _ _ h)
def D_X0_takeBackParts_0 (fu : Nat) (t : Nat) (a1 : Int32) (a2 : Int32) (μ : Mem) : Option Mem :=
  D_X0_takeBackParts_10 fu t fu a2 ((a1 * 40) * 4) 0 μ
set_option maxRecDepth 20000 in
theorem T_X0_takeBackParts_0 (G : GX) (fu : Nat) (t : Nat) (hG : gt G = tbl) (ht : IsX0 t) : ∀ (a1 : Int32) (a2 : Int32) (μ : Mem) (r : Mem) , D_X0_takeBackParts_0 fu t a1 a2 μ = some r → V G mX0_takeBackParts 0 [some (.ref t), some (.int a1), some (.int a2), none, none, none] [] μ (.inl none) (r) := by
  intro a1 a2 μ r h
  unfold D_X0_takeBackParts_0 at h
  refine V_iload_n dX0_takeBackParts_0 rfl ?_
  refine V_bipush (v := 40) dX0_takeBackParts_1 rfl ?_
  refine V_imul dX0_takeBackParts_3 ?_
  refine V_iconst (v := 4) dX0_takeBackParts_4 rfl ?_
  refine V_imul dX0_takeBackParts_5 ?_
  refine V_istore_n (lv2 := [some (.ref t), some (.int a1), some (.int a2), some (.int ((a1 * 40) * 4)), none, none]) dX0_takeBackParts_6 (by decide) rfl ?_
  refine V_iconst (v := 0) dX0_takeBackParts_7 rfl ?_
  refine V_istore (lv2 := [some (.ref t), some (.int a1), some (.int a2), some (.int ((a1 * 40) * 4)), some (.int 0), none]) dX0_takeBackParts_8 (by decide) rfl ?_
  exact V_wk [true, false, true, true, true, false] rfl (T_X0_takeBackParts_10 G fu t hG ht fu _ _ _ _ _ h)
theorem VM_X0_takeBackParts (G : GX) (fu : Nat) (t : Nat) (hG : gt G = tbl) (ht : IsX0 t) (a1 : Int32) (a2 : Int32) (μ : Mem) (r : Mem) (h : D_X0_takeBackParts_0 fu t a1 a2 μ = some r) : VM G mX0_takeBackParts [.ref t, .int a1, .int a2] μ (.inl none) (r) := V_entry ok_mX0_takeBackParts rfl rfl (Nat.le_of_ble_eq_true rfl) (T_X0_takeBackParts_0 G fu t hG ht a1 a2 μ r h)
def D_X0_takeBack_67 (fu : Nat) (t : Nat) (k16 : Int32 → Int32 → Mem → Option (Bool × Mem)) (v1 : Int32) (v2 : Int32) (μ : Mem) : Option (Bool × Mem) :=
  k16 v1 (v2 + 1) μ
set_option maxRecDepth 20000 in
theorem T_X0_takeBack_67 (G : GX) (fu : Nat) (t : Nat) (hG : gt G = tbl) (ht : IsX0 t) (k16 : Int32 → Int32 → Mem → Option (Bool × Mem)) (hk16 : ∀ (v1 : Int32) (v2 : Int32) (μ : Mem) (r : (Bool × Mem)), k16 v1 v2 μ = some r → V G mX0_takeBack 16 [some (.ref t), some (.int v1), some (.int v2), none, none] [] μ (.inl (some (.int (b2i r.1)))) (r.2)) : ∀ (v1 : Int32) (v2 : Int32) (μ : Mem) (r : (Bool × Mem)) , D_X0_takeBack_67 fu t k16 v1 v2 μ = some r → V G mX0_takeBack 67 [some (.ref t), some (.int v1), some (.int v2), none, none] [] μ (.inl (some (.int (b2i r.1)))) (r.2) := by
  intro v1 v2 μ r h
  unfold D_X0_takeBack_67 at h
  refine V_iinc (v := v2 + 1) (lv2 := [some (.ref t), some (.int v1), some (.int (v2 + 1)), none, none]) dX0_takeBack_67 rfl rfl (by decide) rfl ?_
  refine V_goto (tgt := 16) dX0_takeBack_70 (by decide) ?_
  exact V_wk [true, true, true, false, false] rfl (hk16 _ _ _ _ h)
def D_X0_takeBack_16 (fu : Nat) (t : Nat) : Nat → Int32 → Int32 → Mem → Option (Bool × Mem)
  | 0, _, _, _ => none
  | n + 1, v1, v2, μ =>
    if (μ.1 (t + 1) 13) ≤ v2 then
      (D_X1_clearRows_0 fu (t + 14) v1 μ).bind fun x2 =>
      some (true, x2)
    else
      gu (ib ((v1 * 40) + v2) 1000) <|
      vl (μ.2.1 (t + 21) (Int32.toNatClampNeg ((v1 * 40) + v2)) : Int64) fun x5 =>
      if x5 ≤ (0 : Int64) then
        D_X0_takeBack_67 fu t (D_X0_takeBack_16 fu t n) v1 v2 μ
      else
        gu (ib v2 40) <|
        gu (ib v2 40) <|
        vl (wL μ (t + 6) (Int32.toNatClampNeg v2) ((μ.2.1 (t + 6) (Int32.toNatClampNeg v2)) - x5)) fun m9 =>
        (D_X0_takeBackParts_0 fu t v1 v2 m9).bind fun x11 =>
        D_X0_takeBack_67 fu t (D_X0_takeBack_16 fu t n) v1 v2 x11
set_option maxRecDepth 20000 in
theorem T_X0_takeBack_16 (G : GX) (fu : Nat) (t : Nat) (hG : gt G = tbl) (ht : IsX0 t) : ∀ (n : Nat) (v1 : Int32) (v2 : Int32) (μ : Mem) (r : (Bool × Mem)) , D_X0_takeBack_16 fu t n v1 v2 μ = some r → V G mX0_takeBack 16 [some (.ref t), some (.int v1), some (.int v2), none, none] [] μ (.inl (some (.int (b2i r.1)))) (r.2) := by
  intro n
  induction n with
  | zero =>
    intro v1 v2 μ r h
    exact nomatch (show (none : Option (Bool × Mem)) = some r from h)
  | succ n ih =>
    intro v1 v2 μ r h
    rw [D_X0_takeBack_16] at h
    refine V_iload_n dX0_takeBack_16 rfl ?_
    refine V_aload_n dX0_takeBack_17 rfl ?_
    refine V_getR (kf := 0) k_X0 (by decide) lk_RX0_12 rfl dX0_takeBack_18 (tq_X0_0 hG ht) rfl ?_
    refine V_getI (kf := 13) k_X5 (by decide) lk_RX0_128 rfl dX0_takeBack_21 (tq_X0_1 hG ht) rfl ?_
    by_cases c24 : (μ.1 (t + 1) 13) ≤ v2
    · rw [if_pos c24] at h
      refine V_icmpge_t (tgt := 73) dX0_takeBack_24 (by decide) c24 ?_
      refine V_aload_n dX0_takeBack_73 rfl ?_
      refine V_getR (kf := 1) k_X0 (by decide) lk_RX0_21 rfl dX0_takeBack_74 (tq_X0_0 hG ht) rfl ?_
      refine V_iload_n dX0_takeBack_77 rfl ?_
      obtain ⟨x2, y3, h⟩ := bi_o h
      refine V_callV (as := [.int v1]) (q := (t + 14)) (rest := []) dX0_takeBack_78 ov_mX1_clearRows lk_RX0_141 (by decide) (by decide) rfl rfl (Nat.le_of_ble_eq_true rfl) (tq_X0_14 hG ht) rfl (VM_X1_clearRows G fu (t + 14) hG (is_X0_14 ht) v1 μ _ y3) ?_
      refine V_iconst (v := 1) dX0_takeBack_81 rfl ?_
      cases h
      exact V_zret rfl (by decide) dX0_takeBack_82
    · rw [if_neg c24] at h
      refine V_icmpge_f (tgt := 73) dX0_takeBack_24 (by decide) c24 ?_
      refine V_aload_n dX0_takeBack_27 rfl ?_
      refine V_getR (kf := 1) k_X0 (by decide) lk_RX0_21 rfl dX0_takeBack_28 (tq_X0_0 hG ht) rfl ?_
      refine V_getR (kf := 6) k_X1 (by decide) lk_RX0_131 rfl dX0_takeBack_31 (tq_X0_14 hG ht) rfl ?_
      refine V_iload_n dX0_takeBack_34 rfl ?_
      refine V_bipush (v := 40) dX0_takeBack_35 rfl ?_
      refine V_imul dX0_takeBack_37 ?_
      refine V_iload_n dX0_takeBack_38 rfl ?_
      refine V_iadd dX0_takeBack_39 ?_
      obtain ⟨g4, h⟩ := gu_o h
      refine V_laload dX0_takeBack_40 (tq_X0_21 hG ht) (ib_in g4) ?_
      obtain ⟨x5, e6, h⟩ := vl_o h
      refine V_topl e6 ?_
      refine V_lstore_n (lv2 := [some (.ref t), some (.int v1), some (.int v2), some (.long x5), none]) dX0_takeBack_41 (by decide) rfl ?_
      refine V_lload_n dX0_takeBack_42 rfl ?_
      refine V_lconst (v := 0) dX0_takeBack_43 rfl ?_
      refine V_lcmp dX0_takeBack_44 ?_
      by_cases c45 : x5 ≤ (0 : Int64)
      · rw [if_pos c45] at h
        refine V_ifle_t (tgt := 67) dX0_takeBack_45 (by decide) ((lc_le x5 0).mpr c45) ?_
        exact V_wk [true, true, true, false, false] rfl (T_X0_takeBack_67 G fu t hG ht (D_X0_takeBack_16 fu t n) ih _ _ _ _ h)
      · rw [if_neg c45] at h
        refine V_ifle_f (tgt := 67) dX0_takeBack_45 (by decide) (fun z => c45 ((lc_le x5 0).mp z)) ?_
        refine V_aload_n dX0_takeBack_48 rfl ?_
        refine V_getR (kf := 0) k_X0 (by decide) lk_RX0_12 rfl dX0_takeBack_49 (tq_X0_0 hG ht) rfl ?_
        refine V_getR (kf := 4) k_X5 (by decide) lk_RX0_134 rfl dX0_takeBack_52 (tq_X0_1 hG ht) rfl ?_
        refine V_iload_n dX0_takeBack_55 rfl ?_
        refine V_dup2 dX0_takeBack_56 rfl rfl ?_
        obtain ⟨g7, h⟩ := gu_o h
        refine V_laload dX0_takeBack_57 (tq_X0_6 hG ht) (ib_in g7) ?_
        refine V_lload_n dX0_takeBack_58 rfl ?_
        refine V_lsub dX0_takeBack_59 ?_
        obtain ⟨g8, h⟩ := gu_o h
        obtain ⟨m9, e10, h⟩ := vl_o h
        refine V_lastore (μ2 := m9) dX0_takeBack_60 (tq_X0_6 hG ht) (ib_in g8) e10.symm ?_
        refine V_aload_n dX0_takeBack_61 rfl ?_
        refine V_iload_n dX0_takeBack_62 rfl ?_
        refine V_iload_n dX0_takeBack_63 rfl ?_
        obtain ⟨x11, y12, h⟩ := bi_o h
        refine V_callV (as := [.int v1, .int v2]) (q := t) (rest := []) dX0_takeBack_64 ov_mX0_takeBackParts lk_RX0_137 (by decide) (by decide) rfl rfl (Nat.le_of_ble_eq_true rfl) (tq_X0_0 hG ht) rfl (VM_X0_takeBackParts G fu t hG ht v1 v2 m9 _ y12) ?_
        exact V_wk [true, true, true, false, false] rfl (T_X0_takeBack_67 G fu t hG ht (D_X0_takeBack_16 fu t n) ih _ _ _ _ h)
def D_X0_takeBack_0 (fu : Nat) (t : Nat) (a1 : Int32) (μ : Mem) : Option (Bool × Mem) :=
  gu (ib a1 24) <|
  if (μ.1 (t + 15) (Int32.toNatClampNeg a1)) = 0 then
    some (false, μ)
  else
    D_X0_takeBack_16 fu t fu a1 0 μ
set_option maxRecDepth 20000 in
theorem T_X0_takeBack_0 (G : GX) (fu : Nat) (t : Nat) (hG : gt G = tbl) (ht : IsX0 t) : ∀ (a1 : Int32) (μ : Mem) (r : (Bool × Mem)) , D_X0_takeBack_0 fu t a1 μ = some r → V G mX0_takeBack 0 [some (.ref t), some (.int a1), none, none, none] [] μ (.inl (some (.int (b2i r.1)))) (r.2) := by
  intro a1 μ r h
  unfold D_X0_takeBack_0 at h
  refine V_aload_n dX0_takeBack_0 rfl ?_
  refine V_getR (kf := 1) k_X0 (by decide) lk_RX0_21 rfl dX0_takeBack_1 (tq_X0_0 hG ht) rfl ?_
  refine V_getR (kf := 0) k_X1 (by decide) lk_RX0_124 rfl dX0_takeBack_4 (tq_X0_14 hG ht) rfl ?_
  refine V_iload_n dX0_takeBack_7 rfl ?_
  obtain ⟨g1, h⟩ := gu_o h
  refine V_baload dX0_takeBack_8 (tq_X0_15 hG ht) (ib_in g1) ?_
  by_cases c9 : (μ.1 (t + 15) (Int32.toNatClampNeg a1)) = 0
  · rw [if_pos c9] at h
    refine V_ifne_f (tgt := 14) dX0_takeBack_9 (by decide) c9 ?_
    refine V_iconst (v := 0) dX0_takeBack_12 rfl ?_
    cases h
    exact V_zret rfl (by decide) dX0_takeBack_13
  · rw [if_neg c9] at h
    refine V_ifne_t (tgt := 14) dX0_takeBack_9 (by decide) c9 ?_
    refine V_iconst (v := 0) dX0_takeBack_14 rfl ?_
    refine V_istore_n (lv2 := [some (.ref t), some (.int a1), some (.int 0), none, none]) dX0_takeBack_15 (by decide) rfl ?_
    exact V_wk [true, true, true, false, false] rfl (T_X0_takeBack_16 G fu t hG ht fu _ _ _ _ h)
theorem VM_X0_takeBack (G : GX) (fu : Nat) (t : Nat) (hG : gt G = tbl) (ht : IsX0 t) (a1 : Int32) (μ : Mem) (r : (Bool × Mem)) (h : D_X0_takeBack_0 fu t a1 μ = some r) : VM G mX0_takeBack [.ref t, .int a1] μ (.inl (some (.int (b2i r.1)))) (r.2) := V_entry ok_mX0_takeBack rfl rfl (Nat.le_of_ble_eq_true rfl) (T_X0_takeBack_0 G fu t hG ht a1 μ r h)
def D_X0_note_0 (fu : Nat) (t : Nat) (a2 : Int32) (μ : Mem) : Option (Bool × Mem) :=
  (D_X2_read_0 μ a2 1).bind fun x1 =>
  (D_X2_read_0 μ a2 2).bind fun x3 =>
  (D_X2_read_0 μ a2 3).bind fun x5 =>
  (D_X2_read_0 μ a2 4).bind fun x7 =>
  (D_X2_read_0 μ a2 5).bind fun x9 =>
  (D_X2_read_0 μ a2 0).bind fun x11 =>
  if x11 = 0 then
    (D_X5_put_0 fu (t + 1) x1 x3 x5 x7 x9 μ).bind fun x13 =>
    some (x13.1, x13.2)
  else
  if x11 = 1 then
    (D_X5_putSigner_0 fu (t + 1) x1 x3 x5 μ).bind fun x15 =>
    some (x15.1, x15.2)
  else
  if x11 = 2 then
    (D_X5_putLack_0 (t + 1) x1 μ).bind fun x17 =>
    some (x17.1, x17.2)
  else
  if x11 = 3 then
    (D_X0_setRules_0 t x1 x3 x5 μ).bind fun x19 =>
    some (true, x19)
  else
  if x11 = 4 then
    (D_X1_put_0 fu (t + 14) x1 x3 x5 x7 x9 μ).bind fun x21 =>
    some (x21.1, x21.2)
  else
  if x11 = 5 then
    (D_X1_addLoss_0 (t + 14) x1 x3 μ).bind fun x23 =>
    some (x23.1, x23.2)
  else
  if x11 = 6 then
    (D_X0_putStanding_0 t x1 1 x3 μ).bind fun x25 =>
    some (x25.1, x25.2)
  else
  if x11 = 7 then
    (D_X0_putStanding_0 t x1 2 0 μ).bind fun x27 =>
    some (x27.1, x27.2)
  else
    (D_X0_takeBack_0 fu t x1 μ).bind fun x29 =>
    some (x29.1, x29.2)
set_option maxRecDepth 20000 in
theorem T_X0_note_0 (G : GX) (fu : Nat) (t : Nat) (hG : gt G = tbl) (ht : IsX0 t) : ∀ (a2 : Int32) (μ : Mem) (r : (Bool × Mem)) , D_X0_note_0 fu t a2 μ = some r → V G mX0_note 0 [some (.ref t), some (.ref 1), some (.int a2), none, none, none, none, none] [] μ (.inl (some (.int (b2i r.1)))) (r.2) := by
  intro a2 μ r h
  unfold D_X0_note_0 at h
  refine V_aload_n dX0_note_0 rfl ?_
  refine V_iload_n dX0_note_1 rfl ?_
  refine V_iconst (v := 1) dX0_note_2 rfl ?_
  obtain ⟨x1, y2, h⟩ := bi_o h
  refine V_callV (as := [.int a2, .int 1]) (q := 1) (rest := []) dX0_note_3 ov_mX2_read lk_RX0_62 (by decide) (by decide) rfl rfl (Nat.le_of_ble_eq_true rfl) (tq_1 hG) rfl (VM_X2_read G μ hG a2 1 _ y2) ?_
  refine V_istore_n (lv2 := [some (.ref t), some (.ref 1), some (.int a2), some (.int x1), none, none, none, none]) dX0_note_6 (by decide) rfl ?_
  refine V_aload_n dX0_note_7 rfl ?_
  refine V_iload_n dX0_note_8 rfl ?_
  refine V_iconst (v := 2) dX0_note_9 rfl ?_
  obtain ⟨x3, y4, h⟩ := bi_o h
  refine V_callV (as := [.int a2, .int 2]) (q := 1) (rest := []) dX0_note_10 ov_mX2_read lk_RX0_62 (by decide) (by decide) rfl rfl (Nat.le_of_ble_eq_true rfl) (tq_1 hG) rfl (VM_X2_read G μ hG a2 2 _ y4) ?_
  refine V_istore (lv2 := [some (.ref t), some (.ref 1), some (.int a2), some (.int x1), some (.int x3), none, none, none]) dX0_note_13 (by decide) rfl ?_
  refine V_aload_n dX0_note_15 rfl ?_
  refine V_iload_n dX0_note_16 rfl ?_
  refine V_iconst (v := 3) dX0_note_17 rfl ?_
  obtain ⟨x5, y6, h⟩ := bi_o h
  refine V_callV (as := [.int a2, .int 3]) (q := 1) (rest := []) dX0_note_18 ov_mX2_read lk_RX0_62 (by decide) (by decide) rfl rfl (Nat.le_of_ble_eq_true rfl) (tq_1 hG) rfl (VM_X2_read G μ hG a2 3 _ y6) ?_
  refine V_istore (lv2 := [some (.ref t), some (.ref 1), some (.int a2), some (.int x1), some (.int x3), some (.int x5), none, none]) dX0_note_21 (by decide) rfl ?_
  refine V_aload_n dX0_note_23 rfl ?_
  refine V_iload_n dX0_note_24 rfl ?_
  refine V_iconst (v := 4) dX0_note_25 rfl ?_
  obtain ⟨x7, y8, h⟩ := bi_o h
  refine V_callV (as := [.int a2, .int 4]) (q := 1) (rest := []) dX0_note_26 ov_mX2_read lk_RX0_62 (by decide) (by decide) rfl rfl (Nat.le_of_ble_eq_true rfl) (tq_1 hG) rfl (VM_X2_read G μ hG a2 4 _ y8) ?_
  refine V_istore (lv2 := [some (.ref t), some (.ref 1), some (.int a2), some (.int x1), some (.int x3), some (.int x5), some (.int x7), none]) dX0_note_29 (by decide) rfl ?_
  refine V_aload_n dX0_note_31 rfl ?_
  refine V_iload_n dX0_note_32 rfl ?_
  refine V_iconst (v := 5) dX0_note_33 rfl ?_
  obtain ⟨x9, y10, h⟩ := bi_o h
  refine V_callV (as := [.int a2, .int 5]) (q := 1) (rest := []) dX0_note_34 ov_mX2_read lk_RX0_62 (by decide) (by decide) rfl rfl (Nat.le_of_ble_eq_true rfl) (tq_1 hG) rfl (VM_X2_read G μ hG a2 5 _ y10) ?_
  refine V_istore (lv2 := [some (.ref t), some (.ref 1), some (.int a2), some (.int x1), some (.int x3), some (.int x5), some (.int x7), some (.int x9)]) dX0_note_37 (by decide) rfl ?_
  refine V_aload_n dX0_note_39 rfl ?_
  refine V_iload_n dX0_note_40 rfl ?_
  refine V_iconst (v := 0) dX0_note_41 rfl ?_
  obtain ⟨x11, y12, h⟩ := bi_o h
  refine V_callV (as := [.int a2, .int 0]) (q := 1) (rest := []) dX0_note_42 ov_mX2_read lk_RX0_62 (by decide) (by decide) rfl rfl (Nat.le_of_ble_eq_true rfl) (tq_1 hG) rfl (VM_X2_read G μ hG a2 0 _ y12) ?_
  by_cases c45_0 : x11 = 0
  · rw [if_pos c45_0] at h
    have qc45_0 : (x11 : Int32).toInt = 0 := by rw [c45_0]; decide
    refine V_tabIn (tgt := 92) dX0_note_45 (by rw [qc45_0]; decide) (by rw [qc45_0]; decide) (by rw [qc45_0]; rfl) (by decide) ?_
    refine V_aload_n dX0_note_92 rfl ?_
    refine V_getR (kf := 0) k_X0 (by decide) lk_RX0_12 rfl dX0_note_93 (tq_X0_0 hG ht) rfl ?_
    refine V_iload_n dX0_note_96 rfl ?_
    refine V_iload dX0_note_97 rfl ?_
    refine V_iload dX0_note_99 rfl ?_
    refine V_iload dX0_note_101 rfl ?_
    refine V_iload dX0_note_103 rfl ?_
    obtain ⟨x13, y14, h⟩ := bi_o h
    refine V_callV (as := [.int x1, .int x3, .int x5, .int x7, .int x9]) (q := (t + 1)) (rest := []) dX0_note_105 ov_mX5_put lk_RX0_101 (by decide) (by decide) rfl rfl (Nat.le_of_ble_eq_true rfl) (tq_X0_1 hG ht) rfl (VM_X5_put G fu (t + 1) hG (is_X0_1 ht) x1 x3 x5 x7 x9 μ _ y14) ?_
    cases h
    exact V_zret rfl (b2i_nar _) dX0_note_108
  · rw [if_neg c45_0] at h
    by_cases c45_1 : x11 = 1
    · rw [if_pos c45_1] at h
      have qc45_1 : (x11 : Int32).toInt = 1 := by rw [c45_1]; decide
      refine V_tabIn (tgt := 109) dX0_note_45 (by rw [qc45_1]; decide) (by rw [qc45_1]; decide) (by rw [qc45_1]; rfl) (by decide) ?_
      refine V_aload_n dX0_note_109 rfl ?_
      refine V_getR (kf := 0) k_X0 (by decide) lk_RX0_12 rfl dX0_note_110 (tq_X0_0 hG ht) rfl ?_
      refine V_iload_n dX0_note_113 rfl ?_
      refine V_iload dX0_note_114 rfl ?_
      refine V_iload dX0_note_116 rfl ?_
      obtain ⟨x15, y16, h⟩ := bi_o h
      refine V_callV (as := [.int x1, .int x3, .int x5]) (q := (t + 1)) (rest := []) dX0_note_118 ov_mX5_putSigner lk_RX0_105 (by decide) (by decide) rfl rfl (Nat.le_of_ble_eq_true rfl) (tq_X0_1 hG ht) rfl (VM_X5_putSigner G fu (t + 1) hG (is_X0_1 ht) x1 x3 x5 μ _ y16) ?_
      cases h
      exact V_zret rfl (b2i_nar _) dX0_note_121
    · rw [if_neg c45_1] at h
      by_cases c45_2 : x11 = 2
      · rw [if_pos c45_2] at h
        have qc45_2 : (x11 : Int32).toInt = 2 := by rw [c45_2]; decide
        refine V_tabIn (tgt := 122) dX0_note_45 (by rw [qc45_2]; decide) (by rw [qc45_2]; decide) (by rw [qc45_2]; rfl) (by decide) ?_
        refine V_aload_n dX0_note_122 rfl ?_
        refine V_getR (kf := 0) k_X0 (by decide) lk_RX0_12 rfl dX0_note_123 (tq_X0_0 hG ht) rfl ?_
        refine V_iload_n dX0_note_126 rfl ?_
        obtain ⟨x17, y18, h⟩ := bi_o h
        refine V_callV (as := [.int x1]) (q := (t + 1)) (rest := []) dX0_note_127 ov_mX5_putLack lk_RX0_109 (by decide) (by decide) rfl rfl (Nat.le_of_ble_eq_true rfl) (tq_X0_1 hG ht) rfl (VM_X5_putLack G (t + 1) hG (is_X0_1 ht) x1 μ _ y18) ?_
        cases h
        exact V_zret rfl (b2i_nar _) dX0_note_130
      · rw [if_neg c45_2] at h
        by_cases c45_3 : x11 = 3
        · rw [if_pos c45_3] at h
          have qc45_3 : (x11 : Int32).toInt = 3 := by rw [c45_3]; decide
          refine V_tabIn (tgt := 131) dX0_note_45 (by rw [qc45_3]; decide) (by rw [qc45_3]; decide) (by rw [qc45_3]; rfl) (by decide) ?_
          refine V_aload_n dX0_note_131 rfl ?_
          refine V_iload_n dX0_note_132 rfl ?_
          refine V_iload dX0_note_133 rfl ?_
          refine V_iload dX0_note_135 rfl ?_
          obtain ⟨x19, y20, h⟩ := bi_o h
          refine V_callV (as := [.int x1, .int x3, .int x5]) (q := t) (rest := []) dX0_note_137 ov_mX0_setRules lk_RX0_42 (by decide) (by decide) rfl rfl (Nat.le_of_ble_eq_true rfl) (tq_X0_0 hG ht) rfl (VM_X0_setRules G t hG ht x1 x3 x5 μ _ y20) ?_
          refine V_iconst (v := 1) dX0_note_140 rfl ?_
          cases h
          exact V_zret rfl (by decide) dX0_note_141
        · rw [if_neg c45_3] at h
          by_cases c45_4 : x11 = 4
          · rw [if_pos c45_4] at h
            have qc45_4 : (x11 : Int32).toInt = 4 := by rw [c45_4]; decide
            refine V_tabIn (tgt := 142) dX0_note_45 (by rw [qc45_4]; decide) (by rw [qc45_4]; decide) (by rw [qc45_4]; rfl) (by decide) ?_
            refine V_aload_n dX0_note_142 rfl ?_
            refine V_getR (kf := 1) k_X0 (by decide) lk_RX0_21 rfl dX0_note_143 (tq_X0_0 hG ht) rfl ?_
            refine V_iload_n dX0_note_146 rfl ?_
            refine V_iload dX0_note_147 rfl ?_
            refine V_iload dX0_note_149 rfl ?_
            refine V_iload dX0_note_151 rfl ?_
            refine V_iload dX0_note_153 rfl ?_
            obtain ⟨x21, y22, h⟩ := bi_o h
            refine V_callV (as := [.int x1, .int x3, .int x5, .int x7, .int x9]) (q := (t + 14)) (rest := []) dX0_note_155 ov_mX1_put lk_RX0_113 (by decide) (by decide) rfl rfl (Nat.le_of_ble_eq_true rfl) (tq_X0_14 hG ht) rfl (VM_X1_put G fu (t + 14) hG (is_X0_14 ht) x1 x3 x5 x7 x9 μ _ y22) ?_
            cases h
            exact V_zret rfl (b2i_nar _) dX0_note_158
          · rw [if_neg c45_4] at h
            by_cases c45_5 : x11 = 5
            · rw [if_pos c45_5] at h
              have qc45_5 : (x11 : Int32).toInt = 5 := by rw [c45_5]; decide
              refine V_tabIn (tgt := 159) dX0_note_45 (by rw [qc45_5]; decide) (by rw [qc45_5]; decide) (by rw [qc45_5]; rfl) (by decide) ?_
              refine V_aload_n dX0_note_159 rfl ?_
              refine V_getR (kf := 1) k_X0 (by decide) lk_RX0_21 rfl dX0_note_160 (tq_X0_0 hG ht) rfl ?_
              refine V_iload_n dX0_note_163 rfl ?_
              refine V_iload dX0_note_164 rfl ?_
              obtain ⟨x23, y24, h⟩ := bi_o h
              refine V_callV (as := [.int x1, .int x3]) (q := (t + 14)) (rest := []) dX0_note_166 ov_mX1_addLoss lk_RX0_114 (by decide) (by decide) rfl rfl (Nat.le_of_ble_eq_true rfl) (tq_X0_14 hG ht) rfl (VM_X1_addLoss G (t + 14) hG (is_X0_14 ht) x1 x3 μ _ y24) ?_
              cases h
              exact V_zret rfl (b2i_nar _) dX0_note_169
            · rw [if_neg c45_5] at h
              by_cases c45_6 : x11 = 6
              · rw [if_pos c45_6] at h
                have qc45_6 : (x11 : Int32).toInt = 6 := by rw [c45_6]; decide
                refine V_tabIn (tgt := 170) dX0_note_45 (by rw [qc45_6]; decide) (by rw [qc45_6]; decide) (by rw [qc45_6]; rfl) (by decide) ?_
                refine V_aload_n dX0_note_170 rfl ?_
                refine V_iload_n dX0_note_171 rfl ?_
                refine V_iconst (v := 1) dX0_note_172 rfl ?_
                refine V_iload dX0_note_173 rfl ?_
                obtain ⟨x25, y26, h⟩ := bi_o h
                refine V_callV (as := [.int x1, .int 1, .int x3]) (q := t) (rest := []) dX0_note_175 ov_mX0_putStanding lk_RX0_118 (by decide) (by decide) rfl rfl (Nat.le_of_ble_eq_true rfl) (tq_X0_0 hG ht) rfl (VM_X0_putStanding G t hG ht x1 1 x3 μ _ y26) ?_
                cases h
                exact V_zret rfl (b2i_nar _) dX0_note_178
              · rw [if_neg c45_6] at h
                by_cases c45_7 : x11 = 7
                · rw [if_pos c45_7] at h
                  have qc45_7 : (x11 : Int32).toInt = 7 := by rw [c45_7]; decide
                  refine V_tabIn (tgt := 179) dX0_note_45 (by rw [qc45_7]; decide) (by rw [qc45_7]; decide) (by rw [qc45_7]; rfl) (by decide) ?_
                  refine V_aload_n dX0_note_179 rfl ?_
                  refine V_iload_n dX0_note_180 rfl ?_
                  refine V_iconst (v := 2) dX0_note_181 rfl ?_
                  refine V_iconst (v := 0) dX0_note_182 rfl ?_
                  obtain ⟨x27, y28, h⟩ := bi_o h
                  refine V_callV (as := [.int x1, .int 2, .int 0]) (q := t) (rest := []) dX0_note_183 ov_mX0_putStanding lk_RX0_118 (by decide) (by decide) rfl rfl (Nat.le_of_ble_eq_true rfl) (tq_X0_0 hG ht) rfl (VM_X0_putStanding G t hG ht x1 2 0 μ _ y28) ?_
                  cases h
                  exact V_zret rfl (b2i_nar _) dX0_note_186
                · rw [if_neg c45_7] at h
                  refine V_tabOut (tgt := 187) dX0_note_45 (tab_out 8 7 (by decide) (fun j hj => ?_)) (by decide) ?_
                  · match j, hj with
                    | 0, _ => exact fun z => c45_0 (Int32.toInt_inj.mp (by rw [z]; decide))
                    | 1, _ => exact fun z => c45_1 (Int32.toInt_inj.mp (by rw [z]; decide))
                    | 2, _ => exact fun z => c45_2 (Int32.toInt_inj.mp (by rw [z]; decide))
                    | 3, _ => exact fun z => c45_3 (Int32.toInt_inj.mp (by rw [z]; decide))
                    | 4, _ => exact fun z => c45_4 (Int32.toInt_inj.mp (by rw [z]; decide))
                    | 5, _ => exact fun z => c45_5 (Int32.toInt_inj.mp (by rw [z]; decide))
                    | 6, _ => exact fun z => c45_6 (Int32.toInt_inj.mp (by rw [z]; decide))
                    | 7, _ => exact fun z => c45_7 (Int32.toInt_inj.mp (by rw [z]; decide))
                    | j + 8, hj => exact absurd hj (by omega)
                  refine V_aload_n dX0_note_187 rfl ?_
                  refine V_iload_n dX0_note_188 rfl ?_
                  obtain ⟨x29, y30, h⟩ := bi_o h
                  refine V_callV (as := [.int x1]) (q := t) (rest := []) dX0_note_189 ov_mX0_takeBack lk_RX0_121 (by decide) (by decide) rfl rfl (Nat.le_of_ble_eq_true rfl) (tq_X0_0 hG ht) rfl (VM_X0_takeBack G fu t hG ht x1 μ _ y30) ?_
                  cases h
                  exact V_zret rfl (b2i_nar _) dX0_note_192
theorem VM_X0_note (G : GX) (fu : Nat) (t : Nat) (hG : gt G = tbl) (ht : IsX0 t) (a2 : Int32) (μ : Mem) (r : (Bool × Mem)) (h : D_X0_note_0 fu t a2 μ = some r) : VM G mX0_note [.ref t, .ref 1, .int a2] μ (.inl (some (.int (b2i r.1)))) (r.2) := V_entry ok_mX0_note rfl rfl (Nat.le_of_ble_eq_true rfl) (T_X0_note_0 G fu t hG ht a2 μ r h)
def D_X0_amountToSpread_40 (μ : Mem) (t : Nat) (v2 : Int32) : Option Int64 :=
  (D_X2_read_0 μ v2 1).bind fun x3 =>
  gu (ib x3 24) <|
  some (μ.2.1 (t + 19) (Int32.toNatClampNeg x3))
set_option maxRecDepth 20000 in
theorem T_X0_amountToSpread_40 (G : GX) (μ : Mem) (t : Nat) (hG : gt G = tbl) (ht : IsX0 t) : ∀ (v2 : Int32) (r : Int64) , D_X0_amountToSpread_40 μ t v2 = some r → V G mX0_amountToSpread 40 [some (.ref t), some (.ref 1), some (.int v2)] [] μ (.inl (some (.long r))) (μ) := by
  intro v2 r h
  unfold D_X0_amountToSpread_40 at h
  refine V_aload_n dX0_amountToSpread_40 rfl ?_
  refine V_getR (kf := 1) k_X0 (by decide) lk_RX0_21 rfl dX0_amountToSpread_41 (tq_X0_0 hG ht) rfl ?_
  refine V_getR (kf := 4) k_X1 (by decide) lk_RX0_97 rfl dX0_amountToSpread_44 (tq_X0_14 hG ht) rfl ?_
  refine V_aload_n dX0_amountToSpread_47 rfl ?_
  refine V_iload_n dX0_amountToSpread_48 rfl ?_
  refine V_iconst (v := 1) dX0_amountToSpread_49 rfl ?_
  obtain ⟨x3, y4, h⟩ := bi_o h
  refine V_callV (as := [.int v2, .int 1]) (q := 1) (rest := [.ref (t + 19)]) dX0_amountToSpread_50 ov_mX2_read lk_RX0_62 (by decide) (by decide) rfl rfl (Nat.le_of_ble_eq_true rfl) (tq_1 hG) rfl (VM_X2_read G μ hG v2 1 _ y4) ?_
  obtain ⟨g5, h⟩ := gu_o h
  refine V_laload dX0_amountToSpread_53 (tq_X0_19 hG ht) (ib_in g5) ?_
  cases h
  exact V_lret rfl dX0_amountToSpread_54
def D_X0_amountToSpread_0 (μ : Mem) (t : Nat) (a2 : Int32) : Option Int64 :=
  (D_X2_read_0 μ a2 0).bind fun x1 =>
  if x1 = 4 then
    D_X0_amountToSpread_40 μ t a2
  else
  if x1 = 5 then
    (D_X2_read_0 μ a2 2).bind fun x6 =>
    some ((x6 : Int32).toInt64)
  else
  if x1 = 6 then
    some 0
  else
  if x1 = 7 then
    some 0
  else
  if x1 = 8 then
    D_X0_amountToSpread_40 μ t a2
  else
    some 0
set_option maxRecDepth 20000 in
theorem T_X0_amountToSpread_0 (G : GX) (μ : Mem) (t : Nat) (hG : gt G = tbl) (ht : IsX0 t) : ∀ (a2 : Int32) (r : Int64) , D_X0_amountToSpread_0 μ t a2 = some r → V G mX0_amountToSpread 0 [some (.ref t), some (.ref 1), some (.int a2)] [] μ (.inl (some (.long r))) (μ) := by
  intro a2 r h
  unfold D_X0_amountToSpread_0 at h
  refine V_aload_n dX0_amountToSpread_0 rfl ?_
  refine V_iload_n dX0_amountToSpread_1 rfl ?_
  refine V_iconst (v := 0) dX0_amountToSpread_2 rfl ?_
  obtain ⟨x1, y2, h⟩ := bi_o h
  refine V_callV (as := [.int a2, .int 0]) (q := 1) (rest := []) dX0_amountToSpread_3 ov_mX2_read lk_RX0_62 (by decide) (by decide) rfl rfl (Nat.le_of_ble_eq_true rfl) (tq_1 hG) rfl (VM_X2_read G μ hG a2 0 _ y2) ?_
  by_cases c6_0 : x1 = 4
  · rw [if_pos c6_0] at h
    have qc6_0 : (x1 : Int32).toInt = 4 := by rw [c6_0]; decide
    refine V_tabIn (tgt := 40) dX0_amountToSpread_6 (by rw [qc6_0]; decide) (by rw [qc6_0]; decide) (by rw [qc6_0]; rfl) (by decide) ?_
    exact V_wk [true, true, true] rfl (T_X0_amountToSpread_40 G μ t hG ht _ _ h)
  · rw [if_neg c6_0] at h
    by_cases c6_1 : x1 = 5
    · rw [if_pos c6_1] at h
      have qc6_1 : (x1 : Int32).toInt = 5 := by rw [c6_1]; decide
      refine V_tabIn (tgt := 55) dX0_amountToSpread_6 (by rw [qc6_1]; decide) (by rw [qc6_1]; decide) (by rw [qc6_1]; rfl) (by decide) ?_
      refine V_aload_n dX0_amountToSpread_55 rfl ?_
      refine V_iload_n dX0_amountToSpread_56 rfl ?_
      refine V_iconst (v := 2) dX0_amountToSpread_57 rfl ?_
      obtain ⟨x6, y7, h⟩ := bi_o h
      refine V_callV (as := [.int a2, .int 2]) (q := 1) (rest := []) dX0_amountToSpread_58 ov_mX2_read lk_RX0_62 (by decide) (by decide) rfl rfl (Nat.le_of_ble_eq_true rfl) (tq_1 hG) rfl (VM_X2_read G μ hG a2 2 _ y7) ?_
      refine V_i2l dX0_amountToSpread_61 ?_
      cases h
      exact V_lret rfl dX0_amountToSpread_62
    · rw [if_neg c6_1] at h
      by_cases c6_2 : x1 = 6
      · rw [if_pos c6_2] at h
        have qc6_2 : (x1 : Int32).toInt = 6 := by rw [c6_2]; decide
        refine V_tabIn (tgt := 63) dX0_amountToSpread_6 (by rw [qc6_2]; decide) (by rw [qc6_2]; decide) (by rw [qc6_2]; rfl) (by decide) ?_
        refine V_lconst (v := 0) dX0_amountToSpread_63 rfl ?_
        cases h
        exact V_lret rfl dX0_amountToSpread_64
      · rw [if_neg c6_2] at h
        by_cases c6_3 : x1 = 7
        · rw [if_pos c6_3] at h
          have qc6_3 : (x1 : Int32).toInt = 7 := by rw [c6_3]; decide
          refine V_tabIn (tgt := 63) dX0_amountToSpread_6 (by rw [qc6_3]; decide) (by rw [qc6_3]; decide) (by rw [qc6_3]; rfl) (by decide) ?_
          refine V_lconst (v := 0) dX0_amountToSpread_63 rfl ?_
          cases h
          exact V_lret rfl dX0_amountToSpread_64
        · rw [if_neg c6_3] at h
          by_cases c6_4 : x1 = 8
          · rw [if_pos c6_4] at h
            have qc6_4 : (x1 : Int32).toInt = 8 := by rw [c6_4]; decide
            refine V_tabIn (tgt := 40) dX0_amountToSpread_6 (by rw [qc6_4]; decide) (by rw [qc6_4]; decide) (by rw [qc6_4]; rfl) (by decide) ?_
            exact V_wk [true, true, true] rfl (T_X0_amountToSpread_40 G μ t hG ht _ _ h)
          · rw [if_neg c6_4] at h
            refine V_tabOut (tgt := 63) dX0_amountToSpread_6 (tab_out 5 8 (by decide) (fun j hj => ?_)) (by decide) ?_
            · match j, hj with
              | 0, _ => exact fun z => c6_0 (Int32.toInt_inj.mp (by rw [z]; decide))
              | 1, _ => exact fun z => c6_1 (Int32.toInt_inj.mp (by rw [z]; decide))
              | 2, _ => exact fun z => c6_2 (Int32.toInt_inj.mp (by rw [z]; decide))
              | 3, _ => exact fun z => c6_3 (Int32.toInt_inj.mp (by rw [z]; decide))
              | 4, _ => exact fun z => c6_4 (Int32.toInt_inj.mp (by rw [z]; decide))
              | j + 5, hj => exact absurd hj (by omega)
            refine V_lconst (v := 0) dX0_amountToSpread_63 rfl ?_
            cases h
            exact V_lret rfl dX0_amountToSpread_64
theorem VM_X0_amountToSpread (G : GX) (μ : Mem) (t : Nat) (hG : gt G = tbl) (ht : IsX0 t) (a2 : Int32) (r : Int64) (h : D_X0_amountToSpread_0 μ t a2 = some r) : VM G mX0_amountToSpread [.ref t, .ref 1, .int a2] μ (.inl (some (.long r))) (μ) := V_entry ok_mX0_amountToSpread rfl rfl (Nat.le_of_ble_eq_true rfl) (T_X0_amountToSpread_0 G μ t hG ht a2 r h)
def D_X4_weighAlike_12 (fu : Nat) (r1 : Nat) : Nat → Int32 → Int32 → Mem → Option Mem
  | 0, _, _, _ => none
  | n + 1, v3, v4, μ =>
    if (12 : Int32) ≤ v4 then
      some μ
    else
      gu (ib v4 12) <|
      vl (wL μ 76 (Int32.toNatClampNeg v4) (((v3 >>> (v4 &&& 31)) &&& 1 : Int32).toInt64)) fun m2 =>
      (D_X4_weighAlike_12 fu r1 n) v3 (v4 + 1) m2
set_option maxRecDepth 20000 in
theorem T_X4_weighAlike_12 (G : GX) (fu : Nat) (r1 : Nat) (hG : gt G = tbl) (hr1 : IsX5 r1) : ∀ (n : Nat) (v3 : Int32) (v4 : Int32) (μ : Mem) (r : Mem) , D_X4_weighAlike_12 fu r1 n v3 v4 μ = some r → V G mX4_weighAlike 12 [some (.ref 61), none, none, some (.int v3), some (.int v4)] [] μ (.inl none) (r) := by
  intro n
  induction n with
  | zero =>
    intro v3 v4 μ r h
    exact nomatch (show (none : Option Mem) = some r from h)
  | succ n ih =>
    intro v3 v4 μ r h
    rw [D_X4_weighAlike_12] at h
    refine V_iload dX4_weighAlike_12 rfl ?_
    refine V_bipush (v := 12) dX4_weighAlike_14 rfl ?_
    by_cases c16 : (12 : Int32) ≤ v4
    · rw [if_pos c16] at h
      refine V_icmpge_t (tgt := 39) dX4_weighAlike_16 (by decide) c16 ?_
      cases h
      exact V_vret rfl dX4_weighAlike_39
    · rw [if_neg c16] at h
      refine V_icmpge_f (tgt := 39) dX4_weighAlike_16 (by decide) c16 ?_
      refine V_aload_n dX4_weighAlike_19 rfl ?_
      refine V_getR (kf := 2) k_X4 (by decide) lk_RX4_21 rfl dX4_weighAlike_20 (tq_61 hG) rfl ?_
      refine V_iload dX4_weighAlike_23 rfl ?_
      refine V_iload_n dX4_weighAlike_25 rfl ?_
      refine V_iload dX4_weighAlike_26 rfl ?_
      refine V_ishr dX4_weighAlike_28 ?_
      refine V_iconst (v := 1) dX4_weighAlike_29 rfl ?_
      refine V_iand dX4_weighAlike_30 ?_
      refine V_i2l dX4_weighAlike_31 ?_
      obtain ⟨g1, h⟩ := gu_o h
      obtain ⟨m2, e3, h⟩ := vl_o h
      refine V_lastore (μ2 := m2) dX4_weighAlike_32 (tq_76 hG) (ib_in g1) e3.symm ?_
      refine V_iinc (v := v4 + 1) (lv2 := [some (.ref 61), none, none, some (.int v3), some (.int (v4 + 1))]) dX4_weighAlike_33 rfl rfl (by decide) rfl ?_
      refine V_goto (tgt := 12) dX4_weighAlike_36 (by decide) ?_
      exact V_wk [true, false, false, true, true] rfl (ih _ _ _ _ h)
def D_X4_weighAlike_0 (fu : Nat) (r1 : Nat) (a2 : Int32) (μ : Mem) : Option Mem :=
  D_X4_weighAlike_12 fu r1 fu (a2 &&& ((μ.1 r1 12) ^^^ (-1))) 0 μ
set_option maxRecDepth 20000 in
theorem T_X4_weighAlike_0 (G : GX) (fu : Nat) (r1 : Nat) (hG : gt G = tbl) (hr1 : IsX5 r1) : ∀ (a2 : Int32) (μ : Mem) (r : Mem) , D_X4_weighAlike_0 fu r1 a2 μ = some r → V G mX4_weighAlike 0 [some (.ref 61), some (.ref r1), some (.int a2), none, none] [] μ (.inl none) (r) := by
  intro a2 μ r h
  unfold D_X4_weighAlike_0 at h
  refine V_iload_n dX4_weighAlike_0 rfl ?_
  refine V_aload_n dX4_weighAlike_1 rfl ?_
  refine V_getI (kf := 12) k_X5 (by decide) lk_RX4_96 rfl dX4_weighAlike_2 (tq_X5_0 hG hr1) rfl ?_
  refine V_iconst (v := (-1)) dX4_weighAlike_5 rfl ?_
  refine V_ixor dX4_weighAlike_6 ?_
  refine V_iand dX4_weighAlike_7 ?_
  refine V_istore_n (lv2 := [some (.ref 61), some (.ref r1), some (.int a2), some (.int (a2 &&& ((μ.1 r1 12) ^^^ (-1)))), none]) dX4_weighAlike_8 (by decide) rfl ?_
  refine V_iconst (v := 0) dX4_weighAlike_9 rfl ?_
  refine V_istore (lv2 := [some (.ref 61), some (.ref r1), some (.int a2), some (.int (a2 &&& ((μ.1 r1 12) ^^^ (-1)))), some (.int 0)]) dX4_weighAlike_10 (by decide) rfl ?_
  exact V_wk [true, false, false, true, true] rfl (T_X4_weighAlike_12 G fu r1 hG hr1 fu _ _ _ _ h)
theorem VM_X4_weighAlike (G : GX) (fu : Nat) (r1 : Nat) (hG : gt G = tbl) (hr1 : IsX5 r1) (a2 : Int32) (μ : Mem) (r : Mem) (h : D_X4_weighAlike_0 fu r1 a2 μ = some r) : VM G mX4_weighAlike [.ref 61, .ref r1, .int a2] μ (.inl none) (r) := V_entry ok_mX4_weighAlike rfl rfl (Nat.le_of_ble_eq_true rfl) (T_X4_weighAlike_0 G fu r1 hG hr1 a2 μ r h)
def D_X3_clear_0 (fu : Nat) (t : Nat) (μ : Mem) : Option Mem :=
  (D_J7_fill_d0a16_0 fu (t + 1) 40 0 μ).bind fun x1 =>
  (D_J7_fill_d0a16_0 fu (t + 2) 40 0 x1).bind fun x3 =>
  (D_J7_fill_d0a16_0 fu (t + 3) 40 0 x3).bind fun x5 =>
  (D_J7_fill_d0a16_0 fu (t + 5) 10 0 x5).bind fun x7 =>
  (D_J7_fill_d0a16_0 fu (t + 6) 7 0 x7).bind fun x9 =>
  some x9
set_option maxRecDepth 20000 in
theorem T_X3_clear_0 (G : GX) (fu : Nat) (t : Nat) (hG : gt G = tbl) (ht : IsX3 t) : ∀ (μ : Mem) (r : Mem) , D_X3_clear_0 fu t μ = some r → V G mX3_clear 0 [some (.ref t)] [] μ (.inl none) (r) := by
  intro μ r h
  unfold D_X3_clear_0 at h
  refine V_aload_n dX3_clear_0 rfl ?_
  refine V_getR (kf := 0) k_X3 (by decide) lk_RX3_9 rfl dX3_clear_1 (tq_X3_0 hG ht) rfl ?_
  refine V_lconst (v := 0) dX3_clear_4 rfl ?_
  obtain ⟨x1, y2, h⟩ := bi_o h
  refine V_callS (as := [.ref (t + 1), .long 0]) (rest := []) dX3_clear_5 os_mJ7_fill_d0a16 rfl lk_RX3_30 (by decide) (by decide) rfl rfl (Nat.le_of_ble_eq_true rfl) (VM_J7_fill_d0a16 G fu (t + 1) 40 (tq_X3_1 hG ht) 0 μ _ y2) ?_
  refine V_aload_n dX3_clear_8 rfl ?_
  refine V_getR (kf := 1) k_X3 (by decide) lk_RX3_15 rfl dX3_clear_9 (tq_X3_0 hG ht) rfl ?_
  refine V_lconst (v := 0) dX3_clear_12 rfl ?_
  obtain ⟨x3, y4, h⟩ := bi_o h
  refine V_callS (as := [.ref (t + 2), .long 0]) (rest := []) dX3_clear_13 os_mJ7_fill_d0a16 rfl lk_RX3_30 (by decide) (by decide) rfl rfl (Nat.le_of_ble_eq_true rfl) (VM_J7_fill_d0a16 G fu (t + 2) 40 (tq_X3_2 hG ht) 0 x1 _ y4) ?_
  refine V_aload_n dX3_clear_16 rfl ?_
  refine V_getR (kf := 2) k_X3 (by decide) lk_RX3_18 rfl dX3_clear_17 (tq_X3_0 hG ht) rfl ?_
  refine V_lconst (v := 0) dX3_clear_20 rfl ?_
  obtain ⟨x5, y6, h⟩ := bi_o h
  refine V_callS (as := [.ref (t + 3), .long 0]) (rest := []) dX3_clear_21 os_mJ7_fill_d0a16 rfl lk_RX3_30 (by decide) (by decide) rfl rfl (Nat.le_of_ble_eq_true rfl) (VM_J7_fill_d0a16 G fu (t + 3) 40 (tq_X3_3 hG ht) 0 x3 _ y6) ?_
  refine V_aload_n dX3_clear_24 rfl ?_
  refine V_getR (kf := 4) k_X3 (by decide) lk_RX3_24 rfl dX3_clear_25 (tq_X3_0 hG ht) rfl ?_
  refine V_lconst (v := 0) dX3_clear_28 rfl ?_
  obtain ⟨x7, y8, h⟩ := bi_o h
  refine V_callS (as := [.ref (t + 5), .long 0]) (rest := []) dX3_clear_29 os_mJ7_fill_d0a16 rfl lk_RX3_30 (by decide) (by decide) rfl rfl (Nat.le_of_ble_eq_true rfl) (VM_J7_fill_d0a16 G fu (t + 5) 10 (tq_X3_5 hG ht) 0 x5 _ y8) ?_
  refine V_aload_n dX3_clear_32 rfl ?_
  refine V_getR (kf := 5) k_X3 (by decide) lk_RX3_27 rfl dX3_clear_33 (tq_X3_0 hG ht) rfl ?_
  refine V_lconst (v := 0) dX3_clear_36 rfl ?_
  obtain ⟨x9, y10, h⟩ := bi_o h
  refine V_callS (as := [.ref (t + 6), .long 0]) (rest := []) dX3_clear_37 os_mJ7_fill_d0a16 rfl lk_RX3_30 (by decide) (by decide) rfl rfl (Nat.le_of_ble_eq_true rfl) (VM_J7_fill_d0a16 G fu (t + 6) 7 (tq_X3_6 hG ht) 0 x7 _ y10) ?_
  cases h
  exact V_vret rfl dX3_clear_40
theorem VM_X3_clear (G : GX) (fu : Nat) (t : Nat) (hG : gt G = tbl) (ht : IsX3 t) (μ : Mem) (r : Mem) (h : D_X3_clear_0 fu t μ = some r) : VM G mX3_clear [.ref t] μ (.inl none) (r) := V_entry ok_mX3_clear rfl rfl (Nat.le_of_ble_eq_true rfl) (T_X3_clear_0 G fu t hG ht μ r h)
def D_X0_holeCanTake_0 (μ : Mem) (t : Nat) (a1 : Int32) (a2 : Int32) (a3 : Int32) : Option Int64 :=
  gu (ib a2 40) <|
  gu (ib ((a1 * 40) + a2) 1000) <|
  vl ((((μ.1 (t + 3) (Int32.toNatClampNeg a2)) - a3 : Int32).toInt64) - (μ.2.1 (t + 22) (Int32.toNatClampNeg ((a1 * 40) + a2))) : Int64) fun x3 =>
  if x3 ≤ (0 : Int64) then
    some 0
  else
    some x3
set_option maxRecDepth 20000 in
theorem T_X0_holeCanTake_0 (G : GX) (μ : Mem) (t : Nat) (hG : gt G = tbl) (ht : IsX0 t) : ∀ (a1 : Int32) (a2 : Int32) (a3 : Int32) (r : Int64) , D_X0_holeCanTake_0 μ t a1 a2 a3 = some r → V G mX0_holeCanTake 0 [some (.ref t), some (.int a1), some (.int a2), some (.int a3), none, none] [] μ (.inl (some (.long r))) (μ) := by
  intro a1 a2 a3 r h
  unfold D_X0_holeCanTake_0 at h
  refine V_aload_n dX0_holeCanTake_0 rfl ?_
  refine V_getR (kf := 0) k_X0 (by decide) lk_RX0_12 rfl dX0_holeCanTake_1 (tq_X0_0 hG ht) rfl ?_
  refine V_getR (kf := 1) k_X5 (by decide) lk_RX0_182 rfl dX0_holeCanTake_4 (tq_X0_1 hG ht) rfl ?_
  refine V_iload_n dX0_holeCanTake_7 rfl ?_
  obtain ⟨g1, h⟩ := gu_o h
  refine V_iaload dX0_holeCanTake_8 (tq_X0_3 hG ht) (ib_in g1) ?_
  refine V_iload_n dX0_holeCanTake_9 rfl ?_
  refine V_isub dX0_holeCanTake_10 ?_
  refine V_i2l dX0_holeCanTake_11 ?_
  refine V_aload_n dX0_holeCanTake_12 rfl ?_
  refine V_getR (kf := 1) k_X0 (by decide) lk_RX0_21 rfl dX0_holeCanTake_13 (tq_X0_0 hG ht) rfl ?_
  refine V_getR (kf := 7) k_X1 (by decide) lk_RX0_152 rfl dX0_holeCanTake_16 (tq_X0_14 hG ht) rfl ?_
  refine V_iload_n dX0_holeCanTake_19 rfl ?_
  refine V_bipush (v := 40) dX0_holeCanTake_20 rfl ?_
  refine V_imul dX0_holeCanTake_22 ?_
  refine V_iload_n dX0_holeCanTake_23 rfl ?_
  refine V_iadd dX0_holeCanTake_24 ?_
  obtain ⟨g2, h⟩ := gu_o h
  refine V_laload dX0_holeCanTake_25 (tq_X0_22 hG ht) (ib_in g2) ?_
  refine V_lsub dX0_holeCanTake_26 ?_
  obtain ⟨x3, e4, h⟩ := vl_o h
  refine V_topl e4 ?_
  refine V_lstore (lv2 := [some (.ref t), some (.int a1), some (.int a2), some (.int a3), some (.long x3), none]) dX0_holeCanTake_27 (by decide) rfl ?_
  refine V_lload dX0_holeCanTake_29 rfl ?_
  refine V_lconst (v := 0) dX0_holeCanTake_31 rfl ?_
  refine V_lcmp dX0_holeCanTake_32 ?_
  by_cases c33 : x3 ≤ (0 : Int64)
  · rw [if_pos c33] at h
    refine V_ifle_t (tgt := 41) dX0_holeCanTake_33 (by decide) ((lc_le x3 0).mpr c33) ?_
    refine V_lconst (v := 0) dX0_holeCanTake_41 rfl ?_
    cases h
    exact V_lret rfl dX0_holeCanTake_42
  · rw [if_neg c33] at h
    refine V_ifle_f (tgt := 41) dX0_holeCanTake_33 (by decide) (fun z => c33 ((lc_le x3 0).mp z)) ?_
    refine V_lload dX0_holeCanTake_36 rfl ?_
    refine V_goto (tgt := 42) dX0_holeCanTake_38 (by decide) ?_
    cases h
    exact V_lret rfl dX0_holeCanTake_42
theorem VM_X0_holeCanTake (G : GX) (μ : Mem) (t : Nat) (hG : gt G = tbl) (ht : IsX0 t) (a1 : Int32) (a2 : Int32) (a3 : Int32) (r : Int64) (h : D_X0_holeCanTake_0 μ t a1 a2 a3 = some r) : VM G mX0_holeCanTake [.ref t, .int a1, .int a2, .int a3] μ (.inl (some (.long r))) (μ) := V_entry ok_mX0_holeCanTake rfl rfl (Nat.le_of_ble_eq_true rfl) (T_X0_holeCanTake_0 G μ t hG ht a1 a2 a3 r h)
def D_X0_canTake_0 (μ : Mem) (t : Nat) (a1 : Int32) (a2 : Int32) : Option Int64 :=
  gu (ib a2 40) <|
  gu (ib ((a1 * 40) + a2) 1000) <|
  vl (((μ.1 (t + 4) (Int32.toNatClampNeg a2) : Int32).toInt64) - (μ.2.1 (t + 21) (Int32.toNatClampNeg ((a1 * 40) + a2))) : Int64) fun x3 =>
  gu (ib a2 40) <|
  gu (ib a2 40) <|
  gu (ib a2 40) <|
  vl ((((μ.1 (t + 4) (Int32.toNatClampNeg a2) : Int32).toInt64) * ((μ.1 (t + 5) (Int32.toNatClampNeg a2) : Int32).toInt64)) - (μ.2.1 (t + 6) (Int32.toNatClampNeg a2)) : Int64) fun x8 =>
  if x8 ≤ x3 then
    some x8
  else
    some x3
set_option maxRecDepth 20000 in
theorem T_X0_canTake_0 (G : GX) (μ : Mem) (t : Nat) (hG : gt G = tbl) (ht : IsX0 t) : ∀ (a1 : Int32) (a2 : Int32) (r : Int64) , D_X0_canTake_0 μ t a1 a2 = some r → V G mX0_canTake 0 [some (.ref t), some (.int a1), some (.int a2), none, none, none, none] [] μ (.inl (some (.long r))) (μ) := by
  intro a1 a2 r h
  unfold D_X0_canTake_0 at h
  refine V_aload_n dX0_canTake_0 rfl ?_
  refine V_getR (kf := 0) k_X0 (by decide) lk_RX0_12 rfl dX0_canTake_1 (tq_X0_0 hG ht) rfl ?_
  refine V_getR (kf := 2) k_X5 (by decide) lk_RX0_176 rfl dX0_canTake_4 (tq_X0_1 hG ht) rfl ?_
  refine V_iload_n dX0_canTake_7 rfl ?_
  obtain ⟨g1, h⟩ := gu_o h
  refine V_iaload dX0_canTake_8 (tq_X0_4 hG ht) (ib_in g1) ?_
  refine V_i2l dX0_canTake_9 ?_
  refine V_aload_n dX0_canTake_10 rfl ?_
  refine V_getR (kf := 1) k_X0 (by decide) lk_RX0_21 rfl dX0_canTake_11 (tq_X0_0 hG ht) rfl ?_
  refine V_getR (kf := 6) k_X1 (by decide) lk_RX0_131 rfl dX0_canTake_14 (tq_X0_14 hG ht) rfl ?_
  refine V_iload_n dX0_canTake_17 rfl ?_
  refine V_bipush (v := 40) dX0_canTake_18 rfl ?_
  refine V_imul dX0_canTake_20 ?_
  refine V_iload_n dX0_canTake_21 rfl ?_
  refine V_iadd dX0_canTake_22 ?_
  obtain ⟨g2, h⟩ := gu_o h
  refine V_laload dX0_canTake_23 (tq_X0_21 hG ht) (ib_in g2) ?_
  refine V_lsub dX0_canTake_24 ?_
  obtain ⟨x3, e4, h⟩ := vl_o h
  refine V_topl e4 ?_
  refine V_lstore_n (lv2 := [some (.ref t), some (.int a1), some (.int a2), some (.long x3), none, none, none]) dX0_canTake_25 (by decide) rfl ?_
  refine V_aload_n dX0_canTake_26 rfl ?_
  refine V_getR (kf := 0) k_X0 (by decide) lk_RX0_12 rfl dX0_canTake_27 (tq_X0_0 hG ht) rfl ?_
  refine V_getR (kf := 2) k_X5 (by decide) lk_RX0_176 rfl dX0_canTake_30 (tq_X0_1 hG ht) rfl ?_
  refine V_iload_n dX0_canTake_33 rfl ?_
  obtain ⟨g5, h⟩ := gu_o h
  refine V_iaload dX0_canTake_34 (tq_X0_4 hG ht) (ib_in g5) ?_
  refine V_i2l dX0_canTake_35 ?_
  refine V_aload_n dX0_canTake_36 rfl ?_
  refine V_getR (kf := 0) k_X0 (by decide) lk_RX0_12 rfl dX0_canTake_37 (tq_X0_0 hG ht) rfl ?_
  refine V_getR (kf := 3) k_X5 (by decide) lk_RX0_179 rfl dX0_canTake_40 (tq_X0_1 hG ht) rfl ?_
  refine V_iload_n dX0_canTake_43 rfl ?_
  obtain ⟨g6, h⟩ := gu_o h
  refine V_iaload dX0_canTake_44 (tq_X0_5 hG ht) (ib_in g6) ?_
  refine V_i2l dX0_canTake_45 ?_
  refine V_lmul dX0_canTake_46 ?_
  refine V_aload_n dX0_canTake_47 rfl ?_
  refine V_getR (kf := 0) k_X0 (by decide) lk_RX0_12 rfl dX0_canTake_48 (tq_X0_0 hG ht) rfl ?_
  refine V_getR (kf := 4) k_X5 (by decide) lk_RX0_134 rfl dX0_canTake_51 (tq_X0_1 hG ht) rfl ?_
  refine V_iload_n dX0_canTake_54 rfl ?_
  obtain ⟨g7, h⟩ := gu_o h
  refine V_laload dX0_canTake_55 (tq_X0_6 hG ht) (ib_in g7) ?_
  refine V_lsub dX0_canTake_56 ?_
  obtain ⟨x8, e9, h⟩ := vl_o h
  refine V_topl e9 ?_
  refine V_lstore (lv2 := [some (.ref t), some (.int a1), some (.int a2), some (.long x3), none, some (.long x8), none]) dX0_canTake_57 (by decide) rfl ?_
  refine V_lload_n dX0_canTake_59 rfl ?_
  refine V_lload dX0_canTake_60 rfl ?_
  refine V_lcmp dX0_canTake_62 ?_
  by_cases c63 : x8 ≤ x3
  · rw [if_pos c63] at h
    refine V_ifge_t (tgt := 70) dX0_canTake_63 (by decide) ((lc_ge x3 x8).mpr c63) ?_
    refine V_lload dX0_canTake_70 rfl ?_
    cases h
    exact V_lret rfl dX0_canTake_72
  · rw [if_neg c63] at h
    refine V_ifge_f (tgt := 70) dX0_canTake_63 (by decide) (fun z => c63 ((lc_ge x3 x8).mp z)) ?_
    refine V_lload_n dX0_canTake_66 rfl ?_
    refine V_goto (tgt := 72) dX0_canTake_67 (by decide) ?_
    cases h
    exact V_lret rfl dX0_canTake_72
theorem VM_X0_canTake (G : GX) (μ : Mem) (t : Nat) (hG : gt G = tbl) (ht : IsX0 t) (a1 : Int32) (a2 : Int32) (r : Int64) (h : D_X0_canTake_0 μ t a1 a2 = some r) : VM G mX0_canTake [.ref t, .int a1, .int a2] μ (.inl (some (.long r))) (μ) := V_entry ok_mX0_canTake rfl rfl (Nat.le_of_ble_eq_true rfl) (T_X0_canTake_0 G μ t hG ht a1 a2 r h)
def D_X3_fill_16 (fu : Nat) (t : Nat) (r1 : Nat) : Nat → Int32 → Int32 → Int64 → Int32 → Int32 → Mem → Option (Int64 × Mem)
  | 0, _, _, _, _, _, _ => none
  | n + 1, v2, v3, v7, v9, v10, μ =>
    gu (ib v3 12) <|
    if (μ.1 (r1 + 13) (Int32.toNatClampNeg v3)) ≤ v10 then
      some (v7, μ)
    else
      if v7 ≤ (0 : Int64) then
        some (v7, μ)
      else
        gu (ib ((v3 * 6) + v10) 72) <|
        vl (μ.1 (r1 + 12) (Int32.toNatClampNeg ((v3 * 6) + v10)) : Int32) fun x3 =>
        (D_X0_holeCanTake_0 μ r1 v2 x3 v9).bind fun x5 =>
        (D_X0_canTake_0 μ r1 v2 x3).bind fun x7 =>
        vl (if x7 < (v7 - (if x5 < v7 then x5 else v7)) then x7 else (v7 - (if x5 < v7 then x5 else v7)) : Int64) fun x9 =>
        gu (ib x3 40) <|
        vl (wL μ (t + 2) (Int32.toNatClampNeg x3) (if x5 < v7 then x5 else v7)) fun m12 =>
        gu (ib x3 40) <|
        vl (wL m12 (t + 1) (Int32.toNatClampNeg x3) x9) fun m15 =>
        gu (ib 1 7) <|
        gu (ib 1 7) <|
        vl (wL m15 (t + 6) (Int32.toNatClampNeg 1) ((m15.2.1 (t + 6) (Int32.toNatClampNeg 1)) + (if x5 < v7 then x5 else v7))) fun m19 =>
        gu (ib x3 40) <|
        gu (ib x3 40) <|
        vl ((m19.1 (r1 + 3) (Int32.toNatClampNeg x3)) + (m19.1 (r1 + 4) (Int32.toNatClampNeg x3)) : Int32) fun x23 =>
        (D_X3_fill_16 fu t r1 n) v2 v3 (v7 - ((if x5 < v7 then x5 else v7) + x9)) x23 (v10 + 1) m19
set_option maxRecDepth 20000 in
theorem T_X3_fill_16 (G : GX) (fu : Nat) (t : Nat) (r1 : Nat) (hG : gt G = tbl) (ht : IsX3 t) (hr1 : IsX0 r1) : ∀ (n : Nat) (v2 : Int32) (v3 : Int32) (v7 : Int64) (v9 : Int32) (v10 : Int32) (μ : Mem) (r : (Int64 × Mem)) , D_X3_fill_16 fu t r1 n v2 v3 v7 v9 v10 μ = some r → V G mX3_fill 16 [some (.ref t), some (.ref r1), some (.int v2), some (.int v3), none, none, some (.ref (r1 + 1)), some (.long v7), none, some (.int v9), some (.int v10), none, none, none, none, none] [] μ (.inl (some (.long r.1))) (r.2) := by
  intro n
  induction n with
  | zero =>
    intro v2 v3 v7 v9 v10 μ r h
    exact nomatch (show (none : Option (Int64 × Mem)) = some r from h)
  | succ n ih =>
    intro v2 v3 v7 v9 v10 μ r h
    rw [D_X3_fill_16] at h
    refine V_iload dX3_fill_16 rfl ?_
    refine V_aload dX3_fill_18 rfl ?_
    refine V_getR (kf := 11) k_X5 (by decide) lk_RX3_42 rfl dX3_fill_20 (tq_X0_1 hG hr1) rfl ?_
    refine V_iload_n dX3_fill_23 rfl ?_
    obtain ⟨g1, h⟩ := gu_o h
    refine V_iaload dX3_fill_24 (tq_X0_13 hG hr1) (ib_in g1) ?_
    by_cases c25 : (μ.1 (r1 + 13) (Int32.toNatClampNeg v3)) ≤ v10
    · rw [if_pos c25] at h
      refine V_icmpge_t (tgt := 147) dX3_fill_25 (by decide) c25 ?_
      refine V_lload dX3_fill_147 rfl ?_
      cases h
      exact V_lret rfl dX3_fill_149
    · rw [if_neg c25] at h
      refine V_icmpge_f (tgt := 147) dX3_fill_25 (by decide) c25 ?_
      refine V_lload dX3_fill_28 rfl ?_
      refine V_lconst (v := 0) dX3_fill_30 rfl ?_
      refine V_lcmp dX3_fill_31 ?_
      by_cases c32 : v7 ≤ (0 : Int64)
      · rw [if_pos c32] at h
        refine V_ifle_t (tgt := 147) dX3_fill_32 (by decide) ((lc_le v7 0).mpr c32) ?_
        refine V_lload dX3_fill_147 rfl ?_
        cases h
        exact V_lret rfl dX3_fill_149
      · rw [if_neg c32] at h
        refine V_ifle_f (tgt := 147) dX3_fill_32 (by decide) (fun z => c32 ((lc_le v7 0).mp z)) ?_
        refine V_aload dX3_fill_35 rfl ?_
        refine V_getR (kf := 10) k_X5 (by decide) lk_RX3_48 rfl dX3_fill_37 (tq_X0_1 hG hr1) rfl ?_
        refine V_iload_n dX3_fill_40 rfl ?_
        refine V_bipush (v := 6) dX3_fill_41 rfl ?_
        refine V_imul dX3_fill_43 ?_
        refine V_iload dX3_fill_44 rfl ?_
        refine V_iadd dX3_fill_46 ?_
        obtain ⟨g2, h⟩ := gu_o h
        refine V_iaload dX3_fill_47 (tq_X0_12 hG hr1) (ib_in g2) ?_
        obtain ⟨x3, e4, h⟩ := vl_o h
        refine V_topi e4 ?_
        refine V_istore (lv2 := [some (.ref t), some (.ref r1), some (.int v2), some (.int v3), none, none, some (.ref (r1 + 1)), some (.long v7), none, some (.int v9), some (.int v10), some (.int x3), none, none, none, none]) dX3_fill_48 (by decide) rfl ?_
        refine V_lload dX3_fill_50 rfl ?_
        refine V_aload_n dX3_fill_52 rfl ?_
        refine V_iload_n dX3_fill_53 rfl ?_
        refine V_iload dX3_fill_54 rfl ?_
        refine V_iload dX3_fill_56 rfl ?_
        obtain ⟨x5, y6, h⟩ := bi_o h
        refine V_callV (as := [.int v2, .int x3, .int v9]) (q := r1) (rest := [.long v7]) dX3_fill_58 ov_mX0_holeCanTake lk_RX3_51 (by decide) (by decide) rfl rfl (Nat.le_of_ble_eq_true rfl) (tq_X0_0 hG hr1) rfl (VM_X0_holeCanTake G μ r1 hG hr1 v2 x3 v9 _ y6) ?_
        refine V_mminL dX3_fill_61 lk_RX3_55 ma_minL_s ma_minL_c in_java_lang_Math (by decide) (Nat.le_of_ble_eq_true rfl) ?_
        refine V_lstore (lv2 := [some (.ref t), some (.ref r1), some (.int v2), some (.int v3), none, none, some (.ref (r1 + 1)), some (.long v7), none, some (.int v9), some (.int v10), some (.int x3), some (.long (if x5 < v7 then x5 else v7)), none, none, none]) dX3_fill_64 (by decide) rfl ?_
        refine V_lload dX3_fill_66 rfl ?_
        refine V_lload dX3_fill_68 rfl ?_
        refine V_lsub dX3_fill_70 ?_
        refine V_aload_n dX3_fill_71 rfl ?_
        refine V_iload_n dX3_fill_72 rfl ?_
        refine V_iload dX3_fill_73 rfl ?_
        obtain ⟨x7, y8, h⟩ := bi_o h
        refine V_callV (as := [.int v2, .int x3]) (q := r1) (rest := [.long (v7 - (if x5 < v7 then x5 else v7))]) dX3_fill_75 ov_mX0_canTake lk_RX3_61 (by decide) (by decide) rfl rfl (Nat.le_of_ble_eq_true rfl) (tq_X0_0 hG hr1) rfl (VM_X0_canTake G μ r1 hG hr1 v2 x3 _ y8) ?_
        refine V_mminL dX3_fill_78 lk_RX3_55 ma_minL_s ma_minL_c in_java_lang_Math (by decide) (Nat.le_of_ble_eq_true rfl) ?_
        obtain ⟨x9, e10, h⟩ := vl_o h
        refine V_topl e10 ?_
        refine V_lstore (lv2 := [some (.ref t), some (.ref r1), some (.int v2), some (.int v3), none, none, some (.ref (r1 + 1)), some (.long v7), none, some (.int v9), some (.int v10), some (.int x3), some (.long (if x5 < v7 then x5 else v7)), none, some (.long x9), none]) dX3_fill_81 (by decide) rfl ?_
        refine V_aload_n dX3_fill_83 rfl ?_
        refine V_getR (kf := 1) k_X3 (by decide) lk_RX3_15 rfl dX3_fill_84 (tq_X3_0 hG ht) rfl ?_
        refine V_iload dX3_fill_87 rfl ?_
        refine V_lload dX3_fill_89 rfl ?_
        obtain ⟨g11, h⟩ := gu_o h
        obtain ⟨m12, e13, h⟩ := vl_o h
        refine V_lastore (μ2 := m12) dX3_fill_91 (tq_X3_2 hG ht) (ib_in g11) e13.symm ?_
        refine V_aload_n dX3_fill_92 rfl ?_
        refine V_getR (kf := 0) k_X3 (by decide) lk_RX3_9 rfl dX3_fill_93 (tq_X3_0 hG ht) rfl ?_
        refine V_iload dX3_fill_96 rfl ?_
        refine V_lload dX3_fill_98 rfl ?_
        obtain ⟨g14, h⟩ := gu_o h
        obtain ⟨m15, e16, h⟩ := vl_o h
        refine V_lastore (μ2 := m15) dX3_fill_100 (tq_X3_1 hG ht) (ib_in g14) e16.symm ?_
        refine V_aload_n dX3_fill_101 rfl ?_
        refine V_getR (kf := 5) k_X3 (by decide) lk_RX3_27 rfl dX3_fill_102 (tq_X3_0 hG ht) rfl ?_
        refine V_iconst (v := 1) dX3_fill_105 rfl ?_
        refine V_dup2 dX3_fill_106 rfl rfl ?_
        obtain ⟨g17, h⟩ := gu_o h
        refine V_laload dX3_fill_107 (tq_X3_6 hG ht) (ib_in g17) ?_
        refine V_lload dX3_fill_108 rfl ?_
        refine V_ladd dX3_fill_110 ?_
        obtain ⟨g18, h⟩ := gu_o h
        obtain ⟨m19, e20, h⟩ := vl_o h
        refine V_lastore (μ2 := m19) dX3_fill_111 (tq_X3_6 hG ht) (ib_in g18) e20.symm ?_
        refine V_lload dX3_fill_112 rfl ?_
        refine V_lload dX3_fill_114 rfl ?_
        refine V_lload dX3_fill_116 rfl ?_
        refine V_ladd dX3_fill_118 ?_
        refine V_lsub dX3_fill_119 ?_
        refine V_lstore (lv2 := [some (.ref t), some (.ref r1), some (.int v2), some (.int v3), none, none, some (.ref (r1 + 1)), some (.long (v7 - ((if x5 < v7 then x5 else v7) + x9))), none, some (.int v9), some (.int v10), some (.int x3), some (.long (if x5 < v7 then x5 else v7)), none, some (.long x9), none]) dX3_fill_120 (by decide) rfl ?_
        refine V_aload dX3_fill_122 rfl ?_
        refine V_getR (kf := 1) k_X5 (by decide) lk_RX3_65 rfl dX3_fill_124 (tq_X0_1 hG hr1) rfl ?_
        refine V_iload dX3_fill_127 rfl ?_
        obtain ⟨g21, h⟩ := gu_o h
        refine V_iaload dX3_fill_129 (tq_X0_3 hG hr1) (ib_in g21) ?_
        refine V_aload dX3_fill_130 rfl ?_
        refine V_getR (kf := 2) k_X5 (by decide) lk_RX3_68 rfl dX3_fill_132 (tq_X0_1 hG hr1) rfl ?_
        refine V_iload dX3_fill_135 rfl ?_
        obtain ⟨g22, h⟩ := gu_o h
        refine V_iaload dX3_fill_137 (tq_X0_4 hG hr1) (ib_in g22) ?_
        refine V_iadd dX3_fill_138 ?_
        obtain ⟨x23, e24, h⟩ := vl_o h
        refine V_topi e24 ?_
        refine V_istore (lv2 := [some (.ref t), some (.ref r1), some (.int v2), some (.int v3), none, none, some (.ref (r1 + 1)), some (.long (v7 - ((if x5 < v7 then x5 else v7) + x9))), none, some (.int x23), some (.int v10), some (.int x3), some (.long (if x5 < v7 then x5 else v7)), none, some (.long x9), none]) dX3_fill_139 (by decide) rfl ?_
        refine V_iinc (v := v10 + 1) (lv2 := [some (.ref t), some (.ref r1), some (.int v2), some (.int v3), none, none, some (.ref (r1 + 1)), some (.long (v7 - ((if x5 < v7 then x5 else v7) + x9))), none, some (.int x23), some (.int (v10 + 1)), some (.int x3), some (.long (if x5 < v7 then x5 else v7)), none, some (.long x9), none]) dX3_fill_141 rfl rfl (by decide) rfl ?_
        refine V_goto (tgt := 16) dX3_fill_144 (by decide) ?_
        exact V_wk [true, true, true, true, false, false, true, true, false, true, true, false, false, false, false, false] rfl (ih _ _ _ _ _ _ _ h)
def D_X3_fill_0 (fu : Nat) (t : Nat) (r1 : Nat) (a2 : Int32) (a3 : Int32) (a4 : Int64) (μ : Mem) : Option (Int64 × Mem) :=
  D_X3_fill_16 fu t r1 fu a2 a3 a4 0 0 μ
set_option maxRecDepth 20000 in
theorem T_X3_fill_0 (G : GX) (fu : Nat) (t : Nat) (r1 : Nat) (hG : gt G = tbl) (ht : IsX3 t) (hr1 : IsX0 r1) : ∀ (a2 : Int32) (a3 : Int32) (a4 : Int64) (μ : Mem) (r : (Int64 × Mem)) , D_X3_fill_0 fu t r1 a2 a3 a4 μ = some r → V G mX3_fill 0 [some (.ref t), some (.ref r1), some (.int a2), some (.int a3), some (.long a4), none, none, none, none, none, none, none, none, none, none, none] [] μ (.inl (some (.long r.1))) (r.2) := by
  intro a2 a3 a4 μ r h
  unfold D_X3_fill_0 at h
  refine V_aload_n dX3_fill_0 rfl ?_
  refine V_getR (kf := 0) k_X0 (by decide) lk_RX3_36 rfl dX3_fill_1 (tq_X0_0 hG hr1) rfl ?_
  refine V_astore (lv2 := [some (.ref t), some (.ref r1), some (.int a2), some (.int a3), some (.long a4), none, some (.ref (r1 + 1)), none, none, none, none, none, none, none, none, none]) dX3_fill_4 (by decide) rfl ?_
  refine V_lload dX3_fill_6 rfl ?_
  refine V_lstore (lv2 := [some (.ref t), some (.ref r1), some (.int a2), some (.int a3), some (.long a4), none, some (.ref (r1 + 1)), some (.long a4), none, none, none, none, none, none, none, none]) dX3_fill_8 (by decide) rfl ?_
  refine V_iconst (v := 0) dX3_fill_10 rfl ?_
  refine V_istore (lv2 := [some (.ref t), some (.ref r1), some (.int a2), some (.int a3), some (.long a4), none, some (.ref (r1 + 1)), some (.long a4), none, some (.int 0), none, none, none, none, none, none]) dX3_fill_11 (by decide) rfl ?_
  refine V_iconst (v := 0) dX3_fill_13 rfl ?_
  refine V_istore (lv2 := [some (.ref t), some (.ref r1), some (.int a2), some (.int a3), some (.long a4), none, some (.ref (r1 + 1)), some (.long a4), none, some (.int 0), some (.int 0), none, none, none, none, none]) dX3_fill_14 (by decide) rfl ?_
  exact V_wk [true, true, true, true, false, false, true, true, false, true, true, false, false, false, false, false] rfl (T_X3_fill_16 G fu t r1 hG ht hr1 fu _ _ _ _ _ _ _ h)
theorem VM_X3_fill (G : GX) (fu : Nat) (t : Nat) (r1 : Nat) (hG : gt G = tbl) (ht : IsX3 t) (hr1 : IsX0 r1) (a2 : Int32) (a3 : Int32) (a4 : Int64) (μ : Mem) (r : (Int64 × Mem)) (h : D_X3_fill_0 fu t r1 a2 a3 a4 μ = some r) : VM G mX3_fill [.ref t, .ref r1, .int a2, .int a3, .long a4] μ (.inl (some (.long r.1))) (r.2) := V_entry ok_mX3_fill rfl rfl (Nat.le_of_ble_eq_true rfl) (T_X3_fill_0 G fu t r1 hG ht hr1 a2 a3 a4 μ r h)
def D_X4_payByWeights_102 (fu : Nat) (r1 : Nat) (r5 : Nat) (k25 : Int32 → Int64 → Int32 → Mem → Option Mem) (v2 : Int32) (v6 : Int64) (v8 : Int32) (μ : Mem) : Option Mem :=
  k25 v2 v6 (v8 + 1) μ
set_option maxRecDepth 20000 in
theorem T_X4_payByWeights_102 (G : GX) (fu : Nat) (r1 : Nat) (r5 : Nat) (hG : gt G = tbl) (hr1 : IsX0 r1) (hr5 : IsX3 r5) (k25 : Int32 → Int64 → Int32 → Mem → Option Mem) (hk25 : ∀ (v2 : Int32) (v6 : Int64) (v8 : Int32) (μ : Mem) (r : Mem), k25 v2 v6 v8 μ = some r → V G mX4_payByWeights 25 [some (.ref 61), some (.ref r1), some (.int v2), none, none, some (.ref r5), some (.long v6), none, some (.int v8)] [] μ (.inl none) (r)) : ∀ (v2 : Int32) (v6 : Int64) (v8 : Int32) (μ : Mem) (r : Mem) , D_X4_payByWeights_102 fu r1 r5 k25 v2 v6 v8 μ = some r → V G mX4_payByWeights 102 [some (.ref 61), some (.ref r1), some (.int v2), none, none, some (.ref r5), some (.long v6), none, some (.int v8)] [] μ (.inl none) (r) := by
  intro v2 v6 v8 μ r h
  unfold D_X4_payByWeights_102 at h
  refine V_iinc (v := v8 + 1) (lv2 := [some (.ref 61), some (.ref r1), some (.int v2), none, none, some (.ref r5), some (.long v6), none, some (.int (v8 + 1))]) dX4_payByWeights_102 rfl rfl (by decide) rfl ?_
  refine V_goto (tgt := 25) dX4_payByWeights_105 (by decide) ?_
  exact V_wk [true, true, true, false, false, true, true, false, true] rfl (hk25 _ _ _ _ _ h)
def D_X4_payByWeights_25 (fu : Nat) (r1 : Nat) (r5 : Nat) : Nat → Int32 → Int64 → Int32 → Mem → Option Mem
  | 0, _, _, _, _ => none
  | n + 1, v2, v6, v8, μ =>
    if (12 : Int32) ≤ v8 then
      gu (ib 3 7) <|
      gu (ib 3 7) <|
      vl (wL μ (r5 + 6) (Int32.toNatClampNeg 3) ((μ.2.1 (r5 + 6) (Int32.toNatClampNeg 3)) + v6)) fun m7 =>
      some m7
    else
      gu (ib v8 12) <|
      (D_X5_isGap_0 μ (r1 + 1) v8).bind fun x10 =>
      if x10 = true then
        gu (ib 3 7) <|
        gu (ib v8 12) <|
        gu (ib 3 7) <|
        vl (wL μ (r5 + 6) (Int32.toNatClampNeg 3) ((μ.2.1 (r5 + 6) (Int32.toNatClampNeg 3)) + (μ.2.1 77 (Int32.toNatClampNeg v8)))) fun m15 =>
        D_X4_payByWeights_102 fu r1 r5 (D_X4_payByWeights_25 fu r1 r5 n) v2 (v6 - (μ.2.1 77 (Int32.toNatClampNeg v8))) v8 m15
      else
        gu (ib 2 7) <|
        gu (ib v8 12) <|
        (D_X3_fill_0 fu r5 r1 v2 v8 (μ.2.1 77 (Int32.toNatClampNeg v8)) μ).bind fun x19 =>
        gu (ib 2 7) <|
        vl (wL x19.2 (r5 + 6) (Int32.toNatClampNeg 2) ((μ.2.1 (r5 + 6) (Int32.toNatClampNeg 2)) + x19.1)) fun m22 =>
        D_X4_payByWeights_102 fu r1 r5 (D_X4_payByWeights_25 fu r1 r5 n) v2 (v6 - (μ.2.1 77 (Int32.toNatClampNeg v8))) v8 m22
set_option maxRecDepth 20000 in
theorem T_X4_payByWeights_25 (G : GX) (fu : Nat) (r1 : Nat) (r5 : Nat) (hG : gt G = tbl) (hr1 : IsX0 r1) (hr5 : IsX3 r5) : ∀ (n : Nat) (v2 : Int32) (v6 : Int64) (v8 : Int32) (μ : Mem) (r : Mem) , D_X4_payByWeights_25 fu r1 r5 n v2 v6 v8 μ = some r → V G mX4_payByWeights 25 [some (.ref 61), some (.ref r1), some (.int v2), none, none, some (.ref r5), some (.long v6), none, some (.int v8)] [] μ (.inl none) (r) := by
  intro n
  induction n with
  | zero =>
    intro v2 v6 v8 μ r h
    exact nomatch (show (none : Option Mem) = some r from h)
  | succ n ih =>
    intro v2 v6 v8 μ r h
    rw [D_X4_payByWeights_25] at h
    refine V_iload dX4_payByWeights_25 rfl ?_
    refine V_bipush (v := 12) dX4_payByWeights_27 rfl ?_
    by_cases c29 : (12 : Int32) ≤ v8
    · rw [if_pos c29] at h
      refine V_icmpge_t (tgt := 108) dX4_payByWeights_29 (by decide) c29 ?_
      refine V_aload dX4_payByWeights_108 rfl ?_
      refine V_getR (kf := 5) k_X3 (by decide) lk_RX4_114 rfl dX4_payByWeights_110 (tq_X3_0 hG hr5) rfl ?_
      refine V_iconst (v := 3) dX4_payByWeights_113 rfl ?_
      refine V_dup2 dX4_payByWeights_114 rfl rfl ?_
      obtain ⟨g5, h⟩ := gu_o h
      refine V_laload dX4_payByWeights_115 (tq_X3_6 hG hr5) (ib_in g5) ?_
      refine V_lload dX4_payByWeights_116 rfl ?_
      refine V_ladd dX4_payByWeights_118 ?_
      obtain ⟨g6, h⟩ := gu_o h
      obtain ⟨m7, e8, h⟩ := vl_o h
      refine V_lastore (μ2 := m7) dX4_payByWeights_119 (tq_X3_6 hG hr5) (ib_in g6) e8.symm ?_
      cases h
      exact V_vret rfl dX4_payByWeights_120
    · rw [if_neg c29] at h
      refine V_icmpge_f (tgt := 108) dX4_payByWeights_29 (by decide) c29 ?_
      refine V_lload dX4_payByWeights_32 rfl ?_
      refine V_aload_n dX4_payByWeights_34 rfl ?_
      refine V_getR (kf := 3) k_X4 (by decide) lk_RX4_25 rfl dX4_payByWeights_35 (tq_61 hG) rfl ?_
      refine V_iload dX4_payByWeights_38 rfl ?_
      obtain ⟨g9, h⟩ := gu_o h
      refine V_laload dX4_payByWeights_40 (tq_77 hG) (ib_in g9) ?_
      refine V_lsub dX4_payByWeights_41 ?_
      refine V_lstore (lv2 := [some (.ref 61), some (.ref r1), some (.int v2), none, none, some (.ref r5), some (.long (v6 - (μ.2.1 77 (Int32.toNatClampNeg v8)))), none, some (.int v8)]) dX4_payByWeights_42 (by decide) rfl ?_
      refine V_aload_n dX4_payByWeights_44 rfl ?_
      refine V_getR (kf := 0) k_X0 (by decide) lk_RX4_47 rfl dX4_payByWeights_45 (tq_X0_0 hG hr1) rfl ?_
      refine V_iload dX4_payByWeights_48 rfl ?_
      obtain ⟨x10, y11, h⟩ := bi_o h
      refine V_callV (as := [.int v8]) (q := (r1 + 1)) (rest := []) dX4_payByWeights_50 ov_mX5_isGap lk_RX4_103 (by decide) (by decide) rfl rfl (Nat.le_of_ble_eq_true rfl) (tq_X0_1 hG hr1) rfl (VM_X5_isGap G μ (r1 + 1) hG (is_X0_1 hr1) v8 _ y11) ?_
      by_cases c53 : x10 = true
      · rw [if_pos c53] at h
        refine V_ifeq_f (tgt := 76) dX4_payByWeights_53 (by decide) (b2i_t.mp c53) ?_
        refine V_aload dX4_payByWeights_56 rfl ?_
        refine V_getR (kf := 5) k_X3 (by decide) lk_RX4_114 rfl dX4_payByWeights_58 (tq_X3_0 hG hr5) rfl ?_
        refine V_iconst (v := 3) dX4_payByWeights_61 rfl ?_
        refine V_dup2 dX4_payByWeights_62 rfl rfl ?_
        obtain ⟨g12, h⟩ := gu_o h
        refine V_laload dX4_payByWeights_63 (tq_X3_6 hG hr5) (ib_in g12) ?_
        refine V_aload_n dX4_payByWeights_64 rfl ?_
        refine V_getR (kf := 3) k_X4 (by decide) lk_RX4_25 rfl dX4_payByWeights_65 (tq_61 hG) rfl ?_
        refine V_iload dX4_payByWeights_68 rfl ?_
        obtain ⟨g13, h⟩ := gu_o h
        refine V_laload dX4_payByWeights_70 (tq_77 hG) (ib_in g13) ?_
        refine V_ladd dX4_payByWeights_71 ?_
        obtain ⟨g14, h⟩ := gu_o h
        obtain ⟨m15, e16, h⟩ := vl_o h
        refine V_lastore (μ2 := m15) dX4_payByWeights_72 (tq_X3_6 hG hr5) (ib_in g14) e16.symm ?_
        refine V_goto (tgt := 102) dX4_payByWeights_73 (by decide) ?_
        exact V_wk [true, true, true, false, false, true, true, false, true] rfl (T_X4_payByWeights_102 G fu r1 r5 hG hr1 hr5 (D_X4_payByWeights_25 fu r1 r5 n) ih _ _ _ _ _ h)
      · rw [if_neg c53] at h
        refine V_ifeq_t (tgt := 76) dX4_payByWeights_53 (by decide) (b2i_f.mp c53) ?_
        refine V_aload dX4_payByWeights_76 rfl ?_
        refine V_getR (kf := 5) k_X3 (by decide) lk_RX4_114 rfl dX4_payByWeights_78 (tq_X3_0 hG hr5) rfl ?_
        refine V_iconst (v := 2) dX4_payByWeights_81 rfl ?_
        refine V_dup2 dX4_payByWeights_82 rfl rfl ?_
        obtain ⟨g17, h⟩ := gu_o h
        refine V_laload dX4_payByWeights_83 (tq_X3_6 hG hr5) (ib_in g17) ?_
        refine V_aload dX4_payByWeights_84 rfl ?_
        refine V_aload_n dX4_payByWeights_86 rfl ?_
        refine V_iload_n dX4_payByWeights_87 rfl ?_
        refine V_iload dX4_payByWeights_88 rfl ?_
        refine V_aload_n dX4_payByWeights_90 rfl ?_
        refine V_getR (kf := 3) k_X4 (by decide) lk_RX4_25 rfl dX4_payByWeights_91 (tq_61 hG) rfl ?_
        refine V_iload dX4_payByWeights_94 rfl ?_
        obtain ⟨g18, h⟩ := gu_o h
        refine V_laload dX4_payByWeights_96 (tq_77 hG) (ib_in g18) ?_
        obtain ⟨x19, y20, h⟩ := bi_o h
        refine V_callV (as := [.ref r1, .int v2, .int v8, .long (μ.2.1 77 (Int32.toNatClampNeg v8))]) (q := r5) (rest := [.long (μ.2.1 (r5 + 6) (Int32.toNatClampNeg 2)), .int 2, .ref (r5 + 6)]) dX4_payByWeights_97 ov_mX3_fill lk_RX4_117 (by decide) (by decide) rfl rfl (Nat.le_of_ble_eq_true rfl) (tq_X3_0 hG hr5) rfl (VM_X3_fill G fu r5 r1 hG hr5 hr1 v2 v8 (μ.2.1 77 (Int32.toNatClampNeg v8)) μ _ y20) ?_
        refine V_ladd dX4_payByWeights_100 ?_
        obtain ⟨g21, h⟩ := gu_o h
        obtain ⟨m22, e23, h⟩ := vl_o h
        refine V_lastore (μ2 := m22) dX4_payByWeights_101 (tq_X3_6 hG hr5) (ib_in g21) e23.symm ?_
        exact V_wk [true, true, true, false, false, true, true, false, true] rfl (T_X4_payByWeights_102 G fu r1 r5 hG hr1 hr5 (D_X4_payByWeights_25 fu r1 r5 n) ih _ _ _ _ _ h)
def D_X4_payByWeights_0 (fu : Nat) (r1 : Nat) (r5 : Nat) (a2 : Int32) (a3 : Int64) (μ : Mem) : Option Mem :=
  (D_X3_clear_0 fu r5 μ).bind fun x1 =>
  (D_X6_shareOut_0 fu 76 12 77 12 a3 12 x1).bind fun x3 =>
  D_X4_payByWeights_25 fu r1 r5 fu a2 a3 0 x3
set_option maxRecDepth 20000 in
theorem T_X4_payByWeights_0 (G : GX) (fu : Nat) (r1 : Nat) (r5 : Nat) (hG : gt G = tbl) (hr1 : IsX0 r1) (hr5 : IsX3 r5) : ∀ (a2 : Int32) (a3 : Int64) (μ : Mem) (r : Mem) , D_X4_payByWeights_0 fu r1 r5 a2 a3 μ = some r → V G mX4_payByWeights 0 [some (.ref 61), some (.ref r1), some (.int a2), some (.long a3), none, some (.ref r5), none, none, none] [] μ (.inl none) (r) := by
  intro a2 a3 μ r h
  unfold D_X4_payByWeights_0 at h
  refine V_aload dX4_payByWeights_0 rfl ?_
  obtain ⟨x1, y2, h⟩ := bi_o h
  refine V_callV (as := []) (q := r5) (rest := []) dX4_payByWeights_2 ov_mX3_clear lk_RX4_107 (by decide) (by decide) rfl rfl (Nat.le_of_ble_eq_true rfl) (tq_X3_0 hG hr5) rfl (VM_X3_clear G fu r5 hG hr5 μ _ y2) ?_
  refine V_lload_n dX4_payByWeights_5 rfl ?_
  refine V_aload_n dX4_payByWeights_6 rfl ?_
  refine V_getR (kf := 2) k_X4 (by decide) lk_RX4_21 rfl dX4_payByWeights_7 (tq_61 hG) rfl ?_
  refine V_bipush (v := 12) dX4_payByWeights_10 rfl ?_
  refine V_aload_n dX4_payByWeights_12 rfl ?_
  refine V_getR (kf := 3) k_X4 (by decide) lk_RX4_25 rfl dX4_payByWeights_13 (tq_61 hG) rfl ?_
  obtain ⟨x3, y4, h⟩ := bi_o h
  refine V_callSN (as := [.long a3, .ref 76, .int 12, .ref 77]) (rest := []) dX4_payByWeights_16 os_mX6_shareOut rfl (List.mem_of_getElem? (i := 8) rfl) (by decide) (by decide) rfl rfl (Nat.le_of_ble_eq_true rfl) (VM_X6_shareOut G fu 76 12 77 12 hG (tq_76 hG) (tq_77 hG) a3 12 x1 _ y4) ?_
  refine V_lload_n dX4_payByWeights_19 rfl ?_
  refine V_lstore (lv2 := [some (.ref 61), some (.ref r1), some (.int a2), some (.long a3), none, some (.ref r5), some (.long a3), none, none]) dX4_payByWeights_20 (by decide) rfl ?_
  refine V_iconst (v := 0) dX4_payByWeights_22 rfl ?_
  refine V_istore (lv2 := [some (.ref 61), some (.ref r1), some (.int a2), some (.long a3), none, some (.ref r5), some (.long a3), none, some (.int 0)]) dX4_payByWeights_23 (by decide) rfl ?_
  exact V_wk [true, true, true, false, false, true, true, false, true] rfl (T_X4_payByWeights_25 G fu r1 r5 hG hr1 hr5 fu _ _ _ _ _ h)
theorem VM_X4_payByWeights (G : GX) (fu : Nat) (r1 : Nat) (r5 : Nat) (hG : gt G = tbl) (hr1 : IsX0 r1) (hr5 : IsX3 r5) (a2 : Int32) (a3 : Int64) (μ : Mem) (r : Mem) (h : D_X4_payByWeights_0 fu r1 r5 a2 a3 μ = some r) : VM G mX4_payByWeights [.ref 61, .ref r1, .int a2, .long a3, .ref r5] μ (.inl none) (r) := V_entry ok_mX4_payByWeights rfl rfl (Nat.le_of_ble_eq_true rfl) (T_X4_payByWeights_0 G fu r1 r5 hG hr1 hr5 a2 a3 μ r h)
def D_X4_weighBySizes_145 (fu : Nat) (r1 : Nat) (k111 : Int32 → Int64 → Int32 → Mem → Option Mem) (v3 : Int32) (v7 : Int64) (v9 : Int32) (μ : Mem) : Option Mem :=
  k111 v3 v7 (v9 + 1) μ
set_option maxRecDepth 20000 in
theorem T_X4_weighBySizes_145 (G : GX) (fu : Nat) (r1 : Nat) (hG : gt G = tbl) (hr1 : IsX5 r1) (k111 : Int32 → Int64 → Int32 → Mem → Option Mem) (hk111 : ∀ (v3 : Int32) (v7 : Int64) (v9 : Int32) (μ : Mem) (r : Mem), k111 v3 v7 v9 μ = some r → V G mX4_weighBySizes 111 [some (.ref 61), some (.ref r1), none, some (.int v3), none, none, none, some (.long v7), none, some (.int v9)] [] μ (.inl none) (r)) : ∀ (v3 : Int32) (v7 : Int64) (v9 : Int32) (μ : Mem) (r : Mem) , D_X4_weighBySizes_145 fu r1 k111 v3 v7 v9 μ = some r → V G mX4_weighBySizes 145 [some (.ref 61), some (.ref r1), none, some (.int v3), none, none, none, some (.long v7), none, some (.int v9)] [] μ (.inl none) (r) := by
  intro v3 v7 v9 μ r h
  unfold D_X4_weighBySizes_145 at h
  refine V_iinc (v := v9 + 1) (lv2 := [some (.ref 61), some (.ref r1), none, some (.int v3), none, none, none, some (.long v7), none, some (.int (v9 + 1))]) dX4_weighBySizes_145 rfl rfl (by decide) rfl ?_
  refine V_goto (tgt := 111) dX4_weighBySizes_148 (by decide) ?_
  exact V_wk [true, true, false, true, false, false, false, true, false, true] rfl (hk111 _ _ _ _ _ h)
def D_X4_weighBySizes_111 (fu : Nat) (r1 : Nat) : Nat → Int32 → Int64 → Int32 → Mem → Option Mem
  | 0, _, _, _, _ => none
  | n + 1, v3, v7, v9, μ =>
    if (12 : Int32) ≤ v9 then
      some μ
    else
      if ((v3 >>> (v9 &&& 31)) &&& 1) = 0 then
        D_X4_weighBySizes_145 fu r1 (D_X4_weighBySizes_111 fu r1 n) v3 v7 v9 μ
      else
        (D_X5_isGap_0 μ r1 v9).bind fun x1 =>
        if x1 = true then
          gu (ib v9 12) <|
          vl (wL μ 76 (Int32.toNatClampNeg v9) v7) fun m4 =>
          D_X4_weighBySizes_145 fu r1 (D_X4_weighBySizes_111 fu r1 n) v3 v7 v9 m4
        else
          D_X4_weighBySizes_145 fu r1 (D_X4_weighBySizes_111 fu r1 n) v3 v7 v9 μ
set_option maxRecDepth 20000 in
theorem T_X4_weighBySizes_111 (G : GX) (fu : Nat) (r1 : Nat) (hG : gt G = tbl) (hr1 : IsX5 r1) : ∀ (n : Nat) (v3 : Int32) (v7 : Int64) (v9 : Int32) (μ : Mem) (r : Mem) , D_X4_weighBySizes_111 fu r1 n v3 v7 v9 μ = some r → V G mX4_weighBySizes 111 [some (.ref 61), some (.ref r1), none, some (.int v3), none, none, none, some (.long v7), none, some (.int v9)] [] μ (.inl none) (r) := by
  intro n
  induction n with
  | zero =>
    intro v3 v7 v9 μ r h
    exact nomatch (show (none : Option Mem) = some r from h)
  | succ n ih =>
    intro v3 v7 v9 μ r h
    rw [D_X4_weighBySizes_111] at h
    refine V_iload dX4_weighBySizes_111 rfl ?_
    refine V_bipush (v := 12) dX4_weighBySizes_113 rfl ?_
    by_cases c115 : (12 : Int32) ≤ v9
    · rw [if_pos c115] at h
      refine V_icmpge_t (tgt := 151) dX4_weighBySizes_115 (by decide) c115 ?_
      cases h
      exact V_vret rfl dX4_weighBySizes_151
    · rw [if_neg c115] at h
      refine V_icmpge_f (tgt := 151) dX4_weighBySizes_115 (by decide) c115 ?_
      refine V_iload_n dX4_weighBySizes_118 rfl ?_
      refine V_iload dX4_weighBySizes_119 rfl ?_
      refine V_ishr dX4_weighBySizes_121 ?_
      refine V_iconst (v := 1) dX4_weighBySizes_122 rfl ?_
      refine V_iand dX4_weighBySizes_123 ?_
      by_cases c124 : ((v3 >>> (v9 &&& 31)) &&& 1) = 0
      · rw [if_pos c124] at h
        refine V_ifeq_t (tgt := 145) dX4_weighBySizes_124 (by decide) c124 ?_
        exact V_wk [true, true, false, true, false, false, false, true, false, true] rfl (T_X4_weighBySizes_145 G fu r1 hG hr1 (D_X4_weighBySizes_111 fu r1 n) ih _ _ _ _ _ h)
      · rw [if_neg c124] at h
        refine V_ifeq_f (tgt := 145) dX4_weighBySizes_124 (by decide) c124 ?_
        refine V_aload_n dX4_weighBySizes_127 rfl ?_
        refine V_iload dX4_weighBySizes_128 rfl ?_
        obtain ⟨x1, y2, h⟩ := bi_o h
        refine V_callV (as := [.int v9]) (q := r1) (rest := []) dX4_weighBySizes_130 ov_mX5_isGap lk_RX4_103 (by decide) (by decide) rfl rfl (Nat.le_of_ble_eq_true rfl) (tq_X5_0 hG hr1) rfl (VM_X5_isGap G μ r1 hG hr1 v9 _ y2) ?_
        by_cases c133 : x1 = true
        · rw [if_pos c133] at h
          refine V_ifeq_f (tgt := 145) dX4_weighBySizes_133 (by decide) (b2i_t.mp c133) ?_
          refine V_aload_n dX4_weighBySizes_136 rfl ?_
          refine V_getR (kf := 2) k_X4 (by decide) lk_RX4_21 rfl dX4_weighBySizes_137 (tq_61 hG) rfl ?_
          refine V_iload dX4_weighBySizes_140 rfl ?_
          refine V_lload dX4_weighBySizes_142 rfl ?_
          obtain ⟨g3, h⟩ := gu_o h
          obtain ⟨m4, e5, h⟩ := vl_o h
          refine V_lastore (μ2 := m4) dX4_weighBySizes_144 (tq_76 hG) (ib_in g3) e5.symm ?_
          exact V_wk [true, true, false, true, false, false, false, true, false, true] rfl (T_X4_weighBySizes_145 G fu r1 hG hr1 (D_X4_weighBySizes_111 fu r1 n) ih _ _ _ _ _ h)
        · rw [if_neg c133] at h
          refine V_ifeq_t (tgt := 145) dX4_weighBySizes_133 (by decide) (b2i_f.mp c133) ?_
          exact V_wk [true, true, false, true, false, false, false, true, false, true] rfl (T_X4_weighBySizes_145 G fu r1 hG hr1 (D_X4_weighBySizes_111 fu r1 n) ih _ _ _ _ _ h)
def D_X4_weighBySizes_106 (fu : Nat) (r1 : Nat) (v3 : Int32) (s0 : Int64) (μ : Mem) : Option Mem :=
  D_X4_weighBySizes_111 fu r1 fu v3 s0 0 μ
set_option maxRecDepth 20000 in
theorem T_X4_weighBySizes_106 (G : GX) (fu : Nat) (r1 : Nat) (hG : gt G = tbl) (hr1 : IsX5 r1) : ∀ (v3 : Int32) (s0 : Int64) (μ : Mem) (r : Mem) , D_X4_weighBySizes_106 fu r1 v3 s0 μ = some r → V G mX4_weighBySizes 106 [some (.ref 61), some (.ref r1), none, some (.int v3), none, none, none, none, none, none] [.long s0] μ (.inl none) (r) := by
  intro v3 s0 μ r h
  unfold D_X4_weighBySizes_106 at h
  refine V_lstore (lv2 := [some (.ref 61), some (.ref r1), none, some (.int v3), none, none, none, some (.long s0), none, none]) dX4_weighBySizes_106 (by decide) rfl ?_
  refine V_iconst (v := 0) dX4_weighBySizes_108 rfl ?_
  refine V_istore (lv2 := [some (.ref 61), some (.ref r1), none, some (.int v3), none, none, none, some (.long s0), none, some (.int 0)]) dX4_weighBySizes_109 (by decide) rfl ?_
  exact V_wk [true, true, false, true, false, false, false, true, false, true] rfl (T_X4_weighBySizes_111 G fu r1 hG hr1 fu _ _ _ _ _ h)
def D_X4_weighBySizes_82 (fu : Nat) (r1 : Nat) (k18 : Int32 → Int64 → Int32 → Int32 → Mem → Option Mem) (v3 : Int32) (v4 : Int64) (v7 : Int32) (s0 : Int32) (s1 : Int32) (μ : Mem) : Option Mem :=
  k18 v3 v4 (s0 + s1) (v7 + 1) μ
set_option maxRecDepth 20000 in
theorem T_X4_weighBySizes_82 (G : GX) (fu : Nat) (r1 : Nat) (hG : gt G = tbl) (hr1 : IsX5 r1) (k18 : Int32 → Int64 → Int32 → Int32 → Mem → Option Mem) (hk18 : ∀ (v3 : Int32) (v4 : Int64) (v6 : Int32) (v7 : Int32) (μ : Mem) (r : Mem), k18 v3 v4 v6 v7 μ = some r → V G mX4_weighBySizes 18 [some (.ref 61), some (.ref r1), none, some (.int v3), some (.long v4), none, some (.int v6), some (.int v7), none, none] [] μ (.inl none) (r)) : ∀ (v3 : Int32) (v4 : Int64) (v7 : Int32) (s0 : Int32) (s1 : Int32) (μ : Mem) (r : Mem) , D_X4_weighBySizes_82 fu r1 k18 v3 v4 v7 s0 s1 μ = some r → V G mX4_weighBySizes 82 [some (.ref 61), some (.ref r1), none, some (.int v3), some (.long v4), none, none, some (.int v7), none, none] [.int s1, .int s0] μ (.inl none) (r) := by
  intro v3 v4 v7 s0 s1 μ r h
  unfold D_X4_weighBySizes_82 at h
  refine V_iadd dX4_weighBySizes_82 ?_
  refine V_istore (lv2 := [some (.ref 61), some (.ref r1), none, some (.int v3), some (.long v4), none, some (.int (s0 + s1)), some (.int v7), none, none]) dX4_weighBySizes_83 (by decide) rfl ?_
  refine V_iinc (v := v7 + 1) (lv2 := [some (.ref 61), some (.ref r1), none, some (.int v3), some (.long v4), none, some (.int (s0 + s1)), some (.int (v7 + 1)), none, none]) dX4_weighBySizes_85 rfl rfl (by decide) rfl ?_
  refine V_goto (tgt := 18) dX4_weighBySizes_88 (by decide) ?_
  exact V_wk [true, true, false, true, true, false, true, true, false, false] rfl (hk18 _ _ _ _ _ _ h)
def D_X4_weighBySizes_50 (fu : Nat) (r1 : Nat) (k18 : Int32 → Int64 → Int32 → Int32 → Mem → Option Mem) (v3 : Int32) (v4 : Int64) (v6 : Int32) (v7 : Int32) (s1 : Int32) (s2 : Int64) (μ : Mem) : Option Mem :=
  gu (ib s1 12) <|
  vl (wL μ 76 (Int32.toNatClampNeg s1) s2) fun m8 =>
  gu (ib v7 12) <|
  gu (ib v7 12) <|
  if (m8.2.1 76 (Int32.toNatClampNeg v7)) ≤ (0 : Int64) then
    D_X4_weighBySizes_82 fu r1 k18 v3 (v4 + (m8.2.1 76 (Int32.toNatClampNeg v7))) v7 v6 0 m8
  else
    D_X4_weighBySizes_82 fu r1 k18 v3 (v4 + (m8.2.1 76 (Int32.toNatClampNeg v7))) v7 v6 1 m8
set_option maxRecDepth 20000 in
theorem T_X4_weighBySizes_50 (G : GX) (fu : Nat) (r1 : Nat) (hG : gt G = tbl) (hr1 : IsX5 r1) (k18 : Int32 → Int64 → Int32 → Int32 → Mem → Option Mem) (hk18 : ∀ (v3 : Int32) (v4 : Int64) (v6 : Int32) (v7 : Int32) (μ : Mem) (r : Mem), k18 v3 v4 v6 v7 μ = some r → V G mX4_weighBySizes 18 [some (.ref 61), some (.ref r1), none, some (.int v3), some (.long v4), none, some (.int v6), some (.int v7), none, none] [] μ (.inl none) (r)) : ∀ (v3 : Int32) (v4 : Int64) (v6 : Int32) (v7 : Int32) (s1 : Int32) (s2 : Int64) (μ : Mem) (r : Mem) , D_X4_weighBySizes_50 fu r1 k18 v3 v4 v6 v7 s1 s2 μ = some r → V G mX4_weighBySizes 50 [some (.ref 61), some (.ref r1), none, some (.int v3), some (.long v4), none, some (.int v6), some (.int v7), none, none] [.long s2, .int s1, .ref 76] μ (.inl none) (r) := by
  intro v3 v4 v6 v7 s1 s2 μ r h
  unfold D_X4_weighBySizes_50 at h
  obtain ⟨g7, h⟩ := gu_o h
  obtain ⟨m8, e9, h⟩ := vl_o h
  refine V_lastore (μ2 := m8) dX4_weighBySizes_50 (tq_76 hG) (ib_in g7) e9.symm ?_
  refine V_lload dX4_weighBySizes_51 rfl ?_
  refine V_aload_n dX4_weighBySizes_53 rfl ?_
  refine V_getR (kf := 2) k_X4 (by decide) lk_RX4_21 rfl dX4_weighBySizes_54 (tq_61 hG) rfl ?_
  refine V_iload dX4_weighBySizes_57 rfl ?_
  obtain ⟨g10, h⟩ := gu_o h
  refine V_laload dX4_weighBySizes_59 (tq_76 hG) (ib_in g10) ?_
  refine V_ladd dX4_weighBySizes_60 ?_
  refine V_lstore (lv2 := [some (.ref 61), some (.ref r1), none, some (.int v3), some (.long (v4 + (m8.2.1 76 (Int32.toNatClampNeg v7)))), none, some (.int v6), some (.int v7), none, none]) dX4_weighBySizes_61 (by decide) rfl ?_
  refine V_iload dX4_weighBySizes_63 rfl ?_
  refine V_aload_n dX4_weighBySizes_65 rfl ?_
  refine V_getR (kf := 2) k_X4 (by decide) lk_RX4_21 rfl dX4_weighBySizes_66 (tq_61 hG) rfl ?_
  refine V_iload dX4_weighBySizes_69 rfl ?_
  obtain ⟨g11, h⟩ := gu_o h
  refine V_laload dX4_weighBySizes_71 (tq_76 hG) (ib_in g11) ?_
  refine V_lconst (v := 0) dX4_weighBySizes_72 rfl ?_
  refine V_lcmp dX4_weighBySizes_73 ?_
  by_cases c74 : (m8.2.1 76 (Int32.toNatClampNeg v7)) ≤ (0 : Int64)
  · rw [if_pos c74] at h
    refine V_ifle_t (tgt := 81) dX4_weighBySizes_74 (by decide) ((lc_le (m8.2.1 76 (Int32.toNatClampNeg v7)) 0).mpr c74) ?_
    refine V_iconst (v := 0) dX4_weighBySizes_81 rfl ?_
    exact V_wk [true, true, false, true, true, false, false, true, false, false] rfl (T_X4_weighBySizes_82 G fu r1 hG hr1 k18 hk18 _ _ _ _ _ _ _ h)
  · rw [if_neg c74] at h
    refine V_ifle_f (tgt := 81) dX4_weighBySizes_74 (by decide) (fun z => c74 ((lc_le (m8.2.1 76 (Int32.toNatClampNeg v7)) 0).mp z)) ?_
    refine V_iconst (v := 1) dX4_weighBySizes_77 rfl ?_
    refine V_goto (tgt := 82) dX4_weighBySizes_78 (by decide) ?_
    exact V_wk [true, true, false, true, true, false, false, true, false, false] rfl (T_X4_weighBySizes_82 G fu r1 hG hr1 k18 hk18 _ _ _ _ _ _ _ h)
def D_X4_weighBySizes_18 (fu : Nat) (r1 : Nat) : Nat → Int32 → Int64 → Int32 → Int32 → Mem → Option Mem
  | 0, _, _, _, _, _ => none
  | n + 1, v3, v4, v6, v7, μ =>
    if (12 : Int32) ≤ v7 then
      if v6 ≤ 0 then
        D_X4_weighBySizes_106 fu r1 v3 1 μ
      else
        gu (decide (¬ ((v6 : Int32).toInt64) = 0)) <|
        D_X4_weighBySizes_106 fu r1 v3 (v4 / ((v6 : Int32).toInt64)) μ
    else
      if ((v3 >>> (v7 &&& 31)) &&& 1) = 0 then
        D_X4_weighBySizes_50 fu r1 (D_X4_weighBySizes_18 fu r1 n) v3 v4 v6 v7 v7 0 μ
      else
        (D_X5_sizesIn_0 fu μ r1 v7).bind fun x12 =>
        D_X4_weighBySizes_50 fu r1 (D_X4_weighBySizes_18 fu r1 n) v3 v4 v6 v7 v7 x12 μ
set_option maxRecDepth 20000 in
theorem T_X4_weighBySizes_18 (G : GX) (fu : Nat) (r1 : Nat) (hG : gt G = tbl) (hr1 : IsX5 r1) : ∀ (n : Nat) (v3 : Int32) (v4 : Int64) (v6 : Int32) (v7 : Int32) (μ : Mem) (r : Mem) , D_X4_weighBySizes_18 fu r1 n v3 v4 v6 v7 μ = some r → V G mX4_weighBySizes 18 [some (.ref 61), some (.ref r1), none, some (.int v3), some (.long v4), none, some (.int v6), some (.int v7), none, none] [] μ (.inl none) (r) := by
  intro n
  induction n with
  | zero =>
    intro v3 v4 v6 v7 μ r h
    exact nomatch (show (none : Option Mem) = some r from h)
  | succ n ih =>
    intro v3 v4 v6 v7 μ r h
    rw [D_X4_weighBySizes_18] at h
    refine V_iload dX4_weighBySizes_18 rfl ?_
    refine V_bipush (v := 12) dX4_weighBySizes_20 rfl ?_
    by_cases c22 : (12 : Int32) ≤ v7
    · rw [if_pos c22] at h
      refine V_icmpge_t (tgt := 91) dX4_weighBySizes_22 (by decide) c22 ?_
      refine V_iload dX4_weighBySizes_91 rfl ?_
      by_cases c93 : v6 ≤ 0
      · rw [if_pos c93] at h
        refine V_ifle_t (tgt := 105) dX4_weighBySizes_93 (by decide) c93 ?_
        refine V_lconst (v := 1) dX4_weighBySizes_105 rfl ?_
        exact V_wk [true, true, false, true, false, false, false, false, false, false] rfl (T_X4_weighBySizes_106 G fu r1 hG hr1 _ _ _ _ h)
      · rw [if_neg c93] at h
        refine V_ifle_f (tgt := 105) dX4_weighBySizes_93 (by decide) c93 ?_
        refine V_lload dX4_weighBySizes_96 rfl ?_
        refine V_iload dX4_weighBySizes_98 rfl ?_
        refine V_i2l dX4_weighBySizes_100 ?_
        obtain ⟨g6, h⟩ := gu_o h
        refine V_ldiv dX4_weighBySizes_101 (of_decide_eq_true g6) ?_
        refine V_goto (tgt := 106) dX4_weighBySizes_102 (by decide) ?_
        exact V_wk [true, true, false, true, false, false, false, false, false, false] rfl (T_X4_weighBySizes_106 G fu r1 hG hr1 _ _ _ _ h)
    · rw [if_neg c22] at h
      refine V_icmpge_f (tgt := 91) dX4_weighBySizes_22 (by decide) c22 ?_
      refine V_aload_n dX4_weighBySizes_25 rfl ?_
      refine V_getR (kf := 2) k_X4 (by decide) lk_RX4_21 rfl dX4_weighBySizes_26 (tq_61 hG) rfl ?_
      refine V_iload dX4_weighBySizes_29 rfl ?_
      refine V_iload_n dX4_weighBySizes_31 rfl ?_
      refine V_iload dX4_weighBySizes_32 rfl ?_
      refine V_ishr dX4_weighBySizes_34 ?_
      refine V_iconst (v := 1) dX4_weighBySizes_35 rfl ?_
      refine V_iand dX4_weighBySizes_36 ?_
      by_cases c37 : ((v3 >>> (v7 &&& 31)) &&& 1) = 0
      · rw [if_pos c37] at h
        refine V_ifeq_t (tgt := 49) dX4_weighBySizes_37 (by decide) c37 ?_
        refine V_lconst (v := 0) dX4_weighBySizes_49 rfl ?_
        exact V_wk [true, true, false, true, true, false, true, true, false, false] rfl (T_X4_weighBySizes_50 G fu r1 hG hr1 (D_X4_weighBySizes_18 fu r1 n) ih _ _ _ _ _ _ _ _ h)
      · rw [if_neg c37] at h
        refine V_ifeq_f (tgt := 49) dX4_weighBySizes_37 (by decide) c37 ?_
        refine V_aload_n dX4_weighBySizes_40 rfl ?_
        refine V_iload dX4_weighBySizes_41 rfl ?_
        obtain ⟨x12, y13, h⟩ := bi_o h
        refine V_callV (as := [.int v7]) (q := r1) (rest := [.int v7, .ref 76]) dX4_weighBySizes_43 ov_mX5_sizesIn lk_RX4_99 (by decide) (by decide) rfl rfl (Nat.le_of_ble_eq_true rfl) (tq_X5_0 hG hr1) rfl (VM_X5_sizesIn G fu μ r1 hG hr1 v7 _ y13) ?_
        refine V_goto (tgt := 50) dX4_weighBySizes_46 (by decide) ?_
        exact V_wk [true, true, false, true, true, false, true, true, false, false] rfl (T_X4_weighBySizes_50 G fu r1 hG hr1 (D_X4_weighBySizes_18 fu r1 n) ih _ _ _ _ _ _ _ _ h)
def D_X4_weighBySizes_0 (fu : Nat) (r1 : Nat) (a2 : Int32) (μ : Mem) : Option Mem :=
  D_X4_weighBySizes_18 fu r1 fu (a2 &&& ((μ.1 r1 12) ^^^ (-1))) 0 0 0 μ
set_option maxRecDepth 20000 in
theorem T_X4_weighBySizes_0 (G : GX) (fu : Nat) (r1 : Nat) (hG : gt G = tbl) (hr1 : IsX5 r1) : ∀ (a2 : Int32) (μ : Mem) (r : Mem) , D_X4_weighBySizes_0 fu r1 a2 μ = some r → V G mX4_weighBySizes 0 [some (.ref 61), some (.ref r1), some (.int a2), none, none, none, none, none, none, none] [] μ (.inl none) (r) := by
  intro a2 μ r h
  unfold D_X4_weighBySizes_0 at h
  refine V_iload_n dX4_weighBySizes_0 rfl ?_
  refine V_aload_n dX4_weighBySizes_1 rfl ?_
  refine V_getI (kf := 12) k_X5 (by decide) lk_RX4_96 rfl dX4_weighBySizes_2 (tq_X5_0 hG hr1) rfl ?_
  refine V_iconst (v := (-1)) dX4_weighBySizes_5 rfl ?_
  refine V_ixor dX4_weighBySizes_6 ?_
  refine V_iand dX4_weighBySizes_7 ?_
  refine V_istore_n (lv2 := [some (.ref 61), some (.ref r1), some (.int a2), some (.int (a2 &&& ((μ.1 r1 12) ^^^ (-1)))), none, none, none, none, none, none]) dX4_weighBySizes_8 (by decide) rfl ?_
  refine V_lconst (v := 0) dX4_weighBySizes_9 rfl ?_
  refine V_lstore (lv2 := [some (.ref 61), some (.ref r1), some (.int a2), some (.int (a2 &&& ((μ.1 r1 12) ^^^ (-1)))), some (.long 0), none, none, none, none, none]) dX4_weighBySizes_10 (by decide) rfl ?_
  refine V_iconst (v := 0) dX4_weighBySizes_12 rfl ?_
  refine V_istore (lv2 := [some (.ref 61), some (.ref r1), some (.int a2), some (.int (a2 &&& ((μ.1 r1 12) ^^^ (-1)))), some (.long 0), none, some (.int 0), none, none, none]) dX4_weighBySizes_13 (by decide) rfl ?_
  refine V_iconst (v := 0) dX4_weighBySizes_15 rfl ?_
  refine V_istore (lv2 := [some (.ref 61), some (.ref r1), some (.int a2), some (.int (a2 &&& ((μ.1 r1 12) ^^^ (-1)))), some (.long 0), none, some (.int 0), some (.int 0), none, none]) dX4_weighBySizes_16 (by decide) rfl ?_
  exact V_wk [true, true, false, true, true, false, true, true, false, false] rfl (T_X4_weighBySizes_18 G fu r1 hG hr1 fu _ _ _ _ _ _ h)
theorem VM_X4_weighBySizes (G : GX) (fu : Nat) (r1 : Nat) (hG : gt G = tbl) (hr1 : IsX5 r1) (a2 : Int32) (μ : Mem) (r : Mem) (h : D_X4_weighBySizes_0 fu r1 a2 μ = some r) : VM G mX4_weighBySizes [.ref 61, .ref r1, .int a2] μ (.inl none) (r) := V_entry ok_mX4_weighBySizes rfl rfl (Nat.le_of_ble_eq_true rfl) (T_X4_weighBySizes_0 G fu r1 hG hr1 a2 μ r h)
def D_X0_roomOf_8 (fu : Nat) (μ : Mem) (t : Nat) : Nat → Int32 → Int32 → Int64 → Int32 → Int32 → Option Int64
  | 0, _, _, _, _, _ => none
  | n + 1, v1, v2, v3, v5, v6 =>
    gu (ib v2 12) <|
    if (μ.1 (t + 13) (Int32.toNatClampNeg v2)) ≤ v6 then
      some v3
    else
      gu (ib ((v2 * 6) + v6) 72) <|
      vl (μ.1 (t + 12) (Int32.toNatClampNeg ((v2 * 6) + v6)) : Int32) fun x3 =>
      (D_X0_holeCanTake_0 μ t v1 x3 v5).bind fun x5 =>
      (D_X0_canTake_0 μ t v1 x3).bind fun x7 =>
      gu (ib x3 40) <|
      gu (ib x3 40) <|
      vl ((μ.1 (t + 3) (Int32.toNatClampNeg x3)) + (μ.1 (t + 4) (Int32.toNatClampNeg x3)) : Int32) fun x11 =>
      (D_X0_roomOf_8 fu μ t n) v1 v2 (v3 + (x5 + x7)) x11 (v6 + 1)
set_option maxRecDepth 20000 in
theorem T_X0_roomOf_8 (G : GX) (fu : Nat) (μ : Mem) (t : Nat) (hG : gt G = tbl) (ht : IsX0 t) : ∀ (n : Nat) (v1 : Int32) (v2 : Int32) (v3 : Int64) (v5 : Int32) (v6 : Int32) (r : Int64) , D_X0_roomOf_8 fu μ t n v1 v2 v3 v5 v6 = some r → V G mX0_roomOf 8 [some (.ref t), some (.int v1), some (.int v2), some (.long v3), none, some (.int v5), some (.int v6), none] [] μ (.inl (some (.long r))) (μ) := by
  intro n
  induction n with
  | zero =>
    intro v1 v2 v3 v5 v6 r h
    exact nomatch (show (none : Option Int64) = some r from h)
  | succ n ih =>
    intro v1 v2 v3 v5 v6 r h
    rw [D_X0_roomOf_8] at h
    refine V_iload dX0_roomOf_8 rfl ?_
    refine V_aload_n dX0_roomOf_10 rfl ?_
    refine V_getR (kf := 0) k_X0 (by decide) lk_RX0_12 rfl dX0_roomOf_11 (tq_X0_0 hG ht) rfl ?_
    refine V_getR (kf := 11) k_X5 (by decide) lk_RX0_185 rfl dX0_roomOf_14 (tq_X0_1 hG ht) rfl ?_
    refine V_iload_n dX0_roomOf_17 rfl ?_
    obtain ⟨g1, h⟩ := gu_o h
    refine V_iaload dX0_roomOf_18 (tq_X0_13 hG ht) (ib_in g1) ?_
    by_cases c19 : (μ.1 (t + 13) (Int32.toNatClampNeg v2)) ≤ v6
    · rw [if_pos c19] at h
      refine V_icmpge_t (tgt := 88) dX0_roomOf_19 (by decide) c19 ?_
      refine V_lload_n dX0_roomOf_88 rfl ?_
      cases h
      exact V_lret rfl dX0_roomOf_89
    · rw [if_neg c19] at h
      refine V_icmpge_f (tgt := 88) dX0_roomOf_19 (by decide) c19 ?_
      refine V_aload_n dX0_roomOf_22 rfl ?_
      refine V_getR (kf := 0) k_X0 (by decide) lk_RX0_12 rfl dX0_roomOf_23 (tq_X0_0 hG ht) rfl ?_
      refine V_getR (kf := 10) k_X5 (by decide) lk_RX0_188 rfl dX0_roomOf_26 (tq_X0_1 hG ht) rfl ?_
      refine V_iload_n dX0_roomOf_29 rfl ?_
      refine V_bipush (v := 6) dX0_roomOf_30 rfl ?_
      refine V_imul dX0_roomOf_32 ?_
      refine V_iload dX0_roomOf_33 rfl ?_
      refine V_iadd dX0_roomOf_35 ?_
      obtain ⟨g2, h⟩ := gu_o h
      refine V_iaload dX0_roomOf_36 (tq_X0_12 hG ht) (ib_in g2) ?_
      obtain ⟨x3, e4, h⟩ := vl_o h
      refine V_topi e4 ?_
      refine V_istore (lv2 := [some (.ref t), some (.int v1), some (.int v2), some (.long v3), none, some (.int v5), some (.int v6), some (.int x3)]) dX0_roomOf_37 (by decide) rfl ?_
      refine V_lload_n dX0_roomOf_39 rfl ?_
      refine V_aload_n dX0_roomOf_40 rfl ?_
      refine V_iload_n dX0_roomOf_41 rfl ?_
      refine V_iload dX0_roomOf_42 rfl ?_
      refine V_iload dX0_roomOf_44 rfl ?_
      obtain ⟨x5, y6, h⟩ := bi_o h
      refine V_callV (as := [.int v1, .int x3, .int v5]) (q := t) (rest := [.long v3]) dX0_roomOf_46 ov_mX0_holeCanTake lk_RX0_191 (by decide) (by decide) rfl rfl (Nat.le_of_ble_eq_true rfl) (tq_X0_0 hG ht) rfl (VM_X0_holeCanTake G μ t hG ht v1 x3 v5 _ y6) ?_
      refine V_aload_n dX0_roomOf_49 rfl ?_
      refine V_iload_n dX0_roomOf_50 rfl ?_
      refine V_iload dX0_roomOf_51 rfl ?_
      obtain ⟨x7, y8, h⟩ := bi_o h
      refine V_callV (as := [.int v1, .int x3]) (q := t) (rest := [.long x5, .long v3]) dX0_roomOf_53 ov_mX0_canTake lk_RX0_195 (by decide) (by decide) rfl rfl (Nat.le_of_ble_eq_true rfl) (tq_X0_0 hG ht) rfl (VM_X0_canTake G μ t hG ht v1 x3 _ y8) ?_
      refine V_ladd dX0_roomOf_56 ?_
      refine V_ladd dX0_roomOf_57 ?_
      refine V_lstore_n (lv2 := [some (.ref t), some (.int v1), some (.int v2), some (.long (v3 + (x5 + x7))), none, some (.int v5), some (.int v6), some (.int x3)]) dX0_roomOf_58 (by decide) rfl ?_
      refine V_aload_n dX0_roomOf_59 rfl ?_
      refine V_getR (kf := 0) k_X0 (by decide) lk_RX0_12 rfl dX0_roomOf_60 (tq_X0_0 hG ht) rfl ?_
      refine V_getR (kf := 1) k_X5 (by decide) lk_RX0_182 rfl dX0_roomOf_63 (tq_X0_1 hG ht) rfl ?_
      refine V_iload dX0_roomOf_66 rfl ?_
      obtain ⟨g9, h⟩ := gu_o h
      refine V_iaload dX0_roomOf_68 (tq_X0_3 hG ht) (ib_in g9) ?_
      refine V_aload_n dX0_roomOf_69 rfl ?_
      refine V_getR (kf := 0) k_X0 (by decide) lk_RX0_12 rfl dX0_roomOf_70 (tq_X0_0 hG ht) rfl ?_
      refine V_getR (kf := 2) k_X5 (by decide) lk_RX0_176 rfl dX0_roomOf_73 (tq_X0_1 hG ht) rfl ?_
      refine V_iload dX0_roomOf_76 rfl ?_
      obtain ⟨g10, h⟩ := gu_o h
      refine V_iaload dX0_roomOf_78 (tq_X0_4 hG ht) (ib_in g10) ?_
      refine V_iadd dX0_roomOf_79 ?_
      obtain ⟨x11, e12, h⟩ := vl_o h
      refine V_topi e12 ?_
      refine V_istore (lv2 := [some (.ref t), some (.int v1), some (.int v2), some (.long (v3 + (x5 + x7))), none, some (.int x11), some (.int v6), some (.int x3)]) dX0_roomOf_80 (by decide) rfl ?_
      refine V_iinc (v := v6 + 1) (lv2 := [some (.ref t), some (.int v1), some (.int v2), some (.long (v3 + (x5 + x7))), none, some (.int x11), some (.int (v6 + 1)), some (.int x3)]) dX0_roomOf_82 rfl rfl (by decide) rfl ?_
      refine V_goto (tgt := 8) dX0_roomOf_85 (by decide) ?_
      exact V_wk [true, true, true, true, false, true, true, false] rfl (ih _ _ _ _ _ _ h)
def D_X0_roomOf_0 (fu : Nat) (μ : Mem) (t : Nat) (a1 : Int32) (a2 : Int32) : Option Int64 :=
  D_X0_roomOf_8 fu μ t fu a1 a2 0 0 0
set_option maxRecDepth 20000 in
theorem T_X0_roomOf_0 (G : GX) (fu : Nat) (μ : Mem) (t : Nat) (hG : gt G = tbl) (ht : IsX0 t) : ∀ (a1 : Int32) (a2 : Int32) (r : Int64) , D_X0_roomOf_0 fu μ t a1 a2 = some r → V G mX0_roomOf 0 [some (.ref t), some (.int a1), some (.int a2), none, none, none, none, none] [] μ (.inl (some (.long r))) (μ) := by
  intro a1 a2 r h
  unfold D_X0_roomOf_0 at h
  refine V_lconst (v := 0) dX0_roomOf_0 rfl ?_
  refine V_lstore_n (lv2 := [some (.ref t), some (.int a1), some (.int a2), some (.long 0), none, none, none, none]) dX0_roomOf_1 (by decide) rfl ?_
  refine V_iconst (v := 0) dX0_roomOf_2 rfl ?_
  refine V_istore (lv2 := [some (.ref t), some (.int a1), some (.int a2), some (.long 0), none, some (.int 0), none, none]) dX0_roomOf_3 (by decide) rfl ?_
  refine V_iconst (v := 0) dX0_roomOf_5 rfl ?_
  refine V_istore (lv2 := [some (.ref t), some (.int a1), some (.int a2), some (.long 0), none, some (.int 0), some (.int 0), none]) dX0_roomOf_6 (by decide) rfl ?_
  exact V_wk [true, true, true, true, false, true, true, false] rfl (T_X0_roomOf_8 G fu μ t hG ht fu _ _ _ _ _ _ h)
theorem VM_X0_roomOf (G : GX) (fu : Nat) (μ : Mem) (t : Nat) (hG : gt G = tbl) (ht : IsX0 t) (a1 : Int32) (a2 : Int32) (r : Int64) (h : D_X0_roomOf_0 fu μ t a1 a2 = some r) : VM G mX0_roomOf [.ref t, .int a1, .int a2] μ (.inl (some (.long r))) (μ) := V_entry ok_mX0_roomOf rfl rfl (Nat.le_of_ble_eq_true rfl) (T_X0_roomOf_0 G fu μ t hG ht a1 a2 r h)
def D_X4_measureRooms_71 (fu : Nat) (r1 : Nat) (k8 : Int32 → Int32 → Int32 → Mem → Option Mem) (v2 : Int32) (v3 : Int32) (v4 : Int32) (μ : Mem) : Option Mem :=
  k8 v2 v3 (v4 + 1) μ
set_option maxRecDepth 20000 in
theorem T_X4_measureRooms_71 (G : GX) (fu : Nat) (r1 : Nat) (hG : gt G = tbl) (hr1 : IsX0 r1) (k8 : Int32 → Int32 → Int32 → Mem → Option Mem) (hk8 : ∀ (v2 : Int32) (v3 : Int32) (v4 : Int32) (μ : Mem) (r : Mem), k8 v2 v3 v4 μ = some r → V G mX4_measureRooms 8 [some (.ref 61), some (.ref r1), some (.int v2), some (.int v3), some (.int v4)] [] μ (.inl none) (r)) : ∀ (v2 : Int32) (v3 : Int32) (v4 : Int32) (μ : Mem) (r : Mem) , D_X4_measureRooms_71 fu r1 k8 v2 v3 v4 μ = some r → V G mX4_measureRooms 71 [some (.ref 61), some (.ref r1), some (.int v2), some (.int v3), some (.int v4)] [] μ (.inl none) (r) := by
  intro v2 v3 v4 μ r h
  unfold D_X4_measureRooms_71 at h
  refine V_iinc (v := v4 + 1) (lv2 := [some (.ref 61), some (.ref r1), some (.int v2), some (.int v3), some (.int (v4 + 1))]) dX4_measureRooms_71 rfl rfl (by decide) rfl ?_
  refine V_goto (tgt := 8) dX4_measureRooms_74 (by decide) ?_
  exact V_wk [true, true, true, true, true] rfl (hk8 _ _ _ _ _ h)
def D_X4_measureRooms_8 (fu : Nat) (r1 : Nat) : Nat → Int32 → Int32 → Int32 → Mem → Option Mem
  | 0, _, _, _, _ => none
  | n + 1, v2, v3, v4, μ =>
    if (12 : Int32) ≤ v4 then
      some μ
    else
      if ((v3 >>> (v4 &&& 31)) &&& 1) = 0 then
        D_X4_measureRooms_71 fu r1 (D_X4_measureRooms_8 fu r1 n) v2 v3 v4 μ
      else
        (D_X5_isGap_0 μ (r1 + 1) v4).bind fun x3 =>
        if x3 = true then
          D_X4_measureRooms_71 fu r1 (D_X4_measureRooms_8 fu r1 n) v2 v3 v4 μ
        else
          (D_X0_roomOf_0 fu μ r1 v2 v4).bind fun x5 =>
          gu (ib v4 12) <|
          vl (wL μ 78 (Int32.toNatClampNeg v4) x5) fun m8 =>
          gu (ib (m8.1 61 7) 12) <|
          vl (wI m8 80 (Int32.toNatClampNeg (m8.1 61 7)) v4) fun m11 =>
          vl (wI m11 61 7 ((m11.1 61 7) + 1)) fun m13 =>
          D_X4_measureRooms_71 fu r1 (D_X4_measureRooms_8 fu r1 n) v2 v3 v4 m13
set_option maxRecDepth 20000 in
theorem T_X4_measureRooms_8 (G : GX) (fu : Nat) (r1 : Nat) (hG : gt G = tbl) (hr1 : IsX0 r1) : ∀ (n : Nat) (v2 : Int32) (v3 : Int32) (v4 : Int32) (μ : Mem) (r : Mem) , D_X4_measureRooms_8 fu r1 n v2 v3 v4 μ = some r → V G mX4_measureRooms 8 [some (.ref 61), some (.ref r1), some (.int v2), some (.int v3), some (.int v4)] [] μ (.inl none) (r) := by
  intro n
  induction n with
  | zero =>
    intro v2 v3 v4 μ r h
    exact nomatch (show (none : Option Mem) = some r from h)
  | succ n ih =>
    intro v2 v3 v4 μ r h
    rw [D_X4_measureRooms_8] at h
    refine V_iload dX4_measureRooms_8 rfl ?_
    refine V_bipush (v := 12) dX4_measureRooms_10 rfl ?_
    by_cases c12 : (12 : Int32) ≤ v4
    · rw [if_pos c12] at h
      refine V_icmpge_t (tgt := 77) dX4_measureRooms_12 (by decide) c12 ?_
      cases h
      exact V_vret rfl dX4_measureRooms_77
    · rw [if_neg c12] at h
      refine V_icmpge_f (tgt := 77) dX4_measureRooms_12 (by decide) c12 ?_
      refine V_iload_n dX4_measureRooms_15 rfl ?_
      refine V_iload dX4_measureRooms_16 rfl ?_
      refine V_ishr dX4_measureRooms_18 ?_
      refine V_iconst (v := 1) dX4_measureRooms_19 rfl ?_
      refine V_iand dX4_measureRooms_20 ?_
      by_cases c21 : ((v3 >>> (v4 &&& 31)) &&& 1) = 0
      · rw [if_pos c21] at h
        refine V_ifeq_t (tgt := 71) dX4_measureRooms_21 (by decide) c21 ?_
        exact V_wk [true, true, true, true, true] rfl (T_X4_measureRooms_71 G fu r1 hG hr1 (D_X4_measureRooms_8 fu r1 n) ih _ _ _ _ _ h)
      · rw [if_neg c21] at h
        refine V_ifeq_f (tgt := 71) dX4_measureRooms_21 (by decide) c21 ?_
        refine V_aload_n dX4_measureRooms_24 rfl ?_
        refine V_getR (kf := 0) k_X0 (by decide) lk_RX4_47 rfl dX4_measureRooms_25 (tq_X0_0 hG hr1) rfl ?_
        refine V_iload dX4_measureRooms_28 rfl ?_
        obtain ⟨x3, y4, h⟩ := bi_o h
        refine V_callV (as := [.int v4]) (q := (r1 + 1)) (rest := []) dX4_measureRooms_30 ov_mX5_isGap lk_RX4_103 (by decide) (by decide) rfl rfl (Nat.le_of_ble_eq_true rfl) (tq_X0_1 hG hr1) rfl (VM_X5_isGap G μ (r1 + 1) hG (is_X0_1 hr1) v4 _ y4) ?_
        by_cases c33 : x3 = true
        · rw [if_pos c33] at h
          refine V_ifne_t (tgt := 71) dX4_measureRooms_33 (by decide) (b2i_t.mp c33) ?_
          exact V_wk [true, true, true, true, true] rfl (T_X4_measureRooms_71 G fu r1 hG hr1 (D_X4_measureRooms_8 fu r1 n) ih _ _ _ _ _ h)
        · rw [if_neg c33] at h
          refine V_ifne_f (tgt := 71) dX4_measureRooms_33 (by decide) (b2i_f.mp c33) ?_
          refine V_aload_n dX4_measureRooms_36 rfl ?_
          refine V_getR (kf := 4) k_X4 (by decide) lk_RX4_28 rfl dX4_measureRooms_37 (tq_61 hG) rfl ?_
          refine V_iload dX4_measureRooms_40 rfl ?_
          refine V_aload_n dX4_measureRooms_42 rfl ?_
          refine V_iload_n dX4_measureRooms_43 rfl ?_
          refine V_iload dX4_measureRooms_44 rfl ?_
          obtain ⟨x5, y6, h⟩ := bi_o h
          refine V_callV (as := [.int v2, .int v4]) (q := r1) (rest := [.int v4, .ref 78]) dX4_measureRooms_46 ov_mX0_roomOf lk_RX4_124 (by decide) (by decide) rfl rfl (Nat.le_of_ble_eq_true rfl) (tq_X0_0 hG hr1) rfl (VM_X0_roomOf G fu μ r1 hG hr1 v2 v4 _ y6) ?_
          obtain ⟨g7, h⟩ := gu_o h
          obtain ⟨m8, e9, h⟩ := vl_o h
          refine V_lastore (μ2 := m8) dX4_measureRooms_49 (tq_78 hG) (ib_in g7) e9.symm ?_
          refine V_aload_n dX4_measureRooms_50 rfl ?_
          refine V_getR (kf := 6) k_X4 (by decide) lk_RX4_34 rfl dX4_measureRooms_51 (tq_61 hG) rfl ?_
          refine V_aload_n dX4_measureRooms_54 rfl ?_
          refine V_getI (kf := 7) k_X4 (by decide) lk_RX4_121 rfl dX4_measureRooms_55 (tq_61 hG) rfl ?_
          refine V_iload dX4_measureRooms_58 rfl ?_
          obtain ⟨g10, h⟩ := gu_o h
          obtain ⟨m11, e12, h⟩ := vl_o h
          refine V_iastore (μ2 := m11) dX4_measureRooms_60 (tq_80 hG) (ib_in g10) e12.symm ?_
          refine V_aload_n dX4_measureRooms_61 rfl ?_
          refine V_dup dX4_measureRooms_62 rfl ?_
          refine V_getI (kf := 7) k_X4 (by decide) lk_RX4_121 rfl dX4_measureRooms_63 (tq_61 hG) rfl ?_
          refine V_iconst (v := 1) dX4_measureRooms_66 rfl ?_
          refine V_iadd dX4_measureRooms_67 ?_
          obtain ⟨m13, e14, h⟩ := vl_o h
          refine V_putI (kf := 7) k_X4 (by decide) lk_RX4_121 rfl rfl (by decide +kernel) dX4_measureRooms_68 (tq_61 hG) rfl e14.symm ?_
          exact V_wk [true, true, true, true, true] rfl (T_X4_measureRooms_71 G fu r1 hG hr1 (D_X4_measureRooms_8 fu r1 n) ih _ _ _ _ _ h)
def D_X4_measureRooms_0 (fu : Nat) (r1 : Nat) (a2 : Int32) (a3 : Int32) (μ : Mem) : Option Mem :=
  vl (wI μ 61 7 0) fun m1 =>
  D_X4_measureRooms_8 fu r1 fu a2 a3 0 m1
set_option maxRecDepth 20000 in
theorem T_X4_measureRooms_0 (G : GX) (fu : Nat) (r1 : Nat) (hG : gt G = tbl) (hr1 : IsX0 r1) : ∀ (a2 : Int32) (a3 : Int32) (μ : Mem) (r : Mem) , D_X4_measureRooms_0 fu r1 a2 a3 μ = some r → V G mX4_measureRooms 0 [some (.ref 61), some (.ref r1), some (.int a2), some (.int a3), none] [] μ (.inl none) (r) := by
  intro a2 a3 μ r h
  unfold D_X4_measureRooms_0 at h
  refine V_aload_n dX4_measureRooms_0 rfl ?_
  refine V_iconst (v := 0) dX4_measureRooms_1 rfl ?_
  obtain ⟨m1, e2, h⟩ := vl_o h
  refine V_putI (kf := 7) k_X4 (by decide) lk_RX4_121 rfl rfl (by decide +kernel) dX4_measureRooms_2 (tq_61 hG) rfl e2.symm ?_
  refine V_iconst (v := 0) dX4_measureRooms_5 rfl ?_
  refine V_istore (lv2 := [some (.ref 61), some (.ref r1), some (.int a2), some (.int a3), some (.int 0)]) dX4_measureRooms_6 (by decide) rfl ?_
  exact V_wk [true, true, true, true, true] rfl (T_X4_measureRooms_8 G fu r1 hG hr1 fu _ _ _ _ _ h)
theorem VM_X4_measureRooms (G : GX) (fu : Nat) (r1 : Nat) (hG : gt G = tbl) (hr1 : IsX0 r1) (a2 : Int32) (a3 : Int32) (μ : Mem) (r : Mem) (h : D_X4_measureRooms_0 fu r1 a2 a3 μ = some r) : VM G mX4_measureRooms [.ref 61, .ref r1, .int a2, .int a3] μ (.inl none) (r) := V_entry ok_mX4_measureRooms rfl rfl (Nat.le_of_ble_eq_true rfl) (T_X4_measureRooms_0 G fu r1 hG hr1 a2 a3 μ r h)
def D_X4_keyOf_0 (μ : Mem) (r1 : Nat) (a2 : Int32) : Option Int64 :=
  if (μ.1 r1 6) = 0 then
    gu (ib a2 12) <|
    some (-(μ.2.1 78 (Int32.toNatClampNeg a2)))
  else
  if (μ.1 r1 6) = 1 then
    some ((-a2 : Int32).toInt64)
  else
  if (μ.1 r1 6) = 2 then
    (D_X5_lowestFrom_0 μ (r1 + 1) a2).bind fun x2 =>
    some ((x2 : Int32).toInt64)
  else
    some ((a2 : Int32).toInt64)
set_option maxRecDepth 20000 in
theorem T_X4_keyOf_0 (G : GX) (μ : Mem) (r1 : Nat) (hG : gt G = tbl) (hr1 : IsX0 r1) : ∀ (a2 : Int32) (r : Int64) , D_X4_keyOf_0 μ r1 a2 = some r → V G mX4_keyOf 0 [some (.ref 61), some (.ref r1), some (.int a2)] [] μ (.inl (some (.long r))) (μ) := by
  intro a2 r h
  unfold D_X4_keyOf_0 at h
  refine V_aload_n dX4_keyOf_0 rfl ?_
  refine V_getI (kf := 6) k_X0 (by decide) lk_RX4_132 rfl dX4_keyOf_1 (tq_X0_0 hG hr1) rfl ?_
  by_cases c4_0 : (μ.1 r1 6) = 0
  · rw [if_pos c4_0] at h
    have qc4_0 : ((μ.1 r1 6) : Int32).toInt = 0 := by rw [c4_0]; decide
    refine V_tabIn (tgt := 32) dX4_keyOf_4 (by rw [qc4_0]; decide) (by rw [qc4_0]; decide) (by rw [qc4_0]; rfl) (by decide) ?_
    refine V_aload_n dX4_keyOf_32 rfl ?_
    refine V_getR (kf := 4) k_X4 (by decide) lk_RX4_28 rfl dX4_keyOf_33 (tq_61 hG) rfl ?_
    refine V_iload_n dX4_keyOf_36 rfl ?_
    obtain ⟨g1, h⟩ := gu_o h
    refine V_laload dX4_keyOf_37 (tq_78 hG) (ib_in g1) ?_
    refine V_lneg dX4_keyOf_38 ?_
    cases h
    exact V_lret rfl dX4_keyOf_39
  · rw [if_neg c4_0] at h
    by_cases c4_1 : (μ.1 r1 6) = 1
    · rw [if_pos c4_1] at h
      have qc4_1 : ((μ.1 r1 6) : Int32).toInt = 1 := by rw [c4_1]; decide
      refine V_tabIn (tgt := 40) dX4_keyOf_4 (by rw [qc4_1]; decide) (by rw [qc4_1]; decide) (by rw [qc4_1]; rfl) (by decide) ?_
      refine V_iload_n dX4_keyOf_40 rfl ?_
      refine V_ineg dX4_keyOf_41 ?_
      refine V_i2l dX4_keyOf_42 ?_
      cases h
      exact V_lret rfl dX4_keyOf_43
    · rw [if_neg c4_1] at h
      by_cases c4_2 : (μ.1 r1 6) = 2
      · rw [if_pos c4_2] at h
        have qc4_2 : ((μ.1 r1 6) : Int32).toInt = 2 := by rw [c4_2]; decide
        refine V_tabIn (tgt := 44) dX4_keyOf_4 (by rw [qc4_2]; decide) (by rw [qc4_2]; decide) (by rw [qc4_2]; rfl) (by decide) ?_
        refine V_aload_n dX4_keyOf_44 rfl ?_
        refine V_getR (kf := 0) k_X0 (by decide) lk_RX4_47 rfl dX4_keyOf_45 (tq_X0_0 hG hr1) rfl ?_
        refine V_iload_n dX4_keyOf_48 rfl ?_
        obtain ⟨x2, y3, h⟩ := bi_o h
        refine V_callV (as := [.int a2]) (q := (r1 + 1)) (rest := []) dX4_keyOf_49 ov_mX5_lowestFrom lk_RX4_135 (by decide) (by decide) rfl rfl (Nat.le_of_ble_eq_true rfl) (tq_X0_1 hG hr1) rfl (VM_X5_lowestFrom G μ (r1 + 1) hG (is_X0_1 hr1) a2 _ y3) ?_
        refine V_i2l dX4_keyOf_52 ?_
        cases h
        exact V_lret rfl dX4_keyOf_53
      · rw [if_neg c4_2] at h
        refine V_tabOut (tgt := 54) dX4_keyOf_4 (tab_out 3 2 (by decide) (fun j hj => ?_)) (by decide) ?_
        · match j, hj with
          | 0, _ => exact fun z => c4_0 (Int32.toInt_inj.mp (by rw [z]; decide))
          | 1, _ => exact fun z => c4_1 (Int32.toInt_inj.mp (by rw [z]; decide))
          | 2, _ => exact fun z => c4_2 (Int32.toInt_inj.mp (by rw [z]; decide))
          | j + 3, hj => exact absurd hj (by omega)
        refine V_iload_n dX4_keyOf_54 rfl ?_
        refine V_i2l dX4_keyOf_55 ?_
        cases h
        exact V_lret rfl dX4_keyOf_56
theorem VM_X4_keyOf (G : GX) (μ : Mem) (r1 : Nat) (hG : gt G = tbl) (hr1 : IsX0 r1) (a2 : Int32) (r : Int64) (h : D_X4_keyOf_0 μ r1 a2 = some r) : VM G mX4_keyOf [.ref 61, .ref r1, .int a2] μ (.inl (some (.long r))) (μ) := V_entry ok_mX4_keyOf rfl rfl (Nat.le_of_ble_eq_true rfl) (T_X4_keyOf_0 G μ r1 hG hr1 a2 r h)
def D_X4_orderYears_83 (fu : Nat) (r1 : Nat) (k2 : Int32 → Mem → Option Mem) (v2 : Int32) (v3 : Int32) (v4 : Int32) (μ : Mem) : Option Mem :=
  gu (ib v4 12) <|
  vl (wI μ 80 (Int32.toNatClampNeg v4) v3) fun m8 =>
  k2 (v2 + 1) m8
set_option maxRecDepth 20000 in
theorem T_X4_orderYears_83 (G : GX) (fu : Nat) (r1 : Nat) (hG : gt G = tbl) (hr1 : IsX0 r1) (k2 : Int32 → Mem → Option Mem) (hk2 : ∀ (v2 : Int32) (μ : Mem) (r : Mem), k2 v2 μ = some r → V G mX4_orderYears 2 [some (.ref 61), some (.ref r1), some (.int v2), none, none] [] μ (.inl none) (r)) : ∀ (v2 : Int32) (v3 : Int32) (v4 : Int32) (μ : Mem) (r : Mem) , D_X4_orderYears_83 fu r1 k2 v2 v3 v4 μ = some r → V G mX4_orderYears 83 [some (.ref 61), some (.ref r1), some (.int v2), some (.int v3), some (.int v4)] [] μ (.inl none) (r) := by
  intro v2 v3 v4 μ r h
  unfold D_X4_orderYears_83 at h
  refine V_aload_n dX4_orderYears_83 rfl ?_
  refine V_getR (kf := 6) k_X4 (by decide) lk_RX4_34 rfl dX4_orderYears_84 (tq_61 hG) rfl ?_
  refine V_iload dX4_orderYears_87 rfl ?_
  refine V_iload_n dX4_orderYears_89 rfl ?_
  obtain ⟨g7, h⟩ := gu_o h
  obtain ⟨m8, e9, h⟩ := vl_o h
  refine V_iastore (μ2 := m8) dX4_orderYears_90 (tq_80 hG) (ib_in g7) e9.symm ?_
  refine V_iinc (v := v2 + 1) (lv2 := [some (.ref 61), some (.ref r1), some (.int (v2 + 1)), some (.int v3), some (.int v4)]) dX4_orderYears_91 rfl rfl (by decide) rfl ?_
  refine V_goto (tgt := 2) dX4_orderYears_94 (by decide) ?_
  exact V_wk [true, true, true, false, false] rfl (hk2 _ _ _ h)
def D_X4_orderYears_32 (fu : Nat) (r1 : Nat) (k2 : Int32 → Mem → Option Mem) : Nat → Int32 → Int32 → Int32 → Mem → Option Mem
  | 0, _, _, _, _ => none
  | n + 1, v2, v3, v4, μ =>
    if v4 ≤ 0 then
      D_X4_orderYears_83 fu r1 k2 v2 v3 v4 μ
    else
      gu (ib (v4 - 1) 12) <|
      gu (ib (μ.1 80 (Int32.toNatClampNeg (v4 - 1))) 12) <|
      gu (ib v3 12) <|
      if (μ.2.1 79 (Int32.toNatClampNeg (μ.1 80 (Int32.toNatClampNeg (v4 - 1))))) ≤ (μ.2.1 79 (Int32.toNatClampNeg v3)) then
        D_X4_orderYears_83 fu r1 k2 v2 v3 v4 μ
      else
        gu (ib (v4 - 1) 12) <|
        gu (ib v4 12) <|
        vl (wI μ 80 (Int32.toNatClampNeg v4) (μ.1 80 (Int32.toNatClampNeg (v4 - 1)))) fun m15 =>
        (D_X4_orderYears_32 fu r1 k2 n) v2 v3 (v4 + (-1)) m15
set_option maxRecDepth 20000 in
theorem T_X4_orderYears_32 (G : GX) (fu : Nat) (r1 : Nat) (hG : gt G = tbl) (hr1 : IsX0 r1) (k2 : Int32 → Mem → Option Mem) (hk2 : ∀ (v2 : Int32) (μ : Mem) (r : Mem), k2 v2 μ = some r → V G mX4_orderYears 2 [some (.ref 61), some (.ref r1), some (.int v2), none, none] [] μ (.inl none) (r)) : ∀ (n : Nat) (v2 : Int32) (v3 : Int32) (v4 : Int32) (μ : Mem) (r : Mem) , D_X4_orderYears_32 fu r1 k2 n v2 v3 v4 μ = some r → V G mX4_orderYears 32 [some (.ref 61), some (.ref r1), some (.int v2), some (.int v3), some (.int v4)] [] μ (.inl none) (r) := by
  intro n
  induction n with
  | zero =>
    intro v2 v3 v4 μ r h
    exact nomatch (show (none : Option Mem) = some r from h)
  | succ n ih =>
    intro v2 v3 v4 μ r h
    rw [D_X4_orderYears_32] at h
    refine V_iload dX4_orderYears_32 rfl ?_
    by_cases c34 : v4 ≤ 0
    · rw [if_pos c34] at h
      refine V_ifle_t (tgt := 83) dX4_orderYears_34 (by decide) c34 ?_
      exact V_wk [true, true, true, true, true] rfl (T_X4_orderYears_83 G fu r1 hG hr1 k2 hk2 _ _ _ _ _ h)
    · rw [if_neg c34] at h
      refine V_ifle_f (tgt := 83) dX4_orderYears_34 (by decide) c34 ?_
      refine V_aload_n dX4_orderYears_37 rfl ?_
      refine V_getR (kf := 5) k_X4 (by decide) lk_RX4_31 rfl dX4_orderYears_38 (tq_61 hG) rfl ?_
      refine V_aload_n dX4_orderYears_41 rfl ?_
      refine V_getR (kf := 6) k_X4 (by decide) lk_RX4_34 rfl dX4_orderYears_42 (tq_61 hG) rfl ?_
      refine V_iload dX4_orderYears_45 rfl ?_
      refine V_iconst (v := 1) dX4_orderYears_47 rfl ?_
      refine V_isub dX4_orderYears_48 ?_
      obtain ⟨g10, h⟩ := gu_o h
      refine V_iaload dX4_orderYears_49 (tq_80 hG) (ib_in g10) ?_
      obtain ⟨g11, h⟩ := gu_o h
      refine V_laload dX4_orderYears_50 (tq_79 hG) (ib_in g11) ?_
      refine V_aload_n dX4_orderYears_51 rfl ?_
      refine V_getR (kf := 5) k_X4 (by decide) lk_RX4_31 rfl dX4_orderYears_52 (tq_61 hG) rfl ?_
      refine V_iload_n dX4_orderYears_55 rfl ?_
      obtain ⟨g12, h⟩ := gu_o h
      refine V_laload dX4_orderYears_56 (tq_79 hG) (ib_in g12) ?_
      refine V_lcmp dX4_orderYears_57 ?_
      by_cases c58 : (μ.2.1 79 (Int32.toNatClampNeg (μ.1 80 (Int32.toNatClampNeg (v4 - 1))))) ≤ (μ.2.1 79 (Int32.toNatClampNeg v3))
      · rw [if_pos c58] at h
        refine V_ifle_t (tgt := 83) dX4_orderYears_58 (by decide) ((lc_le (μ.2.1 79 (Int32.toNatClampNeg (μ.1 80 (Int32.toNatClampNeg (v4 - 1))))) (μ.2.1 79 (Int32.toNatClampNeg v3))).mpr c58) ?_
        exact V_wk [true, true, true, true, true] rfl (T_X4_orderYears_83 G fu r1 hG hr1 k2 hk2 _ _ _ _ _ h)
      · rw [if_neg c58] at h
        refine V_ifle_f (tgt := 83) dX4_orderYears_58 (by decide) (fun z => c58 ((lc_le (μ.2.1 79 (Int32.toNatClampNeg (μ.1 80 (Int32.toNatClampNeg (v4 - 1))))) (μ.2.1 79 (Int32.toNatClampNeg v3))).mp z)) ?_
        refine V_aload_n dX4_orderYears_61 rfl ?_
        refine V_getR (kf := 6) k_X4 (by decide) lk_RX4_34 rfl dX4_orderYears_62 (tq_61 hG) rfl ?_
        refine V_iload dX4_orderYears_65 rfl ?_
        refine V_aload_n dX4_orderYears_67 rfl ?_
        refine V_getR (kf := 6) k_X4 (by decide) lk_RX4_34 rfl dX4_orderYears_68 (tq_61 hG) rfl ?_
        refine V_iload dX4_orderYears_71 rfl ?_
        refine V_iconst (v := 1) dX4_orderYears_73 rfl ?_
        refine V_isub dX4_orderYears_74 ?_
        obtain ⟨g13, h⟩ := gu_o h
        refine V_iaload dX4_orderYears_75 (tq_80 hG) (ib_in g13) ?_
        obtain ⟨g14, h⟩ := gu_o h
        obtain ⟨m15, e16, h⟩ := vl_o h
        refine V_iastore (μ2 := m15) dX4_orderYears_76 (tq_80 hG) (ib_in g14) e16.symm ?_
        refine V_iinc (v := v4 + (-1)) (lv2 := [some (.ref 61), some (.ref r1), some (.int v2), some (.int v3), some (.int (v4 + (-1)))]) dX4_orderYears_77 rfl rfl (by decide) rfl ?_
        refine V_goto (tgt := 32) dX4_orderYears_80 (by decide) ?_
        exact V_wk [true, true, true, true, true] rfl (ih _ _ _ _ _ h)
def D_X4_orderYears_2 (fu : Nat) (r1 : Nat) : Nat → Int32 → Mem → Option Mem
  | 0, _, _ => none
  | n + 1, v2, μ =>
    if (μ.1 61 7) ≤ v2 then
      some μ
    else
      gu (ib v2 12) <|
      (D_X4_keyOf_0 μ r1 (μ.1 80 (Int32.toNatClampNeg v2))).bind fun x2 =>
      gu (ib (μ.1 80 (Int32.toNatClampNeg v2)) 12) <|
      vl (wL μ 79 (Int32.toNatClampNeg (μ.1 80 (Int32.toNatClampNeg v2))) x2) fun m5 =>
      D_X4_orderYears_32 fu r1 (D_X4_orderYears_2 fu r1 n) fu v2 (μ.1 80 (Int32.toNatClampNeg v2)) v2 m5
set_option maxRecDepth 20000 in
theorem T_X4_orderYears_2 (G : GX) (fu : Nat) (r1 : Nat) (hG : gt G = tbl) (hr1 : IsX0 r1) : ∀ (n : Nat) (v2 : Int32) (μ : Mem) (r : Mem) , D_X4_orderYears_2 fu r1 n v2 μ = some r → V G mX4_orderYears 2 [some (.ref 61), some (.ref r1), some (.int v2), none, none] [] μ (.inl none) (r) := by
  intro n
  induction n with
  | zero =>
    intro v2 μ r h
    exact nomatch (show (none : Option Mem) = some r from h)
  | succ n ih =>
    intro v2 μ r h
    rw [D_X4_orderYears_2] at h
    refine V_iload_n dX4_orderYears_2 rfl ?_
    refine V_aload_n dX4_orderYears_3 rfl ?_
    refine V_getI (kf := 7) k_X4 (by decide) lk_RX4_121 rfl dX4_orderYears_4 (tq_61 hG) rfl ?_
    by_cases c7 : (μ.1 61 7) ≤ v2
    · rw [if_pos c7] at h
      refine V_icmpge_t (tgt := 97) dX4_orderYears_7 (by decide) c7 ?_
      cases h
      exact V_vret rfl dX4_orderYears_97
    · rw [if_neg c7] at h
      refine V_icmpge_f (tgt := 97) dX4_orderYears_7 (by decide) c7 ?_
      refine V_aload_n dX4_orderYears_10 rfl ?_
      refine V_getR (kf := 6) k_X4 (by decide) lk_RX4_34 rfl dX4_orderYears_11 (tq_61 hG) rfl ?_
      refine V_iload_n dX4_orderYears_14 rfl ?_
      obtain ⟨g1, h⟩ := gu_o h
      refine V_iaload dX4_orderYears_15 (tq_80 hG) (ib_in g1) ?_
      refine V_istore_n (lv2 := [some (.ref 61), some (.ref r1), some (.int v2), some (.int (μ.1 80 (Int32.toNatClampNeg v2))), none]) dX4_orderYears_16 (by decide) rfl ?_
      refine V_aload_n dX4_orderYears_17 rfl ?_
      refine V_getR (kf := 5) k_X4 (by decide) lk_RX4_31 rfl dX4_orderYears_18 (tq_61 hG) rfl ?_
      refine V_iload_n dX4_orderYears_21 rfl ?_
      refine V_aload_n dX4_orderYears_22 rfl ?_
      refine V_aload_n dX4_orderYears_23 rfl ?_
      refine V_iload_n dX4_orderYears_24 rfl ?_
      obtain ⟨x2, y3, h⟩ := bi_o h
      refine V_callV (as := [.ref r1, .int (μ.1 80 (Int32.toNatClampNeg v2))]) (q := 61) (rest := [.int (μ.1 80 (Int32.toNatClampNeg v2)), .ref 79]) dX4_orderYears_25 ov_mX4_keyOf lk_RX4_128 (by decide) (by decide) rfl rfl (Nat.le_of_ble_eq_true rfl) (tq_61 hG) rfl (VM_X4_keyOf G μ r1 hG hr1 (μ.1 80 (Int32.toNatClampNeg v2)) _ y3) ?_
      obtain ⟨g4, h⟩ := gu_o h
      obtain ⟨m5, e6, h⟩ := vl_o h
      refine V_lastore (μ2 := m5) dX4_orderYears_28 (tq_79 hG) (ib_in g4) e6.symm ?_
      refine V_iload_n dX4_orderYears_29 rfl ?_
      refine V_istore (lv2 := [some (.ref 61), some (.ref r1), some (.int v2), some (.int (μ.1 80 (Int32.toNatClampNeg v2))), some (.int v2)]) dX4_orderYears_30 (by decide) rfl ?_
      exact V_wk [true, true, true, true, true] rfl (T_X4_orderYears_32 G fu r1 hG hr1 (D_X4_orderYears_2 fu r1 n) ih fu _ _ _ _ _ h)
def D_X4_orderYears_0 (fu : Nat) (r1 : Nat) (μ : Mem) : Option Mem :=
  D_X4_orderYears_2 fu r1 fu 0 μ
set_option maxRecDepth 20000 in
theorem T_X4_orderYears_0 (G : GX) (fu : Nat) (r1 : Nat) (hG : gt G = tbl) (hr1 : IsX0 r1) : ∀ (μ : Mem) (r : Mem) , D_X4_orderYears_0 fu r1 μ = some r → V G mX4_orderYears 0 [some (.ref 61), some (.ref r1), none, none, none] [] μ (.inl none) (r) := by
  intro μ r h
  unfold D_X4_orderYears_0 at h
  refine V_iconst (v := 0) dX4_orderYears_0 rfl ?_
  refine V_istore_n (lv2 := [some (.ref 61), some (.ref r1), some (.int 0), none, none]) dX4_orderYears_1 (by decide) rfl ?_
  exact V_wk [true, true, true, false, false] rfl (T_X4_orderYears_2 G fu r1 hG hr1 fu _ _ _ h)
theorem VM_X4_orderYears (G : GX) (fu : Nat) (r1 : Nat) (hG : gt G = tbl) (hr1 : IsX0 r1) (μ : Mem) (r : Mem) (h : D_X4_orderYears_0 fu r1 μ = some r) : VM G mX4_orderYears [.ref 61, .ref r1] μ (.inl none) (r) := V_entry ok_mX4_orderYears rfl rfl (Nat.le_of_ble_eq_true rfl) (T_X4_orderYears_0 G fu r1 hG hr1 μ r h)
def D_X4_payInTurn_74 (fu : Nat) (r1 : Nat) (v5 : Int64) (s1 : Int32) (μ : Mem) : Option Mem :=
  gu (ib s1 7) <|
  gu (ib s1 7) <|
  vl (wL μ 68 (Int32.toNatClampNeg s1) ((μ.2.1 68 (Int32.toNatClampNeg s1)) + v5)) fun m5 =>
  some m5
set_option maxRecDepth 20000 in
theorem T_X4_payInTurn_74 (G : GX) (fu : Nat) (r1 : Nat) (hG : gt G = tbl) (hr1 : IsX0 r1) : ∀ (v5 : Int64) (s1 : Int32) (μ : Mem) (r : Mem) , D_X4_payInTurn_74 fu r1 v5 s1 μ = some r → V G mX4_payInTurn 74 [none, none, none, none, none, some (.long v5), none, none] [.int s1, .ref 68] μ (.inl none) (r) := by
  intro v5 s1 μ r h
  unfold D_X4_payInTurn_74 at h
  refine V_dup2 dX4_payInTurn_74 rfl rfl ?_
  obtain ⟨g3, h⟩ := gu_o h
  refine V_laload dX4_payInTurn_75 (tq_68 hG) (ib_in g3) ?_
  refine V_lload dX4_payInTurn_76 rfl ?_
  refine V_ladd dX4_payInTurn_78 ?_
  obtain ⟨g4, h⟩ := gu_o h
  obtain ⟨m5, e6, h⟩ := vl_o h
  refine V_lastore (μ2 := m5) dX4_payInTurn_79 (tq_68 hG) (ib_in g4) e6.symm ?_
  cases h
  exact V_vret rfl dX4_payInTurn_80
def D_X4_payInTurn_55 (fu : Nat) (r1 : Nat) (v5 : Int64) (μ : Mem) : Option Mem :=
  if (μ.1 61 7) ≤ 0 then
    D_X4_payInTurn_74 fu r1 v5 3 μ
  else
    D_X4_payInTurn_74 fu r1 v5 2 μ
set_option maxRecDepth 20000 in
theorem T_X4_payInTurn_55 (G : GX) (fu : Nat) (r1 : Nat) (hG : gt G = tbl) (hr1 : IsX0 r1) : ∀ (v5 : Int64) (μ : Mem) (r : Mem) , D_X4_payInTurn_55 fu r1 v5 μ = some r → V G mX4_payInTurn 55 [some (.ref 61), none, none, none, none, some (.long v5), none, none] [] μ (.inl none) (r) := by
  intro v5 μ r h
  unfold D_X4_payInTurn_55 at h
  refine V_aload_n dX4_payInTurn_55 rfl ?_
  refine V_getR (kf := 0) k_X4 (by decide) lk_RX4_12 rfl dX4_payInTurn_56 (tq_61 hG) rfl ?_
  refine V_getR (kf := 5) k_X3 (by decide) lk_RX4_114 rfl dX4_payInTurn_59 (tq_62 hG) rfl ?_
  refine V_aload_n dX4_payInTurn_62 rfl ?_
  refine V_getI (kf := 7) k_X4 (by decide) lk_RX4_121 rfl dX4_payInTurn_63 (tq_61 hG) rfl ?_
  by_cases c66 : (μ.1 61 7) ≤ 0
  · rw [if_pos c66] at h
    refine V_ifle_t (tgt := 73) dX4_payInTurn_66 (by decide) c66 ?_
    refine V_iconst (v := 3) dX4_payInTurn_73 rfl ?_
    exact V_wk [false, false, false, false, false, true, false, false] rfl (T_X4_payInTurn_74 G fu r1 hG hr1 _ _ _ _ h)
  · rw [if_neg c66] at h
    refine V_ifle_f (tgt := 73) dX4_payInTurn_66 (by decide) c66 ?_
    refine V_iconst (v := 2) dX4_payInTurn_69 rfl ?_
    refine V_goto (tgt := 74) dX4_payInTurn_70 (by decide) ?_
    exact V_wk [false, false, false, false, false, true, false, false] rfl (T_X4_payInTurn_74 G fu r1 hG hr1 _ _ _ _ h)
def D_X4_payInTurn_13 (fu : Nat) (r1 : Nat) : Nat → Int32 → Int64 → Int32 → Mem → Option Mem
  | 0, _, _, _, _ => none
  | n + 1, v2, v5, v7, μ =>
    if (μ.1 61 7) ≤ v7 then
      D_X4_payInTurn_55 fu r1 v5 μ
    else
      if v5 ≤ (0 : Int64) then
        D_X4_payInTurn_55 fu r1 v5 μ
      else
        gu (ib v7 12) <|
        (D_X3_fill_0 fu 62 r1 v2 (μ.1 80 (Int32.toNatClampNeg v7)) v5 μ).bind fun x8 =>
        (D_X4_payInTurn_13 fu r1 n) v2 x8.1 (v7 + 1) x8.2
set_option maxRecDepth 20000 in
theorem T_X4_payInTurn_13 (G : GX) (fu : Nat) (r1 : Nat) (hG : gt G = tbl) (hr1 : IsX0 r1) : ∀ (n : Nat) (v2 : Int32) (v5 : Int64) (v7 : Int32) (μ : Mem) (r : Mem) , D_X4_payInTurn_13 fu r1 n v2 v5 v7 μ = some r → V G mX4_payInTurn 13 [some (.ref 61), some (.ref r1), some (.int v2), none, none, some (.long v5), none, some (.int v7)] [] μ (.inl none) (r) := by
  intro n
  induction n with
  | zero =>
    intro v2 v5 v7 μ r h
    exact nomatch (show (none : Option Mem) = some r from h)
  | succ n ih =>
    intro v2 v5 v7 μ r h
    rw [D_X4_payInTurn_13] at h
    refine V_iload dX4_payInTurn_13 rfl ?_
    refine V_aload_n dX4_payInTurn_15 rfl ?_
    refine V_getI (kf := 7) k_X4 (by decide) lk_RX4_121 rfl dX4_payInTurn_16 (tq_61 hG) rfl ?_
    by_cases c19 : (μ.1 61 7) ≤ v7
    · rw [if_pos c19] at h
      refine V_icmpge_t (tgt := 55) dX4_payInTurn_19 (by decide) c19 ?_
      exact V_wk [true, false, false, false, false, true, false, false] rfl (T_X4_payInTurn_55 G fu r1 hG hr1 _ _ _ h)
    · rw [if_neg c19] at h
      refine V_icmpge_f (tgt := 55) dX4_payInTurn_19 (by decide) c19 ?_
      refine V_lload dX4_payInTurn_22 rfl ?_
      refine V_lconst (v := 0) dX4_payInTurn_24 rfl ?_
      refine V_lcmp dX4_payInTurn_25 ?_
      by_cases c26 : v5 ≤ (0 : Int64)
      · rw [if_pos c26] at h
        refine V_ifle_t (tgt := 55) dX4_payInTurn_26 (by decide) ((lc_le v5 0).mpr c26) ?_
        exact V_wk [true, false, false, false, false, true, false, false] rfl (T_X4_payInTurn_55 G fu r1 hG hr1 _ _ _ h)
      · rw [if_neg c26] at h
        refine V_ifle_f (tgt := 55) dX4_payInTurn_26 (by decide) (fun z => c26 ((lc_le v5 0).mp z)) ?_
        refine V_aload_n dX4_payInTurn_29 rfl ?_
        refine V_getR (kf := 0) k_X4 (by decide) lk_RX4_12 rfl dX4_payInTurn_30 (tq_61 hG) rfl ?_
        refine V_aload_n dX4_payInTurn_33 rfl ?_
        refine V_iload_n dX4_payInTurn_34 rfl ?_
        refine V_aload_n dX4_payInTurn_35 rfl ?_
        refine V_getR (kf := 6) k_X4 (by decide) lk_RX4_34 rfl dX4_payInTurn_36 (tq_61 hG) rfl ?_
        refine V_iload dX4_payInTurn_39 rfl ?_
        obtain ⟨g7, h⟩ := gu_o h
        refine V_iaload dX4_payInTurn_41 (tq_80 hG) (ib_in g7) ?_
        refine V_lload dX4_payInTurn_42 rfl ?_
        obtain ⟨x8, y9, h⟩ := bi_o h
        refine V_callV (as := [.ref r1, .int v2, .int (μ.1 80 (Int32.toNatClampNeg v7)), .long v5]) (q := 62) (rest := []) dX4_payInTurn_44 ov_mX3_fill lk_RX4_117 (by decide) (by decide) rfl rfl (Nat.le_of_ble_eq_true rfl) (tq_62 hG) rfl (VM_X3_fill G fu 62 r1 hG (Or.inl rfl) hr1 v2 (μ.1 80 (Int32.toNatClampNeg v7)) v5 μ _ y9) ?_
        refine V_lstore (lv2 := [some (.ref 61), some (.ref r1), some (.int v2), none, none, some (.long x8.1), none, some (.int v7)]) dX4_payInTurn_47 (by decide) rfl ?_
        refine V_iinc (v := v7 + 1) (lv2 := [some (.ref 61), some (.ref r1), some (.int v2), none, none, some (.long x8.1), none, some (.int (v7 + 1))]) dX4_payInTurn_49 rfl rfl (by decide) rfl ?_
        refine V_goto (tgt := 13) dX4_payInTurn_52 (by decide) ?_
        exact V_wk [true, true, true, false, false, true, false, true] rfl (ih _ _ _ _ _ h)
def D_X4_payInTurn_0 (fu : Nat) (r1 : Nat) (a2 : Int32) (a3 : Int64) (μ : Mem) : Option Mem :=
  (D_X3_clear_0 fu 62 μ).bind fun x1 =>
  D_X4_payInTurn_13 fu r1 fu a2 a3 0 x1
set_option maxRecDepth 20000 in
theorem T_X4_payInTurn_0 (G : GX) (fu : Nat) (r1 : Nat) (hG : gt G = tbl) (hr1 : IsX0 r1) : ∀ (a2 : Int32) (a3 : Int64) (μ : Mem) (r : Mem) , D_X4_payInTurn_0 fu r1 a2 a3 μ = some r → V G mX4_payInTurn 0 [some (.ref 61), some (.ref r1), some (.int a2), some (.long a3), none, none, none, none] [] μ (.inl none) (r) := by
  intro a2 a3 μ r h
  unfold D_X4_payInTurn_0 at h
  refine V_aload_n dX4_payInTurn_0 rfl ?_
  refine V_getR (kf := 0) k_X4 (by decide) lk_RX4_12 rfl dX4_payInTurn_1 (tq_61 hG) rfl ?_
  obtain ⟨x1, y2, h⟩ := bi_o h
  refine V_callV (as := []) (q := 62) (rest := []) dX4_payInTurn_4 ov_mX3_clear lk_RX4_107 (by decide) (by decide) rfl rfl (Nat.le_of_ble_eq_true rfl) (tq_62 hG) rfl (VM_X3_clear G fu 62 hG (Or.inl rfl) μ _ y2) ?_
  refine V_lload_n dX4_payInTurn_7 rfl ?_
  refine V_lstore (lv2 := [some (.ref 61), some (.ref r1), some (.int a2), some (.long a3), none, some (.long a3), none, none]) dX4_payInTurn_8 (by decide) rfl ?_
  refine V_iconst (v := 0) dX4_payInTurn_10 rfl ?_
  refine V_istore (lv2 := [some (.ref 61), some (.ref r1), some (.int a2), some (.long a3), none, some (.long a3), none, some (.int 0)]) dX4_payInTurn_11 (by decide) rfl ?_
  exact V_wk [true, true, true, false, false, true, false, true] rfl (T_X4_payInTurn_13 G fu r1 hG hr1 fu _ _ _ _ _ h)
theorem VM_X4_payInTurn (G : GX) (fu : Nat) (r1 : Nat) (hG : gt G = tbl) (hr1 : IsX0 r1) (a2 : Int32) (a3 : Int64) (μ : Mem) (r : Mem) (h : D_X4_payInTurn_0 fu r1 a2 a3 μ = some r) : VM G mX4_payInTurn [.ref 61, .ref r1, .int a2, .long a3] μ (.inl none) (r) := V_entry ok_mX4_payInTurn rfl rfl (Nat.le_of_ble_eq_true rfl) (T_X4_payInTurn_0 G fu r1 hG hr1 a2 a3 μ r h)
def D_X4_contribute_207 (fu : Nat)  : Nat → Int32 → Int32 → Mem → Option Mem
  | 0, _, _, _ => none
  | n + 1, v1, v8, μ =>
    if v1 ≤ v8 then
      some μ
    else
      gu (ib v8 40) <|
      gu (ib v8 40) <|
      gu (ib v8 40) <|
      vl (wL μ 65 (Int32.toNatClampNeg v8) ((μ.2.1 65 (Int32.toNatClampNeg v8)) + (μ.2.1 83 (Int32.toNatClampNeg v8)))) fun m8 =>
      gu (ib v8 40) <|
      gu (ib v8 40) <|
      gu (ib v8 40) <|
      vl (wL m8 63 (Int32.toNatClampNeg v8) ((m8.2.1 63 (Int32.toNatClampNeg v8)) + (m8.2.1 83 (Int32.toNatClampNeg v8)))) fun m13 =>
      (D_X4_contribute_207 fu n) v1 (v8 + 1) m13
set_option maxRecDepth 20000 in
theorem T_X4_contribute_207 (G : GX) (fu : Nat)  (hG : gt G = tbl) : ∀ (n : Nat) (v1 : Int32) (v8 : Int32) (μ : Mem) (r : Mem) , D_X4_contribute_207 fu n v1 v8 μ = some r → V G mX4_contribute 207 [some (.ref 61), some (.int v1), none, none, none, none, none, none, some (.int v8)] [] μ (.inl none) (r) := by
  intro n
  induction n with
  | zero =>
    intro v1 v8 μ r h
    exact nomatch (show (none : Option Mem) = some r from h)
  | succ n ih =>
    intro v1 v8 μ r h
    rw [D_X4_contribute_207] at h
    refine V_iload dX4_contribute_207 rfl ?_
    refine V_iload_n dX4_contribute_209 rfl ?_
    by_cases c210 : v1 ≤ v8
    · rw [if_pos c210] at h
      refine V_icmpge_t (tgt := 259) dX4_contribute_210 (by decide) c210 ?_
      cases h
      exact V_vret rfl dX4_contribute_259
    · rw [if_neg c210] at h
      refine V_icmpge_f (tgt := 259) dX4_contribute_210 (by decide) c210 ?_
      refine V_aload_n dX4_contribute_213 rfl ?_
      refine V_getR (kf := 0) k_X4 (by decide) lk_RX4_12 rfl dX4_contribute_214 (tq_61 hG) rfl ?_
      refine V_getR (kf := 2) k_X3 (by decide) lk_RX4_142 rfl dX4_contribute_217 (tq_62 hG) rfl ?_
      refine V_iload dX4_contribute_220 rfl ?_
      refine V_dup2 dX4_contribute_222 rfl rfl ?_
      obtain ⟨g5, h⟩ := gu_o h
      refine V_laload dX4_contribute_223 (tq_65 hG) (ib_in g5) ?_
      refine V_aload_n dX4_contribute_224 rfl ?_
      refine V_getR (kf := 10) k_X4 (by decide) lk_RX4_44 rfl dX4_contribute_225 (tq_61 hG) rfl ?_
      refine V_iload dX4_contribute_228 rfl ?_
      obtain ⟨g6, h⟩ := gu_o h
      refine V_laload dX4_contribute_230 (tq_83 hG) (ib_in g6) ?_
      refine V_ladd dX4_contribute_231 ?_
      obtain ⟨g7, h⟩ := gu_o h
      obtain ⟨m8, e9, h⟩ := vl_o h
      refine V_lastore (μ2 := m8) dX4_contribute_232 (tq_65 hG) (ib_in g7) e9.symm ?_
      refine V_aload_n dX4_contribute_233 rfl ?_
      refine V_getR (kf := 0) k_X4 (by decide) lk_RX4_12 rfl dX4_contribute_234 (tq_61 hG) rfl ?_
      refine V_getR (kf := 0) k_X3 (by decide) lk_RX4_139 rfl dX4_contribute_237 (tq_62 hG) rfl ?_
      refine V_iload dX4_contribute_240 rfl ?_
      refine V_dup2 dX4_contribute_242 rfl rfl ?_
      obtain ⟨g10, h⟩ := gu_o h
      refine V_laload dX4_contribute_243 (tq_63 hG) (ib_in g10) ?_
      refine V_aload_n dX4_contribute_244 rfl ?_
      refine V_getR (kf := 10) k_X4 (by decide) lk_RX4_44 rfl dX4_contribute_245 (tq_61 hG) rfl ?_
      refine V_iload dX4_contribute_248 rfl ?_
      obtain ⟨g11, h⟩ := gu_o h
      refine V_laload dX4_contribute_250 (tq_83 hG) (ib_in g11) ?_
      refine V_ladd dX4_contribute_251 ?_
      obtain ⟨g12, h⟩ := gu_o h
      obtain ⟨m13, e14, h⟩ := vl_o h
      refine V_lastore (μ2 := m13) dX4_contribute_252 (tq_63 hG) (ib_in g12) e14.symm ?_
      refine V_iinc (v := v8 + 1) (lv2 := [some (.ref 61), some (.int v1), none, none, none, none, none, none, some (.int (v8 + 1))]) dX4_contribute_253 rfl rfl (by decide) rfl ?_
      refine V_goto (tgt := 207) dX4_contribute_256 (by decide) ?_
      exact V_wk [true, true, false, false, false, false, false, false, true] rfl (ih _ _ _ _ h)
def D_X4_contribute_138 (fu : Nat)  : Nat → Int32 → Int64 → Int32 → Mem → Option Mem
  | 0, _, _, _, _ => none
  | n + 1, v1, v6, v8, μ =>
    if v1 ≤ v8 then
      (D_X6_shareOut_0 fu 82 40 83 40 v6 v1 μ).bind fun x3 =>
      D_X4_contribute_207 fu fu v1 0 x3
    else
      gu (ib v8 40) <|
      gu (ib v8 40) <|
      gu (ib v8 40) <|
      vl (wL μ 65 (Int32.toNatClampNeg v8) ((μ.2.1 65 (Int32.toNatClampNeg v8)) - (μ.2.1 83 (Int32.toNatClampNeg v8)))) fun m18 =>
      gu (ib v8 40) <|
      gu (ib v8 40) <|
      gu (ib v8 40) <|
      vl (wL m18 63 (Int32.toNatClampNeg v8) ((m18.2.1 63 (Int32.toNatClampNeg v8)) - (m18.2.1 83 (Int32.toNatClampNeg v8)))) fun m23 =>
      (D_X4_contribute_138 fu n) v1 v6 (v8 + 1) m23
set_option maxRecDepth 20000 in
theorem T_X4_contribute_138 (G : GX) (fu : Nat)  (hG : gt G = tbl) : ∀ (n : Nat) (v1 : Int32) (v6 : Int64) (v8 : Int32) (μ : Mem) (r : Mem) , D_X4_contribute_138 fu n v1 v6 v8 μ = some r → V G mX4_contribute 138 [some (.ref 61), some (.int v1), none, none, none, none, some (.long v6), none, some (.int v8)] [] μ (.inl none) (r) := by
  intro n
  induction n with
  | zero =>
    intro v1 v6 v8 μ r h
    exact nomatch (show (none : Option Mem) = some r from h)
  | succ n ih =>
    intro v1 v6 v8 μ r h
    rw [D_X4_contribute_138] at h
    refine V_iload dX4_contribute_138 rfl ?_
    refine V_iload_n dX4_contribute_140 rfl ?_
    by_cases c141 : v1 ≤ v8
    · rw [if_pos c141] at h
      refine V_icmpge_t (tgt := 190) dX4_contribute_141 (by decide) c141 ?_
      refine V_lload dX4_contribute_190 rfl ?_
      refine V_aload_n dX4_contribute_192 rfl ?_
      refine V_getR (kf := 9) k_X4 (by decide) lk_RX4_41 rfl dX4_contribute_193 (tq_61 hG) rfl ?_
      refine V_iload_n dX4_contribute_196 rfl ?_
      refine V_aload_n dX4_contribute_197 rfl ?_
      refine V_getR (kf := 10) k_X4 (by decide) lk_RX4_44 rfl dX4_contribute_198 (tq_61 hG) rfl ?_
      obtain ⟨x3, y4, h⟩ := bi_o h
      refine V_callSN (as := [.long v6, .ref 82, .int v1, .ref 83]) (rest := []) dX4_contribute_201 os_mX6_shareOut rfl (List.mem_of_getElem? (i := 8) rfl) (by decide) (by decide) rfl rfl (Nat.le_of_ble_eq_true rfl) (VM_X6_shareOut G fu 82 40 83 40 hG (tq_82 hG) (tq_83 hG) v6 v1 μ _ y4) ?_
      refine V_iconst (v := 0) dX4_contribute_204 rfl ?_
      refine V_istore (lv2 := [some (.ref 61), some (.int v1), none, none, none, none, some (.long v6), none, some (.int 0)]) dX4_contribute_205 (by decide) rfl ?_
      exact V_wk [true, true, false, false, false, false, false, false, true] rfl (T_X4_contribute_207 G fu hG fu _ _ _ _ h)
    · rw [if_neg c141] at h
      refine V_icmpge_f (tgt := 190) dX4_contribute_141 (by decide) c141 ?_
      refine V_aload_n dX4_contribute_144 rfl ?_
      refine V_getR (kf := 0) k_X4 (by decide) lk_RX4_12 rfl dX4_contribute_145 (tq_61 hG) rfl ?_
      refine V_getR (kf := 2) k_X3 (by decide) lk_RX4_142 rfl dX4_contribute_148 (tq_62 hG) rfl ?_
      refine V_iload dX4_contribute_151 rfl ?_
      refine V_dup2 dX4_contribute_153 rfl rfl ?_
      obtain ⟨g15, h⟩ := gu_o h
      refine V_laload dX4_contribute_154 (tq_65 hG) (ib_in g15) ?_
      refine V_aload_n dX4_contribute_155 rfl ?_
      refine V_getR (kf := 10) k_X4 (by decide) lk_RX4_44 rfl dX4_contribute_156 (tq_61 hG) rfl ?_
      refine V_iload dX4_contribute_159 rfl ?_
      obtain ⟨g16, h⟩ := gu_o h
      refine V_laload dX4_contribute_161 (tq_83 hG) (ib_in g16) ?_
      refine V_lsub dX4_contribute_162 ?_
      obtain ⟨g17, h⟩ := gu_o h
      obtain ⟨m18, e19, h⟩ := vl_o h
      refine V_lastore (μ2 := m18) dX4_contribute_163 (tq_65 hG) (ib_in g17) e19.symm ?_
      refine V_aload_n dX4_contribute_164 rfl ?_
      refine V_getR (kf := 0) k_X4 (by decide) lk_RX4_12 rfl dX4_contribute_165 (tq_61 hG) rfl ?_
      refine V_getR (kf := 0) k_X3 (by decide) lk_RX4_139 rfl dX4_contribute_168 (tq_62 hG) rfl ?_
      refine V_iload dX4_contribute_171 rfl ?_
      refine V_dup2 dX4_contribute_173 rfl rfl ?_
      obtain ⟨g20, h⟩ := gu_o h
      refine V_laload dX4_contribute_174 (tq_63 hG) (ib_in g20) ?_
      refine V_aload_n dX4_contribute_175 rfl ?_
      refine V_getR (kf := 10) k_X4 (by decide) lk_RX4_44 rfl dX4_contribute_176 (tq_61 hG) rfl ?_
      refine V_iload dX4_contribute_179 rfl ?_
      obtain ⟨g21, h⟩ := gu_o h
      refine V_laload dX4_contribute_181 (tq_83 hG) (ib_in g21) ?_
      refine V_lsub dX4_contribute_182 ?_
      obtain ⟨g22, h⟩ := gu_o h
      obtain ⟨m23, e24, h⟩ := vl_o h
      refine V_lastore (μ2 := m23) dX4_contribute_183 (tq_63 hG) (ib_in g22) e24.symm ?_
      refine V_iinc (v := v8 + 1) (lv2 := [some (.ref 61), some (.int v1), none, none, none, none, some (.long v6), none, some (.int (v8 + 1))]) dX4_contribute_184 rfl rfl (by decide) rfl ?_
      refine V_goto (tgt := 138) dX4_contribute_187 (by decide) ?_
      exact V_wk [true, true, false, false, false, false, true, false, true] rfl (ih _ _ _ _ _ h)
def D_X4_contribute_119 (fu : Nat)  (v1 : Int32) (s0 : Int64) (μ : Mem) : Option Mem :=
  (D_X6_shareOut_0 fu 81 40 83 40 s0 v1 μ).bind fun x1 =>
  D_X4_contribute_138 fu fu v1 s0 0 x1
set_option maxRecDepth 20000 in
theorem T_X4_contribute_119 (G : GX) (fu : Nat)  (hG : gt G = tbl) : ∀ (v1 : Int32) (s0 : Int64) (μ : Mem) (r : Mem) , D_X4_contribute_119 fu v1 s0 μ = some r → V G mX4_contribute 119 [some (.ref 61), some (.int v1), none, none, none, none, none, none, none] [.long s0] μ (.inl none) (r) := by
  intro v1 s0 μ r h
  unfold D_X4_contribute_119 at h
  refine V_lstore (lv2 := [some (.ref 61), some (.int v1), none, none, none, none, some (.long s0), none, none]) dX4_contribute_119 (by decide) rfl ?_
  refine V_lload dX4_contribute_121 rfl ?_
  refine V_aload_n dX4_contribute_123 rfl ?_
  refine V_getR (kf := 8) k_X4 (by decide) lk_RX4_38 rfl dX4_contribute_124 (tq_61 hG) rfl ?_
  refine V_iload_n dX4_contribute_127 rfl ?_
  refine V_aload_n dX4_contribute_128 rfl ?_
  refine V_getR (kf := 10) k_X4 (by decide) lk_RX4_44 rfl dX4_contribute_129 (tq_61 hG) rfl ?_
  obtain ⟨x1, y2, h⟩ := bi_o h
  refine V_callSN (as := [.long s0, .ref 81, .int v1, .ref 83]) (rest := []) dX4_contribute_132 os_mX6_shareOut rfl (List.mem_of_getElem? (i := 8) rfl) (by decide) (by decide) rfl rfl (Nat.le_of_ble_eq_true rfl) (VM_X6_shareOut G fu 81 40 83 40 hG (tq_81 hG) (tq_83 hG) s0 v1 μ _ y2) ?_
  refine V_iconst (v := 0) dX4_contribute_135 rfl ?_
  refine V_istore (lv2 := [some (.ref 61), some (.int v1), none, none, none, none, some (.long s0), none, some (.int 0)]) dX4_contribute_136 (by decide) rfl ?_
  exact V_wk [true, true, false, false, false, false, true, false, true] rfl (T_X4_contribute_138 G fu hG fu _ _ _ _ _ h)
def D_X4_contribute_77 (fu : Nat)  (k8 : Int32 → Int64 → Int64 → Int32 → Mem → Option Mem) (v1 : Int32) (v2 : Int64) (v4 : Int64) (v6 : Int32) (s1 : Int32) (s2 : Int64) (μ : Mem) : Option Mem :=
  gu (ib s1 40) <|
  vl (wL μ 82 (Int32.toNatClampNeg s1) s2) fun m33 =>
  gu (ib v6 40) <|
  gu (ib v6 40) <|
  k8 v1 (v2 + (m33.2.1 81 (Int32.toNatClampNeg v6))) (v4 + (m33.2.1 82 (Int32.toNatClampNeg v6))) (v6 + 1) m33
set_option maxRecDepth 20000 in
theorem T_X4_contribute_77 (G : GX) (fu : Nat)  (hG : gt G = tbl) (k8 : Int32 → Int64 → Int64 → Int32 → Mem → Option Mem) (hk8 : ∀ (v1 : Int32) (v2 : Int64) (v4 : Int64) (v6 : Int32) (μ : Mem) (r : Mem), k8 v1 v2 v4 v6 μ = some r → V G mX4_contribute 8 [some (.ref 61), some (.int v1), some (.long v2), none, some (.long v4), none, some (.int v6), none, none] [] μ (.inl none) (r)) : ∀ (v1 : Int32) (v2 : Int64) (v4 : Int64) (v6 : Int32) (s1 : Int32) (s2 : Int64) (μ : Mem) (r : Mem) , D_X4_contribute_77 fu k8 v1 v2 v4 v6 s1 s2 μ = some r → V G mX4_contribute 77 [some (.ref 61), some (.int v1), some (.long v2), none, some (.long v4), none, some (.int v6), none, none] [.long s2, .int s1, .ref 82] μ (.inl none) (r) := by
  intro v1 v2 v4 v6 s1 s2 μ r h
  unfold D_X4_contribute_77 at h
  obtain ⟨g32, h⟩ := gu_o h
  obtain ⟨m33, e34, h⟩ := vl_o h
  refine V_lastore (μ2 := m33) dX4_contribute_77 (tq_82 hG) (ib_in g32) e34.symm ?_
  refine V_lload_n dX4_contribute_78 rfl ?_
  refine V_aload_n dX4_contribute_79 rfl ?_
  refine V_getR (kf := 8) k_X4 (by decide) lk_RX4_38 rfl dX4_contribute_80 (tq_61 hG) rfl ?_
  refine V_iload dX4_contribute_83 rfl ?_
  obtain ⟨g35, h⟩ := gu_o h
  refine V_laload dX4_contribute_85 (tq_81 hG) (ib_in g35) ?_
  refine V_ladd dX4_contribute_86 ?_
  refine V_lstore_n (lv2 := [some (.ref 61), some (.int v1), some (.long (v2 + (m33.2.1 81 (Int32.toNatClampNeg v6)))), none, some (.long v4), none, some (.int v6), none, none]) dX4_contribute_87 (by decide) rfl ?_
  refine V_lload dX4_contribute_88 rfl ?_
  refine V_aload_n dX4_contribute_90 rfl ?_
  refine V_getR (kf := 9) k_X4 (by decide) lk_RX4_41 rfl dX4_contribute_91 (tq_61 hG) rfl ?_
  refine V_iload dX4_contribute_94 rfl ?_
  obtain ⟨g36, h⟩ := gu_o h
  refine V_laload dX4_contribute_96 (tq_82 hG) (ib_in g36) ?_
  refine V_ladd dX4_contribute_97 ?_
  refine V_lstore (lv2 := [some (.ref 61), some (.int v1), some (.long (v2 + (m33.2.1 81 (Int32.toNatClampNeg v6)))), none, some (.long (v4 + (m33.2.1 82 (Int32.toNatClampNeg v6)))), none, some (.int v6), none, none]) dX4_contribute_98 (by decide) rfl ?_
  refine V_iinc (v := v6 + 1) (lv2 := [some (.ref 61), some (.int v1), some (.long (v2 + (m33.2.1 81 (Int32.toNatClampNeg v6)))), none, some (.long (v4 + (m33.2.1 82 (Int32.toNatClampNeg v6)))), none, some (.int (v6 + 1)), none, none]) dX4_contribute_100 rfl rfl (by decide) rfl ?_
  refine V_goto (tgt := 8) dX4_contribute_103 (by decide) ?_
  exact V_wk [true, true, true, false, true, false, true, false, false] rfl (hk8 _ _ _ _ _ _ h)
def D_X4_contribute_56 (fu : Nat)  (k8 : Int32 → Int64 → Int64 → Int32 → Mem → Option Mem) (v1 : Int32) (v2 : Int64) (v4 : Int64) (v6 : Int32) (v7 : Int64) (s1 : Int32) (s2 : Int64) (μ : Mem) : Option Mem :=
  gu (ib s1 40) <|
  vl (wL μ 81 (Int32.toNatClampNeg s1) s2) fun m30 =>
  if (0 : Int64) ≤ v7 then
    D_X4_contribute_77 fu k8 v1 v2 v4 v6 v6 0 m30
  else
    D_X4_contribute_77 fu k8 v1 v2 v4 v6 v6 (-v7) m30
set_option maxRecDepth 20000 in
theorem T_X4_contribute_56 (G : GX) (fu : Nat)  (hG : gt G = tbl) (k8 : Int32 → Int64 → Int64 → Int32 → Mem → Option Mem) (hk8 : ∀ (v1 : Int32) (v2 : Int64) (v4 : Int64) (v6 : Int32) (μ : Mem) (r : Mem), k8 v1 v2 v4 v6 μ = some r → V G mX4_contribute 8 [some (.ref 61), some (.int v1), some (.long v2), none, some (.long v4), none, some (.int v6), none, none] [] μ (.inl none) (r)) : ∀ (v1 : Int32) (v2 : Int64) (v4 : Int64) (v6 : Int32) (v7 : Int64) (s1 : Int32) (s2 : Int64) (μ : Mem) (r : Mem) , D_X4_contribute_56 fu k8 v1 v2 v4 v6 v7 s1 s2 μ = some r → V G mX4_contribute 56 [some (.ref 61), some (.int v1), some (.long v2), none, some (.long v4), none, some (.int v6), some (.long v7), none] [.long s2, .int s1, .ref 81] μ (.inl none) (r) := by
  intro v1 v2 v4 v6 v7 s1 s2 μ r h
  unfold D_X4_contribute_56 at h
  obtain ⟨g29, h⟩ := gu_o h
  obtain ⟨m30, e31, h⟩ := vl_o h
  refine V_lastore (μ2 := m30) dX4_contribute_56 (tq_81 hG) (ib_in g29) e31.symm ?_
  refine V_aload_n dX4_contribute_57 rfl ?_
  refine V_getR (kf := 9) k_X4 (by decide) lk_RX4_41 rfl dX4_contribute_58 (tq_61 hG) rfl ?_
  refine V_iload dX4_contribute_61 rfl ?_
  refine V_lload dX4_contribute_63 rfl ?_
  refine V_lconst (v := 0) dX4_contribute_65 rfl ?_
  refine V_lcmp dX4_contribute_66 ?_
  by_cases c67 : (0 : Int64) ≤ v7
  · rw [if_pos c67] at h
    refine V_ifge_t (tgt := 76) dX4_contribute_67 (by decide) ((lc_ge v7 0).mpr c67) ?_
    refine V_lconst (v := 0) dX4_contribute_76 rfl ?_
    exact V_wk [true, true, true, false, true, false, true, false, false] rfl (T_X4_contribute_77 G fu hG k8 hk8 _ _ _ _ _ _ _ _ h)
  · rw [if_neg c67] at h
    refine V_ifge_f (tgt := 76) dX4_contribute_67 (by decide) (fun z => c67 ((lc_ge v7 0).mp z)) ?_
    refine V_lload dX4_contribute_70 rfl ?_
    refine V_lneg dX4_contribute_72 ?_
    refine V_goto (tgt := 77) dX4_contribute_73 (by decide) ?_
    exact V_wk [true, true, true, false, true, false, true, false, false] rfl (T_X4_contribute_77 G fu hG k8 hk8 _ _ _ _ _ _ _ _ h)
def D_X4_contribute_8 (fu : Nat)  : Nat → Int32 → Int64 → Int64 → Int32 → Mem → Option Mem
  | 0, _, _, _, _, _ => none
  | n + 1, v1, v2, v4, v6, μ =>
    if v1 ≤ v6 then
      if v4 ≤ v2 then
        D_X4_contribute_119 fu v1 v4 μ
      else
        D_X4_contribute_119 fu v1 v2 μ
    else
      gu (ib v6 40) <|
      gu (ib v6 40) <|
      vl ((μ.2.1 63 (Int32.toNatClampNeg v6)) - (μ.2.1 70 (Int32.toNatClampNeg v6)) : Int64) fun x27 =>
      if x27 ≤ (0 : Int64) then
        D_X4_contribute_56 fu (D_X4_contribute_8 fu n) v1 v2 v4 v6 x27 v6 0 μ
      else
        D_X4_contribute_56 fu (D_X4_contribute_8 fu n) v1 v2 v4 v6 x27 v6 x27 μ
set_option maxRecDepth 20000 in
theorem T_X4_contribute_8 (G : GX) (fu : Nat)  (hG : gt G = tbl) : ∀ (n : Nat) (v1 : Int32) (v2 : Int64) (v4 : Int64) (v6 : Int32) (μ : Mem) (r : Mem) , D_X4_contribute_8 fu n v1 v2 v4 v6 μ = some r → V G mX4_contribute 8 [some (.ref 61), some (.int v1), some (.long v2), none, some (.long v4), none, some (.int v6), none, none] [] μ (.inl none) (r) := by
  intro n
  induction n with
  | zero =>
    intro v1 v2 v4 v6 μ r h
    exact nomatch (show (none : Option Mem) = some r from h)
  | succ n ih =>
    intro v1 v2 v4 v6 μ r h
    rw [D_X4_contribute_8] at h
    refine V_iload dX4_contribute_8 rfl ?_
    refine V_iload_n dX4_contribute_10 rfl ?_
    by_cases c11 : v1 ≤ v6
    · rw [if_pos c11] at h
      refine V_icmpge_t (tgt := 106) dX4_contribute_11 (by decide) c11 ?_
      refine V_lload_n dX4_contribute_106 rfl ?_
      refine V_lload dX4_contribute_107 rfl ?_
      refine V_lcmp dX4_contribute_109 ?_
      by_cases c110 : v4 ≤ v2
      · rw [if_pos c110] at h
        refine V_ifge_t (tgt := 117) dX4_contribute_110 (by decide) ((lc_ge v2 v4).mpr c110) ?_
        refine V_lload dX4_contribute_117 rfl ?_
        exact V_wk [true, true, false, false, false, false, false, false, false] rfl (T_X4_contribute_119 G fu hG _ _ _ _ h)
      · rw [if_neg c110] at h
        refine V_ifge_f (tgt := 117) dX4_contribute_110 (by decide) (fun z => c110 ((lc_ge v2 v4).mp z)) ?_
        refine V_lload_n dX4_contribute_113 rfl ?_
        refine V_goto (tgt := 119) dX4_contribute_114 (by decide) ?_
        exact V_wk [true, true, false, false, false, false, false, false, false] rfl (T_X4_contribute_119 G fu hG _ _ _ _ h)
    · rw [if_neg c11] at h
      refine V_icmpge_f (tgt := 106) dX4_contribute_11 (by decide) c11 ?_
      refine V_aload_n dX4_contribute_14 rfl ?_
      refine V_getR (kf := 0) k_X4 (by decide) lk_RX4_12 rfl dX4_contribute_15 (tq_61 hG) rfl ?_
      refine V_getR (kf := 0) k_X3 (by decide) lk_RX4_139 rfl dX4_contribute_18 (tq_62 hG) rfl ?_
      refine V_iload dX4_contribute_21 rfl ?_
      obtain ⟨g25, h⟩ := gu_o h
      refine V_laload dX4_contribute_23 (tq_63 hG) (ib_in g25) ?_
      refine V_aload_n dX4_contribute_24 rfl ?_
      refine V_getR (kf := 1) k_X4 (by decide) lk_RX4_18 rfl dX4_contribute_25 (tq_61 hG) rfl ?_
      refine V_getR (kf := 0) k_X3 (by decide) lk_RX4_139 rfl dX4_contribute_28 (tq_69 hG) rfl ?_
      refine V_iload dX4_contribute_31 rfl ?_
      obtain ⟨g26, h⟩ := gu_o h
      refine V_laload dX4_contribute_33 (tq_70 hG) (ib_in g26) ?_
      refine V_lsub dX4_contribute_34 ?_
      obtain ⟨x27, e28, h⟩ := vl_o h
      refine V_topl e28 ?_
      refine V_lstore (lv2 := [some (.ref 61), some (.int v1), some (.long v2), none, some (.long v4), none, some (.int v6), some (.long x27), none]) dX4_contribute_35 (by decide) rfl ?_
      refine V_aload_n dX4_contribute_37 rfl ?_
      refine V_getR (kf := 8) k_X4 (by decide) lk_RX4_38 rfl dX4_contribute_38 (tq_61 hG) rfl ?_
      refine V_iload dX4_contribute_41 rfl ?_
      refine V_lload dX4_contribute_43 rfl ?_
      refine V_lconst (v := 0) dX4_contribute_45 rfl ?_
      refine V_lcmp dX4_contribute_46 ?_
      by_cases c47 : x27 ≤ (0 : Int64)
      · rw [if_pos c47] at h
        refine V_ifle_t (tgt := 55) dX4_contribute_47 (by decide) ((lc_le x27 0).mpr c47) ?_
        refine V_lconst (v := 0) dX4_contribute_55 rfl ?_
        exact V_wk [true, true, true, false, true, false, true, true, false] rfl (T_X4_contribute_56 G fu hG (D_X4_contribute_8 fu n) ih _ _ _ _ _ _ _ _ _ h)
      · rw [if_neg c47] at h
        refine V_ifle_f (tgt := 55) dX4_contribute_47 (by decide) (fun z => c47 ((lc_le x27 0).mp z)) ?_
        refine V_lload dX4_contribute_50 rfl ?_
        refine V_goto (tgt := 56) dX4_contribute_52 (by decide) ?_
        exact V_wk [true, true, true, false, true, false, true, true, false] rfl (T_X4_contribute_56 G fu hG (D_X4_contribute_8 fu n) ih _ _ _ _ _ _ _ _ _ h)
def D_X4_contribute_0 (fu : Nat)  (a1 : Int32) (μ : Mem) : Option Mem :=
  D_X4_contribute_8 fu fu a1 0 0 0 μ
set_option maxRecDepth 20000 in
theorem T_X4_contribute_0 (G : GX) (fu : Nat)  (hG : gt G = tbl) : ∀ (a1 : Int32) (μ : Mem) (r : Mem) , D_X4_contribute_0 fu a1 μ = some r → V G mX4_contribute 0 [some (.ref 61), some (.int a1), none, none, none, none, none, none, none] [] μ (.inl none) (r) := by
  intro a1 μ r h
  unfold D_X4_contribute_0 at h
  refine V_lconst (v := 0) dX4_contribute_0 rfl ?_
  refine V_lstore_n (lv2 := [some (.ref 61), some (.int a1), some (.long 0), none, none, none, none, none, none]) dX4_contribute_1 (by decide) rfl ?_
  refine V_lconst (v := 0) dX4_contribute_2 rfl ?_
  refine V_lstore (lv2 := [some (.ref 61), some (.int a1), some (.long 0), none, some (.long 0), none, none, none, none]) dX4_contribute_3 (by decide) rfl ?_
  refine V_iconst (v := 0) dX4_contribute_5 rfl ?_
  refine V_istore (lv2 := [some (.ref 61), some (.int a1), some (.long 0), none, some (.long 0), none, some (.int 0), none, none]) dX4_contribute_6 (by decide) rfl ?_
  exact V_wk [true, true, true, false, true, false, true, false, false] rfl (T_X4_contribute_8 G fu hG fu _ _ _ _ _ _ h)
theorem VM_X4_contribute (G : GX) (fu : Nat)  (hG : gt G = tbl) (a1 : Int32) (μ : Mem) (r : Mem) (h : D_X4_contribute_0 fu a1 μ = some r) : VM G mX4_contribute [.ref 61, .int a1] μ (.inl none) (r) := V_entry ok_mX4_contribute rfl rfl (Nat.le_of_ble_eq_true rfl) (T_X4_contribute_0 G fu hG a1 μ r h)
def D_X4_takenAtLevel_5 (fu : Nat) (μ : Mem)  : Nat → Int64 → Int64 → Int32 → Option Int64
  | 0, _, _, _ => none
  | n + 1, v1, v3, v5 =>
    if (μ.1 61 7) ≤ v5 then
      some v3
    else
      gu (ib v5 12) <|
      gu (ib (μ.1 80 (Int32.toNatClampNeg v5)) 12) <|
      vl (v3 + (if (μ.2.1 78 (Int32.toNatClampNeg (μ.1 80 (Int32.toNatClampNeg v5)))) < v1 then (μ.2.1 78 (Int32.toNatClampNeg (μ.1 80 (Int32.toNatClampNeg v5)))) else v1) : Int64) fun x3 =>
      (D_X4_takenAtLevel_5 fu μ n) v1 x3 (v5 + 1)
set_option maxRecDepth 20000 in
theorem T_X4_takenAtLevel_5 (G : GX) (fu : Nat) (μ : Mem)  (hG : gt G = tbl) : ∀ (n : Nat) (v1 : Int64) (v3 : Int64) (v5 : Int32) (r : Int64) , D_X4_takenAtLevel_5 fu μ n v1 v3 v5 = some r → V G mX4_takenAtLevel 5 [some (.ref 61), some (.long v1), none, some (.long v3), none, some (.int v5)] [] μ (.inl (some (.long r))) (μ) := by
  intro n
  induction n with
  | zero =>
    intro v1 v3 v5 r h
    exact nomatch (show (none : Option Int64) = some r from h)
  | succ n ih =>
    intro v1 v3 v5 r h
    rw [D_X4_takenAtLevel_5] at h
    refine V_iload dX4_takenAtLevel_5 rfl ?_
    refine V_aload_n dX4_takenAtLevel_7 rfl ?_
    refine V_getI (kf := 7) k_X4 (by decide) lk_RX4_121 rfl dX4_takenAtLevel_8 (tq_61 hG) rfl ?_
    by_cases c11 : (μ.1 61 7) ≤ v5
    · rw [if_pos c11] at h
      refine V_icmpge_t (tgt := 39) dX4_takenAtLevel_11 (by decide) c11 ?_
      refine V_lload_n dX4_takenAtLevel_39 rfl ?_
      cases h
      exact V_lret rfl dX4_takenAtLevel_40
    · rw [if_neg c11] at h
      refine V_icmpge_f (tgt := 39) dX4_takenAtLevel_11 (by decide) c11 ?_
      refine V_lload_n dX4_takenAtLevel_14 rfl ?_
      refine V_lload_n dX4_takenAtLevel_15 rfl ?_
      refine V_aload_n dX4_takenAtLevel_16 rfl ?_
      refine V_getR (kf := 4) k_X4 (by decide) lk_RX4_28 rfl dX4_takenAtLevel_17 (tq_61 hG) rfl ?_
      refine V_aload_n dX4_takenAtLevel_20 rfl ?_
      refine V_getR (kf := 6) k_X4 (by decide) lk_RX4_34 rfl dX4_takenAtLevel_21 (tq_61 hG) rfl ?_
      refine V_iload dX4_takenAtLevel_24 rfl ?_
      obtain ⟨g1, h⟩ := gu_o h
      refine V_iaload dX4_takenAtLevel_26 (tq_80 hG) (ib_in g1) ?_
      obtain ⟨g2, h⟩ := gu_o h
      refine V_laload dX4_takenAtLevel_27 (tq_78 hG) (ib_in g2) ?_
      refine V_mminL dX4_takenAtLevel_28 lk_RX4_152 ma_minL_s ma_minL_c in_java_lang_Math (by decide) (Nat.le_of_ble_eq_true rfl) ?_
      refine V_ladd dX4_takenAtLevel_31 ?_
      obtain ⟨x3, e4, h⟩ := vl_o h
      refine V_topl e4 ?_
      refine V_lstore_n (lv2 := [some (.ref 61), some (.long v1), none, some (.long x3), none, some (.int v5)]) dX4_takenAtLevel_32 (by decide) rfl ?_
      refine V_iinc (v := v5 + 1) (lv2 := [some (.ref 61), some (.long v1), none, some (.long x3), none, some (.int (v5 + 1))]) dX4_takenAtLevel_33 rfl rfl (by decide) rfl ?_
      refine V_goto (tgt := 5) dX4_takenAtLevel_36 (by decide) ?_
      exact V_wk [true, true, false, true, false, true] rfl (ih _ _ _ _ h)
def D_X4_takenAtLevel_0 (fu : Nat) (μ : Mem)  (a1 : Int64) : Option Int64 :=
  D_X4_takenAtLevel_5 fu μ fu a1 0 0
set_option maxRecDepth 20000 in
theorem T_X4_takenAtLevel_0 (G : GX) (fu : Nat) (μ : Mem)  (hG : gt G = tbl) : ∀ (a1 : Int64) (r : Int64) , D_X4_takenAtLevel_0 fu μ a1 = some r → V G mX4_takenAtLevel 0 [some (.ref 61), some (.long a1), none, none, none, none] [] μ (.inl (some (.long r))) (μ) := by
  intro a1 r h
  unfold D_X4_takenAtLevel_0 at h
  refine V_lconst (v := 0) dX4_takenAtLevel_0 rfl ?_
  refine V_lstore_n (lv2 := [some (.ref 61), some (.long a1), none, some (.long 0), none, none]) dX4_takenAtLevel_1 (by decide) rfl ?_
  refine V_iconst (v := 0) dX4_takenAtLevel_2 rfl ?_
  refine V_istore (lv2 := [some (.ref 61), some (.long a1), none, some (.long 0), none, some (.int 0)]) dX4_takenAtLevel_3 (by decide) rfl ?_
  exact V_wk [true, true, false, true, false, true] rfl (T_X4_takenAtLevel_5 G fu μ hG fu _ _ _ _ h)
theorem VM_X4_takenAtLevel (G : GX) (fu : Nat) (μ : Mem)  (hG : gt G = tbl) (a1 : Int64) (r : Int64) (h : D_X4_takenAtLevel_0 fu μ a1 = some r) : VM G mX4_takenAtLevel [.ref 61, .long a1] μ (.inl (some (.long r))) (μ) := V_entry ok_mX4_takenAtLevel rfl rfl (Nat.le_of_ble_eq_true rfl) (T_X4_takenAtLevel_0 G fu μ hG a1 r h)
def D_X4_levelFor_42 (fu : Nat) (μ : Mem)  (k6 : Int64 → Int64 → Int32 → Option Int64) (v1 : Int64) (v3 : Int64) (v5 : Int32) : Option Int64 :=
  k6 v1 v3 (v5 + (-1))
set_option maxRecDepth 20000 in
theorem T_X4_levelFor_42 (G : GX) (fu : Nat) (μ : Mem)  (hG : gt G = tbl) (k6 : Int64 → Int64 → Int32 → Option Int64) (hk6 : ∀ (v1 : Int64) (v3 : Int64) (v5 : Int32) (r : Int64), k6 v1 v3 v5 = some r → V G mX4_levelFor 6 [some (.ref 61), some (.long v1), none, some (.long v3), none, some (.int v5), none, none] [] μ (.inl (some (.long r))) (μ)) : ∀ (v1 : Int64) (v3 : Int64) (v5 : Int32) (r : Int64) , D_X4_levelFor_42 fu μ k6 v1 v3 v5 = some r → V G mX4_levelFor 42 [some (.ref 61), some (.long v1), none, some (.long v3), none, some (.int v5), none, none] [] μ (.inl (some (.long r))) (μ) := by
  intro v1 v3 v5 r h
  unfold D_X4_levelFor_42 at h
  refine V_iinc (v := v5 + (-1)) (lv2 := [some (.ref 61), some (.long v1), none, some (.long v3), none, some (.int (v5 + (-1))), none, none]) dX4_levelFor_42 rfl rfl (by decide) rfl ?_
  refine V_goto (tgt := 6) dX4_levelFor_45 (by decide) ?_
  exact V_wk [true, true, false, true, false, true, false, false] rfl (hk6 _ _ _ _ h)
def D_X4_levelFor_6 (fu : Nat) (μ : Mem)  : Nat → Int64 → Int64 → Int32 → Option Int64
  | 0, _, _, _ => none
  | n + 1, v1, v3, v5 =>
    if v5 < 0 then
      some v3
    else
      vl (v3 + ((1 : Int64) <<< ((v5 : Int32).toInt64 &&& 63)) : Int64) fun x1 =>
      if (2000000000 : Int64) < x1 then
        D_X4_levelFor_42 fu μ (D_X4_levelFor_6 fu μ n) v1 v3 v5
      else
        (D_X4_takenAtLevel_0 fu μ x1).bind fun x3 =>
        if v1 < x3 then
          D_X4_levelFor_42 fu μ (D_X4_levelFor_6 fu μ n) v1 v3 v5
        else
          D_X4_levelFor_42 fu μ (D_X4_levelFor_6 fu μ n) v1 x1 v5
set_option maxRecDepth 20000 in
theorem T_X4_levelFor_6 (G : GX) (fu : Nat) (μ : Mem)  (hG : gt G = tbl) : ∀ (n : Nat) (v1 : Int64) (v3 : Int64) (v5 : Int32) (r : Int64) , D_X4_levelFor_6 fu μ n v1 v3 v5 = some r → V G mX4_levelFor 6 [some (.ref 61), some (.long v1), none, some (.long v3), none, some (.int v5), none, none] [] μ (.inl (some (.long r))) (μ) := by
  intro n
  induction n with
  | zero =>
    intro v1 v3 v5 r h
    exact nomatch (show (none : Option Int64) = some r from h)
  | succ n ih =>
    intro v1 v3 v5 r h
    rw [D_X4_levelFor_6] at h
    refine V_iload dX4_levelFor_6 rfl ?_
    by_cases c8 : v5 < 0
    · rw [if_pos c8] at h
      refine V_iflt_t (tgt := 48) dX4_levelFor_8 (by decide) c8 ?_
      refine V_lload_n dX4_levelFor_48 rfl ?_
      cases h
      exact V_lret rfl dX4_levelFor_49
    · rw [if_neg c8] at h
      refine V_iflt_f (tgt := 48) dX4_levelFor_8 (by decide) c8 ?_
      refine V_lload_n dX4_levelFor_11 rfl ?_
      refine V_lconst (v := 1) dX4_levelFor_12 rfl ?_
      refine V_iload dX4_levelFor_13 rfl ?_
      refine V_lshl dX4_levelFor_15 ?_
      refine V_ladd dX4_levelFor_16 ?_
      obtain ⟨x1, e2, h⟩ := vl_o h
      refine V_topl e2 ?_
      refine V_lstore (lv2 := [some (.ref 61), some (.long v1), none, some (.long v3), none, some (.int v5), some (.long x1), none]) dX4_levelFor_17 (by decide) rfl ?_
      refine V_lload dX4_levelFor_19 rfl ?_
      refine V_ldc2 (v := 2000000000) dX4_levelFor_21 lk_RX4_158 ?_
      refine V_lcmp dX4_levelFor_24 ?_
      by_cases c25 : (2000000000 : Int64) < x1
      · rw [if_pos c25] at h
        refine V_ifgt_t (tgt := 42) dX4_levelFor_25 (by decide) ((lc_gt x1 2000000000).mpr c25) ?_
        exact V_wk [true, true, false, true, false, true, false, false] rfl (T_X4_levelFor_42 G fu μ hG (D_X4_levelFor_6 fu μ n) ih _ _ _ _ h)
      · rw [if_neg c25] at h
        refine V_ifgt_f (tgt := 42) dX4_levelFor_25 (by decide) (fun z => c25 ((lc_gt x1 2000000000).mp z)) ?_
        refine V_aload_n dX4_levelFor_28 rfl ?_
        refine V_lload dX4_levelFor_29 rfl ?_
        obtain ⟨x3, y4, h⟩ := bi_o h
        refine V_callV (as := [.long x1]) (q := 61) (rest := []) dX4_levelFor_31 ov_mX4_takenAtLevel lk_RX4_149 (by decide) (by decide) rfl rfl (Nat.le_of_ble_eq_true rfl) (tq_61 hG) rfl (VM_X4_takenAtLevel G fu μ hG x1 _ y4) ?_
        refine V_lload_n dX4_levelFor_34 rfl ?_
        refine V_lcmp dX4_levelFor_35 ?_
        by_cases c36 : v1 < x3
        · rw [if_pos c36] at h
          refine V_ifgt_t (tgt := 42) dX4_levelFor_36 (by decide) ((lc_gt x3 v1).mpr c36) ?_
          exact V_wk [true, true, false, true, false, true, false, false] rfl (T_X4_levelFor_42 G fu μ hG (D_X4_levelFor_6 fu μ n) ih _ _ _ _ h)
        · rw [if_neg c36] at h
          refine V_ifgt_f (tgt := 42) dX4_levelFor_36 (by decide) (fun z => c36 ((lc_gt x3 v1).mp z)) ?_
          refine V_lload dX4_levelFor_39 rfl ?_
          refine V_lstore_n (lv2 := [some (.ref 61), some (.long v1), none, some (.long x1), none, some (.int v5), some (.long x1), none]) dX4_levelFor_41 (by decide) rfl ?_
          exact V_wk [true, true, false, true, false, true, false, false] rfl (T_X4_levelFor_42 G fu μ hG (D_X4_levelFor_6 fu μ n) ih _ _ _ _ h)
def D_X4_levelFor_0 (fu : Nat) (μ : Mem)  (a1 : Int64) : Option Int64 :=
  D_X4_levelFor_6 fu μ fu a1 0 30
set_option maxRecDepth 20000 in
theorem T_X4_levelFor_0 (G : GX) (fu : Nat) (μ : Mem)  (hG : gt G = tbl) : ∀ (a1 : Int64) (r : Int64) , D_X4_levelFor_0 fu μ a1 = some r → V G mX4_levelFor 0 [some (.ref 61), some (.long a1), none, none, none, none, none, none] [] μ (.inl (some (.long r))) (μ) := by
  intro a1 r h
  unfold D_X4_levelFor_0 at h
  refine V_lconst (v := 0) dX4_levelFor_0 rfl ?_
  refine V_lstore_n (lv2 := [some (.ref 61), some (.long a1), none, some (.long 0), none, none, none, none]) dX4_levelFor_1 (by decide) rfl ?_
  refine V_bipush (v := 30) dX4_levelFor_2 rfl ?_
  refine V_istore (lv2 := [some (.ref 61), some (.long a1), none, some (.long 0), none, some (.int 30), none, none]) dX4_levelFor_4 (by decide) rfl ?_
  exact V_wk [true, true, false, true, false, true, false, false] rfl (T_X4_levelFor_6 G fu μ hG fu _ _ _ _ h)
theorem VM_X4_levelFor (G : GX) (fu : Nat) (μ : Mem)  (hG : gt G = tbl) (a1 : Int64) (r : Int64) (h : D_X4_levelFor_0 fu μ a1 = some r) : VM G mX4_levelFor [.ref 61, .long a1] μ (.inl (some (.long r))) (μ) := V_entry ok_mX4_levelFor rfl rfl (Nat.le_of_ble_eq_true rfl) (T_X4_levelFor_0 G fu μ hG a1 r h)
def D_X4_payByLevel_130 (fu : Nat) (r1 : Nat) (v7 : Int64) (s1 : Int32) (μ : Mem) : Option Mem :=
  gu (ib s1 7) <|
  gu (ib s1 7) <|
  vl (wL μ 68 (Int32.toNatClampNeg s1) ((μ.2.1 68 (Int32.toNatClampNeg s1)) + v7)) fun m9 =>
  some m9
set_option maxRecDepth 20000 in
theorem T_X4_payByLevel_130 (G : GX) (fu : Nat) (r1 : Nat) (hG : gt G = tbl) (hr1 : IsX0 r1) : ∀ (v7 : Int64) (s1 : Int32) (μ : Mem) (r : Mem) , D_X4_payByLevel_130 fu r1 v7 s1 μ = some r → V G mX4_payByLevel 130 [none, none, none, none, none, none, none, some (.long v7), none, none, none, none, none] [.int s1, .ref 68] μ (.inl none) (r) := by
  intro v7 s1 μ r h
  unfold D_X4_payByLevel_130 at h
  refine V_dup2 dX4_payByLevel_130 rfl rfl ?_
  obtain ⟨g7, h⟩ := gu_o h
  refine V_laload dX4_payByLevel_131 (tq_68 hG) (ib_in g7) ?_
  refine V_lload dX4_payByLevel_132 rfl ?_
  refine V_ladd dX4_payByLevel_134 ?_
  obtain ⟨g8, h⟩ := gu_o h
  obtain ⟨m9, e10, h⟩ := vl_o h
  refine V_lastore (μ2 := m9) dX4_payByLevel_135 (tq_68 hG) (ib_in g8) e10.symm ?_
  cases h
  exact V_vret rfl dX4_payByLevel_136
def D_X4_payByLevel_91 (fu : Nat) (r1 : Nat) (k27 : Int32 → Int64 → Int64 → Int32 → Mem → Option Mem) (v2 : Int32) (v5 : Int64) (v7 : Int64) (v9 : Int32) (v10 : Int32) (v11 : Int64) (μ : Mem) : Option Mem :=
  (D_X3_fill_0 fu 62 r1 v2 v10 v11 μ).bind fun x15 =>
  k27 v2 v5 v7 (v9 + 1) x15.2
set_option maxRecDepth 20000 in
theorem T_X4_payByLevel_91 (G : GX) (fu : Nat) (r1 : Nat) (hG : gt G = tbl) (hr1 : IsX0 r1) (k27 : Int32 → Int64 → Int64 → Int32 → Mem → Option Mem) (hk27 : ∀ (v2 : Int32) (v5 : Int64) (v7 : Int64) (v9 : Int32) (μ : Mem) (r : Mem), k27 v2 v5 v7 v9 μ = some r → V G mX4_payByLevel 27 [some (.ref 61), some (.ref r1), some (.int v2), none, none, some (.long v5), none, some (.long v7), none, some (.int v9), none, none, none] [] μ (.inl none) (r)) : ∀ (v2 : Int32) (v5 : Int64) (v7 : Int64) (v9 : Int32) (v10 : Int32) (v11 : Int64) (μ : Mem) (r : Mem) , D_X4_payByLevel_91 fu r1 k27 v2 v5 v7 v9 v10 v11 μ = some r → V G mX4_payByLevel 91 [some (.ref 61), some (.ref r1), some (.int v2), none, none, some (.long v5), none, some (.long v7), none, some (.int v9), some (.int v10), some (.long v11), none] [] μ (.inl none) (r) := by
  intro v2 v5 v7 v9 v10 v11 μ r h
  unfold D_X4_payByLevel_91 at h
  refine V_aload_n dX4_payByLevel_91 rfl ?_
  refine V_getR (kf := 0) k_X4 (by decide) lk_RX4_12 rfl dX4_payByLevel_92 (tq_61 hG) rfl ?_
  refine V_aload_n dX4_payByLevel_95 rfl ?_
  refine V_iload_n dX4_payByLevel_96 rfl ?_
  refine V_iload dX4_payByLevel_97 rfl ?_
  refine V_lload dX4_payByLevel_99 rfl ?_
  obtain ⟨x15, y16, h⟩ := bi_o h
  refine V_callV (as := [.ref r1, .int v2, .int v10, .long v11]) (q := 62) (rest := []) dX4_payByLevel_101 ov_mX3_fill lk_RX4_117 (by decide) (by decide) rfl rfl (Nat.le_of_ble_eq_true rfl) (tq_62 hG) rfl (VM_X3_fill G fu 62 r1 hG (Or.inl rfl) hr1 v2 v10 v11 μ _ y16) ?_
  refine V_pop2L dX4_payByLevel_104 rfl ?_
  refine V_iinc (v := v9 + 1) (lv2 := [some (.ref 61), some (.ref r1), some (.int v2), none, none, some (.long v5), none, some (.long v7), none, some (.int (v9 + 1)), some (.int v10), some (.long v11), none]) dX4_payByLevel_105 rfl rfl (by decide) rfl ?_
  refine V_goto (tgt := 27) dX4_payByLevel_108 (by decide) ?_
  exact V_wk [true, true, true, false, false, true, false, true, false, true, false, false, false] rfl (hk27 _ _ _ _ _ _ h)
def D_X4_payByLevel_27 (fu : Nat) (r1 : Nat) : Nat → Int32 → Int64 → Int64 → Int32 → Mem → Option Mem
  | 0, _, _, _, _, _ => none
  | n + 1, v2, v5, v7, v9, μ =>
    if (μ.1 61 7) ≤ v9 then
      if (μ.1 61 7) ≤ 0 then
        D_X4_payByLevel_130 fu r1 v7 3 μ
      else
        D_X4_payByLevel_130 fu r1 v7 2 μ
    else
      gu (ib v9 12) <|
      gu (ib (μ.1 80 (Int32.toNatClampNeg v9)) 12) <|
      vl (if (μ.2.1 78 (Int32.toNatClampNeg (μ.1 80 (Int32.toNatClampNeg v9)))) < v5 then (μ.2.1 78 (Int32.toNatClampNeg (μ.1 80 (Int32.toNatClampNeg v9)))) else v5 : Int64) fun x13 =>
      if v7 ≤ (0 : Int64) then
        D_X4_payByLevel_91 fu r1 (D_X4_payByLevel_27 fu r1 n) v2 v5 v7 v9 (μ.1 80 (Int32.toNatClampNeg v9)) x13 μ
      else
        gu (ib (μ.1 80 (Int32.toNatClampNeg v9)) 12) <|
        if (μ.2.1 78 (Int32.toNatClampNeg (μ.1 80 (Int32.toNatClampNeg v9)))) ≤ v5 then
          D_X4_payByLevel_91 fu r1 (D_X4_payByLevel_27 fu r1 n) v2 v5 v7 v9 (μ.1 80 (Int32.toNatClampNeg v9)) x13 μ
        else
          D_X4_payByLevel_91 fu r1 (D_X4_payByLevel_27 fu r1 n) v2 v5 (v7 - 1) v9 (μ.1 80 (Int32.toNatClampNeg v9)) (x13 + 1) μ
set_option maxRecDepth 20000 in
theorem T_X4_payByLevel_27 (G : GX) (fu : Nat) (r1 : Nat) (hG : gt G = tbl) (hr1 : IsX0 r1) : ∀ (n : Nat) (v2 : Int32) (v5 : Int64) (v7 : Int64) (v9 : Int32) (μ : Mem) (r : Mem) , D_X4_payByLevel_27 fu r1 n v2 v5 v7 v9 μ = some r → V G mX4_payByLevel 27 [some (.ref 61), some (.ref r1), some (.int v2), none, none, some (.long v5), none, some (.long v7), none, some (.int v9), none, none, none] [] μ (.inl none) (r) := by
  intro n
  induction n with
  | zero =>
    intro v2 v5 v7 v9 μ r h
    exact nomatch (show (none : Option Mem) = some r from h)
  | succ n ih =>
    intro v2 v5 v7 v9 μ r h
    rw [D_X4_payByLevel_27] at h
    refine V_iload dX4_payByLevel_27 rfl ?_
    refine V_aload_n dX4_payByLevel_29 rfl ?_
    refine V_getI (kf := 7) k_X4 (by decide) lk_RX4_121 rfl dX4_payByLevel_30 (tq_61 hG) rfl ?_
    by_cases c33 : (μ.1 61 7) ≤ v9
    · rw [if_pos c33] at h
      refine V_icmpge_t (tgt := 111) dX4_payByLevel_33 (by decide) c33 ?_
      refine V_aload_n dX4_payByLevel_111 rfl ?_
      refine V_getR (kf := 0) k_X4 (by decide) lk_RX4_12 rfl dX4_payByLevel_112 (tq_61 hG) rfl ?_
      refine V_getR (kf := 5) k_X3 (by decide) lk_RX4_114 rfl dX4_payByLevel_115 (tq_62 hG) rfl ?_
      refine V_aload_n dX4_payByLevel_118 rfl ?_
      refine V_getI (kf := 7) k_X4 (by decide) lk_RX4_121 rfl dX4_payByLevel_119 (tq_61 hG) rfl ?_
      by_cases c122 : (μ.1 61 7) ≤ 0
      · rw [if_pos c122] at h
        refine V_ifle_t (tgt := 129) dX4_payByLevel_122 (by decide) c122 ?_
        refine V_iconst (v := 3) dX4_payByLevel_129 rfl ?_
        exact V_wk [false, false, false, false, false, false, false, true, false, false, false, false, false] rfl (T_X4_payByLevel_130 G fu r1 hG hr1 _ _ _ _ h)
      · rw [if_neg c122] at h
        refine V_ifle_f (tgt := 129) dX4_payByLevel_122 (by decide) c122 ?_
        refine V_iconst (v := 2) dX4_payByLevel_125 rfl ?_
        refine V_goto (tgt := 130) dX4_payByLevel_126 (by decide) ?_
        exact V_wk [false, false, false, false, false, false, false, true, false, false, false, false, false] rfl (T_X4_payByLevel_130 G fu r1 hG hr1 _ _ _ _ h)
    · rw [if_neg c33] at h
      refine V_icmpge_f (tgt := 111) dX4_payByLevel_33 (by decide) c33 ?_
      refine V_aload_n dX4_payByLevel_36 rfl ?_
      refine V_getR (kf := 6) k_X4 (by decide) lk_RX4_34 rfl dX4_payByLevel_37 (tq_61 hG) rfl ?_
      refine V_iload dX4_payByLevel_40 rfl ?_
      obtain ⟨g11, h⟩ := gu_o h
      refine V_iaload dX4_payByLevel_42 (tq_80 hG) (ib_in g11) ?_
      refine V_istore (lv2 := [some (.ref 61), some (.ref r1), some (.int v2), none, none, some (.long v5), none, some (.long v7), none, some (.int v9), some (.int (μ.1 80 (Int32.toNatClampNeg v9))), none, none]) dX4_payByLevel_43 (by decide) rfl ?_
      refine V_lload dX4_payByLevel_45 rfl ?_
      refine V_aload_n dX4_payByLevel_47 rfl ?_
      refine V_getR (kf := 4) k_X4 (by decide) lk_RX4_28 rfl dX4_payByLevel_48 (tq_61 hG) rfl ?_
      refine V_iload dX4_payByLevel_51 rfl ?_
      obtain ⟨g12, h⟩ := gu_o h
      refine V_laload dX4_payByLevel_53 (tq_78 hG) (ib_in g12) ?_
      refine V_mminL dX4_payByLevel_54 lk_RX4_152 ma_minL_s ma_minL_c in_java_lang_Math (by decide) (Nat.le_of_ble_eq_true rfl) ?_
      obtain ⟨x13, e14, h⟩ := vl_o h
      refine V_topl e14 ?_
      refine V_lstore (lv2 := [some (.ref 61), some (.ref r1), some (.int v2), none, none, some (.long v5), none, some (.long v7), none, some (.int v9), some (.int (μ.1 80 (Int32.toNatClampNeg v9))), some (.long x13), none]) dX4_payByLevel_57 (by decide) rfl ?_
      refine V_lload dX4_payByLevel_59 rfl ?_
      refine V_lconst (v := 0) dX4_payByLevel_61 rfl ?_
      refine V_lcmp dX4_payByLevel_62 ?_
      by_cases c63 : v7 ≤ (0 : Int64)
      · rw [if_pos c63] at h
        refine V_ifle_t (tgt := 91) dX4_payByLevel_63 (by decide) ((lc_le v7 0).mpr c63) ?_
        exact V_wk [true, true, true, false, false, true, false, true, false, true, true, true, false] rfl (T_X4_payByLevel_91 G fu r1 hG hr1 (D_X4_payByLevel_27 fu r1 n) ih _ _ _ _ _ _ _ _ h)
      · rw [if_neg c63] at h
        refine V_ifle_f (tgt := 91) dX4_payByLevel_63 (by decide) (fun z => c63 ((lc_le v7 0).mp z)) ?_
        refine V_aload_n dX4_payByLevel_66 rfl ?_
        refine V_getR (kf := 4) k_X4 (by decide) lk_RX4_28 rfl dX4_payByLevel_67 (tq_61 hG) rfl ?_
        refine V_iload dX4_payByLevel_70 rfl ?_
        obtain ⟨g17, h⟩ := gu_o h
        refine V_laload dX4_payByLevel_72 (tq_78 hG) (ib_in g17) ?_
        refine V_lload dX4_payByLevel_73 rfl ?_
        refine V_lcmp dX4_payByLevel_75 ?_
        by_cases c76 : (μ.2.1 78 (Int32.toNatClampNeg (μ.1 80 (Int32.toNatClampNeg v9)))) ≤ v5
        · rw [if_pos c76] at h
          refine V_ifle_t (tgt := 91) dX4_payByLevel_76 (by decide) ((lc_le (μ.2.1 78 (Int32.toNatClampNeg (μ.1 80 (Int32.toNatClampNeg v9)))) v5).mpr c76) ?_
          exact V_wk [true, true, true, false, false, true, false, true, false, true, true, true, false] rfl (T_X4_payByLevel_91 G fu r1 hG hr1 (D_X4_payByLevel_27 fu r1 n) ih _ _ _ _ _ _ _ _ h)
        · rw [if_neg c76] at h
          refine V_ifle_f (tgt := 91) dX4_payByLevel_76 (by decide) (fun z => c76 ((lc_le (μ.2.1 78 (Int32.toNatClampNeg (μ.1 80 (Int32.toNatClampNeg v9)))) v5).mp z)) ?_
          refine V_lload dX4_payByLevel_79 rfl ?_
          refine V_lconst (v := 1) dX4_payByLevel_81 rfl ?_
          refine V_ladd dX4_payByLevel_82 ?_
          refine V_lstore (lv2 := [some (.ref 61), some (.ref r1), some (.int v2), none, none, some (.long v5), none, some (.long v7), none, some (.int v9), some (.int (μ.1 80 (Int32.toNatClampNeg v9))), some (.long (x13 + 1)), none]) dX4_payByLevel_83 (by decide) rfl ?_
          refine V_lload dX4_payByLevel_85 rfl ?_
          refine V_lconst (v := 1) dX4_payByLevel_87 rfl ?_
          refine V_lsub dX4_payByLevel_88 ?_
          refine V_lstore (lv2 := [some (.ref 61), some (.ref r1), some (.int v2), none, none, some (.long v5), none, some (.long (v7 - 1)), none, some (.int v9), some (.int (μ.1 80 (Int32.toNatClampNeg v9))), some (.long (x13 + 1)), none]) dX4_payByLevel_89 (by decide) rfl ?_
          exact V_wk [true, true, true, false, false, true, false, true, false, true, true, true, false] rfl (T_X4_payByLevel_91 G fu r1 hG hr1 (D_X4_payByLevel_27 fu r1 n) ih _ _ _ _ _ _ _ _ h)
def D_X4_payByLevel_0 (fu : Nat) (r1 : Nat) (a2 : Int32) (a3 : Int64) (μ : Mem) : Option Mem :=
  (D_X3_clear_0 fu 62 μ).bind fun x1 =>
  (D_X4_levelFor_0 fu x1 a3).bind fun x3 =>
  (D_X4_takenAtLevel_0 fu x1 x3).bind fun x5 =>
  D_X4_payByLevel_27 fu r1 fu a2 x3 (a3 - x5) 0 x1
set_option maxRecDepth 20000 in
theorem T_X4_payByLevel_0 (G : GX) (fu : Nat) (r1 : Nat) (hG : gt G = tbl) (hr1 : IsX0 r1) : ∀ (a2 : Int32) (a3 : Int64) (μ : Mem) (r : Mem) , D_X4_payByLevel_0 fu r1 a2 a3 μ = some r → V G mX4_payByLevel 0 [some (.ref 61), some (.ref r1), some (.int a2), some (.long a3), none, none, none, none, none, none, none, none, none] [] μ (.inl none) (r) := by
  intro a2 a3 μ r h
  unfold D_X4_payByLevel_0 at h
  refine V_aload_n dX4_payByLevel_0 rfl ?_
  refine V_getR (kf := 0) k_X4 (by decide) lk_RX4_12 rfl dX4_payByLevel_1 (tq_61 hG) rfl ?_
  obtain ⟨x1, y2, h⟩ := bi_o h
  refine V_callV (as := []) (q := 62) (rest := []) dX4_payByLevel_4 ov_mX3_clear lk_RX4_107 (by decide) (by decide) rfl rfl (Nat.le_of_ble_eq_true rfl) (tq_62 hG) rfl (VM_X3_clear G fu 62 hG (Or.inl rfl) μ _ y2) ?_
  refine V_aload_n dX4_payByLevel_7 rfl ?_
  refine V_lload_n dX4_payByLevel_8 rfl ?_
  obtain ⟨x3, y4, h⟩ := bi_o h
  refine V_callV (as := [.long a3]) (q := 61) (rest := []) dX4_payByLevel_9 ov_mX4_levelFor lk_RX4_145 (by decide) (by decide) rfl rfl (Nat.le_of_ble_eq_true rfl) (tq_61 hG) rfl (VM_X4_levelFor G fu x1 hG a3 _ y4) ?_
  refine V_lstore (lv2 := [some (.ref 61), some (.ref r1), some (.int a2), some (.long a3), none, some (.long x3), none, none, none, none, none, none, none]) dX4_payByLevel_12 (by decide) rfl ?_
  refine V_lload_n dX4_payByLevel_14 rfl ?_
  refine V_aload_n dX4_payByLevel_15 rfl ?_
  refine V_lload dX4_payByLevel_16 rfl ?_
  obtain ⟨x5, y6, h⟩ := bi_o h
  refine V_callV (as := [.long x3]) (q := 61) (rest := [.long a3]) dX4_payByLevel_18 ov_mX4_takenAtLevel lk_RX4_149 (by decide) (by decide) rfl rfl (Nat.le_of_ble_eq_true rfl) (tq_61 hG) rfl (VM_X4_takenAtLevel G fu x1 hG x3 _ y6) ?_
  refine V_lsub dX4_payByLevel_21 ?_
  refine V_lstore (lv2 := [some (.ref 61), some (.ref r1), some (.int a2), some (.long a3), none, some (.long x3), none, some (.long (a3 - x5)), none, none, none, none, none]) dX4_payByLevel_22 (by decide) rfl ?_
  refine V_iconst (v := 0) dX4_payByLevel_24 rfl ?_
  refine V_istore (lv2 := [some (.ref 61), some (.ref r1), some (.int a2), some (.long a3), none, some (.long x3), none, some (.long (a3 - x5)), none, some (.int 0), none, none, none]) dX4_payByLevel_25 (by decide) rfl ?_
  exact V_wk [true, true, true, false, false, true, false, true, false, true, false, false, false] rfl (T_X4_payByLevel_27 G fu r1 hG hr1 fu _ _ _ _ _ _ h)
theorem VM_X4_payByLevel (G : GX) (fu : Nat) (r1 : Nat) (hG : gt G = tbl) (hr1 : IsX0 r1) (a2 : Int32) (a3 : Int64) (μ : Mem) (r : Mem) (h : D_X4_payByLevel_0 fu r1 a2 a3 μ = some r) : VM G mX4_payByLevel [.ref 61, .ref r1, .int a2, .long a3] μ (.inl none) (r) := V_entry ok_mX4_payByLevel rfl rfl (Nat.le_of_ble_eq_true rfl) (T_X4_payByLevel_0 G fu r1 hG hr1 a2 a3 μ r h)
def D_X3_charge_0 (t : Nat) (a1 : Int32) (a2 : Int32) (a3 : Int64) (μ : Mem) : Option Mem :=
  if a1 = 0 then
    gu (ib 0 7) <|
    gu (ib 0 7) <|
    vl (wL μ (t + 6) (Int32.toNatClampNeg 0) ((μ.2.1 (t + 6) (Int32.toNatClampNeg 0)) + a3)) fun m3 =>
    some m3
  else
    if a2 = (1 : Int32) then
      gu (ib 5 7) <|
      gu (ib 5 7) <|
      vl (wL μ (t + 6) (Int32.toNatClampNeg 5) ((μ.2.1 (t + 6) (Int32.toNatClampNeg 5)) + a3)) fun m7 =>
      some m7
    else
      if a2 = (2 : Int32) then
        gu (ib 6 7) <|
        gu (ib 6 7) <|
        vl (wL μ (t + 6) (Int32.toNatClampNeg 6) ((μ.2.1 (t + 6) (Int32.toNatClampNeg 6)) + a3)) fun m11 =>
        some m11
      else
        gu (ib a1 10) <|
        gu (ib a1 10) <|
        vl (wL μ (t + 5) (Int32.toNatClampNeg a1) ((μ.2.1 (t + 5) (Int32.toNatClampNeg a1)) + a3)) fun m15 =>
        some m15
set_option maxRecDepth 20000 in
theorem T_X3_charge_0 (G : GX) (t : Nat) (hG : gt G = tbl) (ht : IsX3 t) : ∀ (a1 : Int32) (a2 : Int32) (a3 : Int64) (μ : Mem) (r : Mem) , D_X3_charge_0 t a1 a2 a3 μ = some r → V G mX3_charge 0 [some (.ref t), some (.int a1), some (.int a2), some (.long a3), none] [] μ (.inl none) (r) := by
  intro a1 a2 a3 μ r h
  unfold D_X3_charge_0 at h
  refine V_iload_n dX3_charge_0 rfl ?_
  by_cases c1 : a1 = 0
  · rw [if_pos c1] at h
    refine V_ifne_f (tgt := 17) dX3_charge_1 (by decide) c1 ?_
    refine V_aload_n dX3_charge_4 rfl ?_
    refine V_getR (kf := 5) k_X3 (by decide) lk_RX3_27 rfl dX3_charge_5 (tq_X3_0 hG ht) rfl ?_
    refine V_iconst (v := 0) dX3_charge_8 rfl ?_
    refine V_dup2 dX3_charge_9 rfl rfl ?_
    obtain ⟨g1, h⟩ := gu_o h
    refine V_laload dX3_charge_10 (tq_X3_6 hG ht) (ib_in g1) ?_
    refine V_lload_n dX3_charge_11 rfl ?_
    refine V_ladd dX3_charge_12 ?_
    obtain ⟨g2, h⟩ := gu_o h
    obtain ⟨m3, e4, h⟩ := vl_o h
    refine V_lastore (μ2 := m3) dX3_charge_13 (tq_X3_6 hG ht) (ib_in g2) e4.symm ?_
    refine V_goto (tgt := 64) dX3_charge_14 (by decide) ?_
    cases h
    exact V_vret rfl dX3_charge_64
  · rw [if_neg c1] at h
    refine V_ifne_t (tgt := 17) dX3_charge_1 (by decide) c1 ?_
    refine V_iload_n dX3_charge_17 rfl ?_
    refine V_iconst (v := 1) dX3_charge_18 rfl ?_
    by_cases c19 : a2 = (1 : Int32)
    · rw [if_pos c19] at h
      refine V_icmpne_f (tgt := 35) dX3_charge_19 (by decide) c19 ?_
      refine V_aload_n dX3_charge_22 rfl ?_
      refine V_getR (kf := 5) k_X3 (by decide) lk_RX3_27 rfl dX3_charge_23 (tq_X3_0 hG ht) rfl ?_
      refine V_iconst (v := 5) dX3_charge_26 rfl ?_
      refine V_dup2 dX3_charge_27 rfl rfl ?_
      obtain ⟨g5, h⟩ := gu_o h
      refine V_laload dX3_charge_28 (tq_X3_6 hG ht) (ib_in g5) ?_
      refine V_lload_n dX3_charge_29 rfl ?_
      refine V_ladd dX3_charge_30 ?_
      obtain ⟨g6, h⟩ := gu_o h
      obtain ⟨m7, e8, h⟩ := vl_o h
      refine V_lastore (μ2 := m7) dX3_charge_31 (tq_X3_6 hG ht) (ib_in g6) e8.symm ?_
      refine V_goto (tgt := 64) dX3_charge_32 (by decide) ?_
      cases h
      exact V_vret rfl dX3_charge_64
    · rw [if_neg c19] at h
      refine V_icmpne_t (tgt := 35) dX3_charge_19 (by decide) c19 ?_
      refine V_iload_n dX3_charge_35 rfl ?_
      refine V_iconst (v := 2) dX3_charge_36 rfl ?_
      by_cases c37 : a2 = (2 : Int32)
      · rw [if_pos c37] at h
        refine V_icmpne_f (tgt := 54) dX3_charge_37 (by decide) c37 ?_
        refine V_aload_n dX3_charge_40 rfl ?_
        refine V_getR (kf := 5) k_X3 (by decide) lk_RX3_27 rfl dX3_charge_41 (tq_X3_0 hG ht) rfl ?_
        refine V_bipush (v := 6) dX3_charge_44 rfl ?_
        refine V_dup2 dX3_charge_46 rfl rfl ?_
        obtain ⟨g9, h⟩ := gu_o h
        refine V_laload dX3_charge_47 (tq_X3_6 hG ht) (ib_in g9) ?_
        refine V_lload_n dX3_charge_48 rfl ?_
        refine V_ladd dX3_charge_49 ?_
        obtain ⟨g10, h⟩ := gu_o h
        obtain ⟨m11, e12, h⟩ := vl_o h
        refine V_lastore (μ2 := m11) dX3_charge_50 (tq_X3_6 hG ht) (ib_in g10) e12.symm ?_
        refine V_goto (tgt := 64) dX3_charge_51 (by decide) ?_
        cases h
        exact V_vret rfl dX3_charge_64
      · rw [if_neg c37] at h
        refine V_icmpne_t (tgt := 54) dX3_charge_37 (by decide) c37 ?_
        refine V_aload_n dX3_charge_54 rfl ?_
        refine V_getR (kf := 4) k_X3 (by decide) lk_RX3_24 rfl dX3_charge_55 (tq_X3_0 hG ht) rfl ?_
        refine V_iload_n dX3_charge_58 rfl ?_
        refine V_dup2 dX3_charge_59 rfl rfl ?_
        obtain ⟨g13, h⟩ := gu_o h
        refine V_laload dX3_charge_60 (tq_X3_5 hG ht) (ib_in g13) ?_
        refine V_lload_n dX3_charge_61 rfl ?_
        refine V_ladd dX3_charge_62 ?_
        obtain ⟨g14, h⟩ := gu_o h
        obtain ⟨m15, e16, h⟩ := vl_o h
        refine V_lastore (μ2 := m15) dX3_charge_63 (tq_X3_5 hG ht) (ib_in g14) e16.symm ?_
        cases h
        exact V_vret rfl dX3_charge_64
theorem VM_X3_charge (G : GX) (t : Nat) (hG : gt G = tbl) (ht : IsX3 t) (a1 : Int32) (a2 : Int32) (a3 : Int64) (μ : Mem) (r : Mem) (h : D_X3_charge_0 t a1 a2 a3 μ = some r) : VM G mX3_charge [.ref t, .int a1, .int a2, .long a3] μ (.inl none) (r) := V_entry ok_mX3_charge rfl rfl (Nat.le_of_ble_eq_true rfl) (T_X3_charge_0 G t hG ht a1 a2 a3 μ r h)
def D_X3_splitLayer_136 (fu : Nat) (t : Nat) (r1 : Nat) (r2 : Nat) (n2 : Nat) (k93 : Int32 → Int64 → Int64 → Int64 → Int32 → Mem → Option Mem) (v3 : Int32) (v4 : Int64) (v6 : Int64) (v8 : Int64) (v10 : Int32) (v11 : Int32) (μ : Mem) : Option Mem :=
  gu (ib v11 160) <|
  gu (ib v11 160) <|
  gu (ib (μ.1 (r1 + 8) (Int32.toNatClampNeg v11)) n2) <|
  gu (ib v11 160) <|
  (D_X3_charge_0 t (μ.1 (r1 + 8) (Int32.toNatClampNeg v11)) (μ.1 r2 (Int32.toNatClampNeg (μ.1 (r1 + 8) (Int32.toNatClampNeg v11)))) (μ.2.1 (t + 4) (Int32.toNatClampNeg v11)) μ).bind fun x15 =>
  k93 v3 v4 v6 v8 (v10 + 1) x15
set_option maxRecDepth 20000 in
theorem T_X3_splitLayer_136 (G : GX) (fu : Nat) (t : Nat) (r1 : Nat) (r2 : Nat) (n2 : Nat) (hG : gt G = tbl) (ht : IsX3 t) (hr1 : IsX5 r1) (h2 : (gt G)[r2]? = some (.inl (0, n2))) (k93 : Int32 → Int64 → Int64 → Int64 → Int32 → Mem → Option Mem) (hk93 : ∀ (v3 : Int32) (v4 : Int64) (v6 : Int64) (v8 : Int64) (v10 : Int32) (μ : Mem) (r : Mem), k93 v3 v4 v6 v8 v10 μ = some r → V G mX3_splitLayer 93 [some (.ref t), some (.ref r1), some (.ref r2), some (.int v3), some (.long v4), none, some (.long v6), none, some (.long v8), none, some (.int v10), none] [] μ (.inl none) (r)) : ∀ (v3 : Int32) (v4 : Int64) (v6 : Int64) (v8 : Int64) (v10 : Int32) (v11 : Int32) (μ : Mem) (r : Mem) , D_X3_splitLayer_136 fu t r1 r2 n2 k93 v3 v4 v6 v8 v10 v11 μ = some r → V G mX3_splitLayer 136 [some (.ref t), some (.ref r1), some (.ref r2), some (.int v3), some (.long v4), none, some (.long v6), none, some (.long v8), none, some (.int v10), some (.int v11)] [] μ (.inl none) (r) := by
  intro v3 v4 v6 v8 v10 v11 μ r h
  unfold D_X3_splitLayer_136 at h
  refine V_aload_n dX3_splitLayer_136 rfl ?_
  refine V_aload_n dX3_splitLayer_137 rfl ?_
  refine V_getR (kf := 7) k_X5 (by decide) lk_RX3_90 rfl dX3_splitLayer_138 (tq_X5_0 hG hr1) rfl ?_
  refine V_iload dX3_splitLayer_141 rfl ?_
  obtain ⟨g11, h⟩ := gu_o h
  refine V_iaload dX3_splitLayer_143 (tq_X5_8 hG hr1) (ib_in g11) ?_
  refine V_aload_n dX3_splitLayer_144 rfl ?_
  refine V_aload_n dX3_splitLayer_145 rfl ?_
  refine V_getR (kf := 7) k_X5 (by decide) lk_RX3_90 rfl dX3_splitLayer_146 (tq_X5_0 hG hr1) rfl ?_
  refine V_iload dX3_splitLayer_149 rfl ?_
  obtain ⟨g12, h⟩ := gu_o h
  refine V_iaload dX3_splitLayer_151 (tq_X5_8 hG hr1) (ib_in g12) ?_
  obtain ⟨g13, h⟩ := gu_o h
  refine V_iaload dX3_splitLayer_152 h2 (ib_in g13) ?_
  refine V_aload_n dX3_splitLayer_153 rfl ?_
  refine V_getR (kf := 3) k_X3 (by decide) lk_RX3_21 rfl dX3_splitLayer_154 (tq_X3_0 hG ht) rfl ?_
  refine V_iload dX3_splitLayer_157 rfl ?_
  obtain ⟨g14, h⟩ := gu_o h
  refine V_laload dX3_splitLayer_159 (tq_X3_4 hG ht) (ib_in g14) ?_
  obtain ⟨x15, y16, h⟩ := bi_o h
  refine V_callV (as := [.int (μ.1 (r1 + 8) (Int32.toNatClampNeg v11)), .int (μ.1 r2 (Int32.toNatClampNeg (μ.1 (r1 + 8) (Int32.toNatClampNeg v11)))), .long (μ.2.1 (t + 4) (Int32.toNatClampNeg v11))]) (q := t) (rest := []) dX3_splitLayer_160 ov_mX3_charge lk_RX3_93 (by decide) (by decide) rfl rfl (Nat.le_of_ble_eq_true rfl) (tq_X3_0 hG ht) rfl (VM_X3_charge G t hG ht (μ.1 (r1 + 8) (Int32.toNatClampNeg v11)) (μ.1 r2 (Int32.toNatClampNeg (μ.1 (r1 + 8) (Int32.toNatClampNeg v11)))) (μ.2.1 (t + 4) (Int32.toNatClampNeg v11)) μ _ y16) ?_
  refine V_iinc (v := v10 + 1) (lv2 := [some (.ref t), some (.ref r1), some (.ref r2), some (.int v3), some (.long v4), none, some (.long v6), none, some (.long v8), none, some (.int (v10 + 1)), some (.int v11)]) dX3_splitLayer_163 rfl rfl (by decide) rfl ?_
  refine V_goto (tgt := 93) dX3_splitLayer_166 (by decide) ?_
  exact V_wk [true, true, true, true, true, false, true, false, true, false, true, false] rfl (hk93 _ _ _ _ _ _ _ h)
def D_X3_splitLayer_93 (fu : Nat) (t : Nat) (r1 : Nat) (r2 : Nat) (n2 : Nat) : Nat → Int32 → Int64 → Int64 → Int64 → Int32 → Mem → Option Mem
  | 0, _, _, _, _, _, _ => none
  | n + 1, v3, v4, v6, v8, v10, μ =>
    gu (ib v3 40) <|
    if (μ.1 (r1 + 6) (Int32.toNatClampNeg v3)) ≤ v10 then
      gu (ib 4 7) <|
      gu (ib 4 7) <|
      vl (wL μ (t + 6) (Int32.toNatClampNeg 4) ((μ.2.1 (t + 6) (Int32.toNatClampNeg 4)) + (v4 - v6))) fun m9 =>
      some m9
    else
      if v8 ≤ (0 : Int64) then
        D_X3_splitLayer_136 fu t r1 r2 n2 (D_X3_splitLayer_93 fu t r1 r2 n2 n) v3 v4 v6 v8 v10 ((v3 * 4) + v10) μ
      else
        gu (ib ((v3 * 4) + v10) 160) <|
        gu (ib ((v3 * 4) + v10) 160) <|
        vl (wL μ (t + 4) (Int32.toNatClampNeg ((v3 * 4) + v10)) ((μ.2.1 (t + 4) (Int32.toNatClampNeg ((v3 * 4) + v10))) + 1)) fun m19 =>
        D_X3_splitLayer_136 fu t r1 r2 n2 (D_X3_splitLayer_93 fu t r1 r2 n2 n) v3 v4 v6 (v8 - 1) v10 ((v3 * 4) + v10) m19
set_option maxRecDepth 20000 in
theorem T_X3_splitLayer_93 (G : GX) (fu : Nat) (t : Nat) (r1 : Nat) (r2 : Nat) (n2 : Nat) (hG : gt G = tbl) (ht : IsX3 t) (hr1 : IsX5 r1) (h2 : (gt G)[r2]? = some (.inl (0, n2))) : ∀ (n : Nat) (v3 : Int32) (v4 : Int64) (v6 : Int64) (v8 : Int64) (v10 : Int32) (μ : Mem) (r : Mem) , D_X3_splitLayer_93 fu t r1 r2 n2 n v3 v4 v6 v8 v10 μ = some r → V G mX3_splitLayer 93 [some (.ref t), some (.ref r1), some (.ref r2), some (.int v3), some (.long v4), none, some (.long v6), none, some (.long v8), none, some (.int v10), none] [] μ (.inl none) (r) := by
  intro n
  induction n with
  | zero =>
    intro v3 v4 v6 v8 v10 μ r h
    exact nomatch (show (none : Option Mem) = some r from h)
  | succ n ih =>
    intro v3 v4 v6 v8 v10 μ r h
    rw [D_X3_splitLayer_93] at h
    refine V_iload dX3_splitLayer_93 rfl ?_
    refine V_aload_n dX3_splitLayer_95 rfl ?_
    refine V_getR (kf := 5) k_X5 (by decide) lk_RX3_84 rfl dX3_splitLayer_96 (tq_X5_0 hG hr1) rfl ?_
    refine V_iload_n dX3_splitLayer_99 rfl ?_
    obtain ⟨g6, h⟩ := gu_o h
    refine V_iaload dX3_splitLayer_100 (tq_X5_6 hG hr1) (ib_in g6) ?_
    by_cases c101 : (μ.1 (r1 + 6) (Int32.toNatClampNeg v3)) ≤ v10
    · rw [if_pos c101] at h
      refine V_icmpge_t (tgt := 169) dX3_splitLayer_101 (by decide) c101 ?_
      refine V_aload_n dX3_splitLayer_169 rfl ?_
      refine V_getR (kf := 5) k_X3 (by decide) lk_RX3_27 rfl dX3_splitLayer_170 (tq_X3_0 hG ht) rfl ?_
      refine V_iconst (v := 4) dX3_splitLayer_173 rfl ?_
      refine V_dup2 dX3_splitLayer_174 rfl rfl ?_
      obtain ⟨g7, h⟩ := gu_o h
      refine V_laload dX3_splitLayer_175 (tq_X3_6 hG ht) (ib_in g7) ?_
      refine V_lload dX3_splitLayer_176 rfl ?_
      refine V_lload dX3_splitLayer_178 rfl ?_
      refine V_lsub dX3_splitLayer_180 ?_
      refine V_ladd dX3_splitLayer_181 ?_
      obtain ⟨g8, h⟩ := gu_o h
      obtain ⟨m9, e10, h⟩ := vl_o h
      refine V_lastore (μ2 := m9) dX3_splitLayer_182 (tq_X3_6 hG ht) (ib_in g8) e10.symm ?_
      cases h
      exact V_vret rfl dX3_splitLayer_183
    · rw [if_neg c101] at h
      refine V_icmpge_f (tgt := 169) dX3_splitLayer_101 (by decide) c101 ?_
      refine V_iload_n dX3_splitLayer_104 rfl ?_
      refine V_iconst (v := 4) dX3_splitLayer_105 rfl ?_
      refine V_imul dX3_splitLayer_106 ?_
      refine V_iload dX3_splitLayer_107 rfl ?_
      refine V_iadd dX3_splitLayer_109 ?_
      refine V_istore (lv2 := [some (.ref t), some (.ref r1), some (.ref r2), some (.int v3), some (.long v4), none, some (.long v6), none, some (.long v8), none, some (.int v10), some (.int ((v3 * 4) + v10))]) dX3_splitLayer_110 (by decide) rfl ?_
      refine V_lload dX3_splitLayer_112 rfl ?_
      refine V_lconst (v := 0) dX3_splitLayer_114 rfl ?_
      refine V_lcmp dX3_splitLayer_115 ?_
      by_cases c116 : v8 ≤ (0 : Int64)
      · rw [if_pos c116] at h
        refine V_ifle_t (tgt := 136) dX3_splitLayer_116 (by decide) ((lc_le v8 0).mpr c116) ?_
        exact V_wk [true, true, true, true, true, false, true, false, true, false, true, true] rfl (T_X3_splitLayer_136 G fu t r1 r2 n2 hG ht hr1 h2 (D_X3_splitLayer_93 fu t r1 r2 n2 n) ih _ _ _ _ _ _ _ _ h)
      · rw [if_neg c116] at h
        refine V_ifle_f (tgt := 136) dX3_splitLayer_116 (by decide) (fun z => c116 ((lc_le v8 0).mp z)) ?_
        refine V_aload_n dX3_splitLayer_119 rfl ?_
        refine V_getR (kf := 3) k_X3 (by decide) lk_RX3_21 rfl dX3_splitLayer_120 (tq_X3_0 hG ht) rfl ?_
        refine V_iload dX3_splitLayer_123 rfl ?_
        refine V_dup2 dX3_splitLayer_125 rfl rfl ?_
        obtain ⟨g17, h⟩ := gu_o h
        refine V_laload dX3_splitLayer_126 (tq_X3_4 hG ht) (ib_in g17) ?_
        refine V_lconst (v := 1) dX3_splitLayer_127 rfl ?_
        refine V_ladd dX3_splitLayer_128 ?_
        obtain ⟨g18, h⟩ := gu_o h
        obtain ⟨m19, e20, h⟩ := vl_o h
        refine V_lastore (μ2 := m19) dX3_splitLayer_129 (tq_X3_4 hG ht) (ib_in g18) e20.symm ?_
        refine V_lload dX3_splitLayer_130 rfl ?_
        refine V_lconst (v := 1) dX3_splitLayer_132 rfl ?_
        refine V_lsub dX3_splitLayer_133 ?_
        refine V_lstore (lv2 := [some (.ref t), some (.ref r1), some (.ref r2), some (.int v3), some (.long v4), none, some (.long v6), none, some (.long (v8 - 1)), none, some (.int v10), some (.int ((v3 * 4) + v10))]) dX3_splitLayer_134 (by decide) rfl ?_
        exact V_wk [true, true, true, true, true, false, true, false, true, false, true, true] rfl (T_X3_splitLayer_136 G fu t r1 r2 n2 hG ht hr1 h2 (D_X3_splitLayer_93 fu t r1 r2 n2 n) ih _ _ _ _ _ _ _ _ h)
def D_X3_splitLayer_31 (fu : Nat) (t : Nat) (r1 : Nat) (r2 : Nat) (n2 : Nat) : Nat → Int32 → Int64 → Int64 → Int64 → Int32 → Mem → Option Mem
  | 0, _, _, _, _, _, _ => none
  | n + 1, v3, v4, v6, v8, v10, μ =>
    gu (ib v3 40) <|
    if (μ.1 (r1 + 6) (Int32.toNatClampNeg v3)) ≤ v10 then
      D_X3_splitLayer_93 fu t r1 r2 n2 fu v3 v4 v6 v8 0 μ
    else
      gu (ib ((v3 * 4) + v10) 160) <|
      gu (ib ((v3 * 4) + v10) 160) <|
      vl (wL μ (t + 4) (Int32.toNatClampNeg ((v3 * 4) + v10)) ((v4 * ((μ.1 (r1 + 9) (Int32.toNatClampNeg ((v3 * 4) + v10)) : Int32).toInt64)) / 10)) fun m23 =>
      gu (ib ((v3 * 4) + v10) 160) <|
      vl (v8 - (m23.2.1 (t + 4) (Int32.toNatClampNeg ((v3 * 4) + v10))) : Int64) fun x26 =>
      (D_X3_splitLayer_31 fu t r1 r2 n2 n) v3 v4 v6 x26 (v10 + 1) m23
set_option maxRecDepth 20000 in
theorem T_X3_splitLayer_31 (G : GX) (fu : Nat) (t : Nat) (r1 : Nat) (r2 : Nat) (n2 : Nat) (hG : gt G = tbl) (ht : IsX3 t) (hr1 : IsX5 r1) (h2 : (gt G)[r2]? = some (.inl (0, n2))) : ∀ (n : Nat) (v3 : Int32) (v4 : Int64) (v6 : Int64) (v8 : Int64) (v10 : Int32) (μ : Mem) (r : Mem) , D_X3_splitLayer_31 fu t r1 r2 n2 n v3 v4 v6 v8 v10 μ = some r → V G mX3_splitLayer 31 [some (.ref t), some (.ref r1), some (.ref r2), some (.int v3), some (.long v4), none, some (.long v6), none, some (.long v8), none, some (.int v10), none] [] μ (.inl none) (r) := by
  intro n
  induction n with
  | zero =>
    intro v3 v4 v6 v8 v10 μ r h
    exact nomatch (show (none : Option Mem) = some r from h)
  | succ n ih =>
    intro v3 v4 v6 v8 v10 μ r h
    rw [D_X3_splitLayer_31] at h
    refine V_iload dX3_splitLayer_31 rfl ?_
    refine V_aload_n dX3_splitLayer_33 rfl ?_
    refine V_getR (kf := 5) k_X5 (by decide) lk_RX3_84 rfl dX3_splitLayer_34 (tq_X5_0 hG hr1) rfl ?_
    refine V_iload_n dX3_splitLayer_37 rfl ?_
    obtain ⟨g5, h⟩ := gu_o h
    refine V_iaload dX3_splitLayer_38 (tq_X5_6 hG hr1) (ib_in g5) ?_
    by_cases c39 : (μ.1 (r1 + 6) (Int32.toNatClampNeg v3)) ≤ v10
    · rw [if_pos c39] at h
      refine V_icmpge_t (tgt := 90) dX3_splitLayer_39 (by decide) c39 ?_
      refine V_iconst (v := 0) dX3_splitLayer_90 rfl ?_
      refine V_istore (lv2 := [some (.ref t), some (.ref r1), some (.ref r2), some (.int v3), some (.long v4), none, some (.long v6), none, some (.long v8), none, some (.int 0), none]) dX3_splitLayer_91 (by decide) rfl ?_
      exact V_wk [true, true, true, true, true, false, true, false, true, false, true, false] rfl (T_X3_splitLayer_93 G fu t r1 r2 n2 hG ht hr1 h2 fu _ _ _ _ _ _ _ h)
    · rw [if_neg c39] at h
      refine V_icmpge_f (tgt := 90) dX3_splitLayer_39 (by decide) c39 ?_
      refine V_iload_n dX3_splitLayer_42 rfl ?_
      refine V_iconst (v := 4) dX3_splitLayer_43 rfl ?_
      refine V_imul dX3_splitLayer_44 ?_
      refine V_iload dX3_splitLayer_45 rfl ?_
      refine V_iadd dX3_splitLayer_47 ?_
      refine V_istore (lv2 := [some (.ref t), some (.ref r1), some (.ref r2), some (.int v3), some (.long v4), none, some (.long v6), none, some (.long v8), none, some (.int v10), some (.int ((v3 * 4) + v10))]) dX3_splitLayer_48 (by decide) rfl ?_
      refine V_aload_n dX3_splitLayer_50 rfl ?_
      refine V_getR (kf := 3) k_X3 (by decide) lk_RX3_21 rfl dX3_splitLayer_51 (tq_X3_0 hG ht) rfl ?_
      refine V_iload dX3_splitLayer_54 rfl ?_
      refine V_lload dX3_splitLayer_56 rfl ?_
      refine V_aload_n dX3_splitLayer_58 rfl ?_
      refine V_getR (kf := 8) k_X5 (by decide) lk_RX3_87 rfl dX3_splitLayer_59 (tq_X5_0 hG hr1) rfl ?_
      refine V_iload dX3_splitLayer_62 rfl ?_
      obtain ⟨g21, h⟩ := gu_o h
      refine V_iaload dX3_splitLayer_64 (tq_X5_9 hG hr1) (ib_in g21) ?_
      refine V_i2l dX3_splitLayer_65 ?_
      refine V_lmul dX3_splitLayer_66 ?_
      refine V_ldc2 (v := 10) dX3_splitLayer_67 lk_RX3_82 ?_
      refine V_ldiv dX3_splitLayer_70 (by decide) ?_
      obtain ⟨g22, h⟩ := gu_o h
      obtain ⟨m23, e24, h⟩ := vl_o h
      refine V_lastore (μ2 := m23) dX3_splitLayer_71 (tq_X3_4 hG ht) (ib_in g22) e24.symm ?_
      refine V_lload dX3_splitLayer_72 rfl ?_
      refine V_aload_n dX3_splitLayer_74 rfl ?_
      refine V_getR (kf := 3) k_X3 (by decide) lk_RX3_21 rfl dX3_splitLayer_75 (tq_X3_0 hG ht) rfl ?_
      refine V_iload dX3_splitLayer_78 rfl ?_
      obtain ⟨g25, h⟩ := gu_o h
      refine V_laload dX3_splitLayer_80 (tq_X3_4 hG ht) (ib_in g25) ?_
      refine V_lsub dX3_splitLayer_81 ?_
      obtain ⟨x26, e27, h⟩ := vl_o h
      refine V_topl e27 ?_
      refine V_lstore (lv2 := [some (.ref t), some (.ref r1), some (.ref r2), some (.int v3), some (.long v4), none, some (.long v6), none, some (.long x26), none, some (.int v10), some (.int ((v3 * 4) + v10))]) dX3_splitLayer_82 (by decide) rfl ?_
      refine V_iinc (v := v10 + 1) (lv2 := [some (.ref t), some (.ref r1), some (.ref r2), some (.int v3), some (.long v4), none, some (.long v6), none, some (.long x26), none, some (.int (v10 + 1)), some (.int ((v3 * 4) + v10))]) dX3_splitLayer_84 rfl rfl (by decide) rfl ?_
      refine V_goto (tgt := 31) dX3_splitLayer_87 (by decide) ?_
      exact V_wk [true, true, true, true, true, false, true, false, true, false, true, false] rfl (ih _ _ _ _ _ _ _ h)
def D_X3_splitLayer_0 (fu : Nat) (t : Nat) (r1 : Nat) (r2 : Nat) (n2 : Nat) (a3 : Int32) (μ : Mem) : Option Mem :=
  gu (ib a3 40) <|
  gu (ib a3 40) <|
  vl (((μ.2.1 (t + 1) (Int32.toNatClampNeg a3)) * ((μ.1 (r1 + 7) (Int32.toNatClampNeg a3) : Int32).toInt64)) / 10 : Int64) fun x3 =>
  D_X3_splitLayer_31 fu t r1 r2 n2 fu a3 (μ.2.1 (t + 1) (Int32.toNatClampNeg a3)) x3 x3 0 μ
set_option maxRecDepth 20000 in
theorem T_X3_splitLayer_0 (G : GX) (fu : Nat) (t : Nat) (r1 : Nat) (r2 : Nat) (n2 : Nat) (hG : gt G = tbl) (ht : IsX3 t) (hr1 : IsX5 r1) (h2 : (gt G)[r2]? = some (.inl (0, n2))) : ∀ (a3 : Int32) (μ : Mem) (r : Mem) , D_X3_splitLayer_0 fu t r1 r2 n2 a3 μ = some r → V G mX3_splitLayer 0 [some (.ref t), some (.ref r1), some (.ref r2), some (.int a3), none, none, none, none, none, none, none, none] [] μ (.inl none) (r) := by
  intro a3 μ r h
  unfold D_X3_splitLayer_0 at h
  refine V_aload_n dX3_splitLayer_0 rfl ?_
  refine V_getR (kf := 0) k_X3 (by decide) lk_RX3_9 rfl dX3_splitLayer_1 (tq_X3_0 hG ht) rfl ?_
  refine V_iload_n dX3_splitLayer_4 rfl ?_
  obtain ⟨g1, h⟩ := gu_o h
  refine V_laload dX3_splitLayer_5 (tq_X3_1 hG ht) (ib_in g1) ?_
  refine V_lstore (lv2 := [some (.ref t), some (.ref r1), some (.ref r2), some (.int a3), some (.long (μ.2.1 (t + 1) (Int32.toNatClampNeg a3))), none, none, none, none, none, none, none]) dX3_splitLayer_6 (by decide) rfl ?_
  refine V_lload dX3_splitLayer_8 rfl ?_
  refine V_aload_n dX3_splitLayer_10 rfl ?_
  refine V_getR (kf := 6) k_X5 (by decide) lk_RX3_79 rfl dX3_splitLayer_11 (tq_X5_0 hG hr1) rfl ?_
  refine V_iload_n dX3_splitLayer_14 rfl ?_
  obtain ⟨g2, h⟩ := gu_o h
  refine V_iaload dX3_splitLayer_15 (tq_X5_7 hG hr1) (ib_in g2) ?_
  refine V_i2l dX3_splitLayer_16 ?_
  refine V_lmul dX3_splitLayer_17 ?_
  refine V_ldc2 (v := 10) dX3_splitLayer_18 lk_RX3_82 ?_
  refine V_ldiv dX3_splitLayer_21 (by decide) ?_
  obtain ⟨x3, e4, h⟩ := vl_o h
  refine V_topl e4 ?_
  refine V_lstore (lv2 := [some (.ref t), some (.ref r1), some (.ref r2), some (.int a3), some (.long (μ.2.1 (t + 1) (Int32.toNatClampNeg a3))), none, some (.long x3), none, none, none, none, none]) dX3_splitLayer_22 (by decide) rfl ?_
  refine V_lload dX3_splitLayer_24 rfl ?_
  refine V_lstore (lv2 := [some (.ref t), some (.ref r1), some (.ref r2), some (.int a3), some (.long (μ.2.1 (t + 1) (Int32.toNatClampNeg a3))), none, some (.long x3), none, some (.long x3), none, none, none]) dX3_splitLayer_26 (by decide) rfl ?_
  refine V_iconst (v := 0) dX3_splitLayer_28 rfl ?_
  refine V_istore (lv2 := [some (.ref t), some (.ref r1), some (.ref r2), some (.int a3), some (.long (μ.2.1 (t + 1) (Int32.toNatClampNeg a3))), none, some (.long x3), none, some (.long x3), none, some (.int 0), none]) dX3_splitLayer_29 (by decide) rfl ?_
  exact V_wk [true, true, true, true, true, false, true, false, true, false, true, false] rfl (T_X3_splitLayer_31 G fu t r1 r2 n2 hG ht hr1 h2 fu _ _ _ _ _ _ _ h)
theorem VM_X3_splitLayer (G : GX) (fu : Nat) (t : Nat) (r1 : Nat) (r2 : Nat) (n2 : Nat) (hG : gt G = tbl) (ht : IsX3 t) (hr1 : IsX5 r1) (h2 : (gt G)[r2]? = some (.inl (0, n2))) (a3 : Int32) (μ : Mem) (r : Mem) (h : D_X3_splitLayer_0 fu t r1 r2 n2 a3 μ = some r) : VM G mX3_splitLayer [.ref t, .ref r1, .ref r2, .int a3] μ (.inl none) (r) := V_entry ok_mX3_splitLayer rfl rfl (Nat.le_of_ble_eq_true rfl) (T_X3_splitLayer_0 G fu t r1 r2 n2 hG ht hr1 h2 a3 μ r h)
def D_X3_split_36 (fu : Nat) (t : Nat) (r1 : Nat) (r2 : Nat) (n2 : Nat) : Nat → Int32 → Mem → Option Mem
  | 0, _, _ => none
  | n + 1, v3, μ =>
    if (7 : Int32) ≤ v3 then
      some μ
    else
      gu (ib 0 10) <|
      gu (ib v3 7) <|
      gu (ib 0 10) <|
      vl (wL μ (t + 5) (Int32.toNatClampNeg 0) ((μ.2.1 (t + 5) (Int32.toNatClampNeg 0)) + (μ.2.1 (t + 6) (Int32.toNatClampNeg v3)))) fun m4 =>
      (D_X3_split_36 fu t r1 r2 n2 n) (v3 + 1) m4
set_option maxRecDepth 20000 in
theorem T_X3_split_36 (G : GX) (fu : Nat) (t : Nat) (r1 : Nat) (r2 : Nat) (n2 : Nat) (hG : gt G = tbl) (ht : IsX3 t) (hr1 : IsX5 r1) (h2 : (gt G)[r2]? = some (.inl (0, n2))) : ∀ (n : Nat) (v3 : Int32) (μ : Mem) (r : Mem) , D_X3_split_36 fu t r1 r2 n2 n v3 μ = some r → V G mX3_split 36 [some (.ref t), none, none, some (.int v3)] [] μ (.inl none) (r) := by
  intro n
  induction n with
  | zero =>
    intro v3 μ r h
    exact nomatch (show (none : Option Mem) = some r from h)
  | succ n ih =>
    intro v3 μ r h
    rw [D_X3_split_36] at h
    refine V_iload_n dX3_split_36 rfl ?_
    refine V_bipush (v := 7) dX3_split_37 rfl ?_
    by_cases c39 : (7 : Int32) ≤ v3
    · rw [if_pos c39] at h
      refine V_icmpge_t (tgt := 63) dX3_split_39 (by decide) c39 ?_
      cases h
      exact V_vret rfl dX3_split_63
    · rw [if_neg c39] at h
      refine V_icmpge_f (tgt := 63) dX3_split_39 (by decide) c39 ?_
      refine V_aload_n dX3_split_42 rfl ?_
      refine V_getR (kf := 4) k_X3 (by decide) lk_RX3_24 rfl dX3_split_43 (tq_X3_0 hG ht) rfl ?_
      refine V_iconst (v := 0) dX3_split_46 rfl ?_
      refine V_dup2 dX3_split_47 rfl rfl ?_
      obtain ⟨g1, h⟩ := gu_o h
      refine V_laload dX3_split_48 (tq_X3_5 hG ht) (ib_in g1) ?_
      refine V_aload_n dX3_split_49 rfl ?_
      refine V_getR (kf := 5) k_X3 (by decide) lk_RX3_27 rfl dX3_split_50 (tq_X3_0 hG ht) rfl ?_
      refine V_iload_n dX3_split_53 rfl ?_
      obtain ⟨g2, h⟩ := gu_o h
      refine V_laload dX3_split_54 (tq_X3_6 hG ht) (ib_in g2) ?_
      refine V_ladd dX3_split_55 ?_
      obtain ⟨g3, h⟩ := gu_o h
      obtain ⟨m4, e5, h⟩ := vl_o h
      refine V_lastore (μ2 := m4) dX3_split_56 (tq_X3_5 hG ht) (ib_in g3) e5.symm ?_
      refine V_iinc (v := v3 + 1) (lv2 := [some (.ref t), none, none, some (.int (v3 + 1))]) dX3_split_57 rfl rfl (by decide) rfl ?_
      refine V_goto (tgt := 36) dX3_split_60 (by decide) ?_
      exact V_wk [true, false, false, true] rfl (ih _ _ _ h)
def D_X3_split_28 (fu : Nat) (t : Nat) (r1 : Nat) (r2 : Nat) (n2 : Nat) (k2 : Int32 → Mem → Option Mem) (v3 : Int32) (μ : Mem) : Option Mem :=
  k2 (v3 + 1) μ
set_option maxRecDepth 20000 in
theorem T_X3_split_28 (G : GX) (fu : Nat) (t : Nat) (r1 : Nat) (r2 : Nat) (n2 : Nat) (hG : gt G = tbl) (ht : IsX3 t) (hr1 : IsX5 r1) (h2 : (gt G)[r2]? = some (.inl (0, n2))) (k2 : Int32 → Mem → Option Mem) (hk2 : ∀ (v3 : Int32) (μ : Mem) (r : Mem), k2 v3 μ = some r → V G mX3_split 2 [some (.ref t), some (.ref r1), some (.ref r2), some (.int v3)] [] μ (.inl none) (r)) : ∀ (v3 : Int32) (μ : Mem) (r : Mem) , D_X3_split_28 fu t r1 r2 n2 k2 v3 μ = some r → V G mX3_split 28 [some (.ref t), some (.ref r1), some (.ref r2), some (.int v3)] [] μ (.inl none) (r) := by
  intro v3 μ r h
  unfold D_X3_split_28 at h
  refine V_iinc (v := v3 + 1) (lv2 := [some (.ref t), some (.ref r1), some (.ref r2), some (.int (v3 + 1))]) dX3_split_28 rfl rfl (by decide) rfl ?_
  refine V_goto (tgt := 2) dX3_split_31 (by decide) ?_
  exact V_wk [true, true, true, true] rfl (hk2 _ _ _ h)
def D_X3_split_2 (fu : Nat) (t : Nat) (r1 : Nat) (r2 : Nat) (n2 : Nat) : Nat → Int32 → Mem → Option Mem
  | 0, _, _ => none
  | n + 1, v3, μ =>
    if (μ.1 r1 13) ≤ v3 then
      D_X3_split_36 fu t r1 r2 n2 fu 0 μ
    else
      gu (ib v3 40) <|
      if (μ.2.1 (t + 1) (Int32.toNatClampNeg v3)) ≤ (0 : Int64) then
        D_X3_split_28 fu t r1 r2 n2 (D_X3_split_2 fu t r1 r2 n2 n) v3 μ
      else
        (D_X3_splitLayer_0 fu t r1 r2 n2 v3 μ).bind fun x7 =>
        D_X3_split_28 fu t r1 r2 n2 (D_X3_split_2 fu t r1 r2 n2 n) v3 x7
set_option maxRecDepth 20000 in
theorem T_X3_split_2 (G : GX) (fu : Nat) (t : Nat) (r1 : Nat) (r2 : Nat) (n2 : Nat) (hG : gt G = tbl) (ht : IsX3 t) (hr1 : IsX5 r1) (h2 : (gt G)[r2]? = some (.inl (0, n2))) : ∀ (n : Nat) (v3 : Int32) (μ : Mem) (r : Mem) , D_X3_split_2 fu t r1 r2 n2 n v3 μ = some r → V G mX3_split 2 [some (.ref t), some (.ref r1), some (.ref r2), some (.int v3)] [] μ (.inl none) (r) := by
  intro n
  induction n with
  | zero =>
    intro v3 μ r h
    exact nomatch (show (none : Option Mem) = some r from h)
  | succ n ih =>
    intro v3 μ r h
    rw [D_X3_split_2] at h
    refine V_iload_n dX3_split_2 rfl ?_
    refine V_aload_n dX3_split_3 rfl ?_
    refine V_getI (kf := 13) k_X5 (by decide) lk_RX3_71 rfl dX3_split_4 (tq_X5_0 hG hr1) rfl ?_
    by_cases c7 : (μ.1 r1 13) ≤ v3
    · rw [if_pos c7] at h
      refine V_icmpge_t (tgt := 34) dX3_split_7 (by decide) c7 ?_
      refine V_iconst (v := 0) dX3_split_34 rfl ?_
      refine V_istore_n (lv2 := [some (.ref t), some (.ref r1), some (.ref r2), some (.int 0)]) dX3_split_35 (by decide) rfl ?_
      exact V_wk [true, false, false, true] rfl (T_X3_split_36 G fu t r1 r2 n2 hG ht hr1 h2 fu _ _ _ h)
    · rw [if_neg c7] at h
      refine V_icmpge_f (tgt := 34) dX3_split_7 (by decide) c7 ?_
      refine V_aload_n dX3_split_10 rfl ?_
      refine V_getR (kf := 0) k_X3 (by decide) lk_RX3_9 rfl dX3_split_11 (tq_X3_0 hG ht) rfl ?_
      refine V_iload_n dX3_split_14 rfl ?_
      obtain ⟨g6, h⟩ := gu_o h
      refine V_laload dX3_split_15 (tq_X3_1 hG ht) (ib_in g6) ?_
      refine V_lconst (v := 0) dX3_split_16 rfl ?_
      refine V_lcmp dX3_split_17 ?_
      by_cases c18 : (μ.2.1 (t + 1) (Int32.toNatClampNeg v3)) ≤ (0 : Int64)
      · rw [if_pos c18] at h
        refine V_ifle_t (tgt := 28) dX3_split_18 (by decide) ((lc_le (μ.2.1 (t + 1) (Int32.toNatClampNeg v3)) 0).mpr c18) ?_
        exact V_wk [true, true, true, true] rfl (T_X3_split_28 G fu t r1 r2 n2 hG ht hr1 h2 (D_X3_split_2 fu t r1 r2 n2 n) ih _ _ _ h)
      · rw [if_neg c18] at h
        refine V_ifle_f (tgt := 28) dX3_split_18 (by decide) (fun z => c18 ((lc_le (μ.2.1 (t + 1) (Int32.toNatClampNeg v3)) 0).mp z)) ?_
        refine V_aload_n dX3_split_21 rfl ?_
        refine V_aload_n dX3_split_22 rfl ?_
        refine V_aload_n dX3_split_23 rfl ?_
        refine V_iload_n dX3_split_24 rfl ?_
        obtain ⟨x7, y8, h⟩ := bi_o h
        refine V_callV (as := [.ref r1, .ref r2, .int v3]) (q := t) (rest := []) dX3_split_25 ov_mX3_splitLayer lk_RX3_75 (by decide) (by decide) rfl rfl (Nat.le_of_ble_eq_true rfl) (tq_X3_0 hG ht) rfl (VM_X3_splitLayer G fu t r1 r2 n2 hG ht hr1 h2 v3 μ _ y8) ?_
        exact V_wk [true, true, true, true] rfl (T_X3_split_28 G fu t r1 r2 n2 hG ht hr1 h2 (D_X3_split_2 fu t r1 r2 n2 n) ih _ _ _ h)
def D_X3_split_0 (fu : Nat) (t : Nat) (r1 : Nat) (r2 : Nat) (n2 : Nat) (μ : Mem) : Option Mem :=
  D_X3_split_2 fu t r1 r2 n2 fu 0 μ
set_option maxRecDepth 20000 in
theorem T_X3_split_0 (G : GX) (fu : Nat) (t : Nat) (r1 : Nat) (r2 : Nat) (n2 : Nat) (hG : gt G = tbl) (ht : IsX3 t) (hr1 : IsX5 r1) (h2 : (gt G)[r2]? = some (.inl (0, n2))) : ∀ (μ : Mem) (r : Mem) , D_X3_split_0 fu t r1 r2 n2 μ = some r → V G mX3_split 0 [some (.ref t), some (.ref r1), some (.ref r2), none] [] μ (.inl none) (r) := by
  intro μ r h
  unfold D_X3_split_0 at h
  refine V_iconst (v := 0) dX3_split_0 rfl ?_
  refine V_istore_n (lv2 := [some (.ref t), some (.ref r1), some (.ref r2), some (.int 0)]) dX3_split_1 (by decide) rfl ?_
  exact V_wk [true, true, true, true] rfl (T_X3_split_2 G fu t r1 r2 n2 hG ht hr1 h2 fu _ _ _ h)
theorem VM_X3_split (G : GX) (fu : Nat) (t : Nat) (r1 : Nat) (r2 : Nat) (n2 : Nat) (hG : gt G = tbl) (ht : IsX3 t) (hr1 : IsX5 r1) (h2 : (gt G)[r2]? = some (.inl (0, n2))) (μ : Mem) (r : Mem) (h : D_X3_split_0 fu t r1 r2 n2 μ = some r) : VM G mX3_split [.ref t, .ref r1, .ref r2] μ (.inl none) (r) := V_entry ok_mX3_split rfl rfl (Nat.le_of_ble_eq_true rfl) (T_X3_split_0 G fu t r1 r2 n2 hG ht hr1 h2 μ r h)
def D_X4_plan_146 (fu : Nat) (r1 : Nat) (μ : Mem) : Option Mem :=
  (D_X3_split_0 fu 62 (r1 + 1) (r1 + 27) 10 μ).bind fun x5 =>
  some x5
set_option maxRecDepth 20000 in
theorem T_X4_plan_146 (G : GX) (fu : Nat) (r1 : Nat) (hG : gt G = tbl) (hr1 : IsX0 r1) : ∀ (μ : Mem) (r : Mem) , D_X4_plan_146 fu r1 μ = some r → V G mX4_plan 146 [some (.ref 61), some (.ref r1), none, none, none, none, none] [] μ (.inl none) (r) := by
  intro μ r h
  unfold D_X4_plan_146 at h
  refine V_aload_n dX4_plan_146 rfl ?_
  refine V_getR (kf := 0) k_X4 (by decide) lk_RX4_12 rfl dX4_plan_147 (tq_61 hG) rfl ?_
  refine V_aload_n dX4_plan_150 rfl ?_
  refine V_getR (kf := 0) k_X0 (by decide) lk_RX4_47 rfl dX4_plan_151 (tq_X0_0 hG hr1) rfl ?_
  refine V_aload_n dX4_plan_154 rfl ?_
  refine V_getR (kf := 2) k_X0 (by decide) lk_RX4_89 rfl dX4_plan_155 (tq_X0_0 hG hr1) rfl ?_
  obtain ⟨x5, y6, h⟩ := bi_o h
  refine V_callV (as := [.ref (r1 + 1), .ref (r1 + 27)]) (q := 62) (rest := []) dX4_plan_158 ov_mX3_split lk_RX4_92 (by decide) (by decide) rfl rfl (Nat.le_of_ble_eq_true rfl) (tq_62 hG) rfl (VM_X3_split G fu 62 (r1 + 1) (r1 + 27) 10 hG (Or.inl rfl) (is_X0_1 hr1) (tq_X0_27 hG hr1) μ _ y6) ?_
  cases h
  exact V_vret rfl dX4_plan_161
def D_X4_plan_0 (fu : Nat) (r1 : Nat) (a2 : Int32) (a3 : Int32) (a4 : Int64) (a6 : Int32) (μ : Mem) : Option Mem :=
  if a6 = 0 then
    (D_X4_weighAlike_0 fu (r1 + 1) a3 μ).bind fun x1 =>
    (D_X4_payByWeights_0 fu r1 62 a2 a4 x1).bind fun x3 =>
    D_X4_plan_146 fu r1 x3
  else
  if a6 = 1 then
    (D_X4_weighBySizes_0 fu (r1 + 1) a3 μ).bind fun x7 =>
    (D_X4_payByWeights_0 fu r1 62 a2 a4 x7).bind fun x9 =>
    D_X4_plan_146 fu r1 x9
  else
  if a6 = 2 then
    (D_X4_weighAlike_0 fu (r1 + 1) a3 μ).bind fun x11 =>
    (D_X4_payByWeights_0 fu r1 69 a2 a4 x11).bind fun x13 =>
    (D_X4_measureRooms_0 fu r1 a2 a3 x13).bind fun x15 =>
    (D_X4_orderYears_0 fu r1 x15).bind fun x17 =>
    (D_X4_payInTurn_0 fu r1 a2 a4 x17).bind fun x19 =>
    (D_X4_contribute_0 fu (x19.1 (r1 + 1) 13) x19).bind fun x21 =>
    D_X4_plan_146 fu r1 x21
  else
    (D_X4_measureRooms_0 fu r1 a2 a3 μ).bind fun x23 =>
    (D_X4_payByLevel_0 fu r1 a2 a4 x23).bind fun x25 =>
    D_X4_plan_146 fu r1 x25
set_option maxRecDepth 20000 in
theorem T_X4_plan_0 (G : GX) (fu : Nat) (r1 : Nat) (hG : gt G = tbl) (hr1 : IsX0 r1) : ∀ (a2 : Int32) (a3 : Int32) (a4 : Int64) (a6 : Int32) (μ : Mem) (r : Mem) , D_X4_plan_0 fu r1 a2 a3 a4 a6 μ = some r → V G mX4_plan 0 [some (.ref 61), some (.ref r1), some (.int a2), some (.int a3), some (.long a4), none, some (.int a6)] [] μ (.inl none) (r) := by
  intro a2 a3 a4 a6 μ r h
  unfold D_X4_plan_0 at h
  refine V_iload dX4_plan_0 rfl ?_
  by_cases c2_0 : a6 = 0
  · rw [if_pos c2_0] at h
    have qc2_0 : (a6 : Int32).toInt = 0 := by rw [c2_0]; decide
    refine V_tabIn (tgt := 28) dX4_plan_2 (by rw [qc2_0]; decide) (by rw [qc2_0]; decide) (by rw [qc2_0]; rfl) (by decide) ?_
    refine V_aload_n dX4_plan_28 rfl ?_
    refine V_aload_n dX4_plan_29 rfl ?_
    refine V_getR (kf := 0) k_X0 (by decide) lk_RX4_47 rfl dX4_plan_30 (tq_X0_0 hG hr1) rfl ?_
    refine V_iload_n dX4_plan_33 rfl ?_
    obtain ⟨x1, y2, h⟩ := bi_o h
    refine V_callV (as := [.ref (r1 + 1), .int a3]) (q := 61) (rest := []) dX4_plan_34 ov_mX4_weighAlike lk_RX4_53 (by decide) (by decide) rfl rfl (Nat.le_of_ble_eq_true rfl) (tq_61 hG) rfl (VM_X4_weighAlike G fu (r1 + 1) hG (is_X0_1 hr1) a3 μ _ y2) ?_
    refine V_aload_n dX4_plan_37 rfl ?_
    refine V_aload_n dX4_plan_38 rfl ?_
    refine V_iload_n dX4_plan_39 rfl ?_
    refine V_lload dX4_plan_40 rfl ?_
    refine V_aload_n dX4_plan_42 rfl ?_
    refine V_getR (kf := 0) k_X4 (by decide) lk_RX4_12 rfl dX4_plan_43 (tq_61 hG) rfl ?_
    obtain ⟨x3, y4, h⟩ := bi_o h
    refine V_callV (as := [.ref r1, .int a2, .long a4, .ref 62]) (q := 61) (rest := []) dX4_plan_46 ov_mX4_payByWeights lk_RX4_57 (by decide) (by decide) rfl rfl (Nat.le_of_ble_eq_true rfl) (tq_61 hG) rfl (VM_X4_payByWeights G fu r1 62 hG hr1 (Or.inl rfl) a2 a4 x1 _ y4) ?_
    refine V_goto (tgt := 146) dX4_plan_49 (by decide) ?_
    exact V_wk [true, true, false, false, false, false, false] rfl (T_X4_plan_146 G fu r1 hG hr1 _ _ h)
  · rw [if_neg c2_0] at h
    by_cases c2_1 : a6 = 1
    · rw [if_pos c2_1] at h
      have qc2_1 : (a6 : Int32).toInt = 1 := by rw [c2_1]; decide
      refine V_tabIn (tgt := 52) dX4_plan_2 (by rw [qc2_1]; decide) (by rw [qc2_1]; decide) (by rw [qc2_1]; rfl) (by decide) ?_
      refine V_aload_n dX4_plan_52 rfl ?_
      refine V_aload_n dX4_plan_53 rfl ?_
      refine V_getR (kf := 0) k_X0 (by decide) lk_RX4_47 rfl dX4_plan_54 (tq_X0_0 hG hr1) rfl ?_
      refine V_iload_n dX4_plan_57 rfl ?_
      obtain ⟨x7, y8, h⟩ := bi_o h
      refine V_callV (as := [.ref (r1 + 1), .int a3]) (q := 61) (rest := []) dX4_plan_58 ov_mX4_weighBySizes lk_RX4_61 (by decide) (by decide) rfl rfl (Nat.le_of_ble_eq_true rfl) (tq_61 hG) rfl (VM_X4_weighBySizes G fu (r1 + 1) hG (is_X0_1 hr1) a3 μ _ y8) ?_
      refine V_aload_n dX4_plan_61 rfl ?_
      refine V_aload_n dX4_plan_62 rfl ?_
      refine V_iload_n dX4_plan_63 rfl ?_
      refine V_lload dX4_plan_64 rfl ?_
      refine V_aload_n dX4_plan_66 rfl ?_
      refine V_getR (kf := 0) k_X4 (by decide) lk_RX4_12 rfl dX4_plan_67 (tq_61 hG) rfl ?_
      obtain ⟨x9, y10, h⟩ := bi_o h
      refine V_callV (as := [.ref r1, .int a2, .long a4, .ref 62]) (q := 61) (rest := []) dX4_plan_70 ov_mX4_payByWeights lk_RX4_57 (by decide) (by decide) rfl rfl (Nat.le_of_ble_eq_true rfl) (tq_61 hG) rfl (VM_X4_payByWeights G fu r1 62 hG hr1 (Or.inl rfl) a2 a4 x7 _ y10) ?_
      refine V_goto (tgt := 146) dX4_plan_73 (by decide) ?_
      exact V_wk [true, true, false, false, false, false, false] rfl (T_X4_plan_146 G fu r1 hG hr1 _ _ h)
    · rw [if_neg c2_1] at h
      by_cases c2_2 : a6 = 2
      · rw [if_pos c2_2] at h
        have qc2_2 : (a6 : Int32).toInt = 2 := by rw [c2_2]; decide
        refine V_tabIn (tgt := 76) dX4_plan_2 (by rw [qc2_2]; decide) (by rw [qc2_2]; decide) (by rw [qc2_2]; rfl) (by decide) ?_
        refine V_aload_n dX4_plan_76 rfl ?_
        refine V_aload_n dX4_plan_77 rfl ?_
        refine V_getR (kf := 0) k_X0 (by decide) lk_RX4_47 rfl dX4_plan_78 (tq_X0_0 hG hr1) rfl ?_
        refine V_iload_n dX4_plan_81 rfl ?_
        obtain ⟨x11, y12, h⟩ := bi_o h
        refine V_callV (as := [.ref (r1 + 1), .int a3]) (q := 61) (rest := []) dX4_plan_82 ov_mX4_weighAlike lk_RX4_53 (by decide) (by decide) rfl rfl (Nat.le_of_ble_eq_true rfl) (tq_61 hG) rfl (VM_X4_weighAlike G fu (r1 + 1) hG (is_X0_1 hr1) a3 μ _ y12) ?_
        refine V_aload_n dX4_plan_85 rfl ?_
        refine V_aload_n dX4_plan_86 rfl ?_
        refine V_iload_n dX4_plan_87 rfl ?_
        refine V_lload dX4_plan_88 rfl ?_
        refine V_aload_n dX4_plan_90 rfl ?_
        refine V_getR (kf := 1) k_X4 (by decide) lk_RX4_18 rfl dX4_plan_91 (tq_61 hG) rfl ?_
        obtain ⟨x13, y14, h⟩ := bi_o h
        refine V_callV (as := [.ref r1, .int a2, .long a4, .ref 69]) (q := 61) (rest := []) dX4_plan_94 ov_mX4_payByWeights lk_RX4_57 (by decide) (by decide) rfl rfl (Nat.le_of_ble_eq_true rfl) (tq_61 hG) rfl (VM_X4_payByWeights G fu r1 69 hG hr1 (Or.inr rfl) a2 a4 x11 _ y14) ?_
        refine V_aload_n dX4_plan_97 rfl ?_
        refine V_aload_n dX4_plan_98 rfl ?_
        refine V_iload_n dX4_plan_99 rfl ?_
        refine V_iload_n dX4_plan_100 rfl ?_
        obtain ⟨x15, y16, h⟩ := bi_o h
        refine V_callV (as := [.ref r1, .int a2, .int a3]) (q := 61) (rest := []) dX4_plan_101 ov_mX4_measureRooms lk_RX4_64 (by decide) (by decide) rfl rfl (Nat.le_of_ble_eq_true rfl) (tq_61 hG) rfl (VM_X4_measureRooms G fu r1 hG hr1 a2 a3 x13 _ y16) ?_
        refine V_aload_n dX4_plan_104 rfl ?_
        refine V_aload_n dX4_plan_105 rfl ?_
        obtain ⟨x17, y18, h⟩ := bi_o h
        refine V_callV (as := [.ref r1]) (q := 61) (rest := []) dX4_plan_106 ov_mX4_orderYears lk_RX4_68 (by decide) (by decide) rfl rfl (Nat.le_of_ble_eq_true rfl) (tq_61 hG) rfl (VM_X4_orderYears G fu r1 hG hr1 x15 _ y18) ?_
        refine V_aload_n dX4_plan_109 rfl ?_
        refine V_aload_n dX4_plan_110 rfl ?_
        refine V_iload_n dX4_plan_111 rfl ?_
        refine V_lload dX4_plan_112 rfl ?_
        obtain ⟨x19, y20, h⟩ := bi_o h
        refine V_callV (as := [.ref r1, .int a2, .long a4]) (q := 61) (rest := []) dX4_plan_114 ov_mX4_payInTurn lk_RX4_72 (by decide) (by decide) rfl rfl (Nat.le_of_ble_eq_true rfl) (tq_61 hG) rfl (VM_X4_payInTurn G fu r1 hG hr1 a2 a4 x17 _ y20) ?_
        refine V_aload_n dX4_plan_117 rfl ?_
        refine V_aload_n dX4_plan_118 rfl ?_
        refine V_getR (kf := 0) k_X0 (by decide) lk_RX4_47 rfl dX4_plan_119 (tq_X0_0 hG hr1) rfl ?_
        refine V_getI (kf := 13) k_X5 (by decide) lk_RX4_76 rfl dX4_plan_122 (tq_X0_1 hG hr1) rfl ?_
        obtain ⟨x21, y22, h⟩ := bi_o h
        refine V_callV (as := [.int (x19.1 (r1 + 1) 13)]) (q := 61) (rest := []) dX4_plan_125 ov_mX4_contribute lk_RX4_82 (by decide) (by decide) rfl rfl (Nat.le_of_ble_eq_true rfl) (tq_61 hG) rfl (VM_X4_contribute G fu hG (x19.1 (r1 + 1) 13) x19 _ y22) ?_
        refine V_goto (tgt := 146) dX4_plan_128 (by decide) ?_
        exact V_wk [true, true, false, false, false, false, false] rfl (T_X4_plan_146 G fu r1 hG hr1 _ _ h)
      · rw [if_neg c2_2] at h
        refine V_tabOut (tgt := 131) dX4_plan_2 (tab_out 3 2 (by decide) (fun j hj => ?_)) (by decide) ?_
        · match j, hj with
          | 0, _ => exact fun z => c2_0 (Int32.toInt_inj.mp (by rw [z]; decide))
          | 1, _ => exact fun z => c2_1 (Int32.toInt_inj.mp (by rw [z]; decide))
          | 2, _ => exact fun z => c2_2 (Int32.toInt_inj.mp (by rw [z]; decide))
          | j + 3, hj => exact absurd hj (by omega)
        refine V_aload_n dX4_plan_131 rfl ?_
        refine V_aload_n dX4_plan_132 rfl ?_
        refine V_iload_n dX4_plan_133 rfl ?_
        refine V_iload_n dX4_plan_134 rfl ?_
        obtain ⟨x23, y24, h⟩ := bi_o h
        refine V_callV (as := [.ref r1, .int a2, .int a3]) (q := 61) (rest := []) dX4_plan_135 ov_mX4_measureRooms lk_RX4_64 (by decide) (by decide) rfl rfl (Nat.le_of_ble_eq_true rfl) (tq_61 hG) rfl (VM_X4_measureRooms G fu r1 hG hr1 a2 a3 μ _ y24) ?_
        refine V_aload_n dX4_plan_138 rfl ?_
        refine V_aload_n dX4_plan_139 rfl ?_
        refine V_iload_n dX4_plan_140 rfl ?_
        refine V_lload dX4_plan_141 rfl ?_
        obtain ⟨x25, y26, h⟩ := bi_o h
        refine V_callV (as := [.ref r1, .int a2, .long a4]) (q := 61) (rest := []) dX4_plan_143 ov_mX4_payByLevel lk_RX4_86 (by decide) (by decide) rfl rfl (Nat.le_of_ble_eq_true rfl) (tq_61 hG) rfl (VM_X4_payByLevel G fu r1 hG hr1 a2 a4 x23 _ y26) ?_
        exact V_wk [true, true, false, false, false, false, false] rfl (T_X4_plan_146 G fu r1 hG hr1 _ _ h)
theorem VM_X4_plan (G : GX) (fu : Nat) (r1 : Nat) (hG : gt G = tbl) (hr1 : IsX0 r1) (a2 : Int32) (a3 : Int32) (a4 : Int64) (a6 : Int32) (μ : Mem) (r : Mem) (h : D_X4_plan_0 fu r1 a2 a3 a4 a6 μ = some r) : VM G mX4_plan [.ref 61, .ref r1, .int a2, .int a3, .long a4, .int a6] μ (.inl none) (r) := V_entry ok_mX4_plan rfl rfl (Nat.le_of_ble_eq_true rfl) (T_X4_plan_0 G fu r1 hG hr1 a2 a3 a4 a6 μ r h)
def D_X0_keepParts_11 (fu : Nat) (t : Nat) (r1 : Nat) : Nat → Int32 → Int32 → Int32 → Mem → Option Mem
  | 0, _, _, _, _ => none
  | n + 1, v3, v4, v5, μ =>
    gu (ib v3 40) <|
    if (μ.1 (t + 7) (Int32.toNatClampNeg v3)) ≤ v5 then
      some μ
    else
      gu (ib (v4 + ((v3 * 4) + v5)) 3840) <|
      gu (ib ((v3 * 4) + v5) 160) <|
      gu (ib (v4 + ((v3 * 4) + v5)) 3840) <|
      vl (wL μ (t + 24) (Int32.toNatClampNeg (v4 + ((v3 * 4) + v5))) ((μ.2.1 (t + 24) (Int32.toNatClampNeg (v4 + ((v3 * 4) + v5)))) + (μ.2.1 (r1 + 4) (Int32.toNatClampNeg ((v3 * 4) + v5))))) fun m5 =>
      gu (ib ((v3 * 4) + v5) 160) <|
      gu (ib ((v3 * 4) + v5) 160) <|
      gu (ib ((v3 * 4) + v5) 160) <|
      vl (wL m5 (t + 11) (Int32.toNatClampNeg ((v3 * 4) + v5)) ((m5.2.1 (t + 11) (Int32.toNatClampNeg ((v3 * 4) + v5))) + (m5.2.1 (r1 + 4) (Int32.toNatClampNeg ((v3 * 4) + v5))))) fun m10 =>
      (D_X0_keepParts_11 fu t r1 n) v3 v4 (v5 + 1) m10
set_option maxRecDepth 20000 in
theorem T_X0_keepParts_11 (G : GX) (fu : Nat) (t : Nat) (r1 : Nat) (hG : gt G = tbl) (ht : IsX0 t) (hr1 : IsX3 r1) : ∀ (n : Nat) (v3 : Int32) (v4 : Int32) (v5 : Int32) (μ : Mem) (r : Mem) , D_X0_keepParts_11 fu t r1 n v3 v4 v5 μ = some r → V G mX0_keepParts 11 [some (.ref t), some (.ref r1), none, some (.int v3), some (.int v4), some (.int v5), none] [] μ (.inl none) (r) := by
  intro n
  induction n with
  | zero =>
    intro v3 v4 v5 μ r h
    exact nomatch (show (none : Option Mem) = some r from h)
  | succ n ih =>
    intro v3 v4 v5 μ r h
    rw [D_X0_keepParts_11] at h
    refine V_iload dX0_keepParts_11 rfl ?_
    refine V_aload_n dX0_keepParts_13 rfl ?_
    refine V_getR (kf := 0) k_X0 (by decide) lk_RX0_12 rfl dX0_keepParts_14 (tq_X0_0 hG ht) rfl ?_
    refine V_getR (kf := 5) k_X5 (by decide) lk_RX0_145 rfl dX0_keepParts_17 (tq_X0_1 hG ht) rfl ?_
    refine V_iload_n dX0_keepParts_20 rfl ?_
    obtain ⟨g1, h⟩ := gu_o h
    refine V_iaload dX0_keepParts_21 (tq_X0_7 hG ht) (ib_in g1) ?_
    by_cases c22 : (μ.1 (t + 7) (Int32.toNatClampNeg v3)) ≤ v5
    · rw [if_pos c22] at h
      refine V_icmpge_t (tgt := 82) dX0_keepParts_22 (by decide) c22 ?_
      cases h
      exact V_vret rfl dX0_keepParts_82
    · rw [if_neg c22] at h
      refine V_icmpge_f (tgt := 82) dX0_keepParts_22 (by decide) c22 ?_
      refine V_iload_n dX0_keepParts_25 rfl ?_
      refine V_iconst (v := 4) dX0_keepParts_26 rfl ?_
      refine V_imul dX0_keepParts_27 ?_
      refine V_iload dX0_keepParts_28 rfl ?_
      refine V_iadd dX0_keepParts_30 ?_
      refine V_istore (lv2 := [some (.ref t), some (.ref r1), none, some (.int v3), some (.int v4), some (.int v5), some (.int ((v3 * 4) + v5))]) dX0_keepParts_31 (by decide) rfl ?_
      refine V_aload_n dX0_keepParts_33 rfl ?_
      refine V_getR (kf := 1) k_X0 (by decide) lk_RX0_21 rfl dX0_keepParts_34 (tq_X0_0 hG ht) rfl ?_
      refine V_getR (kf := 9) k_X1 (by decide) lk_RX0_151 rfl dX0_keepParts_37 (tq_X0_14 hG ht) rfl ?_
      refine V_iload dX0_keepParts_40 rfl ?_
      refine V_iload dX0_keepParts_42 rfl ?_
      refine V_iadd dX0_keepParts_44 ?_
      refine V_dup2 dX0_keepParts_45 rfl rfl ?_
      obtain ⟨g2, h⟩ := gu_o h
      refine V_laload dX0_keepParts_46 (tq_X0_24 hG ht) (ib_in g2) ?_
      refine V_aload_n dX0_keepParts_47 rfl ?_
      refine V_getR (kf := 3) k_X3 (by decide) lk_RX0_175 rfl dX0_keepParts_48 (tq_X3_0 hG hr1) rfl ?_
      refine V_iload dX0_keepParts_51 rfl ?_
      obtain ⟨g3, h⟩ := gu_o h
      refine V_laload dX0_keepParts_53 (tq_X3_4 hG hr1) (ib_in g3) ?_
      refine V_ladd dX0_keepParts_54 ?_
      obtain ⟨g4, h⟩ := gu_o h
      obtain ⟨m5, e6, h⟩ := vl_o h
      refine V_lastore (μ2 := m5) dX0_keepParts_55 (tq_X0_24 hG ht) (ib_in g4) e6.symm ?_
      refine V_aload_n dX0_keepParts_56 rfl ?_
      refine V_getR (kf := 0) k_X0 (by decide) lk_RX0_12 rfl dX0_keepParts_57 (tq_X0_0 hG ht) rfl ?_
      refine V_getR (kf := 9) k_X5 (by decide) lk_RX0_148 rfl dX0_keepParts_60 (tq_X0_1 hG ht) rfl ?_
      refine V_iload dX0_keepParts_63 rfl ?_
      refine V_dup2 dX0_keepParts_65 rfl rfl ?_
      obtain ⟨g7, h⟩ := gu_o h
      refine V_laload dX0_keepParts_66 (tq_X0_11 hG ht) (ib_in g7) ?_
      refine V_aload_n dX0_keepParts_67 rfl ?_
      refine V_getR (kf := 3) k_X3 (by decide) lk_RX0_175 rfl dX0_keepParts_68 (tq_X3_0 hG hr1) rfl ?_
      refine V_iload dX0_keepParts_71 rfl ?_
      obtain ⟨g8, h⟩ := gu_o h
      refine V_laload dX0_keepParts_73 (tq_X3_4 hG hr1) (ib_in g8) ?_
      refine V_ladd dX0_keepParts_74 ?_
      obtain ⟨g9, h⟩ := gu_o h
      obtain ⟨m10, e11, h⟩ := vl_o h
      refine V_lastore (μ2 := m10) dX0_keepParts_75 (tq_X0_11 hG ht) (ib_in g9) e11.symm ?_
      refine V_iinc (v := v5 + 1) (lv2 := [some (.ref t), some (.ref r1), none, some (.int v3), some (.int v4), some (.int (v5 + 1)), some (.int ((v3 * 4) + v5))]) dX0_keepParts_76 rfl rfl (by decide) rfl ?_
      refine V_goto (tgt := 11) dX0_keepParts_79 (by decide) ?_
      exact V_wk [true, true, false, true, true, true, false] rfl (ih _ _ _ _ _ h)
def D_X0_keepParts_0 (fu : Nat) (t : Nat) (r1 : Nat) (a2 : Int32) (a3 : Int32) (μ : Mem) : Option Mem :=
  D_X0_keepParts_11 fu t r1 fu a3 ((a2 * 40) * 4) 0 μ
set_option maxRecDepth 20000 in
theorem T_X0_keepParts_0 (G : GX) (fu : Nat) (t : Nat) (r1 : Nat) (hG : gt G = tbl) (ht : IsX0 t) (hr1 : IsX3 r1) : ∀ (a2 : Int32) (a3 : Int32) (μ : Mem) (r : Mem) , D_X0_keepParts_0 fu t r1 a2 a3 μ = some r → V G mX0_keepParts 0 [some (.ref t), some (.ref r1), some (.int a2), some (.int a3), none, none, none] [] μ (.inl none) (r) := by
  intro a2 a3 μ r h
  unfold D_X0_keepParts_0 at h
  refine V_iload_n dX0_keepParts_0 rfl ?_
  refine V_bipush (v := 40) dX0_keepParts_1 rfl ?_
  refine V_imul dX0_keepParts_3 ?_
  refine V_iconst (v := 4) dX0_keepParts_4 rfl ?_
  refine V_imul dX0_keepParts_5 ?_
  refine V_istore (lv2 := [some (.ref t), some (.ref r1), some (.int a2), some (.int a3), some (.int ((a2 * 40) * 4)), none, none]) dX0_keepParts_6 (by decide) rfl ?_
  refine V_iconst (v := 0) dX0_keepParts_8 rfl ?_
  refine V_istore (lv2 := [some (.ref t), some (.ref r1), some (.int a2), some (.int a3), some (.int ((a2 * 40) * 4)), some (.int 0), none]) dX0_keepParts_9 (by decide) rfl ?_
  exact V_wk [true, true, false, true, true, true, false] rfl (T_X0_keepParts_11 G fu t r1 hG ht hr1 fu _ _ _ _ _ h)
theorem VM_X0_keepParts (G : GX) (fu : Nat) (t : Nat) (r1 : Nat) (hG : gt G = tbl) (ht : IsX0 t) (hr1 : IsX3 r1) (a2 : Int32) (a3 : Int32) (μ : Mem) (r : Mem) (h : D_X0_keepParts_0 fu t r1 a2 a3 μ = some r) : VM G mX0_keepParts [.ref t, .ref r1, .int a2, .int a3] μ (.inl none) (r) := V_entry ok_mX0_keepParts rfl rfl (Nat.le_of_ble_eq_true rfl) (T_X0_keepParts_0 G fu t r1 hG ht hr1 a2 a3 μ r h)
def D_X0_keep_176 (fu : Nat) (t : Nat) (r1 : Nat) : Nat → Int32 → Int32 → Mem → Option Mem
  | 0, _, _, _ => none
  | n + 1, v2, v4, μ =>
    if (7 : Int32) ≤ v4 then
      some μ
    else
      gu (ib ((v2 * 7) + v4) 168) <|
      gu (ib v4 7) <|
      gu (ib ((v2 * 7) + v4) 168) <|
      vl (wL μ (t + 26) (Int32.toNatClampNeg ((v2 * 7) + v4)) ((μ.2.1 (t + 26) (Int32.toNatClampNeg ((v2 * 7) + v4))) + (μ.2.1 (r1 + 6) (Int32.toNatClampNeg v4)))) fun m4 =>
      (D_X0_keep_176 fu t r1 n) v2 (v4 + 1) m4
set_option maxRecDepth 20000 in
theorem T_X0_keep_176 (G : GX) (fu : Nat) (t : Nat) (r1 : Nat) (hG : gt G = tbl) (ht : IsX0 t) (hr1 : IsX3 r1) : ∀ (n : Nat) (v2 : Int32) (v4 : Int32) (μ : Mem) (r : Mem) , D_X0_keep_176 fu t r1 n v2 v4 μ = some r → V G mX0_keep 176 [some (.ref t), some (.ref r1), some (.int v2), none, some (.int v4)] [] μ (.inl none) (r) := by
  intro n
  induction n with
  | zero =>
    intro v2 v4 μ r h
    exact nomatch (show (none : Option Mem) = some r from h)
  | succ n ih =>
    intro v2 v4 μ r h
    rw [D_X0_keep_176] at h
    refine V_iload dX0_keep_176 rfl ?_
    refine V_bipush (v := 7) dX0_keep_178 rfl ?_
    by_cases c180 : (7 : Int32) ≤ v4
    · rw [if_pos c180] at h
      refine V_icmpge_t (tgt := 214) dX0_keep_180 (by decide) c180 ?_
      cases h
      exact V_vret rfl dX0_keep_214
    · rw [if_neg c180] at h
      refine V_icmpge_f (tgt := 214) dX0_keep_180 (by decide) c180 ?_
      refine V_aload_n dX0_keep_183 rfl ?_
      refine V_getR (kf := 1) k_X0 (by decide) lk_RX0_21 rfl dX0_keep_184 (tq_X0_0 hG ht) rfl ?_
      refine V_getR (kf := 11) k_X1 (by decide) lk_RX0_171 rfl dX0_keep_187 (tq_X0_14 hG ht) rfl ?_
      refine V_iload_n dX0_keep_190 rfl ?_
      refine V_bipush (v := 7) dX0_keep_191 rfl ?_
      refine V_imul dX0_keep_193 ?_
      refine V_iload dX0_keep_194 rfl ?_
      refine V_iadd dX0_keep_196 ?_
      refine V_dup2 dX0_keep_197 rfl rfl ?_
      obtain ⟨g1, h⟩ := gu_o h
      refine V_laload dX0_keep_198 (tq_X0_26 hG ht) (ib_in g1) ?_
      refine V_aload_n dX0_keep_199 rfl ?_
      refine V_getR (kf := 5) k_X3 (by decide) lk_RX0_174 rfl dX0_keep_200 (tq_X3_0 hG hr1) rfl ?_
      refine V_iload dX0_keep_203 rfl ?_
      obtain ⟨g2, h⟩ := gu_o h
      refine V_laload dX0_keep_205 (tq_X3_6 hG hr1) (ib_in g2) ?_
      refine V_ladd dX0_keep_206 ?_
      obtain ⟨g3, h⟩ := gu_o h
      obtain ⟨m4, e5, h⟩ := vl_o h
      refine V_lastore (μ2 := m4) dX0_keep_207 (tq_X0_26 hG ht) (ib_in g3) e5.symm ?_
      refine V_iinc (v := v4 + 1) (lv2 := [some (.ref t), some (.ref r1), some (.int v2), none, some (.int (v4 + 1))]) dX0_keep_208 rfl rfl (by decide) rfl ?_
      refine V_goto (tgt := 176) dX0_keep_211 (by decide) ?_
      exact V_wk [true, true, true, false, true] rfl (ih _ _ _ _ h)
def D_X0_keep_135 (fu : Nat) (t : Nat) (r1 : Nat) : Nat → Int32 → Int32 → Mem → Option Mem
  | 0, _, _, _ => none
  | n + 1, v2, v4, μ =>
    if (10 : Int32) ≤ v4 then
      D_X0_keep_176 fu t r1 fu v2 0 μ
    else
      gu (ib ((v2 * 10) + v4) 240) <|
      gu (ib v4 10) <|
      gu (ib ((v2 * 10) + v4) 240) <|
      vl (wL μ (t + 25) (Int32.toNatClampNeg ((v2 * 10) + v4)) ((μ.2.1 (t + 25) (Int32.toNatClampNeg ((v2 * 10) + v4))) + (μ.2.1 (r1 + 5) (Int32.toNatClampNeg v4)))) fun m9 =>
      (D_X0_keep_135 fu t r1 n) v2 (v4 + 1) m9
set_option maxRecDepth 20000 in
theorem T_X0_keep_135 (G : GX) (fu : Nat) (t : Nat) (r1 : Nat) (hG : gt G = tbl) (ht : IsX0 t) (hr1 : IsX3 r1) : ∀ (n : Nat) (v2 : Int32) (v4 : Int32) (μ : Mem) (r : Mem) , D_X0_keep_135 fu t r1 n v2 v4 μ = some r → V G mX0_keep 135 [some (.ref t), some (.ref r1), some (.int v2), none, some (.int v4)] [] μ (.inl none) (r) := by
  intro n
  induction n with
  | zero =>
    intro v2 v4 μ r h
    exact nomatch (show (none : Option Mem) = some r from h)
  | succ n ih =>
    intro v2 v4 μ r h
    rw [D_X0_keep_135] at h
    refine V_iload dX0_keep_135 rfl ?_
    refine V_bipush (v := 10) dX0_keep_137 rfl ?_
    by_cases c139 : (10 : Int32) ≤ v4
    · rw [if_pos c139] at h
      refine V_icmpge_t (tgt := 173) dX0_keep_139 (by decide) c139 ?_
      refine V_iconst (v := 0) dX0_keep_173 rfl ?_
      refine V_istore (lv2 := [some (.ref t), some (.ref r1), some (.int v2), none, some (.int 0)]) dX0_keep_174 (by decide) rfl ?_
      exact V_wk [true, true, true, false, true] rfl (T_X0_keep_176 G fu t r1 hG ht hr1 fu _ _ _ _ h)
    · rw [if_neg c139] at h
      refine V_icmpge_f (tgt := 173) dX0_keep_139 (by decide) c139 ?_
      refine V_aload_n dX0_keep_142 rfl ?_
      refine V_getR (kf := 1) k_X0 (by decide) lk_RX0_21 rfl dX0_keep_143 (tq_X0_0 hG ht) rfl ?_
      refine V_getR (kf := 10) k_X1 (by decide) lk_RX0_167 rfl dX0_keep_146 (tq_X0_14 hG ht) rfl ?_
      refine V_iload_n dX0_keep_149 rfl ?_
      refine V_bipush (v := 10) dX0_keep_150 rfl ?_
      refine V_imul dX0_keep_152 ?_
      refine V_iload dX0_keep_153 rfl ?_
      refine V_iadd dX0_keep_155 ?_
      refine V_dup2 dX0_keep_156 rfl rfl ?_
      obtain ⟨g6, h⟩ := gu_o h
      refine V_laload dX0_keep_157 (tq_X0_25 hG ht) (ib_in g6) ?_
      refine V_aload_n dX0_keep_158 rfl ?_
      refine V_getR (kf := 4) k_X3 (by decide) lk_RX0_170 rfl dX0_keep_159 (tq_X3_0 hG hr1) rfl ?_
      refine V_iload dX0_keep_162 rfl ?_
      obtain ⟨g7, h⟩ := gu_o h
      refine V_laload dX0_keep_164 (tq_X3_5 hG hr1) (ib_in g7) ?_
      refine V_ladd dX0_keep_165 ?_
      obtain ⟨g8, h⟩ := gu_o h
      obtain ⟨m9, e10, h⟩ := vl_o h
      refine V_lastore (μ2 := m9) dX0_keep_166 (tq_X0_25 hG ht) (ib_in g8) e10.symm ?_
      refine V_iinc (v := v4 + 1) (lv2 := [some (.ref t), some (.ref r1), some (.int v2), none, some (.int (v4 + 1))]) dX0_keep_167 rfl rfl (by decide) rfl ?_
      refine V_goto (tgt := 135) dX0_keep_170 (by decide) ?_
      exact V_wk [true, true, true, false, true] rfl (ih _ _ _ _ h)
def D_X0_keep_126 (fu : Nat) (t : Nat) (r1 : Nat) (k8 : Int32 → Int32 → Int32 → Mem → Option Mem) (v2 : Int32) (v3 : Int32) (v4 : Int32) (μ : Mem) : Option Mem :=
  k8 v2 v3 (v4 + 1) μ
set_option maxRecDepth 20000 in
theorem T_X0_keep_126 (G : GX) (fu : Nat) (t : Nat) (r1 : Nat) (hG : gt G = tbl) (ht : IsX0 t) (hr1 : IsX3 r1) (k8 : Int32 → Int32 → Int32 → Mem → Option Mem) (hk8 : ∀ (v2 : Int32) (v3 : Int32) (v4 : Int32) (μ : Mem) (r : Mem), k8 v2 v3 v4 μ = some r → V G mX0_keep 8 [some (.ref t), some (.ref r1), some (.int v2), some (.int v3), some (.int v4)] [] μ (.inl none) (r)) : ∀ (v2 : Int32) (v3 : Int32) (v4 : Int32) (μ : Mem) (r : Mem) , D_X0_keep_126 fu t r1 k8 v2 v3 v4 μ = some r → V G mX0_keep 126 [some (.ref t), some (.ref r1), some (.int v2), some (.int v3), some (.int v4)] [] μ (.inl none) (r) := by
  intro v2 v3 v4 μ r h
  unfold D_X0_keep_126 at h
  refine V_iinc (v := v4 + 1) (lv2 := [some (.ref t), some (.ref r1), some (.int v2), some (.int v3), some (.int (v4 + 1))]) dX0_keep_126 rfl rfl (by decide) rfl ?_
  refine V_goto (tgt := 8) dX0_keep_129 (by decide) ?_
  exact V_wk [true, true, true, true, true] rfl (hk8 _ _ _ _ _ h)
def D_X0_keep_8 (fu : Nat) (t : Nat) (r1 : Nat) : Nat → Int32 → Int32 → Int32 → Mem → Option Mem
  | 0, _, _, _, _ => none
  | n + 1, v2, v3, v4, μ =>
    if (μ.1 (t + 1) 13) ≤ v4 then
      D_X0_keep_135 fu t r1 fu v2 0 μ
    else
      gu (ib (v3 + v4) 1000) <|
      gu (ib v4 40) <|
      gu (ib (v3 + v4) 1000) <|
      vl (wL μ (t + 22) (Int32.toNatClampNeg (v3 + v4)) ((μ.2.1 (t + 22) (Int32.toNatClampNeg (v3 + v4))) + (μ.2.1 (r1 + 2) (Int32.toNatClampNeg v4)))) fun m14 =>
      gu (ib (v3 + v4) 960) <|
      gu (ib v4 40) <|
      gu (ib (v3 + v4) 960) <|
      vl (wL m14 (t + 23) (Int32.toNatClampNeg (v3 + v4)) ((m14.2.1 (t + 23) (Int32.toNatClampNeg (v3 + v4))) + (m14.2.1 (r1 + 3) (Int32.toNatClampNeg v4)))) fun m19 =>
      gu (ib v4 40) <|
      if (m19.2.1 (r1 + 1) (Int32.toNatClampNeg v4)) ≤ (0 : Int64) then
        D_X0_keep_126 fu t r1 (D_X0_keep_8 fu t r1 n) v2 v3 v4 m19
      else
        gu (ib (v3 + v4) 1000) <|
        gu (ib v4 40) <|
        gu (ib (v3 + v4) 1000) <|
        vl (wL m19 (t + 21) (Int32.toNatClampNeg (v3 + v4)) ((m19.2.1 (t + 21) (Int32.toNatClampNeg (v3 + v4))) + (m19.2.1 (r1 + 1) (Int32.toNatClampNeg v4)))) fun m25 =>
        gu (ib v4 40) <|
        gu (ib v4 40) <|
        gu (ib v4 40) <|
        vl (wL m25 (t + 6) (Int32.toNatClampNeg v4) ((m25.2.1 (t + 6) (Int32.toNatClampNeg v4)) + (m25.2.1 (r1 + 1) (Int32.toNatClampNeg v4)))) fun m30 =>
        (D_X0_keepParts_0 fu t r1 v2 v4 m30).bind fun x32 =>
        D_X0_keep_126 fu t r1 (D_X0_keep_8 fu t r1 n) v2 v3 v4 x32
set_option maxRecDepth 20000 in
theorem T_X0_keep_8 (G : GX) (fu : Nat) (t : Nat) (r1 : Nat) (hG : gt G = tbl) (ht : IsX0 t) (hr1 : IsX3 r1) : ∀ (n : Nat) (v2 : Int32) (v3 : Int32) (v4 : Int32) (μ : Mem) (r : Mem) , D_X0_keep_8 fu t r1 n v2 v3 v4 μ = some r → V G mX0_keep 8 [some (.ref t), some (.ref r1), some (.int v2), some (.int v3), some (.int v4)] [] μ (.inl none) (r) := by
  intro n
  induction n with
  | zero =>
    intro v2 v3 v4 μ r h
    exact nomatch (show (none : Option Mem) = some r from h)
  | succ n ih =>
    intro v2 v3 v4 μ r h
    rw [D_X0_keep_8] at h
    refine V_iload dX0_keep_8 rfl ?_
    refine V_aload_n dX0_keep_10 rfl ?_
    refine V_getR (kf := 0) k_X0 (by decide) lk_RX0_12 rfl dX0_keep_11 (tq_X0_0 hG ht) rfl ?_
    refine V_getI (kf := 13) k_X5 (by decide) lk_RX0_128 rfl dX0_keep_14 (tq_X0_1 hG ht) rfl ?_
    by_cases c17 : (μ.1 (t + 1) 13) ≤ v4
    · rw [if_pos c17] at h
      refine V_icmpge_t (tgt := 132) dX0_keep_17 (by decide) c17 ?_
      refine V_iconst (v := 0) dX0_keep_132 rfl ?_
      refine V_istore (lv2 := [some (.ref t), some (.ref r1), some (.int v2), some (.int v3), some (.int 0)]) dX0_keep_133 (by decide) rfl ?_
      exact V_wk [true, true, true, false, true] rfl (T_X0_keep_135 G fu t r1 hG ht hr1 fu _ _ _ _ h)
    · rw [if_neg c17] at h
      refine V_icmpge_f (tgt := 132) dX0_keep_17 (by decide) c17 ?_
      refine V_aload_n dX0_keep_20 rfl ?_
      refine V_getR (kf := 1) k_X0 (by decide) lk_RX0_21 rfl dX0_keep_21 (tq_X0_0 hG ht) rfl ?_
      refine V_getR (kf := 7) k_X1 (by decide) lk_RX0_152 rfl dX0_keep_24 (tq_X0_14 hG ht) rfl ?_
      refine V_iload_n dX0_keep_27 rfl ?_
      refine V_iload dX0_keep_28 rfl ?_
      refine V_iadd dX0_keep_30 ?_
      refine V_dup2 dX0_keep_31 rfl rfl ?_
      obtain ⟨g11, h⟩ := gu_o h
      refine V_laload dX0_keep_32 (tq_X0_22 hG ht) (ib_in g11) ?_
      refine V_aload_n dX0_keep_33 rfl ?_
      refine V_getR (kf := 1) k_X3 (by decide) lk_RX0_155 rfl dX0_keep_34 (tq_X3_0 hG hr1) rfl ?_
      refine V_iload dX0_keep_37 rfl ?_
      obtain ⟨g12, h⟩ := gu_o h
      refine V_laload dX0_keep_39 (tq_X3_2 hG hr1) (ib_in g12) ?_
      refine V_ladd dX0_keep_40 ?_
      obtain ⟨g13, h⟩ := gu_o h
      obtain ⟨m14, e15, h⟩ := vl_o h
      refine V_lastore (μ2 := m14) dX0_keep_41 (tq_X0_22 hG ht) (ib_in g13) e15.symm ?_
      refine V_aload_n dX0_keep_42 rfl ?_
      refine V_getR (kf := 1) k_X0 (by decide) lk_RX0_21 rfl dX0_keep_43 (tq_X0_0 hG ht) rfl ?_
      refine V_getR (kf := 8) k_X1 (by decide) lk_RX0_158 rfl dX0_keep_46 (tq_X0_14 hG ht) rfl ?_
      refine V_iload_n dX0_keep_49 rfl ?_
      refine V_iload dX0_keep_50 rfl ?_
      refine V_iadd dX0_keep_52 ?_
      refine V_dup2 dX0_keep_53 rfl rfl ?_
      obtain ⟨g16, h⟩ := gu_o h
      refine V_laload dX0_keep_54 (tq_X0_23 hG ht) (ib_in g16) ?_
      refine V_aload_n dX0_keep_55 rfl ?_
      refine V_getR (kf := 2) k_X3 (by decide) lk_RX0_161 rfl dX0_keep_56 (tq_X3_0 hG hr1) rfl ?_
      refine V_iload dX0_keep_59 rfl ?_
      obtain ⟨g17, h⟩ := gu_o h
      refine V_laload dX0_keep_61 (tq_X3_3 hG hr1) (ib_in g17) ?_
      refine V_ladd dX0_keep_62 ?_
      obtain ⟨g18, h⟩ := gu_o h
      obtain ⟨m19, e20, h⟩ := vl_o h
      refine V_lastore (μ2 := m19) dX0_keep_63 (tq_X0_23 hG ht) (ib_in g18) e20.symm ?_
      refine V_aload_n dX0_keep_64 rfl ?_
      refine V_getR (kf := 0) k_X3 (by decide) lk_RX0_162 rfl dX0_keep_65 (tq_X3_0 hG hr1) rfl ?_
      refine V_iload dX0_keep_68 rfl ?_
      obtain ⟨g21, h⟩ := gu_o h
      refine V_laload dX0_keep_70 (tq_X3_1 hG hr1) (ib_in g21) ?_
      refine V_lconst (v := 0) dX0_keep_71 rfl ?_
      refine V_lcmp dX0_keep_72 ?_
      by_cases c73 : (m19.2.1 (r1 + 1) (Int32.toNatClampNeg v4)) ≤ (0 : Int64)
      · rw [if_pos c73] at h
        refine V_ifle_t (tgt := 126) dX0_keep_73 (by decide) ((lc_le (m19.2.1 (r1 + 1) (Int32.toNatClampNeg v4)) 0).mpr c73) ?_
        exact V_wk [true, true, true, true, true] rfl (T_X0_keep_126 G fu t r1 hG ht hr1 (D_X0_keep_8 fu t r1 n) ih _ _ _ _ _ h)
      · rw [if_neg c73] at h
        refine V_ifle_f (tgt := 126) dX0_keep_73 (by decide) (fun z => c73 ((lc_le (m19.2.1 (r1 + 1) (Int32.toNatClampNeg v4)) 0).mp z)) ?_
        refine V_aload_n dX0_keep_76 rfl ?_
        refine V_getR (kf := 1) k_X0 (by decide) lk_RX0_21 rfl dX0_keep_77 (tq_X0_0 hG ht) rfl ?_
        refine V_getR (kf := 6) k_X1 (by decide) lk_RX0_131 rfl dX0_keep_80 (tq_X0_14 hG ht) rfl ?_
        refine V_iload_n dX0_keep_83 rfl ?_
        refine V_iload dX0_keep_84 rfl ?_
        refine V_iadd dX0_keep_86 ?_
        refine V_dup2 dX0_keep_87 rfl rfl ?_
        obtain ⟨g22, h⟩ := gu_o h
        refine V_laload dX0_keep_88 (tq_X0_21 hG ht) (ib_in g22) ?_
        refine V_aload_n dX0_keep_89 rfl ?_
        refine V_getR (kf := 0) k_X3 (by decide) lk_RX0_162 rfl dX0_keep_90 (tq_X3_0 hG hr1) rfl ?_
        refine V_iload dX0_keep_93 rfl ?_
        obtain ⟨g23, h⟩ := gu_o h
        refine V_laload dX0_keep_95 (tq_X3_1 hG hr1) (ib_in g23) ?_
        refine V_ladd dX0_keep_96 ?_
        obtain ⟨g24, h⟩ := gu_o h
        obtain ⟨m25, e26, h⟩ := vl_o h
        refine V_lastore (μ2 := m25) dX0_keep_97 (tq_X0_21 hG ht) (ib_in g24) e26.symm ?_
        refine V_aload_n dX0_keep_98 rfl ?_
        refine V_getR (kf := 0) k_X0 (by decide) lk_RX0_12 rfl dX0_keep_99 (tq_X0_0 hG ht) rfl ?_
        refine V_getR (kf := 4) k_X5 (by decide) lk_RX0_134 rfl dX0_keep_102 (tq_X0_1 hG ht) rfl ?_
        refine V_iload dX0_keep_105 rfl ?_
        refine V_dup2 dX0_keep_107 rfl rfl ?_
        obtain ⟨g27, h⟩ := gu_o h
        refine V_laload dX0_keep_108 (tq_X0_6 hG ht) (ib_in g27) ?_
        refine V_aload_n dX0_keep_109 rfl ?_
        refine V_getR (kf := 0) k_X3 (by decide) lk_RX0_162 rfl dX0_keep_110 (tq_X3_0 hG hr1) rfl ?_
        refine V_iload dX0_keep_113 rfl ?_
        obtain ⟨g28, h⟩ := gu_o h
        refine V_laload dX0_keep_115 (tq_X3_1 hG hr1) (ib_in g28) ?_
        refine V_ladd dX0_keep_116 ?_
        obtain ⟨g29, h⟩ := gu_o h
        obtain ⟨m30, e31, h⟩ := vl_o h
        refine V_lastore (μ2 := m30) dX0_keep_117 (tq_X0_6 hG ht) (ib_in g29) e31.symm ?_
        refine V_aload_n dX0_keep_118 rfl ?_
        refine V_aload_n dX0_keep_119 rfl ?_
        refine V_iload_n dX0_keep_120 rfl ?_
        refine V_iload dX0_keep_121 rfl ?_
        obtain ⟨x32, y33, h⟩ := bi_o h
        refine V_callV (as := [.ref r1, .int v2, .int v4]) (q := t) (rest := []) dX0_keep_123 ov_mX0_keepParts lk_RX0_163 (by decide) (by decide) rfl rfl (Nat.le_of_ble_eq_true rfl) (tq_X0_0 hG ht) rfl (VM_X0_keepParts G fu t r1 hG ht hr1 v2 v4 m30 _ y33) ?_
        exact V_wk [true, true, true, true, true] rfl (T_X0_keep_126 G fu t r1 hG ht hr1 (D_X0_keep_8 fu t r1 n) ih _ _ _ _ _ h)
def D_X0_keep_0 (fu : Nat) (t : Nat) (r1 : Nat) (a2 : Int32) (μ : Mem) : Option Mem :=
  D_X0_keep_8 fu t r1 fu a2 (a2 * 40) 0 μ
set_option maxRecDepth 20000 in
theorem T_X0_keep_0 (G : GX) (fu : Nat) (t : Nat) (r1 : Nat) (hG : gt G = tbl) (ht : IsX0 t) (hr1 : IsX3 r1) : ∀ (a2 : Int32) (μ : Mem) (r : Mem) , D_X0_keep_0 fu t r1 a2 μ = some r → V G mX0_keep 0 [some (.ref t), some (.ref r1), some (.int a2), none, none] [] μ (.inl none) (r) := by
  intro a2 μ r h
  unfold D_X0_keep_0 at h
  refine V_iload_n dX0_keep_0 rfl ?_
  refine V_bipush (v := 40) dX0_keep_1 rfl ?_
  refine V_imul dX0_keep_3 ?_
  refine V_istore_n (lv2 := [some (.ref t), some (.ref r1), some (.int a2), some (.int (a2 * 40)), none]) dX0_keep_4 (by decide) rfl ?_
  refine V_iconst (v := 0) dX0_keep_5 rfl ?_
  refine V_istore (lv2 := [some (.ref t), some (.ref r1), some (.int a2), some (.int (a2 * 40)), some (.int 0)]) dX0_keep_6 (by decide) rfl ?_
  exact V_wk [true, true, true, true, true] rfl (T_X0_keep_8 G fu t r1 hG ht hr1 fu _ _ _ _ _ h)
theorem VM_X0_keep (G : GX) (fu : Nat) (t : Nat) (r1 : Nat) (hG : gt G = tbl) (ht : IsX0 t) (hr1 : IsX3 r1) (a2 : Int32) (μ : Mem) (r : Mem) (h : D_X0_keep_0 fu t r1 a2 μ = some r) : VM G mX0_keep [.ref t, .ref r1, .int a2] μ (.inl none) (r) := V_entry ok_mX0_keep rfl rfl (Nat.le_of_ble_eq_true rfl) (T_X0_keep_0 G fu t r1 hG ht hr1 a2 μ r h)
def D_X0_carryOut_0 (fu : Nat) (t : Nat) (a2 : Int32) (μ : Mem) : Option (Bool × Mem) :=
  (D_X0_note_0 fu t a2 μ).bind fun x1 =>
  if x1.1 = true then
    (D_X2_read_0 x1.2 a2 1).bind fun x3 =>
    (D_X0_amountToSpread_0 x1.2 t a2).bind fun x5 =>
    if x5 ≤ (0 : Int64) then
      some (true, x1.2)
    else
      gu (ib x3 24) <|
      gu (ib x3 24) <|
      gu (ib x3 24) <|
      (D_X6_yearsSetOff_0 fu x1.2 (x1.2.1 (t + 16) (Int32.toNatClampNeg x3)) (x1.2.1 (t + 17) (Int32.toNatClampNeg x3)) (x1.2.1 (t + 18) (Int32.toNatClampNeg x3)) (x1.2.1 t 4)).bind fun x10 =>
      (D_X4_plan_0 fu t x3 x10 x5 (x1.2.1 t 5) x1.2).bind fun x12 =>
      (D_X0_keep_0 fu t 62 x3 x12).bind fun x14 =>
      some (true, x14)
  else
    some (false, x1.2)
set_option maxRecDepth 20000 in
theorem T_X0_carryOut_0 (G : GX) (fu : Nat) (t : Nat) (hG : gt G = tbl) (ht : IsX0 t) : ∀ (a2 : Int32) (μ : Mem) (r : (Bool × Mem)) , D_X0_carryOut_0 fu t a2 μ = some r → V G mX0_carryOut 0 [some (.ref t), some (.ref 1), some (.int a2), some (.ref 61), none, none, none, none] [] μ (.inl (some (.int (b2i r.1)))) (r.2) := by
  intro a2 μ r h
  unfold D_X0_carryOut_0 at h
  refine V_aload_n dX0_carryOut_0 rfl ?_
  refine V_aload_n dX0_carryOut_1 rfl ?_
  refine V_iload_n dX0_carryOut_2 rfl ?_
  obtain ⟨x1, y2, h⟩ := bi_o h
  refine V_callV (as := [.ref 1, .int a2]) (q := t) (rest := []) dX0_carryOut_3 ov_mX0_note lk_RX0_56 (by decide) (by decide) rfl rfl (Nat.le_of_ble_eq_true rfl) (tq_X0_0 hG ht) rfl (VM_X0_note G fu t hG ht a2 μ _ y2) ?_
  by_cases c6 : x1.1 = true
  · rw [if_pos c6] at h
    refine V_ifne_t (tgt := 11) dX0_carryOut_6 (by decide) (b2i_t.mp c6) ?_
    refine V_aload_n dX0_carryOut_11 rfl ?_
    refine V_iload_n dX0_carryOut_12 rfl ?_
    refine V_iconst (v := 1) dX0_carryOut_13 rfl ?_
    obtain ⟨x3, y4, h⟩ := bi_o h
    refine V_callV (as := [.int a2, .int 1]) (q := 1) (rest := []) dX0_carryOut_14 ov_mX2_read lk_RX0_62 (by decide) (by decide) rfl rfl (Nat.le_of_ble_eq_true rfl) (tq_1 hG) rfl (VM_X2_read G x1.2 hG a2 1 _ y4) ?_
    refine V_istore (lv2 := [some (.ref t), some (.ref 1), some (.int a2), some (.ref 61), some (.int x3), none, none, none]) dX0_carryOut_17 (by decide) rfl ?_
    refine V_aload_n dX0_carryOut_19 rfl ?_
    refine V_aload_n dX0_carryOut_20 rfl ?_
    refine V_iload_n dX0_carryOut_21 rfl ?_
    obtain ⟨x5, y6, h⟩ := bi_o h
    refine V_callV (as := [.ref 1, .int a2]) (q := t) (rest := []) dX0_carryOut_22 ov_mX0_amountToSpread lk_RX0_66 (by decide) (by decide) rfl rfl (Nat.le_of_ble_eq_true rfl) (tq_X0_0 hG ht) rfl (VM_X0_amountToSpread G x1.2 t hG ht a2 _ y6) ?_
    refine V_lstore (lv2 := [some (.ref t), some (.ref 1), some (.int a2), some (.ref 61), some (.int x3), some (.long x5), none, none]) dX0_carryOut_25 (by decide) rfl ?_
    refine V_lload dX0_carryOut_27 rfl ?_
    refine V_lconst (v := 0) dX0_carryOut_29 rfl ?_
    refine V_lcmp dX0_carryOut_30 ?_
    by_cases c31 : x5 ≤ (0 : Int64)
    · rw [if_pos c31] at h
      refine V_ifle_t (tgt := 98) dX0_carryOut_31 (by decide) ((lc_le x5 0).mpr c31) ?_
      refine V_iconst (v := 1) dX0_carryOut_98 rfl ?_
      cases h
      exact V_zret rfl (by decide) dX0_carryOut_99
    · rw [if_neg c31] at h
      refine V_ifle_f (tgt := 98) dX0_carryOut_31 (by decide) (fun z => c31 ((lc_le x5 0).mp z)) ?_
      refine V_aload_n dX0_carryOut_34 rfl ?_
      refine V_getR (kf := 1) k_X0 (by decide) lk_RX0_21 rfl dX0_carryOut_35 (tq_X0_0 hG ht) rfl ?_
      refine V_getR (kf := 1) k_X1 (by decide) lk_RX0_70 rfl dX0_carryOut_38 (tq_X0_14 hG ht) rfl ?_
      refine V_iload dX0_carryOut_41 rfl ?_
      obtain ⟨g7, h⟩ := gu_o h
      refine V_iaload dX0_carryOut_43 (tq_X0_16 hG ht) (ib_in g7) ?_
      refine V_aload_n dX0_carryOut_44 rfl ?_
      refine V_getR (kf := 1) k_X0 (by decide) lk_RX0_21 rfl dX0_carryOut_45 (tq_X0_0 hG ht) rfl ?_
      refine V_getR (kf := 2) k_X1 (by decide) lk_RX0_73 rfl dX0_carryOut_48 (tq_X0_14 hG ht) rfl ?_
      refine V_iload dX0_carryOut_51 rfl ?_
      obtain ⟨g8, h⟩ := gu_o h
      refine V_iaload dX0_carryOut_53 (tq_X0_17 hG ht) (ib_in g8) ?_
      refine V_aload_n dX0_carryOut_54 rfl ?_
      refine V_getR (kf := 1) k_X0 (by decide) lk_RX0_21 rfl dX0_carryOut_55 (tq_X0_0 hG ht) rfl ?_
      refine V_getR (kf := 3) k_X1 (by decide) lk_RX0_76 rfl dX0_carryOut_58 (tq_X0_14 hG ht) rfl ?_
      refine V_iload dX0_carryOut_61 rfl ?_
      obtain ⟨g9, h⟩ := gu_o h
      refine V_iaload dX0_carryOut_63 (tq_X0_18 hG ht) (ib_in g9) ?_
      refine V_aload_n dX0_carryOut_64 rfl ?_
      refine V_getI (kf := 4) k_X0 (by decide) lk_RX0_46 rfl dX0_carryOut_65 (tq_X0_0 hG ht) rfl ?_
      obtain ⟨x10, y11, h⟩ := bi_o h
      refine V_callSN (as := [.int (x1.2.1 (t + 16) (Int32.toNatClampNeg x3)), .int (x1.2.1 (t + 17) (Int32.toNatClampNeg x3)), .int (x1.2.1 (t + 18) (Int32.toNatClampNeg x3)), .int (x1.2.1 t 4)]) (rest := []) dX0_carryOut_68 os_mX6_yearsSetOff rfl (List.mem_of_getElem? (i := 7) rfl) (by decide) (by decide) rfl rfl (Nat.le_of_ble_eq_true rfl) (VM_X6_yearsSetOff G fu x1.2 hG (x1.2.1 (t + 16) (Int32.toNatClampNeg x3)) (x1.2.1 (t + 17) (Int32.toNatClampNeg x3)) (x1.2.1 (t + 18) (Int32.toNatClampNeg x3)) (x1.2.1 t 4) _ y11) ?_
      refine V_istore (lv2 := [some (.ref t), some (.ref 1), some (.int a2), some (.ref 61), some (.int x3), some (.long x5), none, some (.int x10)]) dX0_carryOut_71 (by decide) rfl ?_
      refine V_aload_n dX0_carryOut_73 rfl ?_
      refine V_aload_n dX0_carryOut_74 rfl ?_
      refine V_iload dX0_carryOut_75 rfl ?_
      refine V_iload dX0_carryOut_77 rfl ?_
      refine V_lload dX0_carryOut_79 rfl ?_
      refine V_aload_n dX0_carryOut_81 rfl ?_
      refine V_getI (kf := 5) k_X0 (by decide) lk_RX0_50 rfl dX0_carryOut_82 (tq_X0_0 hG ht) rfl ?_
      obtain ⟨x12, y13, h⟩ := bi_o h
      refine V_callV (as := [.ref t, .int x3, .int x10, .long x5, .int (x1.2.1 t 5)]) (q := 61) (rest := []) dX0_carryOut_85 ov_mX4_plan lk_RX0_83 (by decide) (by decide) rfl rfl (Nat.le_of_ble_eq_true rfl) (tq_61 hG) rfl (VM_X4_plan G fu t hG ht x3 x10 x5 (x1.2.1 t 5) x1.2 _ y13) ?_
      refine V_aload_n dX0_carryOut_88 rfl ?_
      refine V_aload_n dX0_carryOut_89 rfl ?_
      refine V_getR (kf := 0) k_X4 (by decide) lk_RX0_89 rfl dX0_carryOut_90 (tq_61 hG) rfl ?_
      refine V_iload dX0_carryOut_93 rfl ?_
      obtain ⟨x14, y15, h⟩ := bi_o h
      refine V_callV (as := [.ref 62, .int x3]) (q := t) (rest := []) dX0_carryOut_95 ov_mX0_keep lk_RX0_93 (by decide) (by decide) rfl rfl (Nat.le_of_ble_eq_true rfl) (tq_X0_0 hG ht) rfl (VM_X0_keep G fu t 62 hG ht (Or.inl rfl) x3 x12 _ y15) ?_
      refine V_iconst (v := 1) dX0_carryOut_98 rfl ?_
      cases h
      exact V_zret rfl (by decide) dX0_carryOut_99
  · rw [if_neg c6] at h
    refine V_ifne_f (tgt := 11) dX0_carryOut_6 (by decide) (b2i_f.mp c6) ?_
    refine V_iconst (v := 0) dX0_carryOut_9 rfl ?_
    cases h
    exact V_zret rfl (by decide) dX0_carryOut_10
theorem VM_X0_carryOut (G : GX) (fu : Nat) (t : Nat) (hG : gt G = tbl) (ht : IsX0 t) (a2 : Int32) (μ : Mem) (r : (Bool × Mem)) (h : D_X0_carryOut_0 fu t a2 μ = some r) : VM G mX0_carryOut [.ref t, .ref 1, .int a2, .ref 61] μ (.inl (some (.int (b2i r.1)))) (r.2) := V_entry ok_mX0_carryOut rfl rfl (Nat.le_of_ble_eq_true rfl) (T_X0_carryOut_0 G fu t hG ht a2 μ r h)
def D_X0_thoseWho_26 (fu : Nat) (μ : Mem) (t : Nat) (k4 : Int32 → Int32 → Int32 → Option Int32) (v1 : Int32) (v2 : Int32) (v3 : Int32) : Option Int32 :=
  k4 v1 v2 (v3 + 1)
set_option maxRecDepth 20000 in
theorem T_X0_thoseWho_26 (G : GX) (fu : Nat) (μ : Mem) (t : Nat) (hG : gt G = tbl) (ht : IsX0 t) (k4 : Int32 → Int32 → Int32 → Option Int32) (hk4 : ∀ (v1 : Int32) (v2 : Int32) (v3 : Int32) (r : Int32), k4 v1 v2 v3 = some r → V G mX0_thoseWho 4 [some (.ref t), some (.int v1), some (.int v2), some (.int v3)] [] μ (.inl (some (.int r))) (μ)) : ∀ (v1 : Int32) (v2 : Int32) (v3 : Int32) (r : Int32) , D_X0_thoseWho_26 fu μ t k4 v1 v2 v3 = some r → V G mX0_thoseWho 26 [some (.ref t), some (.int v1), some (.int v2), some (.int v3)] [] μ (.inl (some (.int r))) (μ) := by
  intro v1 v2 v3 r h
  unfold D_X0_thoseWho_26 at h
  refine V_iinc (v := v3 + 1) (lv2 := [some (.ref t), some (.int v1), some (.int v2), some (.int (v3 + 1))]) dX0_thoseWho_26 rfl rfl (by decide) rfl ?_
  refine V_goto (tgt := 4) dX0_thoseWho_29 (by decide) ?_
  exact V_wk [true, true, true, true] rfl (hk4 _ _ _ _ h)
def D_X0_thoseWho_4 (fu : Nat) (μ : Mem) (t : Nat) : Nat → Int32 → Int32 → Int32 → Option Int32
  | 0, _, _, _ => none
  | n + 1, v1, v2, v3 =>
    if (10 : Int32) ≤ v3 then
      some v2
    else
      gu (ib v3 10) <|
      if (μ.1 (t + 27) (Int32.toNatClampNeg v3)) = v1 then
        D_X0_thoseWho_26 fu μ t (D_X0_thoseWho_4 fu μ t n) v1 (v2 ||| (1 <<< (v3 &&& 31))) v3
      else
        D_X0_thoseWho_26 fu μ t (D_X0_thoseWho_4 fu μ t n) v1 v2 v3
set_option maxRecDepth 20000 in
theorem T_X0_thoseWho_4 (G : GX) (fu : Nat) (μ : Mem) (t : Nat) (hG : gt G = tbl) (ht : IsX0 t) : ∀ (n : Nat) (v1 : Int32) (v2 : Int32) (v3 : Int32) (r : Int32) , D_X0_thoseWho_4 fu μ t n v1 v2 v3 = some r → V G mX0_thoseWho 4 [some (.ref t), some (.int v1), some (.int v2), some (.int v3)] [] μ (.inl (some (.int r))) (μ) := by
  intro n
  induction n with
  | zero =>
    intro v1 v2 v3 r h
    exact nomatch (show (none : Option Int32) = some r from h)
  | succ n ih =>
    intro v1 v2 v3 r h
    rw [D_X0_thoseWho_4] at h
    refine V_iload_n dX0_thoseWho_4 rfl ?_
    refine V_bipush (v := 10) dX0_thoseWho_5 rfl ?_
    by_cases c7 : (10 : Int32) ≤ v3
    · rw [if_pos c7] at h
      refine V_icmpge_t (tgt := 32) dX0_thoseWho_7 (by decide) c7 ?_
      refine V_iload_n dX0_thoseWho_32 rfl ?_
      cases h
      exact V_iret rfl dX0_thoseWho_33
    · rw [if_neg c7] at h
      refine V_icmpge_f (tgt := 32) dX0_thoseWho_7 (by decide) c7 ?_
      refine V_aload_n dX0_thoseWho_10 rfl ?_
      refine V_getR (kf := 2) k_X0 (by decide) lk_RX0_25 rfl dX0_thoseWho_11 (tq_X0_0 hG ht) rfl ?_
      refine V_iload_n dX0_thoseWho_14 rfl ?_
      obtain ⟨g1, h⟩ := gu_o h
      refine V_iaload dX0_thoseWho_15 (tq_X0_27 hG ht) (ib_in g1) ?_
      refine V_iload_n dX0_thoseWho_16 rfl ?_
      by_cases c17 : (μ.1 (t + 27) (Int32.toNatClampNeg v3)) = v1
      · rw [if_pos c17] at h
        refine V_icmpne_f (tgt := 26) dX0_thoseWho_17 (by decide) c17 ?_
        refine V_iload_n dX0_thoseWho_20 rfl ?_
        refine V_iconst (v := 1) dX0_thoseWho_21 rfl ?_
        refine V_iload_n dX0_thoseWho_22 rfl ?_
        refine V_ishl dX0_thoseWho_23 ?_
        refine V_ior dX0_thoseWho_24 ?_
        refine V_istore_n (lv2 := [some (.ref t), some (.int v1), some (.int (v2 ||| (1 <<< (v3 &&& 31)))), some (.int v3)]) dX0_thoseWho_25 (by decide) rfl ?_
        exact V_wk [true, true, true, true] rfl (T_X0_thoseWho_26 G fu μ t hG ht (D_X0_thoseWho_4 fu μ t n) ih _ _ _ _ h)
      · rw [if_neg c17] at h
        refine V_icmpne_t (tgt := 26) dX0_thoseWho_17 (by decide) c17 ?_
        exact V_wk [true, true, true, true] rfl (T_X0_thoseWho_26 G fu μ t hG ht (D_X0_thoseWho_4 fu μ t n) ih _ _ _ _ h)
def D_X0_thoseWho_0 (fu : Nat) (μ : Mem) (t : Nat) (a1 : Int32) : Option Int32 :=
  D_X0_thoseWho_4 fu μ t fu a1 0 1
set_option maxRecDepth 20000 in
theorem T_X0_thoseWho_0 (G : GX) (fu : Nat) (μ : Mem) (t : Nat) (hG : gt G = tbl) (ht : IsX0 t) : ∀ (a1 : Int32) (r : Int32) , D_X0_thoseWho_0 fu μ t a1 = some r → V G mX0_thoseWho 0 [some (.ref t), some (.int a1), none, none] [] μ (.inl (some (.int r))) (μ) := by
  intro a1 r h
  unfold D_X0_thoseWho_0 at h
  refine V_iconst (v := 0) dX0_thoseWho_0 rfl ?_
  refine V_istore_n (lv2 := [some (.ref t), some (.int a1), some (.int 0), none]) dX0_thoseWho_1 (by decide) rfl ?_
  refine V_iconst (v := 1) dX0_thoseWho_2 rfl ?_
  refine V_istore_n (lv2 := [some (.ref t), some (.int a1), some (.int 0), some (.int 1)]) dX0_thoseWho_3 (by decide) rfl ?_
  exact V_wk [true, true, true, true] rfl (T_X0_thoseWho_4 G fu μ t hG ht fu _ _ _ _ h)
theorem VM_X0_thoseWho (G : GX) (fu : Nat) (μ : Mem) (t : Nat) (hG : gt G = tbl) (ht : IsX0 t) (a1 : Int32) (r : Int32) (h : D_X0_thoseWho_0 fu μ t a1 = some r) : VM G mX0_thoseWho [.ref t, .int a1] μ (.inl (some (.int r))) (μ) := V_entry ok_mX0_thoseWho rfl rfl (Nat.le_of_ble_eq_true rfl) (T_X0_thoseWho_0 G fu μ t hG ht a1 r h)
def D_X0_cashInAll_4 (fu : Nat) (μ : Mem) (t : Nat) : Nat → Int64 → Int32 → Option Int64
  | 0, _, _ => none
  | n + 1, v1, v3 =>
    if (10 : Int32) ≤ v3 then
      some v1
    else
      gu (ib v3 10) <|
      vl (v1 + ((μ.1 (t + 28) (Int32.toNatClampNeg v3) : Int32).toInt64) : Int64) fun x2 =>
      (D_X0_cashInAll_4 fu μ t n) x2 (v3 + 1)
set_option maxRecDepth 20000 in
theorem T_X0_cashInAll_4 (G : GX) (fu : Nat) (μ : Mem) (t : Nat) (hG : gt G = tbl) (ht : IsX0 t) : ∀ (n : Nat) (v1 : Int64) (v3 : Int32) (r : Int64) , D_X0_cashInAll_4 fu μ t n v1 v3 = some r → V G mX0_cashInAll 4 [some (.ref t), some (.long v1), none, some (.int v3)] [] μ (.inl (some (.long r))) (μ) := by
  intro n
  induction n with
  | zero =>
    intro v1 v3 r h
    exact nomatch (show (none : Option Int64) = some r from h)
  | succ n ih =>
    intro v1 v3 r h
    rw [D_X0_cashInAll_4] at h
    refine V_iload_n dX0_cashInAll_4 rfl ?_
    refine V_bipush (v := 10) dX0_cashInAll_5 rfl ?_
    by_cases c7 : (10 : Int32) ≤ v3
    · rw [if_pos c7] at h
      refine V_icmpge_t (tgt := 26) dX0_cashInAll_7 (by decide) c7 ?_
      refine V_lload_n dX0_cashInAll_26 rfl ?_
      cases h
      exact V_lret rfl dX0_cashInAll_27
    · rw [if_neg c7] at h
      refine V_icmpge_f (tgt := 26) dX0_cashInAll_7 (by decide) c7 ?_
      refine V_lload_n dX0_cashInAll_10 rfl ?_
      refine V_aload_n dX0_cashInAll_11 rfl ?_
      refine V_getR (kf := 3) k_X0 (by decide) lk_RX0_29 rfl dX0_cashInAll_12 (tq_X0_0 hG ht) rfl ?_
      refine V_iload_n dX0_cashInAll_15 rfl ?_
      obtain ⟨g1, h⟩ := gu_o h
      refine V_iaload dX0_cashInAll_16 (tq_X0_28 hG ht) (ib_in g1) ?_
      refine V_i2l dX0_cashInAll_17 ?_
      refine V_ladd dX0_cashInAll_18 ?_
      obtain ⟨x2, e3, h⟩ := vl_o h
      refine V_topl e3 ?_
      refine V_lstore_n (lv2 := [some (.ref t), some (.long x2), none, some (.int v3)]) dX0_cashInAll_19 (by decide) rfl ?_
      refine V_iinc (v := v3 + 1) (lv2 := [some (.ref t), some (.long x2), none, some (.int (v3 + 1))]) dX0_cashInAll_20 rfl rfl (by decide) rfl ?_
      refine V_goto (tgt := 4) dX0_cashInAll_23 (by decide) ?_
      exact V_wk [true, true, false, true] rfl (ih _ _ _ h)
def D_X0_cashInAll_0 (fu : Nat) (μ : Mem) (t : Nat) : Option Int64 :=
  D_X0_cashInAll_4 fu μ t fu 0 1
set_option maxRecDepth 20000 in
theorem T_X0_cashInAll_0 (G : GX) (fu : Nat) (μ : Mem) (t : Nat) (hG : gt G = tbl) (ht : IsX0 t) : ∀ (r : Int64) , D_X0_cashInAll_0 fu μ t = some r → V G mX0_cashInAll 0 [some (.ref t), none, none, none] [] μ (.inl (some (.long r))) (μ) := by
  intro r h
  unfold D_X0_cashInAll_0 at h
  refine V_lconst (v := 0) dX0_cashInAll_0 rfl ?_
  refine V_lstore_n (lv2 := [some (.ref t), some (.long 0), none, none]) dX0_cashInAll_1 (by decide) rfl ?_
  refine V_iconst (v := 1) dX0_cashInAll_2 rfl ?_
  refine V_istore_n (lv2 := [some (.ref t), some (.long 0), none, some (.int 1)]) dX0_cashInAll_3 (by decide) rfl ?_
  exact V_wk [true, true, false, true] rfl (T_X0_cashInAll_4 G fu μ t hG ht fu _ _ _ h)
theorem VM_X0_cashInAll (G : GX) (fu : Nat) (μ : Mem) (t : Nat) (hG : gt G = tbl) (ht : IsX0 t) (r : Int64) (h : D_X0_cashInAll_0 fu μ t = some r) : VM G mX0_cashInAll [.ref t] μ (.inl (some (.long r))) (μ) := V_entry ok_mX0_cashInAll rfl rfl (Nat.le_of_ble_eq_true rfl) (T_X0_cashInAll_0 G fu μ t hG ht r h)
def D_X0_roomBelow_110 (fu : Nat) (μ : Mem) (t : Nat) (k15 : Int32 → Int32 → Int64 → Int32 → Option Int64) (v1 : Int32) (v2 : Int32) (v3 : Int64) (v5 : Int32) : Option Int64 :=
  k15 v1 v2 v3 (v5 + 1)
set_option maxRecDepth 20000 in
theorem T_X0_roomBelow_110 (G : GX) (fu : Nat) (μ : Mem) (t : Nat) (hG : gt G = tbl) (ht : IsX0 t) (k15 : Int32 → Int32 → Int64 → Int32 → Option Int64) (hk15 : ∀ (v1 : Int32) (v2 : Int32) (v3 : Int64) (v5 : Int32) (r : Int64), k15 v1 v2 v3 v5 = some r → V G mX0_roomBelow 15 [some (.ref t), some (.int v1), some (.int v2), some (.long v3), none, some (.int v5), none] [] μ (.inl (some (.long r))) (μ)) : ∀ (v1 : Int32) (v2 : Int32) (v3 : Int64) (v5 : Int32) (r : Int64) , D_X0_roomBelow_110 fu μ t k15 v1 v2 v3 v5 = some r → V G mX0_roomBelow 110 [some (.ref t), some (.int v1), some (.int v2), some (.long v3), none, some (.int v5), none] [] μ (.inl (some (.long r))) (μ) := by
  intro v1 v2 v3 v5 r h
  unfold D_X0_roomBelow_110 at h
  refine V_iinc (v := v5 + 1) (lv2 := [some (.ref t), some (.int v1), some (.int v2), some (.long v3), none, some (.int (v5 + 1)), none]) dX0_roomBelow_110 rfl rfl (by decide) rfl ?_
  refine V_goto (tgt := 15) dX0_roomBelow_113 (by decide) ?_
  exact V_wk [true, true, true, true, false, true, false] rfl (hk15 _ _ _ _ _ h)
def D_X0_roomBelow_77 (fu : Nat) (μ : Mem) (t : Nat) (k15 : Int32 → Int32 → Int64 → Int32 → Option Int64) (v1 : Int32) (v2 : Int32) (v3 : Int64) (v5 : Int32) (v6 : Int32) : Option Int64 :=
  gu (ib v6 40) <|
  gu (ib v1 40) <|
  if (μ.1 (t + 3) (Int32.toNatClampNeg v1)) ≤ (μ.1 (t + 3) (Int32.toNatClampNeg v6)) then
    D_X0_roomBelow_110 fu μ t k15 v1 v2 v3 v5
  else
    (D_X0_canTake_0 μ t 24 v6).bind fun x9 =>
    D_X0_roomBelow_110 fu μ t k15 v1 v2 (v3 + x9) v5
set_option maxRecDepth 20000 in
theorem T_X0_roomBelow_77 (G : GX) (fu : Nat) (μ : Mem) (t : Nat) (hG : gt G = tbl) (ht : IsX0 t) (k15 : Int32 → Int32 → Int64 → Int32 → Option Int64) (hk15 : ∀ (v1 : Int32) (v2 : Int32) (v3 : Int64) (v5 : Int32) (r : Int64), k15 v1 v2 v3 v5 = some r → V G mX0_roomBelow 15 [some (.ref t), some (.int v1), some (.int v2), some (.long v3), none, some (.int v5), none] [] μ (.inl (some (.long r))) (μ)) : ∀ (v1 : Int32) (v2 : Int32) (v3 : Int64) (v5 : Int32) (v6 : Int32) (r : Int64) , D_X0_roomBelow_77 fu μ t k15 v1 v2 v3 v5 v6 = some r → V G mX0_roomBelow 77 [some (.ref t), some (.int v1), some (.int v2), some (.long v3), none, some (.int v5), some (.int v6)] [] μ (.inl (some (.long r))) (μ) := by
  intro v1 v2 v3 v5 v6 r h
  unfold D_X0_roomBelow_77 at h
  refine V_aload_n dX0_roomBelow_77 rfl ?_
  refine V_getR (kf := 0) k_X0 (by decide) lk_RX0_12 rfl dX0_roomBelow_78 (tq_X0_0 hG ht) rfl ?_
  refine V_getR (kf := 1) k_X5 (by decide) lk_RX0_182 rfl dX0_roomBelow_81 (tq_X0_1 hG ht) rfl ?_
  refine V_iload dX0_roomBelow_84 rfl ?_
  obtain ⟨g7, h⟩ := gu_o h
  refine V_iaload dX0_roomBelow_86 (tq_X0_3 hG ht) (ib_in g7) ?_
  refine V_aload_n dX0_roomBelow_87 rfl ?_
  refine V_getR (kf := 0) k_X0 (by decide) lk_RX0_12 rfl dX0_roomBelow_88 (tq_X0_0 hG ht) rfl ?_
  refine V_getR (kf := 1) k_X5 (by decide) lk_RX0_182 rfl dX0_roomBelow_91 (tq_X0_1 hG ht) rfl ?_
  refine V_iload_n dX0_roomBelow_94 rfl ?_
  obtain ⟨g8, h⟩ := gu_o h
  refine V_iaload dX0_roomBelow_95 (tq_X0_3 hG ht) (ib_in g8) ?_
  by_cases c96 : (μ.1 (t + 3) (Int32.toNatClampNeg v1)) ≤ (μ.1 (t + 3) (Int32.toNatClampNeg v6))
  · rw [if_pos c96] at h
    refine V_icmpge_t (tgt := 110) dX0_roomBelow_96 (by decide) c96 ?_
    exact V_wk [true, true, true, true, false, true, false] rfl (T_X0_roomBelow_110 G fu μ t hG ht k15 hk15 _ _ _ _ _ h)
  · rw [if_neg c96] at h
    refine V_icmpge_f (tgt := 110) dX0_roomBelow_96 (by decide) c96 ?_
    refine V_lload_n dX0_roomBelow_99 rfl ?_
    refine V_aload_n dX0_roomBelow_100 rfl ?_
    refine V_bipush (v := 24) dX0_roomBelow_101 rfl ?_
    refine V_iload dX0_roomBelow_103 rfl ?_
    obtain ⟨x9, y10, h⟩ := bi_o h
    refine V_callV (as := [.int 24, .int v6]) (q := t) (rest := [.long v3]) dX0_roomBelow_105 ov_mX0_canTake lk_RX0_195 (by decide) (by decide) rfl rfl (Nat.le_of_ble_eq_true rfl) (tq_X0_0 hG ht) rfl (VM_X0_canTake G μ t hG ht 24 v6 _ y10) ?_
    refine V_ladd dX0_roomBelow_108 ?_
    refine V_lstore_n (lv2 := [some (.ref t), some (.int v1), some (.int v2), some (.long (v3 + x9)), none, some (.int v5), some (.int v6)]) dX0_roomBelow_109 (by decide) rfl ?_
    exact V_wk [true, true, true, true, false, true, false] rfl (T_X0_roomBelow_110 G fu μ t hG ht k15 hk15 _ _ _ _ _ h)
def D_X0_roomBelow_15 (fu : Nat) (μ : Mem) (t : Nat) : Nat → Int32 → Int32 → Int64 → Int32 → Option Int64
  | 0, _, _, _, _ => none
  | n + 1, v1, v2, v3, v5 =>
    gu (ib v2 12) <|
    if (μ.1 (t + 13) (Int32.toNatClampNeg v2)) ≤ v5 then
      some v3
    else
      (D_X5_layerAt_0 μ (t + 1) v2 v5).bind fun x3 =>
      gu (ib x3 40) <|
      gu (ib v1 40) <|
      if (μ.1 (t + 3) (Int32.toNatClampNeg v1)) < (μ.1 (t + 3) (Int32.toNatClampNeg x3)) then
        D_X0_roomBelow_77 fu μ t (D_X0_roomBelow_15 fu μ t n) v1 v2 v3 v5 x3
      else
        (D_X5_widthBelow_0 μ (t + 1) v2 v5).bind fun x11 =>
        D_X0_roomBelow_77 fu μ t (D_X0_roomBelow_15 fu μ t n) v1 v2 (v3 + ((x11 : Int32).toInt64)) v5 x3
set_option maxRecDepth 20000 in
theorem T_X0_roomBelow_15 (G : GX) (fu : Nat) (μ : Mem) (t : Nat) (hG : gt G = tbl) (ht : IsX0 t) : ∀ (n : Nat) (v1 : Int32) (v2 : Int32) (v3 : Int64) (v5 : Int32) (r : Int64) , D_X0_roomBelow_15 fu μ t n v1 v2 v3 v5 = some r → V G mX0_roomBelow 15 [some (.ref t), some (.int v1), some (.int v2), some (.long v3), none, some (.int v5), none] [] μ (.inl (some (.long r))) (μ) := by
  intro n
  induction n with
  | zero =>
    intro v1 v2 v3 v5 r h
    exact nomatch (show (none : Option Int64) = some r from h)
  | succ n ih =>
    intro v1 v2 v3 v5 r h
    rw [D_X0_roomBelow_15] at h
    refine V_iload dX0_roomBelow_15 rfl ?_
    refine V_aload_n dX0_roomBelow_17 rfl ?_
    refine V_getR (kf := 0) k_X0 (by decide) lk_RX0_12 rfl dX0_roomBelow_18 (tq_X0_0 hG ht) rfl ?_
    refine V_getR (kf := 11) k_X5 (by decide) lk_RX0_185 rfl dX0_roomBelow_21 (tq_X0_1 hG ht) rfl ?_
    refine V_iload_n dX0_roomBelow_24 rfl ?_
    obtain ⟨g2, h⟩ := gu_o h
    refine V_iaload dX0_roomBelow_25 (tq_X0_13 hG ht) (ib_in g2) ?_
    by_cases c26 : (μ.1 (t + 13) (Int32.toNatClampNeg v2)) ≤ v5
    · rw [if_pos c26] at h
      refine V_icmpge_t (tgt := 116) dX0_roomBelow_26 (by decide) c26 ?_
      refine V_lload_n dX0_roomBelow_116 rfl ?_
      cases h
      exact V_lret rfl dX0_roomBelow_117
    · rw [if_neg c26] at h
      refine V_icmpge_f (tgt := 116) dX0_roomBelow_26 (by decide) c26 ?_
      refine V_aload_n dX0_roomBelow_29 rfl ?_
      refine V_getR (kf := 0) k_X0 (by decide) lk_RX0_12 rfl dX0_roomBelow_30 (tq_X0_0 hG ht) rfl ?_
      refine V_iload_n dX0_roomBelow_33 rfl ?_
      refine V_iload dX0_roomBelow_34 rfl ?_
      obtain ⟨x3, y4, h⟩ := bi_o h
      refine V_callV (as := [.int v2, .int v5]) (q := (t + 1)) (rest := []) dX0_roomBelow_36 ov_mX5_layerAt lk_RX0_202 (by decide) (by decide) rfl rfl (Nat.le_of_ble_eq_true rfl) (tq_X0_1 hG ht) rfl (VM_X5_layerAt G μ (t + 1) hG (is_X0_1 ht) v2 v5 _ y4) ?_
      refine V_istore (lv2 := [some (.ref t), some (.int v1), some (.int v2), some (.long v3), none, some (.int v5), some (.int x3)]) dX0_roomBelow_39 (by decide) rfl ?_
      refine V_aload_n dX0_roomBelow_41 rfl ?_
      refine V_getR (kf := 0) k_X0 (by decide) lk_RX0_12 rfl dX0_roomBelow_42 (tq_X0_0 hG ht) rfl ?_
      refine V_getR (kf := 1) k_X5 (by decide) lk_RX0_182 rfl dX0_roomBelow_45 (tq_X0_1 hG ht) rfl ?_
      refine V_iload dX0_roomBelow_48 rfl ?_
      obtain ⟨g5, h⟩ := gu_o h
      refine V_iaload dX0_roomBelow_50 (tq_X0_3 hG ht) (ib_in g5) ?_
      refine V_aload_n dX0_roomBelow_51 rfl ?_
      refine V_getR (kf := 0) k_X0 (by decide) lk_RX0_12 rfl dX0_roomBelow_52 (tq_X0_0 hG ht) rfl ?_
      refine V_getR (kf := 1) k_X5 (by decide) lk_RX0_182 rfl dX0_roomBelow_55 (tq_X0_1 hG ht) rfl ?_
      refine V_iload_n dX0_roomBelow_58 rfl ?_
      obtain ⟨g6, h⟩ := gu_o h
      refine V_iaload dX0_roomBelow_59 (tq_X0_3 hG ht) (ib_in g6) ?_
      by_cases c60 : (μ.1 (t + 3) (Int32.toNatClampNeg v1)) < (μ.1 (t + 3) (Int32.toNatClampNeg x3))
      · rw [if_pos c60] at h
        refine V_icmpgt_t (tgt := 77) dX0_roomBelow_60 (by decide) c60 ?_
        exact V_wk [true, true, true, true, false, true, true] rfl (T_X0_roomBelow_77 G fu μ t hG ht (D_X0_roomBelow_15 fu μ t n) ih _ _ _ _ _ _ h)
      · rw [if_neg c60] at h
        refine V_icmpgt_f (tgt := 77) dX0_roomBelow_60 (by decide) c60 ?_
        refine V_lload_n dX0_roomBelow_63 rfl ?_
        refine V_aload_n dX0_roomBelow_64 rfl ?_
        refine V_getR (kf := 0) k_X0 (by decide) lk_RX0_12 rfl dX0_roomBelow_65 (tq_X0_0 hG ht) rfl ?_
        refine V_iload_n dX0_roomBelow_68 rfl ?_
        refine V_iload dX0_roomBelow_69 rfl ?_
        obtain ⟨x11, y12, h⟩ := bi_o h
        refine V_callV (as := [.int v2, .int v5]) (q := (t + 1)) (rest := [.long v3]) dX0_roomBelow_71 ov_mX5_widthBelow lk_RX0_205 (by decide) (by decide) rfl rfl (Nat.le_of_ble_eq_true rfl) (tq_X0_1 hG ht) rfl (VM_X5_widthBelow G μ (t + 1) hG (is_X0_1 ht) v2 v5 _ y12) ?_
        refine V_i2l dX0_roomBelow_74 ?_
        refine V_ladd dX0_roomBelow_75 ?_
        refine V_lstore_n (lv2 := [some (.ref t), some (.int v1), some (.int v2), some (.long (v3 + ((x11 : Int32).toInt64))), none, some (.int v5), some (.int x3)]) dX0_roomBelow_76 (by decide) rfl ?_
        exact V_wk [true, true, true, true, false, true, true] rfl (T_X0_roomBelow_77 G fu μ t hG ht (D_X0_roomBelow_15 fu μ t n) ih _ _ _ _ _ _ h)
def D_X0_roomBelow_0 (fu : Nat) (μ : Mem) (t : Nat) (a1 : Int32) : Option Int64 :=
  gu (ib a1 40) <|
  D_X0_roomBelow_15 fu μ t fu a1 (μ.1 (t + 2) (Int32.toNatClampNeg a1)) 0 0
set_option maxRecDepth 20000 in
theorem T_X0_roomBelow_0 (G : GX) (fu : Nat) (μ : Mem) (t : Nat) (hG : gt G = tbl) (ht : IsX0 t) : ∀ (a1 : Int32) (r : Int64) , D_X0_roomBelow_0 fu μ t a1 = some r → V G mX0_roomBelow 0 [some (.ref t), some (.int a1), none, none, none, none, none] [] μ (.inl (some (.long r))) (μ) := by
  intro a1 r h
  unfold D_X0_roomBelow_0 at h
  refine V_aload_n dX0_roomBelow_0 rfl ?_
  refine V_getR (kf := 0) k_X0 (by decide) lk_RX0_12 rfl dX0_roomBelow_1 (tq_X0_0 hG ht) rfl ?_
  refine V_getR (kf := 0) k_X5 (by decide) lk_RX0_199 rfl dX0_roomBelow_4 (tq_X0_1 hG ht) rfl ?_
  refine V_iload_n dX0_roomBelow_7 rfl ?_
  obtain ⟨g1, h⟩ := gu_o h
  refine V_iaload dX0_roomBelow_8 (tq_X0_2 hG ht) (ib_in g1) ?_
  refine V_istore_n (lv2 := [some (.ref t), some (.int a1), some (.int (μ.1 (t + 2) (Int32.toNatClampNeg a1))), none, none, none, none]) dX0_roomBelow_9 (by decide) rfl ?_
  refine V_lconst (v := 0) dX0_roomBelow_10 rfl ?_
  refine V_lstore_n (lv2 := [some (.ref t), some (.int a1), some (.int (μ.1 (t + 2) (Int32.toNatClampNeg a1))), some (.long 0), none, none, none]) dX0_roomBelow_11 (by decide) rfl ?_
  refine V_iconst (v := 0) dX0_roomBelow_12 rfl ?_
  refine V_istore (lv2 := [some (.ref t), some (.int a1), some (.int (μ.1 (t + 2) (Int32.toNatClampNeg a1))), some (.long 0), none, some (.int 0), none]) dX0_roomBelow_13 (by decide) rfl ?_
  exact V_wk [true, true, true, true, false, true, false] rfl (T_X0_roomBelow_15 G fu μ t hG ht fu _ _ _ _ _ h)
theorem VM_X0_roomBelow (G : GX) (fu : Nat) (μ : Mem) (t : Nat) (hG : gt G = tbl) (ht : IsX0 t) (a1 : Int32) (r : Int64) (h : D_X0_roomBelow_0 fu μ t a1 = some r) : VM G mX0_roomBelow [.ref t, .int a1] μ (.inl (some (.long r))) (μ) := V_entry ok_mX0_roomBelow rfl rfl (Nat.le_of_ble_eq_true rfl) (T_X0_roomBelow_0 G fu μ t hG ht a1 r h)
