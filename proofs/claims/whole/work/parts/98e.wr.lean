/-! calls that write: a told event more -/
section
variable {fu n c N M : Nat} {ev : Nat → Ev} {μ m : Mem} {s t : Sp} {e : Ev}
def upE (ev : Nat → Ev) (n : Nat) (e : Ev) : Nat → Ev := fun k => if k = n then e else ev k
theorem up_n (ev : Nat → Ev) (n : Nat) (e : Ev) : upE ev n e n = e := if_pos rfl
theorem up_o (ev : Nat → Ev) {n k : Nat} (e : Ev) (h : k < n) : upE ev n e k = ev k := if_neg (by omega)
theorem up_run (ev : Nat → Ev) {n k : Nat} (e : Ev) (h : k ≤ n) : run (upE ev n e) k = run ev k := rF_c fun j hj => ⟨up_o ev e (by omega), rfl⟩
theorem up_run1 (ev : Nat → Ev) (n : Nat) (e : Ev) : run (upE ev n e) (n + 1) = go (run ev n) e := by rw [run_s, up_n, up_run ev e (Nat.le_refl n)]
theorem nE_mo (ev : Nat → Ev) (c : Nat) : ∀ n k, k ≤ n → nE ev c k ≤ nE ev c n
  | 0, k, h => by rw [show k = 0 by omega]; exact Nat.le_refl _
  | n + 1, k, h => by
    by_cases q : k = n + 1
    · rw [q]; exact Nat.le_refl _
    · have := nE_mo ev c n k (by omega)
      show _ ≤ nE ev c n + _
      omega
theorem ev_num (G : EG ev n) (V : LV ev n) {k : Nat} (hk : k < n) : (ev k 0 = 0 → ev k 1 < cL (run ev n)) ∧ (ev k 0 = 4 → ev k 1 < cH (run ev n)) := by
  have a := run_CT G V n (Nat.le_refl _)
  have b := run_CT G V k (by omega)
  have v := V k hk
  refine ⟨fun h => ?_, fun h => ?_⟩
  · have m1 := nE_mo ev 0 n (k + 1) (by omega)
    have e1 : nE ev 0 (k + 1) = nE ev 0 k + 1 := by show nE ev 0 k + _ = _; rw [if_pos h]
    rw [v.2.1 h, b.2.1, a.2.1]; omega
  · have m1 := nE_mo ev 4 n (k + 1) (by omega)
    have e1 : nE ev 4 (k + 1) = nE ev 4 k + 1 := by show nE ev 4 k + _ = _; rw [if_pos h]
    rw [v.2.2 h, b.2.2, a.2.2]; omega
def Num (s : Sp) (e : Ev) : Prop := (e 0 = 0 → e 1 = cL s) ∧ (e 0 = 4 → e 1 = cH s)
theorem up_EG (G : EG ev n) (V : LV ev n) (hn : n < 160) (E : EvOK e) (Q : Num (run ev n) e) : EG (upE ev n e) (n + 1) := by
  refine ⟨by omega, fun k hk => ?_, fun i j hi hj h0 hk h1 => ?_⟩
  · by_cases q : k = n
    · rw [q, up_n]; exact E
    · rw [up_o ev e (by omega)]; exact G.2.1 k (by omega)
  · by_cases q1 : i = n
    · by_cases q2 : j = n
      · omega
      · exfalso
        rw [q1, up_n, up_o ev e (show j < n by omega)] at h0 h1
        rw [q1, up_n] at hk
        have b := ev_num G V (show j < n by omega)
        rcases hk with z | z
        · have := b.1 (by omega); have := Q.1 z; omega
        · have := b.2 (by omega); have := Q.2 z; omega
    · rw [up_o ev e (show i < n by omega)] at h0 h1 hk
      by_cases q2 : j = n
      · exfalso
        rw [q2, up_n] at h0 h1
        have b := ev_num G V (show i < n by omega)
        rcases hk with z | z
        · have := b.1 z; have := Q.1 (by omega); omega
        · have := b.2 z; have := Q.2 (by omega); omega
      · rw [up_o ev e (show j < n by omega)] at h0 h1
        exact G.2.2 i j (by omega) (by omega) h0 hk h1
theorem up_LV (V : LV ev n) (C : can (run ev n) e) (Q : Num (run ev n) e) : LV (upE ev n e) (n + 1) := fun k hk => by
  by_cases q : k = n
  · rw [q, up_n, up_run ev e (Nat.le_refl n)]; exact ⟨C, Q.1, Q.2⟩
  · rw [up_o ev e (by omega), up_run ev e (by omega)]; exact V k (by omega)
theorem num_F (G : EG ev n) (V : LV ev n) (E : EvOK e) (Q : Num (run ev n) e) : EvF (run ev n) e := by
  have T := (run_CT G V n (Nat.le_refl _)).1
  have H := run_Iv G
  refine ⟨fun h => ?_, fun h => ?_⟩
  · have k := (E.k0 h).1
    have q := Q.1 h
    refine (IvT_is H.T k).resolve_right fun z => ?_
    have := (T.1 (e 1) k).mp z
    omega
  · have k := (E.k4 h).1
    have q := Q.2 h
    refine (IvH_is H.H (show e 1 < 25 by omega)).resolve_right fun z => ?_
    have := (T.2.1 (e 1) k).mp z
    omega
/-! the class -/
theorem c_wr (C : CI ev n μ) (hn : n < 160) (e : Ev) : ∃ x, D_X2_write_0 (nI (e 0)) (nI (e 1)) (nI (e 2)) (nI (e 3)) (nI (e 4)) (nI (e 5)) μ = some x ∧ LG x n e ∧ Fr (fun q => q = 2) μ x ∧ CI ev n x := by
  simp (disch := omega) only [D_X2_write_0, li0, li1, li2, li3, li4, li5, li6, li7, li8, li9, li10, li12, li24, li31, li40, li160, n_le, n_lt, n_eq, n_m1, n_add, mr4, mr6, mr7, mr10, mr40, mr160, ml4, ml6, ml7, ml10, ml40, ml160, gu_ib, nI_nat, bi_s, vl_e, gu_t, if_true, if_false, reduceIte, bt1_1, bt1_2, bt1_3, bt1_4, bt1_5, bt1_6, bt1_7, bt1_8, bt1_9, bt1_10, bt1_11, bt1_12, bt14_1, bt14_2, bt14_3, bt14_4, bt14_5, bt14_6, bt14_7, bt14_8, bt14_9, bt14_10, bt14_11, bt14_12, C.n, Nat.add_zero]
  rw [if_pos hn]
  generalize ex : wI (wI (wI (wI (wI (wI μ 2 (6 * n) (nI (e 0))) 2 (6 * n + 1) (nI (e 1))) 2 (6 * n + 2) (nI (e 2))) 2 (6 * n + 3) (nI (e 3))) 2 (6 * n + 4) (nI (e 4))) 2 (6 * n + 5) (nI (e 5)) = x
  have F : Fr (fun q => q = 2) μ x := by rw [← ex]; exact Fr.wI (A := fun q => q = 2) (Fr.wI (A := fun q => q = 2) (Fr.wI (A := fun q => q = 2) (Fr.wI (A := fun q => q = 2) (Fr.wI (A := fun q => q = 2) (Fr.wI (A := fun q => q = 2) Fr.rfl' rfl) rfl) rfl) rfl) rfl) rfl
  have e2 : ∀ j, x.1 2 j = if j = 6 * n + 5 then nI (e 5) else if j = 6 * n + 4 then nI (e 4) else if j = 6 * n + 3 then nI (e 3) else if j = 6 * n + 2 then nI (e 2) else if j = 6 * n + 1 then nI (e 1) else if j = 6 * n then nI (e 0) else μ.1 2 j := fun j => by rw [← ex, wI_s, wI_s, wI_s, wI_s, wI_s, wI_s]
  refine ⟨x, rfl, fun j hj => ?_, F, fun k hk j hj => ?_, by rw [F.I (by omega)]; exact C.n, RC_Fr F (fun q z => by omega) C.r, ?_⟩
  · rw [e2]
    rcases (show j = 0 ∨ j = 1 ∨ j = 2 ∨ j = 3 ∨ j = 4 ∨ j = 5 by omega) with z | z | z | z | z | z <;> subst z
    · rw [if_neg (by omega), if_neg (by omega), if_neg (by omega), if_neg (by omega), if_neg (by omega), if_pos (by omega)]
    · rw [if_neg (by omega), if_neg (by omega), if_neg (by omega), if_neg (by omega), if_pos rfl]
    · rw [if_neg (by omega), if_neg (by omega), if_neg (by omega), if_pos rfl]
    · rw [if_neg (by omega), if_neg (by omega), if_pos rfl]
    · rw [if_neg (by omega), if_pos rfl]
    · rw [if_pos rfl]
  · rw [e2, if_neg (by omega), if_neg (by omega), if_neg (by omega), if_neg (by omega), if_neg (by omega), if_neg (by omega)]
    exact C.g k hk j hj
  · obtain ⟨t, M, rt, it⟩ := C.t
    exact ⟨t, M, RC_Fr F (fun q z => by omega) rt, it⟩
theorem c_wrF (C : CI ev n μ) (hn : n = 160) (a b c d f g : Int32) : D_X2_write_0 a b c d f g μ = some μ := by
  unfold D_X2_write_0
  rw [C.n, hn, if_neg (by decide)]
theorem c_enF (C : CI ev n μ) (hn : n = 160) : D_X6_enter_0 fu μ = some (.inr (exn 2), thr μ 2) := by
  unfold D_X6_enter_0
  rw [C.n, hn, if_pos (by decide), c_e38]
/-- what both calls together do -/
def WrN (ev : Nat → Ev) (n fu : Nat) (μ : Mem) (w : Mem → Option Mem) : Prop := ∃ x y, w μ = some x ∧ D_X6_enter_0 fu x = some (.inr (exn 2), thr y 2) ∧ CI ev n y ∧ Fr (fun q => q ≤ 83) μ y
theorem c_doY (hf : 200 < fu) (G : EG ev n) (V : LV ev n) (C : CI ev n μ) (hn : n < 160) (E : EvOK e) (Q : Num (run ev n) e) (can' : can (run ev n) e) : ∃ x y, D_X2_write_0 (nI (e 0)) (nI (e 1)) (nI (e 2)) (nI (e 3)) (nI (e 4)) (nI (e 5)) μ = some x ∧ D_X6_enter_0 fu x = some (.inl (), y) ∧ CI (upE ev n e) (n + 1) y ∧ Fr (fun q => q ≤ 83) μ y := by
  obtain ⟨x, ex, L, F, Cx⟩ := c_wr C hn e
  obtain ⟨⟨v, y⟩, ey, p1, F1, R1⟩ := ok_eq (c_carry (b := 3) hf (by decide) (by decide) (show n ≤ 1000 by omega) hn L E (num_F G V E Q) Cx.r (run_Iv G))
  have p1' : v = true := p1.trans (canB_t.mpr can')
  subst p1'
  have yn : y.1 1 1 = nI n := by rw [F1.I (by unfold AB; omega)]; exact Cx.n
  refine ⟨x, wI y 1 1 (nI (n + 1)), ex, ?_, ⟨fun k hk => ?_, wI_e, ?_, ?_⟩, ?_⟩
  · unfold D_X6_enter_0
    rw [Cx.n, if_neg (show ¬ (160 : Int32) ≤ nI n by rw [li160, n_le (by omega) (by omega)]; omega), ey, bi_s]
    show (if true = true then _ else _) = _
    rw [if_pos rfl]
    show vl (wI y 1 1 (y.1 1 1 + 1)) _ = _
    rw [yn, nk1, vl_e]
  · intro j hj
    rw [wI_n (by omega)]
    by_cases q : k = n
    · rw [q, up_n]; exact LG_F F1 (by unfold AB; omega) L j hj
    · rw [up_o ev e (by omega)]; exact LG_F F1 (by unfold AB; omega) (Cx.g k (by omega)) j hj
  · rw [up_run1]
    exact RC_frm (fun q h1 h2 => ⟨by rw [wI_n (by omega)], by rw [wI_L]⟩) R1
  · obtain ⟨t, M, rt, it⟩ := Cx.t
    exact ⟨t, M, RC_frm (fun q h1 h2 => ⟨by rw [wI_n (by omega)], by rw [wI_L]⟩) (RC_Fr F1 (fun q z => by unfold AB at z; omega) rt), it⟩
  · exact Fr.wI (Fr.tr (F.mo fun q z => by omega) (F1.mo fun q z => by unfold AB at z; omega)) (by omega)
theorem c_enN {x : Mem} {y : Mem} (hn : n < 160) (C : CI ev n x) (ey : D_X0_carryOut_0 fu 3 (nI n) x = some (false, y)) : D_X6_enter_0 fu x = some (.inr (exn 2), thr y 2) := by
  unfold D_X6_enter_0
  rw [C.n, if_neg (show ¬ (160 : Int32) ≤ nI n by rw [li160, n_le (by omega) (by omega)]; omega), ey, bi_s]
  show (if false = true then _ else _) = _
  rw [if_neg (by decide)]
  exact c_e38 fu y
theorem c_doN (hf : 200 < fu) (G : EG ev n) (V : LV ev n) (C : CI ev n μ) (E : EvOK e) (Q : Num (run ev n) e) (can' : ¬ (n < 160 ∧ can (run ev n) e)) : WrN ev n fu μ (D_X2_write_0 (nI (e 0)) (nI (e 1)) (nI (e 2)) (nI (e 3)) (nI (e 4)) (nI (e 5))) := by
  have n160 := G.1
  by_cases hn : n < 160
  · have nc : ¬ can (run ev n) e := fun z => can' ⟨hn, z⟩
    obtain ⟨x, ex, L, F, Cx⟩ := c_wr C hn e
    obtain ⟨⟨v, y⟩, ey, p1, F1, R1⟩ := ok_eq (c_carry (b := 3) hf (by decide) (by decide) (show n ≤ 1000 by omega) hn L E (num_F G V E Q) Cx.r (run_Iv G))
    have p1' : v = false := p1.trans (canB_f nc)
    subst p1'
    refine ⟨x, y, ex, c_enN hn Cx ey, ⟨fun k hk => LG_F F1 (by unfold AB; omega) (Cx.g k hk), by rw [F1.I (by unfold AB; omega)]; exact Cx.n, ?_, ?_⟩, Fr.tr (F.mo fun q z => by omega) (F1.mo fun q z => by unfold AB at z; omega)⟩
    · rw [go_n nc] at R1; exact R1
    · obtain ⟨t, M, rt, it⟩ := Cx.t
      exact ⟨t, M, RC_Fr F1 (fun q z => by unfold AB at z; omega) rt, it⟩
  · have e160 : n = 160 := by omega
    exact ⟨μ, μ, c_wrF C e160 _ _ _ _ _ _, c_enF C e160, C, Fr.rfl'⟩
/-- a number too many -/
theorem c_doF (hf : 200 < fu) (G : EG ev n) (C : CI ev n μ) (h : e 0 = 0 ∧ e 1 = 40 ∨ e 0 = 4 ∧ e 1 = 24) : WrN ev n fu μ (D_X2_write_0 (nI (e 0)) (nI (e 1)) (nI (e 2)) (nI (e 3)) (nI (e 4)) (nI (e 5))) := by
  have n160 := G.1
  by_cases hn : n < 160
  · obtain ⟨x, ex, L, F, Cx⟩ := c_wr C hn e
    have rd : ∀ j, j < 6 → D_X2_read_0 x (nI n) (nI j) = some (nI (e j)) := fun j hj => c_read hn hj L
    refine ⟨x, x, ex, c_enN hn Cx ?_, Cx, F.mo fun q z => by omega⟩
    unfold D_X0_carryOut_0 D_X0_note_0
    rw [show D_X2_read_0 x (nI n) 1 = some (nI (e 1)) from rd 1 (by decide), bi_s, show D_X2_read_0 x (nI n) 2 = some (nI (e 2)) from rd 2 (by decide), bi_s, show D_X2_read_0 x (nI n) 3 = some (nI (e 3)) from rd 3 (by decide), bi_s, show D_X2_read_0 x (nI n) 4 = some (nI (e 4)) from rd 4 (by decide), bi_s, show D_X2_read_0 x (nI n) 5 = some (nI (e 5)) from rd 5 (by decide), bi_s, show D_X2_read_0 x (nI n) 0 = some (nI (e 0)) from rd 0 (by decide), bi_s]
    rcases h with ⟨h0, h1⟩ | ⟨h0, h1⟩
    · rw [h0, if_pos (show nI 0 = 0 from rfl), h1]
      unfold D_X5_put_0
      rw [if_pos (by decide)]
      rfl
    · rw [h0, if_neg (by decide), if_neg (by decide), if_neg (by decide), if_neg (by decide), if_pos (show nI 4 = 4 from rfl), h1]
      unfold D_X1_put_0
      rw [if_neg (by decide)]
      rfl
  · have e160 : n = 160 := by omega
    exact ⟨μ, μ, c_wrF C e160 _ _ _ _ _ _, c_enF C e160, C, Fr.rfl'⟩
/-! the model -/
theorem m_room (D : MI ev n m) (hn : n < 160) (h0 : m.1 85 0 = nI 0) (c : Int32) : D_X7_hasRoom_0 c m = some (true, m) := by
  unfold D_X7_hasRoom_0 D_X7_hasRoom_16
  rw [D.n, if_neg (show ¬ (160 : Int32) ≤ nI n by rw [li160, n_le (by omega) (by omega)]; omega), show D_X7_needs_0 1 c 2 m = some (true, m) from m_nt h0 _ _]; rfl
theorem m_roomF {k : Nat} (D : MI ev n m) (hn : n = 160) (h0 : m.1 85 0 = nI 0) (hk : k ≤ 3) (hk0 : k ≠ 0) : D_X7_hasRoom_0 (nI k) m = some (false, mth m (nI k) 2) := by
  unfold D_X7_hasRoom_0 D_X7_hasRoom_16
  rw [D.n, hn, if_pos (by decide), show D_X7_needs_0 0 (nI k) 2 m = some (false, mth m (nI k) 2) from m_nf (j := 2) h0 hk hk0 (by decide)]; rfl
theorem m_doY {a2 a3 a4 a5 a6 : Int32} (hf : 200 < fu) (G : EG ev n) (V : LV ev n) (D : MI ev n m) (h0 : m.1 85 0 = nI 0) (hn : n < 160) (E : EvOK e) (Q : Num (run ev n) e) (can' : can (run ev n) e) (g1 : e 0 = 0 ∨ e 0 = 4 → a6 = nI (e 1) ∧ a2 = nI (e 2) ∧ a3 = nI (e 3) ∧ a4 = nI (e 4) ∧ a5 = nI (e 5)) (g2 : ¬ (e 0 = 0 ∨ e 0 = 4) → a2 = nI (e 1) ∧ a3 = nI (e 2) ∧ a4 = nI (e 3) ∧ a5 = nI (e 4)) : ∃ x y, D_X7_notes_0 (nI (e 0)) a2 a3 a4 a5 a6 m = some x ∧ D_X7_does_0 fu (x.1 85 5 - 1) x = some y ∧ MI (upE ev n e) (n + 1) y ∧ y.1 85 0 = nI 0 ∧ Fr (fun q => q = 85 ∨ 87 ≤ q ∧ q ≤ 127) m y := by
  have i5 : m.1 85 5 = nI n := D.n
  have z1 : ∀ (x : Mem) (q i : Nat) (v : Int32), q ≠ 85 → (wI x q i v).1 85 = x.1 85 := fun x q i v hq => by rw [wI_n (fun z => hq z.symm)]
  unfold D_X7_notes_0
  simp (disch := omega) only [li0, li1, li2, li3, li4, li5, li6, li7, li8, li9, li10, li12, li24, li31, li40, li160, n_le, n_lt, n_eq, n_m1, n_add, mr4, mr6, mr7, mr10, mr40, mr160, ml4, ml6, ml7, ml10, ml40, ml160, gu_ib, nI_nat, bi_s, vl_e, gu_t, if_true, if_false, reduceIte, bt1_1, bt1_2, bt1_3, bt1_4, bt1_5, bt1_6, bt1_7, bt1_8, bt1_9, bt1_10, bt1_11, bt1_12, bt14_1, bt14_2, bt14_3, bt14_4, bt14_5, bt14_6, bt14_7, bt14_8, bt14_9, bt14_10, bt14_11, bt14_12, i5, z1]
  generalize ex : wI (wI (wI (wI (wI (wI (wI m 87 n (nI (e 0))) 89 (4 * n) a2) 89 (4 * n + 1) a3) 89 (4 * n + 2) a4) 89 (4 * n + 3) a5) 88 n a6) 85 5 (nI (n + 1)) = x
  have F : Fr (fun q => q = 85 ∨ 87 ≤ q ∧ q ≤ 89) m x := by rw [← ex]; exact Fr.wI (Fr.wI (Fr.wI (Fr.wI (Fr.wI (Fr.wI (Fr.wI Fr.rfl' (by omega)) (by omega)) (by omega)) (by omega)) (by omega)) (by omega)) (by omega)
  have e85 : ∀ j, x.1 85 j = if j = 5 then nI (n + 1) else m.1 85 j := fun j => by rw [← ex, wI_s, wI_n (by omega), wI_n (by omega), wI_n (by omega), wI_n (by omega), wI_n (by omega), wI_n (by omega)]
  have e87 : ∀ j, x.1 87 j = if j = n then nI (e 0) else m.1 87 j := fun j => by rw [← ex, wI_n (by omega), wI_n (by omega), wI_n (by omega), wI_n (by omega), wI_n (by omega), wI_n (by omega), wI_s]
  have e88 : ∀ j, x.1 88 j = if j = n then a6 else m.1 88 j := fun j => by rw [← ex, wI_n (by omega), wI_s, wI_n (by omega), wI_n (by omega), wI_n (by omega), wI_n (by omega), wI_n (by omega)]
  have e89 : ∀ j, x.1 89 j = if j = 4 * n + 3 then a5 else if j = 4 * n + 2 then a4 else if j = 4 * n + 1 then a3 else if j = 4 * n then a2 else m.1 89 j := fun j => by rw [← ex, wI_n (by omega), wI_n (by omega), wI_s, wI_s, wI_s, wI_s, wI_n (by omega)]
  have g : MG x n e := by
    refine ⟨by rw [e87, if_pos rfl], fun h => ⟨by rw [e88, if_pos rfl]; exact (g1 h).1, fun j hj => ?_⟩, fun h j hj => ?_⟩
    · obtain ⟨-, w2, w3, w4, w5⟩ := g1 h
      rw [e89]
      rcases (show j = 0 ∨ j = 1 ∨ j = 2 ∨ j = 3 by omega) with z | z | z | z <;> subst z
      · rw [if_neg (by omega), if_neg (by omega), if_neg (by omega), if_pos (by omega)]; exact w2
      · rw [if_neg (by omega), if_neg (by omega), if_pos rfl]; exact w3
      · rw [if_neg (by omega), if_pos rfl]; exact w4
      · rw [if_pos rfl]; exact w5
    · obtain ⟨w2, w3, w4, w5⟩ := g2 h
      rw [e89]
      rcases (show j = 0 ∨ j = 1 ∨ j = 2 ∨ j = 3 by omega) with z | z | z | z <;> subst z
      · rw [if_neg (by omega), if_neg (by omega), if_neg (by omega), if_pos (by omega)]; exact w2
      · rw [if_neg (by omega), if_neg (by omega), if_pos rfl]; exact w3
      · rw [if_neg (by omega), if_pos rfl]; exact w4
      · rw [if_pos rfl]; exact w5
  have go' : ∀ k, k < n → MG x k (ev k) := fun k hk => by
    obtain ⟨b1, b2, b3⟩ := D.g k hk
    refine ⟨by rw [e87, if_neg (by omega)]; exact b1, fun h => ⟨by rw [e88, if_neg (by omega)]; exact (b2 h).1, fun j hj => ?_⟩, fun h j hj => ?_⟩
    · rw [e89, if_neg (by omega), if_neg (by omega), if_neg (by omega), if_neg (by omega)]; exact (b2 h).2 j hj
    · rw [e89, if_neg (by omega), if_neg (by omega), if_neg (by omega), if_neg (by omega)]; exact b3 h j hj
  have Rx : RM x (run ev n) := RM_frm (fun q h1 h2 => F.1 q (by omega)) (fun j h1 h2 => by rw [e85, if_neg (by omega)]) D.r
  have d1 : x.1 85 5 - 1 = nI n := by
    rw [e85, if_pos rfl, show nI (n + 1) - 1 = nI n from (Int32.sub_eq_add_neg _ _).trans (n_dec (by omega))]
  obtain ⟨y, ey, F1, S1, R1⟩ := ok_eq (m_does hf hn (show n ≤ 1000 by omega) g E (num_F G V E Q) can' (Or.inl (by rw [e85, if_neg (by decide)]; exact D.o)) Rx (run_Iv G))
  refine ⟨x, y, rfl, by rw [show x.1 85 5 - nI 1 = nI n from d1]; exact ey, ⟨fun k hk => ?_, ?_, ?_, ?_⟩, ?_, Fr.tr (F.mo fun q z => by omega) (F1.mo fun q z => by unfold AG at z; omega)⟩
  · by_cases q : k = n
    · rw [q, up_n]; exact MG_F F1 (fun q z => by unfold AG at z; omega) g
    · rw [up_o ev e (by omega)]; exact MG_F F1 (fun q z => by unfold AG at z; omega) (go' k (by omega))
  · rw [S1 5 (by decide), e85, if_pos rfl]
  · rw [up_run1, go_y can']; exact R1
  · rw [S1 48 (by decide), e85, if_neg (by decide)]; exact D.o
  · rw [S1 0 (by decide), e85, if_neg (by decide)]; exact h0
end
