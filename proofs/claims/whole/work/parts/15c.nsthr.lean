def nsI : List Cond := [18, 114, 115, 116, 120, 128, 129, 706, 707, 708, 709, 710, 711, 712, 713, 714, 715, 716, 717, 718, 719, 720, 721, 722, 723, 724, 725, 726, 727, 728, 729, 730, 731, 732, 733, 734, 735, 736, 737, 738, 739, 740, 741, 742, 743, 748, 749, 750, 751, 752, 753, 754, 755, 756, 758, 759, 760, 761, 762, 763, 764, 765, 766, 767, 768, 769, 782, 783, 784, 785, 786, 787, 792, 793, 794, 812, 813, 814, 815, 816, 817, 818, 819, 821, 822, 823, 824, 825, 826, 1996, 2005, 2006, 2007, 2008, 2009].filterMap (fun i => lw_tbl[i]?)
theorem nsI_in : ∀ w ∈ nsI, w ∈ lw_tbl := fun w hw => by
  obtain ⟨i, -, hi⟩ := List.mem_filterMap.mp hw
  exact List.mem_of_getElem? hi
theorem xg0_NoSuchElementException : ∀ w ∈ (nsA.filter vx_no).filter goodWord, w ∈ nsI := by decide +kernel
theorem xg_NoSuchElementException : ∀ w ∈ (nsA.filter vx_no).filter goodWord, w ∈ lw_tbl := fun w hw => nsI_in w (xg0_NoSuchElementException w hw)
theorem xn_NoSuchElementException : ∀ w ∈ (nsA.filter vx_no).filter (fun w => !goodWord w), w ∈ xw := by decide +kernel
theorem xo_NoSuchElementException : ∀ w ∈ Cond.classLink "TallTowers" 360 nsN :: Cond.initialized nsN :: nsA.filter vx_no, vx_ot w = true := by decide +kernel
set_option maxHeartbeats 400000 in
theorem thr_NoSuchElementException {G : GX} {M : MT} {pc : Nat} {lv : List (Option Value)} {μ : Mem} (hM : mH M = none) (hO : mO M = "TallTowers") (hf : 5 < mF M) (hw : 82 ≤ mW M) (d0 : decode (mC M) pc = .ok (.new 360, 3)) (d3 : decode (mC M) (pc + 3) = .ok (.dup, 1)) (d4 : decode (mC M) (pc + 4) = .ok (.ldc_w 362, 3)) (d7 : decode (mC M) (pc + 7) = .ok (.invokespecial 364, 3)) (d10 : decode (mC M) (pc + 10) = .ok (.athrow, 1)) : V G M pc lv [] μ (.inr "java/util/NoSuchElementException") (μ.1, μ.2.1, μ.2.2.1 + 1, μ.2.2.2 + 6) := by
  refine ⟨⟨Nat.le_succ _, Nat.le_add_right _ _⟩, fun p e R s m args below meth c H locs cells slots ls F hl hP hS h1 h2 => ?_⟩
  have hts := F.2.2.2.2.2.1
  have hgK := F.2.2.2.2.2.2.2.2.2.2.1
  have hgH := F.2.2.2.2.2.2.2.2.2.2.2
  have hexec := F.1
  have hb := F.2.1
  have ho := F.2.2.2.2.1
  have hlocks := F.2.2.2.2.2.2.2.1
  have hfr := F.2.2.2.2.2.2.2.2.1
  have hlo := F.2.2.2.2.2.2.2.2.2.1
  have htab := F.2.2.2.2.2.2.1
  rw [hM] at htab
  rw [hO] at ho
  dsimp only at h1 h2
  obtain ⟨sa, hstr⟩ := hgK.2.2.2.2.1
  intro T hT X
  have htr : e.platform.stackTraces = false := (show e.platform.stackTraces = (gl G).stackTraces by rw [X.admits.platform]).trans hgK.2.1
  have hat : ∀ w ∈ nsA.filter vx_no, w.before args s = true := vx_hat (B := xw) (fun w hw => hts w (List.mem_filter.mpr ⟨xg_NoSuchElementException w hw, (List.mem_filter.mp hw).2⟩)) xn_NoSuchElementException (fun w hw => va_Nw.use (List.all_eq_true.mp xw_tab w hw) (hgK.2.2.1 w hw))
  have hk : (Cond.classLink "TallTowers" 360 nsN).before args s = true := hts _ cl_RX6_360
  have hini : (Cond.initialized nsN).before args s = true := hts _ in_NoSuchElementException
  have Y := vx_rebase X (R' := { frames := R.frames, locals := R.locals, cells := 1, slots := 6 }) (Nat.le_refl _) (Nat.le_refl _) (by show cells + 1 ≤ R.cells; omega) (by show slots + 6 ≤ R.slots; omega)
  obtain ⟨s', hA⟩ : ∃ z, z = (T.setVm s.vm).setFrames (.invoking m args :: below) := ⟨_, rfl⟩
  rw [← hA] at Y
  have hvm : s'.vm = s.vm := by rw [hA]; rfl
  have hhp : s'.heap = H := by rw [hA]; exact hT
  have hW0 : s.WarmedH s'.vm := by rw [hvm]; exact State.WarmedH.refl s
  have hgood := xo_NoSuchElementException
  have hat' : ∀ w ∈ nsA.filter vx_no, w.before args s' = true := fun w hw => vx_ot_at hW0 hvm.symm (hgood w (List.mem_cons_of_mem _ (List.mem_cons_of_mem _ hw))) (hat w hw)
  have hk' : (Cond.classLink "TallTowers" 360 nsN).before args s' = true := vx_ot_at hW0 hvm.symm (hgood _ List.mem_cons_self) hk
  have hini' : (Cond.initialized nsN).before args s' = true := vx_ot_at hW0 hvm.symm (hgood _ (List.mem_cons_of_mem _ List.mem_cons_self)) hini
  have hU' : vx_Zq Bundle.tN "UNASSIGNED_STACK" Bundle.steD (gA G) s' s'.heap := by rw [hhp]; exact vx_Zq.moved hW0.alike (hgH.2.2.2.1.kept hS.2.1)
  have hN' : vx_Zq Bundle.tN "SUPPRESSED_SENTINEL" Bundle.listD (gA G) s' s'.heap := by rw [hhp]; exact vx_Zq.moved hW0.alike (hgH.2.2.2.2.kept hS.2.1)
  have h : ∀ w ∈ nsA, w.before args s' = true := vx_own hat' (vx_isRefq hU'.1) (vx_isRefq hN'.1) hU'.2.word hN'.2.word
  have hown' : s'.vm.findClass "TallTowers" = some m.cls := by rw [hvm]; exact ho
  have hins : (Cond.instantiable nsN 6).before args s' = true := h _ (by simp [nsA])
  obtain ⟨vm₁, cX, kX, hfX, hkX, -, -, X₁, st1⟩ := Y.newCold hexec (own := "TallTowers") (C := nsN) (index := 360) (n := 6) hown' hk' hins hini'
    (g := F0 m pc ls []) rfl (by rw [hb]; exact d0) (Nat.le_refl _) (Nat.le_refl _)
  generalize hT1 : (T.setVm vm₁).pushCell { cls := cX, slots := kX.instanceTypes.map defaultValue, vm := .none } = T1 at X₁ st1
  have hcat : (Value.ref T.heap.size).category = 1 := rfl
  have hcellA : T1.heap[T.heap.size]? = some (freshCell cX kX) := by rw [← hT1]; exact State.heap_pushCell_size _ _
  have d3' : decode c.code (pc + 3) = .ok (.dup, 1) := by rw [hb]; exact d3
  have d4' : decode c.code (pc + 4) = .ok (.ldc_w 362, 3) := by rw [hb]; exact d4
  have hstr' : vk_R "TallTowers" 362 tx0 sa s' := vk_R.warm hW0 hstr
  obtain ⟨U, hsteps, hrun, hend, hW, hsame, ce, hce, hcv, hcl9⟩ := nsCtor X₁ hexec htr hown' h (fun x hx => nomatch hx) hfX hkX hcellA (by rw [hhp, hT]; exact Nat.le_refl _) (msg := .ref sa) rfl
    (g := { method := m, pc := pc + 7, locals := ls, stack := .ref sa :: .ref T.heap.size :: .ref T.heap.size :: [], locked := none }) rfl (hl.1.trans F.2.2.2.1.symm) rfl rfl (rest := []) rfl
    (by rw [hb]; exact d7) (by rw [hb]; exact d10) (fun x hx => by rw [htab] at hx; cases hx) (by show 5 < R.frames; rw [hfr]; exact hf) (by simp only [List.map_cons, List.sum_cons, hcat, List.map_nil, List.sum_nil]; show 2 * 0 + (1 + 0) + (13 * 3 + 42) ≤ R.locals; rw [hlo]; omega) hlocks
  obtain ⟨f1, f2⟩ := vx_frame hsame
  rw [hhp] at f1 f2
  have hWs : s.WarmedH U.vm := State.WarmedH.trans hW0 hW
  have hcl : s.vm.findClass nsN = some ce.cls := by
    rw [hvm] at hcl9
    exact hcl9
  have hall : s.sameButNew ({ U with vm := s.vm } : State) locs R.cells R.slots := by
    subst hA
    obtain ⟨e1, e2⟩ := hsame
    rw [State.setFrames_setFrames] at e1
    have h3 : (T.setVm s.vm).sameButNew ({ U with vm := s.vm } : State) [] (0 + 1) (0 + 6) := ⟨e1, e2⟩
    have h4 := X.same.trans h3
    rw [List.append_nil] at h4
    exact h4.mono (by omega) (by omega)
  have hP9 : va_P (gd G) vwCl (wd G μ) U.heap := hP.kept fun j x hx => f2 x.1 ((hP j x hx).lt) (fun z hz => nomatch hz)
  have hF9 : va_F (gA G) s U := ⟨Nat.le_trans hS.1 f1, fun q g1 g2 => (f2 q (Nat.lt_of_lt_of_le g1 hS.1) (fun z hz => nomatch hz)).trans (hS.2.1 q g1 g2)⟩
  refine ⟨U, ?_, .threw T.heap.size, hrun, hend, Or.inr ⟨T.heap.size, rfl, nsN, ce, locs, ⟨rfl, by rw [show wd G (μ.1, μ.2.1, μ.2.2.1 + 1, μ.2.2.2 + 6) = wd G μ from wd_eq rfl rfl]; exact hP9, hF9⟩, hce, hcv, hcl, hWs, hall, hS.2.2⟩⟩
  refine st1 _ ?_
  show Steps p.tables e below (T1.setTop { method := m, pc := pc + 3, locals := ls, stack := .ref T.heap.size :: [], locked := none }) _
  jvm_step X₁.here [X₁.here.top, hexec, d3', Value.category]
  exact X₁.ldcStringW hexec (own := "TallTowers") (text := tx0) (index := 362) (a := sa) hown' hstr'.1 hstr'.2
    (g := { method := m, pc := pc + 4, locals := ls, stack := .ref T.heap.size :: .ref T.heap.size :: [], locked := none }) rfl d4' _ hsteps
