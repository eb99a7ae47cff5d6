/-! back -/
section
variable {fu n k c N M : Nat} {ev : Nat → Ev} {μ m : Mem} {s t : Sp}
theorem EG_le (h : k ≤ n) (G : EG ev n) : EG ev k := ⟨by have := G.1; omega, fun j hj => G.2.1 j (by omega), fun i j hi hj => G.2.2 i j (by omega) (by omega)⟩
theorem LV_le (h : k ≤ n) (V : LV ev n) : LV ev k := fun j hj => V j (by omega)
theorem c_back (hf : 200 < fu) (G : EG ev (k + 1)) (C : CI ev (k + 1) μ) : Ok (D_X6_back_0 fu μ) (fun r => r.1 = nI k ∧ CI ev k r.2 ∧ Fr (fun q => q ≤ 83) μ r.2) := by
  have n160 := G.1
  have G' := EG_le (show k ≤ k + 1 by omega) G
  unfold D_X6_back_0
  rw [C.n, if_pos (show (0 : Int32) < nI (k + 1) by rw [li0, n_lt (by omega) (by omega)]; omega), show nI (k + 1) - 1 = nI k from (Int32.sub_eq_add_neg _ _).trans (n_dec (by omega)), vl_e]
  generalize e1 : wI μ 1 1 (nI k) = m1
  have F1 : Fr (fun q => q = 1) μ m1 := by rw [← e1]; exact Fr.wI Fr.rfl' rfl
  have n1 : m1.1 1 1 = nI k := by rw [← e1]; exact wI_e
  have L1 : ∀ j, j < k → LG m1 j (ev j) := fun j hj => LG_F F1 (by omega) (C.g j (by omega))
  refine Ok.b (c_clear (b := 3) hf (by decide) (RC_24 (RC_Fr F1 (fun q z => by omega) C.r) (run_Iv G))) fun x p => ?_
  refine Ok.for (fun q j x => D_X6_back_34 fu q (nI j) x) k (fun j x => CS ev k 3 m1 x (run ev j) j (fun i => i < j)) ?_ ?_ fu 0 x (by omega) (by omega) (by
    obtain ⟨a, b, c, d⟩ := cs_0 (ev := ev) (n := k) p
    exact ⟨a, b, c, DS_mo (fun i _ z => absurd z not_false) d⟩)
  · intro q j x hj S kk
    have cn : x.1 1 1 = nI k := by rw [S.1.I (by unfold AB; omega)]; exact n1
    rw [D_X6_back_34, cn, if_neg (show ¬ nI k ≤ nI j by rw [n_le (by omega) (by omega)]; omega)]
    refine Ok.b (cs_step hf (by decide) (by decide) G' L1 hj (by omega) (by omega) S) fun r p => ?_
    rw [nk1]
    refine kk _ ?_
    rw [run_s]
    exact ⟨p.2.1, p.2.2.1, p.2.2.2.1, DS_mo (fun i _ z => by omega) p.2.2.2.2⟩
  · intro q x S
    have cn : x.1 1 1 = nI k := by rw [S.1.I (by unfold AB; omega)]; exact n1
    rw [D_X6_back_34, cn, if_pos (show nI k ≤ nI k by rw [n_le (by omega) (by omega)]; exact Nat.le_refl _)]
    refine Ok.s ⟨rfl, ⟨fun j hj => LG_F S.1 (by unfold AB; omega) (L1 j hj), cn, S.2.1, ?_⟩, Fr.tr (F1.mo fun q z => by omega) (S.1.mo fun q z => by unfold AB at z; omega)⟩
    obtain ⟨t, M, rt, it⟩ := C.t
    exact ⟨t, M, RC_Fr S.1 (fun q z => by unfold AB at z; omega) (RC_Fr F1 (fun q z => by omega) rt), it⟩
theorem m_bck {x : Mem} (hf : 200 < fu) (G : EG ev (k + 1)) (D : MI ev (k + 1) x) : Ok (D_X7_back_0 fu x) (fun r => r.1 = nI k ∧ MI ev k r.2 ∧ Fr AG x r.2) := by
  have n160 := G.1
  have G' := EG_le (show k ≤ k + 1 by omega) G
  unfold D_X7_back_0
  rw [vl_e]
  have n1 : (wI x 85 0 0).1 85 5 = nI (k + 1) := by rw [wI_s, if_neg (by decide)]; exact D.n
  rw [n1, if_neg (show ¬ nI (k + 1) = 0 by rw [li0, n_eq (by omega) (by omega)]; omega), show nI (k + 1) - 1 = nI k from (Int32.sub_eq_add_neg _ _).trans (n_dec (by omega)), vl_e]
  generalize e1 : wI (wI x 85 0 0) 85 5 (nI k) = m3
  have F1 : Fr (fun q => q = 85) x m3 := by rw [← e1]; exact Fr.wI (A := fun q => q = 85) (Fr.wI (A := fun q => q = 85) Fr.rfl' rfl) rfl
  have e85 : ∀ j, m3.1 85 j = if j = 5 then nI k else if j = 0 then 0 else x.1 85 j := fun j => by rw [← e1, wI_s, wI_s]
  have L1 : ∀ j, j < k → MG m3 j (ev j) := fun j hj => MG_F F1 (fun q z => by omega) (D.g j (by omega))
  refine Ok.b (m_over hf G' L1 (by rw [e85, if_pos rfl]) (by rw [e85, if_neg (by decide), if_neg (by decide)]; exact D.o)) fun y p => ?_
  obtain ⟨F2, E2, R2, -, -⟩ := p
  have y5 : y.1 85 5 = nI k := by rw [E2 5 (by decide) (by decide), e85, if_pos rfl]
  refine Ok.s ⟨y5, ⟨fun j hj => MG_F F2 (fun q z => by unfold AG at z; omega) (L1 j hj), y5, R2, ?_⟩, Fr.tr (F1.mo fun q z => Or.inl z) F2⟩
  rw [E2 48 (by decide) (by decide), e85, if_neg (by decide), if_neg (by decide)]; exact D.o
theorem l_back (hf : 200 < fu) (I : IX ev n c μ) : ∃ v x m, D_X6_back_0 fu μ = some (v, x) ∧ D_X7_back_0 fu x = some (v, m) ∧ ∃ ev n, IX ev n (c + 1) m := by
  rcases n with _ | k
  · have J := IX_w I
    obtain ⟨G, V, C, D, -⟩ := I
    refine ⟨-1, μ, _, ?_, ?_, ev, 0, J⟩
    · unfold D_X6_back_0
      rw [C.n, if_neg (by decide)]
    · unfold D_X7_back_0
      rw [vl_e, show (wI μ 85 0 0).1 85 5 = nI 0 from by rw [wI_s, if_neg (by decide)]; exact D.n, if_pos (show nI 0 = 0 from rfl)]
      rfl
  · obtain ⟨G, V, C, D, R, b1, b2⟩ := I
    obtain ⟨⟨v, x⟩, ex, v1, C', F⟩ := ok_eq (c_back hf G C)
    have v1' : v = nI k := v1
    subst v1'
    have Dx : MI ev (k + 1) x := MI_x (μ := μ) ⟨fun q p1 p2 => F.1 q (by omega), fun j p1 p2 => by rw [F.I (by omega)]⟩ D
    obtain ⟨⟨w, y⟩, ey, w1, D', F2⟩ := ok_eq (m_bck hf G Dx)
    have w1' : w = nI k := w1
    subst w1'
    refine ⟨nI k, x, y, ex, ey, ev, k, EG_le (by omega) G, LV_le (by omega) V, CI_x (μ := x) (fun q p1 p2 => F2.1 q (by unfold AG; omega)) C', D', fun j hj => ?_, ?_, ?_⟩
    · rw [F2.I (by unfold AG; omega), F2.I (by unfold AG; omega), F.I (by omega), F.I (by omega)]; exact R j hj
    · rw [F2.2, F.2]; omega
    · rw [F2.2, F.2]; omega
end
