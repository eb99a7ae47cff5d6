/-! questions that think: reach -/
section
variable {fu n N : Nat} {ev : Nat → Ev} {μ m : Mem} {s : Sp}
/-- what lies below a layer, layer by layer -/
def rB (s : Sp) (l j : Nat) : Int := (if fr s j ≤ fr s l then (hl s j : Int) else 0) + if fr s j < fr s l then cT s 24 j else 0
def rC (s : Sp) (l j : Nat) : Int := if fr s j < fr s l then (hl s j : Int) + cT s 24 j else 0
theorem rB_C {l : Nat} (hl' : l < 40) (h1 : isL s l = 1) (H : IvT s) : sm (fun k => rB s l (rg s (6 * yr s l + k))) (hg s (yr s l)) = sm (fun k => rC s l (rg s (6 * yr s l + k))) (hg s (yr s l)) + (hl s l : Int) := by
  have yy := IvT_yr H hl' h1
  obtain ⟨p, hp, e⟩ := IvT_in H hl' h1
  refine sm_up hp (fun k hk ne => ?_) ?_
  · show rB s l (rg s (6 * yr s l + k)) = rC s l (rg s (6 * yr s l + k))
    unfold rB rC
    rcases Nat.lt_or_ge k p with c | c
    · have q := st_fr H yy c hp
      rw [e] at q
      rw [if_pos (by omega), if_pos q, if_pos q]
    · have q := st_fr H yy (show p < k by omega) hk
      rw [e] at q
      rw [if_neg (by omega), if_neg (by omega), if_neg (by omega)]; rfl
  · show rB s l (rg s (6 * yr s l + p)) = rC s l (rg s (6 * yr s l + p)) + _
    rw [e]
    unfold rB rC
    rw [if_pos (Nat.le_refl _), if_neg (Nat.lt_irrefl _), if_neg (Nat.lt_irrefl _)]; omega
theorem c_below {l : Nat} (hf : 200 < fu) (hl' : l < 40) (h1 : isL s l = 1) (C : RC 3 μ s) (H : Iv N s) : D_X0_roomBelow_0 fu μ 3 (nI l) = some (zL (sm (fun k => rB s l (rg s (6 * yr s l + k))) (hg s (yr s l)))) := by
  have yy := IvT_yr H.T hl' h1
  have h6 := IvT_hg H.T yy
  have f9 := IvT_fr H.T hl' h1
  unfold D_X0_roomBelow_0
  rw [gu_ib hl' (by decide), nI_nat (by omega), show μ.1 (3 + 2) l = nI (yr s l) from K_yr C hl' h1]
  refine eq_for (fun n k => D_X0_roomBelow_15 fu μ 3 n (nI l) (nI (yr s l)) (zL (sm (fun k => rB s l (rg s (6 * yr s l + k))) k)) (nI k)) (hg s (yr s l)) _ ?_ ?_ fu 0 (by omega) (by omega)
  · intro n k hk
    have r4 := IvT_rg H.T yy hk
    have r1 := IvT_ri H.T yy hk
    have g9 := IvT_fr H.T r4 r1
    have g8 := hl_fr H.T r4 r1
    show D_X0_roomBelow_15 fu μ 3 (n + 1) (nI l) (nI (yr s l)) _ (nI k) = _
    rw [D_X0_roomBelow_15, sm_s]
    generalize sm (fun k => rB s l (rg s (6 * yr s l + k))) k = S
    have ct := c_canTake (h := 24) (by decide) (Or.inr rfl) r4 r1 C H
    simp (disch := omega) only [D_X0_roomBelow_77, D_X0_roomBelow_110, Nat.reduceAdd, li0, li1, li2, li3, li4, li5, li6, li7, li8, li9, li10, li12, li24, li31, li40, li160, n_le, n_lt, n_eq, n_m1, n_add, mr4, mr6, mr7, mr10, mr40, mr160, ml4, ml6, ml7, ml10, ml40, ml160, gu_ib, nI_nat, bi_s, vl_e, gu_t, if_true, if_false, reduceIte, bt1_1, bt1_2, bt1_3, bt1_4, bt1_5, bt1_6, bt1_7, bt1_8, bt1_9, bt1_10, bt1_11, bt1_12, bt14_1, bt14_2, bt14_3, bt14_4, bt14_5, bt14_6, bt14_7, bt14_8, bt14_9, bt14_10, bt14_11, bt14_12, K_hg C yy, show D_X5_layerAt_0 μ 4 (nI (yr s l)) (nI k) = some (nI (rg s (6 * yr s l + k))) from c_layerAt yy hk C H, show D_X5_widthBelow_0 μ 4 (nI (yr s l)) (nI k) = some (nI (hl s (rg s (6 * yr s l + k)))) from c_width yy hk C H, K_fr C hl' h1, K_fr C r4 r1, n_L, z_add, ct]
    rw [if_neg (by omega)]
    unfold rB
    by_cases c1 : fr s l < fr s (rg s (6 * yr s l + k))
    · rw [if_pos c1, if_pos (by omega), if_neg (by omega), if_neg (by omega), Int.add_zero, Int.add_zero]
    · rw [if_neg c1, if_pos (show fr s (rg s (6 * yr s l + k)) ≤ fr s l by omega)]
      by_cases c2 : fr s l ≤ fr s (rg s (6 * yr s l + k))
      · rw [if_pos c2, if_neg (by omega), Int.add_zero]
      · rw [if_neg c2, if_pos (by omega), Int.add_assoc]
  · intro n
    show D_X0_roomBelow_15 fu μ 3 (n + 1) (nI l) (nI (yr s l)) _ (nI (hg s (yr s l))) = _
    rw [D_X0_roomBelow_15]
    simp (disch := omega) only [Nat.reduceAdd, li0, li1, li2, li3, li4, li5, li6, li7, li8, li9, li10, li12, li24, li31, li40, li160, n_le, n_lt, n_eq, n_m1, n_add, mr4, mr6, mr7, mr10, mr40, mr160, ml4, ml6, ml7, ml10, ml40, ml160, gu_ib, nI_nat, bi_s, vl_e, gu_t, if_true, if_false, reduceIte, bt1_1, bt1_2, bt1_3, bt1_4, bt1_5, bt1_6, bt1_7, bt1_8, bt1_9, bt1_10, bt1_11, bt1_12, bt14_1, bt14_2, bt14_3, bt14_4, bt14_5, bt14_6, bt14_7, bt14_8, bt14_9, bt14_10, bt14_11, bt14_12, K_hg C yy]
    rw [if_pos (by omega)]
theorem m_below {l : Nat} {z : Int} (hf : 200 < fu) (hl' : l < 40) (h1 : isL s l = 1) (R : RM m s) (H : Iv N s) : D_X7_reach_48 fu fu (nI l) (zL z) 0 m = some (zL (z + sm (fun k => rC s l (rg s (6 * yr s l + k))) (hg s (yr s l))), m) := by
  have yy := IvT_yr H.T hl' h1
  have f9 := IvT_fr H.T hl' h1
  rw [← sm_yr H.T yy]
  have K := eq_for (fun n j => D_X7_reach_48 fu n (nI l) (zL (z + sm (fun j => if isL s j = 1 ∧ yr s j = yr s l then rC s l j else 0) j)) (nI j) m) 40 (some (zL (z + sm (fun j => if isL s j = 1 ∧ yr s j = yr s l then rC s l j else 0) 40), m)) ?_ ?_ fu 0 (by omega) (by omega)
  · rw [show z + sm (fun j => if isL s j = 1 ∧ yr s j = yr s l then rC s l j else 0) 0 = z from Int.add_zero z] at K
    exact K
  · intro n j hj
    show D_X7_reach_48 fu (n + 1) (nI l) (zL (z + sm (fun j => if isL s j = 1 ∧ yr s j = yr s l then rC s l j else 0) j)) (nI j) m = D_X7_reach_48 fu n (nI l) (zL (z + sm (fun j => if isL s j = 1 ∧ yr s j = yr s l then rC s l j else 0) (j + 1))) (nI (j + 1)) m
    rw [D_X7_reach_48, sm_s]
    generalize sm (fun j => if isL s j = 1 ∧ yr s j = yr s l then rC s l j else 0) j = S
    simp (disch := omega) only [D_X7_reach_106, D_X7_reach_107, D_X7_holeOf_0, li0, li1, li2, li3, li4, li5, li6, li7, li8, li9, li10, li12, li24, li31, li40, li160, n_le, n_lt, n_eq, n_m1, n_add, mr4, mr6, mr7, mr10, mr40, mr160, ml4, ml6, ml7, ml10, ml40, ml160, gu_ib, nI_nat, bi_s, vl_e, gu_t, if_true, if_false, reduceIte, bt1_1, bt1_2, bt1_3, bt1_4, bt1_5, bt1_6, bt1_7, bt1_8, bt1_9, bt1_10, bt1_11, bt1_12, bt14_1, bt14_2, bt14_3, bt14_4, bt14_5, bt14_6, bt14_7, bt14_8, bt14_9, bt14_10, bt14_11, bt14_12, ll0, ll1, ll2, ll10, ll2e9, M_yr R hl' h1, m_isIn hj yy R.a H.T, M_fr R hl' h1, z_add]
    rw [if_neg (by omega)]
    by_cases q : isL s j = 1 ∧ yr s j = yr s l
    · have b1 := IvT_sz H.T hj q.1
      have b2 := IvT_fr H.T hj q.1
      have b3 := hl_fr H.T hj q.1
      have b4 := lf_b hj q.1 H
      have b5 := IvH_tk H.H (show 24 < 25 by decide) hj
      have b6 := IvH_ul H.H hj q.1
      have b7 := IvT_tm H.T hj q.1
      have b8 : (sz s j : Int) * (tm s j : Int) ≤ 100000000 * 4 := Int.mul_le_mul (by omega) (by omega) (by omega) (by omega)
      have ct : D_X7_canTake_0 m (nI 24) (nI j) = some (zL (cT s 24 j)) := m_canT (h := 24) (by decide) hj q.1 R.a H.T (M_us R hj) (M_tk R (by omega)) b4.2.2 (by omega) b5.1 (by omega)
      rw [if_pos (decide_eq_true q), if_pos q, M_fr R hj q.1, M_hl R hj q.1, ct, bi_s, n_L (by omega), z_add]
      simp (disch := omega) only [n_le]
      unfold rC
      by_cases c : fr s l ≤ fr s j
      · rw [if_pos c, if_neg (by omega), Int.add_assoc]
      · rw [if_neg c, if_pos (by omega), z_add, Int.add_assoc]
    · rw [if_neg (by simp [q]), if_neg q, Int.add_assoc]
  · intro n
    show D_X7_reach_48 fu (n + 1) (nI l) _ (nI 40) m = _
    rw [D_X7_reach_48]
    simp (disch := omega) only [li0, li1, li2, li3, li4, li5, li6, li7, li8, li9, li10, li12, li24, li31, li40, li160, n_le, n_lt, n_eq, n_m1, n_add, mr4, mr6, mr7, mr10, mr40, mr160, ml4, ml6, ml7, ml10, ml40, ml160, gu_ib, nI_nat, bi_s, vl_e, gu_t, if_true, if_false, reduceIte, bt1_1, bt1_2, bt1_3, bt1_4, bt1_5, bt1_6, bt1_7, bt1_8, bt1_9, bt1_10, bt1_11, bt1_12, bt14_1, bt14_2, bt14_3, bt14_4, bt14_5, bt14_6, bt14_7, bt14_8, bt14_9, bt14_10, bt14_11, bt14_12]
    rw [if_pos (by omega)]
theorem q_reach (hf : 200 < fu) (G : EG ev n) (V : LV ev n) (C : CI ev n μ) (a1 : Int32) : QQ ev n (kd 1 0 0) μ (D_X6_reach_0 fu a1 μ) (D_X7_reach_0 fu a1) := by
  have T := (run_CT G V n (Nat.le_refl _)).1
  have H := run_Iv G
  have t40 := T.2.2.1
  cases q1 : iB a1 (cL (run ev n)) with
  | false =>
    refine QQ_r (.inr 0) 0 C (ho_r (by decide)) ?_ fun x m e D h0 => ?_
    · simp only [D_X6_reach_0, c_isL C.r, q1, li0, li1, li2, li3, li4, li5, li6, li7, li8, li9, li10, li12, li24, li31, li40, li160, n_le, n_lt, n_eq, n_m1, n_add, mr4, mr6, mr7, mr10, mr40, mr160, ml4, ml6, ml7, ml10, ml40, ml160, gu_ib, nI_nat, bi_s, vl_e, gu_t, if_true, if_false, reduceIte, bt1_1, bt1_2, bt1_3, bt1_4, bt1_5, bt1_6, bt1_7, bt1_8, bt1_9, bt1_10, bt1_11, bt1_12, bt14_1, bt14_2, bt14_3, bt14_4, bt14_5, bt14_6, bt14_7, bt14_8, bt14_9, bt14_10, bt14_11, bt14_12, Nat.reduceLeDiff, Nat.reduceEqDiff, Nat.reduceLT, eq_self, Nat.le_refl, Nat.le_zero_eq, Nat.not_lt_zero, b2_f, c_tf, tx_r, cAn]
    · have dd := m_isL (d := 1) D.r T H h0 a1 (by decide) (by decide)
      simp only [D_X7_reach_0, e, li0, li1, li2, li3, li4, li5, li6, li7, li8, li9, li10, li12, li24, li31, li40, li160, n_le, n_lt, n_eq, n_m1, n_add, mr4, mr6, mr7, mr10, mr40, mr160, ml4, ml6, ml7, ml10, ml40, ml160, gu_ib, nI_nat, bi_s, vl_e, gu_t, if_true, if_false, reduceIte, bt1_1, bt1_2, bt1_3, bt1_4, bt1_5, bt1_6, bt1_7, bt1_8, bt1_9, bt1_10, bt1_11, bt1_12, bt14_1, bt14_2, bt14_3, bt14_4, bt14_5, bt14_6, bt14_7, bt14_8, bt14_9, bt14_10, bt14_11, bt14_12, Nat.reduceLeDiff, Nat.reduceEqDiff, Nat.reduceLT, eq_self, Nat.le_refl, Nat.le_zero_eq, Nat.not_lt_zero, dd, q1, Bool.false_eq_true, mAn, kd]
  | true =>
    obtain ⟨l, rfl, hh⟩ := iB_n (by omega) q1
    have h1 := (T.1 l (by omega)).mpr hh
    have l40 : l < 40 := by omega
    have b := lf_b l40 h1 H
    have b9 := IvT_fr H.T l40 h1
    have b8 := hl_fr H.T l40 h1
    have up : D_X5_isUsedUp_0 μ 4 (nI l) = some (decide (lf (run ev n) l = 0)) := c_isUsedUp l40 h1 C.r H
    have cb := c_below hf l40 h1 C.r H
    rw [rB_C l40 h1 H.T] at cb
    have cc : D_X6_reach_0 fu (nI l) μ = if lf (run ev n) l = 0 then some (.inl (-1), μ) else some (.inl (zL (sm (fun k => rC (run ev n) l (rg (run ev n) (6 * yr (run ev n) l + k))) (hg (run ev n) (yr (run ev n) l)) + (hl (run ev n) l : Int)) + 1), μ) := by
      simp only [D_X6_reach_0, c_isL C.r, q1, b2_t, c_tt, tx_l, bi_s, up, cb, decide_eq_true_eq]
    have mm : ∀ x m, wI x 85 0 (nI 0) = m → MI ev n m → m.1 85 0 = nI 0 → D_X7_reach_0 fu (nI l) x = if zL (lf (run ev n) l) = 0 then some (-1, m) else (D_X7_clearsHarm_0 fu (nI 24) m).bind fun x7 => (D_X7_holeOf_0 x7 (nI l)).bind fun x9 => D_X7_reach_48 fu fu (nI l) (x9.toInt64 + 1) 0 x7 := fun x m e D h0 => by
      have dd := m_isL (d := 1) D.r T H h0 (nI l) (by decide) (by decide)
      simp only [D_X7_reach_0, e, li0, li1, li24, vl_e, dd, q1, bi_s, reduceIte, show D_X7_left_0 m (nI l) = some (zL (lf (run ev n) l)) from m_leftU l40 h1 D.r.a H.T (M_us D.r l40)]
    by_cases z : lf (run ev n) l = 0
    · refine QQ_r (.inl (-1)) 0 C ho_l ?_ fun x m e D h0 => ?_
      · rw [cc, if_pos z]; rfl
      · rw [mm x m e D h0, if_pos (by rw [z]; rfl)]; rfl
    · refine QQ_t (zL (sm (fun k => rC (run ev n) l (rg (run ev n) (6 * yr (run ev n) l + k))) (hg (run ev n) (yr (run ev n) l)) + (hl (run ev n) l : Int)) + 1) C μ ?_ Fr.rfl' fun x m e D h0 => ?_
      · rw [cc, if_neg z]
      · obtain ⟨x7, e7, F7, R7⟩ := ok_eq (m_clr24 hf D.r H)
        refine ⟨x7, ?_, MI_t D h0 (F7.mo fun q z => by omega) R7⟩
        rw [mm x m e D h0, if_neg (fun y => z (by have y' : zL (lf (run ev n) l) = zL 0 := y; rwa [z_eq (by omega) (by omega) (by omega) (by omega)] at y')), e7, bi_s]
        unfold D_X7_holeOf_0
        rw [gu_ib l40 (by decide), nI_nat (by omega), M_hl R7 l40 h1, bi_s, n_L (by omega), show zL (hl (run ev n) l : Int) + 1 = zL ((hl (run ev n) l : Int) + 1) from z_add _ 1, m_below hf l40 h1 R7 H, show ∀ t : Int, zL t + 1 = zL (t + 1) from fun t => z_add t 1]
        exact congrArg (fun t => some (zL t, x7)) (by omega)
end
