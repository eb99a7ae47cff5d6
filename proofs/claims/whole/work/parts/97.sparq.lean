/-! questions that go over: spared -/
section
variable {fu n N M b : Nat} {ev : Nat → Ev} {μ m : Mem} {s t : Sp} {P : Nat → Prop}
theorem c_fStep {c v k q : Nat} (G : EG ev n) (C : CI ev n μ) (hc : c ≤ 8) (hv : v < 100) (hb : ∀ k, k < n → ev k 0 = c → ev k 1 < 100) (hk : k < n) : D_X2_find_2 fu μ (q + 1) (nI c) (nI v) (nI k) = if ev k 0 = c ∧ ev k 1 = v then some (nI k) else D_X2_find_2 fu μ q (nI c) (nI v) (nI (k + 1)) := by
  have n160 := G.1
  have e8 := (G.2.1 k hk).k
  have r0 : D_X2_read_0 μ (nI k) (nI 0) = some (nI (ev k 0)) := c_read (by omega) (by decide) (C.g k hk)
  have r1 : D_X2_read_0 μ (nI k) (nI 1) = some (nI (ev k 1)) := c_read (by omega) (by decide) (C.g k hk)
  simp (disch := omega) only [D_X2_find_2, D_X2_find_32, li0, li1, li2, li3, li4, li5, li6, li7, li8, li9, li10, li12, li24, li31, li40, li160, n_le, n_lt, n_eq, n_m1, n_add, mr4, mr6, mr7, mr10, mr40, mr160, ml4, ml6, ml7, ml10, ml40, ml160, gu_ib, nI_nat, bi_s, vl_e, gu_t, if_true, if_false, reduceIte, bt1_1, bt1_2, bt1_3, bt1_4, bt1_5, bt1_6, bt1_7, bt1_8, bt1_9, bt1_10, bt1_11, bt1_12, bt14_1, bt14_2, bt14_3, bt14_4, bt14_5, bt14_6, bt14_7, bt14_8, bt14_9, bt14_10, bt14_11, bt14_12, C.n, r0, r1]
  rw [if_neg (by omega)]
  by_cases q1 : ev k 0 = c
  · have := hb k hk q1
    rw [if_pos q1]
    simp (disch := omega) only [n_eq]
    by_cases q2 : ev k 1 = v
    · rw [if_pos q2, if_pos ⟨q1, q2⟩]
    · rw [if_neg q2, if_neg (fun z => q2 z.2)]
  · rw [if_neg q1, if_neg (fun z => q1 z.1)]
theorem c_find {c v j : Nat} (hf : 200 < fu) (G : EG ev n) (C : CI ev n μ) (hc : c ≤ 8) (hv : v < 100) (hb : ∀ k, k < n → ev k 0 = c → ev k 1 < 100) (hj : j < n) (h1 : ev j 0 = c ∧ ev j 1 = v) (h2 : ∀ k, k < n → ev k 0 = c → ev k 1 = v → k = j) : D_X2_find_0 fu μ (nI c) (nI v) = some (nI j) := by
  have n160 := G.1
  unfold D_X2_find_0
  refine eq_for (fun q k => D_X2_find_2 fu μ q (nI c) (nI v) (nI k)) j _ ?_ ?_ fu 0 (by omega) (by omega)
  · intro q k hk
    show D_X2_find_2 fu μ (q + 1) (nI c) (nI v) (nI k) = D_X2_find_2 fu μ q (nI c) (nI v) (nI (k + 1))
    rw [c_fStep G C hc hv hb (by omega), if_neg (fun z => by have := h2 k (by omega) z.1 z.2; omega)]
  · intro q
    show D_X2_find_2 fu μ (q + 1) (nI c) (nI v) (nI j) = _
    rw [c_fStep G C hc hv hb hj, if_pos h1]
theorem c_find0 {c v : Nat} (hf : 200 < fu) (G : EG ev n) (C : CI ev n μ) (hc : c ≤ 8) (hv : v < 100) (hb : ∀ k, k < n → ev k 0 = c → ev k 1 < 100) (h2 : ∀ k, k < n → ¬ (ev k 0 = c ∧ ev k 1 = v)) : D_X2_find_0 fu μ (nI c) (nI v) = some (-1) := by
  have n160 := G.1
  unfold D_X2_find_0
  refine eq_for (fun q k => D_X2_find_2 fu μ q (nI c) (nI v) (nI k)) n _ ?_ ?_ fu 0 (by omega) (by omega)
  · intro q k hk
    show D_X2_find_2 fu μ (q + 1) (nI c) (nI v) (nI k) = D_X2_find_2 fu μ q (nI c) (nI v) (nI (k + 1))
    rw [c_fStep G C hc hv hb hk, if_neg (h2 k hk)]
  · intro q
    show D_X2_find_2 fu μ (q + 1) (nI c) (nI v) (nI n) = _
    rw [D_X2_find_2, C.n, if_pos (show nI n ≤ nI n by rw [n_le (by omega) (by omega)]; omega)]
theorem m_sp57 {i j : Nat} {z : Int64} (hf : 200 < fu) (G : EG ev n) (D : MI ev n m) (hi : i < 10) (hj : j < n) (h1 : ev j 0 = 6 ∧ ev j 1 = i) (h2 : ∀ k, k < n → ev k 0 = 6 → ev k 1 = i → k = j) : D_X7_spared_57 fu fu (nI i) z (-1) 0 m = (D_X7_goesWithout_0 fu (nI j) m).bind fun x13 => (D_X7_behind_0 fu (nI i) x13).bind fun x15 => some (x15.1 - z, x15.2) := by
  have n160 := G.1
  have K := eq_for (fun q k => D_X7_spared_57 fu q (nI i) z (if j < k then nI j else -1) (nI k) m) n ((D_X7_goesWithout_0 fu (nI j) m).bind fun x13 => (D_X7_behind_0 fu (nI i) x13).bind fun x15 => some (x15.1 - z, x15.2)) ?_ ?_ fu 0 (by omega) (by omega)
  · exact K
  · intro q k hk
    have e8 := (G.2.1 k hk).k
    have g := D.g k hk
    show D_X7_spared_57 fu (q + 1) (nI i) z (if j < k then nI j else -1) (nI k) m = D_X7_spared_57 fu q (nI i) z (if j < k + 1 then nI j else -1) (nI (k + 1)) m
    generalize ew : (if j < k then nI j else -1) = w
    rw [D_X7_spared_57]
    simp (disch := omega) only [D_X7_spared_94, D_X7_spared_96, li0, li1, li2, li3, li4, li5, li6, li7, li8, li9, li10, li12, li24, li31, li40, li160, n_le, n_lt, n_eq, n_m1, n_add, mr4, mr6, mr7, mr10, mr40, mr160, ml4, ml6, ml7, ml10, ml40, ml160, gu_ib, nI_nat, bi_s, vl_e, gu_t, if_true, if_false, reduceIte, bt1_1, bt1_2, bt1_3, bt1_4, bt1_5, bt1_6, bt1_7, bt1_8, bt1_9, bt1_10, bt1_11, bt1_12, bt14_1, bt14_2, bt14_3, bt14_4, bt14_5, bt14_6, bt14_7, bt14_8, bt14_9, bt14_10, bt14_11, bt14_12, D.n, g.1]
    rw [if_neg (by omega)]
    have keep : k ≠ j → w = if j < k + 1 then nI j else -1 := fun ne => by
      rw [← ew]
      by_cases c : j < k
      · rw [if_pos c, if_pos (by omega)]
      · rw [if_neg c, if_neg (by omega)]
    by_cases q1 : ev k 0 = 6
    · have k6 := (G.2.1 k hk).k6 q1
      rw [if_pos q1, show D_X7_tell_0 m (nI k) (nI 0) = some (nI (ev k 1)) from m_tell1 (j := 0) (by omega) (by decide) (by omega) g, bi_s]
      simp (disch := omega) only [n_eq]
      by_cases q2 : ev k 1 = i
      · have e := h2 k hk q1 q2
        rw [if_pos q2, if_pos (by omega), e]
      · rw [if_neg q2, keep (fun e => q2 (by rw [e]; exact h1.2))]; rfl
    · rw [if_neg q1, keep (fun e => q1 (by rw [e]; exact h1.1))]; rfl
  · intro q
    show D_X7_spared_57 fu (q + 1) (nI i) z (if j < n then nI j else -1) (nI n) m = _
    rw [if_pos hj, D_X7_spared_57, D.n, if_pos (show nI n ≤ nI n by rw [n_le (by omega) (by omega)]; omega)]
theorem q_spared (hf : 200 < fu) (G : EG ev n) (V : LV ev n) (C : CI ev n μ) (a1 : Int32) : QQ ev n (kd 0 1 0) μ (D_X6_spared_0 fu a1 μ) (D_X7_spared_0 fu a1) := by
  have n160 := G.1
  have H := run_Iv G
  cases q1 : inC a1 (nI 1) (nI 9) with
  | false =>
    have w1 := fun m => mWq q1 (L := 1) (H := 9) rfl rfl m
    refine QQ_r (.inr 1) 0 C (ho_r (by decide)) ?_ fun x m e D h0 => ?_
    · simp only [D_X6_spared_0, D_X6_isOutsider_0, wC, q1, li0, li1, li2, li3, li4, li5, li6, li7, li8, li9, li10, li12, li24, li31, li40, li160, n_le, n_lt, n_eq, n_m1, n_add, mr4, mr6, mr7, mr10, mr40, mr160, ml4, ml6, ml7, ml10, ml40, ml160, gu_ib, nI_nat, bi_s, vl_e, gu_t, if_true, if_false, reduceIte, bt1_1, bt1_2, bt1_3, bt1_4, bt1_5, bt1_6, bt1_7, bt1_8, bt1_9, bt1_10, bt1_11, bt1_12, bt14_1, bt14_2, bt14_3, bt14_4, bt14_5, bt14_6, bt14_7, bt14_8, bt14_9, bt14_10, bt14_11, bt14_12, Nat.reduceLeDiff, Nat.reduceEqDiff, Nat.reduceLT, eq_self, Nat.le_refl, Nat.le_zero_eq, Nat.not_lt_zero, b2_f, c_rf, tx_r, cAn]
    · have nf := m_nf (k := 1) (j := 1) h0 (by decide) (by decide) (by decide)
      simp only [D_X7_spared_0, e, li0, li1, li2, li3, li4, li5, li6, li7, li8, li9, li10, li12, li24, li31, li40, li160, n_le, n_lt, n_eq, n_m1, n_add, mr4, mr6, mr7, mr10, mr40, mr160, ml4, ml6, ml7, ml10, ml40, ml160, gu_ib, nI_nat, bi_s, vl_e, gu_t, if_true, if_false, reduceIte, bt1_1, bt1_2, bt1_3, bt1_4, bt1_5, bt1_6, bt1_7, bt1_8, bt1_9, bt1_10, bt1_11, bt1_12, bt14_1, bt14_2, bt14_3, bt14_4, bt14_5, bt14_6, bt14_7, bt14_8, bt14_9, bt14_10, bt14_11, bt14_12, Nat.reduceLeDiff, Nat.reduceEqDiff, Nat.reduceLT, eq_self, Nat.le_refl, Nat.le_zero_eq, Nat.not_lt_zero, w1, b2_f, nf, Bool.false_eq_true, mAn, kd]
  | true =>
    have w1 := fun m => mWq q1 (L := 1) (H := 9) rfl rfl m
    obtain ⟨i, rfl, il, hi⟩ := inC_n (by decide) (by decide) q1
    have s2 := IvR_sd H.R (show i < 10 by omega)
    have c9 := IvR_cs H.R (show i < 10 by omega)
    have hb : ∀ k, k < n → ev k 0 = 6 → ev k 1 < 100 := fun k hk h => by have := (G.2.1 k hk).k6 h; omega
    obtain ⟨y1, y2⟩ := run_sd (i := i) G V n (Nat.le_refl _)
    by_cases z : sd (run ev n) i = 1
    · obtain ⟨j, hj, h6, hi', uq⟩ := y1 z
      have fd := c_find hf G C (by decide) (show i < 100 by omega) hb hj ⟨h6, hi'⟩ uq
      obtain ⟨⟨v, x⟩, ex, -, S⟩ := ok_eq (c_without (b := j) hf (by omega) G C.g C.n C.t)
      have CX := CI_32 S C
      have cb : D_X1_borneInAll_0 fu x 46 (nI i) = some (zL (bA (rF ev (fun k => decide (k ≠ j)) sp0 n) i)) := c_borneAll hf (by omega) S.2.1 S.2.2.1
      have cl : D_X1_borneInAll_0 fu x 17 (nI i) = some (zL (bA (run ev n) i)) := c_borneAll hf (by omega) CX.1.r H
      have kx : x.1 31 i = nI (cs (run ev n) i) := K_cs CX.1.r (by omega)
      have nc : (nI (cs (run ev n) i)).toInt64 = zL (cs (run ev n) i : Int) := n_L (by omega)
      have jm : (nI j = -nI 1) = False := n_m1 (show j < 2147483648 by omega)
      refine QQ_g (zL (bA (rF ev (fun k => decide (k ≠ j)) sp0 n) i - (bA (run ev n) i + (cs (run ev n) i : Int)))) x ?_ CX fun y m e D h0 => ?_
      · simp (disch := omega) only [D_X6_spared_0, D_X6_isOutsider_0, wC, q1, li0, li1, li2, li3, li4, li5, li6, li7, li8, li9, li10, li12, li24, li31, li40, li160, n_le, n_lt, n_eq, n_m1, n_add, mr4, mr6, mr7, mr10, mr40, mr160, ml4, ml6, ml7, ml10, ml40, ml160, gu_ib, nI_nat, bi_s, vl_e, gu_t, if_true, if_false, reduceIte, bt1_1, bt1_2, bt1_3, bt1_4, bt1_5, bt1_6, bt1_7, bt1_8, bt1_9, bt1_10, bt1_11, bt1_12, bt14_1, bt14_2, bt14_3, bt14_4, bt14_5, bt14_6, bt14_7, bt14_8, bt14_9, bt14_10, bt14_11, bt14_12, Nat.reduceLeDiff, Nat.reduceEqDiff, Nat.reduceLT, eq_self, Nat.le_refl, Nat.le_zero_eq, Nat.not_lt_zero, b2_t, c_rt, tx_l, fd, jm, ex, cb, cl, kx, nc, z_sub]
        rw [Int.sub_sub]
      · obtain ⟨x1, e1, v1, F1, E1, R1, H1, -⟩ := ok_eq (m_without (b := j) hf (by omega) G D.g D.n D.o)
        obtain ⟨y2, e2, p⟩ := m_behind (i := i) hf (by omega) G D h0 F1 E1 R1 H1
        refine ⟨y2, ?_, p⟩
        have k57 := m_sp57 (z := zL (bA (run ev n) i + (cs (run ev n) i : Int))) hf G D (show i < 10 by omega) hj ⟨h6, hi'⟩ uq
        rw [e1, bi_s, e2, bi_s, z_sub] at k57
        simp (disch := omega) only [D_X7_spared_0, e, li0, li1, li2, li3, li4, li5, li6, li7, li8, li9, li10, li12, li24, li31, li40, li160, n_le, n_lt, n_eq, n_m1, n_add, mr4, mr6, mr7, mr10, mr40, mr160, ml4, ml6, ml7, ml10, ml40, ml160, gu_ib, nI_nat, bi_s, vl_e, gu_t, if_true, if_false, reduceIte, bt1_1, bt1_2, bt1_3, bt1_4, bt1_5, bt1_6, bt1_7, bt1_8, bt1_9, bt1_10, bt1_11, bt1_12, bt14_1, bt14_2, bt14_3, bt14_4, bt14_5, bt14_6, bt14_7, bt14_8, bt14_9, bt14_10, bt14_11, bt14_12, Nat.reduceLeDiff, Nat.reduceEqDiff, Nat.reduceLT, eq_self, Nat.le_refl, Nat.le_zero_eq, Nat.not_lt_zero, w1, b2_t, m_nt h0, M_sd D.r (show i < 10 by omega), z, m_bearsAll hf (show i < 10 by omega) D.r H, M_cs D.r (show i < 10 by omega), nc, z_add]
        exact k57
    · have fd := c_find0 hf G C (by decide) (show i < 100 by omega) hb (y2 z)
      refine QQ_r (.inl 0) 0 C ho_l ?_ fun x m e D h0 => ?_
      · simp only [D_X6_spared_0, D_X6_isOutsider_0, wC, q1, li0, li1, li2, li3, li4, li5, li6, li7, li8, li9, li10, li12, li24, li31, li40, li160, n_le, n_lt, n_eq, n_m1, n_add, mr4, mr6, mr7, mr10, mr40, mr160, ml4, ml6, ml7, ml10, ml40, ml160, gu_ib, nI_nat, bi_s, vl_e, gu_t, if_true, if_false, reduceIte, bt1_1, bt1_2, bt1_3, bt1_4, bt1_5, bt1_6, bt1_7, bt1_8, bt1_9, bt1_10, bt1_11, bt1_12, bt14_1, bt14_2, bt14_3, bt14_4, bt14_5, bt14_6, bt14_7, bt14_8, bt14_9, bt14_10, bt14_11, bt14_12, Nat.reduceLeDiff, Nat.reduceEqDiff, Nat.reduceLT, eq_self, Nat.le_refl, Nat.le_zero_eq, Nat.not_lt_zero, b2_t, c_rt, tx_l, fd, cAn]
      · simp (disch := omega) only [D_X7_spared_0, e, li0, li1, li2, li3, li4, li5, li6, li7, li8, li9, li10, li12, li24, li31, li40, li160, n_le, n_lt, n_eq, n_m1, n_add, mr4, mr6, mr7, mr10, mr40, mr160, ml4, ml6, ml7, ml10, ml40, ml160, gu_ib, nI_nat, bi_s, vl_e, gu_t, if_true, if_false, reduceIte, bt1_1, bt1_2, bt1_3, bt1_4, bt1_5, bt1_6, bt1_7, bt1_8, bt1_9, bt1_10, bt1_11, bt1_12, bt14_1, bt14_2, bt14_3, bt14_4, bt14_5, bt14_6, bt14_7, bt14_8, bt14_9, bt14_10, bt14_11, bt14_12, Nat.reduceLeDiff, Nat.reduceEqDiff, Nat.reduceLT, eq_self, Nat.le_refl, Nat.le_zero_eq, Nat.not_lt_zero, w1, b2_t, m_nt h0, M_sd D.r (show i < 10 by omega), z, mAn]
end
