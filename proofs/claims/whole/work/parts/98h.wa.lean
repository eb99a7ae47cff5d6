/-! calls that write: lack, rules, settle, fall -/
section
variable {fu n N M : Nat} {ev : Nat → Ev} {μ m : Mem} {s t : Sp}
theorem Num_o {s : Sp} {k a b c d f : Nat} (h0 : k ≠ 0) (h4 : k ≠ 4) : Num s (mkE k a b c d f) := ⟨fun h => absurd (show k = 0 from h) h0, fun h => absurd (show k = 4 from h) h4⟩
theorem ev_2 {y : Nat} (hy : y < 12) : EvOK (mkE 2 y 0 0 0 0) := by simp [EvOK, mkE]; omega
theorem ev_3 {a b c : Nat} (ha : a ≤ 3) (hb : b ≤ 3) (hc : c ≤ 3) : EvOK (mkE 3 a b c 0 0) := by simp [EvOK, mkE]; omega
theorem ev_5 {h v : Nat} (hh : h < 24) (h1 : 1 ≤ v) (h2 : v ≤ 1000000000) : EvOK (mkE 5 h v 0 0 0) := by simp [EvOK, mkE]; omega
theorem ev_6 {i v : Nat} (h1 : 1 ≤ i) (h2 : i < 10) (h3 : v ≤ 1000000000) : EvOK (mkE 6 i v 0 0 0) := by simp [EvOK, mkE]; omega
theorem ev_7 {i : Nat} (h1 : 1 ≤ i) (h2 : i < 10) : EvOK (mkE 7 i 0 0 0 0) := by simp [EvOK, mkE]; omega
theorem ev_8 {h : Nat} (hh : h < 24) : EvOK (mkE 8 h 0 0 0 0) := by simp [EvOK, mkE]; omega
theorem ev_1 {l i v : Nat} (hl : l < 40) (hi : i < 10) (h1 : 1 ≤ v) (h2 : v ≤ 10) : EvOK (mkE 1 l i v 0 0) := by simp [EvOK, mkE]; omega
theorem ev_0 {l y f z v : Nat} (hl : l < 40) (hy : y < 12) (hf : f ≤ 900000000) (h1 : 1 ≤ z) (h2 : z ≤ 100000000) (h3 : 1 ≤ v) (h4 : v ≤ 4) : EvOK (mkE 0 l y f z v) := by simp [EvOK, mkE]; omega
theorem ev_4 {h a b c v : Nat} (hh : h < 24) (hy : a ≤ b) (hf : b ≤ c) (h1 : c < 12) (h3 : 1 ≤ v) (h4 : v ≤ 1000000000) : EvOK (mkE 4 h a b c v) := by simp [EvOK, mkE]; omega
/-- the model's notes, a plain event -/
theorem m_doP {k a b c d : Nat} (hf : 200 < fu) (G : EG ev n) (V : LV ev n) (D : MI ev n m) (h0 : m.1 85 0 = nI 0) (hn : n < 160) (E : EvOK (mkE k a b c d 0)) (k0 : k ≠ 0) (k4 : k ≠ 4) (can' : can (run ev n) (mkE k a b c d 0)) : ∃ x y, D_X7_notes_0 (nI k) (nI a) (nI b) (nI c) (nI d) (-nI 1) m = some x ∧ D_X7_does_0 fu (x.1 85 5 - nI 1) x = some y ∧ MI (upE ev n (mkE k a b c d 0)) (n + 1) y ∧ y.1 85 0 = nI 0 ∧ Fr (fun q => q = 85 ∨ 87 ≤ q ∧ q ≤ 127) m y := by
  have K := m_doY (e := mkE k a b c d 0) (a2 := nI a) (a3 := nI b) (a4 := nI c) (a5 := nI d) (a6 := -nI 1) hf G V D h0 hn E (Num_o k0 k4) can' (fun h => absurd h (fun z => z.elim k0 k4)) (fun _ => ⟨rfl, rfl, rfl, rfl⟩)
  exact K
theorem up_Iv (G : EG ev n) (V : LV ev n) {e : Ev} (hn : n < 160) (E : EvOK e) (Q : Num (run ev n) e) : Iv (n + 1) (run (upE ev n e) (n + 1)) := run_Iv (up_EG G V hn E Q)
theorem w_lack (hf : 200 < fu) (G : EG ev n) (V : LV ev n) (C : CI ev n μ) (a1 : Int32) : WW ev n (kd 0 1 2) μ (D_X6_lack_0 fu a1 μ) (D_X7_lack_0 fu a1) := by
  have H := run_Iv G
  have n160 := G.1
  cases q1 : inC a1 (nI 0) (nI 11) with
  | false =>
    have w1 := fun m => mWq q1 (L := 0) (H := 11) rfl rfl m
    refine WW_q G V (QQ_r (.inr 1) 0 C (ho_r (by decide)) ?_ fun x m e D h0 => ?_)
    · simp only [D_X6_lack_0, D_X6_isYear_0, li11, wC, q1, li0, li1, li2, li3, li4, li5, li6, li7, li8, li9, li10, li12, li24, li31, li40, li160, n_le, n_lt, n_eq, n_m1, n_add, mr4, mr6, mr7, mr10, mr40, mr160, ml4, ml6, ml7, ml10, ml40, ml160, gu_ib, nI_nat, bi_s, vl_e, gu_t, if_true, if_false, reduceIte, bt1_1, bt1_2, bt1_3, bt1_4, bt1_5, bt1_6, bt1_7, bt1_8, bt1_9, bt1_10, bt1_11, bt1_12, bt14_1, bt14_2, bt14_3, bt14_4, bt14_5, bt14_6, bt14_7, bt14_8, bt14_9, bt14_10, bt14_11, bt14_12, Nat.reduceLeDiff, Nat.reduceEqDiff, Nat.reduceLT, eq_self, Nat.le_refl, Nat.le_zero_eq, Nat.not_lt_zero, b2_f, c_rf, tx_r, cAn]
    · have nf := m_nf (k := 1) (j := 1) h0 (by decide) (by decide) (by decide)
      simp only [D_X7_lack_0, e, li0, li1, li2, li3, li4, li5, li6, li7, li8, li9, li10, li12, li24, li31, li40, li160, n_le, n_lt, n_eq, n_m1, n_add, mr4, mr6, mr7, mr10, mr40, mr160, ml4, ml6, ml7, ml10, ml40, ml160, gu_ib, nI_nat, bi_s, vl_e, gu_t, if_true, if_false, reduceIte, bt1_1, bt1_2, bt1_3, bt1_4, bt1_5, bt1_6, bt1_7, bt1_8, bt1_9, bt1_10, bt1_11, bt1_12, bt14_1, bt14_2, bt14_3, bt14_4, bt14_5, bt14_6, bt14_7, bt14_8, bt14_9, bt14_10, bt14_11, bt14_12, Nat.reduceLeDiff, Nat.reduceEqDiff, Nat.reduceLT, eq_self, Nat.le_refl, Nat.le_zero_eq, Nat.not_lt_zero, w1, b2_f, nf, Bool.false_eq_true, mAn, kd]
  | true =>
    have w1 := fun m => mWq q1 (L := 0) (H := 11) rfl rfl m
    obtain ⟨y, rfl, yl, hy⟩ := inC_n (by decide) (by decide) q1
    have E := ev_2 (show y < 12 by omega)
    have Q : Num (run ev n) (mkE 2 y 0 0 0 0) := Num_o (by decide) (by decide)
    have cn : can (run ev n) (mkE 2 y 0 0 0 0) ↔ lkb (run ev n) y = false ∧ hg (run ev n) y = 0 := can_2 rfl
    by_cases ok : n < 160 ∧ can (run ev n) (mkE 2 y 0 0 0 0)
    · obtain ⟨x, z, ew, en, C', F'⟩ := c_doY hf G V C ok.1 E Q ok.2
      have ew' : D_X2_write_0 (nI 2) (nI y) (nI 0) (nI 0) (nI 0) (nI 0) μ = some x := ew
      have H' := up_Iv G V ok.1 E Q
      refine WW_s z (bcV (nI (lk (run (upE ev n (mkE 2 y 0 0 0 0)) (n + 1))))) (up_EG G V ok.1 E Q) (up_LV V ok.2 Q) ?_ C' F' fun x m e D h0 => ?_
      · simp only [D_X6_lack_0, D_X6_isYear_0, li11, wC, q1, li0, li1, li2, li3, li4, li5, li6, li7, li8, li9, li10, li12, li24, li31, li40, li160, n_le, n_lt, n_eq, n_m1, n_add, mr4, mr6, mr7, mr10, mr40, mr160, ml4, ml6, ml7, ml10, ml40, ml160, gu_ib, nI_nat, bi_s, vl_e, gu_t, if_true, if_false, reduceIte, bt1_1, bt1_2, bt1_3, bt1_4, bt1_5, bt1_6, bt1_7, bt1_8, bt1_9, bt1_10, bt1_11, bt1_12, bt14_1, bt14_2, bt14_3, bt14_4, bt14_5, bt14_6, bt14_7, bt14_8, bt14_9, bt14_10, bt14_11, bt14_12, Nat.reduceLeDiff, Nat.reduceEqDiff, Nat.reduceLT, eq_self, Nat.le_refl, Nat.le_zero_eq, Nat.not_lt_zero, b2_t, c_rt, tx_l, ew', en, c_bc, K_lk C'.r]
      · obtain ⟨x2, y2, e1, e2, p⟩ := m_doP hf G V D h0 ok.1 E (by decide) (by decide) ok.2
        refine ⟨y2, ?_, p⟩
        have c2 := cn.mp ok.2
        have bt : D_X7_bits_0 fu y2 (y2.1 85 29) = some (bcV (nI (lk (run (upE ev n (mkE 2 y 0 0 0 0)) (n + 1))))) := by
          rw [M_lk p.1.r]; exact m_bits hf _ (IvT_lk H'.T)
        simp only [D_X7_lack_0, D_X7_lack_44, D_X7_lack_45, e, li0, li1, li2, li3, li4, li5, li6, li7, li8, li9, li10, li12, li24, li31, li40, li160, n_le, n_lt, n_eq, n_m1, n_add, mr4, mr6, mr7, mr10, mr40, mr160, ml4, ml6, ml7, ml10, ml40, ml160, gu_ib, nI_nat, bi_s, vl_e, gu_t, if_true, if_false, reduceIte, bt1_1, bt1_2, bt1_3, bt1_4, bt1_5, bt1_6, bt1_7, bt1_8, bt1_9, bt1_10, bt1_11, bt1_12, bt14_1, bt14_2, bt14_3, bt14_4, bt14_5, bt14_6, bt14_7, bt14_8, bt14_9, bt14_10, bt14_11, bt14_12, Nat.reduceLeDiff, Nat.reduceEqDiff, Nat.reduceLT, eq_self, Nat.le_refl, Nat.le_zero_eq, Nat.not_lt_zero, w1, b2_t, m_nt h0, m_lacking (show y < 12 by omega) D.r.a H.T, c2.1, m_gap (show y < 12 by omega) D.r.a H.T, c2.2, decide_true, Bool.false_eq_true, m_room D ok.1 h0, e1, e2, bt]
    · obtain ⟨x, z, ew, en, C', F'⟩ := c_doN hf G V C E Q ok
      have ew' : D_X2_write_0 (nI 2) (nI y) (nI 0) (nI 0) (nI 0) (nI 0) μ = some x := ew
      refine WW_q G V (QQ_n z 0 (by decide) ?_ C' F' fun x m e D h0 => ?_)
      · simp only [D_X6_lack_0, D_X6_isYear_0, li11, wC, q1, li0, li1, li2, li3, li4, li5, li6, li7, li8, li9, li10, li12, li24, li31, li40, li160, n_le, n_lt, n_eq, n_m1, n_add, mr4, mr6, mr7, mr10, mr40, mr160, ml4, ml6, ml7, ml10, ml40, ml160, gu_ib, nI_nat, bi_s, vl_e, gu_t, if_true, if_false, reduceIte, bt1_1, bt1_2, bt1_3, bt1_4, bt1_5, bt1_6, bt1_7, bt1_8, bt1_9, bt1_10, bt1_11, bt1_12, bt14_1, bt14_2, bt14_3, bt14_4, bt14_5, bt14_6, bt14_7, bt14_8, bt14_9, bt14_10, bt14_11, bt14_12, Nat.reduceLeDiff, Nat.reduceEqDiff, Nat.reduceLT, eq_self, Nat.le_refl, Nat.le_zero_eq, Nat.not_lt_zero, b2_t, c_rt, tx_l, ew', en, tx_r]
      · have nf := m_nf (k := 2) (j := 2) h0 (by decide) (by decide) (by decide)
        cases l1 : lkb (run ev n) y with
        | true => simp only [D_X7_lack_0, D_X7_lack_44, D_X7_lack_45, e, li0, li1, li2, li3, li4, li5, li6, li7, li8, li9, li10, li12, li24, li31, li40, li160, n_le, n_lt, n_eq, n_m1, n_add, mr4, mr6, mr7, mr10, mr40, mr160, ml4, ml6, ml7, ml10, ml40, ml160, gu_ib, nI_nat, bi_s, vl_e, gu_t, if_true, if_false, reduceIte, bt1_1, bt1_2, bt1_3, bt1_4, bt1_5, bt1_6, bt1_7, bt1_8, bt1_9, bt1_10, bt1_11, bt1_12, bt14_1, bt14_2, bt14_3, bt14_4, bt14_5, bt14_6, bt14_7, bt14_8, bt14_9, bt14_10, bt14_11, bt14_12, Nat.reduceLeDiff, Nat.reduceEqDiff, Nat.reduceLT, eq_self, Nat.le_refl, Nat.le_zero_eq, Nat.not_lt_zero, w1, b2_t, m_nt h0, m_lacking (show y < 12 by omega) D.r.a H.T, l1, Bool.false_eq_true, nf, kd]
        | false =>
          by_cases l2 : hg (run ev n) y = 0
          · have rf := m_roomF (k := 2) D (show n = 160 by have : ¬ n < 160 := fun z => ok ⟨z, cn.mpr ⟨l1, l2⟩⟩; omega) h0 (by decide) (by decide)
            simp only [D_X7_lack_0, D_X7_lack_44, D_X7_lack_45, e, li0, li1, li2, li3, li4, li5, li6, li7, li8, li9, li10, li12, li24, li31, li40, li160, n_le, n_lt, n_eq, n_m1, n_add, mr4, mr6, mr7, mr10, mr40, mr160, ml4, ml6, ml7, ml10, ml40, ml160, gu_ib, nI_nat, bi_s, vl_e, gu_t, if_true, if_false, reduceIte, bt1_1, bt1_2, bt1_3, bt1_4, bt1_5, bt1_6, bt1_7, bt1_8, bt1_9, bt1_10, bt1_11, bt1_12, bt14_1, bt14_2, bt14_3, bt14_4, bt14_5, bt14_6, bt14_7, bt14_8, bt14_9, bt14_10, bt14_11, bt14_12, Nat.reduceLeDiff, Nat.reduceEqDiff, Nat.reduceLT, eq_self, Nat.le_refl, Nat.le_zero_eq, Nat.not_lt_zero, w1, b2_t, m_nt h0, m_lacking (show y < 12 by omega) D.r.a H.T, l1, m_gap (show y < 12 by omega) D.r.a H.T, l2, decide_true, Bool.false_eq_true, rf, kd]
          · simp only [D_X7_lack_0, D_X7_lack_44, D_X7_lack_45, e, li0, li1, li2, li3, li4, li5, li6, li7, li8, li9, li10, li12, li24, li31, li40, li160, n_le, n_lt, n_eq, n_m1, n_add, mr4, mr6, mr7, mr10, mr40, mr160, ml4, ml6, ml7, ml10, ml40, ml160, gu_ib, nI_nat, bi_s, vl_e, gu_t, if_true, if_false, reduceIte, bt1_1, bt1_2, bt1_3, bt1_4, bt1_5, bt1_6, bt1_7, bt1_8, bt1_9, bt1_10, bt1_11, bt1_12, bt14_1, bt14_2, bt14_3, bt14_4, bt14_5, bt14_6, bt14_7, bt14_8, bt14_9, bt14_10, bt14_11, bt14_12, Nat.reduceLeDiff, Nat.reduceEqDiff, Nat.reduceLT, eq_self, Nat.le_refl, Nat.le_zero_eq, Nat.not_lt_zero, w1, b2_t, m_nt h0, m_lacking (show y < 12 by omega) D.r.a H.T, l1, m_gap (show y < 12 by omega) D.r.a H.T, l2, decide_false, Bool.false_eq_true, nf, kd]
theorem w_rules (hf : 200 < fu) (G : EG ev n) (V : LV ev n) (C : CI ev n μ) (a1 a2 a3 : Int32) : WW ev n (kd 0 1 2) μ (D_X6_rules_0 fu a1 a2 a3 μ) (D_X7_rules_0 fu a1 a2 a3) := by
  have H := run_Iv G
  have n160 := G.1
  cases q1 : aR a1 a2 a3 with
  | false =>
    refine WW_q G V (QQ_r (.inr 1) 0 C (ho_r (by decide)) ?_ fun x m e D h0 => ?_)
    · simp only [D_X6_rules_0, c_aR, q1, li0, li1, li2, li3, li4, li5, li6, li7, li8, li9, li10, li12, li24, li31, li40, li160, n_le, n_lt, n_eq, n_m1, n_add, mr4, mr6, mr7, mr10, mr40, mr160, ml4, ml6, ml7, ml10, ml40, ml160, gu_ib, nI_nat, bi_s, vl_e, gu_t, if_true, if_false, reduceIte, bt1_1, bt1_2, bt1_3, bt1_4, bt1_5, bt1_6, bt1_7, bt1_8, bt1_9, bt1_10, bt1_11, bt1_12, bt14_1, bt14_2, bt14_3, bt14_4, bt14_5, bt14_6, bt14_7, bt14_8, bt14_9, bt14_10, bt14_11, bt14_12, Nat.reduceLeDiff, Nat.reduceEqDiff, Nat.reduceLT, eq_self, Nat.le_refl, Nat.le_zero_eq, Nat.not_lt_zero, b2_f, c_rf, tx_r, cAn]
    · have nf := m_nf (k := 1) (j := 1) h0 (by decide) (by decide) (by decide)
      simp only [D_X7_rules_0, e, li0, li1, li2, li3, li4, li5, li6, li7, li8, li9, li10, li12, li24, li31, li40, li160, n_le, n_lt, n_eq, n_m1, n_add, mr4, mr6, mr7, mr10, mr40, mr160, ml4, ml6, ml7, ml10, ml40, ml160, gu_ib, nI_nat, bi_s, vl_e, gu_t, if_true, if_false, reduceIte, bt1_1, bt1_2, bt1_3, bt1_4, bt1_5, bt1_6, bt1_7, bt1_8, bt1_9, bt1_10, bt1_11, bt1_12, bt14_1, bt14_2, bt14_3, bt14_4, bt14_5, bt14_6, bt14_7, bt14_8, bt14_9, bt14_10, bt14_11, bt14_12, Nat.reduceLeDiff, Nat.reduceEqDiff, Nat.reduceLT, eq_self, Nat.le_refl, Nat.le_zero_eq, Nat.not_lt_zero, m_aR, q1, b2_f, nf, Bool.false_eq_true, mAn, kd]
  | true =>
    obtain ⟨a, b, c, rfl, rfl, rfl, h1, h2, h3⟩ := aR_n q1
    have r0 := IvR_r0 H.R
    have r1 := IvR_r1 H.R
    have r2 := IvR_r2 H.R
    have E := ev_3 h1 h2 h3
    have Q : Num (run ev n) (mkE 3 a b c 0 0) := Num_o (by decide) (by decide)
    have can' : can (run ev n) (mkE 3 a b c 0 0) := (can_3 (Or.inl rfl)).mpr trivial
    by_cases same : a = ru (run ev n) 0 ∧ b = ru (run ev n) 1 ∧ c = ru (run ev n) 2
    · obtain ⟨s1, s2, s3⟩ := same
      subst s1 s2 s3
      refine WW_q G V (QQ_r (.inl (nI 0)) 0 C ho_l ?_ fun x m e D h0 => ?_)
      · simp (disch := omega) only [D_X6_rules_0, c_aR, q1, li0, li1, li2, li3, li4, li5, li6, li7, li8, li9, li10, li12, li24, li31, li40, li160, n_le, n_lt, n_eq, n_m1, n_add, mr4, mr6, mr7, mr10, mr40, mr160, ml4, ml6, ml7, ml10, ml40, ml160, gu_ib, nI_nat, bi_s, vl_e, gu_t, if_true, if_false, reduceIte, bt1_1, bt1_2, bt1_3, bt1_4, bt1_5, bt1_6, bt1_7, bt1_8, bt1_9, bt1_10, bt1_11, bt1_12, bt14_1, bt14_2, bt14_3, bt14_4, bt14_5, bt14_6, bt14_7, bt14_8, bt14_9, bt14_10, bt14_11, bt14_12, Nat.reduceLeDiff, Nat.reduceEqDiff, Nat.reduceLT, eq_self, Nat.le_refl, Nat.le_zero_eq, Nat.not_lt_zero, b2_t, c_rt, tx_l, K_r0 C.r, K_r1 C.r, K_r2 C.r, cAn]
      · simp (disch := omega) only [D_X7_rules_0, e, li0, li1, li2, li3, li4, li5, li6, li7, li8, li9, li10, li12, li24, li31, li40, li160, n_le, n_lt, n_eq, n_m1, n_add, mr4, mr6, mr7, mr10, mr40, mr160, ml4, ml6, ml7, ml10, ml40, ml160, gu_ib, nI_nat, bi_s, vl_e, gu_t, if_true, if_false, reduceIte, bt1_1, bt1_2, bt1_3, bt1_4, bt1_5, bt1_6, bt1_7, bt1_8, bt1_9, bt1_10, bt1_11, bt1_12, bt14_1, bt14_2, bt14_3, bt14_4, bt14_5, bt14_6, bt14_7, bt14_8, bt14_9, bt14_10, bt14_11, bt14_12, Nat.reduceLeDiff, Nat.reduceEqDiff, Nat.reduceLT, eq_self, Nat.le_refl, Nat.le_zero_eq, Nat.not_lt_zero, m_aR, q1, b2_t, m_nt h0, M_r0 D.r, M_r1 D.r, M_r2 D.r, mAn]
    · have cl : D_X6_rules_0 fu (nI a) (nI b) (nI c) μ = D_X6_rules_45 fu (nI a) (nI b) (nI c) μ := by
        simp (disch := omega) only [D_X6_rules_0, c_aR, q1, li0, li1, li2, li3, li4, li5, li6, li7, li8, li9, li10, li12, li24, li31, li40, li160, n_le, n_lt, n_eq, n_m1, n_add, mr4, mr6, mr7, mr10, mr40, mr160, ml4, ml6, ml7, ml10, ml40, ml160, gu_ib, nI_nat, bi_s, vl_e, gu_t, if_true, if_false, reduceIte, bt1_1, bt1_2, bt1_3, bt1_4, bt1_5, bt1_6, bt1_7, bt1_8, bt1_9, bt1_10, bt1_11, bt1_12, bt14_1, bt14_2, bt14_3, bt14_4, bt14_5, bt14_6, bt14_7, bt14_8, bt14_9, bt14_10, bt14_11, bt14_12, Nat.reduceLeDiff, Nat.reduceEqDiff, Nat.reduceLT, eq_self, Nat.le_refl, Nat.le_zero_eq, Nat.not_lt_zero, b2_t, c_rt, tx_l, K_r0 C.r, K_r1 C.r, K_r2 C.r]
        by_cases s1 : a = ru (run ev n) 0
        · rw [if_pos s1]
          by_cases s2 : b = ru (run ev n) 1
          · rw [if_pos s2, if_neg (fun z => same ⟨s1, s2, z⟩)]
          · rw [if_neg s2]
        · rw [if_neg s1]
      have ml : ∀ x m, wI x 85 0 (nI 0) = m → MI ev n m → m.1 85 0 = nI 0 → D_X7_rules_0 fu (nI a) (nI b) (nI c) x = D_X7_rules_46 fu (nI a) (nI b) (nI c) m := fun x m e D h0 => by
        simp (disch := omega) only [D_X7_rules_0, e, li0, li1, li2, li3, li4, li5, li6, li7, li8, li9, li10, li12, li24, li31, li40, li160, n_le, n_lt, n_eq, n_m1, n_add, mr4, mr6, mr7, mr10, mr40, mr160, ml4, ml6, ml7, ml10, ml40, ml160, gu_ib, nI_nat, bi_s, vl_e, gu_t, if_true, if_false, reduceIte, bt1_1, bt1_2, bt1_3, bt1_4, bt1_5, bt1_6, bt1_7, bt1_8, bt1_9, bt1_10, bt1_11, bt1_12, bt14_1, bt14_2, bt14_3, bt14_4, bt14_5, bt14_6, bt14_7, bt14_8, bt14_9, bt14_10, bt14_11, bt14_12, Nat.reduceLeDiff, Nat.reduceEqDiff, Nat.reduceLT, eq_self, Nat.le_refl, Nat.le_zero_eq, Nat.not_lt_zero, m_aR, q1, b2_t, m_nt h0, M_r0 D.r, M_r1 D.r, M_r2 D.r]
        by_cases s1 : a = ru (run ev n) 0
        · rw [if_pos s1]
          by_cases s2 : b = ru (run ev n) 1
          · rw [if_pos s2, if_neg (fun z => same ⟨s1, s2, z⟩)]
          · rw [if_neg s2]
        · rw [if_neg s1]
      rw [cl]
      by_cases ok : n < 160
      · obtain ⟨x, z, ew, en, C', F'⟩ := c_doY hf G V C ok E Q can'
        have ew' : D_X2_write_0 (nI 3) (nI a) (nI b) (nI c) (nI 0) (nI 0) μ = some x := ew
        refine WW_s z (nI 1) (up_EG G V ok E Q) (up_LV V can' Q) ?_ C' F' fun x m e D h0 => ?_
        · simp only [D_X6_rules_45, li0, li1, li2, li3, li4, li5, li6, li7, li8, li9, li10, li12, li24, li31, li40, li160, n_le, n_lt, n_eq, n_m1, n_add, mr4, mr6, mr7, mr10, mr40, mr160, ml4, ml6, ml7, ml10, ml40, ml160, gu_ib, nI_nat, bi_s, vl_e, gu_t, if_true, if_false, reduceIte, bt1_1, bt1_2, bt1_3, bt1_4, bt1_5, bt1_6, bt1_7, bt1_8, bt1_9, bt1_10, bt1_11, bt1_12, bt14_1, bt14_2, bt14_3, bt14_4, bt14_5, bt14_6, bt14_7, bt14_8, bt14_9, bt14_10, bt14_11, bt14_12, Nat.reduceLeDiff, Nat.reduceEqDiff, Nat.reduceLT, eq_self, Nat.le_refl, Nat.le_zero_eq, Nat.not_lt_zero, ew', en, tx_l]
        · obtain ⟨x2, y2, e1, e2, p⟩ := m_doP hf G V D h0 ok E (by decide) (by decide) can'
          refine ⟨y2, ?_, p⟩
          rw [ml x m e D h0]
          simp only [D_X7_rules_46, li0, li1, li2, li3, li4, li5, li6, li7, li8, li9, li10, li12, li24, li31, li40, li160, n_le, n_lt, n_eq, n_m1, n_add, mr4, mr6, mr7, mr10, mr40, mr160, ml4, ml6, ml7, ml10, ml40, ml160, gu_ib, nI_nat, bi_s, vl_e, gu_t, if_true, if_false, reduceIte, bt1_1, bt1_2, bt1_3, bt1_4, bt1_5, bt1_6, bt1_7, bt1_8, bt1_9, bt1_10, bt1_11, bt1_12, bt14_1, bt14_2, bt14_3, bt14_4, bt14_5, bt14_6, bt14_7, bt14_8, bt14_9, bt14_10, bt14_11, bt14_12, Nat.reduceLeDiff, Nat.reduceEqDiff, Nat.reduceLT, eq_self, Nat.le_refl, Nat.le_zero_eq, Nat.not_lt_zero, m_room D ok h0, e1, e2]
      · obtain ⟨x, z, ew, en, C', F'⟩ := c_doN hf G V C E Q (fun z => ok z.1)
        have ew' : D_X2_write_0 (nI 3) (nI a) (nI b) (nI c) (nI 0) (nI 0) μ = some x := ew
        refine WW_q G V (QQ_n z 0 (by decide) ?_ C' F' fun x m e D h0 => ?_)
        · simp only [D_X6_rules_45, li0, li1, li2, li3, li4, li5, li6, li7, li8, li9, li10, li12, li24, li31, li40, li160, n_le, n_lt, n_eq, n_m1, n_add, mr4, mr6, mr7, mr10, mr40, mr160, ml4, ml6, ml7, ml10, ml40, ml160, gu_ib, nI_nat, bi_s, vl_e, gu_t, if_true, if_false, reduceIte, bt1_1, bt1_2, bt1_3, bt1_4, bt1_5, bt1_6, bt1_7, bt1_8, bt1_9, bt1_10, bt1_11, bt1_12, bt14_1, bt14_2, bt14_3, bt14_4, bt14_5, bt14_6, bt14_7, bt14_8, bt14_9, bt14_10, bt14_11, bt14_12, Nat.reduceLeDiff, Nat.reduceEqDiff, Nat.reduceLT, eq_self, Nat.le_refl, Nat.le_zero_eq, Nat.not_lt_zero, ew', en, tx_r]
        · have rf := m_roomF (k := 2) D (show n = 160 by omega) h0 (by decide) (by decide)
          rw [ml x m e D h0]
          simp only [D_X7_rules_46, li0, li1, li2, li3, li4, li5, li6, li7, li8, li9, li10, li12, li24, li31, li40, li160, n_le, n_lt, n_eq, n_m1, n_add, mr4, mr6, mr7, mr10, mr40, mr160, ml4, ml6, ml7, ml10, ml40, ml160, gu_ib, nI_nat, bi_s, vl_e, gu_t, if_true, if_false, reduceIte, bt1_1, bt1_2, bt1_3, bt1_4, bt1_5, bt1_6, bt1_7, bt1_8, bt1_9, bt1_10, bt1_11, bt1_12, bt14_1, bt14_2, bt14_3, bt14_4, bt14_5, bt14_6, bt14_7, bt14_8, bt14_9, bt14_10, bt14_11, bt14_12, Nat.reduceLeDiff, Nat.reduceEqDiff, Nat.reduceLT, eq_self, Nat.le_refl, Nat.le_zero_eq, Nat.not_lt_zero, Bool.false_eq_true, rf, kd]
theorem w_settle (hf : 200 < fu) (G : EG ev n) (V : LV ev n) (C : CI ev n μ) (a1 a2 : Int32) : WW ev n (kd 0 1 2) μ (D_X6_settle_0 fu a1 a2 μ) (D_X7_settle_0 fu a1 a2) := by
  have H := run_Iv G
  have n160 := G.1
  cases q1 : inC a1 (nI 1) (nI 9) with
  | false =>
    have w1 := fun m => mWq q1 (L := 1) (H := 9) rfl rfl m
    refine WW_q G V (QQ_r (.inr 1) 0 C (ho_r (by decide)) ?_ fun x m e D h0 => ?_)
    · simp only [D_X6_settle_0, D_X6_settle_22, D_X6_settle_23, D_X6_isOutsider_0, wC, q1, li0, li1, li2, li3, li4, li5, li6, li7, li8, li9, li10, li12, li24, li31, li40, li160, n_le, n_lt, n_eq, n_m1, n_add, mr4, mr6, mr7, mr10, mr40, mr160, ml4, ml6, ml7, ml10, ml40, ml160, gu_ib, nI_nat, bi_s, vl_e, gu_t, if_true, if_false, reduceIte, bt1_1, bt1_2, bt1_3, bt1_4, bt1_5, bt1_6, bt1_7, bt1_8, bt1_9, bt1_10, bt1_11, bt1_12, bt14_1, bt14_2, bt14_3, bt14_4, bt14_5, bt14_6, bt14_7, bt14_8, bt14_9, bt14_10, bt14_11, bt14_12, Nat.reduceLeDiff, Nat.reduceEqDiff, Nat.reduceLT, eq_self, Nat.le_refl, Nat.le_zero_eq, Nat.not_lt_zero, Bool.false_eq_true, c_rf, tx_r, cAn]
    · have nf := m_nf (k := 1) (j := 1) h0 (by decide) (by decide) (by decide)
      simp only [D_X7_settle_0, D_X7_settle_34, D_X7_settle_35, e, li0, li1, li2, li3, li4, li5, li6, li7, li8, li9, li10, li12, li24, li31, li40, li160, n_le, n_lt, n_eq, n_m1, n_add, mr4, mr6, mr7, mr10, mr40, mr160, ml4, ml6, ml7, ml10, ml40, ml160, gu_ib, nI_nat, bi_s, vl_e, gu_t, if_true, if_false, reduceIte, bt1_1, bt1_2, bt1_3, bt1_4, bt1_5, bt1_6, bt1_7, bt1_8, bt1_9, bt1_10, bt1_11, bt1_12, bt14_1, bt14_2, bt14_3, bt14_4, bt14_5, bt14_6, bt14_7, bt14_8, bt14_9, bt14_10, bt14_11, bt14_12, Nat.reduceLeDiff, Nat.reduceEqDiff, Nat.reduceLT, eq_self, Nat.le_refl, Nat.le_zero_eq, Nat.not_lt_zero, w1, nf, Bool.false_eq_true, mAn, kd]
  | true =>
    have w1 := fun m => mWq q1 (L := 1) (H := 9) rfl rfl m
    cases q2 : inC a2 (nI 0) (nI 1000000000) with
    | false =>
      have w2 := fun m => mWq q2 (L := 0) (H := 1000000000) rfl rfl m
      refine WW_q G V (QQ_r (.inr 1) 0 C (ho_r (by decide)) ?_ fun x m e D h0 => ?_)
      · simp only [D_X6_settle_0, D_X6_settle_22, D_X6_settle_23, D_X6_isOutsider_0, wC, li1e9, q1, q2, li0, li1, li2, li3, li4, li5, li6, li7, li8, li9, li10, li12, li24, li31, li40, li160, n_le, n_lt, n_eq, n_m1, n_add, mr4, mr6, mr7, mr10, mr40, mr160, ml4, ml6, ml7, ml10, ml40, ml160, gu_ib, nI_nat, bi_s, vl_e, gu_t, if_true, if_false, reduceIte, bt1_1, bt1_2, bt1_3, bt1_4, bt1_5, bt1_6, bt1_7, bt1_8, bt1_9, bt1_10, bt1_11, bt1_12, bt14_1, bt14_2, bt14_3, bt14_4, bt14_5, bt14_6, bt14_7, bt14_8, bt14_9, bt14_10, bt14_11, bt14_12, Nat.reduceLeDiff, Nat.reduceEqDiff, Nat.reduceLT, eq_self, Nat.le_refl, Nat.le_zero_eq, Nat.not_lt_zero, Bool.false_eq_true, c_rf, tx_r, cAn]
      · have nf := m_nf (k := 1) (j := 1) h0 (by decide) (by decide) (by decide)
        simp only [D_X7_settle_0, D_X7_settle_34, D_X7_settle_35, e, li0, li1, li2, li3, li4, li5, li6, li7, li8, li9, li10, li12, li24, li31, li40, li160, n_le, n_lt, n_eq, n_m1, n_add, mr4, mr6, mr7, mr10, mr40, mr160, ml4, ml6, ml7, ml10, ml40, ml160, gu_ib, nI_nat, bi_s, vl_e, gu_t, if_true, if_false, reduceIte, bt1_1, bt1_2, bt1_3, bt1_4, bt1_5, bt1_6, bt1_7, bt1_8, bt1_9, bt1_10, bt1_11, bt1_12, bt14_1, bt14_2, bt14_3, bt14_4, bt14_5, bt14_6, bt14_7, bt14_8, bt14_9, bt14_10, bt14_11, bt14_12, Nat.reduceLeDiff, Nat.reduceEqDiff, Nat.reduceLT, eq_self, Nat.le_refl, Nat.le_zero_eq, Nat.not_lt_zero, w1, w2, nf, Bool.false_eq_true, mAn, kd]
    | true =>
      have w2 := fun m => mWq q2 (L := 0) (H := 1000000000) rfl rfl m
      obtain ⟨i, rfl, il, hi⟩ := inC_n (by decide) (by decide) q1
      obtain ⟨v, rfl, vl', hv⟩ := inC_n (by decide) (by decide) q2
      have E := ev_6 il (show i < 10 by omega) hv
      have Q : Num (run ev n) (mkE 6 i v 0 0 0) := Num_o (by decide) (by decide)
      have cn : can (run ev n) (mkE 6 i v 0 0 0) ↔ sd (run ev n) i = 0 := can_6 (Or.inl rfl)
      have sb := IvR_sd H.R (show i < 10 by omega)
      by_cases ok : n < 160 ∧ can (run ev n) (mkE 6 i v 0 0 0)
      · obtain ⟨x, z, ew, en, C', F'⟩ := c_doY hf G V C ok.1 E Q ok.2
        have ew' : D_X2_write_0 (nI 6) (nI i) (nI v) (nI 0) (nI 0) (nI 0) μ = some x := ew
        have H' := up_Iv G V ok.1 E Q
        have tw : D_X0_thoseWho_0 fu z 3 (nI 1) = some (nI (orb (fun j => decide (j ≠ 0 ∧ sd (run (upE ev n (mkE 6 i v 0 0 0)) (n + 1)) j = 1)) 10)) := c_thoseWho hf (by decide) C'.r H'
        refine WW_s z (nI (ct10 (fun j => decide (j ≠ 0 ∧ sd (run (upE ev n (mkE 6 i v 0 0 0)) (n + 1)) j = 1)) 10)) (up_EG G V ok.1 E Q) (up_LV V ok.2 Q) ?_ C' F' fun x m e D h0 => ?_
        · simp only [D_X6_settle_0, D_X6_settle_22, D_X6_settle_23, D_X6_isOutsider_0, wC, li1e9, q1, q2, li0, li1, li2, li3, li4, li5, li6, li7, li8, li9, li10, li12, li24, li31, li40, li160, n_le, n_lt, n_eq, n_m1, n_add, mr4, mr6, mr7, mr10, mr40, mr160, ml4, ml6, ml7, ml10, ml40, ml160, gu_ib, nI_nat, bi_s, vl_e, gu_t, if_true, if_false, reduceIte, bt1_1, bt1_2, bt1_3, bt1_4, bt1_5, bt1_6, bt1_7, bt1_8, bt1_9, bt1_10, bt1_11, bt1_12, bt14_1, bt14_2, bt14_3, bt14_4, bt14_5, bt14_6, bt14_7, bt14_8, bt14_9, bt14_10, bt14_11, bt14_12, Nat.reduceLeDiff, Nat.reduceEqDiff, Nat.reduceLT, eq_self, Nat.le_refl, Nat.le_zero_eq, Nat.not_lt_zero, c_rt, tx_l, ew', en, tw, c_bc]
          rw [bc_10 _ (by simp)]
        · obtain ⟨x2, y2, e1, e2, p⟩ := m_doP hf G V D h0 ok.1 E (by decide) (by decide) ok.2
          refine ⟨y2, ?_, p⟩
          have c2 := cn.mp ok.2
          have st := m_standing (v := 1) hf (by decide) p.1.r H'
          simp (disch := omega) only [D_X7_settle_0, D_X7_settle_34, D_X7_settle_35, D_X7_settle_58, e, li0, li1, li2, li3, li4, li5, li6, li7, li8, li9, li10, li12, li24, li31, li40, li160, n_le, n_lt, n_eq, n_m1, n_add, mr4, mr6, mr7, mr10, mr40, mr160, ml4, ml6, ml7, ml10, ml40, ml160, gu_ib, nI_nat, bi_s, vl_e, gu_t, if_true, if_false, reduceIte, bt1_1, bt1_2, bt1_3, bt1_4, bt1_5, bt1_6, bt1_7, bt1_8, bt1_9, bt1_10, bt1_11, bt1_12, bt14_1, bt14_2, bt14_3, bt14_4, bt14_5, bt14_6, bt14_7, bt14_8, bt14_9, bt14_10, bt14_11, bt14_12, Nat.reduceLeDiff, Nat.reduceEqDiff, Nat.reduceLT, eq_self, Nat.le_refl, Nat.le_zero_eq, Nat.not_lt_zero, w1, w2, m_nt h0, M_sd D.r (show i < 10 by omega), c2, m_room D ok.1 h0, e1, e2, st]
      · obtain ⟨x, z, ew, en, C', F'⟩ := c_doN hf G V C E Q ok
        have ew' : D_X2_write_0 (nI 6) (nI i) (nI v) (nI 0) (nI 0) (nI 0) μ = some x := ew
        refine WW_q G V (QQ_n z 0 (by decide) ?_ C' F' fun x m e D h0 => ?_)
        · simp only [D_X6_settle_0, D_X6_settle_22, D_X6_settle_23, D_X6_isOutsider_0, wC, li1e9, q1, q2, li0, li1, li2, li3, li4, li5, li6, li7, li8, li9, li10, li12, li24, li31, li40, li160, n_le, n_lt, n_eq, n_m1, n_add, mr4, mr6, mr7, mr10, mr40, mr160, ml4, ml6, ml7, ml10, ml40, ml160, gu_ib, nI_nat, bi_s, vl_e, gu_t, if_true, if_false, reduceIte, bt1_1, bt1_2, bt1_3, bt1_4, bt1_5, bt1_6, bt1_7, bt1_8, bt1_9, bt1_10, bt1_11, bt1_12, bt14_1, bt14_2, bt14_3, bt14_4, bt14_5, bt14_6, bt14_7, bt14_8, bt14_9, bt14_10, bt14_11, bt14_12, Nat.reduceLeDiff, Nat.reduceEqDiff, Nat.reduceLT, eq_self, Nat.le_refl, Nat.le_zero_eq, Nat.not_lt_zero, c_rt, tx_l, ew', en, tx_r]
        · have nf := m_nf (k := 2) (j := 2) h0 (by decide) (by decide) (by decide)
          by_cases l2 : sd (run ev n) i = 0
          · have rf := m_roomF (k := 2) D (show n = 160 by have : ¬ n < 160 := fun z => ok ⟨z, cn.mpr l2⟩; omega) h0 (by decide) (by decide)
            simp (disch := omega) only [D_X7_settle_0, D_X7_settle_34, D_X7_settle_35, D_X7_settle_58, e, li0, li1, li2, li3, li4, li5, li6, li7, li8, li9, li10, li12, li24, li31, li40, li160, n_le, n_lt, n_eq, n_m1, n_add, mr4, mr6, mr7, mr10, mr40, mr160, ml4, ml6, ml7, ml10, ml40, ml160, gu_ib, nI_nat, bi_s, vl_e, gu_t, if_true, if_false, reduceIte, bt1_1, bt1_2, bt1_3, bt1_4, bt1_5, bt1_6, bt1_7, bt1_8, bt1_9, bt1_10, bt1_11, bt1_12, bt14_1, bt14_2, bt14_3, bt14_4, bt14_5, bt14_6, bt14_7, bt14_8, bt14_9, bt14_10, bt14_11, bt14_12, Nat.reduceLeDiff, Nat.reduceEqDiff, Nat.reduceLT, eq_self, Nat.le_refl, Nat.le_zero_eq, Nat.not_lt_zero, w1, w2, m_nt h0, M_sd D.r (show i < 10 by omega), l2, Bool.false_eq_true, rf, kd]
          · simp (disch := omega) only [D_X7_settle_0, D_X7_settle_34, D_X7_settle_35, D_X7_settle_58, e, li0, li1, li2, li3, li4, li5, li6, li7, li8, li9, li10, li12, li24, li31, li40, li160, n_le, n_lt, n_eq, n_m1, n_add, mr4, mr6, mr7, mr10, mr40, mr160, ml4, ml6, ml7, ml10, ml40, ml160, gu_ib, nI_nat, bi_s, vl_e, gu_t, if_true, if_false, reduceIte, bt1_1, bt1_2, bt1_3, bt1_4, bt1_5, bt1_6, bt1_7, bt1_8, bt1_9, bt1_10, bt1_11, bt1_12, bt14_1, bt14_2, bt14_3, bt14_4, bt14_5, bt14_6, bt14_7, bt14_8, bt14_9, bt14_10, bt14_11, bt14_12, Nat.reduceLeDiff, Nat.reduceEqDiff, Nat.reduceLT, eq_self, Nat.le_refl, Nat.le_zero_eq, Nat.not_lt_zero, w1, w2, m_nt h0, M_sd D.r (show i < 10 by omega), l2, Bool.false_eq_true, nf, kd]
theorem w_fall (hf : 200 < fu) (G : EG ev n) (V : LV ev n) (C : CI ev n μ) (a1 : Int32) : WW ev n (kd 0 1 2) μ (D_X6_fall_0 fu a1 μ) (D_X7_fall_0 fu a1) := by
  have H := run_Iv G
  have n160 := G.1
  cases q1 : inC a1 (nI 1) (nI 9) with
  | false =>
    have w1 := fun m => mWq q1 (L := 1) (H := 9) rfl rfl m
    refine WW_q G V (QQ_r (.inr 1) 0 C (ho_r (by decide)) ?_ fun x m e D h0 => ?_)
    · simp only [D_X6_fall_0, D_X6_isOutsider_0, wC, q1, li0, li1, li2, li3, li4, li5, li6, li7, li8, li9, li10, li12, li24, li31, li40, li160, n_le, n_lt, n_eq, n_m1, n_add, mr4, mr6, mr7, mr10, mr40, mr160, ml4, ml6, ml7, ml10, ml40, ml160, gu_ib, nI_nat, bi_s, vl_e, gu_t, if_true, if_false, reduceIte, bt1_1, bt1_2, bt1_3, bt1_4, bt1_5, bt1_6, bt1_7, bt1_8, bt1_9, bt1_10, bt1_11, bt1_12, bt14_1, bt14_2, bt14_3, bt14_4, bt14_5, bt14_6, bt14_7, bt14_8, bt14_9, bt14_10, bt14_11, bt14_12, Nat.reduceLeDiff, Nat.reduceEqDiff, Nat.reduceLT, eq_self, Nat.le_refl, Nat.le_zero_eq, Nat.not_lt_zero, b2_f, c_rf, tx_r, cAn]
    · have nf := m_nf (k := 1) (j := 1) h0 (by decide) (by decide) (by decide)
      simp only [D_X7_fall_0, e, li0, li1, li2, li3, li4, li5, li6, li7, li8, li9, li10, li12, li24, li31, li40, li160, n_le, n_lt, n_eq, n_m1, n_add, mr4, mr6, mr7, mr10, mr40, mr160, ml4, ml6, ml7, ml10, ml40, ml160, gu_ib, nI_nat, bi_s, vl_e, gu_t, if_true, if_false, reduceIte, bt1_1, bt1_2, bt1_3, bt1_4, bt1_5, bt1_6, bt1_7, bt1_8, bt1_9, bt1_10, bt1_11, bt1_12, bt14_1, bt14_2, bt14_3, bt14_4, bt14_5, bt14_6, bt14_7, bt14_8, bt14_9, bt14_10, bt14_11, bt14_12, Nat.reduceLeDiff, Nat.reduceEqDiff, Nat.reduceLT, eq_self, Nat.le_refl, Nat.le_zero_eq, Nat.not_lt_zero, w1, b2_f, nf, Bool.false_eq_true, mAn, kd]
  | true =>
    have w1 := fun m => mWq q1 (L := 1) (H := 9) rfl rfl m
    obtain ⟨i, rfl, il, hi⟩ := inC_n (by decide) (by decide) q1
    have E := ev_7 il (show i < 10 by omega)
    have Q : Num (run ev n) (mkE 7 i 0 0 0 0) := Num_o (by decide) (by decide)
    have cn : can (run ev n) (mkE 7 i 0 0 0 0) ↔ sd (run ev n) i = 0 := can_6 (Or.inr rfl)
    have sb := IvR_sd H.R (show i < 10 by omega)
    by_cases ok : n < 160 ∧ can (run ev n) (mkE 7 i 0 0 0 0)
    · obtain ⟨x, z, ew, en, C', F'⟩ := c_doY hf G V C ok.1 E Q ok.2
      have ew' : D_X2_write_0 (nI 7) (nI i) (nI 0) (nI 0) (nI 0) (nI 0) μ = some x := ew
      have H' := up_Iv G V ok.1 E Q
      have tw : D_X0_thoseWho_0 fu z 3 (nI 2) = some (nI (orb (fun j => decide (j ≠ 0 ∧ sd (run (upE ev n (mkE 7 i 0 0 0 0)) (n + 1)) j = 2)) 10)) := c_thoseWho hf (by decide) C'.r H'
      refine WW_s z (nI (ct10 (fun j => decide (j ≠ 0 ∧ sd (run (upE ev n (mkE 7 i 0 0 0 0)) (n + 1)) j = 2)) 10)) (up_EG G V ok.1 E Q) (up_LV V ok.2 Q) ?_ C' F' fun x m e D h0 => ?_
      · simp only [D_X6_fall_0, D_X6_isOutsider_0, wC, q1, li0, li1, li2, li3, li4, li5, li6, li7, li8, li9, li10, li12, li24, li31, li40, li160, n_le, n_lt, n_eq, n_m1, n_add, mr4, mr6, mr7, mr10, mr40, mr160, ml4, ml6, ml7, ml10, ml40, ml160, gu_ib, nI_nat, bi_s, vl_e, gu_t, if_true, if_false, reduceIte, bt1_1, bt1_2, bt1_3, bt1_4, bt1_5, bt1_6, bt1_7, bt1_8, bt1_9, bt1_10, bt1_11, bt1_12, bt14_1, bt14_2, bt14_3, bt14_4, bt14_5, bt14_6, bt14_7, bt14_8, bt14_9, bt14_10, bt14_11, bt14_12, Nat.reduceLeDiff, Nat.reduceEqDiff, Nat.reduceLT, eq_self, Nat.le_refl, Nat.le_zero_eq, Nat.not_lt_zero, b2_t, c_rt, tx_l, ew', en, tw, c_bc]
        rw [bc_10 _ (by simp)]
      · obtain ⟨x2, y2, e1, e2, p⟩ := m_doP hf G V D h0 ok.1 E (by decide) (by decide) ok.2
        refine ⟨y2, ?_, p⟩
        have c2 := cn.mp ok.2
        have st := m_standing (v := 2) hf (by decide) p.1.r H'
        simp (disch := omega) only [D_X7_fall_0, D_X7_fall_38, e, li0, li1, li2, li3, li4, li5, li6, li7, li8, li9, li10, li12, li24, li31, li40, li160, n_le, n_lt, n_eq, n_m1, n_add, mr4, mr6, mr7, mr10, mr40, mr160, ml4, ml6, ml7, ml10, ml40, ml160, gu_ib, nI_nat, bi_s, vl_e, gu_t, if_true, if_false, reduceIte, bt1_1, bt1_2, bt1_3, bt1_4, bt1_5, bt1_6, bt1_7, bt1_8, bt1_9, bt1_10, bt1_11, bt1_12, bt14_1, bt14_2, bt14_3, bt14_4, bt14_5, bt14_6, bt14_7, bt14_8, bt14_9, bt14_10, bt14_11, bt14_12, Nat.reduceLeDiff, Nat.reduceEqDiff, Nat.reduceLT, eq_self, Nat.le_refl, Nat.le_zero_eq, Nat.not_lt_zero, w1, b2_t, m_nt h0, M_sd D.r (show i < 10 by omega), c2, m_room D ok.1 h0, e1, e2, st]
    · obtain ⟨x, z, ew, en, C', F'⟩ := c_doN hf G V C E Q ok
      have ew' : D_X2_write_0 (nI 7) (nI i) (nI 0) (nI 0) (nI 0) (nI 0) μ = some x := ew
      refine WW_q G V (QQ_n z 0 (by decide) ?_ C' F' fun x m e D h0 => ?_)
      · simp only [D_X6_fall_0, D_X6_isOutsider_0, wC, q1, li0, li1, li2, li3, li4, li5, li6, li7, li8, li9, li10, li12, li24, li31, li40, li160, n_le, n_lt, n_eq, n_m1, n_add, mr4, mr6, mr7, mr10, mr40, mr160, ml4, ml6, ml7, ml10, ml40, ml160, gu_ib, nI_nat, bi_s, vl_e, gu_t, if_true, if_false, reduceIte, bt1_1, bt1_2, bt1_3, bt1_4, bt1_5, bt1_6, bt1_7, bt1_8, bt1_9, bt1_10, bt1_11, bt1_12, bt14_1, bt14_2, bt14_3, bt14_4, bt14_5, bt14_6, bt14_7, bt14_8, bt14_9, bt14_10, bt14_11, bt14_12, Nat.reduceLeDiff, Nat.reduceEqDiff, Nat.reduceLT, eq_self, Nat.le_refl, Nat.le_zero_eq, Nat.not_lt_zero, b2_t, c_rt, tx_l, ew', en, tx_r]
      · have nf := m_nf (k := 2) (j := 2) h0 (by decide) (by decide) (by decide)
        by_cases l2 : sd (run ev n) i = 0
        · have rf := m_roomF (k := 2) D (show n = 160 by have : ¬ n < 160 := fun z => ok ⟨z, cn.mpr l2⟩; omega) h0 (by decide) (by decide)
          simp (disch := omega) only [D_X7_fall_0, D_X7_fall_38, e, li0, li1, li2, li3, li4, li5, li6, li7, li8, li9, li10, li12, li24, li31, li40, li160, n_le, n_lt, n_eq, n_m1, n_add, mr4, mr6, mr7, mr10, mr40, mr160, ml4, ml6, ml7, ml10, ml40, ml160, gu_ib, nI_nat, bi_s, vl_e, gu_t, if_true, if_false, reduceIte, bt1_1, bt1_2, bt1_3, bt1_4, bt1_5, bt1_6, bt1_7, bt1_8, bt1_9, bt1_10, bt1_11, bt1_12, bt14_1, bt14_2, bt14_3, bt14_4, bt14_5, bt14_6, bt14_7, bt14_8, bt14_9, bt14_10, bt14_11, bt14_12, Nat.reduceLeDiff, Nat.reduceEqDiff, Nat.reduceLT, eq_self, Nat.le_refl, Nat.le_zero_eq, Nat.not_lt_zero, w1, b2_t, m_nt h0, M_sd D.r (show i < 10 by omega), l2, Bool.false_eq_true, rf, kd]
        · simp (disch := omega) only [D_X7_fall_0, D_X7_fall_38, e, li0, li1, li2, li3, li4, li5, li6, li7, li8, li9, li10, li12, li24, li31, li40, li160, n_le, n_lt, n_eq, n_m1, n_add, mr4, mr6, mr7, mr10, mr40, mr160, ml4, ml6, ml7, ml10, ml40, ml160, gu_ib, nI_nat, bi_s, vl_e, gu_t, if_true, if_false, reduceIte, bt1_1, bt1_2, bt1_3, bt1_4, bt1_5, bt1_6, bt1_7, bt1_8, bt1_9, bt1_10, bt1_11, bt1_12, bt14_1, bt14_2, bt14_3, bt14_4, bt14_5, bt14_6, bt14_7, bt14_8, bt14_9, bt14_10, bt14_11, bt14_12, Nat.reduceLeDiff, Nat.reduceEqDiff, Nat.reduceLT, eq_self, Nat.le_refl, Nat.le_zero_eq, Nat.not_lt_zero, w1, b2_t, m_nt h0, M_sd D.r (show i < 10 by omega), l2, Bool.false_eq_true, nf, kd]
end
