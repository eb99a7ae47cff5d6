/-! questions that go over: after -/
section
variable {fu n N M : Nat} {ev : Nat → Ev} {μ m : Mem} {s t : Sp} {P : Nat → Prop}
theorem c_after {i j : Nat} (hf : 200 < fu) (hi : i < n) (hj : j < 10) (G : EG ev n) (C : CI ev n μ) : Ok ((D_X0_clear_0 fu 32 μ).bind fun x17 => D_X6_after_26 fu fu (nI i) (nI j) 0 x17) (fun r => r.1 = .inl (zL (bA (run ev (i + 1)) j)) ∧ CS ev n 32 μ r.2 (run ev (i + 1)) (i + 1) (fun k => k < i + 1)) := by
  obtain ⟨t0, M0, C0, H0⟩ := C.t
  have n160 := G.1
  refine Ok.b (c_clear hf (by decide) (RC_24 C0 H0)) fun x p => ?_
  refine Ok.for (fun m k x => D_X6_after_26 fu m (nI i) (nI j) (nI k) x) (i + 1) (fun k x => CS ev n 32 μ x (run ev k) k (fun i => i < k)) ?_ ?_ fu 0 x (by omega) (by omega) (by
    obtain ⟨a, b, c, d⟩ := cs_0 (ev := ev) (n := n) p
    exact ⟨a, b, c, DS_mo (fun i _ z => absurd z not_false) d⟩)
  · intro m k x hk S kk
    simp (disch := omega) only [D_X6_after_26, li0, li1, li2, li3, li4, li5, li6, li7, li8, li9, li10, li12, li24, li31, li40, li160, n_le, n_lt, n_eq, n_m1, n_add, mr4, mr6, mr7, mr10, mr40, mr160, ml4, ml6, ml7, ml10, ml40, ml160, gu_ib, nI_nat, bi_s, vl_e, gu_t, if_true, if_false, reduceIte, bt1_1, bt1_2, bt1_3, bt1_4, bt1_5, bt1_6, bt1_7, bt1_8, bt1_9, bt1_10, bt1_11, bt1_12, bt14_1, bt14_2, bt14_3, bt14_4, bt14_5, bt14_6, bt14_7, bt14_8, bt14_9, bt14_10, bt14_11, bt14_12]
    rw [if_neg (by omega)]
    refine Ok.b (cs_step hf (by decide) (by decide) G C.g (show k < n by omega) (by omega) (by omega) S) fun r p => ?_
    refine kk _ ?_
    rw [run_s]
    exact ⟨p.2.1, p.2.2.1, p.2.2.2.1, DS_mo (fun i _ z => by omega) p.2.2.2.2⟩
  · intro m x S
    have cb : D_X1_borneInAll_0 fu x 46 (nI j) = some (zL (bA (run ev (i + 1)) j)) := c_borneAll hf hj S.2.1 S.2.2.1
    simp (disch := omega) only [D_X6_after_26, li0, li1, li2, li3, li4, li5, li6, li7, li8, li9, li10, li12, li24, li31, li40, li160, n_le, n_lt, n_eq, n_m1, n_add, mr4, mr6, mr7, mr10, mr40, mr160, ml4, ml6, ml7, ml10, ml40, ml160, gu_ib, nI_nat, bi_s, vl_e, gu_t, if_true, if_false, reduceIte, bt1_1, bt1_2, bt1_3, bt1_4, bt1_5, bt1_6, bt1_7, bt1_8, bt1_9, bt1_10, bt1_11, bt1_12, bt14_1, bt14_2, bt14_3, bt14_4, bt14_5, bt14_6, bt14_7, bt14_8, bt14_9, bt14_10, bt14_11, bt14_12, cb]
    rw [if_pos (by omega)]
    exact Ok.s ⟨rfl, S⟩
theorem m_after {i j : Nat} (hf : 200 < fu) (hi : i < n) (hj : j < 10) (G : EG ev n) (D : MI ev n m) (h0 : m.1 85 0 = nI 0) : Ok ((D_X7_begins_0 fu m).bind fun x7 => D_X7_after_30 fu fu (nI i) (nI j) 0 x7) (fun r => r.1 = zL (bA (run ev (i + 1)) j) ∧ MI ev n r.2 ∧ r.2.1 85 0 = nI 0 ∧ Fr (fun q => q = 85 ∨ 87 ≤ q ∧ q ≤ 127) m r.2) := by
  have n160 := G.1
  refine Ok.b (m_begins hf) fun x p => ?_
  refine Ok.for (fun q k x => D_X7_after_30 fu q (nI i) (nI j) (nI k) x) (i + 1) (fun k x => MS ev n m x (run ev k) k (fun i => i < k)) ?_ ?_ fu 0 x (by omega) (by omega) (by
    obtain ⟨a, b, c, d, e⟩ := ms_0 G p
    exact ⟨a, b, c, d, DS_mo (fun i _ z => absurd z not_false) e⟩)
  · intro q k x hk S kk
    have c48 : x.1 85 48 = nI 0 := by rw [S.2.1 48 (by decide) (by decide)]; exact D.o
    simp (disch := omega) only [D_X7_after_30, li0, li1, li2, li3, li4, li5, li6, li7, li8, li9, li10, li12, li24, li31, li40, li160, n_le, n_lt, n_eq, n_m1, n_add, mr4, mr6, mr7, mr10, mr40, mr160, ml4, ml6, ml7, ml10, ml40, ml160, gu_ib, nI_nat, bi_s, vl_e, gu_t, if_true, if_false, reduceIte, bt1_1, bt1_2, bt1_3, bt1_4, bt1_5, bt1_6, bt1_7, bt1_8, bt1_9, bt1_10, bt1_11, bt1_12, bt14_1, bt14_2, bt14_3, bt14_4, bt14_5, bt14_6, bt14_7, bt14_8, bt14_9, bt14_10, bt14_11, bt14_12]
    rw [if_neg (by omega)]
    refine Ok.b (ms_step hf G D.g (show k < n by omega) (by omega) (by omega) (Or.inl c48) S) fun y p => ?_
    refine kk _ ?_
    rw [run_s]
    exact ⟨p.2.1, p.2.2.1, p.2.2.2.1, p.2.2.2.2.1, DS_mo (fun i _ z => by omega) p.2.2.2.2.2⟩
  · intro q x S
    obtain ⟨F1, E1, R1, H1, -⟩ := S
    obtain ⟨y1, e2, p⟩ := m_behind (i := j) hf hj G D h0 F1 E1 R1 H1
    simp (disch := omega) only [D_X7_after_30, li0, li1, li2, li3, li4, li5, li6, li7, li8, li9, li10, li12, li24, li31, li40, li160, n_le, n_lt, n_eq, n_m1, n_add, mr4, mr6, mr7, mr10, mr40, mr160, ml4, ml6, ml7, ml10, ml40, ml160, gu_ib, nI_nat, bi_s, vl_e, gu_t, if_true, if_false, reduceIte, bt1_1, bt1_2, bt1_3, bt1_4, bt1_5, bt1_6, bt1_7, bt1_8, bt1_9, bt1_10, bt1_11, bt1_12, bt14_1, bt14_2, bt14_3, bt14_4, bt14_5, bt14_6, bt14_7, bt14_8, bt14_9, bt14_10, bt14_11, bt14_12, e2]
    rw [if_pos (by omega)]
    exact Ok.s ⟨rfl, p⟩
theorem q_after (hf : 200 < fu) (G : EG ev n) (C : CI ev n μ) (a1 a2 : Int32) : QQ ev n (kd 1 2 0) μ (D_X6_after_0 fu a1 a2 μ) (D_X7_after_0 fu a1 a2) := by
  have n160 := G.1
  cases q1 : iB a1 n with
  | false =>
    refine QQ_r (.inr 0) 0 C (ho_r (by decide)) ?_ fun x m e D h0 => ?_
    · simp only [D_X6_after_0, c_isE C, q1, li0, li1, li2, li3, li4, li5, li6, li7, li8, li9, li10, li12, li24, li31, li40, li160, n_le, n_lt, n_eq, n_m1, n_add, mr4, mr6, mr7, mr10, mr40, mr160, ml4, ml6, ml7, ml10, ml40, ml160, gu_ib, nI_nat, bi_s, vl_e, gu_t, if_true, if_false, reduceIte, bt1_1, bt1_2, bt1_3, bt1_4, bt1_5, bt1_6, bt1_7, bt1_8, bt1_9, bt1_10, bt1_11, bt1_12, bt14_1, bt14_2, bt14_3, bt14_4, bt14_5, bt14_6, bt14_7, bt14_8, bt14_9, bt14_10, bt14_11, bt14_12, Nat.reduceLeDiff, Nat.reduceEqDiff, Nat.reduceLT, eq_self, Nat.le_refl, Nat.le_zero_eq, Nat.not_lt_zero, b2_f, c_tf, tx_r, cAn]
    · simp only [D_X7_after_0, e, li0, li1, li2, li3, li4, li5, li6, li7, li8, li9, li10, li12, li24, li31, li40, li160, n_le, n_lt, n_eq, n_m1, n_add, mr4, mr6, mr7, mr10, mr40, mr160, ml4, ml6, ml7, ml10, ml40, ml160, gu_ib, nI_nat, bi_s, vl_e, gu_t, if_true, if_false, reduceIte, bt1_1, bt1_2, bt1_3, bt1_4, bt1_5, bt1_6, bt1_7, bt1_8, bt1_9, bt1_10, bt1_11, bt1_12, bt14_1, bt14_2, bt14_3, bt14_4, bt14_5, bt14_6, bt14_7, bt14_8, bt14_9, bt14_10, bt14_11, bt14_12, Nat.reduceLeDiff, Nat.reduceEqDiff, Nat.reduceLT, eq_self, Nat.le_refl, Nat.le_zero_eq, Nat.not_lt_zero, m_isE D n160 h0, q1, Bool.false_eq_true, mAn, kd]
  | true =>
    cases q2 : inC a2 (nI 0) (nI 9) with
    | false =>
      have w := fun m => mWq q2 (L := 0) (H := 9) rfl rfl m
      refine QQ_r (.inr 1) 0 C (ho_r (by decide)) ?_ fun x m e D h0 => ?_
      · simp only [D_X6_after_0, D_X6_isInsurer_0, c_isE C, q1, li0, li1, li2, li3, li4, li5, li6, li7, li8, li9, li10, li12, li24, li31, li40, li160, n_le, n_lt, n_eq, n_m1, n_add, mr4, mr6, mr7, mr10, mr40, mr160, ml4, ml6, ml7, ml10, ml40, ml160, gu_ib, nI_nat, bi_s, vl_e, gu_t, if_true, if_false, reduceIte, bt1_1, bt1_2, bt1_3, bt1_4, bt1_5, bt1_6, bt1_7, bt1_8, bt1_9, bt1_10, bt1_11, bt1_12, bt14_1, bt14_2, bt14_3, bt14_4, bt14_5, bt14_6, bt14_7, bt14_8, bt14_9, bt14_10, bt14_11, bt14_12, Nat.reduceLeDiff, Nat.reduceEqDiff, Nat.reduceLT, eq_self, Nat.le_refl, Nat.le_zero_eq, Nat.not_lt_zero, b2_t, c_tt, tx_l, wC, q2, b2_f, c_rf, tx_r, cAn]
      · have nf := m_nf (k := 2) (j := 1) h0 (by decide) (by decide) (by decide)
        simp only [D_X7_after_0, D_X7_isPerson_0, e, m_isE D n160 h0, q1, li0, li1, li2, li3, li4, li5, li6, li7, li8, li9, li10, li12, li24, li31, li40, li160, n_le, n_lt, n_eq, n_m1, n_add, mr4, mr6, mr7, mr10, mr40, mr160, ml4, ml6, ml7, ml10, ml40, ml160, gu_ib, nI_nat, bi_s, vl_e, gu_t, if_true, if_false, reduceIte, bt1_1, bt1_2, bt1_3, bt1_4, bt1_5, bt1_6, bt1_7, bt1_8, bt1_9, bt1_10, bt1_11, bt1_12, bt14_1, bt14_2, bt14_3, bt14_4, bt14_5, bt14_6, bt14_7, bt14_8, bt14_9, bt14_10, bt14_11, bt14_12, Nat.reduceLeDiff, Nat.reduceEqDiff, Nat.reduceLT, eq_self, Nat.le_refl, Nat.le_zero_eq, Nat.not_lt_zero, w, b2_f, nf, Bool.false_eq_true, mAn, kd]
    | true =>
      have w := fun m => mWq q2 (L := 0) (H := 9) rfl rfl m
      obtain ⟨i, rfl, hi⟩ := iB_n (by omega) q1
      obtain ⟨j, rfl, jl, hj⟩ := inC_n (by decide) (by decide) q2
      obtain ⟨⟨v, x⟩, ex, ev', S⟩ := ok_eq (c_after (j := j) hf hi (by omega) G C)
      refine QQ_g (zL (bA (run ev (i + 1)) j)) x ?_ (CI_32 S C) fun y m e D h0 => ?_
      · have e' : v = _ := ev'
        rw [e'] at ex
        simp only [D_X6_after_0, D_X6_isInsurer_0, c_isE C, q1, b2_t, c_tt, tx_l, wC, li0, li9, q2, c_rt, bi_s]
        exact ex
      · obtain ⟨⟨v1, y1⟩, e1, ev1, p⟩ := ok_eq (m_after (j := j) hf hi (by omega) G D h0)
        have e' : v1 = _ := ev1
        rw [e'] at e1
        refine ⟨y1, ?_, p⟩
        simp only [D_X7_after_0, D_X7_isPerson_0, e, li0, li1, li2, vl_e, m_isE D n160 h0, q1, bi_s, reduceIte, w, b2_t, m_nt h0]
        exact e1
end
