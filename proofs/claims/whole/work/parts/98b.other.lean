/-! questions that go over: other -/
section
variable {fu n N M : Nat} {ev : Nat → Ev} {μ m : Mem} {s t : Sp} {P : Nat → Prop}
/-- three rules -/
def aR (a b c : Int32) : Bool := inC a (nI 0) (nI 3) && (inC b (nI 0) (nI 3) && inC c (nI 0) (nI 3))
theorem c_aR (μ : Mem) (a b c : Int32) : D_X6_areRules_0 μ a b c = some (aR a b c) := by
  unfold D_X6_areRules_0 D_X6_isRule_0 aR
  rw [show D_X6_isWithin_0 μ a 0 3 = some (inC a (nI 0) (nI 3)) from wC μ a 0 3, show D_X6_isWithin_0 μ b 0 3 = some (inC b (nI 0) (nI 3)) from wC μ b 0 3, show D_X6_isWithin_0 μ c 0 3 = some (inC c (nI 0) (nI 3)) from wC μ c 0 3]
  cases inC a (nI 0) (nI 3) <;> cases inC b (nI 0) (nI 3) <;> cases inC c (nI 0) (nI 3) <;> rfl
theorem m_aR (μ : Mem) (a b c : Int32) : D_X7_areRules_0 μ a b c = some (aR a b c) := by
  unfold D_X7_areRules_0 aR
  rw [show D_X7_within_0 μ a.toInt64 0 3 = some (inC a (nI 0) (nI 3)) from mWi μ a 0 3, show D_X7_within_0 μ b.toInt64 0 3 = some (inC b (nI 0) (nI 3)) from mWi μ b 0 3, show D_X7_within_0 μ c.toInt64 0 3 = some (inC c (nI 0) (nI 3)) from mWi μ c 0 3]
  cases inC a (nI 0) (nI 3) <;> cases inC b (nI 0) (nI 3) <;> cases inC c (nI 0) (nI 3) <;> rfl
theorem aR_n {a b c : Int32} (h : aR a b c = true) : ∃ i j k, a = nI i ∧ b = nI j ∧ c = nI k ∧ i ≤ 3 ∧ j ≤ 3 ∧ k ≤ 3 := by
  unfold aR at h
  rw [Bool.and_eq_true, Bool.and_eq_true] at h
  obtain ⟨i, e1, -, h1⟩ := inC_n (by decide) (by decide) h.1
  obtain ⟨j, e2, -, h2⟩ := inC_n (by decide) (by decide) h.2.1
  obtain ⟨k, e3, -, h3⟩ := inC_n (by decide) (by decide) h.2.2
  exact ⟨i, j, k, e1, e2, e3, h1, h2, h3⟩
theorem q_other (hf : 200 < fu) (G : EG ev n) (C : CI ev n μ) (a1 a2 a3 a4 : Int32) : QQ ev n (kd 0 1 0) μ (D_X6_other_0 fu a1 a2 a3 a4 μ) (D_X7_other_0 fu a1 a2 a3 a4) := by
  cases q1 : aR a1 a2 a3 with
  | false =>
    refine QQ_r (.inr 1) 0 C (ho_r (by decide)) ?_ fun x m e D h0 => ?_
    · simp only [D_X6_other_0, D_X6_other_22, D_X6_other_23, c_aR, q1, li0, li1, li2, li3, li4, li5, li6, li7, li8, li9, li10, li12, li24, li31, li40, li160, n_le, n_lt, n_eq, n_m1, n_add, mr4, mr6, mr7, mr10, mr40, mr160, ml4, ml6, ml7, ml10, ml40, ml160, gu_ib, nI_nat, bi_s, vl_e, gu_t, if_true, if_false, reduceIte, bt1_1, bt1_2, bt1_3, bt1_4, bt1_5, bt1_6, bt1_7, bt1_8, bt1_9, bt1_10, bt1_11, bt1_12, bt14_1, bt14_2, bt14_3, bt14_4, bt14_5, bt14_6, bt14_7, bt14_8, bt14_9, bt14_10, bt14_11, bt14_12, Nat.reduceLeDiff, Nat.reduceEqDiff, Nat.reduceLT, eq_self, Nat.le_refl, Nat.le_zero_eq, Nat.not_lt_zero, Bool.false_eq_true, c_rf, tx_r, cAn]
    · have nf := m_nf (k := 1) (j := 1) h0 (by decide) (by decide) (by decide)
      simp only [D_X7_other_0, D_X7_other_32, D_X7_other_33, e, li0, li1, li2, li3, li4, li5, li6, li7, li8, li9, li10, li12, li24, li31, li40, li160, n_le, n_lt, n_eq, n_m1, n_add, mr4, mr6, mr7, mr10, mr40, mr160, ml4, ml6, ml7, ml10, ml40, ml160, gu_ib, nI_nat, bi_s, vl_e, gu_t, if_true, if_false, reduceIte, bt1_1, bt1_2, bt1_3, bt1_4, bt1_5, bt1_6, bt1_7, bt1_8, bt1_9, bt1_10, bt1_11, bt1_12, bt14_1, bt14_2, bt14_3, bt14_4, bt14_5, bt14_6, bt14_7, bt14_8, bt14_9, bt14_10, bt14_11, bt14_12, Nat.reduceLeDiff, Nat.reduceEqDiff, Nat.reduceLT, eq_self, Nat.le_refl, Nat.le_zero_eq, Nat.not_lt_zero, m_aR, q1, nf, Bool.false_eq_true, mAn, kd]
  | true =>
    cases q2 : inC a4 (nI 0) (nI 9) with
    | false =>
      have w2 := fun m => mWq q2 (L := 0) (H := 9) rfl rfl m
      refine QQ_r (.inr 1) 0 C (ho_r (by decide)) ?_ fun x m e D h0 => ?_
      · simp only [D_X6_other_0, D_X6_other_22, D_X6_other_23, D_X6_isInsurer_0, wC, c_aR, q1, q2, li0, li1, li2, li3, li4, li5, li6, li7, li8, li9, li10, li12, li24, li31, li40, li160, n_le, n_lt, n_eq, n_m1, n_add, mr4, mr6, mr7, mr10, mr40, mr160, ml4, ml6, ml7, ml10, ml40, ml160, gu_ib, nI_nat, bi_s, vl_e, gu_t, if_true, if_false, reduceIte, bt1_1, bt1_2, bt1_3, bt1_4, bt1_5, bt1_6, bt1_7, bt1_8, bt1_9, bt1_10, bt1_11, bt1_12, bt14_1, bt14_2, bt14_3, bt14_4, bt14_5, bt14_6, bt14_7, bt14_8, bt14_9, bt14_10, bt14_11, bt14_12, Nat.reduceLeDiff, Nat.reduceEqDiff, Nat.reduceLT, eq_self, Nat.le_refl, Nat.le_zero_eq, Nat.not_lt_zero, Bool.false_eq_true, c_rf, tx_r, cAn]
      · have nf := m_nf (k := 1) (j := 1) h0 (by decide) (by decide) (by decide)
        simp only [D_X7_other_0, D_X7_other_32, D_X7_other_33, e, li0, li1, li2, li3, li4, li5, li6, li7, li8, li9, li10, li12, li24, li31, li40, li160, n_le, n_lt, n_eq, n_m1, n_add, mr4, mr6, mr7, mr10, mr40, mr160, ml4, ml6, ml7, ml10, ml40, ml160, gu_ib, nI_nat, bi_s, vl_e, gu_t, if_true, if_false, reduceIte, bt1_1, bt1_2, bt1_3, bt1_4, bt1_5, bt1_6, bt1_7, bt1_8, bt1_9, bt1_10, bt1_11, bt1_12, bt14_1, bt14_2, bt14_3, bt14_4, bt14_5, bt14_6, bt14_7, bt14_8, bt14_9, bt14_10, bt14_11, bt14_12, Nat.reduceLeDiff, Nat.reduceEqDiff, Nat.reduceLT, eq_self, Nat.le_refl, Nat.le_zero_eq, Nat.not_lt_zero, m_aR, q1, w2, nf, Bool.false_eq_true, mAn, kd]
    | true =>
      have w2 := fun m => mWq q2 (L := 0) (H := 9) rfl rfl m
      obtain ⟨a, b, c, rfl, rfl, rfl, h1, h2, h3⟩ := aR_n q1
      obtain ⟨i, rfl, il, hi⟩ := inC_n (by decide) (by decide) q2
      obtain ⟨x, ex, S⟩ := ok_eq (c_byRules hf h1 h2 h3 G C.g C.n C.t)
      have cb : D_X1_borneInAll_0 fu x 46 (nI i) = some (zL (bA (rF ev (fun k => decide (ev k 0 ≠ 3)) (ruS sp0 a b c) n) i)) := c_borneAll hf (by omega) S.2.1 S.2.2.1
      refine QQ_g (zL (bA (rF ev (fun k => decide (ev k 0 ≠ 3)) (ruS sp0 a b c) n) i)) x ?_ (CI_32 S C) fun y m e D h0 => ?_
      · simp only [D_X6_other_0, D_X6_other_23, D_X6_isInsurer_0, wC, c_aR, q1, q2, li0, li1, li2, li3, li4, li5, li6, li7, li8, li9, li10, li12, li24, li31, li40, li160, n_le, n_lt, n_eq, n_m1, n_add, mr4, mr6, mr7, mr10, mr40, mr160, ml4, ml6, ml7, ml10, ml40, ml160, gu_ib, nI_nat, bi_s, vl_e, gu_t, if_true, if_false, reduceIte, bt1_1, bt1_2, bt1_3, bt1_4, bt1_5, bt1_6, bt1_7, bt1_8, bt1_9, bt1_10, bt1_11, bt1_12, bt14_1, bt14_2, bt14_3, bt14_4, bt14_5, bt14_6, bt14_7, bt14_8, bt14_9, bt14_10, bt14_11, bt14_12, Nat.reduceLeDiff, Nat.reduceEqDiff, Nat.reduceLT, eq_self, Nat.le_refl, Nat.le_zero_eq, Nat.not_lt_zero, c_rt, tx_l, ex, cb]
      · obtain ⟨x1, e1, F1, E1, R1, H1⟩ := ok_eq (m_by hf h1 h2 h3 G D)
        obtain ⟨y2, e2, p⟩ := m_behind (i := i) hf (by omega) G D h0 F1 E1 R1 H1
        refine ⟨y2, ?_, p⟩
        simp only [D_X7_other_0, D_X7_other_33, e, li0, li1, li2, li3, li4, li5, li6, li7, li8, li9, li10, li12, li24, li31, li40, li160, n_le, n_lt, n_eq, n_m1, n_add, mr4, mr6, mr7, mr10, mr40, mr160, ml4, ml6, ml7, ml10, ml40, ml160, gu_ib, nI_nat, bi_s, vl_e, gu_t, if_true, if_false, reduceIte, bt1_1, bt1_2, bt1_3, bt1_4, bt1_5, bt1_6, bt1_7, bt1_8, bt1_9, bt1_10, bt1_11, bt1_12, bt14_1, bt14_2, bt14_3, bt14_4, bt14_5, bt14_6, bt14_7, bt14_8, bt14_9, bt14_10, bt14_11, bt14_12, Nat.reduceLeDiff, Nat.reduceEqDiff, Nat.reduceLT, eq_self, Nat.le_refl, Nat.le_zero_eq, Nat.not_lt_zero, m_aR, q1, w2, m_nt h0, e1, e2]
end
