/-! questions that go over: without, undone -/
section
variable {fu n N M : Nat} {ev : Nat → Ev} {μ m : Mem} {s t : Sp} {P : Nat → Prop}
theorem CI_32 {x : Mem} (S : CS ev n 32 μ x t M P) (C : CI ev n μ) : CI ev n x ∧ Fr (fun q => q ≤ 83) μ x := by
  obtain ⟨F, rt, it, -⟩ := S
  obtain ⟨g, n1, r, -⟩ := C
  exact ⟨⟨fun k hk => LG_F F (by unfold AB; omega) (g k hk), by rw [F.I (by unfold AB; omega)]; exact n1, RC_Fr F (fun q z => by unfold AB at z; omega) r, t, M, rt, it⟩, F.mo fun q z => by unfold AB at z; omega⟩
theorem m_ret {x : Mem} (hf : 200 < fu) (G : EG ev n) (D : MI ev n m) (h0 : m.1 85 0 = nI 0) (F : Fr AG m x) (E : E85 m x) : Ok (D_X7_goesOver_0 fu x) (fun y => MI ev n y ∧ y.1 85 0 = nI 0 ∧ Fr (fun q => q = 85 ∨ 87 ≤ q ∧ q ≤ 127) m y) := by
  have g : ∀ k, k < n → MG x k (ev k) := fun k hk => MG_F F (fun q z => by unfold AG at z; omega) (D.g k hk)
  refine (m_over hf G g (by rw [E 5 (by decide) (by decide)]; exact D.n) (by rw [E 48 (by decide) (by decide)]; exact D.o)).mo fun y p => ?_
  obtain ⟨F2, E2, R, -, -⟩ := p
  exact ⟨⟨fun k hk => MG_F F2 (fun q z => by unfold AG at z; omega) (g k hk), by rw [E2 5 (by decide) (by decide), E 5 (by decide) (by decide)]; exact D.n, R, by rw [E2 48 (by decide) (by decide), E 48 (by decide) (by decide)]; exact D.o⟩, by rw [E2 0 (by decide) (by decide), E 0 (by decide) (by decide)]; exact h0, Fr.tr (F.mo fun q z => by unfold AG at z; omega) (F2.mo fun q z => by unfold AG at z; omega)⟩
theorem m_behind {x : Mem} {i : Nat} (hf : 200 < fu) (hi : i < 10) (G : EG ev n) (D : MI ev n m) (h0 : m.1 85 0 = nI 0) (F : Fr AG m x) (E : E85 m x) (R : RM x t) (H : Iv N t) : ∃ y, D_X7_behind_0 fu (nI i) x = some (zL (bA t i), y) ∧ MI ev n y ∧ y.1 85 0 = nI 0 ∧ Fr (fun q => q = 85 ∨ 87 ≤ q ∧ q ≤ 127) m y := by
  obtain ⟨y, e, p⟩ := ok_eq (m_ret hf G D h0 F E)
  refine ⟨y, ?_, p⟩
  unfold D_X7_behind_0
  rw [m_bearsAll hf hi R H, bi_s, e, bi_s]
theorem QQ_g {β : Type} {cd : Nat → Nat} {r : Option ((β ⊕ String) × Mem)} {M : Mem → Option (β × Mem)} (v : β) (x : Mem) (hr : r = some (.inl v, x)) (hx : CI ev n x ∧ Fr (fun q => q ≤ 83) μ x) (hM : ∀ y m, wI y 85 0 (nI 0) = m → MI ev n m → m.1 85 0 = nI 0 → ∃ m', M y = some (v, m') ∧ MI ev n m' ∧ m'.1 85 0 = nI 0 ∧ Fr (fun q => q = 85 ∨ 87 ≤ q ∧ q ≤ 127) m m') : QQ ev n cd μ r M := ⟨.inl v, x, ho_l, hr, hx.1, hx.2, fun y m e D h0 => by
  obtain ⟨m', a, b⟩ := hM y m e D h0
  exact ⟨v, m', a, b⟩⟩
theorem q_undone (hf : 200 < fu) (G : EG ev n) (C : CI ev n μ) (a1 : Int32) : QQ ev n (kd 1 0 0) μ (D_X6_undone_0 fu a1 μ) (D_X7_undone_0 fu a1) := by
  have n160 := G.1
  cases q1 : iB a1 n with
  | false =>
    refine QQ_r (.inr 0) 0 C (ho_r (by decide)) ?_ fun x m e D h0 => ?_
    · simp only [D_X6_undone_0, c_isE C, q1, li0, li1, li2, li3, li4, li5, li6, li7, li8, li9, li10, li12, li24, li31, li40, li160, n_le, n_lt, n_eq, n_m1, n_add, mr4, mr6, mr7, mr10, mr40, mr160, ml4, ml6, ml7, ml10, ml40, ml160, gu_ib, nI_nat, bi_s, vl_e, gu_t, if_true, if_false, reduceIte, bt1_1, bt1_2, bt1_3, bt1_4, bt1_5, bt1_6, bt1_7, bt1_8, bt1_9, bt1_10, bt1_11, bt1_12, bt14_1, bt14_2, bt14_3, bt14_4, bt14_5, bt14_6, bt14_7, bt14_8, bt14_9, bt14_10, bt14_11, bt14_12, Nat.reduceLeDiff, Nat.reduceEqDiff, Nat.reduceLT, eq_self, Nat.le_refl, Nat.le_zero_eq, Nat.not_lt_zero, b2_f, c_tf, tx_r, cAn]
    · simp only [D_X7_undone_0, e, li0, li1, li2, li3, li4, li5, li6, li7, li8, li9, li10, li12, li24, li31, li40, li160, n_le, n_lt, n_eq, n_m1, n_add, mr4, mr6, mr7, mr10, mr40, mr160, ml4, ml6, ml7, ml10, ml40, ml160, gu_ib, nI_nat, bi_s, vl_e, gu_t, if_true, if_false, reduceIte, bt1_1, bt1_2, bt1_3, bt1_4, bt1_5, bt1_6, bt1_7, bt1_8, bt1_9, bt1_10, bt1_11, bt1_12, bt14_1, bt14_2, bt14_3, bt14_4, bt14_5, bt14_6, bt14_7, bt14_8, bt14_9, bt14_10, bt14_11, bt14_12, Nat.reduceLeDiff, Nat.reduceEqDiff, Nat.reduceLT, eq_self, Nat.le_refl, Nat.le_zero_eq, Nat.not_lt_zero, m_isE D n160 h0, q1, Bool.false_eq_true, mAn, kd]
  | true =>
    obtain ⟨i, rfl, hi⟩ := iB_n (by omega) q1
    obtain ⟨⟨v, x⟩, ex, ev', S⟩ := ok_eq (c_without (b := i) hf (by omega) G C.g C.n C.t)
    refine QQ_g (nI (nF ev (fun k => decide (k ≠ i)) sp0 n)) x ?_ (CI_32 S C) fun y m e D h0 => ?_
    · simp only [D_X6_undone_0, c_isE C, q1, b2_t, c_tt, tx_l, bi_s, ex]
      rw [show v = _ from ev']
    · obtain ⟨x1, e1, v1, F1, E1, R1, H1, -⟩ := ok_eq (m_without (b := i) hf (by omega) G D.g D.n D.o)
      obtain ⟨y1, e2, p⟩ := ok_eq (m_ret hf G D h0 F1 E1)
      refine ⟨y1, ?_, p⟩
      simp only [D_X7_undone_0, e, li0, vl_e, m_isE D n160 h0, q1, bi_s, reduceIte, e1, e2, v1]
theorem q_without (hf : 200 < fu) (G : EG ev n) (C : CI ev n μ) (a1 a2 : Int32) : QQ ev n (kd 1 2 0) μ (D_X6_without_0 fu a1 a2 μ) (D_X7_without_0 fu a1 a2) := by
  have n160 := G.1
  cases q1 : iB a1 n with
  | false =>
    refine QQ_r (.inr 0) 0 C (ho_r (by decide)) ?_ fun x m e D h0 => ?_
    · simp only [D_X6_without_0, c_isE C, q1, li0, li1, li2, li3, li4, li5, li6, li7, li8, li9, li10, li12, li24, li31, li40, li160, n_le, n_lt, n_eq, n_m1, n_add, mr4, mr6, mr7, mr10, mr40, mr160, ml4, ml6, ml7, ml10, ml40, ml160, gu_ib, nI_nat, bi_s, vl_e, gu_t, if_true, if_false, reduceIte, bt1_1, bt1_2, bt1_3, bt1_4, bt1_5, bt1_6, bt1_7, bt1_8, bt1_9, bt1_10, bt1_11, bt1_12, bt14_1, bt14_2, bt14_3, bt14_4, bt14_5, bt14_6, bt14_7, bt14_8, bt14_9, bt14_10, bt14_11, bt14_12, Nat.reduceLeDiff, Nat.reduceEqDiff, Nat.reduceLT, eq_self, Nat.le_refl, Nat.le_zero_eq, Nat.not_lt_zero, b2_f, c_tf, tx_r, cAn]
    · simp only [D_X7_without_0, e, li0, li1, li2, li3, li4, li5, li6, li7, li8, li9, li10, li12, li24, li31, li40, li160, n_le, n_lt, n_eq, n_m1, n_add, mr4, mr6, mr7, mr10, mr40, mr160, ml4, ml6, ml7, ml10, ml40, ml160, gu_ib, nI_nat, bi_s, vl_e, gu_t, if_true, if_false, reduceIte, bt1_1, bt1_2, bt1_3, bt1_4, bt1_5, bt1_6, bt1_7, bt1_8, bt1_9, bt1_10, bt1_11, bt1_12, bt14_1, bt14_2, bt14_3, bt14_4, bt14_5, bt14_6, bt14_7, bt14_8, bt14_9, bt14_10, bt14_11, bt14_12, Nat.reduceLeDiff, Nat.reduceEqDiff, Nat.reduceLT, eq_self, Nat.le_refl, Nat.le_zero_eq, Nat.not_lt_zero, m_isE D n160 h0, q1, Bool.false_eq_true, mAn, kd]
  | true =>
    cases q2 : inC a2 (nI 0) (nI 9) with
    | false =>
      have w := fun m => mWq q2 (L := 0) (H := 9) rfl rfl m
      refine QQ_r (.inr 1) 0 C (ho_r (by decide)) ?_ fun x m e D h0 => ?_
      · simp only [D_X6_without_0, D_X6_isInsurer_0, c_isE C, q1, li0, li1, li2, li3, li4, li5, li6, li7, li8, li9, li10, li12, li24, li31, li40, li160, n_le, n_lt, n_eq, n_m1, n_add, mr4, mr6, mr7, mr10, mr40, mr160, ml4, ml6, ml7, ml10, ml40, ml160, gu_ib, nI_nat, bi_s, vl_e, gu_t, if_true, if_false, reduceIte, bt1_1, bt1_2, bt1_3, bt1_4, bt1_5, bt1_6, bt1_7, bt1_8, bt1_9, bt1_10, bt1_11, bt1_12, bt14_1, bt14_2, bt14_3, bt14_4, bt14_5, bt14_6, bt14_7, bt14_8, bt14_9, bt14_10, bt14_11, bt14_12, Nat.reduceLeDiff, Nat.reduceEqDiff, Nat.reduceLT, eq_self, Nat.le_refl, Nat.le_zero_eq, Nat.not_lt_zero, b2_t, c_tt, tx_l, wC, q2, b2_f, c_rf, tx_r, cAn]
      · have nf := m_nf (k := 2) (j := 1) h0 (by decide) (by decide) (by decide)
        simp only [D_X7_without_0, D_X7_isPerson_0, e, m_isE D n160 h0, q1, li0, li1, li2, li3, li4, li5, li6, li7, li8, li9, li10, li12, li24, li31, li40, li160, n_le, n_lt, n_eq, n_m1, n_add, mr4, mr6, mr7, mr10, mr40, mr160, ml4, ml6, ml7, ml10, ml40, ml160, gu_ib, nI_nat, bi_s, vl_e, gu_t, if_true, if_false, reduceIte, bt1_1, bt1_2, bt1_3, bt1_4, bt1_5, bt1_6, bt1_7, bt1_8, bt1_9, bt1_10, bt1_11, bt1_12, bt14_1, bt14_2, bt14_3, bt14_4, bt14_5, bt14_6, bt14_7, bt14_8, bt14_9, bt14_10, bt14_11, bt14_12, Nat.reduceLeDiff, Nat.reduceEqDiff, Nat.reduceLT, eq_self, Nat.le_refl, Nat.le_zero_eq, Nat.not_lt_zero, w, b2_f, nf, Bool.false_eq_true, mAn, kd]
    | true =>
      have w := fun m => mWq q2 (L := 0) (H := 9) rfl rfl m
      obtain ⟨i, rfl, hi⟩ := iB_n (by omega) q1
      obtain ⟨j, rfl, jl, hj⟩ := inC_n (by decide) (by decide) q2
      obtain ⟨⟨v, x⟩, ex, ev', S⟩ := ok_eq (c_without (b := i) hf (by omega) G C.g C.n C.t)
      refine QQ_g (zL (bA (rF ev (fun k => decide (k ≠ i)) sp0 n) j)) x ?_ (CI_32 S C) fun y m e D h0 => ?_
      · have cb : D_X1_borneInAll_0 fu x 46 (nI j) = some (zL (bA (rF ev (fun k => decide (k ≠ i)) sp0 n) j)) := c_borneAll hf (by omega) S.2.1 S.2.2.1
        simp only [D_X6_without_0, D_X6_isInsurer_0, c_isE C, q1, li0, li1, li2, li3, li4, li5, li6, li7, li8, li9, li10, li12, li24, li31, li40, li160, n_le, n_lt, n_eq, n_m1, n_add, mr4, mr6, mr7, mr10, mr40, mr160, ml4, ml6, ml7, ml10, ml40, ml160, gu_ib, nI_nat, bi_s, vl_e, gu_t, if_true, if_false, reduceIte, bt1_1, bt1_2, bt1_3, bt1_4, bt1_5, bt1_6, bt1_7, bt1_8, bt1_9, bt1_10, bt1_11, bt1_12, bt14_1, bt14_2, bt14_3, bt14_4, bt14_5, bt14_6, bt14_7, bt14_8, bt14_9, bt14_10, bt14_11, bt14_12, Nat.reduceLeDiff, Nat.reduceEqDiff, Nat.reduceLT, eq_self, Nat.le_refl, Nat.le_zero_eq, Nat.not_lt_zero, b2_t, c_tt, tx_l, wC, q2, c_rt, ex, cb]
      · obtain ⟨x1, e1, v1, F1, E1, R1, H1, -⟩ := ok_eq (m_without (b := i) hf (by omega) G D.g D.n D.o)
        obtain ⟨y1, e2, p⟩ := m_behind (i := j) hf (by omega) G D h0 F1 E1 R1 H1
        refine ⟨y1, ?_, p⟩
        simp only [D_X7_without_0, D_X7_isPerson_0, e, li0, li1, li2, li3, li4, li5, li6, li7, li8, li9, li10, li12, li24, li31, li40, li160, n_le, n_lt, n_eq, n_m1, n_add, mr4, mr6, mr7, mr10, mr40, mr160, ml4, ml6, ml7, ml10, ml40, ml160, gu_ib, nI_nat, bi_s, vl_e, gu_t, if_true, if_false, reduceIte, bt1_1, bt1_2, bt1_3, bt1_4, bt1_5, bt1_6, bt1_7, bt1_8, bt1_9, bt1_10, bt1_11, bt1_12, bt14_1, bt14_2, bt14_3, bt14_4, bt14_5, bt14_6, bt14_7, bt14_8, bt14_9, bt14_10, bt14_11, bt14_12, Nat.reduceLeDiff, Nat.reduceEqDiff, Nat.reduceLT, eq_self, Nat.le_refl, Nat.le_zero_eq, Nat.not_lt_zero, m_isE D n160 h0, q1, w, b2_t, m_nt h0, e1, e2]
end
