/-! questions that go over: shift -/
section
variable {fu n N M b : Nat} {ev : Nat → Ev} {μ m : Mem} {s t : Sp} {P : Nat → Prop}
theorem m_shift {i p j : Nat} (hf : 200 < fu) (hi : i < n) (hp : p ≤ n) (hj : j < 10) (G : EG ev n) (D : MI ev n m) (h0 : m.1 85 0 = nI 0) : Ok ((D_X7_begins_0 fu m).bind fun x11 => D_X7_shift_62 fu fu (nI i) (nI p) (nI j) 0 x11) (fun r => r.1 = zL (bA (sfS ev n i p (n + 1)) j) ∧ MI ev n r.2 ∧ r.2.1 85 0 = nI 0 ∧ Fr (fun q => q = 85 ∨ 87 ≤ q ∧ q ≤ 127) m r.2) := by
  have n160 := G.1
  refine Ok.b (m_begins hf) fun x pp => ?_
  refine Ok.for (fun q k x => D_X7_shift_62 fu q (nI i) (nI p) (nI j) (nI k) x) (n + 1) (fun k x => MS ev n m x (sfS ev n i p k) (2 * k) (sfP i p k)) ?_ ?_ fu 0 x (by omega) (by omega) (by
    obtain ⟨a, b, c, d, e⟩ := ms_0 G pp
    exact ⟨a, b, c, d, DS_mo (fun i _ z => absurd z not_false) e⟩)
  · intro q k x hk S kk
    have cn : ∀ {y : Mem}, E85 m y → y.1 85 5 = nI n := fun E => by rw [E 5 (by decide) (by decide)]; exact D.n
    have c48 : ∀ {y : Mem}, E85 m y → y.1 85 48 = nI 0 := fun E => by rw [E 48 (by decide) (by decide)]; exact D.o
    have fin : ∀ y t M, M ≤ 2 * k + 1 → MS ev n m y t M (fun j => j < k ∧ j ≠ i ∨ j = i ∧ p < k + 1) → (if k = p then go (sfS ev n i p k) (ev i) else sfS ev n i p k) = t → Ok (D_X7_shift_82 fu (D_X7_shift_62 fu q) (nI i) (nI p) (nI j) (nI k) y) (fun r => r.1 = zL (bA (sfS ev n i p (n + 1)) j) ∧ MI ev n r.2 ∧ r.2.1 85 0 = nI 0 ∧ Fr (fun q => q = 85 ∨ 87 ≤ q ∧ q ≤ 127) m r.2) := fun y t M hM S2 et => by
      have es : sfS ev n i p (k + 1) = if k < n ∧ k ≠ i then go t (ev k) else t := by rw [← et]; rfl
      simp (disch := omega) only [D_X7_shift_82, D_X7_shift_103, li0, li1, li2, li3, li4, li5, li6, li7, li8, li9, li10, li12, li24, li31, li40, li160, n_le, n_lt, n_eq, n_m1, n_add, mr4, mr6, mr7, mr10, mr40, mr160, ml4, ml6, ml7, ml10, ml40, ml160, gu_ib, nI_nat, bi_s, vl_e, gu_t, if_true, if_false, reduceIte, bt1_1, bt1_2, bt1_3, bt1_4, bt1_5, bt1_6, bt1_7, bt1_8, bt1_9, bt1_10, bt1_11, bt1_12, bt14_1, bt14_2, bt14_3, bt14_4, bt14_5, bt14_6, bt14_7, bt14_8, bt14_9, bt14_10, bt14_11, bt14_12, cn S2.2.1]
      by_cases c1 : n ≤ k
      · rw [if_pos c1]
        refine kk _ ?_
        rw [es, if_neg (by omega)]
        exact ⟨S2.1, S2.2.1, S2.2.2.1, Iv_mo (by omega) S2.2.2.2.1, DS_mo (fun j' _ z => by unfold sfP; omega) S2.2.2.2.2⟩
      · rw [if_neg c1]
        by_cases c2 : k = i
        · rw [if_pos c2]
          refine kk _ ?_
          rw [es, if_neg (by omega)]
          exact ⟨S2.1, S2.2.1, S2.2.2.1, Iv_mo (by omega) S2.2.2.2.1, DS_mo (fun j' _ z => by unfold sfP; omega) S2.2.2.2.2⟩
        · rw [if_neg c2]
          refine Ok.b (ms_step hf G D.g (show k < n by omega) (by omega) (by omega) (Or.inl (c48 S2.2.1)) S2) fun r p' => ?_
          refine kk _ ?_
          rw [es, if_pos ⟨by omega, c2⟩]
          exact ⟨p'.2.1, p'.2.2.1, p'.2.2.2.1, Iv_mo (by omega) p'.2.2.2.2.1, DS_mo (fun j' _ z => by unfold sfP; omega) p'.2.2.2.2.2⟩
    simp (disch := omega) only [D_X7_shift_62, li0, li1, li2, li3, li4, li5, li6, li7, li8, li9, li10, li12, li24, li31, li40, li160, n_le, n_lt, n_eq, n_m1, n_add, mr4, mr6, mr7, mr10, mr40, mr160, ml4, ml6, ml7, ml10, ml40, ml160, gu_ib, nI_nat, bi_s, vl_e, gu_t, if_true, if_false, reduceIte, bt1_1, bt1_2, bt1_3, bt1_4, bt1_5, bt1_6, bt1_7, bt1_8, bt1_9, bt1_10, bt1_11, bt1_12, bt14_1, bt14_2, bt14_3, bt14_4, bt14_5, bt14_6, bt14_7, bt14_8, bt14_9, bt14_10, bt14_11, bt14_12, cn S.2.1]
    rw [if_neg (by omega)]
    by_cases c : k = p
    · rw [if_pos c]
      refine Ok.b (ms_step hf G D.g hi (by unfold sfP; omega) (by omega) (Or.inl (c48 S.2.1)) S) fun r p' => ?_
      refine fin _ _ _ (Nat.le_refl _) ⟨p'.2.1, p'.2.2.1, p'.2.2.2.1, p'.2.2.2.2.1, DS_mo (fun j' _ z => by unfold sfP at z; omega) p'.2.2.2.2.2⟩ (by rw [if_pos c])
    · rw [if_neg c]
      exact fin _ _ _ (by omega) ⟨S.1, S.2.1, S.2.2.1, S.2.2.2.1, DS_mo (fun j' _ z => by unfold sfP at z; omega) S.2.2.2.2⟩ (by rw [if_neg c])
  · intro q x S
    have cn : x.1 85 5 = nI n := by rw [S.2.1 5 (by decide) (by decide)]; exact D.n
    obtain ⟨F1, E1, R1, H1, -⟩ := S
    obtain ⟨y1, e2, p⟩ := m_behind (i := j) hf hj G D h0 F1 E1 R1 H1
    simp (disch := omega) only [D_X7_shift_62, li0, li1, li2, li3, li4, li5, li6, li7, li8, li9, li10, li12, li24, li31, li40, li160, n_le, n_lt, n_eq, n_m1, n_add, mr4, mr6, mr7, mr10, mr40, mr160, ml4, ml6, ml7, ml10, ml40, ml160, gu_ib, nI_nat, bi_s, vl_e, gu_t, if_true, if_false, reduceIte, bt1_1, bt1_2, bt1_3, bt1_4, bt1_5, bt1_6, bt1_7, bt1_8, bt1_9, bt1_10, bt1_11, bt1_12, bt14_1, bt14_2, bt14_3, bt14_4, bt14_5, bt14_6, bt14_7, bt14_8, bt14_9, bt14_10, bt14_11, bt14_12, cn, e2]
    rw [if_pos (by omega)]
    exact Ok.s ⟨rfl, p⟩
theorem q_shift (hf : 200 < fu) (G : EG ev n) (C : CI ev n μ) (a1 a2 a3 : Int32) : QQ ev n (kd 1 2 0) μ (D_X6_shift_0 fu a1 a2 a3 μ) (D_X7_shift_0 fu a1 a2 a3) := by
  have n160 := G.1
  cases q1 : iB a1 n with
  | false =>
    refine QQ_r (.inr 0) 0 C (ho_r (by decide)) ?_ fun x m e D h0 => ?_
    · simp only [D_X6_shift_0, c_isE C, q1, li0, li1, li2, li3, li4, li5, li6, li7, li8, li9, li10, li12, li24, li31, li40, li160, n_le, n_lt, n_eq, n_m1, n_add, mr4, mr6, mr7, mr10, mr40, mr160, ml4, ml6, ml7, ml10, ml40, ml160, gu_ib, nI_nat, bi_s, vl_e, gu_t, if_true, if_false, reduceIte, bt1_1, bt1_2, bt1_3, bt1_4, bt1_5, bt1_6, bt1_7, bt1_8, bt1_9, bt1_10, bt1_11, bt1_12, bt14_1, bt14_2, bt14_3, bt14_4, bt14_5, bt14_6, bt14_7, bt14_8, bt14_9, bt14_10, bt14_11, bt14_12, Nat.reduceLeDiff, Nat.reduceEqDiff, Nat.reduceLT, eq_self, Nat.le_refl, Nat.le_zero_eq, Nat.not_lt_zero, b2_f, c_tf, tx_r, cAn]
    · simp only [D_X7_shift_0, e, li0, li1, li2, li3, li4, li5, li6, li7, li8, li9, li10, li12, li24, li31, li40, li160, n_le, n_lt, n_eq, n_m1, n_add, mr4, mr6, mr7, mr10, mr40, mr160, ml4, ml6, ml7, ml10, ml40, ml160, gu_ib, nI_nat, bi_s, vl_e, gu_t, if_true, if_false, reduceIte, bt1_1, bt1_2, bt1_3, bt1_4, bt1_5, bt1_6, bt1_7, bt1_8, bt1_9, bt1_10, bt1_11, bt1_12, bt14_1, bt14_2, bt14_3, bt14_4, bt14_5, bt14_6, bt14_7, bt14_8, bt14_9, bt14_10, bt14_11, bt14_12, Nat.reduceLeDiff, Nat.reduceEqDiff, Nat.reduceLT, eq_self, Nat.le_refl, Nat.le_zero_eq, Nat.not_lt_zero, m_isE D n160 h0, q1, Bool.false_eq_true, mAn, kd]
  | true =>
    cases q2 : inC a2 (nI 0) (nI n) with
    | false =>
      have w2 := fun m => mWq q2 (L := 0) (H := (nI n).toInt64) rfl rfl m
      refine QQ_r (.inr 1) 0 C (ho_r (by decide)) ?_ fun x m e D h0 => ?_
      · simp only [D_X6_shift_0, D_X6_shift_36, D_X6_shift_37, c_isE C, q1, li0, li1, li2, li3, li4, li5, li6, li7, li8, li9, li10, li12, li24, li31, li40, li160, n_le, n_lt, n_eq, n_m1, n_add, mr4, mr6, mr7, mr10, mr40, mr160, ml4, ml6, ml7, ml10, ml40, ml160, gu_ib, nI_nat, bi_s, vl_e, gu_t, if_true, if_false, reduceIte, bt1_1, bt1_2, bt1_3, bt1_4, bt1_5, bt1_6, bt1_7, bt1_8, bt1_9, bt1_10, bt1_11, bt1_12, bt14_1, bt14_2, bt14_3, bt14_4, bt14_5, bt14_6, bt14_7, bt14_8, bt14_9, bt14_10, bt14_11, bt14_12, Nat.reduceLeDiff, Nat.reduceEqDiff, Nat.reduceLT, eq_self, Nat.le_refl, Nat.le_zero_eq, Nat.not_lt_zero, b2_t, c_tt, tx_l, C.n, wC, q2, Bool.false_eq_true, c_rf, tx_r, cAn]
      · have nf := m_nf (k := 2) (j := 1) h0 (by decide) (by decide) (by decide)
        simp only [D_X7_shift_0, D_X7_shift_44, D_X7_shift_45, e, m_isE D n160 h0, q1, li0, li1, li2, li3, li4, li5, li6, li7, li8, li9, li10, li12, li24, li31, li40, li160, n_le, n_lt, n_eq, n_m1, n_add, mr4, mr6, mr7, mr10, mr40, mr160, ml4, ml6, ml7, ml10, ml40, ml160, gu_ib, nI_nat, bi_s, vl_e, gu_t, if_true, if_false, reduceIte, bt1_1, bt1_2, bt1_3, bt1_4, bt1_5, bt1_6, bt1_7, bt1_8, bt1_9, bt1_10, bt1_11, bt1_12, bt14_1, bt14_2, bt14_3, bt14_4, bt14_5, bt14_6, bt14_7, bt14_8, bt14_9, bt14_10, bt14_11, bt14_12, Nat.reduceLeDiff, Nat.reduceEqDiff, Nat.reduceLT, eq_self, Nat.le_refl, Nat.le_zero_eq, Nat.not_lt_zero, D.n, w2, nf, Bool.false_eq_true, mAn, kd]
    | true =>
      have w2 := fun m => mWq q2 (L := 0) (H := (nI n).toInt64) rfl rfl m
      cases q3 : inC a3 (nI 0) (nI 9) with
      | false =>
        have w3 := fun m => mWq q3 (L := 0) (H := 9) rfl rfl m
        refine QQ_r (.inr 1) 0 C (ho_r (by decide)) ?_ fun x m e D h0 => ?_
        · simp only [D_X6_shift_0, D_X6_shift_36, D_X6_shift_37, D_X6_isInsurer_0, c_isE C, q1, li0, li1, li2, li3, li4, li5, li6, li7, li8, li9, li10, li12, li24, li31, li40, li160, n_le, n_lt, n_eq, n_m1, n_add, mr4, mr6, mr7, mr10, mr40, mr160, ml4, ml6, ml7, ml10, ml40, ml160, gu_ib, nI_nat, bi_s, vl_e, gu_t, if_true, if_false, reduceIte, bt1_1, bt1_2, bt1_3, bt1_4, bt1_5, bt1_6, bt1_7, bt1_8, bt1_9, bt1_10, bt1_11, bt1_12, bt14_1, bt14_2, bt14_3, bt14_4, bt14_5, bt14_6, bt14_7, bt14_8, bt14_9, bt14_10, bt14_11, bt14_12, Nat.reduceLeDiff, Nat.reduceEqDiff, Nat.reduceLT, eq_self, Nat.le_refl, Nat.le_zero_eq, Nat.not_lt_zero, b2_t, c_tt, tx_l, C.n, wC, q2, q3, Bool.false_eq_true, c_rf, tx_r, cAn]
        · have nf := m_nf (k := 2) (j := 1) h0 (by decide) (by decide) (by decide)
          simp only [D_X7_shift_0, D_X7_shift_44, D_X7_shift_45, e, m_isE D n160 h0, q1, li0, li1, li2, li3, li4, li5, li6, li7, li8, li9, li10, li12, li24, li31, li40, li160, n_le, n_lt, n_eq, n_m1, n_add, mr4, mr6, mr7, mr10, mr40, mr160, ml4, ml6, ml7, ml10, ml40, ml160, gu_ib, nI_nat, bi_s, vl_e, gu_t, if_true, if_false, reduceIte, bt1_1, bt1_2, bt1_3, bt1_4, bt1_5, bt1_6, bt1_7, bt1_8, bt1_9, bt1_10, bt1_11, bt1_12, bt14_1, bt14_2, bt14_3, bt14_4, bt14_5, bt14_6, bt14_7, bt14_8, bt14_9, bt14_10, bt14_11, bt14_12, Nat.reduceLeDiff, Nat.reduceEqDiff, Nat.reduceLT, eq_self, Nat.le_refl, Nat.le_zero_eq, Nat.not_lt_zero, D.n, w2, w3, nf, Bool.false_eq_true, mAn, kd]
      | true =>
        have w3 := fun m => mWq q3 (L := 0) (H := 9) rfl rfl m
        obtain ⟨i, rfl, hi⟩ := iB_n (by omega) q1
        obtain ⟨p, rfl, pl', hp⟩ := inC_n (by decide) (by omega) q2
        obtain ⟨j, rfl, jl, hj⟩ := inC_n (by decide) (by decide) q3
        obtain ⟨⟨v, x⟩, ex, ev', S⟩ := ok_eq (c_shift (j := j) hf hi hp (by omega) G C)
        have e' : v = _ := ev'
        rw [e'] at ex
        refine QQ_g (zL (bA (sfS ev n i p (n + 1)) j)) x ?_ S fun y m e D h0 => ?_
        · simp only [D_X6_shift_0, D_X6_shift_37, D_X6_isInsurer_0, c_isE C, q1, b2_t, c_tt, tx_l, C.n, wC, li0, li1, li9, q2, q3, bi_s, reduceIte, c_rt]
          exact ex
        · obtain ⟨⟨v1, y1⟩, e1, ev1, p1⟩ := ok_eq (m_shift (j := j) hf hi hp (by omega) G D h0)
          have e'' : v1 = _ := ev1
          rw [e''] at e1
          refine ⟨y1, ?_, p1⟩
          simp only [D_X7_shift_0, D_X7_shift_45, e, li0, li1, li2, vl_e, m_isE D n160 h0, q1, bi_s, reduceIte, D.n, w2, w3, m_nt h0]
          exact e1
end
