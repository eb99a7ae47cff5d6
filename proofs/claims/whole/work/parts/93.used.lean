/-! questions that go over: usedUp -/
section
variable {fu n N M b : Nat} {ev : Nat → Ev} {μ m : Mem} {s t : Sp} {P : Nat → Prop}
theorem c_there {l : Nat} (hl : l < 40) (C : RC b μ s) (H : Iv N s) : D_X5_isThere_0 μ (b + 1) (nI l) = some (decide (isL s l = 1)) := by
  rcases IvT_is H.T hl with z | z
  · simp (disch := omega) only [D_X5_isThere_0, li0, li1, li2, li3, li4, li5, li6, li7, li8, li9, li10, li12, li24, li31, li40, li160, n_le, n_lt, n_eq, n_m1, n_add, mr4, mr6, mr7, mr10, mr40, mr160, ml4, ml6, ml7, ml10, ml40, ml160, gu_ib, nI_nat, bi_s, vl_e, gu_t, if_true, if_false, reduceIte, bt1_1, bt1_2, bt1_3, bt1_4, bt1_5, bt1_6, bt1_7, bt1_8, bt1_9, bt1_10, bt1_11, bt1_12, bt14_1, bt14_2, bt14_3, bt14_4, bt14_5, bt14_6, bt14_7, bt14_8, bt14_9, bt14_10, bt14_11, bt14_12, C_y0 C hl z]
    rw [z]; rfl
  · have y := IvT_yr H.T hl z
    simp (disch := omega) only [D_X5_isThere_0, li0, li1, li2, li3, li4, li5, li6, li7, li8, li9, li10, li12, li24, li31, li40, li160, n_le, n_lt, n_eq, n_m1, n_add, mr4, mr6, mr7, mr10, mr40, mr160, ml4, ml6, ml7, ml10, ml40, ml160, gu_ib, nI_nat, bi_s, vl_e, gu_t, if_true, if_false, reduceIte, bt1_1, bt1_2, bt1_3, bt1_4, bt1_5, bt1_6, bt1_7, bt1_8, bt1_9, bt1_10, bt1_11, bt1_12, bt14_1, bt14_2, bt14_3, bt14_4, bt14_5, bt14_6, bt14_7, bt14_8, bt14_9, bt14_10, bt14_11, bt14_12, C_yr C hl z]
    rw [if_neg (fun w => by have w' : nI (yr s l) = -1 := w; rwa [n_m1 (show yr s l < 2147483648 by omega)] at w'), z]; rfl
/-- used up after event k -/
def uU (ev : Nat → Ev) (l k : Nat) : Prop := isL (run ev (k + 1)) l = 1 ∧ lf (run ev (k + 1)) l = 0
theorem c_uStep {l k : Nat} {x : Mem} {q : Nat} (hf : 200 < fu) (hl : l < 40) (hk : k < n) (G : EG ev n) (C : CI ev n μ) (S : CS ev n 32 μ x (run ev k) k (fun i => i < k)) {Q : (Int32 ⊕ String) × Mem → Prop} (hy : ∀ y, uU ev l k → CS ev n 32 μ y (run ev (k + 1)) (k + 1) (fun i => i < k + 1) → Q (.inl (nI k), y)) (hn : ∀ y, ¬ uU ev l k → CS ev n 32 μ y (run ev (k + 1)) (k + 1) (fun i => i < k + 1) → Ok (D_X6_usedUp_18 fu q (nI l) (nI (k + 1)) y) Q) : Ok (D_X6_usedUp_18 fu (q + 1) (nI l) (nI k) x) Q := by
  have n160 := G.1
  have cn : x.1 1 1 = nI n := by rw [S.1.I (by unfold AB; omega)]; exact C.n
  simp (disch := omega) only [D_X6_usedUp_18, D_X6_usedUp_76, li0, li1, li2, li3, li4, li5, li6, li7, li8, li9, li10, li12, li24, li31, li40, li160, n_le, n_lt, n_eq, n_m1, n_add, mr4, mr6, mr7, mr10, mr40, mr160, ml4, ml6, ml7, ml10, ml40, ml160, gu_ib, nI_nat, bi_s, vl_e, gu_t, if_true, if_false, reduceIte, bt1_1, bt1_2, bt1_3, bt1_4, bt1_5, bt1_6, bt1_7, bt1_8, bt1_9, bt1_10, bt1_11, bt1_12, bt14_1, bt14_2, bt14_3, bt14_4, bt14_5, bt14_6, bt14_7, bt14_8, bt14_9, bt14_10, bt14_11, bt14_12, cn]
  rw [if_neg (by omega)]
  refine Ok.b (cs_step hf (by decide) (by decide) G C.g hk (by omega) (by omega) S) fun r p => ?_
  have S2 : CS ev n 32 μ r.2 (run ev (k + 1)) (k + 1) (fun i => i < k + 1) := by
    rw [run_s]
    exact ⟨p.2.1, p.2.2.1, p.2.2.2.1, DS_mo (fun i _ z => by omega) p.2.2.2.2⟩
  rw [show D_X5_isThere_0 r.2 33 (nI l) = _ from c_there hl S2.2.1 S2.2.2.1, bi_s]
  by_cases q1 : isL (run ev (k + 1)) l = 1
  · rw [if_pos (decide_eq_true q1), show D_X5_isUsedUp_0 r.2 33 (nI l) = _ from c_isUsedUp hl q1 S2.2.1 S2.2.2.1, bi_s]
    by_cases q2 : lf (run ev (k + 1)) l = 0
    · rw [if_pos (decide_eq_true q2)]
      exact Ok.s (hy _ ⟨q1, q2⟩ S2)
    · rw [if_neg (by simp [q2])]
      exact hn _ (fun z => q2 z.2) S2
  · rw [if_neg (by simp [q1])]
    exact hn _ (fun z => q1 z.1) S2
/-- the first such event, or none -/
def uF (ev : Nat → Ev) (l n : Nat) (o : Int32) : Prop := (∃ k, k < n ∧ uU ev l k ∧ (∀ j, j < k → ¬ uU ev l j) ∧ o = nI k) ∨ ((∀ k, k < n → ¬ uU ev l k) ∧ o = -1)
theorem uF_u {l : Nat} {o o' : Int32} (a : uF ev l n o) (b : uF ev l n o') : o = o' := by
  rcases a with ⟨k, h1, h2, h3, rfl⟩ | ⟨h, rfl⟩ <;> rcases b with ⟨j, g1, g2, g3, rfl⟩ | ⟨g, rfl⟩
  · rcases Nat.lt_trichotomy k j with c | c | c
    · exact absurd h2 (g3 k c)
    · rw [c]
    · exact absurd g2 (h3 j c)
  · exact absurd h2 (g k h1)
  · exact absurd g2 (h j g1)
  · rfl
theorem c_used {l : Nat} (hf : 200 < fu) (hl : l < 40) (G : EG ev n) (C : CI ev n μ) : Ok ((D_X0_clear_0 fu 32 μ).bind fun x9 => D_X6_usedUp_18 fu fu (nI l) 0 x9) (fun r => ∃ o, r.1 = .inl o ∧ uF ev l n o ∧ CI ev n r.2 ∧ Fr (fun q => q ≤ 83) μ r.2) := by
  obtain ⟨t0, M0, C0, H0⟩ := C.t
  have n160 := G.1
  refine Ok.b (c_clear hf (by decide) (RC_24 C0 H0)) fun x p => ?_
  refine Ok.for (fun q k x => D_X6_usedUp_18 fu q (nI l) (nI k) x) n (fun k x => CS ev n 32 μ x (run ev k) k (fun i => i < k) ∧ ∀ j, j < k → ¬ uU ev l j) ?_ ?_ fu 0 x (by omega) (by omega) ⟨by
    obtain ⟨a, b, c, d⟩ := cs_0 (ev := ev) (n := n) p
    exact ⟨a, b, c, DS_mo (fun i _ z => absurd z not_false) d⟩, fun j hj => absurd hj (Nat.not_lt_zero j)⟩
  · intro q k x hk S kk
    refine c_uStep hf hl hk G C S.1 (fun y u Sy => ?_) fun y u Sy => ?_
    · exact ⟨_, rfl, Or.inl ⟨k, hk, u, S.2, rfl⟩, CI_32 Sy C⟩
    · exact kk y ⟨Sy, fun j hj => by
        by_cases e : j = k
        · rw [e]; exact u
        · exact S.2 j (by omega)⟩
  · intro q x S
    have cn : x.1 1 1 = nI n := by rw [S.1.1.I (by unfold AB; omega)]; exact C.n
    simp (disch := omega) only [D_X6_usedUp_18, li0, li1, li2, li3, li4, li5, li6, li7, li8, li9, li10, li12, li24, li31, li40, li160, n_le, n_lt, n_eq, n_m1, n_add, mr4, mr6, mr7, mr10, mr40, mr160, ml4, ml6, ml7, ml10, ml40, ml160, gu_ib, nI_nat, bi_s, vl_e, gu_t, if_true, if_false, reduceIte, bt1_1, bt1_2, bt1_3, bt1_4, bt1_5, bt1_6, bt1_7, bt1_8, bt1_9, bt1_10, bt1_11, bt1_12, bt14_1, bt14_2, bt14_3, bt14_4, bt14_5, bt14_6, bt14_7, bt14_8, bt14_9, bt14_10, bt14_11, bt14_12, cn]
    rw [if_pos (by omega)]
    exact Ok.s ⟨_, rfl, Or.inr ⟨S.2, rfl⟩, CI_32 S.1 C⟩
theorem m_used {l : Nat} (hf : 200 < fu) (hl : l < 40) (G : EG ev n) (D : MI ev n m) (h0 : m.1 85 0 = nI 0) : Ok ((D_X7_begins_0 fu m).bind fun x5 => D_X7_usedUp_24 fu fu (nI l) (-1) 0 x5) (fun r => uF ev l n r.1 ∧ MI ev n r.2 ∧ r.2.1 85 0 = nI 0 ∧ Fr (fun q => q = 85 ∨ 87 ≤ q ∧ q ≤ 127) m r.2) := by
  have n160 := G.1
  refine Ok.b (m_begins hf) fun x p => ?_
  refine Ok.for (α := Int32 × Mem) (fun q k z => D_X7_usedUp_24 fu q (nI l) z.1 (nI k) z.2) n (fun k z => uF ev l k z.1 ∧ MS ev n m z.2 (run ev k) k (fun i => i < k)) ?_ ?_ fu 0 (-1, x) (by omega) (by omega) ⟨Or.inr ⟨fun j hj => absurd hj (Nat.not_lt_zero j), rfl⟩, by
    obtain ⟨a, b, c, d, e⟩ := ms_0 G p
    exact ⟨a, b, c, d, DS_mo (fun i _ z => absurd z not_false) e⟩⟩
  · rintro q k ⟨v, x⟩ hk ⟨U, S⟩ kk
    have cn : x.1 85 5 = nI n := by rw [S.2.1 5 (by decide) (by decide)]; exact D.n
    have c48 : x.1 85 48 = nI 0 := by rw [S.2.1 48 (by decide) (by decide)]; exact D.o
    show Ok (D_X7_usedUp_24 fu (q + 1) (nI l) v (nI k) x) _
    rw [D_X7_usedUp_24, cn, if_neg (show ¬ nI n ≤ nI k by rw [n_le (by omega) (by omega)]; omega)]
    refine Ok.b (ms_step hf G D.g hk (by omega) (by omega) (Or.inl c48) S) fun y p => ?_
    have S2 : MS ev n m y (run ev (k + 1)) (k + 1) (fun i => i < k + 1) := by
      rw [run_s]
      exact ⟨p.2.1, p.2.2.1, p.2.2.2.1, p.2.2.2.2.1, DS_mo (fun i _ z => by omega) p.2.2.2.2.2⟩
    have R2 := S2.2.2.1
    have H2 := S2.2.2.2.1
    have go' : ∀ w, uF ev l (k + 1) w → Ok (D_X7_usedUp_63 fu (D_X7_usedUp_24 fu q) (nI l) w (nI k) y) (fun r => uF ev l n r.1 ∧ MI ev n r.2 ∧ r.2.1 85 0 = nI 0 ∧ Fr (fun q => q = 85 ∨ 87 ≤ q ∧ q ≤ 127) m r.2) := fun w hw => by
      unfold D_X7_usedUp_63
      rw [show nI k + 1 = nI (k + 1) from by rw [li1, n_add]]
      exact kk (w, y) ⟨hw, S2⟩
    rcases U with ⟨j, h1, h2, h3, e⟩ | ⟨hn, e⟩
    · have e' : v = nI j := e
      rw [e', if_neg (fun w => by rwa [n_m1 (show j < 2147483648 by omega)] at w)]
      exact go' _ (Or.inl ⟨j, by omega, h2, h3, rfl⟩)
    · have e' : v = -1 := e
      rw [e', if_pos rfl, gu_ib hl (by decide), nI_nat (by omega), M_is R2 hl]
      have no : ¬ uU ev l k → uF ev l (k + 1) (-1) := fun u => Or.inr ⟨fun j hj => by
        by_cases ee : j = k
        · rw [ee]; exact u
        · exact hn j (by omega), rfl⟩
      by_cases q1 : isL (run ev (k + 1)) l = 1
      · have b := lf_b hl q1 H2
        rw [q1, if_neg (by decide), show D_X7_left_0 y (nI l) = some (zL (lf (run ev (k + 1)) l)) from m_leftU hl q1 R2.a H2.T (M_us R2 hl), bi_s]
        by_cases q2 : lf (run ev (k + 1)) l = 0
        · rw [if_pos (by rw [q2]; rfl)]
          exact go' _ (Or.inl ⟨k, by omega, ⟨q1, q2⟩, hn, rfl⟩)
        · rw [if_neg (fun y => q2 (by have y' : zL (lf (run ev (k + 1)) l) = zL 0 := y; rwa [z_eq (by omega) (by omega) (by omega) (by omega)] at y'))]
          exact go' _ (no fun z => q2 z.2)
      · rw [(IvT_is H2.T hl).resolve_right q1, if_pos (show nI 0 = 0 from rfl)]
        exact go' _ (no fun z => q1 z.1)
  · rintro q ⟨v, x⟩ ⟨U, S⟩
    have cn : x.1 85 5 = nI n := by rw [S.2.1 5 (by decide) (by decide)]; exact D.n
    show Ok (D_X7_usedUp_24 fu (q + 1) (nI l) v (nI n) x) _
    rw [D_X7_usedUp_24, cn, if_pos (show nI n ≤ nI n by rw [n_le (by omega) (by omega)]; omega)]
    obtain ⟨F, E, R, -, -⟩ := S
    exact Ok.s ⟨U, ⟨fun k hk => MG_F F (fun q z => by unfold AG at z; omega) (D.g k hk), cn, R, by rw [E 48 (by decide) (by decide)]; exact D.o⟩, by rw [E 0 (by decide) (by decide)]; exact h0, F.mo fun q z => by unfold AG at z; omega⟩
theorem q_usedUp (hf : 200 < fu) (G : EG ev n) (V : LV ev n) (C : CI ev n μ) (a1 : Int32) : QQ ev n (kd 1 0 0) μ (D_X6_usedUp_0 fu a1 μ) (D_X7_usedUp_0 fu a1) := by
  have T := (run_CT G V n (Nat.le_refl _)).1
  have H := run_Iv G
  have t40 := T.2.2.1
  cases q1 : iB a1 (cL (run ev n)) with
  | false =>
    refine QQ_r (.inr 0) 0 C (ho_r (by decide)) ?_ fun x m e D h0 => ?_
    · simp only [D_X6_usedUp_0, c_isL C.r, q1, li0, li1, li2, li3, li4, li5, li6, li7, li8, li9, li10, li12, li24, li31, li40, li160, n_le, n_lt, n_eq, n_m1, n_add, mr4, mr6, mr7, mr10, mr40, mr160, ml4, ml6, ml7, ml10, ml40, ml160, gu_ib, nI_nat, bi_s, vl_e, gu_t, if_true, if_false, reduceIte, bt1_1, bt1_2, bt1_3, bt1_4, bt1_5, bt1_6, bt1_7, bt1_8, bt1_9, bt1_10, bt1_11, bt1_12, bt14_1, bt14_2, bt14_3, bt14_4, bt14_5, bt14_6, bt14_7, bt14_8, bt14_9, bt14_10, bt14_11, bt14_12, Nat.reduceLeDiff, Nat.reduceEqDiff, Nat.reduceLT, eq_self, Nat.le_refl, Nat.le_zero_eq, Nat.not_lt_zero, b2_f, c_tf, tx_r, cAn]
    · have dd := m_isL (d := 1) D.r T H h0 a1 (by decide) (by decide)
      simp only [D_X7_usedUp_0, e, li0, li1, li2, li3, li4, li5, li6, li7, li8, li9, li10, li12, li24, li31, li40, li160, n_le, n_lt, n_eq, n_m1, n_add, mr4, mr6, mr7, mr10, mr40, mr160, ml4, ml6, ml7, ml10, ml40, ml160, gu_ib, nI_nat, bi_s, vl_e, gu_t, if_true, if_false, reduceIte, bt1_1, bt1_2, bt1_3, bt1_4, bt1_5, bt1_6, bt1_7, bt1_8, bt1_9, bt1_10, bt1_11, bt1_12, bt14_1, bt14_2, bt14_3, bt14_4, bt14_5, bt14_6, bt14_7, bt14_8, bt14_9, bt14_10, bt14_11, bt14_12, Nat.reduceLeDiff, Nat.reduceEqDiff, Nat.reduceLT, eq_self, Nat.le_refl, Nat.le_zero_eq, Nat.not_lt_zero, dd, q1, Bool.false_eq_true, mAn, kd]
  | true =>
    obtain ⟨l, rfl, hl⟩ := iB_n (by omega) q1
    obtain ⟨⟨v, x⟩, ex, o, ev', U, p⟩ := ok_eq (c_used (l := l) hf (by omega) G C)
    have e' : v = _ := ev'
    rw [e'] at ex
    refine QQ_g o x ?_ p fun y m e D h0 => ?_
    · simp only [D_X6_usedUp_0, c_isL C.r, q1, b2_t, c_tt, tx_l, bi_s]
      exact ex
    · obtain ⟨⟨v1, y1⟩, e1, U1, p1⟩ := ok_eq (m_used (l := l) hf (by omega) G D h0)
      have e2 : v1 = o := uF_u U1 U
      rw [e2] at e1
      refine ⟨y1, ?_, p1⟩
      have dd := m_isL (d := 1) D.r T H h0 (nI l) (by decide) (by decide)
      simp only [D_X7_usedUp_0, e, li0, li1, vl_e, dd, q1, bi_s, reduceIte]
      exact e1
end
