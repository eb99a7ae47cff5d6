/-! questions that go over: heaviest -/
section
variable {fu n N M : Nat} {ev : Nat → Ev} {μ m : Mem} {s t : Sp} {P : Nat → Prop}
/-- not of a harm -/
def oF (ev : Nat → Ev) (h k : Nat) : Bool := decide (¬ (ev k 1 = h ∧ (ev k 0 = 4 ∨ ev k 0 = 5 ∨ ev k 0 = 8)))
/-- without its first event all of a harm falls away -/
theorem oF_run {h j : Nat} (hh : h < 24) (G : EG ev n) (hj : j < n) (j4 : ev j 0 = 4) (j1 : ev j 1 = h) : ∀ k, k ≤ n → rF ev (fun k => decide (k ≠ j)) sp0 k = rF ev (oF ev h) sp0 k ∧ isH (rF ev (oF ev h) sp0 k) h = 0
  | 0, _ => ⟨rfl, rfl⟩
  | k + 1, hk => by
    obtain ⟨e, z⟩ := oF_run hh G hj j4 j1 k (by omega)
    have E := G.2.1 k (by omega)
    rw [rF_s, rF_s, e]
    by_cases q : ev k 1 = h ∧ (ev k 0 = 4 ∨ ev k 0 = 5 ∨ ev k 0 = 8)
    · have o : oF ev h k = false := by unfold oF; exact decide_eq_false (fun w => w q)
      rw [o, if_neg (show ¬ (false = true) by decide)]
      refine ⟨?_, z⟩
      by_cases kj : k = j
      · rw [if_neg (by simp [kj])]
      · rw [if_pos (by simp [kj])]
        have n4 : ev k 0 ≠ 4 := fun w => kj (G.2.2 k j (by omega) hj (by omega) (Or.inr w) (by omega))
        exact go_n (fun w => by
          have := (can_5 (by omega)).mp w
          rw [q.1, z] at this
          exact absurd this n01)
    · have o : oF ev h k = true := by unfold oF; exact decide_eq_true q
      have kj : k ≠ j := fun w => q (by rw [w]; exact ⟨j1, Or.inl j4⟩)
      rw [o, if_pos (show true = true from rfl), if_pos (by simp [kj])]
      refine ⟨rfl, ?_⟩
      by_cases C : can (rF ev (oF ev h) sp0 k) (ev k)
      · rw [go_y C, doe_isH E, if_neg (fun w => q ⟨w.2.symm, Or.inl w.1⟩)]; exact z
      · rw [go_n C]; exact z
theorem h_ev {h : Nat} (G : EG ev n) (V : LV ev n) (hh : h < cH (run ev n)) : ∃ j, j < n ∧ ev j 0 = 4 ∧ ev j 1 = h ∧ ∀ k, k < n → ev k 0 = 4 → ev k 1 = h → k = j := by
  have T := (run_CT G V n (Nat.le_refl _)).1
  have t24 := T.2.2.2
  have D := (rF_Iv (f := fun _ => true) G Iv_0 (fun _ => rfl) (fun _ => rfl) n (Nat.le_refl _)).2
  obtain ⟨j, h1, -, h2, h3⟩ := D.2 h (by omega) ((T.2.1 h (by omega)).mpr hh)
  exact ⟨j, h1, h2, h3, fun k g1 g2 g3 => G.2.2 k j g1 h1 (by omega) (Or.inr g2) (by omega)⟩
noncomputable def hW (ev : Nat → Ev) (n i h : Nat) : Int64 := zL (bA (rF ev (oF ev h) sp0 n) i)
def hR (w : Nat) (v : Int32) (z : Int64) : Int64 := if w = 0 then v.toInt64 else z
def hQ (ev : Nat → Ev) (n i w : Nat) (μ : Mem) (r : (Int64 ⊕ String) × Mem) : Prop := ∃ v z, bF (hW ev n i) (cH (run ev n)) v z ∧ r.1 = .inl (hR w v z) ∧ CI ev n r.2 ∧ Fr (fun q => q ≤ 83) μ r.2
theorem c_heavy {i w : Nat} (hf : 200 < fu) (hi : i < 10) (hw : w < 2) (G : EG ev n) (V : LV ev n) (C : CI ev n μ) : Ok (D_X6_heaviest_33 fu fu (nI i) (nI w) (-1) 0 0 μ) (hQ ev n i w μ) := by
  have T := (run_CT G V n (Nat.le_refl _)).1
  have t24 := T.2.2.2
  have n160 := G.1
  refine Ok.for (α := Int32 × Int64 × Mem) (fun q k s => D_X6_heaviest_33 fu q (nI i) (nI w) s.1 s.2.1 (nI k) s.2.2) (cH (run ev n)) (fun k s => bF (hW ev n i) k s.1 s.2.1 ∧ CI ev n s.2.2 ∧ Fr (fun q => q ≤ 83) μ s.2.2) ?_ ?_ fu 0 (-1, 0, μ) (by omega) (by omega) ⟨Or.inl ⟨rfl, rfl, rfl⟩, C, Fr.rfl'⟩
  · rintro q k ⟨v, z, x⟩ hk ⟨B, C', F⟩ kk
    obtain ⟨j, hj, j4, j1, uq⟩ := h_ev G V hk
    have hb : ∀ k, k < n → ev k 0 = 4 → ev k 1 < 100 := fun k hk h => by have := (G.2.1 k hk).k4 h; omega
    have fd : D_X2_find_0 fu x 4 (nI k) = some (nI j) := c_find hf G C' (by decide) (show k < 100 by omega) hb hj ⟨j4, j1⟩ uq
    show Ok (D_X6_heaviest_33 fu (q + 1) (nI i) (nI w) v z (nI k) x) _
    rw [D_X6_heaviest_33, K_cH C'.r, if_neg (show ¬ nI (cH (run ev n)) ≤ nI k by rw [n_le (by omega) (by omega)]; omega), fd, bi_s]
    refine Ok.b (c_without (b := j) hf (by omega) G C'.g C'.n C'.t) fun r p => ?_
    have S := p.2
    rw [(oF_run (by omega) G hj j4 j1 n (Nat.le_refl _)).1] at S
    have cb : D_X1_borneInAll_0 fu r.2 46 (nI i) = some (hW ev n i k) := c_borneAll hf hi S.2.1 S.2.2.1
    rw [cb, bi_s]
    have CX := CI_32 S C'
    have new : (v = -1 ∨ (hW ev n i k).toInt < z.toInt) → Ok (D_X6_heaviest_89 fu (D_X6_heaviest_33 fu q) (nI i) (nI w) (nI k) (hW ev n i k) r.2) (hQ ev n i w μ) := fun h => by
      unfold D_X6_heaviest_89 D_X6_heaviest_96
      rw [nk1]
      exact kk (nI k, hW ev n i k, r.2) ⟨bF_new (by omega) B h, CX.1, F.tr CX.2⟩
    by_cases c1 : v = -1
    · rw [if_pos c1]; exact new (Or.inl c1)
    · rw [if_neg c1]
      by_cases c2 : z ≤ hW ev n i k
      · rw [if_pos c2]
        unfold D_X6_heaviest_96
        rw [nk1]
        exact kk (v, z, r.2) ⟨bF_old B c1 (Int64.le_iff_toInt_le.mp c2), CX.1, F.tr CX.2⟩
      · rw [if_neg c2]
        exact new (Or.inr (by rw [Int64.le_iff_toInt_le] at c2; omega))
  · rintro q ⟨v, z, x⟩ ⟨B, C', F⟩
    show Ok (D_X6_heaviest_33 fu (q + 1) (nI i) (nI w) v z (nI (cH (run ev n))) x) _
    rw [D_X6_heaviest_33, K_cH C'.r, if_pos (show nI (cH (run ev n)) ≤ nI (cH (run ev n)) by rw [n_le (by omega) (by omega)]; exact Nat.le_refl _)]
    rcases (show w = 0 ∨ w = 1 by omega) with e | e
    · subst e; rw [if_pos (show nI 0 = 0 from rfl)]; exact Ok.s ⟨v, z, B, rfl, C', F⟩
    · subst e; rw [if_neg (by decide)]; exact Ok.s ⟨v, z, B, rfl, C', F⟩
/-- counts of events, of any book -/
theorem m_evO {c : Nat} (hf : 200 < fu) (hc : c ≤ 8) (G : EG ev n) (Lg : ∀ k, k < n → MG m k (ev k)) (hn : m.1 85 5 = nI n) : D_X7_eventsOf_0 fu m (nI c) = some (nI (nE ev c n)) := by
  have n160 := G.1
  unfold D_X7_eventsOf_0
  refine eq_for (fun k i => D_X7_eventsOf_4 fu m k (nI c) (nI (nE ev c i)) (nI i)) n _ ?_ ?_ fu 0 (by omega) (by omega)
  · intro k i hi
    have l1 := nE_le ev c i
    have e8 := (G.2.1 i hi).k
    show _ = D_X7_eventsOf_4 fu m k (nI c) (nI (nE ev c i + if ev i 0 = c then 1 else 0)) (nI (i + 1))
    simp (disch := omega) only [D_X7_eventsOf_4, D_X7_eventsOf_28, li0, li1, li2, li3, li4, li5, li6, li7, li8, li9, li10, li12, li24, li31, li40, li160, n_le, n_lt, n_eq, n_m1, n_add, mr4, mr6, mr7, mr10, mr40, mr160, ml4, ml6, ml7, ml10, ml40, ml160, gu_ib, nI_nat, bi_s, vl_e, gu_t, if_true, if_false, reduceIte, bt1_1, bt1_2, bt1_3, bt1_4, bt1_5, bt1_6, bt1_7, bt1_8, bt1_9, bt1_10, bt1_11, bt1_12, bt14_1, bt14_2, bt14_3, bt14_4, bt14_5, bt14_6, bt14_7, bt14_8, bt14_9, bt14_10, bt14_11, bt14_12, hn, (Lg i hi).1]
    rw [if_neg (by omega)]
    by_cases q : ev i 0 = c
    · rw [if_pos q, if_pos q]
    · rw [if_neg q, if_neg q]
  · intro k
    simp (disch := omega) only [D_X7_eventsOf_4, li0, li1, li2, li3, li4, li5, li6, li7, li8, li9, li10, li12, li24, li31, li40, li160, n_le, n_lt, n_eq, n_m1, n_add, mr4, mr6, mr7, mr10, mr40, mr160, ml4, ml6, ml7, ml10, ml40, ml160, gu_ib, nI_nat, bi_s, vl_e, gu_t, if_true, if_false, reduceIte, bt1_1, bt1_2, bt1_3, bt1_4, bt1_5, bt1_6, bt1_7, bt1_8, bt1_9, bt1_10, bt1_11, bt1_12, bt14_1, bt14_2, bt14_3, bt14_4, bt14_5, bt14_6, bt14_7, bt14_8, bt14_9, bt14_10, bt14_11, bt14_12, hn]
    rw [if_pos (by omega)]
theorem m_isOf {k h : Nat} (hk : k < 160) (hh : h < 24) (E : EvOK (ev k)) (g : MG m k (ev k)) : D_X7_isOf_0 m (nI k) (nI h) = some (!oF ev h k) := by
  have e8 := E.k
  have iff : (!oF ev h k) = decide (ev k 1 = h ∧ (ev k 0 = 4 ∨ ev k 0 = 5 ∨ ev k 0 = 8)) := by
    unfold oF
    by_cases q : ev k 1 = h ∧ (ev k 0 = 4 ∨ ev k 0 = 5 ∨ ev k 0 = 8)
    · rw [decide_eq_true q, decide_eq_false (fun w => w q)]; rfl
    · rw [decide_eq_false q, decide_eq_true q]; rfl
  rw [iff]
  unfold D_X7_isOf_0 D_X7_isOf_49
  simp only [gu_ib hk (show 160 < 2147483648 by decide), nI_nat (show k < 2147483648 by omega), g.1]
  by_cases q4 : ev k 0 = 4
  · have b := E.k4 q4
    rw [q4, if_pos (show nI 4 = 4 from rfl), (g.2.1 (Or.inr q4)).1]
    simp (disch := omega) only [n_eq]
    by_cases q : ev k 1 = h
    · rw [if_pos q, decide_eq_true ⟨q, by decide⟩]
    · rw [if_neg q, decide_eq_false (fun w => q w.1)]
  · rw [if_neg (show ¬ nI (ev k 0) = 4 by rw [li4, n_eq (by omega) (by omega)]; exact q4)]
    by_cases q5 : ev k 0 = 5
    · have b := E.k5 q5
      rw [if_pos (show nI (ev k 0) = 5 by rw [q5]; rfl), show D_X7_tell_0 m (nI k) 0 = some (nI (ev k 1)) from m_tell1 (j := 0) hk (by decide) (by omega) g, bi_s]
      simp (disch := omega) only [n_eq]
      by_cases q : ev k 1 = h
      · rw [if_pos q, decide_eq_true ⟨q, by omega⟩]
      · rw [if_neg q, decide_eq_false (fun w => q w.1)]
    · rw [if_neg (show ¬ nI (ev k 0) = 5 by rw [li5, n_eq (by omega) (by omega)]; exact q5)]
      by_cases q8 : ev k 0 = 8
      · have b := E.k8 q8
        rw [if_pos (show nI (ev k 0) = 8 by rw [q8]; rfl), show D_X7_tell_0 m (nI k) 0 = some (nI (ev k 1)) from m_tell1 (j := 0) hk (by decide) (by omega) g, bi_s]
        simp (disch := omega) only [n_eq]
        by_cases q : ev k 1 = h
        · rw [if_pos q, decide_eq_true ⟨q, by omega⟩]
        · rw [if_neg q, decide_eq_false (fun w => q w.1)]
      · rw [if_neg (show ¬ nI (ev k 0) = 8 by rw [li8, n_eq (by omega) (by omega)]; exact q8), decide_eq_false (fun w => by omega)]
def hM (ev : Nat → Ev) (n i w : Nat) (m : Mem) (r : Int64 × Mem) : Prop := ∃ v z, bF (hW ev n i) (cH (run ev n)) v z ∧ r.1 = hR w v z ∧ MI ev n r.2 ∧ r.2.1 85 0 = nI 0 ∧ Fr (fun q => q = 85 ∨ 87 ≤ q ∧ q ≤ 127) m r.2
theorem m_heavy {i w : Nat} (hf : 200 < fu) (hi : i < 10) (hw : w < 2) (G : EG ev n) (V : LV ev n) (D : MI ev n m) (h0 : m.1 85 0 = nI 0) : Ok (D_X7_heaviest_51 fu fu (nI i) (nI w) (-1) 0 0 m) (hM ev n i w m) := by
  have TT := run_CT G V n (Nat.le_refl _)
  have t24 := TT.1.2.2.2
  have n160 := G.1
  refine Ok.for (α := Int32 × Int64 × Mem) (fun q k s => D_X7_heaviest_51 fu q (nI i) (nI w) s.1 s.2.1 (nI k) s.2.2) (cH (run ev n)) (fun k s => bF (hW ev n i) k s.1 s.2.1 ∧ Fr AG m s.2.2 ∧ E85 m s.2.2) ?_ ?_ fu 0 (-1, 0, m) (by omega) (by omega) ⟨Or.inl ⟨rfl, rfl, rfl⟩, Fr.rfl', E85.rfl'⟩
  · rintro q k ⟨v, z, x⟩ hk ⟨B, F, E⟩ kk
    have Lg : ∀ j, j < n → MG x j (ev j) := fun j hj => MG_F F (fun q z => by unfold AG at z; omega) (D.g j hj)
    have hn : x.1 85 5 = nI n := by rw [E 5 (by decide) (by decide)]; exact D.n
    have ho : x.1 85 48 = nI 0 := by rw [E 48 (by decide) (by decide)]; exact D.o
    show Ok (D_X7_heaviest_51 fu (q + 1) (nI i) (nI w) v z (nI k) x) _
    rw [D_X7_heaviest_51, show D_X7_eventsOf_0 fu x 4 = some (nI (cH (run ev n))) from (m_evO hf (by decide) G Lg hn).trans (by rw [TT.2.2]), bi_s, if_neg (show ¬ nI (cH (run ev n)) ≤ nI k by rw [n_le (by omega) (by omega)]; omega)]
    refine Ok.b (m_begins hf) fun x0 p => ?_
    refine Ok.for (fun q2 e y => D_X7_heaviest_68 fu (D_X7_heaviest_51 fu q) q2 (nI i) (nI w) v z (nI k) (nI e) y) n (fun e y => MS ev n x y (rF ev (oF ev k) sp0 e) e (fun i => i < e)) ?_ ?_ fu 0 x0 (by omega) (by omega) (by
      obtain ⟨a, b, c, d, e⟩ := ms_0 G p
      exact ⟨a, b, c, d, DS_mo (fun i _ z => absurd z not_false) e⟩)
    · intro q2 e y he S kk2
      have cn : y.1 85 5 = nI n := by rw [S.2.1 5 (by decide) (by decide)]; exact hn
      have c48 : y.1 85 48 = nI 0 := by rw [S.2.1 48 (by decide) (by decide)]; exact ho
      have Ly : MG y e (ev e) := MG_F S.1 (fun q z => by unfold AG at z; omega) (Lg e he)
      rw [D_X7_heaviest_68, cn, if_neg (show ¬ nI n ≤ nI e by rw [n_le (by omega) (by omega)]; omega), m_isOf (by omega) (by omega) (G.2.1 e he) Ly, bi_s]
      unfold D_X7_heaviest_94
      rw [nk1]
      cases o : oF ev k e with
      | false =>
        rw [if_pos (by rfl)]
        refine kk2 _ ?_
        rw [rF_s, o, if_neg (show ¬ (false = true) by decide)]
        exact ⟨S.1, S.2.1, S.2.2.1, Iv_mo (by omega) S.2.2.2.1, DS_mo (fun i _ z => by omega) S.2.2.2.2⟩
      | true =>
        rw [if_neg (by decide)]
        refine Ok.b (ms_step hf G Lg he (by omega) (by omega) (Or.inl c48) S) fun y2 p2 => ?_
        refine kk2 _ ?_
        rw [rF_s, o, if_pos (show true = true from rfl)]
        exact ⟨p2.2.1, p2.2.2.1, p2.2.2.2.1, p2.2.2.2.2.1, DS_mo (fun i _ z => by omega) p2.2.2.2.2.2⟩
    · intro q2 y S
      have cn : y.1 85 5 = nI n := by rw [S.2.1 5 (by decide) (by decide)]; exact hn
      obtain ⟨F1, E1, R1, H1, -⟩ := S
      have cb : D_X7_bearsAll_0 fu y (nI i) = some (hW ev n i k) := m_bearsAll hf hi R1 H1
      rw [D_X7_heaviest_68, cn, if_pos (show nI n ≤ nI n by rw [n_le (by omega) (by omega)]; exact Nat.le_refl _)]
      have new : (v = -1 ∨ (hW ev n i k).toInt < z.toInt) → Ok (D_X7_heaviest_119 fu (D_X7_heaviest_51 fu q) (nI i) (nI w) (nI k) y) (hM ev n i w m) := fun h => by
        unfold D_X7_heaviest_119 D_X7_heaviest_129
        rw [cb, bi_s, nk1]
        exact kk (nI k, hW ev n i k, y) ⟨bF_new (by omega) B h, F.tr F1, E.tr E1⟩
      by_cases c1 : v = -1
      · rw [if_pos c1]; exact new (Or.inl c1)
      · rw [if_neg c1, cb, bi_s]
        by_cases c2 : hW ev n i k < z
        · rw [if_pos c2]; exact new (Or.inr (Int64.lt_iff_toInt_lt.mp c2))
        · rw [if_neg c2]
          unfold D_X7_heaviest_129
          rw [nk1]
          exact kk (v, z, y) ⟨bF_old B c1 (show z.toInt ≤ (hW ev n i k).toInt by rw [Int64.lt_iff_toInt_lt] at c2; omega), F.tr F1, E.tr E1⟩
  · rintro q ⟨v, z, x⟩ ⟨B, F, E⟩
    have Lg : ∀ j, j < n → MG x j (ev j) := fun j hj => MG_F F (fun q z => by unfold AG at z; omega) (D.g j hj)
    have hn : x.1 85 5 = nI n := by rw [E 5 (by decide) (by decide)]; exact D.n
    show Ok (D_X7_heaviest_51 fu (q + 1) (nI i) (nI w) v z (nI (cH (run ev n))) x) _
    rw [D_X7_heaviest_51, show D_X7_eventsOf_0 fu x 4 = some (nI (cH (run ev n))) from (m_evO hf (by decide) G Lg hn).trans (by rw [TT.2.2]), bi_s, if_pos (show nI (cH (run ev n)) ≤ nI (cH (run ev n)) by rw [n_le (by omega) (by omega)]; exact Nat.le_refl _)]
    refine Ok.b (m_ret hf G D h0 F E) fun y p => ?_
    rcases (show w = 0 ∨ w = 1 by omega) with e | e
    · subst e; rw [if_pos (show nI 0 = 0 from rfl)]; exact Ok.s ⟨v, z, B, rfl, p⟩
    · subst e; rw [if_neg (by decide)]; exact Ok.s ⟨v, z, B, rfl, p⟩
theorem q_heaviest (hf : 200 < fu) (G : EG ev n) (V : LV ev n) (C : CI ev n μ) (a1 a2 : Int32) : QQ ev n (kd 0 1 0) μ (D_X6_heaviest_0 fu a1 a2 μ) (D_X7_heaviest_0 fu a1 a2) := by
  cases q1 : inC a1 (nI 0) (nI 9) with
  | false =>
    have w1 := fun m => mWq q1 (L := 0) (H := 9) rfl rfl m
    refine QQ_r (.inr 1) 0 C (ho_r (by decide)) ?_ fun x m e D h0 => ?_
    · simp only [D_X6_heaviest_0, D_X6_heaviest_21, D_X6_heaviest_22, D_X6_isInsurer_0, wC, q1, li0, li1, li2, li3, li4, li5, li6, li7, li8, li9, li10, li12, li24, li31, li40, li160, n_le, n_lt, n_eq, n_m1, n_add, mr4, mr6, mr7, mr10, mr40, mr160, ml4, ml6, ml7, ml10, ml40, ml160, gu_ib, nI_nat, bi_s, vl_e, gu_t, if_true, if_false, reduceIte, bt1_1, bt1_2, bt1_3, bt1_4, bt1_5, bt1_6, bt1_7, bt1_8, bt1_9, bt1_10, bt1_11, bt1_12, bt14_1, bt14_2, bt14_3, bt14_4, bt14_5, bt14_6, bt14_7, bt14_8, bt14_9, bt14_10, bt14_11, bt14_12, Nat.reduceLeDiff, Nat.reduceEqDiff, Nat.reduceLT, eq_self, Nat.le_refl, Nat.le_zero_eq, Nat.not_lt_zero, Bool.false_eq_true, c_rf, tx_r, cAn]
    · have nf := m_nf (k := 1) (j := 1) h0 (by decide) (by decide) (by decide)
      simp only [D_X7_heaviest_0, D_X7_heaviest_32, D_X7_heaviest_33, e, li0, li1, li2, li3, li4, li5, li6, li7, li8, li9, li10, li12, li24, li31, li40, li160, n_le, n_lt, n_eq, n_m1, n_add, mr4, mr6, mr7, mr10, mr40, mr160, ml4, ml6, ml7, ml10, ml40, ml160, gu_ib, nI_nat, bi_s, vl_e, gu_t, if_true, if_false, reduceIte, bt1_1, bt1_2, bt1_3, bt1_4, bt1_5, bt1_6, bt1_7, bt1_8, bt1_9, bt1_10, bt1_11, bt1_12, bt14_1, bt14_2, bt14_3, bt14_4, bt14_5, bt14_6, bt14_7, bt14_8, bt14_9, bt14_10, bt14_11, bt14_12, Nat.reduceLeDiff, Nat.reduceEqDiff, Nat.reduceLT, eq_self, Nat.le_refl, Nat.le_zero_eq, Nat.not_lt_zero, w1, nf, Bool.false_eq_true, mAn, kd]
  | true =>
    have w1 := fun m => mWq q1 (L := 0) (H := 9) rfl rfl m
    cases q2 : inC a2 (nI 0) (nI 1) with
    | false =>
      have w2 := fun m => mWq q2 (L := 0) (H := 1) rfl rfl m
      refine QQ_r (.inr 1) 0 C (ho_r (by decide)) ?_ fun x m e D h0 => ?_
      · simp only [D_X6_heaviest_0, D_X6_heaviest_21, D_X6_heaviest_22, D_X6_isInsurer_0, wC, q1, q2, li0, li1, li2, li3, li4, li5, li6, li7, li8, li9, li10, li12, li24, li31, li40, li160, n_le, n_lt, n_eq, n_m1, n_add, mr4, mr6, mr7, mr10, mr40, mr160, ml4, ml6, ml7, ml10, ml40, ml160, gu_ib, nI_nat, bi_s, vl_e, gu_t, if_true, if_false, reduceIte, bt1_1, bt1_2, bt1_3, bt1_4, bt1_5, bt1_6, bt1_7, bt1_8, bt1_9, bt1_10, bt1_11, bt1_12, bt14_1, bt14_2, bt14_3, bt14_4, bt14_5, bt14_6, bt14_7, bt14_8, bt14_9, bt14_10, bt14_11, bt14_12, Nat.reduceLeDiff, Nat.reduceEqDiff, Nat.reduceLT, eq_self, Nat.le_refl, Nat.le_zero_eq, Nat.not_lt_zero, Bool.false_eq_true, c_rf, tx_r, cAn]
      · have nf := m_nf (k := 1) (j := 1) h0 (by decide) (by decide) (by decide)
        simp only [D_X7_heaviest_0, D_X7_heaviest_32, D_X7_heaviest_33, e, li0, li1, li2, li3, li4, li5, li6, li7, li8, li9, li10, li12, li24, li31, li40, li160, n_le, n_lt, n_eq, n_m1, n_add, mr4, mr6, mr7, mr10, mr40, mr160, ml4, ml6, ml7, ml10, ml40, ml160, gu_ib, nI_nat, bi_s, vl_e, gu_t, if_true, if_false, reduceIte, bt1_1, bt1_2, bt1_3, bt1_4, bt1_5, bt1_6, bt1_7, bt1_8, bt1_9, bt1_10, bt1_11, bt1_12, bt14_1, bt14_2, bt14_3, bt14_4, bt14_5, bt14_6, bt14_7, bt14_8, bt14_9, bt14_10, bt14_11, bt14_12, Nat.reduceLeDiff, Nat.reduceEqDiff, Nat.reduceLT, eq_self, Nat.le_refl, Nat.le_zero_eq, Nat.not_lt_zero, w1, w2, nf, Bool.false_eq_true, mAn, kd]
    | true =>
      have w2 := fun m => mWq q2 (L := 0) (H := 1) rfl rfl m
      obtain ⟨i, rfl, il, hi⟩ := inC_n (by decide) (by decide) q1
      obtain ⟨w, rfl, wl, hw⟩ := inC_n (by decide) (by decide) q2
      obtain ⟨⟨v, x⟩, ex, f, z, B, er, p⟩ := ok_eq (c_heavy (i := i) (w := w) hf (by omega) (by omega) G V C)
      have er' : v = _ := er
      subst er'
      refine QQ_g (hR w f z) x ?_ p fun y m e D h0 => ?_
      · unfold D_X6_heaviest_0 D_X6_isInsurer_0
        rw [wC, bi_s, bi_s, if_pos (show inC (nI i) 0 9 = true from q1), wC, bi_s, if_pos (show inC (nI w) 0 1 = true from q2)]
        unfold D_X6_heaviest_22
        rw [show D_X6_needRight_0 1 μ = some (.inl (), μ) from c_rt μ, bi_s, tx_l]
        exact ex
      · obtain ⟨⟨v2, y2⟩, e2, f2, z2, B2, er2, p2⟩ := ok_eq (m_heavy (i := i) (w := w) hf (by omega) (by omega) G V D h0)
        have er3 : v2 = _ := er2
        subst er3
        obtain ⟨b1, b2⟩ := bF_u B B2
        subst b1 b2
        refine ⟨y2, ?_, p2⟩
        simp only [D_X7_heaviest_0, D_X7_heaviest_33, e, li0, vl_e, w1, w2, bi_s, reduceIte, show D_X7_needs_0 1 1 1 m = some (true, m) from m_nt h0 1 1]
        exact e2
end
