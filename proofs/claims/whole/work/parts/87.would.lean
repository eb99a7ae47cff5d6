/-! questions that think: would, takes, drops -/
section
variable {fu n N : Nat} {ev : Nat → Ev} {μ m : Mem} {s : Sp}
theorem CI_60 {x : Mem} (F : Fr (fun q => 61 ≤ q ∧ q ≤ 83) μ x) (C : CI ev n μ) : CI ev n x := by
  obtain ⟨g, n1, r, t, M, rt, it⟩ := C
  exact ⟨fun k hk => LG_F F (by omega) (g k hk), by rw [F.I (by omega)]; exact n1, RC_Fr F (fun q z => by omega) r, t, M, RC_Fr F (fun q z => by omega) rt, it⟩
theorem m_again {x : Mem} (hf : 200 < fu) (G : EG ev n) (D : MI ev n m) (h0 : m.1 85 0 = nI 0) (F : Fr (fun q => 90 ≤ q ∧ q ≤ 127) m x) : Ok (D_X7_goesOver_0 fu x) (fun y => MI ev n y ∧ y.1 85 0 = nI 0 ∧ Fr (fun q => q = 85 ∨ 87 ≤ q ∧ q ≤ 127) m y) := by
  have g : ∀ k, k < n → MG x k (ev k) := fun k hk => MG_F F (fun q z => by omega) (D.g k hk)
  have e85 : x.1 85 = m.1 85 := F.I (by omega)
  refine (m_over hf G g (by rw [e85]; exact D.n) (by rw [e85]; exact D.o)).mo fun y p => ?_
  obtain ⟨F2, E, R, -, -⟩ := p
  have F3 : Fr (fun q => q = 85 ∨ 87 ≤ q ∧ q ≤ 127) m y := Fr.tr (F.mo fun q z => by omega) (F2.mo fun q z => by unfold AG at z; omega)
  exact ⟨⟨fun k hk => MG_F F2 (fun q z => by unfold AG at z; omega) (g k hk), by rw [E 5 (by decide) (by decide), e85]; exact D.n, R, by rw [E 48 (by decide) (by decide), e85]; exact D.o⟩, by rw [E 0 (by decide) (by decide), e85]; exact h0, F3⟩
theorem c_thk {a b c v k : Nat} (hf : 200 < fu) (h1 : a ≤ b) (h2 : b ≤ c) (h3 : c < 12) (hv : v ≤ 1000000000) (hk : k ≤ 3) (C : RC 3 μ s) (H : Iv N s) : D_X6_setOffNow_0 fu μ (nI a) (nI b) (nI c) = some (nI (offV a b c (ru s 0))) ∧ ∃ x, D_X4_plan_0 fu 3 (nI 24) (nI (offV a b c (ru s 0))) (nI v).toInt64 (nI k) μ = some x ∧ Fr (fun q => 61 ≤ q ∧ q ≤ 83) μ x ∧ CP x s (pln s 24 (offB a b c (ru s 0)) v k) ∧ (k = 2 → ∀ l, l < cL s → x.2.1 81 l = zL (exc (pyF s 24 (offB a b c (ru s 0)) v 0) (pyW s 24 v (wA s (offB a b c (ru s 0))) 0) l) ∧ x.2.1 82 l = zL (exc (pyW s 24 v (wA s (offB a b c (ru s 0))) 0) (pyF s 24 (offB a b c (ru s 0)) v 0) l)) := by
  have r0 := IvR_r0 H.R
  refine ⟨?_, ?_⟩
  · unfold D_X6_setOffNow_0
    rw [K_r0 C, cOff (by omega) μ h1 h2 h3 r0, bi_s]
  · obtain ⟨x, e, p⟩ := ok_eq (c_plan (h := 24) (m := k) (a := (v : Int)) (off := offB a b c (ru s 0)) hf (b := 3) (by decide) (by decide) (Or.inr rfl) (offV_lt a b c (ru s 0)) (fun y hy => offV_b hy) (by omega) (by omega) hk C H)
    exact ⟨x, by rw [n_L (by omega)]; exact e, p⟩
theorem m_thk {a b c v : Nat} (hf : 200 < fu) (h1 : a ≤ b) (h2 : b ≤ c) (h3 : c < 12) (hv : v ≤ 1000000000) (R : RM m s) (H : Iv N s) : ∃ x, D_X7_thinksOf_0 fu (nI a) (nI b) (nI c) (nI v) m = some x ∧ Fr (fun q => 90 ≤ q ∧ q ≤ 127) m x ∧ RM x (addO s 24 (pln s 24 (offB a b c (ru s 0)) v (ru s 1))) := by
  obtain ⟨x1, e1, F1, R1, Y1⟩ := ok_eq (m_thinks hf h1 h2 h3 R H)
  obtain ⟨x3, e3, F3, W3⟩ := ok_eq (m_spreads (h := 24) (v := (v : Int)) hf (by decide) (by omega) (by omega) Y1 R1 H)
  refine ⟨x3, ?_, Fr.tr (F1.mo fun q z => by omega) (F3.mo fun q z => by unfold AS at z; omega), MW_R W3⟩
  unfold D_X7_thinksOf_0
  rw [e1, bi_s, n_L (by omega), show D_X7_spreads_0 fu 24 (zL (v : Int)) x1 = some x3 from e3, bi_s]
theorem add24 {O : Oc} (H : Iv N s) : (∀ l, l < 40 → tk (addO s 24 O) (960 + l) = O 0 l) ∧ (∀ i, i < 10 → br (addO s 24 O) (240 + i) = O 4 i) ∧ ∀ r, r < 7 → fl (addO s 24 O) (168 + r) = O 5 r := by
  have h24 := IvH_24 H.H
  refine ⟨fun l hl => ?_, fun i hi => ?_, fun r hr => ?_⟩
  · have z := (IvH_z2 H.H (h := 24) (by decide) h24 hl).1
    rw [show 960 + l = 40 * 24 + l by omega, add_tk s 24 O 24 hl, z, if_pos rfl, Int.zero_add]
  · have z := IvH_z6 H.H (h := 24) (by decide) h24 hi
    rw [show 240 + i = 10 * 24 + i by omega, add_br s 24 O 24 hi, z, if_pos rfl, Int.zero_add]
  · have z := IvH_z7 H.H (h := 24) (by decide) h24 hr
    rw [show 168 + r = 7 * 24 + r by omega, add_fl s 24 O 24 hr, z, if_pos rfl, Int.zero_add]
theorem QQ_t {β : Type} {cd : Nat → Nat} {r : Option ((β ⊕ String) × Mem)} {M : Mem → Option (β × Mem)} (v : β) (C : CI ev n μ) (x : Mem) (hr : r = some (.inl v, x)) (F : Fr (fun q => 61 ≤ q ∧ q ≤ 83) μ x) (hM : ∀ y m, wI y 85 0 (nI 0) = m → MI ev n m → m.1 85 0 = nI 0 → ∃ m', M y = some (v, m') ∧ MI ev n m' ∧ m'.1 85 0 = nI 0 ∧ Fr (fun q => q = 85 ∨ 87 ≤ q ∧ q ≤ 127) m m') : QQ ev n cd μ r M := ⟨.inl v, x, ho_l, hr, CI_60 F C, F.mo fun q z => by omega, fun y m e D h0 => by
  obtain ⟨m', a, b⟩ := hM y m e D h0
  exact ⟨v, m', a, b⟩⟩
theorem q_would (hf : 200 < fu) (G : EG ev n) (C : CI ev n μ) (a1 a2 a3 a4 a5 : Int32) : QQ ev n (kd 0 1 0) μ (D_X6_would_0 fu a1 a2 a3 a4 a5 μ) (D_X7_would_0 fu a1 a2 a3 a4 a5) := by
  have H := run_Iv G
  cases q1 : aY a1 a2 a3 with
  | false =>
    refine QQ_r (.inr 1) 0 C (ho_r (by decide)) ?_ fun x m e D h0 => ?_
    · simp only [D_X6_would_0, D_X6_would_30, D_X6_would_31, D_X6_isAmount_0, D_X6_isInsurer_0, wC, c_aY, li1e9, q1, li0, li1, li2, li3, li4, li5, li6, li7, li8, li9, li10, li12, li24, li31, li40, li160, n_le, n_lt, n_eq, n_m1, n_add, mr4, mr6, mr7, mr10, mr40, mr160, ml4, ml6, ml7, ml10, ml40, ml160, gu_ib, nI_nat, bi_s, vl_e, gu_t, if_true, if_false, reduceIte, bt1_1, bt1_2, bt1_3, bt1_4, bt1_5, bt1_6, bt1_7, bt1_8, bt1_9, bt1_10, bt1_11, bt1_12, bt14_1, bt14_2, bt14_3, bt14_4, bt14_5, bt14_6, bt14_7, bt14_8, bt14_9, bt14_10, bt14_11, bt14_12, Nat.reduceLeDiff, Nat.reduceEqDiff, Nat.reduceLT, eq_self, Nat.le_refl, Nat.le_zero_eq, Nat.not_lt_zero, Bool.false_eq_true, c_rf, tx_r, cAn]
    · have nf := m_nf (k := 1) (j := 1) h0 (by decide) (by decide) (by decide)
      simp only [D_X7_would_0, D_X7_would_40, D_X7_would_41, D_X7_isLoss_0, e, li0, li1, li2, li3, li4, li5, li6, li7, li8, li9, li10, li12, li24, li31, li40, li160, n_le, n_lt, n_eq, n_m1, n_add, mr4, mr6, mr7, mr10, mr40, mr160, ml4, ml6, ml7, ml10, ml40, ml160, gu_ib, nI_nat, bi_s, vl_e, gu_t, if_true, if_false, reduceIte, bt1_1, bt1_2, bt1_3, bt1_4, bt1_5, bt1_6, bt1_7, bt1_8, bt1_9, bt1_10, bt1_11, bt1_12, bt14_1, bt14_2, bt14_3, bt14_4, bt14_5, bt14_6, bt14_7, bt14_8, bt14_9, bt14_10, bt14_11, bt14_12, Nat.reduceLeDiff, Nat.reduceEqDiff, Nat.reduceLT, eq_self, Nat.le_refl, Nat.le_zero_eq, Nat.not_lt_zero, m_aY, q1, nf, Bool.false_eq_true, mAn, kd]
  | true =>
    cases q2 : inC a4 (nI 1) (nI 1000000000) with
    | false =>
      have w2 := fun m => mWq q2 (L := 1) (H := 1000000000) rfl rfl m
      refine QQ_r (.inr 1) 0 C (ho_r (by decide)) ?_ fun x m e D h0 => ?_
      · simp only [D_X6_would_0, D_X6_would_30, D_X6_would_31, D_X6_isAmount_0, D_X6_isInsurer_0, wC, c_aY, li1e9, q1, q2, li0, li1, li2, li3, li4, li5, li6, li7, li8, li9, li10, li12, li24, li31, li40, li160, n_le, n_lt, n_eq, n_m1, n_add, mr4, mr6, mr7, mr10, mr40, mr160, ml4, ml6, ml7, ml10, ml40, ml160, gu_ib, nI_nat, bi_s, vl_e, gu_t, if_true, if_false, reduceIte, bt1_1, bt1_2, bt1_3, bt1_4, bt1_5, bt1_6, bt1_7, bt1_8, bt1_9, bt1_10, bt1_11, bt1_12, bt14_1, bt14_2, bt14_3, bt14_4, bt14_5, bt14_6, bt14_7, bt14_8, bt14_9, bt14_10, bt14_11, bt14_12, Nat.reduceLeDiff, Nat.reduceEqDiff, Nat.reduceLT, eq_self, Nat.le_refl, Nat.le_zero_eq, Nat.not_lt_zero, Bool.false_eq_true, c_rf, tx_r, cAn]
      · have nf := m_nf (k := 1) (j := 1) h0 (by decide) (by decide) (by decide)
        simp only [D_X7_would_0, D_X7_would_40, D_X7_would_41, D_X7_isLoss_0, e, li0, li1, li2, li3, li4, li5, li6, li7, li8, li9, li10, li12, li24, li31, li40, li160, n_le, n_lt, n_eq, n_m1, n_add, mr4, mr6, mr7, mr10, mr40, mr160, ml4, ml6, ml7, ml10, ml40, ml160, gu_ib, nI_nat, bi_s, vl_e, gu_t, if_true, if_false, reduceIte, bt1_1, bt1_2, bt1_3, bt1_4, bt1_5, bt1_6, bt1_7, bt1_8, bt1_9, bt1_10, bt1_11, bt1_12, bt14_1, bt14_2, bt14_3, bt14_4, bt14_5, bt14_6, bt14_7, bt14_8, bt14_9, bt14_10, bt14_11, bt14_12, Nat.reduceLeDiff, Nat.reduceEqDiff, Nat.reduceLT, eq_self, Nat.le_refl, Nat.le_zero_eq, Nat.not_lt_zero, m_aY, q1, w2, nf, Bool.false_eq_true, mAn, kd]
    | true =>
      have w2 := fun m => mWq q2 (L := 1) (H := 1000000000) rfl rfl m
      cases q3 : inC a5 (nI 0) (nI 9) with
      | false =>
        have w3 := fun m => mWq q3 (L := 0) (H := 9) rfl rfl m
        refine QQ_r (.inr 1) 0 C (ho_r (by decide)) ?_ fun x m e D h0 => ?_
        · simp only [D_X6_would_0, D_X6_would_30, D_X6_would_31, D_X6_isAmount_0, D_X6_isInsurer_0, wC, c_aY, li1e9, q1, q2, q3, li0, li1, li2, li3, li4, li5, li6, li7, li8, li9, li10, li12, li24, li31, li40, li160, n_le, n_lt, n_eq, n_m1, n_add, mr4, mr6, mr7, mr10, mr40, mr160, ml4, ml6, ml7, ml10, ml40, ml160, gu_ib, nI_nat, bi_s, vl_e, gu_t, if_true, if_false, reduceIte, bt1_1, bt1_2, bt1_3, bt1_4, bt1_5, bt1_6, bt1_7, bt1_8, bt1_9, bt1_10, bt1_11, bt1_12, bt14_1, bt14_2, bt14_3, bt14_4, bt14_5, bt14_6, bt14_7, bt14_8, bt14_9, bt14_10, bt14_11, bt14_12, Nat.reduceLeDiff, Nat.reduceEqDiff, Nat.reduceLT, eq_self, Nat.le_refl, Nat.le_zero_eq, Nat.not_lt_zero, Bool.false_eq_true, c_rf, tx_r, cAn]
        · have nf := m_nf (k := 1) (j := 1) h0 (by decide) (by decide) (by decide)
          simp only [D_X7_would_0, D_X7_would_40, D_X7_would_41, D_X7_isLoss_0, e, li0, li1, li2, li3, li4, li5, li6, li7, li8, li9, li10, li12, li24, li31, li40, li160, n_le, n_lt, n_eq, n_m1, n_add, mr4, mr6, mr7, mr10, mr40, mr160, ml4, ml6, ml7, ml10, ml40, ml160, gu_ib, nI_nat, bi_s, vl_e, gu_t, if_true, if_false, reduceIte, bt1_1, bt1_2, bt1_3, bt1_4, bt1_5, bt1_6, bt1_7, bt1_8, bt1_9, bt1_10, bt1_11, bt1_12, bt14_1, bt14_2, bt14_3, bt14_4, bt14_5, bt14_6, bt14_7, bt14_8, bt14_9, bt14_10, bt14_11, bt14_12, Nat.reduceLeDiff, Nat.reduceEqDiff, Nat.reduceLT, eq_self, Nat.le_refl, Nat.le_zero_eq, Nat.not_lt_zero, m_aY, q1, w2, w3, nf, Bool.false_eq_true, mAn, kd]
      | true =>
        have w3 := fun m => mWq q3 (L := 0) (H := 9) rfl rfl m
        obtain ⟨a, b, c, rfl, rfl, rfl, h1, h2, h3⟩ := aY_n q1
        obtain ⟨v, rfl, v1, hv⟩ := inC_n (by decide) (by decide) q2
        obtain ⟨i, rfl, il, hi⟩ := inC_n (by decide) (by decide) q3
        have r1 := IvR_r1 H.R
        obtain ⟨so, x, pl, F, P, -⟩ := c_thk (v := v) hf h1 h2 h3 hv r1 C.r H
        obtain ⟨p0, p1, p2, p4, p40, p5, p6⟩ := P
        have A := add24 (O := pln (run ev n) 24 (offB a b c (ru (run ev n) 0)) v (ru (run ev n) 1)) H
        refine QQ_t (if i = 0 then zL (sm ((pln (run ev n) 24 (offB a b c (ru (run ev n) 0)) v (ru (run ev n) 1)) 5) 7) else zL ((pln (run ev n) 24 (offB a b c (ru (run ev n) 0)) v (ru (run ev n) 1)) 4 i)) C x ?_ F fun y m e D h0 => ?_
        · simp (disch := omega) only [D_X6_would_0, D_X6_would_30, D_X6_would_31, D_X6_isAmount_0, D_X6_isInsurer_0, wC, c_aY, li1e9, q1, q2, q3, li0, li1, li2, li3, li4, li5, li6, li7, li8, li9, li10, li12, li24, li31, li40, li160, n_le, n_lt, n_eq, n_m1, n_add, mr4, mr6, mr7, mr10, mr40, mr160, ml4, ml6, ml7, ml10, ml40, ml160, gu_ib, nI_nat, bi_s, vl_e, gu_t, if_true, if_false, reduceIte, bt1_1, bt1_2, bt1_3, bt1_4, bt1_5, bt1_6, bt1_7, bt1_8, bt1_9, bt1_10, bt1_11, bt1_12, bt14_1, bt14_2, bt14_3, bt14_4, bt14_5, bt14_6, bt14_7, bt14_8, bt14_9, bt14_10, bt14_11, bt14_12, Nat.reduceLeDiff, Nat.reduceEqDiff, Nat.reduceLT, eq_self, Nat.le_refl, Nat.le_zero_eq, Nat.not_lt_zero, c_rt, tx_l, so, K_r1 C.r, pl]
          by_cases z : i = 0
          · rw [z, if_pos rfl, p40]
          · rw [if_neg z, p4 i (by omega) (by omega)]
        · obtain ⟨x3, e3, F3, R3⟩ := m_thk hf h1 h2 h3 hv D.r H
          obtain ⟨y4, e4, b1, b2, b3⟩ := ok_eq (m_again hf G D h0 F3)
          refine ⟨y4, ?_, b1, b2, b3⟩
          have be : D_X7_bearsOf_0 fu x3 (nI 24) (nI i) = some (if i = 0 then zL (sm ((pln (run ev n) 24 (offB a b c (ru (run ev n) 0)) v (ru (run ev n) 1)) 5) 7) else zL ((pln (run ev n) 24 (offB a b c (ru (run ev n) 0)) v (ru (run ev n) 1)) 4 i)) := by
            rw [m_bearsOf hf (by decide) (by omega) R3]
            unfold bO
            by_cases z : i = 0
            · rw [if_pos z, if_pos z]
              exact congrArg (fun t => some (zL t)) (sm_congr fun r hr => A.2.2 r hr)
            · rw [if_neg z, if_neg z]
              exact congrArg (fun t => some (zL t)) (A.2.1 i (by omega))
          simp only [D_X7_would_0, D_X7_would_40, D_X7_would_41, D_X7_isLoss_0, e, li0, li1, li2, li3, li4, li5, li6, li7, li8, li9, li10, li12, li24, li31, li40, li160, n_le, n_lt, n_eq, n_m1, n_add, mr4, mr6, mr7, mr10, mr40, mr160, ml4, ml6, ml7, ml10, ml40, ml160, gu_ib, nI_nat, bi_s, vl_e, gu_t, if_true, if_false, reduceIte, bt1_1, bt1_2, bt1_3, bt1_4, bt1_5, bt1_6, bt1_7, bt1_8, bt1_9, bt1_10, bt1_11, bt1_12, bt14_1, bt14_2, bt14_3, bt14_4, bt14_5, bt14_6, bt14_7, bt14_8, bt14_9, bt14_10, bt14_11, bt14_12, Nat.reduceLeDiff, Nat.reduceEqDiff, Nat.reduceLT, eq_self, Nat.le_refl, Nat.le_zero_eq, Nat.not_lt_zero, m_aY, q1, w2, w3, m_nt h0, e3, be, e4]
theorem q_drops (hf : 200 < fu) (G : EG ev n) (C : CI ev n μ) (a1 a2 a3 a4 a5 : Int32) : QQ ev n (kd 0 1 0) μ (D_X6_drops_0 fu a1 a2 a3 a4 a5 μ) (D_X7_drops_0 fu a1 a2 a3 a4 a5) := by
  have H := run_Iv G
  cases q1 : aY a1 a2 a3 with
  | false =>
    refine QQ_r (.inr 1) 0 C (ho_r (by decide)) ?_ fun x m e D h0 => ?_
    · simp only [D_X6_drops_0, D_X6_drops_30, D_X6_drops_31, D_X6_isAmount_0, D_X6_isReason_0, wC, c_aY, li1e9, q1, li0, li1, li2, li3, li4, li5, li6, li7, li8, li9, li10, li12, li24, li31, li40, li160, n_le, n_lt, n_eq, n_m1, n_add, mr4, mr6, mr7, mr10, mr40, mr160, ml4, ml6, ml7, ml10, ml40, ml160, gu_ib, nI_nat, bi_s, vl_e, gu_t, if_true, if_false, reduceIte, bt1_1, bt1_2, bt1_3, bt1_4, bt1_5, bt1_6, bt1_7, bt1_8, bt1_9, bt1_10, bt1_11, bt1_12, bt14_1, bt14_2, bt14_3, bt14_4, bt14_5, bt14_6, bt14_7, bt14_8, bt14_9, bt14_10, bt14_11, bt14_12, Nat.reduceLeDiff, Nat.reduceEqDiff, Nat.reduceLT, eq_self, Nat.le_refl, Nat.le_zero_eq, Nat.not_lt_zero, Bool.false_eq_true, c_rf, tx_r, cAn]
    · have nf := m_nf (k := 1) (j := 1) h0 (by decide) (by decide) (by decide)
      simp only [D_X7_drops_0, D_X7_drops_40, D_X7_drops_41, D_X7_isLoss_0, e, li0, li1, li2, li3, li4, li5, li6, li7, li8, li9, li10, li12, li24, li31, li40, li160, n_le, n_lt, n_eq, n_m1, n_add, mr4, mr6, mr7, mr10, mr40, mr160, ml4, ml6, ml7, ml10, ml40, ml160, gu_ib, nI_nat, bi_s, vl_e, gu_t, if_true, if_false, reduceIte, bt1_1, bt1_2, bt1_3, bt1_4, bt1_5, bt1_6, bt1_7, bt1_8, bt1_9, bt1_10, bt1_11, bt1_12, bt14_1, bt14_2, bt14_3, bt14_4, bt14_5, bt14_6, bt14_7, bt14_8, bt14_9, bt14_10, bt14_11, bt14_12, Nat.reduceLeDiff, Nat.reduceEqDiff, Nat.reduceLT, eq_self, Nat.le_refl, Nat.le_zero_eq, Nat.not_lt_zero, m_aY, q1, nf, Bool.false_eq_true, mAn, kd]
  | true =>
    cases q2 : inC a4 (nI 1) (nI 1000000000) with
    | false =>
      have w2 := fun m => mWq q2 (L := 1) (H := 1000000000) rfl rfl m
      refine QQ_r (.inr 1) 0 C (ho_r (by decide)) ?_ fun x m e D h0 => ?_
      · simp only [D_X6_drops_0, D_X6_drops_30, D_X6_drops_31, D_X6_isAmount_0, D_X6_isReason_0, wC, c_aY, li1e9, q1, q2, li0, li1, li2, li3, li4, li5, li6, li7, li8, li9, li10, li12, li24, li31, li40, li160, n_le, n_lt, n_eq, n_m1, n_add, mr4, mr6, mr7, mr10, mr40, mr160, ml4, ml6, ml7, ml10, ml40, ml160, gu_ib, nI_nat, bi_s, vl_e, gu_t, if_true, if_false, reduceIte, bt1_1, bt1_2, bt1_3, bt1_4, bt1_5, bt1_6, bt1_7, bt1_8, bt1_9, bt1_10, bt1_11, bt1_12, bt14_1, bt14_2, bt14_3, bt14_4, bt14_5, bt14_6, bt14_7, bt14_8, bt14_9, bt14_10, bt14_11, bt14_12, Nat.reduceLeDiff, Nat.reduceEqDiff, Nat.reduceLT, eq_self, Nat.le_refl, Nat.le_zero_eq, Nat.not_lt_zero, Bool.false_eq_true, c_rf, tx_r, cAn]
      · have nf := m_nf (k := 1) (j := 1) h0 (by decide) (by decide) (by decide)
        simp only [D_X7_drops_0, D_X7_drops_40, D_X7_drops_41, D_X7_isLoss_0, e, li0, li1, li2, li3, li4, li5, li6, li7, li8, li9, li10, li12, li24, li31, li40, li160, n_le, n_lt, n_eq, n_m1, n_add, mr4, mr6, mr7, mr10, mr40, mr160, ml4, ml6, ml7, ml10, ml40, ml160, gu_ib, nI_nat, bi_s, vl_e, gu_t, if_true, if_false, reduceIte, bt1_1, bt1_2, bt1_3, bt1_4, bt1_5, bt1_6, bt1_7, bt1_8, bt1_9, bt1_10, bt1_11, bt1_12, bt14_1, bt14_2, bt14_3, bt14_4, bt14_5, bt14_6, bt14_7, bt14_8, bt14_9, bt14_10, bt14_11, bt14_12, Nat.reduceLeDiff, Nat.reduceEqDiff, Nat.reduceLT, eq_self, Nat.le_refl, Nat.le_zero_eq, Nat.not_lt_zero, m_aY, q1, w2, nf, Bool.false_eq_true, mAn, kd]
    | true =>
      have w2 := fun m => mWq q2 (L := 1) (H := 1000000000) rfl rfl m
      cases q3 : inC a5 (nI 0) (nI 6) with
      | false =>
        have w3 := fun m => mWq q3 (L := 0) (H := 6) rfl rfl m
        refine QQ_r (.inr 1) 0 C (ho_r (by decide)) ?_ fun x m e D h0 => ?_
        · simp only [D_X6_drops_0, D_X6_drops_30, D_X6_drops_31, D_X6_isAmount_0, D_X6_isReason_0, wC, c_aY, li1e9, q1, q2, q3, li0, li1, li2, li3, li4, li5, li6, li7, li8, li9, li10, li12, li24, li31, li40, li160, n_le, n_lt, n_eq, n_m1, n_add, mr4, mr6, mr7, mr10, mr40, mr160, ml4, ml6, ml7, ml10, ml40, ml160, gu_ib, nI_nat, bi_s, vl_e, gu_t, if_true, if_false, reduceIte, bt1_1, bt1_2, bt1_3, bt1_4, bt1_5, bt1_6, bt1_7, bt1_8, bt1_9, bt1_10, bt1_11, bt1_12, bt14_1, bt14_2, bt14_3, bt14_4, bt14_5, bt14_6, bt14_7, bt14_8, bt14_9, bt14_10, bt14_11, bt14_12, Nat.reduceLeDiff, Nat.reduceEqDiff, Nat.reduceLT, eq_self, Nat.le_refl, Nat.le_zero_eq, Nat.not_lt_zero, Bool.false_eq_true, c_rf, tx_r, cAn]
        · have nf := m_nf (k := 1) (j := 1) h0 (by decide) (by decide) (by decide)
          simp only [D_X7_drops_0, D_X7_drops_40, D_X7_drops_41, D_X7_isLoss_0, e, li0, li1, li2, li3, li4, li5, li6, li7, li8, li9, li10, li12, li24, li31, li40, li160, n_le, n_lt, n_eq, n_m1, n_add, mr4, mr6, mr7, mr10, mr40, mr160, ml4, ml6, ml7, ml10, ml40, ml160, gu_ib, nI_nat, bi_s, vl_e, gu_t, if_true, if_false, reduceIte, bt1_1, bt1_2, bt1_3, bt1_4, bt1_5, bt1_6, bt1_7, bt1_8, bt1_9, bt1_10, bt1_11, bt1_12, bt14_1, bt14_2, bt14_3, bt14_4, bt14_5, bt14_6, bt14_7, bt14_8, bt14_9, bt14_10, bt14_11, bt14_12, Nat.reduceLeDiff, Nat.reduceEqDiff, Nat.reduceLT, eq_self, Nat.le_refl, Nat.le_zero_eq, Nat.not_lt_zero, m_aY, q1, w2, w3, nf, Bool.false_eq_true, mAn, kd]
      | true =>
        have w3 := fun m => mWq q3 (L := 0) (H := 6) rfl rfl m
        obtain ⟨a, b, c, rfl, rfl, rfl, h1, h2, h3⟩ := aY_n q1
        obtain ⟨v, rfl, v1, hv⟩ := inC_n (by decide) (by decide) q2
        obtain ⟨i, rfl, il, hi⟩ := inC_n (by decide) (by decide) q3
        have r1 := IvR_r1 H.R
        obtain ⟨so, x, pl, F, P, -⟩ := c_thk (v := v) hf h1 h2 h3 hv r1 C.r H
        obtain ⟨p0, p1, p2, p4, p40, p5, p6⟩ := P
        have A := add24 (O := pln (run ev n) 24 (offB a b c (ru (run ev n) 0)) v (ru (run ev n) 1)) H
        refine QQ_t (zL ((pln (run ev n) 24 (offB a b c (ru (run ev n) 0)) v (ru (run ev n) 1)) 5 i)) C x ?_ F fun y m e D h0 => ?_
        · simp (disch := omega) only [D_X6_drops_0, D_X6_drops_30, D_X6_drops_31, D_X6_isAmount_0, D_X6_isReason_0, wC, c_aY, li1e9, q1, q2, q3, li0, li1, li2, li3, li4, li5, li6, li7, li8, li9, li10, li12, li24, li31, li40, li160, n_le, n_lt, n_eq, n_m1, n_add, mr4, mr6, mr7, mr10, mr40, mr160, ml4, ml6, ml7, ml10, ml40, ml160, gu_ib, nI_nat, bi_s, vl_e, gu_t, if_true, if_false, reduceIte, bt1_1, bt1_2, bt1_3, bt1_4, bt1_5, bt1_6, bt1_7, bt1_8, bt1_9, bt1_10, bt1_11, bt1_12, bt14_1, bt14_2, bt14_3, bt14_4, bt14_5, bt14_6, bt14_7, bt14_8, bt14_9, bt14_10, bt14_11, bt14_12, Nat.reduceLeDiff, Nat.reduceEqDiff, Nat.reduceLT, eq_self, Nat.le_refl, Nat.le_zero_eq, Nat.not_lt_zero, c_rt, tx_l, so, K_r1 C.r, pl, p5 i (by omega)]
        · obtain ⟨x3, e3, F3, R3⟩ := m_thk hf h1 h2 h3 hv D.r H
          obtain ⟨y4, e4, b1, b2, b3⟩ := ok_eq (m_again hf G D h0 F3)
          refine ⟨y4, ?_, b1, b2, b3⟩
          simp (disch := omega) only [D_X7_drops_0, D_X7_drops_40, D_X7_drops_41, D_X7_isLoss_0, e, li0, li1, li2, li3, li4, li5, li6, li7, li8, li9, li10, li12, li24, li31, li40, li160, n_le, n_lt, n_eq, n_m1, n_add, mr4, mr6, mr7, mr10, mr40, mr160, ml4, ml6, ml7, ml10, ml40, ml160, gu_ib, nI_nat, bi_s, vl_e, gu_t, if_true, if_false, reduceIte, bt1_1, bt1_2, bt1_3, bt1_4, bt1_5, bt1_6, bt1_7, bt1_8, bt1_9, bt1_10, bt1_11, bt1_12, bt14_1, bt14_2, bt14_3, bt14_4, bt14_5, bt14_6, bt14_7, bt14_8, bt14_9, bt14_10, bt14_11, bt14_12, Nat.reduceLeDiff, Nat.reduceEqDiff, Nat.reduceLT, eq_self, Nat.le_refl, Nat.le_zero_eq, Nat.not_lt_zero, m_aY, q1, w2, w3, m_nt h0, e3, e4, show (168 : Int32) = nI 168 from rfl, M_fl R3, A.2.2 i (by omega)]
theorem q_takes (hf : 200 < fu) (G : EG ev n) (V : LV ev n) (C : CI ev n μ) (a1 a2 a3 a4 a5 : Int32) : QQ ev n (kd 1 2 0) μ (D_X6_takes_0 fu a1 a2 a3 a4 a5 μ) (D_X7_takes_0 fu a1 a2 a3 a4 a5) := by
  have T := (run_CT G V n (Nat.le_refl _)).1
  have H := run_Iv G
  have t40 := T.2.2.1
  cases q0 : iB a5 (cL (run ev n)) with
  | false =>
    refine QQ_r (.inr 0) 0 C (ho_r (by decide)) ?_ fun x m e D h0 => ?_
    · simp only [D_X6_takes_0, c_isL C.r, q0, li0, li1, li2, li3, li4, li5, li6, li7, li8, li9, li10, li12, li24, li31, li40, li160, n_le, n_lt, n_eq, n_m1, n_add, mr4, mr6, mr7, mr10, mr40, mr160, ml4, ml6, ml7, ml10, ml40, ml160, gu_ib, nI_nat, bi_s, vl_e, gu_t, if_true, if_false, reduceIte, bt1_1, bt1_2, bt1_3, bt1_4, bt1_5, bt1_6, bt1_7, bt1_8, bt1_9, bt1_10, bt1_11, bt1_12, bt14_1, bt14_2, bt14_3, bt14_4, bt14_5, bt14_6, bt14_7, bt14_8, bt14_9, bt14_10, bt14_11, bt14_12, Nat.reduceLeDiff, Nat.reduceEqDiff, Nat.reduceLT, eq_self, Nat.le_refl, Nat.le_zero_eq, Nat.not_lt_zero, b2_f, c_tf, tx_r, cAn]
    · have dd := m_isL (d := 1) D.r T H h0 a5 (by decide) (by decide)
      simp only [D_X7_takes_0, e, li0, li1, li2, li3, li4, li5, li6, li7, li8, li9, li10, li12, li24, li31, li40, li160, n_le, n_lt, n_eq, n_m1, n_add, mr4, mr6, mr7, mr10, mr40, mr160, ml4, ml6, ml7, ml10, ml40, ml160, gu_ib, nI_nat, bi_s, vl_e, gu_t, if_true, if_false, reduceIte, bt1_1, bt1_2, bt1_3, bt1_4, bt1_5, bt1_6, bt1_7, bt1_8, bt1_9, bt1_10, bt1_11, bt1_12, bt14_1, bt14_2, bt14_3, bt14_4, bt14_5, bt14_6, bt14_7, bt14_8, bt14_9, bt14_10, bt14_11, bt14_12, Nat.reduceLeDiff, Nat.reduceEqDiff, Nat.reduceLT, eq_self, Nat.le_refl, Nat.le_zero_eq, Nat.not_lt_zero, dd, q0, Bool.false_eq_true, mAn, kd]
  | true =>
    cases q1 : aY a1 a2 a3 with
    | false =>
      refine QQ_r (.inr 1) 0 C (ho_r (by decide)) ?_ fun x m e D h0 => ?_
      · simp only [D_X6_takes_0, D_X6_takes_32, D_X6_takes_33, c_isL C.r, q0, c_aY, q1, li0, li1, li2, li3, li4, li5, li6, li7, li8, li9, li10, li12, li24, li31, li40, li160, n_le, n_lt, n_eq, n_m1, n_add, mr4, mr6, mr7, mr10, mr40, mr160, ml4, ml6, ml7, ml10, ml40, ml160, gu_ib, nI_nat, bi_s, vl_e, gu_t, if_true, if_false, reduceIte, bt1_1, bt1_2, bt1_3, bt1_4, bt1_5, bt1_6, bt1_7, bt1_8, bt1_9, bt1_10, bt1_11, bt1_12, bt14_1, bt14_2, bt14_3, bt14_4, bt14_5, bt14_6, bt14_7, bt14_8, bt14_9, bt14_10, bt14_11, bt14_12, Nat.reduceLeDiff, Nat.reduceEqDiff, Nat.reduceLT, eq_self, Nat.le_refl, Nat.le_zero_eq, Nat.not_lt_zero, b2_t, c_tt, tx_l, Bool.false_eq_true, c_rf, tx_r, cAn]
      · have dd := m_isL (d := 1) D.r T H h0 a5 (by decide) (by decide)
        have nf := m_nf (k := 2) (j := 1) h0 (by decide) (by decide) (by decide)
        simp only [D_X7_takes_0, D_X7_takes_37, D_X7_takes_38, e, li0, li1, li2, li3, li4, li5, li6, li7, li8, li9, li10, li12, li24, li31, li40, li160, n_le, n_lt, n_eq, n_m1, n_add, mr4, mr6, mr7, mr10, mr40, mr160, ml4, ml6, ml7, ml10, ml40, ml160, gu_ib, nI_nat, bi_s, vl_e, gu_t, if_true, if_false, reduceIte, bt1_1, bt1_2, bt1_3, bt1_4, bt1_5, bt1_6, bt1_7, bt1_8, bt1_9, bt1_10, bt1_11, bt1_12, bt14_1, bt14_2, bt14_3, bt14_4, bt14_5, bt14_6, bt14_7, bt14_8, bt14_9, bt14_10, bt14_11, bt14_12, Nat.reduceLeDiff, Nat.reduceEqDiff, Nat.reduceLT, eq_self, Nat.le_refl, Nat.le_zero_eq, Nat.not_lt_zero, dd, q0, m_aY, q1, nf, Bool.false_eq_true, mAn, kd]
    | true =>
      cases q2 : inC a4 (nI 1) (nI 1000000000) with
      | false =>
        have w2 := fun m => mWq q2 (L := 1) (H := 1000000000) rfl rfl m
        refine QQ_r (.inr 1) 0 C (ho_r (by decide)) ?_ fun x m e D h0 => ?_
        · simp only [D_X6_takes_0, D_X6_takes_32, D_X6_takes_33, D_X6_isAmount_0, wC, li1e9, c_isL C.r, q0, c_aY, q1, q2, li0, li1, li2, li3, li4, li5, li6, li7, li8, li9, li10, li12, li24, li31, li40, li160, n_le, n_lt, n_eq, n_m1, n_add, mr4, mr6, mr7, mr10, mr40, mr160, ml4, ml6, ml7, ml10, ml40, ml160, gu_ib, nI_nat, bi_s, vl_e, gu_t, if_true, if_false, reduceIte, bt1_1, bt1_2, bt1_3, bt1_4, bt1_5, bt1_6, bt1_7, bt1_8, bt1_9, bt1_10, bt1_11, bt1_12, bt14_1, bt14_2, bt14_3, bt14_4, bt14_5, bt14_6, bt14_7, bt14_8, bt14_9, bt14_10, bt14_11, bt14_12, Nat.reduceLeDiff, Nat.reduceEqDiff, Nat.reduceLT, eq_self, Nat.le_refl, Nat.le_zero_eq, Nat.not_lt_zero, b2_t, c_tt, tx_l, Bool.false_eq_true, c_rf, tx_r, cAn]
        · have dd := m_isL (d := 1) D.r T H h0 a5 (by decide) (by decide)
          have nf := m_nf (k := 2) (j := 1) h0 (by decide) (by decide) (by decide)
          simp only [D_X7_takes_0, D_X7_takes_37, D_X7_takes_38, D_X7_isLoss_0, e, li0, li1, li2, li3, li4, li5, li6, li7, li8, li9, li10, li12, li24, li31, li40, li160, n_le, n_lt, n_eq, n_m1, n_add, mr4, mr6, mr7, mr10, mr40, mr160, ml4, ml6, ml7, ml10, ml40, ml160, gu_ib, nI_nat, bi_s, vl_e, gu_t, if_true, if_false, reduceIte, bt1_1, bt1_2, bt1_3, bt1_4, bt1_5, bt1_6, bt1_7, bt1_8, bt1_9, bt1_10, bt1_11, bt1_12, bt14_1, bt14_2, bt14_3, bt14_4, bt14_5, bt14_6, bt14_7, bt14_8, bt14_9, bt14_10, bt14_11, bt14_12, Nat.reduceLeDiff, Nat.reduceEqDiff, Nat.reduceLT, eq_self, Nat.le_refl, Nat.le_zero_eq, Nat.not_lt_zero, dd, q0, m_aY, q1, w2, nf, Bool.false_eq_true, mAn, kd]
      | true =>
        have w2 := fun m => mWq q2 (L := 1) (H := 1000000000) rfl rfl m
        obtain ⟨l, rfl, hl⟩ := iB_n (by omega) q0
        obtain ⟨a, b, c, rfl, rfl, rfl, h1, h2, h3⟩ := aY_n q1
        obtain ⟨v, rfl, v1, hv⟩ := inC_n (by decide) (by decide) q2
        have r1 := IvR_r1 H.R
        obtain ⟨so, x, pl, F, P, -⟩ := c_thk (v := v) hf h1 h2 h3 hv r1 C.r H
        have p0 := P.1 l (by omega)
        have A := (add24 (O := (pln (run ev n) 24 (offB a b c (ru (run ev n) 0)) v (ru (run ev n) 1))) H).1 l (by omega)
        refine QQ_t (zL ((pln (run ev n) 24 (offB a b c (ru (run ev n) 0)) v (ru (run ev n) 1)) 0 l)) C x ?_ F fun y m e D h0 => ?_
        · simp (disch := omega) only [D_X6_takes_0, D_X6_takes_33, D_X6_isAmount_0, wC, li1e9, c_isL C.r, q0, c_aY, q1, q2, li0, li1, li2, li3, li4, li5, li6, li7, li8, li9, li10, li12, li24, li31, li40, li160, n_le, n_lt, n_eq, n_m1, n_add, mr4, mr6, mr7, mr10, mr40, mr160, ml4, ml6, ml7, ml10, ml40, ml160, gu_ib, nI_nat, bi_s, vl_e, gu_t, if_true, if_false, reduceIte, bt1_1, bt1_2, bt1_3, bt1_4, bt1_5, bt1_6, bt1_7, bt1_8, bt1_9, bt1_10, bt1_11, bt1_12, bt14_1, bt14_2, bt14_3, bt14_4, bt14_5, bt14_6, bt14_7, bt14_8, bt14_9, bt14_10, bt14_11, bt14_12, Nat.reduceLeDiff, Nat.reduceEqDiff, Nat.reduceLT, eq_self, Nat.le_refl, Nat.le_zero_eq, Nat.not_lt_zero, b2_t, c_tt, tx_l, c_rt, so, K_r1 C.r, pl, p0]
        · obtain ⟨x3, e3, F3, R3⟩ := m_thk hf h1 h2 h3 hv D.r H
          obtain ⟨y4, e4, b1, b2, b3⟩ := ok_eq (m_again hf G D h0 F3)
          refine ⟨y4, ?_, b1, b2, b3⟩
          have dd := m_isL (d := 1) D.r T H h0 (nI l) (by decide) (by decide)
          simp (disch := omega) only [D_X7_takes_0, D_X7_takes_38, D_X7_isLoss_0, e, li0, li1, li2, li3, li4, li5, li6, li7, li8, li9, li10, li12, li24, li31, li40, li160, n_le, n_lt, n_eq, n_m1, n_add, mr4, mr6, mr7, mr10, mr40, mr160, ml4, ml6, ml7, ml10, ml40, ml160, gu_ib, nI_nat, bi_s, vl_e, gu_t, if_true, if_false, reduceIte, bt1_1, bt1_2, bt1_3, bt1_4, bt1_5, bt1_6, bt1_7, bt1_8, bt1_9, bt1_10, bt1_11, bt1_12, bt14_1, bt14_2, bt14_3, bt14_4, bt14_5, bt14_6, bt14_7, bt14_8, bt14_9, bt14_10, bt14_11, bt14_12, Nat.reduceLeDiff, Nat.reduceEqDiff, Nat.reduceLT, eq_self, Nat.le_refl, Nat.le_zero_eq, Nat.not_lt_zero, dd, q0, m_aY, q1, w2, m_nt h0, e3, e4, show (960 : Int32) = nI 960 from rfl, M_tk R3, A]
end
