/-! by weights; in turn -/
theorem fil_0 {N : Nat} {s : Sp} (H : Iv N s) {h y : Nat} (hh : h < 25) (hy : y < 12) {O : Oc} (Z : OZ s O y) : (fil s h y 0 O (hg s y)).1 = 0 ∧ ∀ f j, (fil s h y 0 O (hg s y)).2 f j = O f j :=
  fil_stop H hh hy (Int.le_refl 0) Z (k := 0) rfl (Nat.zero_le _) (Nat.le_refl _)
theorem pw_0 {N : Nat} {s : Sp} (H : Iv N s) {h : Nat} (hh : h < 25) {p : Nat → Int} (hp : ∀ y, y < 12 → p y = 0) : ∀ {y : Nat}, y ≤ 12 → ∀ f j, pw s h p y f j = 0
  | 0, _ => fun _ _ => rfl
  | y + 1, hy => fun f j => by
    have ih := pw_0 H hh hp (y := y) (by omega)
    have z := (pw_b H hh (p := p) (fun y hy => by rw [hp y hy]; exact Int.le_refl 0) (y := y) (by omega)).2 y (Nat.le_refl _) (by omega)
    unfold pw
    by_cases q : hg s y = 0
    · rw [if_pos q, uO_1]
      split
      · rw [ih, hp y (by omega)]; rfl
      · exact ih f j
    · have e := fil_0 H hh (show y < 12 by omega) z
      rw [if_neg q, hp y (by omega), uO_1]
      split
      · rw [ih, e.1]; rfl
      · rw [e.2]; exact ih f j
theorem c_payW {b N fu t h : Nat} {μ : Mem} {s : Sp} {a W : Int} {w : Nat → Int} (hf : 200 < fu) (hb : b + 28 < 61) (ht : t = 62 ∨ t = 69) (hh : h < 25) (hq : isH s h = 1 ∨ h = 24) (ha : 0 ≤ a) (ha2 : a < 4611686018427387904) (C : RC b μ s) (H : Iv N s) (B : WB 12 w W) (hw : ∀ y, y < 12 → μ.2.1 76 y = zL (w y)) : Ok (D_X4_payByWeights_0 fu b t (nI h) (zL a) μ) (fun μ' => Fr (fun q => t < q ∧ q ≤ t + 6 ∨ q = 77) μ μ' ∧ CO t μ' (pyW s h a w)) := by
  have wn : ∀ y, y < 12 → 0 ≤ w y := fun y hy => (B.1 y hy).1
  unfold D_X4_payByWeights_0
  refine Ok.b (c_clearO hf t μ) fun x1 p1 => ?_
  refine Ok.b (c_share (w := w) (W := W) (n := 12) hf (by decide) (by decide) (by decide) (by decide) (by decide) (by decide) B ha ha2 (fun y hy => by rw [p1.1.L (by omega)]; exact hw y hy)) fun x2 p2 => ?_
  have F2 : Fr (fun q => t < q ∧ q ≤ t + 6 ∨ q = 77) μ x2 := Fr.tr (p1.1.mo fun q z => Or.inl z) (p2.1.mo fun q z => Or.inr z)
  have B2 : CO t x2 oc0 := CO_F p2.1 (fun q z => by omega) p1.2
  have pn : ∀ y, y < 12 → 0 ≤ shF 12 a w y := fun y hy => sh_nn (wn y hy) ha
  have pa : ∀ y, y < 12 → shF 12 a w y ≤ a := fun y hy => sh_le wn hy ha
  refine Ok.for (fun n i x => D_X4_payByWeights_25 fu b t n (nI h) (zL (a - sm (shF 12 a w) i)) (nI i) x) 12 (fun i x => Fr (fun q => t < q ∧ q ≤ t + 6) x2 x ∧ CO t x (pw s h (shF 12 a w) i)) ?_ ?_ fu 0 x2 (by omega) (by omega) ⟨Fr.rfl', B2⟩ |>.e (congrArg (fun v => D_X4_payByWeights_25 fu b t fu (nI h) v (nI 0) x2) (congrArg zL (Int.sub_zero a).symm))
  · intro n i x hi P k
    have Cx : RC b x s := RC_Fr (Fr.tr F2 (P.1.mo fun q z => Or.inl z)) (fun q z => by omega) C
    have z := (pw_b H hh pn (y := i) (by omega)).2 i (Nat.le_refl _) hi
    have rd : x.2.1 77 i = zL (shF 12 a w i) := by rw [P.1.L (by omega)]; exact p2.2 i hi
    have es : a - sm (shF 12 a w) i - shF 12 a w i = a - sm (shF 12 a w) (i + 1) := by rw [sm_s]; omega
    by_cases q : hg s i = 0
    · have n3 : Int32.toNatClampNeg (nI 3) = 3 := rfl
      simp (disch := omega) only [D_X4_payByWeights_25, D_X4_payByWeights_102, li0, li1, li2, li3, li4, li5, li6, li7, li8, li9, li10, li12, li24, li31, li40, li160, n_le, n_lt, n_eq, n_m1, n_add, mr4, mr6, mr7, mr10, mr40, mr160, ml4, ml6, ml7, ml10, ml40, ml160, gu_ib, nI_nat, bi_s, vl_e, gu_t, if_true, if_false, reduceIte, bt1_1, bt1_2, bt1_3, bt1_4, bt1_5, bt1_6, bt1_7, bt1_8, bt1_9, bt1_10, bt1_11, bt1_12, bt14_1, bt14_2, bt14_3, bt14_4, bt14_5, bt14_6, bt14_7, bt14_8, bt14_9, bt14_10, bt14_11, bt14_12, c_gap hi Cx H, decide_eq_true q, rd, P.2.r (show 3 < 7 by decide), z_add, z_sub, z_mul, z_neg]
      rw [if_neg (by omega), es]
      refine k _ ⟨Fr.wL P.1 (by omega), ?_⟩
      have e : pw s h (shF 12 a w) (i + 1) = uO (pw s h (shF 12 a w) i) 5 3 (pw s h (shF 12 a w) i 5 3 + shF 12 a w i) := by
        conv => lhs; unfold pw
        rw [if_pos q]
      rw [e]
      exact CO_w P.2 5 _ _ (by decide)
    · have n0 : ¬ (decide (hg s i = 0) = true) := by rw [decide_eq_false q]; decide
      simp (disch := omega) only [D_X4_payByWeights_25, D_X4_payByWeights_102, li0, li1, li2, li3, li4, li5, li6, li7, li8, li9, li10, li12, li24, li31, li40, li160, n_le, n_lt, n_eq, n_m1, n_add, mr4, mr6, mr7, mr10, mr40, mr160, ml4, ml6, ml7, ml10, ml40, ml160, gu_ib, nI_nat, bi_s, vl_e, gu_t, if_true, if_false, reduceIte, bt1_1, bt1_2, bt1_3, bt1_4, bt1_5, bt1_6, bt1_7, bt1_8, bt1_9, bt1_10, bt1_11, bt1_12, bt14_1, bt14_2, bt14_3, bt14_4, bt14_5, bt14_6, bt14_7, bt14_8, bt14_9, bt14_10, bt14_11, bt14_12, c_gap hi Cx H, rd, n0, P.2.r (show 2 < 7 by decide), z_add, z_sub, z_mul, z_neg]
      rw [if_neg (by omega)]
      refine Ok.b (c_fill hf (by omega) hh hq hi (pn i hi) (by have := pa i hi; omega) Cx H P.2 z) fun r p => ?_
      rw [p.1, z_add, es]
      refine k _ ⟨Fr.wL (P.1.tr p.2.2) (by omega), ?_⟩
      have e : pw s h (shF 12 a w) (i + 1) = uO (fil s h i (shF 12 a w i) (pw s h (shF 12 a w) i) (hg s i)).2 5 2 ((pw s h (shF 12 a w) i) 5 2 + (fil s h i (shF 12 a w i) (pw s h (shF 12 a w) i) (hg s i)).1) := by
        conv => lhs; unfold pw
        rw [if_neg q]
      rw [e]
      exact CO_w p.2.1 5 _ _ (by decide)
  · intro n x P
    simp (disch := omega) only [D_X4_payByWeights_25, li0, li1, li2, li3, li4, li5, li6, li7, li8, li9, li10, li12, li24, li31, li40, li160, n_le, n_lt, n_eq, n_m1, n_add, mr4, mr6, mr7, mr10, mr40, mr160, ml4, ml6, ml7, ml10, ml40, ml160, gu_ib, nI_nat, bi_s, vl_e, gu_t, if_true, if_false, reduceIte, bt1_1, bt1_2, bt1_3, bt1_4, bt1_5, bt1_6, bt1_7, bt1_8, bt1_9, bt1_10, bt1_11, bt1_12, bt14_1, bt14_2, bt14_3, bt14_4, bt14_5, bt14_6, bt14_7, bt14_8, bt14_9, bt14_10, bt14_11, bt14_12, P.2.r (show 3 < 7 by decide), z_add, z_sub, z_mul, z_neg]
    rw [if_pos (by omega)]
    refine Ok.s ⟨Fr.wL (Fr.tr F2 (P.1.mo fun q z => Or.inl z)) (by omega), ?_⟩
    refine CO_c (fun f j => ?_) (CO_w P.2 5 3 _ (by decide))
    unfold pyW
    by_cases q : sm w 12 ≤ 0
    · have p0 : ∀ y, shF 12 a w y = 0 := fun y => by unfold shF; rw [if_pos q]
      rw [if_pos q, sm_z (f := shF 12 a w) (fun y _ => p0 y)]
      rw [uO_1, uO_1, pw_0 H hh (fun y _ => p0 y) (Nat.le_refl 12), pw_0 H hh (fun y _ => p0 y) (Nat.le_refl 12)]
      split
      · omega
      · rfl
    · rw [if_neg q, sh_sum wn (by omega) ha, uO_1]
      split
      · rename_i z; rw [z.1, z.2]; omega
      · rfl
/-! open years -/
theorem c_rooms {b N fu h v : Nat} {μ : Mem} {s : Sp} {off : Nat → Bool} (hf : 200 < fu) (hb : b + 28 < 61) (hh : h < 25) (hq : isH s h = 1 ∨ h = 24) (hv : v < 4096) (ho : ∀ y, y < 12 → v.testBit y = off y) (C : RC b μ s) (H : Iv N s) : Ok (D_X4_measureRooms_0 fu b (nI h) (nI v) μ) (fun μ' => Fr (fun q => q = 61 ∨ q = 78 ∨ q = 80) μ μ' ∧ μ'.1 61 7 = nI (opC s off 12) ∧ (∀ k, k < opC s off 12 → μ'.1 80 k = nI (enO s off 12 k)) ∧ ∀ y, y < 12 → opn s off y = true → μ'.2.1 78 y = zL (rmS s h y)) := by
  unfold D_X4_measureRooms_0
  refine Ok.v ?_
  refine Ok.for (fun n i x => D_X4_measureRooms_8 fu b n (nI h) (nI v) (nI i) x) 12 (fun i x => Fr (fun q => q = 61 ∨ q = 78 ∨ q = 80) μ x ∧ x.1 61 7 = nI (opC s off i) ∧ (∀ k, k < opC s off i → x.1 80 k = nI (enO s off i k)) ∧ ∀ y, y < i → opn s off y = true → x.2.1 78 y = zL (rmS s h y)) ?_ ?_ fu 0 _ (by omega) (by omega) ⟨Fr.wI Fr.rfl' (Or.inl rfl), wI_e, fun j h => absurd h (Nat.not_lt_zero j), fun j h => absurd h (Nat.not_lt_zero j)⟩
  · intro n i x hi P k
    obtain ⟨P1, P2, P3, P4⟩ := P
    have Cx : RC b x s := RC_Fr P1 (fun q z => by omega) C
    have oc := opC_le s off i
    have skip : opn s off i ≠ true → Ok (D_X4_measureRooms_8 fu b n (nI h) (nI v) (nI (i + 1)) x) (fun μ' => Fr (fun q => q = 61 ∨ q = 78 ∨ q = 80) μ μ' ∧ μ'.1 61 7 = nI (opC s off 12) ∧ (∀ k, k < opC s off 12 → μ'.1 80 k = nI (enO s off 12 k)) ∧ ∀ y, y < 12 → opn s off y = true → μ'.2.1 78 y = zL (rmS s h y)) := fun q => by
      refine k _ ⟨P1, by rw [opC_s, if_neg q]; exact P2, fun j hj => ?_, fun y hy hyo => ?_⟩
      · rw [opC_s, if_neg q] at hj
        rw [enO, if_neg (fun z => q z.1)]; exact P3 j hj
      · refine P4 y ?_ hyo
        by_cases e : y = i
        · rw [e] at hyo; exact absurd hyo q
        · omega
    simp (disch := omega) only [D_X4_measureRooms_8, D_X4_measureRooms_71, li0, li1, li2, li3, li4, li5, li6, li7, li8, li9, li10, li12, li24, li31, li40, li160, n_le, n_lt, n_eq, n_m1, n_add, mr4, mr6, mr7, mr10, mr40, mr160, ml4, ml6, ml7, ml10, ml40, ml160, gu_ib, nI_nat, bi_s, vl_e, gu_t, if_true, if_false, reduceIte, bt1_1, bt1_2, bt1_3, bt1_4, bt1_5, bt1_6, bt1_7, bt1_8, bt1_9, bt1_10, bt1_11, bt1_12, bt14_1, bt14_2, bt14_3, bt14_4, bt14_5, bt14_6, bt14_7, bt14_8, bt14_9, bt14_10, bt14_11, bt14_12, q_b, ho i hi, c_gap hi Cx H, decide_eq_true_eq, c_room hf hh hq hi Cx H, wL_1, P2]
    rw [if_neg (by omega)]
    by_cases q : off i = true
    · rw [if_pos q, if_neg (by decide)]
      by_cases q2 : hg s i = 0
      · rw [if_pos q2]; exact skip (fun z => (opn_i.mp z).2 q2)
      · rw [if_neg q2]
        have on := opn_i.mpr ⟨q, q2⟩
        rw [wI_n (show 61 ≠ 80 by decide), wL_1, P2, n_add]
        refine k _ ⟨Fr.wI (Fr.wI (Fr.wL P1 (by omega)) (by omega)) (by omega), ?_, fun j hj => ?_, fun y hy hyo => ?_⟩
        · rw [wI_e, opC_s, if_pos on]
        · rw [opC_s, if_pos on] at hj
          rw [wI_n (by omega), wI_1, enO, wL_1]
          by_cases e : j = opC s off i
          · rw [if_pos ⟨rfl, e⟩, if_pos ⟨on, e⟩]
          · rw [if_neg (fun z => e z.2), if_neg (fun z => e z.2)]; exact P3 j (by omega)
        · rw [wI_L, wI_L, wL_2]
          by_cases e : y = i
          · rw [if_pos ⟨rfl, e⟩, e]
          · rw [if_neg (fun z => e z.2)]; exact P4 y (by omega) hyo
    · rw [if_neg q, if_pos rfl]; exact skip (fun z => q (opn_i.mp z).1)
  · intro n x P
    simp (disch := omega) only [D_X4_measureRooms_8, li0, li1, li2, li3, li4, li5, li6, li7, li8, li9, li10, li12, li24, li31, li40, li160, n_le, n_lt, n_eq, n_m1, n_add, mr4, mr6, mr7, mr10, mr40, mr160, ml4, ml6, ml7, ml10, ml40, ml160, gu_ib, nI_nat, bi_s, vl_e, gu_t, if_true, if_false, reduceIte, bt1_1, bt1_2, bt1_3, bt1_4, bt1_5, bt1_6, bt1_7, bt1_8, bt1_9, bt1_10, bt1_11, bt1_12, bt14_1, bt14_2, bt14_3, bt14_4, bt14_5, bt14_6, bt14_7, bt14_8, bt14_9, bt14_10, bt14_11, bt14_12]
    rw [if_pos (by omega)]
    exact Ok.s P
theorem n_neg (y : Nat) : -nI y = zI (-(y : Int)) := by rw [← zI_n]; exact Int32.neg_ofInt
theorem c_key {b N h y : Nat} {μ : Mem} {s : Sp} (hy : y < 12) (h0 : hg s y ≠ 0) (C : RC b μ s) (H : Iv N s) (hr : μ.2.1 78 y = zL (rmS s h y)) : D_X4_keyOf_0 μ b (nI y) = some (zL (kyY s h y)) := by
  have r3 := IvR_r2 H.R
  have r4 := IvT_rg H.T hy (k := 0) (by omega)
  have r1 := IvT_ri H.T hy (k := 0) (by omega)
  have f9 := IvT_fr H.T r4 r1
  rw [Nat.add_zero] at f9
  have f8 : fr s (rg s (6 * y)) < 2147483648 := by
    have : rg s (6 * y) = rg s (6 * y + 0) := rfl
    omega
  have rr : ru s 2 = 0 ∨ ru s 2 = 1 ∨ ru s 2 = 2 ∨ ru s 2 = 3 := by omega
  unfold D_X4_keyOf_0 kyY
  rw [C_r2 C]
  rcases rr with e | e | e | e <;> rw [e]
  · simp (disch := omega) only [li0, li1, li2, li3, li4, li5, li6, li7, li8, li9, li10, li12, li24, li31, li40, li160, n_le, n_lt, n_eq, n_m1, n_add, mr4, mr6, mr7, mr10, mr40, mr160, ml4, ml6, ml7, ml10, ml40, ml160, gu_ib, nI_nat, bi_s, vl_e, gu_t, if_true, if_false, reduceIte, bt1_1, bt1_2, bt1_3, bt1_4, bt1_5, bt1_6, bt1_7, bt1_8, bt1_9, bt1_10, bt1_11, bt1_12, bt14_1, bt14_2, bt14_3, bt14_4, bt14_5, bt14_6, bt14_7, bt14_8, bt14_9, bt14_10, bt14_11, bt14_12, hr, z_neg]
  · simp (disch := omega) only [li0, li1, li2, li3, li4, li5, li6, li7, li8, li9, li10, li12, li24, li31, li40, li160, n_le, n_lt, n_eq, n_m1, n_add, mr4, mr6, mr7, mr10, mr40, mr160, ml4, ml6, ml7, ml10, ml40, ml160, gu_ib, nI_nat, bi_s, vl_e, gu_t, if_true, if_false, reduceIte, bt1_1, bt1_2, bt1_3, bt1_4, bt1_5, bt1_6, bt1_7, bt1_8, bt1_9, bt1_10, bt1_11, bt1_12, bt14_1, bt14_2, bt14_3, bt14_4, bt14_5, bt14_6, bt14_7, bt14_8, bt14_9, bt14_10, bt14_11, bt14_12]
    rw [n_neg, zI_L (by omega) (by omega)]; rfl
  · simp (disch := omega) only [li0, li1, li2, li3, li4, li5, li6, li7, li8, li9, li10, li12, li24, li31, li40, li160, n_le, n_lt, n_eq, n_m1, n_add, mr4, mr6, mr7, mr10, mr40, mr160, ml4, ml6, ml7, ml10, ml40, ml160, gu_ib, nI_nat, bi_s, vl_e, gu_t, if_true, if_false, reduceIte, bt1_1, bt1_2, bt1_3, bt1_4, bt1_5, bt1_6, bt1_7, bt1_8, bt1_9, bt1_10, bt1_11, bt1_12, bt14_1, bt14_2, bt14_3, bt14_4, bt14_5, bt14_6, bt14_7, bt14_8, bt14_9, bt14_10, bt14_11, bt14_12, c_lowest hy (show 0 < hg s y by omega) C H, n_L]; rfl
  · simp (disch := omega) only [li0, li1, li2, li3, li4, li5, li6, li7, li8, li9, li10, li12, li24, li31, li40, li160, n_le, n_lt, n_eq, n_m1, n_add, mr4, mr6, mr7, mr10, mr40, mr160, ml4, ml6, ml7, ml10, ml40, ml160, gu_ib, nI_nat, bi_s, vl_e, gu_t, if_true, if_false, reduceIte, bt1_1, bt1_2, bt1_3, bt1_4, bt1_5, bt1_6, bt1_7, bt1_8, bt1_9, bt1_10, bt1_11, bt1_12, bt14_1, bt14_2, bt14_3, bt14_4, bt14_5, bt14_6, bt14_7, bt14_8, bt14_9, bt14_10, bt14_11, bt14_12, n_L]; rfl
