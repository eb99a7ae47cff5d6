/-! contribution and levels of the class -/
theorem cp_0 {w : Nat → Int} {n : Nat} : ∀ {m : Nat}, n ≤ m → (∀ k, n ≤ k → k < m → w k = 0) → cp w m = cp w n
  | 0, h, _ => by rw [Nat.le_zero.mp h]
  | m + 1, h, k => by
    by_cases e : n = m + 1
    · rw [e]
    · rw [cp_s, cp_0 (n := n) (m := m) (by omega) (fun i h1 h2 => k i h1 (by omega)), if_neg (by rw [k m (by omega) (by omega)]; decide)]; omega
theorem shF_x {n m : Nat} {a : Int} {w : Nat → Int} (h : n ≤ m) (hz : ∀ k, n ≤ k → k < m → w k = 0) (k : Nat) : shF m a w k = shF n a w k := by
  have e := sm_ext (f := w) h hz
  have s0 : ∀ j, sh0 m a w j = sh0 n a w j := fun j => by unfold sh0; rw [e]
  have eR : shR m a w = shR n a w := by
    unfold shR
    rw [sm_ext (f := sh0 m a w) h (fun i h1 h2 => by unfold sh0; rw [hz i h1 h2, Int.mul_zero, Int.mul_zero, Int.zero_ediv]; rfl), sm_congr (fun i _ => s0 i)]
  unfold shF
  rw [e, s0, eR]
theorem WB_x {n : Nat} {w : Nat → Int} (hn : n ≤ 40) (h : ∀ k, k < n → 0 ≤ w k ∧ w k ≤ 100000000) : WB n w 100000000 := by
  have u : sm w n ≤ 100000000 * (n : Int) := by rw [← sm_c]; exact sm_le fun k hk => (h k hk).2
  exact ⟨h, by omega, by omega⟩
theorem c_contr {fu n : Nat} {μ : Mem} {O P : Oc} (hf : 200 < fu) (hn : n ≤ 40) (B : CO 62 μ O) (D : CO 69 μ P) (hO : ∀ l, l < 40 → 0 ≤ O 0 l ∧ O 0 l ≤ 100000000) (hP : ∀ l, l < 40 → 0 ≤ P 0 l ∧ P 0 l ≤ 100000000) (z : ∀ l, n ≤ l → l < 40 → O 0 l = 0 ∧ P 0 l = 0) : Ok (D_X4_contribute_0 fu (nI n) μ) (fun μ' => Fr (fun q => q = 63 ∨ q = 65 ∨ q = 81 ∨ q = 82 ∨ q = 83) μ μ' ∧ CO 62 μ' (ctr O (P 0)) ∧ ∀ l, l < n → μ'.2.1 81 l = zL (exc (O 0) (P 0) l) ∧ μ'.2.1 82 l = zL (exc (P 0) (O 0) l)) := by
  have eb : ∀ l, l < 40 → 0 ≤ exc (O 0) (P 0) l ∧ exc (O 0) (P 0) l ≤ 100000000 ∧ 0 ≤ exc (P 0) (O 0) l ∧ exc (P 0) (O 0) l ≤ 100000000 := fun l hl => by
    have a := hO l hl
    have b := hP l hl
    unfold exc; omega
  have ez : ∀ l, n ≤ l → l < 40 → exc (O 0) (P 0) l = 0 ∧ exc (P 0) (O 0) l = 0 := fun l h1 h2 => by
    have := z l h1 h2
    unfold exc; omega
  have W1 : WB n (exc (O 0) (P 0)) 100000000 := WB_x hn fun k hk => ⟨(eb k (by omega)).1, (eb k (by omega)).2.1⟩
  have W2 : WB n (exc (P 0) (O 0)) 100000000 := WB_x hn fun k hk => ⟨(eb k (by omega)).2.2.1, (eb k (by omega)).2.2.2⟩
  have S1 : sm (exc (O 0) (P 0)) 40 = sm (exc (O 0) (P 0)) n := sm_ext hn fun l h1 h2 => (ez l h1 h2).1
  have S2 : sm (exc (P 0) (O 0)) 40 = sm (exc (P 0) (O 0)) n := sm_ext hn fun l h1 h2 => (ez l h1 h2).2
  have mb := mvd_b (O 0) (P 0)
  have U1 : sm (exc (O 0) (P 0)) n ≤ 100000000 * (n : Int) := by rw [← sm_c]; exact sm_le fun k hk => (eb k (by omega)).2.1
  have U2 : sm (exc (P 0) (O 0)) n ≤ 100000000 * (n : Int) := by rw [← sm_c]; exact sm_le fun k hk => (eb k (by omega)).2.2.2
  have N1 : 0 ≤ sm (exc (O 0) (P 0)) n := sm_nn fun k hk => (eb k (by omega)).1
  have N2 : 0 ≤ sm (exc (P 0) (O 0)) n := sm_nn fun k hk => (eb k (by omega)).2.2.1
  have g1 : ∀ l, gts (O 0) (P 0) l = shF n (mvd (O 0) (P 0)) (exc (O 0) (P 0)) l := fun l => shF_x hn (fun l h1 h2 => (ez l h1 h2).1) l
  have g2 : ∀ l, gvs (O 0) (P 0) l = shF n (mvd (O 0) (P 0)) (exc (P 0) (O 0)) l := fun l => shF_x hn (fun l h1 h2 => (ez l h1 h2).2) l
  have rdO : ∀ l, l < 40 → μ.2.1 63 l = zL (O 0 l) := fun l hl => B.t hl
  have rdP : ∀ l, l < 40 → μ.2.1 70 l = zL (P 0 l) := fun l hl => D.t hl
  unfold D_X4_contribute_0
  -- the end, once both rows are laid
  have fin : ∀ x : Mem, Fr (fun q => q = 81 ∨ q = 82) μ x → (∀ l, l < n → x.2.1 81 l = zL (exc (O 0) (P 0) l) ∧ x.2.1 82 l = zL (exc (P 0) (O 0) l)) → Ok (D_X4_contribute_119 fu (nI n) (zL (mvd (O 0) (P 0))) x) (fun μ' => Fr (fun q => q = 63 ∨ q = 65 ∨ q = 81 ∨ q = 82 ∨ q = 83) μ μ' ∧ CO 62 μ' (ctr O (P 0)) ∧ ∀ l, l < n → μ'.2.1 81 l = zL (exc (O 0) (P 0) l) ∧ μ'.2.1 82 l = zL (exc (P 0) (O 0) l)) := fun x F E => by
    unfold D_X4_contribute_119
    refine Ok.b (c_share (w := exc (O 0) (P 0)) (n := n) hf (by decide) hn hn hn (by decide) (by decide) W1 mb.1 (by omega) (fun k hk => (E k hk).1)) fun x1 p1 => ?_
    have B1 : CO 62 x1 O := CO_F p1.1 (fun q z => by omega) (CO_F F (fun q z => by omega) B)
    refine Ok.for (fun m i x => D_X4_contribute_138 fu m (nI n) (zL (mvd (O 0) (P 0))) (nI i) x) n (fun i x => Fr (fun q => q = 63 ∨ q = 65) x1 x ∧ CO 62 x (fun f j => if (f = 0 ∨ f = 2) ∧ j < i then O f j - gts (O 0) (P 0) j else O f j)) ?_ ?_ fu 0 x1 (by omega) (by omega) ⟨Fr.rfl', CO_c (fun f j => by rw [if_neg (by omega)]) B1⟩
    · intro m i x hi Q k
      have rd : x.2.1 83 i = zL (gts (O 0) (P 0) i) := by rw [Q.1.L (by omega), p1.2 i hi, g1]
      have r63 : x.2.1 63 i = _ := Q.2.t (show i < 40 by omega)
      have r65 : x.2.1 65 i = _ := Q.2.g (show i < 40 by omega)
      simp (disch := omega) only [D_X4_contribute_138, li0, li1, li2, li3, li4, li5, li6, li7, li8, li9, li10, li12, li24, li31, li40, li160, n_le, n_lt, n_eq, n_m1, n_add, mr4, mr6, mr7, mr10, mr40, mr160, ml4, ml6, ml7, ml10, ml40, ml160, gu_ib, nI_nat, bi_s, vl_e, gu_t, if_true, if_false, reduceIte, bt1_1, bt1_2, bt1_3, bt1_4, bt1_5, bt1_6, bt1_7, bt1_8, bt1_9, bt1_10, bt1_11, bt1_12, bt14_1, bt14_2, bt14_3, bt14_4, bt14_5, bt14_6, bt14_7, bt14_8, bt14_9, bt14_10, bt14_11, bt14_12, wL_n (show 63 ≠ 65 by decide), wL_n (show 83 ≠ 65 by decide), rd, r63, r65, z_add, z_sub, z_mul, z_neg]
      rw [if_neg (by omega)]
      refine k _ ⟨Fr.wL (Fr.wL Q.1 (by omega)) (by omega), ?_⟩
      refine CO_c (fun f j => ?_) (CO_w (CO_w Q.2 2 i _ (by decide)) 0 i _ (by decide))
      rw [uO_1, uO_1]
      by_cases q0 : f = 0 ∧ j = i
      · rw [if_pos q0, q0.1, q0.2, if_pos (by omega), if_neg (by omega)]
      · rw [if_neg q0]
        by_cases q2 : f = 2 ∧ j = i
        · rw [if_pos q2, q2.1, q2.2, if_pos (by omega), if_neg (by omega)]
        · rw [if_neg q2]
          by_cases q3 : (f = 0 ∨ f = 2) ∧ j < i
          · rw [if_pos q3, if_pos (by omega)]
          · rw [if_neg q3, if_neg (by omega)]
    · intro m x Q
      simp (disch := omega) only [D_X4_contribute_138, li0, li1, li2, li3, li4, li5, li6, li7, li8, li9, li10, li12, li24, li31, li40, li160, n_le, n_lt, n_eq, n_m1, n_add, mr4, mr6, mr7, mr10, mr40, mr160, ml4, ml6, ml7, ml10, ml40, ml160, gu_ib, nI_nat, bi_s, vl_e, gu_t, if_true, if_false, reduceIte, bt1_1, bt1_2, bt1_3, bt1_4, bt1_5, bt1_6, bt1_7, bt1_8, bt1_9, bt1_10, bt1_11, bt1_12, bt14_1, bt14_2, bt14_3, bt14_4, bt14_5, bt14_6, bt14_7, bt14_8, bt14_9, bt14_10, bt14_11, bt14_12]
      rw [if_pos (by omega)]
      refine Ok.b (c_share (w := exc (P 0) (O 0)) (n := n) hf (by decide) hn hn hn (by decide) (by decide) W2 mb.1 (by omega) (fun k hk => by rw [Q.1.L (by omega), p1.1.L (by omega)]; exact (E k hk).2)) fun x2 p2 => ?_
      have B2 := CO_F p2.1 (fun q z => by omega) Q.2
      refine Ok.for (fun m i x => D_X4_contribute_207 fu m (nI n) (nI i) x) n (fun i x => Fr (fun q => q = 63 ∨ q = 65) x2 x ∧ CO 62 x (fun f j => if (f = 0 ∨ f = 2) ∧ j < n then O f j - gts (O 0) (P 0) j + (if j < i then gvs (O 0) (P 0) j else 0) else O f j)) ?_ ?_ fu 0 x2 (by omega) (by omega) ⟨Fr.rfl', CO_c (fun f j => by
        by_cases q : (f = 0 ∨ f = 2) ∧ j < n
        · rw [if_pos q, if_pos q, if_neg (by omega)]; omega
        · rw [if_neg q, if_neg q]) B2⟩
      · intro m i x hi R k
        have rd : x.2.1 83 i = zL (gvs (O 0) (P 0) i) := by rw [R.1.L (by omega), p2.2 i hi, g2]
        have r63 : x.2.1 63 i = _ := R.2.t (show i < 40 by omega)
        have r65 : x.2.1 65 i = _ := R.2.g (show i < 40 by omega)
        simp (disch := omega) only [D_X4_contribute_207, li0, li1, li2, li3, li4, li5, li6, li7, li8, li9, li10, li12, li24, li31, li40, li160, n_le, n_lt, n_eq, n_m1, n_add, mr4, mr6, mr7, mr10, mr40, mr160, ml4, ml6, ml7, ml10, ml40, ml160, gu_ib, nI_nat, bi_s, vl_e, gu_t, if_true, if_false, reduceIte, bt1_1, bt1_2, bt1_3, bt1_4, bt1_5, bt1_6, bt1_7, bt1_8, bt1_9, bt1_10, bt1_11, bt1_12, bt14_1, bt14_2, bt14_3, bt14_4, bt14_5, bt14_6, bt14_7, bt14_8, bt14_9, bt14_10, bt14_11, bt14_12, wL_n (show 63 ≠ 65 by decide), wL_n (show 83 ≠ 65 by decide), rd, r63, r65, z_add, z_sub, z_mul, z_neg]
        rw [if_neg (by omega)]
        refine k _ ⟨Fr.wL (Fr.wL R.1 (by omega)) (by omega), ?_⟩
        refine CO_c (fun f j => ?_) (CO_w (CO_w R.2 2 i _ (by decide)) 0 i _ (by decide))
        rw [uO_1, uO_1]
        by_cases q0 : f = 0 ∧ j = i
        · rw [if_pos q0, q0.1, q0.2, if_pos (show (0 = 0 ∨ 0 = 2) ∧ i < n by omega), if_pos (show i < i + 1 by omega), if_pos (show (True ∨ 0 = 2) ∧ i < n from ⟨Or.inl trivial, hi⟩), if_neg (show ¬ i < i by omega)]; omega
        · rw [if_neg q0]
          by_cases q2 : f = 2 ∧ j = i
          · rw [if_pos q2, q2.1, q2.2, if_pos (show (2 = 0 ∨ 2 = 2) ∧ i < n by omega), if_pos (show i < i + 1 by omega), if_pos (show (2 = 0 ∨ True) ∧ i < n from ⟨Or.inr trivial, hi⟩), if_neg (show ¬ i < i by omega)]; omega
          · rw [if_neg q2]
            by_cases q3 : (f = 0 ∨ f = 2) ∧ j < n
            · rw [if_pos q3, if_pos q3]
              by_cases q4 : j < i
              · rw [if_pos q4, if_pos (by omega)]
              · rw [if_neg q4, if_neg (by omega)]
            · rw [if_neg q3, if_neg q3]
      · intro m x R
        simp (disch := omega) only [D_X4_contribute_207, li0, li1, li2, li3, li4, li5, li6, li7, li8, li9, li10, li12, li24, li31, li40, li160, n_le, n_lt, n_eq, n_m1, n_add, mr4, mr6, mr7, mr10, mr40, mr160, ml4, ml6, ml7, ml10, ml40, ml160, gu_ib, nI_nat, bi_s, vl_e, gu_t, if_true, if_false, reduceIte, bt1_1, bt1_2, bt1_3, bt1_4, bt1_5, bt1_6, bt1_7, bt1_8, bt1_9, bt1_10, bt1_11, bt1_12, bt14_1, bt14_2, bt14_3, bt14_4, bt14_5, bt14_6, bt14_7, bt14_8, bt14_9, bt14_10, bt14_11, bt14_12]
        rw [if_pos (by omega)]
        have Fx : Fr (fun q => q = 63 ∨ q = 65 ∨ q = 81 ∨ q = 82 ∨ q = 83) μ x := Fr.tr (Fr.tr (Fr.tr (Fr.tr (F.mo fun q z => by omega) (p1.1.mo fun q z => by omega)) (Q.1.mo fun q z => by omega)) (p2.1.mo fun q z => by omega)) (R.1.mo fun q z => by omega)
        refine Ok.s ⟨Fx, ⟨fun l hl => ?_, fun l hl => ?_, fun l hl => ?_, fun l hl => ?_, fun l hl => ?_⟩, fun l hl => ?_⟩
        · have c0 : ctr O (P 0) 0 l = O 0 l + (gvs (O 0) (P 0) l - gts (O 0) (P 0) l) := by unfold ctr; rw [if_pos ⟨rfl, hl⟩]
          rw [R.2.t hl, c0]
          by_cases q : l < n
          · rw [if_pos (show (0 = 0 ∨ 0 = 2) ∧ l < n from ⟨Or.inl rfl, q⟩), if_pos q]; congr 1; omega
          · rw [if_neg (show ¬ ((0 = 0 ∨ 0 = 2) ∧ l < n) from fun z => q z.2), g1, g2, sh_z (ez l (by omega) hl).1, sh_z (ez l (by omega) hl).2]; congr 1; omega
        · rw [R.2.h hl, if_neg (by omega)]
          unfold ctr; rw [if_neg (by omega), if_neg (by omega)]
        · have c2 : ctr O (P 0) 2 l = O 2 l + (gvs (O 0) (P 0) l - gts (O 0) (P 0) l) := by unfold ctr; rw [if_neg (by omega), if_pos ⟨rfl, hl⟩]
          rw [R.2.g hl, c2]
          by_cases q : l < n
          · rw [if_pos (show (2 = 0 ∨ 2 = 2) ∧ l < n from ⟨Or.inr rfl, q⟩), if_pos q]; congr 1; omega
          · rw [if_neg (show ¬ ((2 = 0 ∨ 2 = 2) ∧ l < n) from fun z => q z.2), g1, g2, sh_z (ez l (by omega) hl).1, sh_z (ez l (by omega) hl).2]; congr 1; omega
        · rw [R.2.b hl, if_neg (by omega)]
          unfold ctr; rw [if_neg (by omega), if_neg (by omega)]
        · rw [R.2.r hl, if_neg (by omega)]
          unfold ctr; rw [if_neg (by omega), if_neg (by omega)]
        · rw [R.1.L (by omega), R.1.L (by omega), p2.1.L (by omega), p2.1.L (by omega), Q.1.L (by omega), Q.1.L (by omega), p1.1.L (by omega), p1.1.L (by omega)]
          exact E l hl
  refine Ok.for (fun m i x => D_X4_contribute_8 fu m (nI n) (zL (sm (exc (O 0) (P 0)) i)) (zL (sm (exc (P 0) (O 0)) i)) (nI i) x) n (fun i x => Fr (fun q => q = 81 ∨ q = 82) μ x ∧ ∀ l, l < i → x.2.1 81 l = zL (exc (O 0) (P 0) l) ∧ x.2.1 82 l = zL (exc (P 0) (O 0) l)) ?_ ?_ fu 0 μ (by omega) (by omega) ⟨Fr.rfl', fun j h => absurd h (Nat.not_lt_zero j)⟩
  · intro m i x hi Q k
    have hi4 : i < 40 := by omega
    have a := hO i hi4
    have c := hP i hi4
    have r63 : x.2.1 63 i = zL (O 0 i) := by rw [Q.1.L (by omega)]; exact rdO i hi4
    have r70 : x.2.1 70 i = zL (P 0 i) := by rw [Q.1.L (by omega)]; exact rdP i hi4
    have go : ∀ e d : Int, e = exc (O 0) (P 0) i → d = exc (P 0) (O 0) i → Ok (D_X4_contribute_8 fu m (nI n) (zL (sm (exc (O 0) (P 0)) i) + zL e) (zL (sm (exc (P 0) (O 0)) i) + zL d) (nI (i + 1)) (wL (wL x 81 i (zL e)) 82 i (zL d))) (fun μ' => Fr (fun q => q = 63 ∨ q = 65 ∨ q = 81 ∨ q = 82 ∨ q = 83) μ μ' ∧ CO 62 μ' (ctr O (P 0)) ∧ ∀ l, l < n → μ'.2.1 81 l = zL (exc (O 0) (P 0) l) ∧ μ'.2.1 82 l = zL (exc (P 0) (O 0) l)) := fun e d he hd => by
      subst he hd
      rw [z_add, z_add, ← sm_s, ← sm_s]
      refine k _ ⟨Fr.wL (Fr.wL Q.1 (by omega)) (by omega), fun l hl => ?_⟩
      rw [wL_n (show 81 ≠ 82 by decide), wL_2, wL_2, wL_n (show 82 ≠ 81 by decide)]
      by_cases el : l = i
      · rw [if_pos ⟨rfl, el⟩, if_pos ⟨rfl, el⟩, el]; exact ⟨rfl, rfl⟩
      · rw [if_neg (fun z => el z.2), if_neg (fun z => el z.2)]; exact Q.2 l (by omega)
    have a81 : ∀ (v w : Int64), (wL (wL x 81 i v) 82 i w).2.1 81 i = v := fun v w => by rw [wL_n (by decide), wL_e]
    simp (disch := omega) only [D_X4_contribute_8, D_X4_contribute_56, D_X4_contribute_77, li0, li1, li2, li3, li4, li5, li6, li7, li8, li9, li10, li12, li24, li31, li40, li160, n_le, n_lt, n_eq, n_m1, n_add, mr4, mr6, mr7, mr10, mr40, mr160, ml4, ml6, ml7, ml10, ml40, ml160, gu_ib, nI_nat, bi_s, vl_e, gu_t, if_true, if_false, reduceIte, bt1_1, bt1_2, bt1_3, bt1_4, bt1_5, bt1_6, bt1_7, bt1_8, bt1_9, bt1_10, bt1_11, bt1_12, bt14_1, bt14_2, bt14_3, bt14_4, bt14_5, bt14_6, bt14_7, bt14_8, bt14_9, bt14_10, bt14_11, bt14_12, ll0, ll1, ll2, ll10, ll2e9, r63, r70, z_add, z_sub, z_mul, z_neg, z_le, wL_e, a81]
    rw [if_neg (by omega)]
    by_cases q : O 0 i - P 0 i ≤ 0
    · rw [if_pos q]
      by_cases q2 : 0 ≤ O 0 i - P 0 i
      · rw [if_pos q2]
        have := go 0 0 (by unfold exc; omega) (by unfold exc; omega)
        simpa only [z_add] using this
      · rw [if_neg q2]
        have := go 0 (-(O 0 i - P 0 i)) (by unfold exc; omega) (by unfold exc; omega)
        simpa only [z_add] using this
    · rw [if_neg q]
      by_cases q2 : 0 ≤ O 0 i - P 0 i
      · rw [if_pos q2]
        have := go (O 0 i - P 0 i) 0 (by unfold exc; omega) (by unfold exc; omega)
        simpa only [z_add] using this
      · omega
  · intro m x Q
    simp (disch := omega) only [D_X4_contribute_8, li0, li1, li2, li3, li4, li5, li6, li7, li8, li9, li10, li12, li24, li31, li40, li160, n_le, n_lt, n_eq, n_m1, n_add, mr4, mr6, mr7, mr10, mr40, mr160, ml4, ml6, ml7, ml10, ml40, ml160, gu_ib, nI_nat, bi_s, vl_e, gu_t, if_true, if_false, reduceIte, bt1_1, bt1_2, bt1_3, bt1_4, bt1_5, bt1_6, bt1_7, bt1_8, bt1_9, bt1_10, bt1_11, bt1_12, bt14_1, bt14_2, bt14_3, bt14_4, bt14_5, bt14_6, bt14_7, bt14_8, bt14_9, bt14_10, bt14_11, bt14_12, z_le]
    rw [if_pos (by omega)]
    have f := fin x Q.1 Q.2
    by_cases q : sm (exc (P 0) (O 0)) n ≤ sm (exc (O 0) (P 0)) n
    · rw [if_pos q]
      rwa [show mvd (O 0) (P 0) = sm (exc (P 0) (O 0)) n by unfold mvd; omega] at f
    · rw [if_neg q]
      rwa [show mvd (O 0) (P 0) = sm (exc (O 0) (P 0)) n by unfold mvd; omega] at f
