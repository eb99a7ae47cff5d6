/-! the model: who signed has their tenths; an amount is spread -/
section
variable {N fu h a b c : Nat} {μ : Mem} {s : Sp}
theorem m_fallsOn {r : Nat} {v : Int} {O : Oc} {x : Mem} (hh : h < 25) (hr : r < 7) (M : MW x s h O) : Ok (D_X7_fallsOn_0 (nI h) (nI r) (zL v) x) (fun y => Fr (fun q => q = 110) x y ∧ MW y s h (uO O 5 r (O 5 r + v))) := by
  have e := M.z.fl hh hr
  simp (disch := omega) only [D_X7_fallsOn_0, li0, li1, li2, li3, li4, li5, li6, li7, li8, li9, li10, li12, li24, li31, li40, li160, n_le, n_lt, n_eq, n_m1, n_add, mr4, mr6, mr7, mr10, mr40, mr160, ml4, ml6, ml7, ml10, ml40, ml160, gu_ib, nI_nat, bi_s, vl_e, gu_t, if_true, if_false, reduceIte, bt1_1, bt1_2, bt1_3, bt1_4, bt1_5, bt1_6, bt1_7, bt1_8, bt1_9, bt1_10, bt1_11, bt1_12, bt14_1, bt14_2, bt14_3, bt14_4, bt14_5, bt14_6, bt14_7, bt14_8, bt14_9, bt14_10, bt14_11, bt14_12, e, z_add, z_sub, z_mul, z_neg]
  refine Ok.s ⟨Fr.wL Fr.rfl' rfl, RMa_frm (fun _ _ => rfl) rfl M.a, RMb_frm (fun _ _ => rfl) (fun _ _ _ => rfl) M.b, ?_, fun l hl => ?_⟩
  · rw [Int.add_assoc]; exact MZ_5 hr M.z
  · rw [uO_d _ _ (by decide), wL_n (by decide)]; exact M.t hl
theorem m_splits {l : Nat} {O0 Ob : Oc} (hf : 200 < fu) (hh : h < 25) (hl : l < 40) (h1 : isL s l = 1) (hp : 0 < O0 0 l) (hp2 : O0 0 l ≤ 100000000) (M : MW μ s h Ob) (H : Iv N s) (hO : Ob 0 l = O0 0 l) (h3 : ∀ k, k < 4 → Ob 3 (4 * l + k) = 0) : Ok (D_X7_splits_0 fu (nI h) (nI l) μ) (fun x => Fr (fun q => q = 108 ∨ q = 109 ∨ q = 110) μ x ∧ MW x s h (uO (spk s O0 l Ob (ng s l)) 5 4 (spk s O0 l Ob (ng s l) 5 4 + (O0 0 l - due s O0 l)))) := by
  have n4 := IvT_ng H.T hl
  have tt := IvT_tt H.T hl
  have tS := tnI_S s l (ng s l)
  have nge : ∀ {x : Mem}, RMa x s.1 → x.1 96 l = nI (ng s l) := fun A => RMa_ng A hl
  have mb : ∀ t : Nat, t ≤ 10 → 0 ≤ O0 0 l * (t : Int) ∧ O0 0 l * (t : Int) ≤ 100000000 * 10 := fun t ht => ⟨Int.mul_nonneg (by omega) (by omega), Int.mul_le_mul hp2 (by omega) (by omega) (by decide)⟩
  have tk' := M.t hl
  rw [hO] at tk'
  have A := M.a
  have etn : ∀ k, k < ng s l → μ.1 98 (4 * l + k) = nI (tn s (4 * l + k)) := fun k hk => RMa_tn A hl hk
  unfold D_X7_splits_0
  refine Ok.for (α := Unit) (fun n i _ => D_X7_splits_5 fu n (nI h) (nI l) (nI (tnI s l i)) (nI i) μ) (ng s l) (fun _ _ => True) ?_ ?_ fu 0 () (by omega) (by omega) trivial
  · intro n i _ hi _ k
    simp (disch := omega) only [D_X7_splits_5, li0, li1, li2, li3, li4, li5, li6, li7, li8, li9, li10, li12, li24, li31, li40, li160, n_le, n_lt, n_eq, n_m1, n_add, mr4, mr6, mr7, mr10, mr40, mr160, ml4, ml6, ml7, ml10, ml40, ml160, gu_ib, nI_nat, bi_s, vl_e, gu_t, if_true, if_false, reduceIte, bt1_1, bt1_2, bt1_3, bt1_4, bt1_5, bt1_6, bt1_7, bt1_8, bt1_9, bt1_10, bt1_11, bt1_12, bt14_1, bt14_2, bt14_3, bt14_4, bt14_5, bt14_6, bt14_7, bt14_8, bt14_9, bt14_10, bt14_11, bt14_12, nge A, etn i hi]
    rw [if_neg (by omega)]; exact k () trivial
  · intro n _ _
    have m1 := mb _ tt
    have dd := z_div m1.1 (show _ < _ by omega) (show (0 : Int) < 10 by decide) (by decide)
    have ed : O0 0 l * (tnI s l (ng s l) : Int) / 10 = due s O0 l := by unfold due; rw [tS]
    simp (disch := omega) only [D_X7_splits_5, li0, li1, li2, li3, li4, li5, li6, li7, li8, li9, li10, li12, li24, li31, li40, li160, n_le, n_lt, n_eq, n_m1, n_add, mr4, mr6, mr7, mr10, mr40, mr160, ml4, ml6, ml7, ml10, ml40, ml160, gu_ib, nI_nat, bi_s, vl_e, gu_t, if_true, if_false, reduceIte, bt1_1, bt1_2, bt1_3, bt1_4, bt1_5, bt1_6, bt1_7, bt1_8, bt1_9, bt1_10, bt1_11, bt1_12, bt14_1, bt14_2, bt14_3, bt14_4, bt14_5, bt14_6, bt14_7, bt14_8, bt14_9, bt14_10, bt14_11, bt14_12, ll0, ll1, ll2, ll10, ll2e9, nge A, tk', n_L, z_add, z_sub, z_mul, z_neg, dd, ed]
    rw [if_pos (by omega)]
    have Rn := tnR_nn s O0 l
    have d0 : 0 ≤ due s O0 l := by rw [← ed]; exact Int.ediv_nonneg m1.1 (by decide)
    have dle : due s O0 l ≤ 100000000 := by rw [← ed]; exact Int.ediv_le_of_le_mul (by decide) (by omega)
    have t0 : ∀ k, 0 ≤ ten s O0 l k := fun k => Int.ediv_nonneg (Int.mul_nonneg (by omega) (by omega)) (by decide)
    have tdv : ∀ k, k < ng s l → zL (O0 0 l * (tn s (4 * l + k) : Int)) / zL 10 = zL (ten s O0 l k) := fun k hk => by
      have m2 := mb _ (tn_le H.T hl hk)
      exact z_div m2.1 (show _ < _ by omega) (show (0 : Int) < 10 by decide) (by decide)
    refine Ok.for (α := Unit) (fun n i _ => D_X7_splits_58 fu n (nI h) (nI l) (zL (due s O0 l)) (zL (due s O0 l - sm (ten s O0 l) i)) (nI i) μ) (ng s l) (fun _ _ => True) ?_ ?_ fu 0 () (by omega) (by omega) trivial |>.e (congrArg (fun v => D_X7_splits_58 fu fu (nI h) (nI l) (zL (due s O0 l)) v (nI 0) μ) (congrArg zL (Int.sub_zero _).symm))
    · intro n i _ hi _ k
      have t10 := tn_le H.T hl hi
      simp (disch := omega) only [D_X7_splits_58, li0, li1, li2, li3, li4, li5, li6, li7, li8, li9, li10, li12, li24, li31, li40, li160, n_le, n_lt, n_eq, n_m1, n_add, mr4, mr6, mr7, mr10, mr40, mr160, ml4, ml6, ml7, ml10, ml40, ml160, gu_ib, nI_nat, bi_s, vl_e, gu_t, if_true, if_false, reduceIte, bt1_1, bt1_2, bt1_3, bt1_4, bt1_5, bt1_6, bt1_7, bt1_8, bt1_9, bt1_10, bt1_11, bt1_12, bt14_1, bt14_2, bt14_3, bt14_4, bt14_5, bt14_6, bt14_7, bt14_8, bt14_9, bt14_10, bt14_11, bt14_12, ll0, ll1, ll2, ll10, ll2e9, nge A, tk', etn i hi, n_L, z_add, z_sub, z_mul, z_neg, tdv i hi]
      rw [if_neg (by omega), show due s O0 l - sm (ten s O0 l) i - ten s O0 l i = due s O0 l - sm (ten s O0 l) (i + 1) by rw [sm_s]; omega]
      exact k () trivial
    · intro n _ _
      simp (disch := omega) only [D_X7_splits_58, li0, li1, li2, li3, li4, li5, li6, li7, li8, li9, li10, li12, li24, li31, li40, li160, n_le, n_lt, n_eq, n_m1, n_add, mr4, mr6, mr7, mr10, mr40, mr160, ml4, ml6, ml7, ml10, ml40, ml160, gu_ib, nI_nat, bi_s, vl_e, gu_t, if_true, if_false, reduceIte, bt1_1, bt1_2, bt1_3, bt1_4, bt1_5, bt1_6, bt1_7, bt1_8, bt1_9, bt1_10, bt1_11, bt1_12, bt14_1, bt14_2, bt14_3, bt14_4, bt14_5, bt14_6, bt14_7, bt14_8, bt14_9, bt14_10, bt14_11, bt14_12, nge A]
      rw [if_pos (by omega)]
      have eR : due s O0 l - sm (ten s O0 l) (ng s l) = max (tnR s O0 l - ((0 : Nat) : Int)) 0 := by unfold tnR at *; omega
      rw [eR]
      have Rb : tnR s O0 l ≤ 100000000 := by
        have := sm_nn (f := ten s O0 l) (n := ng s l) (fun i _ => t0 i)
        unfold tnR; omega
      refine Ok.for (fun n k x => D_X7_splits_106 fu n (nI h) (nI l) (zL (due s O0 l)) (zL (max (tnR s O0 l - (k : Int)) 0)) (nI k) x) (ng s l) (fun k x => Fr (fun q => q = 108 ∨ q = 109 ∨ q = 110) μ x ∧ MW x s h (spk s O0 l Ob k)) ?_ ?_ fu 0 μ (by omega) (by omega) ⟨Fr.rfl', M⟩
      · intro n k x hk P kk
        have Ax := P.2.a
        have t10 := tn_le H.T hl hk
        have s10 := IvT_sg H.T hl hk
        have s2 := IvR_sd H.R s10
        have tx := P.2.t hl
        rw [spk_o s O0 l Ob (by decide), hO] at tx
        have e98 : x.1 98 (4 * l + k) = nI (tn s (4 * l + k)) := RMa_tn Ax hl hk
        have e97 : x.1 97 (4 * l + k) = nI (sg s (4 * l + k)) := RMa_sg Ax hl hk
        have e3 : spk s O0 l Ob k 3 (4 * l + k) = 0 := by rw [spk_3, if_neg (by omega)]; exact h3 k (by omega)
        have e108 := P.2.z.hd hh (show 4 * l + k < 160 by omega)
        rw [e3, Int.add_zero] at e108
        have e111 : ∀ {w : Mem}, RMb w s.1 → w.1 111 (sg s (4 * l + k)) = nI (sd s (sg s (4 * l + k))) := fun B => RMb_sd B s10
        have step : ∀ (d rv : Int), d = its s O0 l k → rv = max (tnR s O0 l - ((k + 1 : Nat) : Int)) 0 → ∀ s0 s1 : Int, s0 - s1 = rv → Ok (D_X7_splits_169 fu (D_X7_splits_106 fu n) (nI h) (nI l) (zL (due s O0 l)) (nI k) (zL d) (zL s0) (zL s1) x) (fun x => Fr (fun q => q = 108 ∨ q = 109 ∨ q = 110) μ x ∧ MW x s h (uO (spk s O0 l Ob (ng s l)) 5 4 (spk s O0 l Ob (ng s l) 5 4 + (O0 0 l - due s O0 l)))) := fun d rv hd' hr s0 s1 hs => by
          subst hd'
          have ix : 160 * h + 4 * l + k = 160 * h + (4 * l + k) := by omega
          have Z3 := MZ_3 (v := its s O0 l k) (show 4 * l + k < 160 by omega) P.2.z
          generalize ew : wI x 108 (160 * h + (4 * l + k)) (zI (hd s (160 * h + (4 * l + k)) + its s O0 l k)) = w at Z3
          have MWw : MW w s h (uO (spk s O0 l Ob k) 3 (4 * l + k) (its s O0 l k)) := by
            subst ew
            refine ⟨RMa_frm (fun q hq => wI_n (by omega)) (by rw [wI_n (by decide)]) Ax, RMb_frm (fun q hq => wI_n (by omega)) (fun j _ _ => by rw [wI_n (by decide)]) P.2.b, Z3, fun q hq => ?_⟩
            rw [uO_d _ _ (by decide)]; exact P.2.t hq
          have FW : Fr (fun q => q = 108 ∨ q = 109 ∨ q = 110) μ w := by subst ew; exact Fr.wI P.1 (Or.inl rfl)
          have kx : ∀ y : Mem, Fr (fun q => q = 109 ∨ q = 110) w y → MW y s h (chg s (uO (spk s O0 l Ob k) 3 (4 * l + k) (its s O0 l k)) (sg s (4 * l + k)) (its s O0 l k)) → Ok (D_X7_splits_106 fu n (nI h) (nI l) (zL (due s O0 l)) (zL rv) (nI (k + 1)) y) (fun x => Fr (fun q => q = 108 ∨ q = 109 ∨ q = 110) μ x ∧ MW x s h (uO (spk s O0 l Ob (ng s l)) 5 4 (spk s O0 l Ob (ng s l) 5 4 + (O0 0 l - due s O0 l)))) := fun y F My => by
            rw [hr]
            exact kk y ⟨FW.tr (F.mo fun q z => by omega), My⟩
          have ebr := MWw.z.br hh s10
          simp (disch := omega) only [D_X7_splits_169, D_X7_splits_278, D_X7_splits_273, li0, li1, li2, li3, li4, li5, li6, li7, li8, li9, li10, li12, li24, li31, li40, li160, n_le, n_lt, n_eq, n_m1, n_add, mr4, mr6, mr7, mr10, mr40, mr160, ml4, ml6, ml7, ml10, ml40, ml160, gu_ib, nI_nat, bi_s, vl_e, gu_t, if_true, if_false, reduceIte, bt1_1, bt1_2, bt1_3, bt1_4, bt1_5, bt1_6, bt1_7, bt1_8, bt1_9, bt1_10, bt1_11, bt1_12, bt14_1, bt14_2, bt14_3, bt14_4, bt14_5, bt14_6, bt14_7, bt14_8, bt14_9, bt14_10, bt14_11, bt14_12, e97, ix, e108, zL_i, zI_add, ew, e111 MWw.b, z_add, z_sub, z_mul, z_neg, hs, ebr]
          unfold chg at kx
          by_cases q0 : sg s (4 * l + k) = 0
          · rw [if_pos q0]
            refine Ok.b (m_fallsOn hh (by decide) MWw) fun y py => ?_
            exact kx y (py.1.mo fun q z => by omega) (by rw [if_pos q0]; exact py.2)
          · rw [if_neg q0]
            by_cases q1 : sd s (sg s (4 * l + k)) = 0
            · rw [if_pos q1]
              refine kx _ (Fr.wL Fr.rfl' (Or.inl rfl)) ?_
              rw [if_neg q0, if_neg (by omega), if_neg (by omega)]
              refine ⟨RMa_frm (fun _ _ => rfl) rfl MWw.a, RMb_frm (fun _ _ => rfl) (fun _ _ _ => rfl) MWw.b, ?_, fun q hq => ?_⟩
              · rw [Int.add_assoc]; exact MZ_4 s10 MWw.z
              · rw [uO_d _ _ (by decide), wL_n (by decide)]; exact MWw.t hq
            · rw [if_neg q1]
              by_cases q2 : sd s (sg s (4 * l + k)) = 1
              · rw [if_pos q2]
                refine Ok.b (m_fallsOn hh (by decide) MWw) fun y py => ?_
                exact kx y (py.1.mo fun q z => by omega) (by rw [if_neg q0, if_pos q2]; exact py.2)
              · rw [if_neg q2]
                refine Ok.b (m_fallsOn hh (by decide) MWw) fun y py => ?_
                exact kx y (py.1.mo fun q z => by omega) (by rw [if_neg q0, if_neg q2, if_pos (by omega)]; exact py.2)
        simp (disch := omega) only [D_X7_splits_106, D_X7_splits_152, li0, li1, li2, li3, li4, li5, li6, li7, li8, li9, li10, li12, li24, li31, li40, li160, n_le, n_lt, n_eq, n_m1, n_add, mr4, mr6, mr7, mr10, mr40, mr160, ml4, ml6, ml7, ml10, ml40, ml160, gu_ib, nI_nat, bi_s, vl_e, gu_t, if_true, if_false, reduceIte, bt1_1, bt1_2, bt1_3, bt1_4, bt1_5, bt1_6, bt1_7, bt1_8, bt1_9, bt1_10, bt1_11, bt1_12, bt14_1, bt14_2, bt14_3, bt14_4, bt14_5, bt14_6, bt14_7, bt14_8, bt14_9, bt14_10, bt14_11, bt14_12, ll0, ll1, ll2, ll10, ll2e9, nge Ax, tx, e98, n_L, z_add, z_sub, z_mul, z_neg, tdv k hk, z_le]
        rw [if_neg (by omega)]
        by_cases q : max (tnR s O0 l - (k : Int)) 0 ≤ 0
        · rw [if_pos q, if_pos q]
          refine step _ _ ?_ rfl (max (tnR s O0 l - (k : Int)) 0) 0 (by omega)
          unfold its; rw [if_neg (by omega)]
        · rw [if_neg q, if_neg q]
          refine step _ _ ?_ rfl (max (tnR s O0 l - (k : Int)) 0) 1 (by omega)
          unfold its; rw [if_pos (by omega)]
      · intro n x P
        have tx := P.2.t hl
        rw [spk_o s O0 l Ob (by decide), hO] at tx
        simp (disch := omega) only [D_X7_splits_106, li0, li1, li2, li3, li4, li5, li6, li7, li8, li9, li10, li12, li24, li31, li40, li160, n_le, n_lt, n_eq, n_m1, n_add, mr4, mr6, mr7, mr10, mr40, mr160, ml4, ml6, ml7, ml10, ml40, ml160, gu_ib, nI_nat, bi_s, vl_e, gu_t, if_true, if_false, reduceIte, bt1_1, bt1_2, bt1_3, bt1_4, bt1_5, bt1_6, bt1_7, bt1_8, bt1_9, bt1_10, bt1_11, bt1_12, bt14_1, bt14_2, bt14_3, bt14_4, bt14_5, bt14_6, bt14_7, bt14_8, bt14_9, bt14_10, bt14_11, bt14_12, nge P.2.a, tx, z_add, z_sub, z_mul, z_neg]
        rw [if_pos (by omega)]
        refine Ok.b (m_fallsOn hh (by decide) P.2) fun y py => ?_
        exact Ok.s ⟨P.1.tr (py.1.mo fun q z => by omega), py.2⟩
/-- cells that a spreading changes -/
def AS (q : Nat) : Prop := q = 99 ∨ 105 ≤ q ∧ q ≤ 110 ∨ 116 ≤ q ∧ q ≤ 127
theorem AM_S {q : Nat} (h : AM q) : AS q := by unfold AM at h; unfold AS; omega
theorem m_spreads {v : Int} (hf : 200 < fu) (hh : h < 25) (hv : 0 ≤ v) (hv2 : v < 4611686018427387904) (Y : MY μ h a b c) (R : RM μ s) (H : Iv N s) : Ok (D_X7_spreads_0 fu (nI h) (zL v) μ) (fun x => Fr AS μ x ∧ MW x s h (pln s h (offB a b c (ru s 0)) v (ru s 1))) := by
  generalize eo : offB a b c (ru s 0) = off
  have r1 := IvR_r1 H.R
  unfold D_X7_spreads_0
  refine Ok.for (fun n i x => D_X7_spreads_3 fu n (nI h) (zL v) (nI i) x) 40 (fun i x => Fr (fun q => q = 118) μ x ∧ ∀ l, l < i → x.2.1 118 l = zL 0) ?_ ?_ fu 0 μ (by omega) (by omega) ⟨Fr.rfl', fun j h => absurd h (Nat.not_lt_zero j)⟩
  · intro n i x hi P k
    simp (disch := omega) only [D_X7_spreads_3, li0, li1, li2, li3, li4, li5, li6, li7, li8, li9, li10, li12, li24, li31, li40, li160, n_le, n_lt, n_eq, n_m1, n_add, mr4, mr6, mr7, mr10, mr40, mr160, ml4, ml6, ml7, ml10, ml40, ml160, gu_ib, nI_nat, bi_s, vl_e, gu_t, if_true, if_false, reduceIte, bt1_1, bt1_2, bt1_3, bt1_4, bt1_5, bt1_6, bt1_7, bt1_8, bt1_9, bt1_10, bt1_11, bt1_12, bt14_1, bt14_2, bt14_3, bt14_4, bt14_5, bt14_6, bt14_7, bt14_8, bt14_9, bt14_10, bt14_11, bt14_12, ll0, ll1, ll2, ll10, ll2e9]
    rw [if_neg (by omega)]
    refine k _ ⟨Fr.wL P.1 rfl, fun l hl => ?_⟩
    rw [wL_s]; split
    · rfl
    · exact P.2 l (by omega)
  · intro n x P
    have Ax := RMa_F P.1 (fun q z => by omega) R.a
    have Bx := RMb_F P.1 (fun q z => by omega) R.b
    have M : MW x s h oc0 := ⟨Ax, Bx, MZ_F P.1 (fun q z => by omega) (R_MZ h R.z), P.2⟩
    have Yx := MY_F P.1 (fun q z => by omega) Y
    have e31 : x.1 85 31 = nI (ru s 1) := RMb_r1 Bx
    have pB := pre_OB H hh off hv (ru s 1)
    -- the end: tenths
    have fin : ∀ y : Mem, Fr AS μ y → MW y s h (pre s h off v (ru s 1)) → Ok (D_X7_spreads_95 fu (nI h) y) (fun x => Fr AS μ x ∧ MW x s h (pln s h off v (ru s 1))) := fun y F My => by
      unfold D_X7_spreads_95 pln
      generalize hO : pre s h off v (ru s 1) = O0 at My pB
      have o3 : ∀ j, O0 3 j = 0 := fun j => by rw [← hO]; exact pre_3 H hh off hv _ (Or.inl rfl)
      refine Ok.for (fun n l w => D_X7_spreads_98 fu n (nI h) (nI l) w) 40 (fun l w => Fr (fun q => q = 108 ∨ q = 109 ∨ q = 110) y w ∧ MW w s h (spl s O0 l)) ?_ ?_ fu 0 y (by omega) (by omega) ⟨Fr.rfl', My⟩
      · intro n l w hl T k
        have eo' : spl s O0 l 0 l = O0 0 l := spl_o s O0 (by decide) l
        have t118 := T.2.t hl
        rw [eo'] at t118
        have ob : 0 ≤ O0 0 l ∧ O0 0 l ≤ 100000000 := (OB_9 H hh pB).1 l hl
        simp (disch := omega) only [D_X7_spreads_98, D_X7_spreads_124, li0, li1, li2, li3, li4, li5, li6, li7, li8, li9, li10, li12, li24, li31, li40, li160, n_le, n_lt, n_eq, n_m1, n_add, mr4, mr6, mr7, mr10, mr40, mr160, ml4, ml6, ml7, ml10, ml40, ml160, gu_ib, nI_nat, bi_s, vl_e, gu_t, if_true, if_false, reduceIte, bt1_1, bt1_2, bt1_3, bt1_4, bt1_5, bt1_6, bt1_7, bt1_8, bt1_9, bt1_10, bt1_11, bt1_12, bt14_1, bt14_2, bt14_3, bt14_4, bt14_5, bt14_6, bt14_7, bt14_8, bt14_9, bt14_10, bt14_11, bt14_12, ll0, ll1, ll2, ll10, ll2e9, t118, z_le]
        rw [if_neg (by omega)]
        by_cases q : O0 0 l ≤ 0
        · rw [if_pos q]
          have es : spl s O0 (l + 1) = spl s O0 l := by
            conv => lhs; unfold spl
            rw [if_neg (by omega)]
          exact k _ ⟨T.1, by rw [es]; exact T.2⟩
        · rw [if_neg q]
          have h1 : isL s l = 1 := by
            rcases IvT_is H.T hl with z | z
            · have := ((pB l hl).2 z).1; omega
            · exact z
          refine Ok.b (m_splits hf hh hl h1 (by omega) ob.2 T.2 H eo' (fun k hk => by rw [spl_3 H.T O0 hk (by omega), if_neg (by omega)]; exact o3 _)) fun u pu => ?_
          have es : spl s O0 (l + 1) = uO (spk s O0 l (spl s O0 l) (ng s l)) 5 4 (spk s O0 l (spl s O0 l) (ng s l) 5 4 + (O0 0 l - due s O0 l)) := by
            conv => lhs; unfold spl
            rw [if_pos (by omega)]
          exact k _ ⟨T.1.tr pu.1, by rw [es]; exact pu.2⟩
      · intro n w T
        simp (disch := omega) only [D_X7_spreads_98, li0, li1, li2, li3, li4, li5, li6, li7, li8, li9, li10, li12, li24, li31, li40, li160, n_le, n_lt, n_eq, n_m1, n_add, mr4, mr6, mr7, mr10, mr40, mr160, ml4, ml6, ml7, ml10, ml40, ml160, gu_ib, nI_nat, bi_s, vl_e, gu_t, if_true, if_false, reduceIte, bt1_1, bt1_2, bt1_3, bt1_4, bt1_5, bt1_6, bt1_7, bt1_8, bt1_9, bt1_10, bt1_11, bt1_12, bt14_1, bt14_2, bt14_3, bt14_4, bt14_5, bt14_6, bt14_7, bt14_8, bt14_9, bt14_10, bt14_11, bt14_12]
        rw [if_pos (by omega)]
        exact Ok.s ⟨F.tr (T.1.mo fun q z => by unfold AS; omega), T.2⟩
    have Fx : Fr AS μ x := P.1.mo fun q z => by unfold AS; omega
    have mm : ru s 1 = 0 ∨ ru s 1 = 1 ∨ ru s 1 = 2 ∨ ru s 1 = 3 := by omega
    simp (disch := omega) only [D_X7_spreads_3, D_X7_spreads_89, li0, li1, li2, li3, li4, li5, li6, li7, li8, li9, li10, li12, li24, li31, li40, li160, n_le, n_lt, n_eq, n_m1, n_add, mr4, mr6, mr7, mr10, mr40, mr160, ml4, ml6, ml7, ml10, ml40, ml160, gu_ib, nI_nat, bi_s, vl_e, gu_t, if_true, if_false, reduceIte, bt1_1, bt1_2, bt1_3, bt1_4, bt1_5, bt1_6, bt1_7, bt1_8, bt1_9, bt1_10, bt1_11, bt1_12, bt14_1, bt14_2, bt14_3, bt14_4, bt14_5, bt14_6, bt14_7, bt14_8, bt14_9, bt14_10, bt14_11, bt14_12, e31]
    rw [if_pos (by omega)]
    rcases mm with e | e | e | e
    · rw [if_neg (by omega), if_neg (by omega), if_pos e]
      refine Ok.b (m_like hf hh Yx Ax Bx H) fun x1 p1 => ?_
      rw [eo] at p1
      have M1 : MW x1 s h oc0 := MW_F p1.1 (fun q z => by omega) M
      refine Ok.b (m_byShares hf hh hv hv2 M1 H (WB_A s off) p1.2) fun x2 p2 => ?_
      refine fin x2 ((Fx.tr (p1.1.mo fun q z => by unfold AS; omega)).tr (p2.1.mo fun q z => z.elim AM_S fun z => by unfold AS; omega)) ?_
      rw [show pre s h off v (ru s 1) = pyW s h v (wA s off) by unfold pre; rw [if_pos e]]; exact p2.2
    · rw [if_neg (by omega), if_neg (by omega), if_neg (by omega)]
      refine Ok.b (m_sizesW hf hh Yx Ax Bx H) fun x1 p1 => ?_
      rw [eo] at p1
      have M1 : MW x1 s h oc0 := MW_F p1.1 (fun q z => by omega) M
      refine Ok.b (m_byShares hf hh hv hv2 M1 H (WB_S H.T off) p1.2) fun x2 p2 => ?_
      refine fin x2 ((Fx.tr (p1.1.mo fun q z => by unfold AS; omega)).tr (p2.1.mo fun q z => z.elim AM_S fun z => by unfold AS; omega)) ?_
      rw [show pre s h off v (ru s 1) = pyW s h v (wS s off) by unfold pre; rw [if_neg (by omega), if_pos e]]; exact p2.2
    · rw [if_pos e]
      refine Ok.b (m_fair hf hh hv hv2 Yx M H) fun x1 p1 => ?_
      rw [eo] at p1
      have Y1 := MY_F p1.1 (fun q z => by unfold AM at z; omega) Yx
      refine Ok.b (m_byFull hf hh hv hv2 Y1 p1.2.1 H) fun x2 p2 => ?_
      rw [eo] at p2
      have f9 := OB_9 H hh (pyF_b H hh off hv).1
      have w9 := OB_9 H hh (pyW_b H hh hv fun y _ => (wA_nn s off y).1).1
      refine Ok.b (m_contr (B := pyW s h v (wA s off) 0) hf hh p2.2 f9.1 (fun l hl => ⟨by rw [p2.1.L (by unfold AM; omega)]; exact p1.2.2 l hl, w9.1 l hl⟩)) fun x3 p3 => ?_
      refine fin x3 (((Fx.tr (p1.1.mo fun q z => z.elim AM_S fun z => by unfold AS; omega)).tr (p2.1.mo fun q z => z.elim AM_S fun z => by unfold AS; omega)).tr (p3.1.mo fun q z => by unfold AS; omega)) ?_
      rw [show pre s h off v (ru s 1) = ctr (pyF s h off v) (pyW s h v (wA s off) 0) by unfold pre; rw [if_neg (by omega), if_neg (by omega), if_pos e]]; exact p3.2
    · rw [if_neg (by omega), if_pos e]
      refine Ok.b (m_byLevel hf hh hv hv2 Yx M H) fun x1 p1 => ?_
      rw [eo] at p1
      refine fin x1 (Fx.tr (p1.1.mo fun q z => z.elim AM_S fun z => by unfold AS; omega)) ?_
      rw [show pre s h off v (ru s 1) = pyL s h off v by unfold pre; rw [if_neg (by omega), if_neg (by omega), if_neg (by omega)]]; exact p1.2
theorem MW_R {x : Mem} {s : Sp} {h : Nat} {O : Oc} (W : MW x s h O) : RM x (addO s h O) := ⟨W.a, W.b, MZ_R W.z⟩
end
