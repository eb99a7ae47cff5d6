/-! who signed has their tenths; the whole plan -/
theorem CO_3 {t : Nat} {μ : Mem} {O : Oc} (H : CO t μ O) (i : Nat) (v : Int) : CO t μ (uO O 3 i v) := by
  refine ⟨fun l hl => ?_, fun l hl => ?_, fun l hl => ?_, fun l hl => ?_, fun l hl => ?_⟩
  · rw [uO_d _ _ (by decide)]; exact H.t hl
  · rw [uO_d _ _ (by decide)]; exact H.h hl
  · rw [uO_d _ _ (by decide)]; exact H.g hl
  · rw [uO_d _ _ (by decide)]; exact H.b hl
  · rw [uO_d _ _ (by decide)]; exact H.r hl
theorem c_charge {s : Sp} {x : Mem} {O : Oc} {i : Nat} {v : Int} (hi : i < 10) (hs : sd s i ≤ 2) (B : CO 62 x O) : Ok (D_X3_charge_0 62 (nI i) (nI (sd s i)) (zL v) x) (fun x' => Fr (fun q => q = 67 ∨ q = 68) x x' ∧ CO 62 x' (chg s O i v)) := by
  have r0 : x.2.1 68 0 = zL _ := B.r (show 0 < 7 by decide)
  have r5 : x.2.1 68 5 = zL _ := B.r (show 5 < 7 by decide)
  have r6 : x.2.1 68 6 = zL _ := B.r (show 6 < 7 by decide)
  have ri : x.2.1 67 i = zL _ := B.b hi
  unfold chg
  by_cases q : i = 0
  · rw [if_pos q]
    subst q
    simp (disch := omega) only [D_X3_charge_0, li0, li1, li2, li3, li4, li5, li6, li7, li8, li9, li10, li12, li24, li31, li40, li160, n_le, n_lt, n_eq, n_m1, n_add, mr4, mr6, mr7, mr10, mr40, mr160, ml4, ml6, ml7, ml10, ml40, ml160, gu_ib, nI_nat, bi_s, vl_e, gu_t, if_true, if_false, reduceIte, bt1_1, bt1_2, bt1_3, bt1_4, bt1_5, bt1_6, bt1_7, bt1_8, bt1_9, bt1_10, bt1_11, bt1_12, bt14_1, bt14_2, bt14_3, bt14_4, bt14_5, bt14_6, bt14_7, bt14_8, bt14_9, bt14_10, bt14_11, bt14_12, r0, z_add, z_sub, z_mul, z_neg]
    exact Ok.s ⟨Fr.wL Fr.rfl' (by omega), CO_w B 5 _ _ (by decide)⟩
  · rw [if_neg q]
    by_cases q1 : sd s i = 1
    · rw [if_pos q1]
      simp (disch := omega) only [D_X3_charge_0, li0, li1, li2, li3, li4, li5, li6, li7, li8, li9, li10, li12, li24, li31, li40, li160, n_le, n_lt, n_eq, n_m1, n_add, mr4, mr6, mr7, mr10, mr40, mr160, ml4, ml6, ml7, ml10, ml40, ml160, gu_ib, nI_nat, bi_s, vl_e, gu_t, if_true, if_false, reduceIte, bt1_1, bt1_2, bt1_3, bt1_4, bt1_5, bt1_6, bt1_7, bt1_8, bt1_9, bt1_10, bt1_11, bt1_12, bt14_1, bt14_2, bt14_3, bt14_4, bt14_5, bt14_6, bt14_7, bt14_8, bt14_9, bt14_10, bt14_11, bt14_12, q1, r5, z_add, z_sub, z_mul, z_neg]
      rw [if_neg q]
      exact Ok.s ⟨Fr.wL Fr.rfl' (by omega), CO_w B 5 _ _ (by decide)⟩
    · rw [if_neg q1]
      by_cases q2 : sd s i = 2
      · rw [if_pos q2]
        simp (disch := omega) only [D_X3_charge_0, li0, li1, li2, li3, li4, li5, li6, li7, li8, li9, li10, li12, li24, li31, li40, li160, n_le, n_lt, n_eq, n_m1, n_add, mr4, mr6, mr7, mr10, mr40, mr160, ml4, ml6, ml7, ml10, ml40, ml160, gu_ib, nI_nat, bi_s, vl_e, gu_t, if_true, if_false, reduceIte, bt1_1, bt1_2, bt1_3, bt1_4, bt1_5, bt1_6, bt1_7, bt1_8, bt1_9, bt1_10, bt1_11, bt1_12, bt14_1, bt14_2, bt14_3, bt14_4, bt14_5, bt14_6, bt14_7, bt14_8, bt14_9, bt14_10, bt14_11, bt14_12, q2, r6, z_add, z_sub, z_mul, z_neg]
        rw [if_neg q, if_neg (by decide)]
        exact Ok.s ⟨Fr.wL Fr.rfl' (by omega), CO_w B 5 _ _ (by decide)⟩
      · rw [if_neg q2]
        simp (disch := omega) only [D_X3_charge_0, li0, li1, li2, li3, li4, li5, li6, li7, li8, li9, li10, li12, li24, li31, li40, li160, n_le, n_lt, n_eq, n_m1, n_add, mr4, mr6, mr7, mr10, mr40, mr160, ml4, ml6, ml7, ml10, ml40, ml160, gu_ib, nI_nat, bi_s, vl_e, gu_t, if_true, if_false, reduceIte, bt1_1, bt1_2, bt1_3, bt1_4, bt1_5, bt1_6, bt1_7, bt1_8, bt1_9, bt1_10, bt1_11, bt1_12, bt14_1, bt14_2, bt14_3, bt14_4, bt14_5, bt14_6, bt14_7, bt14_8, bt14_9, bt14_10, bt14_11, bt14_12, ri, z_add, z_sub, z_mul, z_neg]
        rw [if_neg q, if_neg q1, if_neg q2]
        exact Ok.s ⟨Fr.wL Fr.rfl' (by omega), CO_w B 4 _ _ (by decide)⟩
theorem c_splitL {b N fu l : Nat} {μ : Mem} {s : Sp} {O0 Ob : Oc} (hf : 200 < fu) (hb : b + 28 < 61) (hl : l < 40) (h1 : isL s l = 1) (hp : 0 < O0 0 l) (hp2 : O0 0 l ≤ 100000000) (C : RC b μ s) (H : Iv N s) (B : CO 62 μ Ob) (hO : Ob 0 l = O0 0 l) : Ok (D_X3_splitLayer_0 fu 62 (b + 1) (b + 27) 10 (nI l) μ) (fun x => Fr (fun q => q = 66 ∨ q = 67 ∨ q = 68) μ x ∧ CO 62 x (uO (spk s O0 l Ob (ng s l)) 5 4 (spk s O0 l Ob (ng s l) 5 4 + (O0 0 l - due s O0 l))) ∧ (∀ k, k < ng s l → x.2.1 66 (4 * l + k) = zL (its s O0 l k)) ∧ ∀ j, j < 4 * l ∨ 4 * l + 4 ≤ j → x.2.1 66 j = μ.2.1 66 j) := by
  have n4 := IvT_ng H.T hl
  have tt := IvT_tt H.T hl
  have tS := tnI_S s l (ng s l)
  have r63 : μ.2.1 63 l = zL (O0 0 l) := by rw [← hO]; exact B.t hl
  have mb : ∀ t : Nat, t ≤ 10 → 0 ≤ O0 0 l * (t : Int) ∧ O0 0 l * (t : Int) ≤ 100000000 * 10 := fun t ht => ⟨Int.mul_nonneg (by omega) (by omega), Int.mul_le_mul hp2 (by omega) (by omega) (by decide)⟩
  have m1 := mb _ tt
  have dd := z_div m1.1 (show _ < _ by omega) (show (0 : Int) < 10 by decide) (by decide)
  have ed : O0 0 l * (tnI s l (ng s l) : Int) / 10 = due s O0 l := by unfold due; rw [tS]
  simp (disch := omega) only [D_X3_splitLayer_0, li0, li1, li2, li3, li4, li5, li6, li7, li8, li9, li10, li12, li24, li31, li40, li160, n_le, n_lt, n_eq, n_m1, n_add, mr4, mr6, mr7, mr10, mr40, mr160, ml4, ml6, ml7, ml10, ml40, ml160, gu_ib, nI_nat, bi_s, vl_e, gu_t, if_true, if_false, reduceIte, bt1_1, bt1_2, bt1_3, bt1_4, bt1_5, bt1_6, bt1_7, bt1_8, bt1_9, bt1_10, bt1_11, bt1_12, bt14_1, bt14_2, bt14_3, bt14_4, bt14_5, bt14_6, bt14_7, bt14_8, bt14_9, bt14_10, bt14_11, bt14_12, ll0, ll1, ll2, ll10, ll2e9, r63, C_tt C hl h1, n_L, z_add, z_sub, z_mul, z_neg, dd, ed]
  have Rn := tnR_nn s O0 l
  have dle : due s O0 l ≤ 100000000 := by
    rw [← ed]
    exact Int.ediv_le_of_le_mul (by decide) (by omega)
  have d0 : 0 ≤ due s O0 l := by rw [← ed]; exact Int.ediv_nonneg m1.1 (by decide)
  have t0 : ∀ k, 0 ≤ ten s O0 l k := fun k => Int.ediv_nonneg (Int.mul_nonneg (by omega) (by omega)) (by decide)
  refine Ok.for (fun n k x => D_X3_splitLayer_31 fu 62 (b + 1) (b + 27) 10 n (nI l) (zL (O0 0 l)) (zL (due s O0 l)) (zL (due s O0 l - sm (ten s O0 l) k)) (nI k) x) (ng s l) (fun k x => Fr (fun q => q = 66) μ x ∧ (∀ j, j < k → x.2.1 66 (4 * l + j) = zL (ten s O0 l j)) ∧ ∀ j, j < 4 * l ∨ 4 * l + 4 ≤ j → x.2.1 66 j = μ.2.1 66 j) ?_ ?_ fu 0 μ (by omega) (by omega) ⟨Fr.rfl', fun j h => absurd h (Nat.not_lt_zero j), fun _ _ => rfl⟩ |>.e (congrArg (fun v => D_X3_splitLayer_31 fu 62 (b + 1) (b + 27) 10 fu (nI l) (zL (O0 0 l)) (zL (due s O0 l)) v (nI 0) μ) (congrArg zL (Int.sub_zero _).symm))
  · intro n k x hk P kk
    have Cx : RC b x s := RC_Fr P.1 (fun q z => by omega) C
    have t10 := tn_le H.T hl hk
    have m2 := mb _ t10
    have d2 := z_div m2.1 (show _ < _ by omega) (show (0 : Int) < 10 by decide) (by decide)
    have et : O0 0 l * (tn s (4 * l + k) : Int) / 10 = ten s O0 l k := rfl
    simp (disch := omega) only [D_X3_splitLayer_31, li0, li1, li2, li3, li4, li5, li6, li7, li8, li9, li10, li12, li24, li31, li40, li160, n_le, n_lt, n_eq, n_m1, n_add, mr4, mr6, mr7, mr10, mr40, mr160, ml4, ml6, ml7, ml10, ml40, ml160, gu_ib, nI_nat, bi_s, vl_e, gu_t, if_true, if_false, reduceIte, bt1_1, bt1_2, bt1_3, bt1_4, bt1_5, bt1_6, bt1_7, bt1_8, bt1_9, bt1_10, bt1_11, bt1_12, bt14_1, bt14_2, bt14_3, bt14_4, bt14_5, bt14_6, bt14_7, bt14_8, bt14_9, bt14_10, bt14_11, bt14_12, ll0, ll1, ll2, ll10, ll2e9, C_ng Cx hl h1, C_tn Cx hl h1 hk, n_L, z_add, z_sub, z_mul, z_neg, d2, et, wL_e]
    rw [if_neg (by omega), show due s O0 l - sm (ten s O0 l) k - ten s O0 l k = due s O0 l - sm (ten s O0 l) (k + 1) by rw [sm_s]; omega]
    refine kk _ ⟨Fr.wL P.1 rfl, fun j hj => ?_, fun j hj => ?_⟩
    · rw [wL_2]
      by_cases e : j = k
      · rw [if_pos ⟨rfl, by omega⟩, e]
      · rw [if_neg (by omega)]; exact P.2.1 j (by omega)
    · rw [wL_2, if_neg (by omega)]; exact P.2.2 j hj
  · intro n x P
    have Cx : RC b x s := RC_Fr P.1 (fun q z => by omega) C
    simp (disch := omega) only [D_X3_splitLayer_31, li0, li1, li2, li3, li4, li5, li6, li7, li8, li9, li10, li12, li24, li31, li40, li160, n_le, n_lt, n_eq, n_m1, n_add, mr4, mr6, mr7, mr10, mr40, mr160, ml4, ml6, ml7, ml10, ml40, ml160, gu_ib, nI_nat, bi_s, vl_e, gu_t, if_true, if_false, reduceIte, bt1_1, bt1_2, bt1_3, bt1_4, bt1_5, bt1_6, bt1_7, bt1_8, bt1_9, bt1_10, bt1_11, bt1_12, bt14_1, bt14_2, bt14_3, bt14_4, bt14_5, bt14_6, bt14_7, bt14_8, bt14_9, bt14_10, bt14_11, bt14_12, C_ng Cx hl h1]
    rw [if_pos (by omega)]
    have eR : due s O0 l - sm (ten s O0 l) (ng s l) = max (tnR s O0 l - ((0 : Nat) : Int)) 0 := by unfold tnR at *; omega
    rw [eR]
    have Rb : tnR s O0 l ≤ 100000000 := by
      have := sm_nn (f := ten s O0 l) (n := ng s l) (fun i _ => t0 i)
      unfold tnR; omega
    refine Ok.for (fun n k x => D_X3_splitLayer_93 fu 62 (b + 1) (b + 27) 10 n (nI l) (zL (O0 0 l)) (zL (due s O0 l)) (zL (max (tnR s O0 l - (k : Int)) 0)) (nI k) x) (ng s l) (fun k x => Fr (fun q => q = 66 ∨ q = 67 ∨ q = 68) μ x ∧ CO 62 x (spk s O0 l Ob k) ∧ (∀ j, j < ng s l → x.2.1 66 (4 * l + j) = zL (if j < k then its s O0 l j else ten s O0 l j)) ∧ ∀ j, j < 4 * l ∨ 4 * l + 4 ≤ j → x.2.1 66 j = μ.2.1 66 j) ?_ ?_ fu 0 x (by omega) (by omega) ⟨P.1.mo fun q z => Or.inl z, CO_F P.1 (fun q z => by omega) B, fun j hj => by rw [if_neg (by omega)]; exact P.2.1 j hj, P.2.2⟩
    · intro n k x hk P kk
      obtain ⟨P1, P2, P3, P4⟩ := P
      have Cx : RC b x s := RC_Fr P1 (fun q z => by omega) C
      have s10 := IvT_sg H.T hl hk
      have s2 := IvR_sd H.R s10
      have step : ∀ (x' : Mem) (rv : Int), Fr (fun q => q = 66) x x' → rv = max (tnR s O0 l - ((k + 1 : Nat) : Int)) 0 → x'.2.1 66 (4 * l + k) = zL (its s O0 l k) → (∀ j, j ≠ 4 * l + k → x'.2.1 66 j = x.2.1 66 j) → Ok (D_X3_splitLayer_136 fu 62 (b + 1) (b + 27) 10 (D_X3_splitLayer_93 fu 62 (b + 1) (b + 27) 10 n) (nI l) (zL (O0 0 l)) (zL (due s O0 l)) (zL rv) (nI k) (nI (4 * l + k)) x') (fun x => Fr (fun q => q = 66 ∨ q = 67 ∨ q = 68) μ x ∧ CO 62 x (uO (spk s O0 l Ob (ng s l)) 5 4 (spk s O0 l Ob (ng s l) 5 4 + (O0 0 l - due s O0 l))) ∧ (∀ k, k < ng s l → x.2.1 66 (4 * l + k) = zL (its s O0 l k)) ∧ ∀ j, j < 4 * l ∨ 4 * l + 4 ≤ j → x.2.1 66 j = μ.2.1 66 j) := fun x' rv F e hk1 hk2 => by
        subst e
        have Cy : RC b x' s := RC_Fr F (fun q z => by omega) Cx
        have By : CO 62 x' (uO (spk s O0 l Ob k) 3 (4 * l + k) (its s O0 l k)) := CO_3 (by
          refine ⟨fun q hq => ?_, fun q hq => ?_, fun q hq => ?_, fun q hq => ?_, fun q hq => ?_⟩
          · rw [F.L (by omega)]; exact P2.t hq
          · rw [F.L (by omega)]; exact P2.h hq
          · rw [F.L (by omega)]; exact P2.g hq
          · rw [F.L (by omega)]; exact P2.b hq
          · rw [F.L (by omega)]; exact P2.r hq) _ _
        simp (disch := omega) only [D_X3_splitLayer_136, li0, li1, li2, li3, li4, li5, li6, li7, li8, li9, li10, li12, li24, li31, li40, li160, n_le, n_lt, n_eq, n_m1, n_add, mr4, mr6, mr7, mr10, mr40, mr160, ml4, ml6, ml7, ml10, ml40, ml160, gu_ib, nI_nat, bi_s, vl_e, gu_t, if_true, if_false, reduceIte, bt1_1, bt1_2, bt1_3, bt1_4, bt1_5, bt1_6, bt1_7, bt1_8, bt1_9, bt1_10, bt1_11, bt1_12, bt14_1, bt14_2, bt14_3, bt14_4, bt14_5, bt14_6, bt14_7, bt14_8, bt14_9, bt14_10, bt14_11, bt14_12, C_sg Cy hl h1 hk, C_sd Cy s10, hk1]
        refine Ok.b (c_charge s10 s2 By) fun y py => ?_
        refine kk _ ⟨Fr.tr (Fr.tr P1 (F.mo fun q z => Or.inl z)) (py.1.mo fun q z => by omega), py.2, fun j hj => ?_, fun j hj => ?_⟩
        · rw [py.1.L (by omega)]
          by_cases ej : j = k
          · rw [if_pos (by omega), ej]; exact hk1
          · rw [hk2 _ (by omega), P3 j hj]
            by_cases q : j < k
            · rw [if_pos q, if_pos (by omega)]
            · rw [if_neg q, if_neg (by omega)]
        · rw [py.1.L (by omega), hk2 _ (by omega)]; exact P4 j hj
      have hv := P3 k hk
      rw [if_neg (by omega)] at hv
      simp (disch := omega) only [D_X3_splitLayer_93, li0, li1, li2, li3, li4, li5, li6, li7, li8, li9, li10, li12, li24, li31, li40, li160, n_le, n_lt, n_eq, n_m1, n_add, mr4, mr6, mr7, mr10, mr40, mr160, ml4, ml6, ml7, ml10, ml40, ml160, gu_ib, nI_nat, bi_s, vl_e, gu_t, if_true, if_false, reduceIte, bt1_1, bt1_2, bt1_3, bt1_4, bt1_5, bt1_6, bt1_7, bt1_8, bt1_9, bt1_10, bt1_11, bt1_12, bt14_1, bt14_2, bt14_3, bt14_4, bt14_5, bt14_6, bt14_7, bt14_8, bt14_9, bt14_10, bt14_11, bt14_12, ll0, ll1, ll2, ll10, ll2e9, C_ng Cx hl h1, z_le, hv, z_add, z_sub, z_mul, z_neg]
      rw [if_neg (by omega)]
      by_cases q : max (tnR s O0 l - (k : Int)) 0 ≤ 0
      · rw [if_pos q]
        refine step x _ Fr.rfl' (by omega) ?_ (fun _ _ => rfl)
        rw [hv]; unfold its; rw [if_neg (by omega), Int.add_zero]
      · rw [if_neg q]
        refine step _ _ (Fr.wL Fr.rfl' rfl) (by omega) ?_ (fun j hj => ?_)
        · rw [wL_e]; unfold its; rw [if_pos (by omega)]
        · rw [wL_2, if_neg (fun z => hj z.2)]
    · intro n x P
      obtain ⟨P1, P2, P3, P4⟩ := P
      have Cx : RC b x s := RC_Fr P1 (fun q z => by omega) C
      have r4 : x.2.1 68 4 = zL _ := P2.r (show 4 < 7 by decide)
      simp (disch := omega) only [D_X3_splitLayer_93, li0, li1, li2, li3, li4, li5, li6, li7, li8, li9, li10, li12, li24, li31, li40, li160, n_le, n_lt, n_eq, n_m1, n_add, mr4, mr6, mr7, mr10, mr40, mr160, ml4, ml6, ml7, ml10, ml40, ml160, gu_ib, nI_nat, bi_s, vl_e, gu_t, if_true, if_false, reduceIte, bt1_1, bt1_2, bt1_3, bt1_4, bt1_5, bt1_6, bt1_7, bt1_8, bt1_9, bt1_10, bt1_11, bt1_12, bt14_1, bt14_2, bt14_3, bt14_4, bt14_5, bt14_6, bt14_7, bt14_8, bt14_9, bt14_10, bt14_11, bt14_12, C_ng Cx hl h1, r4, z_add, z_sub, z_mul, z_neg]
      rw [if_pos (by omega)]
      refine Ok.s ⟨Fr.wL P1 (by omega), CO_w P2 5 _ _ (by decide), fun k hk => ?_, fun j hj => ?_⟩
      · rw [wL_n (by decide), P3 k hk, if_pos hk]
      · rw [wL_n (by decide)]; exact P4 j hj
theorem chg_40 (s : Sp) (O : Oc) (i : Nat) (v : Int) : chg s O i v 4 0 = O 4 0 := by
  unfold chg
  split
  · rw [uO_1, if_neg (by omega)]
  · split
    · rw [uO_1, if_neg (by omega)]
    · split
      · rw [uO_1, if_neg (by omega)]
      · rw [uO_1, if_neg (by omega)]
theorem spk_40 (s : Sp) (O0 : Oc) (l : Nat) (O : Oc) : ∀ k, spk s O0 l O k 4 0 = O 4 0
  | 0 => rfl
  | k + 1 => by unfold spk; rw [chg_40, uO_1, if_neg (by omega), spk_40 s O0 l O k]
theorem spl_40 (s : Sp) (O0 : Oc) : ∀ m, spl s O0 m 4 0 = O0 4 0
  | 0 => rfl
  | m + 1 => by
    unfold spl
    split
    · rw [uO_1, if_neg (by omega), spk_40, spl_40 s O0 m]
    · exact spl_40 s O0 m
theorem spl_x (s : Sp) (O0 : Oc) {n : Nat} : ∀ {m : Nat}, n ≤ m → (∀ l, n ≤ l → l < m → O0 0 l ≤ 0) → spl s O0 m = spl s O0 n
  | 0, h, _ => by rw [Nat.le_zero.mp h]
  | m + 1, h, z => by
    by_cases e : n = m + 1
    · rw [e]
    · have := z m (by omega) (by omega)
      conv => lhs; unfold spl
      rw [if_neg (by omega), spl_x s O0 (n := n) (m := m) (by omega) (fun l h1 h2 => z l h1 (by omega))]
/-- what comes of an amount, as the class tells it in the end -/
def CP (μ : Mem) (s : Sp) (O : Oc) : Prop := (∀ l, l < 40 → μ.2.1 63 l = zL (O 0 l)) ∧ (∀ l, l < 40 → μ.2.1 64 l = zL (O 1 l)) ∧ (∀ l, l < 40 → μ.2.1 65 l = zL (O 2 l)) ∧ (∀ i, i < 10 → 0 < i → μ.2.1 67 i = zL (O 4 i)) ∧ μ.2.1 67 0 = zL (sm (O 5) 7) ∧ (∀ r, r < 7 → μ.2.1 68 r = zL (O 5 r)) ∧ ∀ l k, l < 40 → 0 < O 0 l → k < ng s l → μ.2.1 66 (4 * l + k) = zL (O 3 (4 * l + k))
theorem c_split {b N fu h : Nat} {μ : Mem} {s : Sp} {O0 : Oc} (hf : 200 < fu) (hb : b + 28 < 61) (hh : h < 25) (C : RC b μ s) (H : Iv N s) (B : CO 62 μ O0) (hB : OB s h O0) (h4 : O0 4 0 = 0) : Ok (D_X3_split_0 fu 62 (b + 1) (b + 27) 10 μ) (fun x => Fr (fun q => q = 66 ∨ q = 67 ∨ q = 68) μ x ∧ CP x s (spl s O0 40)) := by
  have c4 := IvT_c40 H.T
  have no : ∀ l, cL s ≤ l → l < 40 → O0 0 l = 0 := fun l h1 h2 => by
    rcases IvT_is H.T h2 with z | z
    · exact ((hB l h2).2 z).1
    · have := IvT_cL H.T h2 z; omega
  have e40 : spl s O0 40 = spl s O0 (cL s) := spl_x s O0 c4 fun l h1 h2 => by rw [no l h1 h2]; exact Int.le_refl 0
  unfold D_X3_split_0
  refine Ok.for (fun n l x => D_X3_split_2 fu 62 (b + 1) (b + 27) 10 n (nI l) x) (cL s) (fun l x => Fr (fun q => q = 66 ∨ q = 67 ∨ q = 68) μ x ∧ CO 62 x (spl s O0 l) ∧ ∀ q k, q < l → 0 < O0 0 q → k < ng s q → x.2.1 66 (4 * q + k) = zL (its s O0 q k)) ?_ ?_ fu 0 μ (by omega) (by omega) ⟨Fr.rfl', B, fun q k h => absurd h (Nat.not_lt_zero q)⟩
  · intro n l x hl P kk
    obtain ⟨P1, P2, P3⟩ := P
    have l4 : l < 40 := by omega
    have Cx : RC b x s := RC_Fr P1 (fun q z => by omega) C
    have eo : spl s O0 l 0 l = O0 0 l := spl_o s O0 (by decide) l
    have r63 : x.2.1 63 l = zL (O0 0 l) := by rw [← eo]; exact P2.t l4
    have ob : 0 ≤ O0 0 l ∧ O0 0 l ≤ 100000000 := by
      rcases IvT_is H.T l4 with z | z
      · rw [((hB l l4).2 z).1]; exact ⟨by decide, by decide⟩
      · have := (hB l l4).1 z
        have := cT_le H hh l4 z
        omega
    simp (disch := omega) only [D_X3_split_2, D_X3_split_28, li0, li1, li2, li3, li4, li5, li6, li7, li8, li9, li10, li12, li24, li31, li40, li160, n_le, n_lt, n_eq, n_m1, n_add, mr4, mr6, mr7, mr10, mr40, mr160, ml4, ml6, ml7, ml10, ml40, ml160, gu_ib, nI_nat, bi_s, vl_e, gu_t, if_true, if_false, reduceIte, bt1_1, bt1_2, bt1_3, bt1_4, bt1_5, bt1_6, bt1_7, bt1_8, bt1_9, bt1_10, bt1_11, bt1_12, bt14_1, bt14_2, bt14_3, bt14_4, bt14_5, bt14_6, bt14_7, bt14_8, bt14_9, bt14_10, bt14_11, bt14_12, ll0, ll1, ll2, ll10, ll2e9, C_cL Cx, r63, z_le]
    rw [if_neg (by omega)]
    by_cases q : O0 0 l ≤ 0
    · rw [if_pos q]
      have es : spl s O0 (l + 1) = spl s O0 l := by
        conv => lhs; unfold spl
        rw [if_neg (by omega)]
      refine kk _ ⟨P1, by rw [es]; exact P2, fun p k hp h0 hk => P3 p k ?_ h0 hk⟩
      by_cases e : p = l
      · rw [e] at h0; omega
      · omega
    · rw [if_neg q]
      have h1 : isL s l = 1 := by
        rcases IvT_is H.T l4 with z | z
        · have := ((hB l l4).2 z).1; omega
        · exact z
      refine Ok.b (c_splitL hf hb l4 h1 (by omega) ob.2 Cx H P2 eo) fun y py => ?_
      have es : spl s O0 (l + 1) = uO (spk s O0 l (spl s O0 l) (ng s l)) 5 4 (spk s O0 l (spl s O0 l) (ng s l) 5 4 + (O0 0 l - due s O0 l)) := by
        conv => lhs; unfold spl
        rw [if_pos (by omega)]
      refine kk _ ⟨P1.tr py.1, by rw [es]; exact py.2.1, fun p k hp h0 hk => ?_⟩
      by_cases e : p = l
      · rw [e] at hk ⊢; exact py.2.2.1 k hk
      · have := IvT_ng H.T (show p < 40 by omega)
        rw [py.2.2.2 _ (by omega)]; exact P3 p k (by omega) h0 hk
  · intro n x P
    obtain ⟨P1, P2, P3⟩ := P
    have Cx : RC b x s := RC_Fr P1 (fun q z => by omega) C
    simp (disch := omega) only [D_X3_split_2, li0, li1, li2, li3, li4, li5, li6, li7, li8, li9, li10, li12, li24, li31, li40, li160, n_le, n_lt, n_eq, n_m1, n_add, mr4, mr6, mr7, mr10, mr40, mr160, ml4, ml6, ml7, ml10, ml40, ml160, gu_ib, nI_nat, bi_s, vl_e, gu_t, if_true, if_false, reduceIte, bt1_1, bt1_2, bt1_3, bt1_4, bt1_5, bt1_6, bt1_7, bt1_8, bt1_9, bt1_10, bt1_11, bt1_12, bt14_1, bt14_2, bt14_3, bt14_4, bt14_5, bt14_6, bt14_7, bt14_8, bt14_9, bt14_10, bt14_11, bt14_12, C_cL Cx]
    rw [if_pos (by omega)]
    have z4 : spl s O0 (cL s) 4 0 = 0 := by rw [spl_40]; exact h4
    refine Ok.for (fun n r y => D_X3_split_36 fu 62 (b + 1) (b + 27) 10 n (nI r) y) 7 (fun r y => Fr (fun q => q = 67) x y ∧ y.2.1 67 0 = zL (sm (spl s O0 (cL s) 5) r) ∧ ∀ i, 0 < i → y.2.1 67 i = x.2.1 67 i) ?_ ?_ fu 0 x (by omega) (by omega) ⟨Fr.rfl', by
      have := P2.b (show 0 < 10 by decide)
      rw [z4] at this; exact this, fun _ _ => rfl⟩
    · intro n r y hr Q kk
      have rr : y.2.1 68 r = zL (spl s O0 (cL s) 5 r) := by rw [Q.1.L (by omega)]; exact P2.r hr
      simp (disch := omega) only [D_X3_split_36, li0, li1, li2, li3, li4, li5, li6, li7, li8, li9, li10, li12, li24, li31, li40, li160, n_le, n_lt, n_eq, n_m1, n_add, mr4, mr6, mr7, mr10, mr40, mr160, ml4, ml6, ml7, ml10, ml40, ml160, gu_ib, nI_nat, bi_s, vl_e, gu_t, if_true, if_false, reduceIte, bt1_1, bt1_2, bt1_3, bt1_4, bt1_5, bt1_6, bt1_7, bt1_8, bt1_9, bt1_10, bt1_11, bt1_12, bt14_1, bt14_2, bt14_3, bt14_4, bt14_5, bt14_6, bt14_7, bt14_8, bt14_9, bt14_10, bt14_11, bt14_12, Q.2.1, rr, z_add, z_sub, z_mul, z_neg]
      rw [if_neg (by omega), ← sm_s]
      refine kk _ ⟨Fr.wL Q.1 rfl, wL_e, fun i hi => ?_⟩
      rw [wL_2, if_neg (by omega)]; exact Q.2.2 i hi
    · intro n y Q
      simp (disch := omega) only [D_X3_split_36, li0, li1, li2, li3, li4, li5, li6, li7, li8, li9, li10, li12, li24, li31, li40, li160, n_le, n_lt, n_eq, n_m1, n_add, mr4, mr6, mr7, mr10, mr40, mr160, ml4, ml6, ml7, ml10, ml40, ml160, gu_ib, nI_nat, bi_s, vl_e, gu_t, if_true, if_false, reduceIte, bt1_1, bt1_2, bt1_3, bt1_4, bt1_5, bt1_6, bt1_7, bt1_8, bt1_9, bt1_10, bt1_11, bt1_12, bt14_1, bt14_2, bt14_3, bt14_4, bt14_5, bt14_6, bt14_7, bt14_8, bt14_9, bt14_10, bt14_11, bt14_12]
      rw [if_pos (by omega), e40]
      refine Ok.s ⟨Fr.tr P1 (Q.1.mo fun q z => by omega), fun l hl => ?_, fun l hl => ?_, fun l hl => ?_, fun i hi h0 => ?_, Q.2.1, fun r hr => ?_, fun l k hl h0 hk => ?_⟩
      · rw [Q.1.L (by omega)]; exact P2.t hl
      · rw [Q.1.L (by omega)]; exact P2.h hl
      · rw [Q.1.L (by omega)]; exact P2.g hl
      · rw [Q.2.2 i h0]; exact P2.b hi
      · rw [Q.1.L (by omega)]; exact P2.r hr
      · rw [spl_o s O0 (by decide)] at h0
        have lc : l < cL s := by
          rcases Nat.lt_or_ge l (cL s) with g | g
          · exact g
          · have := no l g hl; omega
        have n4 := IvT_ng H.T hl
        rw [Q.1.L (by omega), P3 l k lc h0 hk, spl_3 H.T O0 (by omega) c4, if_pos ⟨lc, h0, hk⟩]
theorem WB_A (s : Sp) (off : Nat → Bool) : WB 12 (wA s off) 1 := by
  have u : sm (wA s off) 12 ≤ 1 * ((12 : Nat) : Int) := by rw [← sm_c]; exact sm_le fun k _ => (wA_nn s off k).2
  exact ⟨fun k _ => wA_nn s off k, by omega, by omega⟩
theorem WB_S {s : Sp} (H : IvT s) (off : Nat → Bool) : WB 12 (wS s off) 600000000 := by
  have u : sm (wS s off) 12 ≤ 600000000 * ((12 : Nat) : Int) := by rw [← sm_c]; exact sm_le fun k hk => (wS_b H off hk).2
  exact ⟨fun k hk => wS_b H off hk, by omega, by omega⟩
theorem OB_9 {N h : Nat} {s : Sp} {O : Oc} (H : Iv N s) (hh : h < 25) (B : OB s h O) : (∀ l, l < 40 → 0 ≤ O 0 l ∧ O 0 l ≤ 100000000) ∧ ∀ l, cL s ≤ l → l < 40 → O 0 l = 0 := by
  refine ⟨fun l hl => ?_, fun l h1 h2 => ?_⟩
  · rcases IvT_is H.T hl with z | z
    · rw [((B l hl).2 z).1]; exact ⟨by decide, by decide⟩
    · have := (B l hl).1 z
      have := cT_le H hh hl z
      omega
  · rcases IvT_is H.T h2 with z | z
    · exact ((B l h2).2 z).1
    · have := IvT_cL H.T h2 z; omega
theorem c_plan {b N fu h v m : Nat} {μ : Mem} {s : Sp} {off : Nat → Bool} {a : Int} (hf : 200 < fu) (hb : b + 28 < 61) (hh : h < 25) (hq : isH s h = 1 ∨ h = 24) (hv : v < 4096) (ho : ∀ y, y < 12 → v.testBit y = off y) (ha : 0 ≤ a) (ha2 : a < 4611686018427387904) (hm : m ≤ 3) (C : RC b μ s) (H : Iv N s) : Ok (D_X4_plan_0 fu b (nI h) (nI v) (zL a) (nI m) μ) (fun x => Fr (fun q => 61 ≤ q ∧ q ≤ 83) μ x ∧ CP x s (pln s h off a m) ∧ (m = 2 → ∀ l, l < cL s → x.2.1 81 l = zL (exc (pyF s h off a 0) (pyW s h a (wA s off) 0) l) ∧ x.2.1 82 l = zL (exc (pyW s h a (wA s off) 0) (pyF s h off a 0) l))) := by
  have pB := pre_OB H hh off ha m
  have p4 : pre s h off a m 4 0 = 0 := pre_3 H hh off ha m (Or.inr rfl)
  have c4 := IvT_c40 H.T
  have fin : ∀ x : Mem, Fr (fun q => 61 ≤ q ∧ q ≤ 83) μ x → CO 62 x (pre s h off a m) → Ok (D_X4_plan_146 fu b x) (fun y => Fr (fun q => q = 66 ∨ q = 67 ∨ q = 68) x y ∧ CP y s (pln s h off a m)) := fun x F B => by
    unfold D_X4_plan_146
    have Cx : RC b x s := RC_Fr F (fun q z => by omega) C
    refine Ok.b (c_split hf hb hh Cx H B pB p4) fun y py => ?_
    exact Ok.s py
  have mm : m = 0 ∨ m = 1 ∨ m = 2 ∨ m = 3 := by omega
  unfold D_X4_plan_0
  rcases mm with e | e | e | e <;> subst e
  · rw [if_pos (show nI 0 = 0 from rfl)]
    refine Ok.b (c_weighA hf hb hv ho C H) fun x1 p1 => ?_
    have C1 : RC b x1 s := RC_Fr p1.1 (fun q z => by omega) C
    refine Ok.b (c_payW hf hb (Or.inl rfl) hh hq ha ha2 C1 H (WB_A s off) p1.2) fun x2 p2 => ?_
    refine (fin x2 (Fr.tr (p1.1.mo fun q z => by omega) (p2.1.mo fun q z => by omega)) p2.2).mo fun y py => ⟨Fr.tr (Fr.tr (p1.1.mo fun q z => by omega) (p2.1.mo fun q z => by omega)) (py.1.mo fun q z => by omega), py.2, fun z => absurd z (by decide)⟩
  · rw [if_neg (by decide), if_pos (show nI 1 = 1 from rfl)]
    refine Ok.b (c_weighS hf hb hv ho C H) fun x1 p1 => ?_
    have C1 : RC b x1 s := RC_Fr p1.1 (fun q z => by omega) C
    refine Ok.b (c_payW hf hb (Or.inl rfl) hh hq ha ha2 C1 H (WB_S H.T off) p1.2) fun x2 p2 => ?_
    refine (fin x2 (Fr.tr (p1.1.mo fun q z => by omega) (p2.1.mo fun q z => by omega)) p2.2).mo fun y py => ⟨Fr.tr (Fr.tr (p1.1.mo fun q z => by omega) (p2.1.mo fun q z => by omega)) (py.1.mo fun q z => by omega), py.2, fun z => absurd z (by decide)⟩
  · rw [if_neg (by decide), if_neg (by decide), if_pos (show nI 2 = 2 from rfl)]
    refine Ok.b (c_weighA hf hb hv ho C H) fun x1 p1 => ?_
    have C1 : RC b x1 s := RC_Fr p1.1 (fun q z => by omega) C
    refine Ok.b (c_payW hf hb (Or.inr rfl) hh hq ha ha2 C1 H (WB_A s off) p1.2) fun x2 p2 => ?_
    have C2 : RC b x2 s := RC_Fr p2.1 (fun q z => by omega) C1
    refine Ok.b (c_rooms hf hb hh hq hv ho C2 H) fun x3 p3 => ?_
    have C3 : RC b x3 s := RC_Fr p3.1 (fun q z => by omega) C2
    refine Ok.b (c_order hf hb hh C3 H p3.2.1 p3.2.2.1 p3.2.2.2) fun x4 p4' => ?_
    have C4 : RC b x4 s := RC_Fr p4'.1 (fun q z => by omega) C3
    refine Ok.b (c_turn hf hb hh hq ha ha2 C4 H (by rw [p4'.1.I (by omega)]; exact p3.2.1) p4'.2) fun x5 p5 => ?_
    have C5 : RC b x5 s := RC_Fr p5.1 (fun q z => by omega) C4
    have FB : CO 69 x5 (pyW s h a (wA s off)) := CO_F p5.1 (fun q z => by omega) (CO_F p4'.1 (fun q z => by omega) (CO_F p3.1 (fun q z => by omega) p2.2))
    have f9 := OB_9 H hh (pyF_b H hh off ha).1
    have w9 := OB_9 H hh (pyW_b H hh ha fun y _ => (wA_nn s off y).1).1
    rw [C_cL C5]
    refine Ok.b (c_contr hf c4 p5.2 FB f9.1 w9.1 (fun l h1 h2 => ⟨f9.2 l h1 h2, w9.2 l h1 h2⟩)) fun x6 p6 => ?_
    have F6 : Fr (fun q => 61 ≤ q ∧ q ≤ 83) μ x6 := Fr.tr (Fr.tr (Fr.tr (Fr.tr (Fr.tr (p1.1.mo fun q z => by omega) (p2.1.mo fun q z => by omega)) (p3.1.mo fun q z => by omega)) (p4'.1.mo fun q z => by omega)) (p5.1.mo fun q z => by omega)) (p6.1.mo fun q z => by omega)
    refine (fin x6 F6 p6.2.1).mo fun y py => ⟨Fr.tr F6 (py.1.mo fun q z => by omega), py.2, fun _ l hl => ?_⟩
    rw [py.1.L (by omega), py.1.L (by omega)]; exact p6.2.2 l hl
  · rw [if_neg (by decide), if_neg (by decide), if_neg (by decide)]
    refine Ok.b (c_rooms hf hb hh hq hv ho C H) fun x3 p3 => ?_
    have C3 : RC b x3 s := RC_Fr p3.1 (fun q z => by omega) C
    refine Ok.b (c_payL hf hb hh hq ha ha2 C3 H p3.2.1 p3.2.2.1 p3.2.2.2) fun x5 p5 => ?_
    have F5 : Fr (fun q => 61 ≤ q ∧ q ≤ 83) μ x5 := Fr.tr (p3.1.mo fun q z => by omega) (p5.1.mo fun q z => by omega)
    refine (fin x5 F5 p5.2).mo fun y py => ⟨Fr.tr F5 (py.1.mo fun q z => by omega), py.2, fun z => absurd z (by decide)⟩
