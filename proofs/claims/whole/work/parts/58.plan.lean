/-! levels, tenths and the whole plan of the class -/
theorem lev_en {N h : Nat} {s : Sp} (H : Iv N s) (hh : h < 25) (off : Nat → Bool) {L : Int} (hL' : 0 ≤ L) : lev (rmY s h off) L = sm (fun k => min L (rmS s h (enO s off 12 k))) (opC s off 12) := by
  obtain ⟨e1, e2, e3⟩ := enO_b s off 12
  refine sm_perm (fun y => min L (rmS s h y)) (enO s off 12) 12 (opC s off 12) (fun k hk => (e1 k hk).1) (fun i j hi hj e => ?_) _ (fun k hk => ?_) (fun y hy hn => ?_)
  · rcases Nat.lt_trichotomy i j with g | g | g
    · have := e2 i j g hj; omega
    · exact g
    · have := e2 j i g hi; omega
  · show min L (rmY s h off (enO s off 12 k)) = min L (rmS s h (enO s off 12 k))
    unfold rmY; rw [if_pos (e1 k hk).2]
  · show min L (rmY s h off y) = 0
    unfold rmY
    rw [if_neg (fun q => by obtain ⟨i, hi, e⟩ := e3 y hy q; exact hn i hi e)]
    omega
theorem c_taken {N fu h : Nat} {μ : Mem} {s : Sp} {off : Nat → Bool} {L : Int} (hf : 200 < fu) (hh : h < 25) (H : Iv N s) (hL' : 0 ≤ L) (hL2 : L < 4611686018427387904) (h1 : μ.1 61 7 = nI (opC s off 12)) (h2 : ∀ k, k < opC s off 12 → μ.1 80 k = nI (enO s off 12 k)) (h3 : ∀ y, y < 12 → opn s off y = true → μ.2.1 78 y = zL (rmS s h y)) : D_X4_takenAtLevel_0 fu μ (zL L) = some (zL (lev (rmY s h off) L)) := by
  have oc := opC_le s off 12
  have e1 := (enO_b s off 12).1
  rw [lev_en H hh off hL']
  unfold D_X4_takenAtLevel_0
  refine eq_for (fun n k => D_X4_takenAtLevel_5 fu μ n (zL L) (zL (sm (fun k => min L (rmS s h (enO s off 12 k))) k)) (nI k)) (opC s off 12) _ ?_ ?_ fu 0 (by omega) (by omega)
  · intro n k hk
    have v := e1 k hk
    have rb := rmS_b H hh v.1
    simp (disch := omega) only [D_X4_takenAtLevel_5, li0, li1, li2, li3, li4, li5, li6, li7, li8, li9, li10, li12, li24, li31, li40, li160, n_le, n_lt, n_eq, n_m1, n_add, mr4, mr6, mr7, mr10, mr40, mr160, ml4, ml6, ml7, ml10, ml40, ml160, gu_ib, nI_nat, bi_s, vl_e, gu_t, if_true, if_false, reduceIte, bt1_1, bt1_2, bt1_3, bt1_4, bt1_5, bt1_6, bt1_7, bt1_8, bt1_9, bt1_10, bt1_11, bt1_12, bt14_1, bt14_2, bt14_3, bt14_4, bt14_5, bt14_6, bt14_7, bt14_8, bt14_9, bt14_10, bt14_11, bt14_12, h1, h2 k hk, h3 _ v.1 v.2, z_mn, z_add, z_sub, z_mul, z_neg]
    rw [if_neg (by omega), sm_s]
  · intro n
    simp (disch := omega) only [D_X4_takenAtLevel_5, li0, li1, li2, li3, li4, li5, li6, li7, li8, li9, li10, li12, li24, li31, li40, li160, n_le, n_lt, n_eq, n_m1, n_add, mr4, mr6, mr7, mr10, mr40, mr160, ml4, ml6, ml7, ml10, ml40, ml160, gu_ib, nI_nat, bi_s, vl_e, gu_t, if_true, if_false, reduceIte, bt1_1, bt1_2, bt1_3, bt1_4, bt1_5, bt1_6, bt1_7, bt1_8, bt1_9, bt1_10, bt1_11, bt1_12, bt14_1, bt14_2, bt14_3, bt14_4, bt14_5, bt14_6, bt14_7, bt14_8, bt14_9, bt14_10, bt14_11, bt14_12, h1]
    rw [if_pos (by omega)]
theorem sh_1 : ∀ k, k < 31 → (1 : Int64) <<< ((nI k).toInt64 &&& 63) = zL (2 ^ k) := by decide +kernel
def vB : Nat → Int32
  | 0 => -1
  | b + 1 => nI b
theorem vB_d (b : Nat) : nI b + (-1) = vB b := by
  cases b with
  | zero => rfl
  | succ b => exact n_dec (by omega)
theorem c_level {N fu h : Nat} {μ : Mem} {s : Sp} {off : Nat → Bool} {a : Int} (hf : 200 < fu) (hh : h < 25) (H : Iv N s) (ha : 0 ≤ a) (ha2 : a < 4611686018427387904) (h1 : μ.1 61 7 = nI (opC s off 12)) (h2 : ∀ k, k < opC s off 12 → μ.1 80 k = nI (enO s off 12 k)) (h3 : ∀ y, y < 12 → opn s off y = true → μ.2.1 78 y = zL (rmS s h y)) : D_X4_levelFor_0 fu μ (zL a) = some (zL (lvl (rmY s h off) a)) := by
  have lb : ∀ L : Int, 0 ≤ L → lev (rmY s h off) L ≤ 72000000000 := fun L hL' => by
    have u : lev (rmY s h off) L ≤ sm (fun _ => 6000000000) 12 := sm_le fun y hy => by
      have := rmY_b H hh off hy
      omega
    rw [sm_c] at u; omega
  have ln : ∀ L : Int, 0 ≤ L → 0 ≤ lev (rmY s h off) L := fun L hL' => sm_nn fun y hy => by have := rmY_b H hh off hy; omega
  have K : ∀ (b n : Nat) (L : Int), b ≤ 31 → b < n → BI (rmY s h off) a b L → D_X4_levelFor_6 fu μ n (zL a) (zL L) (vB b) = some (zL (lvl (rmY s h off) a)) := by
    intro b
    induction b with
    | zero =>
      intro n L _ hn B
      cases n with
      | zero => omega
      | succ n =>
        have q : ((-1 : Int32) < 0) := by decide
        show D_X4_levelFor_6 fu μ (n + 1) (zL a) (zL L) (-1) = _
        rw [D_X4_levelFor_6, if_pos q, BI_e B]
    | succ b ih =>
      intro n L hb hn B
      cases n with
      | zero => omega
      | succ n =>
        have p : (0 : Int) < 2 ^ b := Int.pow_pos (by decide)
        have p2 : (2 : Int) ^ b ≤ 2 ^ 30 := by
          have : (2 : Nat) ^ b ≤ 2 ^ 30 := Nat.pow_le_pow_right (by decide) (by omega)
          exact_mod_cast this
        have p3 : (2 : Int) ^ 30 = 1073741824 := rfl
        have B1 := B.1
        have B2 := B.2.1
        have t := c_taken (μ := μ) hf hh H (L := L + 2 ^ b) (by omega) (by omega) h1 h2 h3
        have l1 := lb (L + 2 ^ b) (by omega)
        have l2 := ln (L + 2 ^ b) (by omega)
        show D_X4_levelFor_6 fu μ (n + 1) (zL a) (zL L) (nI b) = _
        rw [D_X4_levelFor_6, if_neg (show ¬ nI b < 0 by rw [li0, n_lt (by omega) (by omega)]; omega), sh_1 b (by omega), vl_e, z_add, ll2e9]
        simp (disch := omega) only [D_X4_levelFor_42, z_lt, t, bi_s, vB_d]
        by_cases q1 : 2000000000 < L + 2 ^ b
        · rw [if_pos q1]; exact ih n L (by omega) (by omega) (BI_n B (Or.inl q1))
        · rw [if_neg q1]
          by_cases q2 : a < lev (rmY s h off) (L + 2 ^ b)
          · rw [if_pos q2]; exact ih n L (by omega) (by omega) (BI_n B (Or.inr q2))
          · rw [if_neg q2]; exact ih n _ (by omega) (by omega) (BI_y B (by omega) (by omega))
  unfold D_X4_levelFor_0
  exact K 31 fu 0 (Nat.le_refl _) (by omega) (BI_0 (by rw [lev_0 fun y hy => (rmY_b H hh off hy).1]; exact ha))
theorem pl_s (s : Sp) (h : Nat) (off : Nat → Bool) (p : Nat → Int) (y : Nat) : pl s h off p (y + 1) = if opn s off y then (fil s h y (p y) (pl s h off p y) (hg s y)).2 else pl s h off p y := rfl
theorem pl_gap (s : Sp) (h : Nat) (off : Nat → Bool) (p : Nat → Int) (r : Nat → Int) (L : Int) (hr : ∀ y, opn s off y ≠ true → r y ≤ L) {y : Nat} : ∀ {z : Nat}, y ≤ z → (∀ x, y ≤ x → x < z → opn s off x ≠ true) → pl s h off p z = pl s h off p y ∧ mor r L z = mor r L y
  | 0, hz, _ => by
    have : y = 0 := by omega
    subst this; exact ⟨rfl, rfl⟩
  | z + 1, hz, hn => by
    by_cases e : y = z + 1
    · subst e; exact ⟨rfl, rfl⟩
    · have i := pl_gap s h off p r L hr (y := y) (z := z) (by omega) (fun x h1 h2 => hn x h1 (by omega))
      have n := hn z (by omega) (by omega)
      rw [pl_s, if_neg n, mor_s, if_neg (by have := hr z n; omega), i.1, i.2]
      exact ⟨rfl, by omega⟩
theorem pl_5 (s : Sp) (h : Nat) (off : Nat → Bool) (p : Nat → Int) {r : Nat} (hr : r ≠ 1) : ∀ y, pl s h off p y 5 r = 0
  | 0 => rfl
  | y + 1 => by
    rw [pl_s]
    split
    · rw [fil_o s h y _ _ (by omega) (fun z => by omega)]; exact pl_5 s h off p hr y
    · exact pl_5 s h off p hr y
/-- the k-th open year, or the end -/
def enY (s : Sp) (off : Nat → Bool) (k : Nat) : Nat := if k < opC s off 12 then enO s off 12 k else 12
theorem enY_n (s : Sp) (off : Nat → Bool) {k : Nat} (hk : k < opC s off 12) : enO s off 12 k + 1 ≤ enY s off (k + 1) ∧ ∀ x, enO s off 12 k + 1 ≤ x → x < enY s off (k + 1) → opn s off x ≠ true := by
  obtain ⟨e1, e2, e3⟩ := enO_b s off 12
  have v := (e1 k hk).1
  refine ⟨?_, fun x h1 h2 q => ?_⟩
  · unfold enY
    split
    · exact e2 k (k + 1) (by omega) (by assumption)
    · omega
  · have x12 : x < 12 := by
      unfold enY at h2
      split at h2
      · have := (e1 (k + 1) (by assumption)).1; omega
      · exact h2
    obtain ⟨i, hi, ei⟩ := e3 x x12 q
    have i1 : k < i := by
      rcases Nat.lt_trichotomy k i with g | g | g
      · exact g
      · subst g; omega
      · have := e2 i k g hk; omega
    unfold enY at h2
    rw [if_pos (by omega)] at h2
    by_cases e : i = k + 1
    · rw [← e] at h2; omega
    · have := e2 (k + 1) i (by omega) hi; omega
theorem enY_0 (s : Sp) (off : Nat → Bool) : ∀ x, x < enY s off 0 → opn s off x ≠ true := fun x hx q => by
  obtain ⟨e1, e2, e3⟩ := enO_b s off 12
  have x12 : x < 12 := by
    unfold enY at hx
    split at hx
    · have := (e1 0 (by assumption)).1; omega
    · exact hx
  obtain ⟨i, hi, ei⟩ := e3 x x12 q
  unfold enY at hx
  rw [if_pos (by omega)] at hx
  by_cases e : i = 0
  · rw [← e] at hx; omega
  · have := e2 0 i (by omega) hi; omega
theorem c_payL {b N fu h : Nat} {μ : Mem} {s : Sp} {off : Nat → Bool} {a : Int} (hf : 200 < fu) (hb : b + 28 < 61) (hh : h < 25) (hq : isH s h = 1 ∨ h = 24) (ha : 0 ≤ a) (ha2 : a < 4611686018427387904) (C : RC b μ s) (H : Iv N s) (h1 : μ.1 61 7 = nI (opC s off 12)) (h2 : ∀ k, k < opC s off 12 → μ.1 80 k = nI (enO s off 12 k)) (h3 : ∀ y, y < 12 → opn s off y = true → μ.2.1 78 y = zL (rmS s h y)) : Ok (D_X4_payByLevel_0 fu b (nI h) (zL a) μ) (fun μ' => Fr (fun q => 62 < q ∧ q ≤ 68) μ μ' ∧ CO 62 μ' (pyL s h off a)) := by
  have oc := opC_le s off 12
  obtain ⟨e1, e2, e3⟩ := enO_b s off 12
  have rn : ∀ y, y < 12 → 0 ≤ rmY s h off y := fun y hy => (rmY_b H hh off hy).1
  have V := lvl_b (r := rmY s h off) rn ha
  unfold D_X4_payByLevel_0
  refine Ok.b (c_clearO hf 62 μ) fun x1 p1 => ?_
  have g1 : x1.1 61 7 = nI (opC s off 12) := by rw [p1.1.I (by omega)]; exact h1
  have g2 : ∀ k, k < opC s off 12 → x1.1 80 k = nI (enO s off 12 k) := fun k hk => by rw [p1.1.I (by omega)]; exact h2 k hk
  have g3 : ∀ y, y < 12 → opn s off y = true → x1.2.1 78 y = zL (rmS s h y) := fun y hy q => by rw [p1.1.L (by omega)]; exact h3 y hy q
  rw [c_level hf hh H ha ha2 g1 g2 g3, bi_s, c_taken hf hh H V.1 (by have := V.2.1; omega) g1 g2 g3, bi_s, z_sub]
  generalize hL' : lvl (rmY s h off) a = L at V
  generalize hR : a - lev (rmY s h off) L = R
  have R0 : 0 ≤ R := by have := V.2.2.1; omega
  have Ra : R ≤ a := by
    have : 0 ≤ lev (rmY s h off) L := sm_nn fun y hy => by have := rn y hy; have := V.1; omega
    omega
  have L2 := V.2.1
  have L0 := V.1
  have hgap : ∀ y, opn s off y ≠ true → rmY s h off y ≤ L := fun y q => by unfold rmY; rw [if_neg q]; exact V.1
  have prb : ∀ y, y < 12 → opn s off y = true → 0 ≤ prt (rmY s h off) L R y ∧ prt (rmY s h off) L R y ≤ 6000000000 := fun y hy _ => by
    have := prt_b (r := rmY s h off) (rest := R) V.1 (rn y hy)
    have := rmY_b H hh off hy
    omega
  have eP : pyL s h off a = uO (pl s h off (prt (rmY s h off) L R) 12) 5 (rsn (opC s off 12)) (max (R - mor (rmY s h off) L 12) 0) := by unfold pyL; rw [hL', hR]
  rw [eP]
  have s0 := pl_gap s h off (prt (rmY s h off) L R) (rmY s h off) L hgap (y := 0) (z := enY s off 0) (Nat.zero_le _) (fun x _ hx => enY_0 s off x hx)
  have m0 : max (R - mor (rmY s h off) L (enY s off 0)) 0 = R := by
    rw [s0.2]; have : mor (rmY s h off) L 0 = 0 := rfl
    omega
  refine Ok.for (fun n k x => D_X4_payByLevel_27 fu b n (nI h) (zL L) (zL (max (R - mor (rmY s h off) L (enY s off k)) 0)) (nI k) x) (opC s off 12) (fun k x => Fr (fun q => 62 < q ∧ q ≤ 68) x1 x ∧ CO 62 x (pl s h off (prt (rmY s h off) L R) (enY s off k))) ?_ ?_ fu 0 x1 (by omega) (by omega) ⟨Fr.rfl', by rw [s0.1]; exact p1.2⟩ |>.e (congrArg (fun v => D_X4_payByLevel_27 fu b fu (nI h) (zL L) v (nI 0) x1) (congrArg zL m0.symm))
  · intro n k x hk P kk
    have Cx : RC b x s := RC_Fr (Fr.tr p1.1 P.1) (fun q z => by omega) C
    have cn : x.1 61 7 = nI (opC s off 12) := by rw [P.1.I (by omega)]; exact g1
    have rd : x.1 80 k = nI (enO s off 12 k) := by rw [P.1.I (by omega)]; exact g2 k hk
    have v := e1 k hk
    have ek : enY s off k = enO s off 12 k := by unfold enY; rw [if_pos hk]
    have rr : rmY s h off (enO s off 12 k) = rmS s h (enO s off 12 k) := by unfold rmY; rw [if_pos v.2]
    have rm : x.2.1 78 (enO s off 12 k) = zL (rmY s h off (enO s off 12 k)) := by rw [P.1.L (by omega), g3 _ v.1 v.2, rr]
    have rb := rmY_b H hh off v.1
    have mb := mor_b (rmY s h off) L (enO s off 12 k)
    have pb := prb _ v.1 v.2
    have nx := enY_n s off hk
    have gp := pl_gap s h off (prt (rmY s h off) L R) (rmY s h off) L hgap (y := enO s off 12 k + 1) nx.1 nx.2
    have oz := (pl_b H hh (off := off) (p := prt (rmY s h off) L R) (fun y hy q => (prb y hy q).1) (y := enO s off 12 k) (by omega)).2 _ (Nat.le_refl _) v.1
    have B0 := P.2
    rw [ek] at B0
    have step : ∀ pv rv : Int, pv = prt (rmY s h off) L R (enO s off 12 k) → rv = max (R - mor (rmY s h off) L (enO s off 12 k + 1)) 0 → Ok (D_X4_payByLevel_91 fu b (D_X4_payByLevel_27 fu b n) (nI h) (zL L) (zL rv) (nI k) (nI (enO s off 12 k)) (zL pv) x) (fun μ' => Fr (fun q => 62 < q ∧ q ≤ 68) μ μ' ∧ CO 62 μ' (uO (pl s h off (prt (rmY s h off) L R) 12) 5 (rsn (opC s off 12)) (max (R - mor (rmY s h off) L 12) 0))) := fun pv rv e e' => by
      subst e e'
      unfold D_X4_payByLevel_91
      refine Ok.b (c_fill hf (by omega) hh hq v.1 pb.1 (by omega) Cx H B0 oz) fun r p => ?_
      rw [li1, n_add, ← gp.2]
      refine kk _ ⟨P.1.tr p.2.2, ?_⟩
      rw [gp.1, pl_s, if_pos v.2]; exact p.2.1
    simp (disch := omega) only [D_X4_payByLevel_27, li0, li1, li2, li3, li4, li5, li6, li7, li8, li9, li10, li12, li24, li31, li40, li160, n_le, n_lt, n_eq, n_m1, n_add, mr4, mr6, mr7, mr10, mr40, mr160, ml4, ml6, ml7, ml10, ml40, ml160, gu_ib, nI_nat, bi_s, vl_e, gu_t, if_true, if_false, reduceIte, bt1_1, bt1_2, bt1_3, bt1_4, bt1_5, bt1_6, bt1_7, bt1_8, bt1_9, bt1_10, bt1_11, bt1_12, bt14_1, bt14_2, bt14_3, bt14_4, bt14_5, bt14_6, bt14_7, bt14_8, bt14_9, bt14_10, bt14_11, bt14_12, ll0, ll1, ll2, ll10, ll2e9, cn, rd, rm, z_mn, z_le, z_add, z_sub, z_mul, z_neg, ek]
    rw [if_neg (by omega)]
    by_cases q : max (R - mor (rmY s h off) L (enO s off 12 k)) 0 ≤ 0
    · rw [if_pos q]
      refine step _ _ ?_ ?_
      · unfold prt; rw [if_neg (by omega), Int.add_zero]
      · rw [mor_s]; split <;> omega
    · rw [if_neg q]
      by_cases q2 : rmY s h off (enO s off 12 k) ≤ L
      · rw [if_pos q2]
        refine step _ _ ?_ ?_
        · unfold prt; rw [if_neg (by omega), Int.add_zero]
        · rw [mor_s, if_neg (by omega), Int.add_zero]
      · rw [if_neg q2]
        refine step _ _ ?_ ?_
        · unfold prt; rw [if_pos (by omega)]
        · rw [mor_s, if_pos (by omega)]; omega
  · intro n x P
    have cn : x.1 61 7 = nI (opC s off 12) := by rw [P.1.I (by omega)]; exact g1
    have e12 : enY s off (opC s off 12) = 12 := by unfold enY; rw [if_neg (by omega)]
    have B := P.2
    rw [e12] at B
    have r3 : x.2.1 68 3 = zL _ := B.r (show 3 < 7 by decide)
    have r2 : x.2.1 68 2 = zL _ := B.r (show 2 < 7 by decide)
    rw [pl_5 s h off _ (by decide)] at r2 r3
    have w68 : ∀ r v, CO 62 (wL x 68 r (zL v)) (uO (pl s h off (prt (rmY s h off) L R) 12) 5 r v) := fun r v => CO_w B 5 r v (by decide)
    by_cases q : opC s off 12 = 0
    · simp (disch := omega) only [D_X4_payByLevel_27, D_X4_payByLevel_130, li0, li1, li2, li3, li4, li5, li6, li7, li8, li9, li10, li12, li24, li31, li40, li160, n_le, n_lt, n_eq, n_m1, n_add, mr4, mr6, mr7, mr10, mr40, mr160, ml4, ml6, ml7, ml10, ml40, ml160, gu_ib, nI_nat, bi_s, vl_e, gu_t, if_true, if_false, reduceIte, bt1_1, bt1_2, bt1_3, bt1_4, bt1_5, bt1_6, bt1_7, bt1_8, bt1_9, bt1_10, bt1_11, bt1_12, bt14_1, bt14_2, bt14_3, bt14_4, bt14_5, bt14_6, bt14_7, bt14_8, bt14_9, bt14_10, bt14_11, bt14_12, cn, r3, z_add, z_sub, z_mul, z_neg, e12, Int.zero_add]
      rw [if_pos (by omega), if_pos (by omega)]
      have er : rsn (opC s off 12) = 3 := by unfold rsn; rw [if_pos q]
      rw [er]
      exact Ok.s ⟨Fr.wL (Fr.tr p1.1 P.1) (by omega), w68 3 _⟩
    · simp (disch := omega) only [D_X4_payByLevel_27, D_X4_payByLevel_130, li0, li1, li2, li3, li4, li5, li6, li7, li8, li9, li10, li12, li24, li31, li40, li160, n_le, n_lt, n_eq, n_m1, n_add, mr4, mr6, mr7, mr10, mr40, mr160, ml4, ml6, ml7, ml10, ml40, ml160, gu_ib, nI_nat, bi_s, vl_e, gu_t, if_true, if_false, reduceIte, bt1_1, bt1_2, bt1_3, bt1_4, bt1_5, bt1_6, bt1_7, bt1_8, bt1_9, bt1_10, bt1_11, bt1_12, bt14_1, bt14_2, bt14_3, bt14_4, bt14_5, bt14_6, bt14_7, bt14_8, bt14_9, bt14_10, bt14_11, bt14_12, cn, r2, z_add, z_sub, z_mul, z_neg, e12, Int.zero_add]
      rw [if_pos (by omega), if_neg (by omega)]
      have er : rsn (opC s off 12) = 2 := by unfold rsn; rw [if_neg q]
      rw [er]
      exact Ok.s ⟨Fr.wL (Fr.tr p1.1 P.1) (by omega), w68 2 _⟩
