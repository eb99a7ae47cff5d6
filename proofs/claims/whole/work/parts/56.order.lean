/-! the order of open years, and paying in turn -/
/-- one year comes among those in order -/
theorem c_ins {b fu i v c : Nat} {Q : Mem → Prop} {K : Nat → Int} {o : Nat → Nat} {kont : Int32 → Mem → Option Mem} (hi : i < 12) (hv : v < 12) (hK : ∀ y, y < 12 → -9223372036854775808 ≤ K y ∧ K y < 9223372036854775808) (ho : ∀ j, j < i → o j < 12) :
    ∀ (k n : Nat) (x : Mem), k ≤ i → k < n → (∀ j, j < k → x.1 80 j = nI (o j)) → (∀ j, k < j → j ≤ i → x.1 80 j = nI (o (j - 1))) → (∀ j, i < j → j < c → x.1 80 j = nI (o j)) → (∀ j, j < i → x.2.1 79 (o j) = zL (K (o j))) → x.2.1 79 v = zL (K v) →
      (∀ x', Fr (fun q => q = 80) x x' → (∀ j, j < c → j ≤ i ∨ i < j → x'.1 80 j = nI (insA o v (insQ K o v k) i j)) → Ok (kont (nI (i + 1)) x') Q) → Ok (D_X4_orderYears_32 fu b kont n (nI i) (nI v) (nI k) x) Q := by
  intro k
  induction k with
  | zero =>
    intro n x _ hn _ h2 h3 _ _ kk
    cases n with
    | zero => omega
    | succ n =>
      simp (disch := omega) only [D_X4_orderYears_32, D_X4_orderYears_83, li0, li1, li2, li3, li4, li5, li6, li7, li8, li9, li10, li12, li24, li31, li40, li160, n_le, n_lt, n_eq, n_m1, n_add, mr4, mr6, mr7, mr10, mr40, mr160, ml4, ml6, ml7, ml10, ml40, ml160, gu_ib, nI_nat, bi_s, vl_e, gu_t, if_true, if_false, reduceIte, bt1_1, bt1_2, bt1_3, bt1_4, bt1_5, bt1_6, bt1_7, bt1_8, bt1_9, bt1_10, bt1_11, bt1_12, bt14_1, bt14_2, bt14_3, bt14_4, bt14_5, bt14_6, bt14_7, bt14_8, bt14_9, bt14_10, bt14_11, bt14_12]
      rw [if_pos (by omega)]
      refine kk _ (Fr.wI Fr.rfl' rfl) fun j hj _ => ?_
      rw [wI_1]
      unfold insQ insA
      by_cases e : j = 0
      · rw [if_pos ⟨rfl, e⟩, if_neg (by omega), if_pos e]
      · rw [if_neg (fun z => e z.2), if_neg (by omega), if_neg e]
        by_cases q : j ≤ i
        · rw [if_pos q]; exact h2 j (by omega) q
        · rw [if_neg q]; exact h3 j (by omega) hj
  | succ k ih =>
    intro n x hk hn h1 h2 h3 h4 h5 kk
    cases n with
    | zero => omega
    | succ n =>
      have ok := ho k (by omega)
      have kb := hK (o k) ok
      have vb := hK v hv
      simp (disch := omega) only [D_X4_orderYears_32, D_X4_orderYears_83, li0, li1, li2, li3, li4, li5, li6, li7, li8, li9, li10, li12, li24, li31, li40, li160, n_le, n_lt, n_eq, n_m1, n_add, mr4, mr6, mr7, mr10, mr40, mr160, ml4, ml6, ml7, ml10, ml40, ml160, gu_ib, nI_nat, bi_s, vl_e, gu_t, if_true, if_false, reduceIte, bt1_1, bt1_2, bt1_3, bt1_4, bt1_5, bt1_6, bt1_7, bt1_8, bt1_9, bt1_10, bt1_11, bt1_12, bt14_1, bt14_2, bt14_3, bt14_4, bt14_5, bt14_6, bt14_7, bt14_8, bt14_9, bt14_10, bt14_11, bt14_12, n_sub, Nat.add_sub_cancel, h1 k (by omega), h4 k (by omega), h5, z_le]
      rw [if_neg (by omega)]
      by_cases q : K (o k) ≤ K v
      · rw [if_pos q]
        refine kk _ (Fr.wI Fr.rfl' rfl) fun j hj _ => ?_
        rw [wI_1]
        unfold insQ insA
        rw [if_neg (show ¬ K v < K (o k) by omega)]
        by_cases e : j = k + 1
        · rw [if_pos ⟨rfl, e⟩, if_neg (by omega), if_pos e]
        · rw [if_neg (fun z => e z.2)]
          by_cases q2 : j < k + 1
          · rw [if_pos q2]; exact h1 j q2
          · rw [if_neg q2, if_neg e]
            by_cases q3 : j ≤ i
            · rw [if_pos q3]; exact h2 j (by omega) q3
            · rw [if_neg q3]; exact h3 j (by omega) hj
      · rw [if_neg q, show nI (k + 1) + -nI 1 = nI k from n_dec (by omega)]
        have F : Fr (fun q => q = 80) x (wI x 80 (k + 1) (nI (o k))) := Fr.wI Fr.rfl' rfl
        refine ih n _ (by omega) (by omega) (fun j hj => ?_) (fun j hj hji => ?_) (fun j hj hjc => ?_) (fun j hj => ?_) ?_ fun x' Fx hx => ?_
        · rw [wI_1, if_neg (by omega)]; exact h1 j (by omega)
        · rw [wI_1]
          by_cases e : j = k + 1
          · rw [if_pos ⟨rfl, e⟩, e, Nat.add_sub_cancel]
          · rw [if_neg (fun z => e z.2)]; exact h2 j (by omega) hji
        · rw [wI_1, if_neg (by omega)]; exact h3 j hj hjc
        · exact h4 j hj
        · exact h5
        · refine kk x' (F.tr Fx) fun j hj hq => ?_
          rw [hx j hj hq, insQ, if_pos (show K v < K (o k) by omega)]
theorem kyY_b {N h : Nat} {s : Sp} (H : Iv N s) (hh : h < 25) {y : Nat} (hy : y < 12) (h0 : hg s y ≠ 0) : -9223372036854775808 ≤ kyY s h y ∧ kyY s h y < 9223372036854775808 := by
  have r := rmS_b H hh hy
  have r4 := IvT_rg H.T hy (k := 0) (by omega)
  have r1 := IvT_ri H.T hy (k := 0) (by omega)
  have f9 := IvT_fr H.T r4 r1
  have e : rg s (6 * y + 0) = rg s (6 * y) := rfl
  rw [e] at f9
  unfold kyY
  split
  · omega
  · split
    · omega
    · split <;> omega
def kyZ (s : Sp) (h : Nat) (y : Nat) : Int := if hg s y = 0 then 0 else kyY s h y
theorem insQ_c {K L : Nat → Int} {o : Nat → Nat} {v : Nat} (hv : K v = L v) : ∀ {k : Nat}, (∀ j, j < k → K (o j) = L (o j)) → insQ K o v k = insQ L o v k
  | 0, _ => rfl
  | k + 1, h => by
    unfold insQ
    rw [hv, h k (by omega), insQ_c hv fun j hj => h j (by omega)]
theorem c_order {b N fu h : Nat} {μ : Mem} {s : Sp} {off : Nat → Bool} (hf : 200 < fu) (hb : b + 28 < 61) (hh : h < 25) (C : RC b μ s) (H : Iv N s) (h1 : μ.1 61 7 = nI (opC s off 12)) (h2 : ∀ k, k < opC s off 12 → μ.1 80 k = nI (enO s off 12 k)) (h3 : ∀ y, y < 12 → opn s off y = true → μ.2.1 78 y = zL (rmS s h y)) : Ok (D_X4_orderYears_0 fu b μ) (fun μ' => Fr (fun q => q = 79 ∨ q = 80) μ μ' ∧ ∀ k, k < opC s off 12 → μ'.1 80 k = nI (oI s h off k)) := by
  have oc := opC_le s off 12
  obtain ⟨e1, e2, e3⟩ := enO_b s off 12
  have hgn : ∀ k, k < opC s off 12 → hg s (enO s off 12 k) ≠ 0 := fun k hk => (opn_i.mp (e1 k hk).2).2
  unfold D_X4_orderYears_0
  refine Ok.for (fun n i x => D_X4_orderYears_2 fu b n (nI i) x) (opC s off 12) (fun i x => Fr (fun q => q = 79 ∨ q = 80) μ x ∧ (∀ k, k < opC s off 12 → x.1 80 k = nI (srt (kyY s h) (enO s off 12) i k)) ∧ ∀ k, k < i → x.2.1 79 (enO s off 12 k) = zL (kyY s h (enO s off 12 k))) ?_ ?_ fu 0 μ (by omega) (by omega) ⟨Fr.rfl', fun k hk => h2 k hk, fun j h => absurd h (Nat.not_lt_zero j)⟩
  · intro n i x hi P k
    obtain ⟨P1, P2, P3⟩ := P
    have Cx : RC b x s := RC_Fr P1 (fun q z => by omega) C
    obtain ⟨s1, s2, s3, s4⟩ := srt_b (kyY s h) (e := enO s off 12) (n := opC s off 12) e2 (i := i) (by omega)
    have ei : srt (kyY s h) (enO s off 12) i i = enO s off 12 i := s1 i (Nat.le_refl _)
    have v12 := (e1 i hi).1
    have rm : x.2.1 78 (enO s off 12 i) = zL (rmS s h (enO s off 12 i)) := by rw [P1.L (by omega)]; exact h3 _ v12 (e1 i hi).2
    have cn : x.1 61 7 = nI (opC s off 12) := by rw [P1.I (by omega)]; exact h1
    have rdi : x.1 80 i = nI (enO s off 12 i) := by rw [P2 i hi, ei]
    simp (disch := omega) only [D_X4_orderYears_2, li0, li1, li2, li3, li4, li5, li6, li7, li8, li9, li10, li12, li24, li31, li40, li160, n_le, n_lt, n_eq, n_m1, n_add, mr4, mr6, mr7, mr10, mr40, mr160, ml4, ml6, ml7, ml10, ml40, ml160, gu_ib, nI_nat, bi_s, vl_e, gu_t, if_true, if_false, reduceIte, bt1_1, bt1_2, bt1_3, bt1_4, bt1_5, bt1_6, bt1_7, bt1_8, bt1_9, bt1_10, bt1_11, bt1_12, bt14_1, bt14_2, bt14_3, bt14_4, bt14_5, bt14_6, bt14_7, bt14_8, bt14_9, bt14_10, bt14_11, bt14_12, cn, rdi, c_key (h := h) v12 (hgn i hi) Cx H rm]
    rw [if_neg (by omega)]
    have inj : ∀ j, j < i → enO s off 12 j ≠ enO s off 12 i := fun j hj e => by have := e2 j i hj hi; omega
    have so : ∀ j, j < i → ∃ m, m < i ∧ srt (kyY s h) (enO s off 12) i j = enO s off 12 m := s2
    refine c_ins (K := kyZ s h) (o := srt (kyY s h) (enO s off 12) i) (c := opC s off 12) (by omega) v12 (fun y hy => ?_) (fun j hj => ?_) i fu _ (Nat.le_refl _) (by omega) (fun j hj => ?_) (fun j hj hji => by omega) (fun j hj hjc => ?_) (fun j hj => ?_) ?_ fun x' Fx hx => ?_
    · unfold kyZ
      split
      · exact ⟨by decide, by decide⟩
      · rename_i q; exact kyY_b H hh hy q
    · obtain ⟨m, hm, em⟩ := so j hj
      rw [em]; exact (e1 m (by omega)).1
    · rw [wL_1]; exact P2 j (by omega)
    · rw [wL_1]; exact P2 j hjc
    · obtain ⟨m, hm, em⟩ := so j hj
      rw [em, wL_2, if_neg (fun z => inj m hm z.2), P3 m hm]
      unfold kyZ; rw [if_neg (hgn m (by omega))]
    · rw [wL_e]; unfold kyZ; rw [if_neg (hgn i hi)]
    · have Fm : Fr (fun q => q = 79 ∨ q = 80) μ x' := Fr.tr (Fr.wL P1 (Or.inl rfl)) (Fx.mo fun q z => Or.inr z)
      refine k x' ⟨Fm, fun j hj => ?_, fun j hj => ?_⟩
      · rw [hx j hj (by omega)]
        show nI (insA _ _ (insQ (kyZ s h) _ _ i) i j) = nI (insA _ _ (insQ (kyY s h) _ _ i) i j)
        rw [insQ_c (K := kyZ s h) (L := kyY s h) (by unfold kyZ; rw [if_neg (hgn i hi)]) (fun j hj => by
          obtain ⟨m, hm, em⟩ := so j hj
          rw [em]; unfold kyZ; rw [if_neg (hgn m (by omega))])]
      · rw [Fx.L (by omega), wL_2]
        by_cases e : j = i
        · rw [if_pos ⟨rfl, by rw [e]⟩, e]
        · rw [if_neg (fun z => inj j (by omega) z.2)]; exact P3 j (by omega)
  · intro n x P
    have cn : x.1 61 7 = nI (opC s off 12) := by rw [P.1.I (by omega)]; exact h1
    simp (disch := omega) only [D_X4_orderYears_2, li0, li1, li2, li3, li4, li5, li6, li7, li8, li9, li10, li12, li24, li31, li40, li160, n_le, n_lt, n_eq, n_m1, n_add, mr4, mr6, mr7, mr10, mr40, mr160, ml4, ml6, ml7, ml10, ml40, ml160, gu_ib, nI_nat, bi_s, vl_e, gu_t, if_true, if_false, reduceIte, bt1_1, bt1_2, bt1_3, bt1_4, bt1_5, bt1_6, bt1_7, bt1_8, bt1_9, bt1_10, bt1_11, bt1_12, bt14_1, bt14_2, bt14_3, bt14_4, bt14_5, bt14_6, bt14_7, bt14_8, bt14_9, bt14_10, bt14_11, bt14_12, cn]
    rw [if_pos (by omega)]
    exact Ok.s ⟨P.1, P.2.1⟩
theorem pf_stop {N : Nat} {s : Sp} (H : Iv N s) {h : Nat} (hh : h < 25) (off : Nat → Bool) {a : Int} (ha : 0 ≤ a) {k : Nat} (h0 : (pf s h (oI s h off) a k).1 = 0) : ∀ {m : Nat}, k ≤ m → m ≤ opC s off 12 → (pf s h (oI s h off) a m).1 = 0 ∧ ∀ f j, (pf s h (oI s h off) a m).2 f j = (pf s h (oI s h off) a k).2 f j
  | 0, hm, _ => by
    have : k = 0 := by omega
    subst this; exact ⟨h0, fun _ _ => rfl⟩
  | m + 1, hm, hc => by
    by_cases e : k = m + 1
    · subst e; exact ⟨h0, fun _ _ => rfl⟩
    · obtain ⟨i1, i2⟩ := pf_stop H hh off ha h0 (m := m) (by omega) (by omega)
      have z := (oI_pf H hh off ha (k := m) (by omega)).2.1 m (Nat.le_refl _) (by omega)
      have q := fil_0 H hh ((oI_b s h off).1 m (by omega)).1 z
      have e : pf s h (oI s h off) a (m + 1) = fil s h (oI s h off m) (pf s h (oI s h off) a m).1 (pf s h (oI s h off) a m).2 (hg s (oI s h off m)) := rfl
      rw [e, i1]
      exact ⟨q.1, fun f j => by rw [q.2, i2]⟩
theorem c_turn {b N fu h : Nat} {μ : Mem} {s : Sp} {off : Nat → Bool} {a : Int} (hf : 200 < fu) (hb : b + 28 < 61) (hh : h < 25) (hq : isH s h = 1 ∨ h = 24) (ha : 0 ≤ a) (ha2 : a < 4611686018427387904) (C : RC b μ s) (H : Iv N s) (h1 : μ.1 61 7 = nI (opC s off 12)) (h2 : ∀ k, k < opC s off 12 → μ.1 80 k = nI (oI s h off k)) : Ok (D_X4_payInTurn_0 fu b (nI h) (zL a) μ) (fun μ' => Fr (fun q => 62 < q ∧ q ≤ 68) μ μ' ∧ CO 62 μ' (pyF s h off a)) := by
  have oc := opC_le s off 12
  unfold D_X4_payInTurn_0
  refine Ok.b (c_clearO hf 62 μ) fun x1 p1 => ?_
  have fin : ∀ x : Mem, Fr (fun q => 62 < q ∧ q ≤ 68) μ x → CO 62 x (pf s h (oI s h off) a (opC s off 12)).2 → Ok (D_X4_payInTurn_55 fu b (zL (pf s h (oI s h off) a (opC s off 12)).1) x) (fun μ' => Fr (fun q => 62 < q ∧ q ≤ 68) μ μ' ∧ CO 62 μ' (pyF s h off a)) := fun x F B => by
    have cn : x.1 61 7 = nI (opC s off 12) := by rw [F.I (by omega)]; exact h1
    have w68 : ∀ r v, CO 62 (wL x 68 r (zL v)) (uO (pf s h (oI s h off) a (opC s off 12)).2 5 r v) := fun r v => CO_w B 5 r v (by decide)
    have ef : pyF s h off a = uO (pf s h (oI s h off) a (opC s off 12)).2 5 (rsn (opC s off 12)) ((pf s h (oI s h off) a (opC s off 12)).2 5 (rsn (opC s off 12)) + (pf s h (oI s h off) a (opC s off 12)).1) := by
      unfold pyF; rw [pf_oI s h off a (Nat.le_refl _)]
    have r3 : x.2.1 68 3 = zL _ := B.r (show 3 < 7 by decide)
    have r2 : x.2.1 68 2 = zL _ := B.r (show 2 < 7 by decide)
    rw [ef]
    by_cases q : opC s off 12 = 0
    · simp (disch := omega) only [D_X4_payInTurn_55, D_X4_payInTurn_74, li0, li1, li2, li3, li4, li5, li6, li7, li8, li9, li10, li12, li24, li31, li40, li160, n_le, n_lt, n_eq, n_m1, n_add, mr4, mr6, mr7, mr10, mr40, mr160, ml4, ml6, ml7, ml10, ml40, ml160, gu_ib, nI_nat, bi_s, vl_e, gu_t, if_true, if_false, reduceIte, bt1_1, bt1_2, bt1_3, bt1_4, bt1_5, bt1_6, bt1_7, bt1_8, bt1_9, bt1_10, bt1_11, bt1_12, bt14_1, bt14_2, bt14_3, bt14_4, bt14_5, bt14_6, bt14_7, bt14_8, bt14_9, bt14_10, bt14_11, bt14_12, cn, r3, z_add, z_sub, z_mul, z_neg]
      rw [if_pos (by omega)]
      have er : rsn (opC s off 12) = 3 := by unfold rsn; rw [if_pos q]
      rw [er]
      exact Ok.s ⟨Fr.wL F (by omega), w68 3 _⟩
    · simp (disch := omega) only [D_X4_payInTurn_55, D_X4_payInTurn_74, li0, li1, li2, li3, li4, li5, li6, li7, li8, li9, li10, li12, li24, li31, li40, li160, n_le, n_lt, n_eq, n_m1, n_add, mr4, mr6, mr7, mr10, mr40, mr160, ml4, ml6, ml7, ml10, ml40, ml160, gu_ib, nI_nat, bi_s, vl_e, gu_t, if_true, if_false, reduceIte, bt1_1, bt1_2, bt1_3, bt1_4, bt1_5, bt1_6, bt1_7, bt1_8, bt1_9, bt1_10, bt1_11, bt1_12, bt14_1, bt14_2, bt14_3, bt14_4, bt14_5, bt14_6, bt14_7, bt14_8, bt14_9, bt14_10, bt14_11, bt14_12, cn, r2, z_add, z_sub, z_mul, z_neg]
      rw [if_neg (by omega)]
      have er : rsn (opC s off 12) = 2 := by unfold rsn; rw [if_neg q]
      rw [er]
      exact Ok.s ⟨Fr.wL F (by omega), w68 2 _⟩
  refine Ok.for (fun n i x => D_X4_payInTurn_13 fu b n (nI h) (zL (pf s h (oI s h off) a i).1) (nI i) x) (opC s off 12) (fun i x => Fr (fun q => 62 < q ∧ q ≤ 68) μ x ∧ CO 62 x (pf s h (oI s h off) a i).2) ?_ ?_ fu 0 x1 (by omega) (by omega) ⟨p1.1, p1.2⟩
  · intro n i x hi P k
    have Cx : RC b x s := RC_Fr P.1 (fun q z => by omega) C
    have cn : x.1 61 7 = nI (opC s off 12) := by rw [P.1.I (by omega)]; exact h1
    have rd : x.1 80 i = nI (oI s h off i) := by rw [P.1.I (by omega)]; exact h2 i hi
    obtain ⟨b1, b2, b3, b4⟩ := oI_pf H hh off ha (k := i) (by omega)
    simp (disch := omega) only [D_X4_payInTurn_13, li0, li1, li2, li3, li4, li5, li6, li7, li8, li9, li10, li12, li24, li31, li40, li160, n_le, n_lt, n_eq, n_m1, n_add, mr4, mr6, mr7, mr10, mr40, mr160, ml4, ml6, ml7, ml10, ml40, ml160, gu_ib, nI_nat, bi_s, vl_e, gu_t, if_true, if_false, reduceIte, bt1_1, bt1_2, bt1_3, bt1_4, bt1_5, bt1_6, bt1_7, bt1_8, bt1_9, bt1_10, bt1_11, bt1_12, bt14_1, bt14_2, bt14_3, bt14_4, bt14_5, bt14_6, bt14_7, bt14_8, bt14_9, bt14_10, bt14_11, bt14_12, ll0, ll1, ll2, ll10, ll2e9, cn, rd, z_le]
    rw [if_neg (by omega)]
    by_cases q : (pf s h (oI s h off) a i).1 ≤ 0
    · rw [if_pos q]
      have q0 : (pf s h (oI s h off) a i).1 = 0 := by omega
      have st := pf_stop H hh off ha q0 (m := opC s off 12) (by omega) (Nat.le_refl _)
      have := fin x P.1 (CO_c st.2 P.2)
      rwa [st.1, ← q0] at this
    · rw [if_neg q]
      refine Ok.b (c_fill hf (by omega) hh hq ((oI_b s h off).1 i hi).1 b3 (by omega) Cx H P.2 (b2 i (Nat.le_refl _) hi)) fun r p => ?_
      rw [p.1]
      exact k _ ⟨P.1.tr p.2.2, p.2.1⟩
  · intro n x P
    have cn : x.1 61 7 = nI (opC s off 12) := by rw [P.1.I (by omega)]; exact h1
    simp (disch := omega) only [D_X4_payInTurn_13, li0, li1, li2, li3, li4, li5, li6, li7, li8, li9, li10, li12, li24, li31, li40, li160, n_le, n_lt, n_eq, n_m1, n_add, mr4, mr6, mr7, mr10, mr40, mr160, ml4, ml6, ml7, ml10, ml40, ml160, gu_ib, nI_nat, bi_s, vl_e, gu_t, if_true, if_false, reduceIte, bt1_1, bt1_2, bt1_3, bt1_4, bt1_5, bt1_6, bt1_7, bt1_8, bt1_9, bt1_10, bt1_11, bt1_12, bt14_1, bt14_2, bt14_3, bt14_4, bt14_5, bt14_6, bt14_7, bt14_8, bt14_9, bt14_10, bt14_11, bt14_12, cn]
    rw [if_pos (by omega)]
    exact fin x P.1 P.2
