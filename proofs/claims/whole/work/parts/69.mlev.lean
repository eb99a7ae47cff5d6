/-! the model: levels, tenths, an amount is spread -/
section
variable {N fu h a b c : Nat} {μ : Mem} {s : Sp}
theorem m_least {m : Mem} {p q : Int} (h1 : -9223372036854775808 ≤ p) (h2 : p < 9223372036854775808) (h3 : -9223372036854775808 ≤ q) (h4 : q < 9223372036854775808) : D_X7_least_0 m (zL p) (zL q) = some (zL (min p q)) := by
  unfold D_X7_least_0
  simp only [z_le h3 h4 h1 h2]
  rw [Int.min_def]
  by_cases c : q ≤ p
  · rw [if_pos c]
    by_cases d : p ≤ q
    · rw [if_pos d, show p = q by omega]
    · rw [if_neg d]
  · rw [if_neg c, if_pos (by omega)]
theorem m_levelled {r : Nat → Int} {L : Int} (hf : 200 < fu) (hr : ∀ y, y < 12 → μ.2.1 127 y = zL (r y) ∧ 0 ≤ r y ∧ r y ≤ 6000000000) (h0 : 0 ≤ L) (h2 : L ≤ 4000000000) : D_X7_levelled_0 fu μ (zL L) = some (zL (lev r L)) := by
  unfold D_X7_levelled_0 lev
  refine eq_for (fun n i => D_X7_levelled_5 fu μ n (zL L) (zL (sm (fun y => min L (r y)) i)) (nI i)) 12 _ ?_ ?_ fu 0 (by omega) (by omega)
  · intro n i hi
    have x := hr i hi
    simp (disch := omega) only [D_X7_levelled_5, li0, li1, li2, li3, li4, li5, li6, li7, li8, li9, li10, li12, li24, li31, li40, li160, n_le, n_lt, n_eq, n_m1, n_add, mr4, mr6, mr7, mr10, mr40, mr160, ml4, ml6, ml7, ml10, ml40, ml160, gu_ib, nI_nat, bi_s, vl_e, gu_t, if_true, if_false, reduceIte, bt1_1, bt1_2, bt1_3, bt1_4, bt1_5, bt1_6, bt1_7, bt1_8, bt1_9, bt1_10, bt1_11, bt1_12, bt14_1, bt14_2, bt14_3, bt14_4, bt14_5, bt14_6, bt14_7, bt14_8, bt14_9, bt14_10, bt14_11, bt14_12, x.1, m_least, z_add, z_sub, z_mul, z_neg]
    rw [if_neg (by omega), sm_s]
  · intro n
    simp (disch := omega) only [D_X7_levelled_5, li0, li1, li2, li3, li4, li5, li6, li7, li8, li9, li10, li12, li24, li31, li40, li160, n_le, n_lt, n_eq, n_m1, n_add, mr4, mr6, mr7, mr10, mr40, mr160, ml4, ml6, ml7, ml10, ml40, ml160, gu_ib, nI_nat, bi_s, vl_e, gu_t, if_true, if_false, reduceIte, bt1_1, bt1_2, bt1_3, bt1_4, bt1_5, bt1_6, bt1_7, bt1_8, bt1_9, bt1_10, bt1_11, bt1_12, bt14_1, bt14_2, bt14_3, bt14_4, bt14_5, bt14_6, bt14_7, bt14_8, bt14_9, bt14_10, bt14_11, bt14_12]
    rw [if_pos (by omega)]
theorem m_search {r : Nat → Int} {v : Int} {Q : Mem → Prop} (hf : 200 < fu) (hr : ∀ y, y < 12 → μ.2.1 127 y = zL (r y) ∧ 0 ≤ r y ∧ r y ≤ 6000000000) (hv : 0 ≤ v) (hv2 : v < 4611686018427387904) (kk : Ok (D_X7_byLevel_125 fu fu (nI h) (zL (lvl r v)) 0 (zL (v - lev r (lvl r v))) 0 μ) Q) :
    ∀ (m n : Nat) (lo hi : Int), m < n → 0 ≤ lo → lo ≤ hi → hi ≤ 2000000000 → hi - lo < 2 ^ m → lev r lo ≤ v → (∀ M, hi < M → M ≤ 2000000000 → v < lev r M) → Ok (D_X7_byLevel_61 fu n (nI h) (zL v) (zL lo) (zL hi) μ) Q := by
  have lb : ∀ L : Int, 0 ≤ L → 0 ≤ lev r L ∧ lev r L ≤ 72000000000 := fun L hL' => by
    have u : lev r L ≤ sm (fun _ => 6000000000) 12 := sm_le fun y hy => by have := hr y hy; omega
    rw [sm_c] at u
    exact ⟨sm_nn fun y hy => by have := hr y hy; omega, by omega⟩
  have done : ∀ (n : Nat) (lo hi : Int), 0 ≤ lo → lo = hi → hi ≤ 2000000000 → lev r lo ≤ v → (∀ M, hi < M → M ≤ 2000000000 → v < lev r M) → Ok (D_X7_byLevel_61 fu (n + 1) (nI h) (zL v) (zL lo) (zL hi) μ) Q := fun n lo hi h0 e h2 h3 h4 => by
    subst e
    have el : lvl r v = lo := lvl_e ⟨h0, h2, h3, h4⟩
    rw [el] at kk
    simp (disch := omega) only [D_X7_byLevel_61, z_le, m_levelled hf hr h0 (by omega), bi_s, z_add, z_sub, z_mul, z_neg]
    rw [if_pos (Int.le_refl _)]; exact kk
  intro m
  induction m with
  | zero =>
    intro n lo hi hn h0 h1 h2 h3 h4 h5
    cases n with
    | zero => omega
    | succ n =>
      have : (2 : Int) ^ 0 = 1 := rfl
      exact done n lo hi h0 (by omega) h2 h4 h5
  | succ m ih =>
    intro n lo hi hn h0 h1 h2 h3 h4 h5
    cases n with
    | zero => omega
    | succ n =>
      by_cases q : hi ≤ lo
      · exact done n lo hi h0 (by omega) h2 h4 h5
      · have e2 : (2 : Int) ^ (m + 1) = 2 * 2 ^ m := by rw [Int.pow_succ]; omega
        rw [e2] at h3
        have dd := z_div (a := lo + hi + 1) (b := 2) (by omega) (by omega) (by decide) (by decide)
        have l1 := lb ((lo + hi + 1) / 2) (by omega)
        simp (disch := omega) only [D_X7_byLevel_61, D_X7_byLevel_106, ll0, ll1, ll2, ll10, ll2e9, z_add, z_sub, z_mul, z_neg, z_le, dd, m_levelled (L := (lo + hi + 1) / 2) hf hr (by omega) (by omega), bi_s, z_lt]
        rw [if_neg q]
        by_cases q2 : v < lev r ((lo + hi + 1) / 2)
        · rw [if_pos q2]
          refine ih n _ _ (by omega) h0 (by omega) (by omega) (by omega) h4 fun M hM hM2 => ?_
          by_cases q3 : hi < M
          · exact h5 M q3 hM2
          · have := lev_mo r (show (lo + hi + 1) / 2 ≤ M by omega); omega
        · rw [if_neg q2]
          exact ih n _ _ (by omega) (by omega) (by omega) h2 (by omega) (by omega) h5
theorem pl_skip {N : Nat} {s : Sp} (H : Iv N s) {h : Nat} (hh : h < 25) {off : Nat → Bool} {p : Nat → Int} {y : Nat} (hy : y < 12) (Z : OZ s (pl s h off p y) y) (h0 : opn s off y = true → p y = 0) : ∀ f j, pl s h off p (y + 1) f j = pl s h off p y f j := fun f j => by
  rw [pl_s]
  by_cases q : opn s off y = true
  · rw [if_pos q, h0 q]; exact (fil_0 H hh hy Z).2 f j
  · rw [if_neg q]
theorem m_byLevel {v : Int} (hf : 200 < fu) (hh : h < 25) (hv : 0 ≤ v) (hv2 : v < 4611686018427387904) (Y : MY μ h a b c) (M : MW μ s h oc0) (H : Iv N s) : Ok (D_X7_byLevel_0 fu (nI h) (zL v) μ) (fun x => Fr (fun q => AM q ∨ q = 120 ∨ q = 127) μ x ∧ MW x s h (pyL s h (offB a b c (ru s 0)) v)) := by
  generalize eo : offB a b c (ru s 0) = off
  have o : ∀ {x : Mem} {y : Nat}, Fr (fun q => q = 120 ∨ q = 127) μ x → y < 12 → D_X7_isOff_0 fu x (nI h) (nI y) = some (off y) := fun F hy => by rw [← eo]; exact m_off hf hh hy (MY_F F (fun q z => by omega) Y) (MW_F F (fun q z => by omega) M).b H.R
  have rn : ∀ y, y < 12 → 0 ≤ rmY s h off y := fun y hy => (rmY_b H hh off hy).1
  have oc := opC_le s off 12
  unfold D_X7_byLevel_0
  refine Ok.for (fun n i x => D_X7_byLevel_3 fu n (nI h) (zL v) (nI i) x) 12 (fun i x => Fr (fun q => q = 127) μ x ∧ ∀ y, y < i → x.2.1 127 y = zL (rmY s h off y)) ?_ ?_ fu 0 μ (by omega) (by omega) ⟨Fr.rfl', fun j h => absurd h (Nat.not_lt_zero j)⟩
  · intro n i x hi P k
    have Mx : MW x s h oc0 := MW_F P.1 (fun q z => by omega) M
    have fin : ∀ w : Int, w = rmY s h off i → Ok (D_X7_byLevel_3 fu n (nI h) (zL v) (nI (i + 1)) (wL x 127 i (zL w))) (fun x => Fr (fun q => AM q ∨ q = 120 ∨ q = 127) μ x ∧ MW x s h (pyL s h off v)) := fun w e => by
      refine k _ ⟨Fr.wL P.1 rfl, fun l hl => ?_⟩
      rw [wL_s]; split
      · rename_i e2; rw [e2, e]
      · exact P.2 l (by omega)
    unfold rmY at fin
    simp (disch := omega) only [D_X7_byLevel_3, D_X7_byLevel_45, D_X7_byLevel_46, li0, li1, li2, li3, li4, li5, li6, li7, li8, li9, li10, li12, li24, li31, li40, li160, n_le, n_lt, n_eq, n_m1, n_add, mr4, mr6, mr7, mr10, mr40, mr160, ml4, ml6, ml7, ml10, ml40, ml160, gu_ib, nI_nat, bi_s, vl_e, gu_t, if_true, if_false, reduceIte, bt1_1, bt1_2, bt1_3, bt1_4, bt1_5, bt1_6, bt1_7, bt1_8, bt1_9, bt1_10, bt1_11, bt1_12, bt14_1, bt14_2, bt14_3, bt14_4, bt14_5, bt14_6, bt14_7, bt14_8, bt14_9, bt14_10, bt14_11, bt14_12, ll0, ll1, ll2, ll10, ll2e9, o (P.1.mo fun q z => Or.inr z) hi, m_gap hi Mx.a H.T, decide_eq_true_eq, m_room0 hf hh hi Mx.v H]
    rw [if_neg (by omega)]
    by_cases q : off i = true
    · rw [if_pos q]
      by_cases q2 : hg s i = 0
      · rw [if_pos q2]; exact fin 0 (by rw [if_neg (fun z => (opn_i.mp z).2 q2)])
      · rw [if_neg q2]; exact fin _ (by rw [if_pos (opn_i.mpr ⟨q, q2⟩)])
    · rw [if_neg q]; exact fin 0 (by rw [if_neg (fun z => q (opn_i.mp z).1)])
  · intro n x P
    have Mx : MW x s h oc0 := MW_F P.1 (fun q z => by omega) M
    simp (disch := omega) only [D_X7_byLevel_3, li0, li1, li2, li3, li4, li5, li6, li7, li8, li9, li10, li12, li24, li31, li40, li160, n_le, n_lt, n_eq, n_m1, n_add, mr4, mr6, mr7, mr10, mr40, mr160, ml4, ml6, ml7, ml10, ml40, ml160, gu_ib, nI_nat, bi_s, vl_e, gu_t, if_true, if_false, reduceIte, bt1_1, bt1_2, bt1_3, bt1_4, bt1_5, bt1_6, bt1_7, bt1_8, bt1_9, bt1_10, bt1_11, bt1_12, bt14_1, bt14_2, bt14_3, bt14_4, bt14_5, bt14_6, bt14_7, bt14_8, bt14_9, bt14_10, bt14_11, bt14_12, ll0, ll1, ll2, ll10, ll2e9]
    rw [if_pos (by omega)]
    have hr : ∀ y, y < 12 → x.2.1 127 y = zL (rmY s h off y) ∧ 0 ≤ rmY s h off y ∧ rmY s h off y ≤ 6000000000 := fun y hy => ⟨P.2 y hy, rmY_b H hh off hy⟩
    refine m_search hf hr hv hv2 ?_ 31 fu 0 2000000000 (by omega) (by decide) (by decide) (by decide) (by decide) (by rw [lev_0 rn]; exact hv) (fun M h1 h2 => by omega)
    have V := lvl_b (r := rmY s h off) rn hv
    generalize hL' : lvl (rmY s h off) v = L at V ⊢
    generalize hR : v - lev (rmY s h off) L = R
    have R0 : 0 ≤ R := by have := V.2.2.1; omega
    have Ra : R ≤ v := by
      have : 0 ≤ lev (rmY s h off) L := sm_nn fun y hy => by have := rn y hy; have := V.1; omega
      omega
    have L2 := V.2.1
    have L0 := V.1
    have eP : pyL s h off v = uO (pl s h off (prt (rmY s h off) L R) 12) 5 (rsn (opC s off 12)) (max (R - mor (rmY s h off) L 12) 0) := by unfold pyL; rw [hL', hR]
    have prb : ∀ y, y < 12 → 0 ≤ prt (rmY s h off) L R y ∧ prt (rmY s h off) L R y ≤ 6000000000 := fun y hy => by
      have := prt_b (r := rmY s h off) (rest := R) V.1 (rn y hy)
      have := rmY_b H hh off hy
      omega
    rw [eP]
    have m0 : R = max (R - mor (rmY s h off) L 0) 0 := by
      have : mor (rmY s h off) L 0 = 0 := rfl
      omega
    refine Ok.for (fun n i y => D_X7_byLevel_125 fu n (nI h) (zL L) (nI (opC s off i)) (zL (max (R - mor (rmY s h off) L i) 0)) (nI i) y) 12 (fun i y => Fr (fun q => q = 120) x y ∧ ∀ j, j < i → y.2.1 120 j = zL (if opn s off j = true then prt (rmY s h off) L R j else 0)) ?_ ?_ fu 0 x (by omega) (by omega) ⟨Fr.rfl', fun j h => absurd h (Nat.not_lt_zero j)⟩ |>.e (congrArg (fun w => D_X7_byLevel_125 fu fu (nI h) (zL L) (nI 0) w (nI 0) x) (congrArg zL m0))
    · intro n i y hi Q k
      have My : MW y s h oc0 := MW_F Q.1 (fun q z => by omega) Mx
      have Fy : Fr (fun q => q = 120 ∨ q = 127) μ (wL y 120 i (zL 0)) := Fr.wL (Fr.tr (P.1.mo fun q z => Or.inr z) (Q.1.mo fun q z => Or.inl z)) (Or.inl rfl)
      have MA : RMa (wL y 120 i (zL 0)) s.1 := RMa_frm (fun _ _ => rfl) rfl My.a
      have rb := rmY_b H hh off hi
      have mb := mor_b (rmY s h off) L i
      have oi := opC_le s off i
      have r127 : y.2.1 127 i = zL (rmY s h off i) := by rw [Q.1.L (by omega)]; exact P.2 i hi
      have ms := mor_s (rmY s h off) L i
      have os := opC_s s off i
      have fin : ∀ (w : Mem) (u : Int), Fr (fun q => q = 120) y w → (∀ j, j ≠ i → w.2.1 120 j = y.2.1 120 j) → w.2.1 120 i = zL u → u = (if opn s off i = true then prt (rmY s h off) L R i else 0) → Ok (D_X7_byLevel_125 fu n (nI h) (zL L) (nI (opC s off (i + 1))) (zL (max (R - mor (rmY s h off) L (i + 1)) 0)) (nI (i + 1)) w) (fun x => Fr (fun q => AM q ∨ q = 120 ∨ q = 127) μ x ∧ MW x s h (uO (pl s h off (prt (rmY s h off) L R) 12) 5 (rsn (opC s off 12)) (max (R - mor (rmY s h off) L 12) 0))) := fun w u F h1 h2 h3 => by
        refine k _ ⟨Q.1.tr F, fun j hj => ?_⟩
        by_cases e : j = i
        · rw [e, h2, h3]
        · rw [h1 j e]; exact Q.2 j (by omega)
      have nopen : opn s off i ≠ true → Ok (D_X7_byLevel_125 fu n (nI h) (zL L) (nI (opC s off i)) (zL (max (R - mor (rmY s h off) L i) 0)) (nI (i + 1)) (wL y 120 i (zL 0))) (fun x => Fr (fun q => AM q ∨ q = 120 ∨ q = 127) μ x ∧ MW x s h (uO (pl s h off (prt (rmY s h off) L R) 12) 5 (rsn (opC s off 12)) (max (R - mor (rmY s h off) L 12) 0))) := fun z => by
        have := fin (wL y 120 i (zL 0)) 0 (Fr.wL Fr.rfl' rfl) (fun j hj => by rw [wL_s, if_neg hj]) wL_e (by rw [if_neg z])
        rw [os, if_neg z, Nat.add_zero, ms, if_neg (by unfold rmY; rw [if_neg z]; omega), Int.add_zero] at this
        exact this
      simp (disch := omega) only [D_X7_byLevel_125, D_X7_byLevel_224, li0, li1, li2, li3, li4, li5, li6, li7, li8, li9, li10, li12, li24, li31, li40, li160, n_le, n_lt, n_eq, n_m1, n_add, mr4, mr6, mr7, mr10, mr40, mr160, ml4, ml6, ml7, ml10, ml40, ml160, gu_ib, nI_nat, bi_s, vl_e, gu_t, if_true, if_false, reduceIte, bt1_1, bt1_2, bt1_3, bt1_4, bt1_5, bt1_6, bt1_7, bt1_8, bt1_9, bt1_10, bt1_11, bt1_12, bt14_1, bt14_2, bt14_3, bt14_4, bt14_5, bt14_6, bt14_7, bt14_8, bt14_9, bt14_10, bt14_11, bt14_12, ll0, ll1, ll2, ll10, ll2e9, o Fy hi, m_gap hi MA H.T, decide_eq_true_eq, wL_n, r127, m_least, wL_e, z_eq, z_lt, z_add, z_sub, z_mul, z_neg]
      rw [if_neg (by omega)]
      by_cases q : off i = true
      · rw [if_pos q]
        by_cases q2 : hg s i = 0
        · rw [if_pos q2]; exact nopen (fun z => (opn_i.mp z).2 q2)
        · rw [if_neg q2]
          have on := opn_i.mpr ⟨q, q2⟩
          have FW : ∀ u : Int64, Fr (fun q => q = 120) y (wL (wL y 120 i (zL 0)) 120 i u) := fun u => Fr.wL (A := fun q => q = 120) (Fr.wL (A := fun q => q = 120) Fr.rfl' rfl) rfl
          have FO : ∀ (u : Int64) (j : Nat), j ≠ i → (wL (wL y 120 i (zL 0)) 120 i u).2.1 120 j = y.2.1 120 j := fun u j hj => by rw [wL_s, if_neg hj, wL_s, if_neg hj]
          by_cases q3 : max (R - mor (rmY s h off) L i) 0 = 0
          · rw [if_pos q3]
            have := fin _ (min L (rmY s h off i)) (FW _) (FO _) wL_e (by rw [if_pos on]; unfold prt; rw [if_neg (by omega), Int.add_zero])
            rw [os, if_pos on, show max (R - mor (rmY s h off) L (i + 1)) 0 = max (R - mor (rmY s h off) L i) 0 by rw [ms]; split <;> omega] at this
            exact this
          · rw [if_neg q3]
            by_cases q4 : L < rmY s h off i
            · rw [if_pos q4]
              have := fin (wL (wL (wL y 120 i (zL 0)) 120 i (zL (min L (rmY s h off i)))) 120 i (zL (min L (rmY s h off i) + 1))) _ (Fr.wL (FW _) rfl) (fun j hj => by rw [wL_s, if_neg hj]; exact FO _ j hj) wL_e (by rw [if_pos on]; unfold prt; rw [if_pos (by omega)])
              rw [os, if_pos on, ms, if_pos q4, show max (R - (mor (rmY s h off) L i + 1)) 0 = max (R - mor (rmY s h off) L i) 0 - 1 by omega] at this
              exact this
            · rw [if_neg q4]
              have := fin _ (min L (rmY s h off i)) (FW _) (FO _) wL_e (by rw [if_pos on]; unfold prt; rw [if_neg (by omega), Int.add_zero])
              rw [os, if_pos on, ms, if_neg q4, Int.add_zero] at this
              exact this
      · rw [if_neg q]; exact nopen (fun z => q (opn_i.mp z).1)
    · intro n y Q
      have My : MW y s h oc0 := MW_F Q.1 (fun q z => by omega) Mx
      have mb12 := mor_b (rmY s h off) L 12
      simp (disch := omega) only [D_X7_byLevel_125, li0, li1, li2, li3, li4, li5, li6, li7, li8, li9, li10, li12, li24, li31, li40, li160, n_le, n_lt, n_eq, n_m1, n_add, mr4, mr6, mr7, mr10, mr40, mr160, ml4, ml6, ml7, ml10, ml40, ml160, gu_ib, nI_nat, bi_s, vl_e, gu_t, if_true, if_false, reduceIte, bt1_1, bt1_2, bt1_3, bt1_4, bt1_5, bt1_6, bt1_7, bt1_8, bt1_9, bt1_10, bt1_11, bt1_12, bt14_1, bt14_2, bt14_3, bt14_4, bt14_5, bt14_6, bt14_7, bt14_8, bt14_9, bt14_10, bt14_11, bt14_12]
      rw [if_pos (by omega)]
      have F0 : Fr (fun q => AM q ∨ q = 120 ∨ q = 127) μ y := Fr.tr (P.1.mo fun q z => Or.inr (Or.inr z)) (Q.1.mo fun q z => Or.inr (Or.inl z))
      refine Ok.for (fun n i w => D_X7_byLevel_233 fu n (nI h) (nI (opC s off 12)) (zL (max (R - mor (rmY s h off) L 12) 0)) (nI i) w) 12 (fun i w => Fr AM y w ∧ MW w s h (pl s h off (prt (rmY s h off) L R) i)) ?_ ?_ fu 0 y (by omega) (by omega) ⟨Fr.rfl', My⟩
      · intro n i w hi T k
        have r : w.2.1 120 i = zL (if opn s off i = true then prt (rmY s h off) L R i else 0) := by rw [T.1.L (by unfold AM; omega)]; exact Q.2 i hi
        have pb := prb i hi
        have oz := (pl_b H hh (off := off) (p := prt (rmY s h off) L R) (fun y hy _ => (prb y hy).1) (y := i) (by omega)).2 _ (Nat.le_refl _) hi
        by_cases on : opn s off i = true
        · rw [if_pos on] at r
          simp (disch := omega) only [D_X7_byLevel_233, D_X7_byLevel_267, li0, li1, li2, li3, li4, li5, li6, li7, li8, li9, li10, li12, li24, li31, li40, li160, n_le, n_lt, n_eq, n_m1, n_add, mr4, mr6, mr7, mr10, mr40, mr160, ml4, ml6, ml7, ml10, ml40, ml160, gu_ib, nI_nat, bi_s, vl_e, gu_t, if_true, if_false, reduceIte, bt1_1, bt1_2, bt1_3, bt1_4, bt1_5, bt1_6, bt1_7, bt1_8, bt1_9, bt1_10, bt1_11, bt1_12, bt14_1, bt14_2, bt14_3, bt14_4, bt14_5, bt14_6, bt14_7, bt14_8, bt14_9, bt14_10, bt14_11, bt14_12, ll0, ll1, ll2, ll10, ll2e9, r, z_le]
          rw [if_neg (by omega)]
          by_cases q : prt (rmY s h off) L R i ≤ 0
          · rw [if_pos q]
            exact k _ ⟨T.1, MW_c (pl_skip H hh hi oz (fun _ => by omega)) T.2⟩
          · rw [if_neg q]
            refine Ok.b (m_fills hf hh hi pb.1 (by omega) T.2 H oz) fun r' p => ?_
            refine k _ ⟨T.1.tr p.2.2, ?_⟩
            rw [pl_s, if_pos on]; exact p.2.1
        · rw [if_neg on] at r
          simp (disch := omega) only [D_X7_byLevel_233, D_X7_byLevel_267, li0, li1, li2, li3, li4, li5, li6, li7, li8, li9, li10, li12, li24, li31, li40, li160, n_le, n_lt, n_eq, n_m1, n_add, mr4, mr6, mr7, mr10, mr40, mr160, ml4, ml6, ml7, ml10, ml40, ml160, gu_ib, nI_nat, bi_s, vl_e, gu_t, if_true, if_false, reduceIte, bt1_1, bt1_2, bt1_3, bt1_4, bt1_5, bt1_6, bt1_7, bt1_8, bt1_9, bt1_10, bt1_11, bt1_12, bt14_1, bt14_2, bt14_3, bt14_4, bt14_5, bt14_6, bt14_7, bt14_8, bt14_9, bt14_10, bt14_11, bt14_12, ll0, ll1, ll2, ll10, ll2e9, r, z_le]
          rw [if_neg (by omega), if_pos (Int.le_refl _)]
          exact k _ ⟨T.1, MW_c (pl_skip H hh hi oz (fun z => absurd z on)) T.2⟩
      · intro n w T
        have e3 := T.2.z.fl hh (show 3 < 7 by decide)
        have e2 := T.2.z.fl hh (show 2 < 7 by decide)
        rw [pl_5 s h off _ (by decide), Int.add_zero] at e2 e3
        have wr : ∀ r, r < 7 → MW (wL w 110 (7 * h + r) (zL (fl s (7 * h + r) + max (R - mor (rmY s h off) L 12) 0))) s h (uO (pl s h off (prt (rmY s h off) L R) 12) 5 r (max (R - mor (rmY s h off) L 12) 0)) := fun r hr => by
          refine ⟨RMa_frm (fun _ _ => rfl) rfl T.2.a, RMb_frm (fun _ _ => rfl) (fun _ _ _ => rfl) T.2.b, MZ_5 hr T.2.z, fun l hl => ?_⟩
          rw [uO_d _ _ (by decide), wL_n (by decide)]; exact T.2.t hl
        by_cases q : opC s off 12 = 0
        · have er : rsn (opC s off 12) = 3 := by unfold rsn; rw [if_pos q]
          simp (disch := omega) only [D_X7_byLevel_233, D_X7_byLevel_291, li0, li1, li2, li3, li4, li5, li6, li7, li8, li9, li10, li12, li24, li31, li40, li160, n_le, n_lt, n_eq, n_m1, n_add, mr4, mr6, mr7, mr10, mr40, mr160, ml4, ml6, ml7, ml10, ml40, ml160, gu_ib, nI_nat, bi_s, vl_e, gu_t, if_true, if_false, reduceIte, bt1_1, bt1_2, bt1_3, bt1_4, bt1_5, bt1_6, bt1_7, bt1_8, bt1_9, bt1_10, bt1_11, bt1_12, bt14_1, bt14_2, bt14_3, bt14_4, bt14_5, bt14_6, bt14_7, bt14_8, bt14_9, bt14_10, bt14_11, bt14_12, e3, z_add, z_sub, z_mul, z_neg]
          rw [if_pos (by omega), if_pos q, er]
          exact Ok.s ⟨Fr.wL (F0.tr (T.1.mo fun q z => Or.inl z)) (by unfold AM; omega), wr 3 (by decide)⟩
        · have er : rsn (opC s off 12) = 2 := by unfold rsn; rw [if_neg q]
          simp (disch := omega) only [D_X7_byLevel_233, D_X7_byLevel_291, li0, li1, li2, li3, li4, li5, li6, li7, li8, li9, li10, li12, li24, li31, li40, li160, n_le, n_lt, n_eq, n_m1, n_add, mr4, mr6, mr7, mr10, mr40, mr160, ml4, ml6, ml7, ml10, ml40, ml160, gu_ib, nI_nat, bi_s, vl_e, gu_t, if_true, if_false, reduceIte, bt1_1, bt1_2, bt1_3, bt1_4, bt1_5, bt1_6, bt1_7, bt1_8, bt1_9, bt1_10, bt1_11, bt1_12, bt14_1, bt14_2, bt14_3, bt14_4, bt14_5, bt14_6, bt14_7, bt14_8, bt14_9, bt14_10, bt14_11, bt14_12, e2, z_add, z_sub, z_mul, z_neg]
          rw [if_pos (by omega), if_neg q, er]
          exact Ok.s ⟨Fr.wL (F0.tr (T.1.mo fun q z => Or.inl z)) (by unfold AM; omega), wr 2 (by decide)⟩
end
