/-! the model: weights, by shares, to the full -/
/-- the same, with nothing said of what is laid aside -/
def MV (x : Mem) (s : Sp) (h : Nat) (O : Oc) : Prop := RMa x s.1 ∧ RMb x s.1 ∧ MZ x s h O
theorem MV.a {x : Mem} {s : Sp} {h : Nat} {O : Oc} (W : MV x s h O) : RMa x s.1 := W.1
theorem MV.b {x : Mem} {s : Sp} {h : Nat} {O : Oc} (W : MV x s h O) : RMb x s.1 := W.2.1
theorem MV.z {x : Mem} {s : Sp} {h : Nat} {O : Oc} (W : MV x s h O) : MZ x s h O := W.2.2
theorem MW.v {x : Mem} {s : Sp} {h : Nat} {O : Oc} (W : MW x s h O) : MV x s h O := ⟨W.1, W.2.1, W.2.2.1⟩
section
variable {N fu h a b c : Nat} {μ : Mem} {s : Sp}
theorem m_like (hf : 200 < fu) (hh : h < 25) (Y : MY μ h a b c) (A : RMa μ s.1) (B : RMb μ s.1) (H : Iv N s) : Ok (D_X7_laysLike_0 fu (nI h) μ) (fun x => Fr (fun q => q = 116) μ x ∧ ∀ y, y < 12 → x.2.1 116 y = zL (wA s (offB a b c (ru s 0)) y)) := by
  unfold D_X7_laysLike_0
  refine Ok.for (fun n i x => D_X7_laysLike_2 fu n (nI h) (nI i) x) 12 (fun i x => Fr (fun q => q = 116) μ x ∧ ∀ y, y < i → x.2.1 116 y = zL (wA s (offB a b c (ru s 0)) y)) ?_ ?_ fu 0 μ (by omega) (by omega) ⟨Fr.rfl', fun j h => absurd h (Nat.not_lt_zero j)⟩
  · intro n i x hi P k
    have Yx := MY_F P.1 (fun q z => by omega) Y
    have Ax := RMa_F P.1 (fun q z => by omega) A
    have Bx := RMb_F P.1 (fun q z => by omega) B
    have fin : ∀ v : Int, v = wA s (offB a b c (ru s 0)) i → Ok (D_X7_laysLike_2 fu n (nI h) (nI (i + 1)) (wL x 116 i (zL v))) (fun x => Fr (fun q => q = 116) μ x ∧ ∀ y, y < 12 → x.2.1 116 y = zL (wA s (offB a b c (ru s 0)) y)) := fun v e => by
      refine k _ ⟨Fr.wL P.1 rfl, fun j hj => ?_⟩
      rw [wL_s]
      by_cases ej : j = i
      · rw [if_pos ej, ej, e]
      · rw [if_neg ej]; exact P.2 j (by omega)
    simp (disch := omega) only [D_X7_laysLike_2, D_X7_laysLike_34, D_X7_laysLike_35, li0, li1, li2, li3, li4, li5, li6, li7, li8, li9, li10, li12, li24, li31, li40, li160, n_le, n_lt, n_eq, n_m1, n_add, mr4, mr6, mr7, mr10, mr40, mr160, ml4, ml6, ml7, ml10, ml40, ml160, gu_ib, nI_nat, bi_s, vl_e, gu_t, if_true, if_false, reduceIte, bt1_1, bt1_2, bt1_3, bt1_4, bt1_5, bt1_6, bt1_7, bt1_8, bt1_9, bt1_10, bt1_11, bt1_12, bt14_1, bt14_2, bt14_3, bt14_4, bt14_5, bt14_6, bt14_7, bt14_8, bt14_9, bt14_10, bt14_11, bt14_12, ll0, ll1, ll2, ll10, ll2e9, m_off hf hh hi Yx Bx H.R, m_lacking hi Ax H.T]
    rw [if_neg (by omega)]
    unfold wA at fin
    cases e1 : offB a b c (ru s 0) i
    · rw [if_neg (by decide)]; exact fin 0 (by rw [e1]; rfl)
    · rw [if_pos rfl]
      cases e2 : lkb s i
      · rw [if_neg (by decide)]; exact fin 1 (by rw [e1, e2]; rfl)
      · rw [if_pos rfl]; exact fin 0 (by rw [e1, e2]; rfl)
  · intro n x P
    simp (disch := omega) only [D_X7_laysLike_2, li0, li1, li2, li3, li4, li5, li6, li7, li8, li9, li10, li12, li24, li31, li40, li160, n_le, n_lt, n_eq, n_m1, n_add, mr4, mr6, mr7, mr10, mr40, mr160, ml4, ml6, ml7, ml10, ml40, ml160, gu_ib, nI_nat, bi_s, vl_e, gu_t, if_true, if_false, reduceIte, bt1_1, bt1_2, bt1_3, bt1_4, bt1_5, bt1_6, bt1_7, bt1_8, bt1_9, bt1_10, bt1_11, bt1_12, bt14_1, bt14_2, bt14_3, bt14_4, bt14_5, bt14_6, bt14_7, bt14_8, bt14_9, bt14_10, bt14_11, bt14_12]
    rw [if_pos (by omega)]
    exact Ok.s P
theorem m_sizesW (hf : 200 < fu) (hh : h < 25) (Y : MY μ h a b c) (A : RMa μ s.1) (B : RMb μ s.1) (H : Iv N s) : Ok (D_X7_laysSizes_0 fu (nI h) μ) (fun x => Fr (fun q => q = 116) μ x ∧ ∀ y, y < 12 → x.2.1 116 y = zL (wS s (offB a b c (ru s 0)) y)) := by
  generalize eo : offB a b c (ru s 0) = off
  have oc := opC_le s off 12
  have zt := szT_b H.T off (n := 12) (Nat.le_refl _)
  unfold D_X7_laysSizes_0
  refine Ok.for (fun n i (_ : Unit) => D_X7_laysSizes_8 fu n (nI h) (zL (szT s off i)) (nI (opC s off i)) (nI i) μ) 12 (fun _ _ => True) ?_ ?_ fu 0 () (by omega) (by omega) trivial
  · intro n i _ hi _ k
    have oi := opC_le s off i
    have kk := k () trivial
    have es : szT s off (i + 1) = szT s off i + (if opn s off i then szS s i else 0) := rfl
    rw [es, opC_s] at kk
    have o := m_off hf hh hi Y B H.R
    rw [eo] at o
    simp (disch := omega) only [D_X7_laysSizes_8, D_X7_laysSizes_38, D_X7_laysSizes_39, D_X7_laysSizes_53, D_X7_laysSizes_72, li0, li1, li2, li3, li4, li5, li6, li7, li8, li9, li10, li12, li24, li31, li40, li160, n_le, n_lt, n_eq, n_m1, n_add, mr4, mr6, mr7, mr10, mr40, mr160, ml4, ml6, ml7, ml10, ml40, ml160, gu_ib, nI_nat, bi_s, vl_e, gu_t, if_true, if_false, reduceIte, bt1_1, bt1_2, bt1_3, bt1_4, bt1_5, bt1_6, bt1_7, bt1_8, bt1_9, bt1_10, bt1_11, bt1_12, bt14_1, bt14_2, bt14_3, bt14_4, bt14_5, bt14_6, bt14_7, bt14_8, bt14_9, bt14_10, bt14_11, bt14_12, o, m_gap hi A H.T, decide_eq_true_eq, m_sizes hf hi A H.T]
    rw [if_neg (by omega)]
    by_cases q : off i = true
    · rw [if_pos q]
      by_cases q2 : hg s i = 0
      · have no : ¬ opn s off i = true := fun z => (opn_i.mp z).2 q2
        rw [if_neg no, if_neg no] at kk
        rw [if_pos q2]
        simpa only [ll0, ll1, ll2, ll10, ll2e9, z_add] using kk
      · have on := opn_i.mpr ⟨q, q2⟩
        rw [if_pos on, if_pos on] at kk
        rw [if_neg q2, if_neg (by decide), if_neg (by decide), z_add]; exact kk
    · have no : ¬ opn s off i = true := fun z => q (opn_i.mp z).1
      rw [if_neg no, if_neg no] at kk
      rw [if_neg q]
      simpa only [ll0, ll1, ll2, ll10, ll2e9, z_add] using kk
  · intro n _ _
    simp (disch := omega) only [D_X7_laysSizes_8, li0, li1, li2, li3, li4, li5, li6, li7, li8, li9, li10, li12, li24, li31, li40, li160, n_le, n_lt, n_eq, n_m1, n_add, mr4, mr6, mr7, mr10, mr40, mr160, ml4, ml6, ml7, ml10, ml40, ml160, gu_ib, nI_nat, bi_s, vl_e, gu_t, if_true, if_false, reduceIte, bt1_1, bt1_2, bt1_3, bt1_4, bt1_5, bt1_6, bt1_7, bt1_8, bt1_9, bt1_10, bt1_11, bt1_12, bt14_1, bt14_2, bt14_3, bt14_4, bt14_5, bt14_6, bt14_7, bt14_8, bt14_9, bt14_10, bt14_11, bt14_12]
    rw [if_pos (by omega)]
    refine Ok.for (fun n i x => D_X7_laysSizes_83 fu n (nI h) (zL (szT s off 12)) (nI (opC s off 12)) (nI i) x) 12 (fun i x => Fr (fun q => q = 116) μ x ∧ ∀ y, y < i → x.2.1 116 y = zL (wS s off y)) ?_ ?_ fu 0 μ (by omega) (by omega) ⟨Fr.rfl', fun j h => absurd h (Nat.not_lt_zero j)⟩
    · intro n i x hi P k
      have Yx := MY_F P.1 (fun q z => by omega) Y
      have Ax := RMa_F P.1 (fun q z => by omega) A
      have Bx := RMb_F P.1 (fun q z => by omega) B
      have o := m_off hf hh hi Yx Bx H.R
      rw [eo] at o
      have fin : ∀ v : Int, v = wS s off i → Ok (D_X7_laysSizes_83 fu n (nI h) (zL (szT s off 12)) (nI (opC s off 12)) (nI (i + 1)) (wL x 116 i (zL v))) (fun x => Fr (fun q => q = 116) μ x ∧ ∀ y, y < 12 → x.2.1 116 y = zL (wS s off y)) := fun v e => by
        refine k _ ⟨Fr.wL P.1 rfl, fun j hj => ?_⟩
        rw [wL_s]
        by_cases ej : j = i
        · rw [if_pos ej, ej, e]
        · rw [if_neg ej]; exact P.2 j (by omega)
      unfold wS at fin
      by_cases qc : opC s off 12 = 0
      · simp (disch := omega) only [D_X7_laysSizes_83, D_X7_laysSizes_115, D_X7_laysSizes_151, li0, li1, li2, li3, li4, li5, li6, li7, li8, li9, li10, li12, li24, li31, li40, li160, n_le, n_lt, n_eq, n_m1, n_add, mr4, mr6, mr7, mr10, mr40, mr160, ml4, ml6, ml7, ml10, ml40, ml160, gu_ib, nI_nat, bi_s, vl_e, gu_t, if_true, if_false, reduceIte, bt1_1, bt1_2, bt1_3, bt1_4, bt1_5, bt1_6, bt1_7, bt1_8, bt1_9, bt1_10, bt1_11, bt1_12, bt14_1, bt14_2, bt14_3, bt14_4, bt14_5, bt14_6, bt14_7, bt14_8, bt14_9, bt14_10, bt14_11, bt14_12, ll0, ll1, ll2, ll10, ll2e9, o, m_lacking hi Ax H.T, m_gap hi Ax H.T, m_sizes hf hi Ax H.T, decide_eq_true_eq, qc]
        rw [if_neg (by omega)]
        cases e1 : off i
        · rw [if_neg (by decide)]; exact qc ▸ fin 0 (by rw [e1]; rfl)
        · rw [if_pos rfl]
          cases e2 : lkb s i
          · rw [if_neg (by decide)]; exact qc ▸ fin 1 (by rw [e1, e2, if_pos ⟨rfl, rfl⟩, if_pos qc])
          · rw [if_pos rfl]; exact qc ▸ fin 0 (by rw [e1, e2]; rfl)
      · have g0 : ¬ (nI (opC s off 12)).toInt64 = 0 := by
          rw [n_L (by omega), ll0, z_eq (by omega) (by omega) (by omega) (by omega)]; omega
        have dd := z_div zt.1 (show szT s off 12 < 9223372036854775808 by omega) (show (0 : Int) < (opC s off 12 : Int) by omega) (by omega)
        simp (disch := omega) only [D_X7_laysSizes_83, D_X7_laysSizes_115, D_X7_laysSizes_151, ↓gu_dd g0, li0, li1, li2, li3, li4, li5, li6, li7, li8, li9, li10, li12, li24, li31, li40, li160, n_le, n_lt, n_eq, n_m1, n_add, mr4, mr6, mr7, mr10, mr40, mr160, ml4, ml6, ml7, ml10, ml40, ml160, gu_ib, nI_nat, bi_s, vl_e, gu_t, if_true, if_false, reduceIte, bt1_1, bt1_2, bt1_3, bt1_4, bt1_5, bt1_6, bt1_7, bt1_8, bt1_9, bt1_10, bt1_11, bt1_12, bt14_1, bt14_2, bt14_3, bt14_4, bt14_5, bt14_6, bt14_7, bt14_8, bt14_9, bt14_10, bt14_11, bt14_12, ll0, n_L, dd, o, m_lacking hi Ax H.T, m_gap hi Ax H.T, m_sizes hf hi Ax H.T, decide_eq_true_eq]
        rw [if_neg (by omega)]
        cases e1 : off i
        · rw [if_neg (by decide)]; exact fin 0 (by rw [e1]; rfl)
        · rw [if_pos rfl]
          cases e2 : lkb s i
          · rw [if_neg (by decide), if_neg qc]
            by_cases q3 : hg s i = 0
            · rw [if_pos q3]; exact fin _ (by rw [e1, e2, if_pos ⟨rfl, rfl⟩, if_neg qc, if_pos q3])
            · rw [if_neg q3]; exact fin _ (by rw [e1, e2, if_pos ⟨rfl, rfl⟩, if_neg qc, if_neg q3])
          · rw [if_pos rfl]; exact fin 0 (by rw [e1, e2]; rfl)
    · intro n x P
      simp (disch := omega) only [D_X7_laysSizes_83, li0, li1, li2, li3, li4, li5, li6, li7, li8, li9, li10, li12, li24, li31, li40, li160, n_le, n_lt, n_eq, n_m1, n_add, mr4, mr6, mr7, mr10, mr40, mr160, ml4, ml6, ml7, ml10, ml40, ml160, gu_ib, nI_nat, bi_s, vl_e, gu_t, if_true, if_false, reduceIte, bt1_1, bt1_2, bt1_3, bt1_4, bt1_5, bt1_6, bt1_7, bt1_8, bt1_9, bt1_10, bt1_11, bt1_12, bt14_1, bt14_2, bt14_3, bt14_4, bt14_5, bt14_6, bt14_7, bt14_8, bt14_9, bt14_10, bt14_11, bt14_12]
      rw [if_pos (by omega)]
      exact Ok.s P
theorem pw_s (s : Sp) (h : Nat) (p : Nat → Int) (y : Nat) : pw s h p (y + 1) = if hg s y = 0 then uO (pw s h p y) 5 3 (pw s h p y 5 3 + p y) else uO (fil s h y (p y) (pw s h p y) (hg s y)).2 5 2 ((pw s h p y) 5 2 + (fil s h y (p y) (pw s h p y) (hg s y)).1) := rfl
theorem pw_skip {N : Nat} {s : Sp} (H : Iv N s) {h : Nat} (hh : h < 25) {p : Nat → Int} {y : Nat} (hy : y < 12) (Z : OZ s (pw s h p y) y) (h0 : p y = 0) : ∀ f j, pw s h p (y + 1) f j = pw s h p y f j := fun f j => by
  rw [pw_s]
  by_cases q : hg s y = 0
  · rw [if_pos q, h0, uO_1]
    split
    · rename_i z; rw [z.1, z.2]; omega
    · rfl
  · have e := fil_0 H hh hy Z
    rw [if_neg q, h0, uO_1]
    split
    · rename_i z; rw [z.1, z.2, e.1]; omega
    · exact e.2 f j
theorem m_byShares {a : Int} {W : Int} {w : Nat → Int} (hf : 200 < fu) (hh : h < 25) (ha : 0 ≤ a) (ha2 : a < 4611686018427387904) (M : MW μ s h oc0) (H : Iv N s) (B : WB 12 w W) (hw : ∀ y, y < 12 → μ.2.1 116 y = zL (w y)) : Ok (D_X7_byShares_0 fu (nI h) (zL a) μ) (fun x => Fr (fun q => AM q ∨ q = 117 ∨ q = 120) μ x ∧ MW x s h (pyW s h a w)) := by
  have wn : ∀ y, y < 12 → 0 ≤ w y := fun y hy => (B.1 y hy).1
  have Sn := sm_nn wn
  have Sb := B.2.2
  unfold D_X7_byShares_0
  rw [show D_X7_weightSum_0 fu μ 12 = some (zL (sm w 12)) from m_wsum (n := 12) hf (by decide) hw, bi_s]
  by_cases q : sm w 12 = 0
  · rw [if_pos (by rw [ll0, q])]
    have ef := M.z.fl hh (show 3 < 7 by decide)
    simp (disch := omega) only [li0, li1, li2, li3, li4, li5, li6, li7, li8, li9, li10, li12, li24, li31, li40, li160, n_le, n_lt, n_eq, n_m1, n_add, mr4, mr6, mr7, mr10, mr40, mr160, ml4, ml6, ml7, ml10, ml40, ml160, gu_ib, nI_nat, bi_s, vl_e, gu_t, if_true, if_false, reduceIte, bt1_1, bt1_2, bt1_3, bt1_4, bt1_5, bt1_6, bt1_7, bt1_8, bt1_9, bt1_10, bt1_11, bt1_12, bt14_1, bt14_2, bt14_3, bt14_4, bt14_5, bt14_6, bt14_7, bt14_8, bt14_9, bt14_10, bt14_11, bt14_12, ef, z_add, z_sub, z_mul, z_neg]
    refine Ok.s ⟨Fr.wL Fr.rfl' (by unfold AM; omega), RMa_frm (fun _ _ => rfl) rfl M.a, RMb_frm (fun _ _ => rfl) (fun _ _ _ => rfl) M.b, ?_, fun l hl => ?_⟩
    · unfold pyW
      rw [if_pos (by omega), show fl s (7 * h + 3) + oc0 5 3 + a = fl s (7 * h + 3) + a by show _ + (0 : Int) + a = _; omega]
      exact MZ_5 (by decide) M.z
    · unfold pyW
      rw [if_pos (by omega), uO_d _ _ (by decide), wL_n (by decide)]; exact M.t hl
  · rw [if_neg (by rw [ll0, z_eq (by omega) (by omega) (by omega) (by omega)]; exact q)]
    refine Ok.b (m_share (n := 12) hf (by decide) B (by omega) ha ha2 hw) fun x1 p1 => ?_
    have M1 : MW x1 s h oc0 := MW_F p1.1 (fun q z => by omega) M
    have pn : ∀ y, y < 12 → 0 ≤ shF 12 a w y := fun y hy => sh_nn (wn y hy) ha
    have pa : ∀ y, y < 12 → shF 12 a w y ≤ a := fun y hy => sh_le wn hy ha
    refine Ok.for (fun n i x => D_X7_byShares_37 fu n (nI h) (nI i) x) 12 (fun i x => Fr (fun q => q = 120) x1 x ∧ ∀ y, y < i → x.2.1 120 y = zL (shF 12 a w y)) ?_ ?_ fu 0 x1 (by omega) (by omega) ⟨Fr.rfl', fun j h => absurd h (Nat.not_lt_zero j)⟩
    · intro n i x hi P k
      have r : x.2.1 117 i = zL (shF 12 a w i) := by rw [P.1.L (by omega)]; exact p1.2 i hi
      simp (disch := omega) only [D_X7_byShares_37, li0, li1, li2, li3, li4, li5, li6, li7, li8, li9, li10, li12, li24, li31, li40, li160, n_le, n_lt, n_eq, n_m1, n_add, mr4, mr6, mr7, mr10, mr40, mr160, ml4, ml6, ml7, ml10, ml40, ml160, gu_ib, nI_nat, bi_s, vl_e, gu_t, if_true, if_false, reduceIte, bt1_1, bt1_2, bt1_3, bt1_4, bt1_5, bt1_6, bt1_7, bt1_8, bt1_9, bt1_10, bt1_11, bt1_12, bt14_1, bt14_2, bt14_3, bt14_4, bt14_5, bt14_6, bt14_7, bt14_8, bt14_9, bt14_10, bt14_11, bt14_12, r]
      rw [if_neg (by omega)]
      refine k _ ⟨Fr.wL P.1 rfl, fun j hj => ?_⟩
      rw [wL_s]
      by_cases ej : j = i
      · rw [if_pos ej, ej]
      · rw [if_neg ej]; exact P.2 j (by omega)
    · intro n x P
      simp (disch := omega) only [D_X7_byShares_37, li0, li1, li2, li3, li4, li5, li6, li7, li8, li9, li10, li12, li24, li31, li40, li160, n_le, n_lt, n_eq, n_m1, n_add, mr4, mr6, mr7, mr10, mr40, mr160, ml4, ml6, ml7, ml10, ml40, ml160, gu_ib, nI_nat, bi_s, vl_e, gu_t, if_true, if_false, reduceIte, bt1_1, bt1_2, bt1_3, bt1_4, bt1_5, bt1_6, bt1_7, bt1_8, bt1_9, bt1_10, bt1_11, bt1_12, bt14_1, bt14_2, bt14_3, bt14_4, bt14_5, bt14_6, bt14_7, bt14_8, bt14_9, bt14_10, bt14_11, bt14_12]
      rw [if_pos (by omega)]
      have M2 : MW x s h oc0 := MW_F P.1 (fun q z => by omega) M1
      have F2 : Fr (fun q => AM q ∨ q = 117 ∨ q = 120) μ x := Fr.tr (p1.1.mo fun q z => by omega) (P.1.mo fun q z => by omega)
      have e12 : pyW s h a w = pw s h (shF 12 a w) 12 := by unfold pyW; rw [if_neg (by omega)]
      rw [e12]
      refine Ok.for (fun n i y => D_X7_byShares_67 fu n (nI h) (nI i) y) 12 (fun i y => Fr AM x y ∧ MW y s h (pw s h (shF 12 a w) i)) ?_ ?_ fu 0 x (by omega) (by omega) ⟨Fr.rfl', M2⟩
      · intro n i y hi Q k
        have z := (pw_b H hh pn (y := i) (by omega)).2 i (Nat.le_refl _) hi
        have r : y.2.1 120 i = zL (shF 12 a w i) := by rw [Q.1.L (by unfold AM; omega)]; exact P.2 i hi
        have pi0 := pn i hi
        have pi1 := pa i hi
        have e3 := Q.2.z.fl hh (show 3 < 7 by decide)
        have e2 := Q.2.z.fl hh (show 2 < 7 by decide)
        simp (disch := omega) only [D_X7_byShares_67, D_X7_byShares_150, li0, li1, li2, li3, li4, li5, li6, li7, li8, li9, li10, li12, li24, li31, li40, li160, n_le, n_lt, n_eq, n_m1, n_add, mr4, mr6, mr7, mr10, mr40, mr160, ml4, ml6, ml7, ml10, ml40, ml160, gu_ib, nI_nat, bi_s, vl_e, gu_t, if_true, if_false, reduceIte, bt1_1, bt1_2, bt1_3, bt1_4, bt1_5, bt1_6, bt1_7, bt1_8, bt1_9, bt1_10, bt1_11, bt1_12, bt14_1, bt14_2, bt14_3, bt14_4, bt14_5, bt14_6, bt14_7, bt14_8, bt14_9, bt14_10, bt14_11, bt14_12, ll0, ll1, ll2, ll10, ll2e9, r, z_eq, m_gap hi Q.2.a H.T, decide_eq_true_eq, e3, e2, z_add, z_sub, z_mul, z_neg]
        rw [if_neg (by omega)]
        by_cases q0 : shF 12 a w i = 0
        · rw [if_pos q0]
          exact k _ ⟨Q.1, MW_c (pw_skip H hh hi z q0) Q.2⟩
        · rw [if_neg q0]
          by_cases q2 : hg s i = 0
          · rw [if_pos q2]
            refine k _ ⟨Fr.wL Q.1 (by unfold AM; omega), RMa_frm (fun _ _ => rfl) rfl Q.2.a, RMb_frm (fun _ _ => rfl) (fun _ _ _ => rfl) Q.2.b, ?_, fun l hl => ?_⟩
            · rw [pw_s, if_pos q2, Int.add_assoc]
              exact MZ_5 (by decide) Q.2.z
            · rw [pw_s, if_pos q2, uO_d _ _ (by decide), wL_n (by decide)]; exact Q.2.t hl
          · rw [if_neg q2]
            refine Ok.b (m_fills hf hh hi pi0 (by omega) Q.2 H z) fun r' p => ?_
            rw [p.1, z_add]
            refine k _ ⟨Fr.wL (Q.1.tr p.2.2) (by unfold AM; omega), RMa_frm (fun _ _ => rfl) rfl p.2.1.a, RMb_frm (fun _ _ => rfl) (fun _ _ _ => rfl) p.2.1.b, ?_, fun l hl => ?_⟩
            · rw [pw_s, if_neg q2, Int.add_assoc]
              exact MZ_5 (by decide) p.2.1.z
            · rw [pw_s, if_neg q2, uO_d _ _ (by decide), wL_n (by decide)]; exact p.2.1.t hl
      · intro n y Q
        simp (disch := omega) only [D_X7_byShares_67, li0, li1, li2, li3, li4, li5, li6, li7, li8, li9, li10, li12, li24, li31, li40, li160, n_le, n_lt, n_eq, n_m1, n_add, mr4, mr6, mr7, mr10, mr40, mr160, ml4, ml6, ml7, ml10, ml40, ml160, gu_ib, nI_nat, bi_s, vl_e, gu_t, if_true, if_false, reduceIte, bt1_1, bt1_2, bt1_3, bt1_4, bt1_5, bt1_6, bt1_7, bt1_8, bt1_9, bt1_10, bt1_11, bt1_12, bt14_1, bt14_2, bt14_3, bt14_4, bt14_5, bt14_6, bt14_7, bt14_8, bt14_9, bt14_10, bt14_11, bt14_12]
        rw [if_pos (by omega)]
        exact Ok.s ⟨F2.tr (Q.1.mo fun q z => Or.inl z), Q.2⟩
theorem m_room0 {y : Nat} (hf : 200 < fu) (hh : h < 25) (hy : y < 12) (M : MV μ s h oc0) (H : Iv N s) : D_X7_roomOf_0 fu μ (nI h) (nI y) = some (zL (rmS s h y)) := by
  refine m_roomO hf hh hy M.a H fun k hk => ?_
  have r4 := IvT_rg H.T hy hk
  have a := M.z.us r4
  have b := M.z.tk hh r4
  have c := M.z.th hh r4
  have e : ∀ f j, oc0 f j = 0 := fun _ _ => rfl
  rw [e, Int.add_zero] at a b c
  exact ⟨a, b, c⟩
theorem m_rank {y : Nat} (hf : 200 < fu) (hh : h < 25) (hy : y < 12) (h0 : hg s y ≠ 0) (M : MV μ s h oc0) (H : Iv N s) : D_X7_rankOf_0 fu μ (nI h) (nI y) = some (zL (kyY s h y)) := by
  have r3 := IvR_r2 H.R
  have hk0 : 0 < hg s y := by omega
  have r4 := IvT_rg H.T hy hk0
  have r1 := IvT_ri H.T hy hk0
  have f9 := IvT_fr H.T r4 r1
  have f8 : fr s (rg s (6 * y + 0)) < 2147483648 := by omega
  have rr : ru s 2 = 0 ∨ ru s 2 = 1 ∨ ru s 2 = 2 ∨ ru s 2 = 3 := by omega
  unfold D_X7_rankOf_0 kyY
  rw [show μ.1 85 32 = nI (ru s 2) from RMb_r2 M.b]
  rcases rr with e | e | e | e <;> rw [e]
  · simp (disch := omega) only [li0, li1, li2, li3, li4, li5, li6, li7, li8, li9, li10, li12, li24, li31, li40, li160, n_le, n_lt, n_eq, n_m1, n_add, mr4, mr6, mr7, mr10, mr40, mr160, ml4, ml6, ml7, ml10, ml40, ml160, gu_ib, nI_nat, bi_s, vl_e, gu_t, if_true, if_false, reduceIte, bt1_1, bt1_2, bt1_3, bt1_4, bt1_5, bt1_6, bt1_7, bt1_8, bt1_9, bt1_10, bt1_11, bt1_12, bt14_1, bt14_2, bt14_3, bt14_4, bt14_5, bt14_6, bt14_7, bt14_8, bt14_9, bt14_10, bt14_11, bt14_12, m_room0 hf hh hy M H, z_neg]
  · simp (disch := omega) only [li0, li1, li2, li3, li4, li5, li6, li7, li8, li9, li10, li12, li24, li31, li40, li160, n_le, n_lt, n_eq, n_m1, n_add, mr4, mr6, mr7, mr10, mr40, mr160, ml4, ml6, ml7, ml10, ml40, ml160, gu_ib, nI_nat, bi_s, vl_e, gu_t, if_true, if_false, reduceIte, bt1_1, bt1_2, bt1_3, bt1_4, bt1_5, bt1_6, bt1_7, bt1_8, bt1_9, bt1_10, bt1_11, bt1_12, bt14_1, bt14_2, bt14_3, bt14_4, bt14_5, bt14_6, bt14_7, bt14_8, bt14_9, bt14_10, bt14_11, bt14_12]
    rw [n_neg, zI_L (by omega) (by omega)]; rfl
  · simp (disch := omega) only [li0, li1, li2, li3, li4, li5, li6, li7, li8, li9, li10, li12, li24, li31, li40, li160, n_le, n_lt, n_eq, n_m1, n_add, mr4, mr6, mr7, mr10, mr40, mr160, ml4, ml6, ml7, ml10, ml40, ml160, gu_ib, nI_nat, bi_s, vl_e, gu_t, if_true, if_false, reduceIte, bt1_1, bt1_2, bt1_3, bt1_4, bt1_5, bt1_6, bt1_7, bt1_8, bt1_9, bt1_10, bt1_11, bt1_12, bt14_1, bt14_2, bt14_3, bt14_4, bt14_5, bt14_6, bt14_7, bt14_8, bt14_9, bt14_10, bt14_11, bt14_12, m_rung hy hk0 M.a H.T, show μ.1 93 (rg s (6 * y + 0)) = nI (fr s (rg s (6 * y + 0))) from RMa_fr M.a r4 r1, n_L]; rfl
  · simp (disch := omega) only [li0, li1, li2, li3, li4, li5, li6, li7, li8, li9, li10, li12, li24, li31, li40, li160, n_le, n_lt, n_eq, n_m1, n_add, mr4, mr6, mr7, mr10, mr40, mr160, ml4, ml6, ml7, ml10, ml40, ml160, gu_ib, nI_nat, bi_s, vl_e, gu_t, if_true, if_false, reduceIte, bt1_1, bt1_2, bt1_3, bt1_4, bt1_5, bt1_6, bt1_7, bt1_8, bt1_9, bt1_10, bt1_11, bt1_12, bt14_1, bt14_2, bt14_3, bt14_4, bt14_5, bt14_6, bt14_7, bt14_8, bt14_9, bt14_10, bt14_11, bt14_12, n_L]; rfl
theorem m_picked {k : Nat} (hf : 200 < fu) (hh : h < 25) (hk : k < 2147483648) (Y : MY μ h a b c) (M : MV μ s h oc0) (H : Iv N s) : D_X7_picked_0 fu μ (nI h) (nI k) = some (if k < opC s (offB a b c (ru s 0)) 12 then nI (oI s h (offB a b c (ru s 0)) k) else -1) := by
  generalize eo : offB a b c (ru s 0) = off
  have o : ∀ {y : Nat}, y < 12 → D_X7_isOff_0 fu μ (nI h) (nI y) = some (off y) := fun hy => by rw [← eo]; exact m_off hf hh hy Y M.b H.R
  unfold D_X7_picked_0
  have K := Ok.for (α := Unit) (Q := fun r => r = if k < opC s off 12 then nI (oI s h off k) else -1) (fun n i _ => D_X7_picked_2 fu μ n (nI h) (nI k) (nI i)) 12 (fun i _ => ∀ y, y < i → opn s off y = true → ahd s h off y 12 ≠ k) ?_ ?_ fu 0 () (by omega) (by omega) (fun y h => absurd h (Nat.not_lt_zero y))
  · obtain ⟨r, h1, h2⟩ := K
    rw [← h2]; exact h1
  · intro n y _ hy P kk
    have skip : (opn s off y = true → ahd s h off y 12 ≠ k) → Ok (D_X7_picked_2 fu μ n (nI h) (nI k) (nI (y + 1))) (fun r => r = if k < opC s off 12 then nI (oI s h off k) else -1) := fun hn => kk () fun z hz hq => by
      by_cases e : z = y
      · rw [e] at hq ⊢; exact hn hq
      · exact P z (by omega) hq
    simp (disch := omega) only [D_X7_picked_2, D_X7_picked_133, li0, li1, li2, li3, li4, li5, li6, li7, li8, li9, li10, li12, li24, li31, li40, li160, n_le, n_lt, n_eq, n_m1, n_add, mr4, mr6, mr7, mr10, mr40, mr160, ml4, ml6, ml7, ml10, ml40, ml160, gu_ib, nI_nat, bi_s, vl_e, gu_t, if_true, if_false, reduceIte, bt1_1, bt1_2, bt1_3, bt1_4, bt1_5, bt1_6, bt1_7, bt1_8, bt1_9, bt1_10, bt1_11, bt1_12, bt14_1, bt14_2, bt14_3, bt14_4, bt14_5, bt14_6, bt14_7, bt14_8, bt14_9, bt14_10, bt14_11, bt14_12, o hy, m_gap hy M.a H.T, decide_eq_true_eq]
    rw [if_neg (by omega)]
    by_cases q : off y = true
    · rw [if_pos q]
      by_cases q2 : hg s y = 0
      · rw [if_pos q2]; exact skip (fun z => absurd q2 (opn_i.mp z).2)
      · rw [if_neg q2]
        have on := opn_i.mpr ⟨q, q2⟩
        have kb := kyY_b H hh hy q2
        have ab : ∀ m, ahd s h off y m ≤ m := fun m => by
          induction m with
          | zero => exact Nat.le_refl _
          | succ m ih =>
            show ahd s h off y m + (if bef s h off m y then 1 else 0) ≤ m + 1
            split <;> omega
        refine Ok.for (α := Unit) (fun m i _ => D_X7_picked_34 fu μ (D_X7_picked_2 fu μ n) m (nI h) (nI k) (nI y) (nI (ahd s h off y i)) (nI i)) 12 (fun _ _ => True) ?_ ?_ fu 0 () (by omega) (by omega) trivial
        · intro m i _ hi _ kk2
          have k2 := kk2 () trivial
          have es : ahd s h off y (i + 1) = ahd s h off y i + (if bef s h off i y then 1 else 0) := rfl
          rw [es] at k2
          have abi := ab i
          simp (disch := omega) only [D_X7_picked_34, D_X7_picked_119, D_X7_picked_116, D_X7_picked_111, D_X7_picked_115, li0, li1, li2, li3, li4, li5, li6, li7, li8, li9, li10, li12, li24, li31, li40, li160, n_le, n_lt, n_eq, n_m1, n_add, mr4, mr6, mr7, mr10, mr40, mr160, ml4, ml6, ml7, ml10, ml40, ml160, gu_ib, nI_nat, bi_s, vl_e, gu_t, if_true, if_false, reduceIte, bt1_1, bt1_2, bt1_3, bt1_4, bt1_5, bt1_6, bt1_7, bt1_8, bt1_9, bt1_10, bt1_11, bt1_12, bt14_1, bt14_2, bt14_3, bt14_4, bt14_5, bt14_6, bt14_7, bt14_8, bt14_9, bt14_10, bt14_11, bt14_12, o hi, m_gap hi M.a H.T, decide_eq_true_eq]
          rw [if_neg (by omega)]
          have no : bef s h off i y ≠ true → Ok (D_X7_picked_34 fu μ (D_X7_picked_2 fu μ n) m (nI h) (nI k) (nI y) (nI (ahd s h off y i)) (nI (i + 1))) (fun r => r = if k < opC s off 12 then nI (oI s h off k) else -1) := fun z => by
            rw [if_neg z, Nat.add_zero] at k2; exact k2
          by_cases q3 : i = y
          · rw [if_pos q3]; exact no (fun z => (bef_i.mp z).2.1 q3)
          · rw [if_neg q3]
            by_cases q4 : off i = true
            · rw [if_pos q4]
              by_cases q5 : hg s i = 0
              · rw [if_pos q5]; exact no (fun z => (opn_i.mp (bef_i.mp z).1).2 q5)
              · rw [if_neg q5]
                have oni := opn_i.mpr ⟨q4, q5⟩
                have kbi := kyY_b H hh hi q5
                rw [m_rank hf hh hi q5 M H, bi_s, m_rank hf hh hy q2 M H, bi_s, bi_s, bi_s]
                simp (disch := omega) only [z_lt, z_eq]
                by_cases q6 : kyY s h i < kyY s h y
                · rw [if_pos q6]
                  rw [if_pos (bef_i.mpr ⟨oni, q3, Or.inl q6⟩)] at k2; exact k2
                · rw [if_neg q6]
                  by_cases q7 : kyY s h i = kyY s h y
                  · rw [if_pos q7]
                    by_cases q8 : y ≤ i
                    · rw [if_pos q8]
                      exact no (fun z => by have := (bef_i.mp z).2.2; unfold lx at this; omega)
                    · rw [if_neg q8]
                      rw [if_pos (bef_i.mpr ⟨oni, q3, Or.inr ⟨q7, by omega⟩⟩)] at k2; exact k2
                  · rw [if_neg q7]
                    exact no (fun z => by have := (bef_i.mp z).2.2; unfold lx at this; omega)
            · rw [if_neg q4]; exact no (fun z => q4 (opn_i.mp (bef_i.mp z).1).1)
        · intro m _ _
          have abi := ab 12
          simp (disch := omega) only [D_X7_picked_34, D_X7_picked_133, li0, li1, li2, li3, li4, li5, li6, li7, li8, li9, li10, li12, li24, li31, li40, li160, n_le, n_lt, n_eq, n_m1, n_add, mr4, mr6, mr7, mr10, mr40, mr160, ml4, ml6, ml7, ml10, ml40, ml160, gu_ib, nI_nat, bi_s, vl_e, gu_t, if_true, if_false, reduceIte, bt1_1, bt1_2, bt1_3, bt1_4, bt1_5, bt1_6, bt1_7, bt1_8, bt1_9, bt1_10, bt1_11, bt1_12, bt14_1, bt14_2, bt14_3, bt14_4, bt14_5, bt14_6, bt14_7, bt14_8, bt14_9, bt14_10, bt14_11, bt14_12]
          rw [if_pos (by omega)]
          by_cases q3 : ahd s h off y 12 = k
          · rw [if_pos q3]
            have u := od_uq hy on q3
            rw [if_pos u.1, ← u.2]; exact Ok.s rfl
          · rw [if_neg q3]; exact skip (fun _ => q3)
    · rw [if_neg q]; exact skip (fun z => absurd (opn_i.mp z).1 q)
  · intro n _ P
    rw [D_X7_picked_2, if_pos (by decide)]
    have : ¬ k < opC s off 12 := fun z => by
      have b := (oI_b s h off).1 k z
      exact P _ b.1 b.2 (ahd_oI z)
    rw [if_neg this]; exact Ok.s rfl
end
