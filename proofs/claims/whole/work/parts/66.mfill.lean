/-! filling and shares of the model -/
theorem MW.a {x : Mem} {s : Sp} {h : Nat} {O : Oc} (W : MW x s h O) : RMa x s.1 := W.1
theorem MW.b {x : Mem} {s : Sp} {h : Nat} {O : Oc} (W : MW x s h O) : RMb x s.1 := W.2.1
theorem MW.z {x : Mem} {s : Sp} {h : Nat} {O : Oc} (W : MW x s h O) : MZ x s h O := W.2.2.1
theorem MW.t {x : Mem} {s : Sp} {h : Nat} {O : Oc} (W : MW x s h O) {l : Nat} (hl : l < 40) : x.2.1 118 l = zL (O 0 l) := W.2.2.2 l hl
theorem MZ.us {x : Mem} {s : Sp} {h : Nat} {O : Oc} (Z : MZ x s h O) {l : Nat} (hl : l < 40) : x.2.1 99 l = zL (us s l + O 0 l) := Z.1 l hl
theorem MZ.tk {x : Mem} {s : Sp} {h : Nat} {O : Oc} (Z : MZ x s h O) (hh : h < 25) {l : Nat} (hl : l < 40) : x.2.1 105 (40 * h + l) = zL (tk s (40 * h + l) + O 0 l) := by
  have := Z.2.2.1 h l hh hl; rwa [if_pos rfl] at this
theorem MZ.th {x : Mem} {s : Sp} {h : Nat} {O : Oc} (Z : MZ x s h O) (hh : h < 25) {l : Nat} (hl : l < 40) : x.2.1 106 (40 * h + l) = zL (th s (40 * h + l) + O 1 l) := by
  have := Z.2.2.2.1 h l hh hl; rwa [if_pos rfl] at this
theorem MZ.mv {x : Mem} {s : Sp} {h : Nat} {O : Oc} (Z : MZ x s h O) (hh : h < 25) {l : Nat} (hl : l < 40) : x.2.1 107 (40 * h + l) = zL (mv s (40 * h + l) + O 2 l) := by
  have := Z.2.2.2.2.1 h l hh hl; rwa [if_pos rfl] at this
theorem MZ.hd {x : Mem} {s : Sp} {h : Nat} {O : Oc} (Z : MZ x s h O) (hh : h < 25) {j : Nat} (hj : j < 160) : x.1 108 (160 * h + j) = zI (hd s (160 * h + j) + O 3 j) := by
  have := Z.2.2.2.2.2.1 h j hh hj; rwa [if_pos rfl] at this
theorem MZ.br {x : Mem} {s : Sp} {h : Nat} {O : Oc} (Z : MZ x s h O) (hh : h < 25) {i : Nat} (hi : i < 10) : x.2.1 109 (10 * h + i) = zL (br s (10 * h + i) + O 4 i) := by
  have := Z.2.2.2.2.2.2.1 h i hh hi; rwa [if_pos rfl] at this
theorem MZ.fl {x : Mem} {s : Sp} {h : Nat} {O : Oc} (Z : MZ x s h O) (hh : h < 25) {r : Nat} (hr : r < 7) : x.2.1 110 (7 * h + r) = zL (fl s (7 * h + r) + O 5 r) := by
  have := Z.2.2.2.2.2.2.2 h r hh hr; rwa [if_pos rfl] at this
theorem us_b {N : Nat} {s : Sp} (H : Iv N s) {l : Nat} (hl : l < 40) (h1 : isL s l = 1) : 0 ≤ us s l ∧ us s l ≤ 400000000 := by
  have a := IvH_ul H.H hl h1
  have b := IvT_sz H.T hl h1
  have c := IvT_tm H.T hl h1
  have p : (sz s l : Int) * (tm s l : Int) ≤ 100000000 * 4 := Int.mul_le_mul (by omega) (by omega) (by omega) (by omega)
  exact ⟨(lf_b hl h1 H).2.2, by omega⟩
/-- cells that an amount changes -/
def AM (q : Nat) : Prop := q = 99 ∨ q = 105 ∨ q = 106 ∨ q = 110 ∨ q = 118
theorem m_fills {N fu h y : Nat} {μ : Mem} {s : Sp} {O : Oc} {a : Int} (hf : 200 < fu) (hh : h < 25) (hy : y < 12) (ha : 0 ≤ a) (ha2 : a < 4611686018427387904) (W : MW μ s h O) (H : Iv N s) (Z : OZ s O y) : Ok (D_X7_fills_0 fu (nI h) (nI y) (zL a) μ) (fun r => r.1 = zL (fil s h y a O (hg s y)).1 ∧ MW r.2 s h (fil s h y a O (hg s y)).2 ∧ Fr AM μ r.2) := by
  have h6 := IvT_hg H.T hy
  unfold D_X7_fills_0
  refine Ok.for (fun n i x => D_X7_fills_6 fu n (nI h) (nI y) (zL (fil s h y a O i).1) (nI i) x) (hg s y) (fun i x => MW x s h (fil s h y a O i).2 ∧ Fr AM μ x) ?_ ?_ fu 0 μ (by omega) (by omega) ⟨W, Fr.rfl'⟩
  · intro n i x hi P k
    obtain ⟨P1, P2⟩ := P
    have A := P1.a
    have r4 := IvT_rg H.T hy hi
    have r1 := IvT_ri H.T hy hi
    have fb := fil_b H hh hy ha O (k := i) (by omega)
    have g := fHT H hh hy ha hi
    rw [← fil_O s h y a O i] at g
    have z0 : (fil s h y a O i).2 0 (rg s (6 * y + i)) = 0 := by
      rw [fil_o s h y a O (by omega) (fun _ j hj e => by have := rg_inj H.T hy (by omega) (by omega) e; omega)]; exact (Z i hi).1
    have z1 : (fil s h y a O i).2 1 (rg s (6 * y + i)) = 0 := by
      rw [fil_o s h y a O (by omega) (fun _ j hj e => by have := rg_inj H.T hy (by omega) (by omega) e; omega)]; exact (Z i hi).2
    have eu := P1.z.us r4
    have ea := P1.z.tk hh r4
    have et := P1.z.th hh r4
    have ef := P1.z.fl hh (show 1 < 7 by decide)
    have ek := P1.t r4
    rw [z0, Int.add_zero] at eu ea
    rw [z1, Int.add_zero] at et
    rw [z0] at ek
    have ub := us_b H r4 r1
    have tb := IvH_tk H.H hh r4
    have z9 := (IvT_sz H.T r4 r1).2
    have hb := IvH_th H.H hh r4
    have hl9 := hL_le H hh r4 r1
    have hl0 := hL_nn s h (rg s (6 * y + i))
    have ct0 := cT_nn H hh r4 r1
    have ct9 := cT_le H hh r4 r1
    have eH : min (fil s h y a O i).1 (hL s h (rg s (6 * y + i))) = fH s h y a i := by unfold fH; rw [fil_O s h y a O i]
    have eT : min ((fil s h y a O i).1 - fH s h y a i) (cT s h (rg s (6 * y + i))) = fT s h y a i := by unfold fT; rw [fil_O s h y a O i]
    have ehL : max ((hl s (rg s (6 * y + i)) : Int) - th s (40 * h + rg s (6 * y + i))) 0 = hL s h (rg s (6 * y + i)) := rfl
    have ecT : min ((sz s (rg s (6 * y + i)) : Int) * (tm s (rg s (6 * y + i)) : Int) - us s (rg s (6 * y + i))) ((sz s (rg s (6 * y + i)) : Int) - tk s (40 * h + rg s (6 * y + i))) = cT s h (rg s (6 * y + i)) := rfl
    have lst : ∀ (m : Mem) (p q : Int), -9223372036854775808 ≤ p → p < 9223372036854775808 → -9223372036854775808 ≤ q → q < 9223372036854775808 → D_X7_least_0 m (zL p) (zL q) = some (zL (min p q)) := fun m p q h1 h2 h3 h4 => by
      unfold D_X7_least_0
      simp only [z_le h3 h4 h1 h2]
      rw [Int.min_def]
      by_cases c : q ≤ p
      · rw [if_pos c]
        by_cases d : p ≤ q
        · rw [if_pos d, show p = q by omega]
        · rw [if_neg d]
      · rw [if_neg c, if_pos (by omega)]
    simp (disch := omega) only [D_X7_fills_6, li0, li1, li2, li3, li4, li5, li6, li7, li8, li9, li10, li12, li24, li31, li40, li160, n_le, n_lt, n_eq, n_m1, n_add, mr4, mr6, mr7, mr10, mr40, mr160, ml4, ml6, ml7, ml10, ml40, ml160, gu_ib, nI_nat, bi_s, vl_e, gu_t, if_true, if_false, reduceIte, bt1_1, bt1_2, bt1_3, bt1_4, bt1_5, bt1_6, bt1_7, bt1_8, bt1_9, bt1_10, bt1_11, bt1_12, bt14_1, bt14_2, bt14_3, bt14_4, bt14_5, bt14_6, bt14_7, bt14_8, bt14_9, bt14_10, bt14_11, bt14_12, m_layersOf hy A, m_rung hy hi A H.T, m_holeT hh r4 r1 A H.T et hb.1 (by omega), ehL, lst, eH, et, wL_n, ef, z_add, z_sub, z_mul, z_neg]
    rw [if_neg (by omega)]
    generalize ew : wL (wL x 106 (40 * h + rg s (6 * y + i)) (zL (th s (40 * h + rg s (6 * y + i)) + fH s h y a i))) 110 (7 * h + 1) (zL (fl s (7 * h + 1) + (fil s h y a O i).2 5 1 + fH s h y a i)) = w
    have WA : RMa w s.1 := by subst ew; exact RMa_frm (fun _ _ => rfl) rfl A
    have wu : w.2.1 99 (rg s (6 * y + i)) = zL (us s (rg s (6 * y + i))) := by subst ew; rw [wL_n (by decide), wL_n (by decide)]; exact eu
    have wa : w.2.1 105 (40 * h + rg s (6 * y + i)) = zL (tk s (40 * h + rg s (6 * y + i))) := by subst ew; rw [wL_n (by decide), wL_n (by decide)]; exact ea
    have wk : w.2.1 118 (rg s (6 * y + i)) = zL 0 := by subst ew; rw [wL_n (by decide), wL_n (by decide)]; exact ek
    have e1 := fil_1 s h y a O i
    have e2 := fil_2 s h y a O i
    rw [m_canT hh r4 r1 WA H.T wu wa ub.1 (by omega) tb.1 (by omega), bi_s, ecT, lst _ _ _ (by omega) (by omega) (by omega) (by omega), bi_s, eT, ea, eu, ek]
    simp only [z_add, z_sub, z_mul, z_neg, Int.zero_add]
    rw [show (fil s h y a O i).1 - fH s h y a i - fT s h y a i = (fil s h y a O (i + 1)).1 by rw [e1]; omega]
    refine k _ ⟨⟨?_, ?_, ?_, ?_⟩, ?_⟩
    · exact RMa_frm (fun _ _ => rfl) rfl WA
    · subst ew; exact RMb_frm (fun _ _ => rfl) (fun _ _ _ => rfl) P1.b
    · have Zw : MZ w s h (uO (uO (fil s h y a O i).2 1 (rg s (6 * y + i)) (fH s h y a i)) 5 1 ((fil s h y a O i).2 5 1 + fH s h y a i)) := by
        subst ew
        rw [show fl s (7 * h + 1) + (fil s h y a O i).2 5 1 + fH s h y a i = fl s (7 * h + 1) + ((fil s h y a O i).2 5 1 + fH s h y a i) by omega]
        exact MZ_5 (by decide) (MZ_1 r4 P1.z)
      have Zv := MZ_0 (v := fT s h y a i) r4 Zw
      have Fv : Fr (fun q => q = 118) (wL (wL w 105 (40 * h + rg s (6 * y + i)) (zL (tk s (40 * h + rg s (6 * y + i)) + fT s h y a i))) 99 (rg s (6 * y + i)) (zL (us s (rg s (6 * y + i)) + fT s h y a i))) (wL (wL (wL w 105 (40 * h + rg s (6 * y + i)) (zL (tk s (40 * h + rg s (6 * y + i)) + fT s h y a i))) 99 (rg s (6 * y + i)) (zL (us s (rg s (6 * y + i)) + fT s h y a i))) 118 (rg s (6 * y + i)) (zL (fT s h y a i))) := Fr.wL Fr.rfl' rfl
      refine MZ_c (fun f j => ?_) (MZ_F Fv (fun q z => by omega) Zv)
      rw [e2, uO_1, uO_1, uO_1, uO_1, uO_1, uO_1]
      by_cases c5 : f = 5 ∧ j = 1
      · rw [if_pos c5, if_neg (by omega), if_pos c5]
      · rw [if_neg c5, if_neg c5]
    · intro q hq
      rw [wL_s, e2, uO_d _ _ (by decide), uO_s]
      split
      · rfl
      · rename_i ne
        rw [uO_d _ _ (by decide)]
        subst ew
        simp (disch := omega) only [wL_n]
        exact P1.t hq
    · subst ew
      exact Fr.wL (Fr.wL (Fr.wL (Fr.wL (Fr.wL P2 (by unfold AM; omega)) (by unfold AM; omega)) (by unfold AM; omega)) (by unfold AM; omega)) (by unfold AM; omega)
  · intro n x P
    simp (disch := omega) only [D_X7_fills_6, li0, li1, li2, li3, li4, li5, li6, li7, li8, li9, li10, li12, li24, li31, li40, li160, n_le, n_lt, n_eq, n_m1, n_add, mr4, mr6, mr7, mr10, mr40, mr160, ml4, ml6, ml7, ml10, ml40, ml160, gu_ib, nI_nat, bi_s, vl_e, gu_t, if_true, if_false, reduceIte, bt1_1, bt1_2, bt1_3, bt1_4, bt1_5, bt1_6, bt1_7, bt1_8, bt1_9, bt1_10, bt1_11, bt1_12, bt14_1, bt14_2, bt14_3, bt14_4, bt14_5, bt14_6, bt14_7, bt14_8, bt14_9, bt14_10, bt14_11, bt14_12, m_layersOf hy P.1.a]
    rw [if_pos (by omega)]
    exact Ok.s ⟨rfl, P.1, P.2⟩
/-! shares -/
theorem m_wsum {fu n : Nat} {w : Nat → Int} {μ : Mem} (hf : 200 < fu) (hn : n ≤ 40) (hw : ∀ k, k < n → μ.2.1 116 k = zL (w k)) : D_X7_weightSum_0 fu μ (nI n) = some (zL (sm w n)) := by
  unfold D_X7_weightSum_0
  refine eq_for (fun m i => D_X7_weightSum_5 fu μ m (nI n) (zL (sm w i)) (nI i)) n _ ?_ ?_ fu 0 (by omega) (by omega)
  · intro m i hi
    simp (disch := omega) only [D_X7_weightSum_5, li0, li1, li2, li3, li4, li5, li6, li7, li8, li9, li10, li12, li24, li31, li40, li160, n_le, n_lt, n_eq, n_m1, n_add, mr4, mr6, mr7, mr10, mr40, mr160, ml4, ml6, ml7, ml10, ml40, ml160, gu_ib, nI_nat, bi_s, vl_e, gu_t, if_true, if_false, reduceIte, bt1_1, bt1_2, bt1_3, bt1_4, bt1_5, bt1_6, bt1_7, bt1_8, bt1_9, bt1_10, bt1_11, bt1_12, bt14_1, bt14_2, bt14_3, bt14_4, bt14_5, bt14_6, bt14_7, bt14_8, bt14_9, bt14_10, bt14_11, bt14_12, hw i hi, z_add, z_sub, z_mul, z_neg]
    rw [if_neg (by omega), sm_s]
  · intro m
    simp (disch := omega) only [D_X7_weightSum_5, li0, li1, li2, li3, li4, li5, li6, li7, li8, li9, li10, li12, li24, li31, li40, li160, n_le, n_lt, n_eq, n_m1, n_add, mr4, mr6, mr7, mr10, mr40, mr160, ml4, ml6, ml7, ml10, ml40, ml160, gu_ib, nI_nat, bi_s, vl_e, gu_t, if_true, if_false, reduceIte, bt1_1, bt1_2, bt1_3, bt1_4, bt1_5, bt1_6, bt1_7, bt1_8, bt1_9, bt1_10, bt1_11, bt1_12, bt14_1, bt14_2, bt14_3, bt14_4, bt14_5, bt14_6, bt14_7, bt14_8, bt14_9, bt14_10, bt14_11, bt14_12]
    rw [if_pos (by omega)]
theorem m_share {fu n : Nat} {w : Nat → Int} {W a : Int} {μ : Mem} (hf : 200 < fu) (hn : n ≤ 40) (B : WB n w W) (hS : 0 < sm w n) (ha : 0 ≤ a) (ha2 : a < 4611686018427387904) (hw : ∀ k, k < n → μ.2.1 116 k = zL (w k)) : Ok (D_X7_shares_0 fu (zL a) (nI n) μ) (fun μ' => Fr (fun q => q = 117) μ μ' ∧ ∀ k, k < n → μ'.2.1 117 k = zL (shF n a w k)) := by
  have wn : ∀ k, k < n → 0 ≤ w k := fun k hk => (B.1 k hk).1
  have Sb := B.2.2
  have rd : ∀ x : Mem, Fr (fun q => q = 117) μ x → ∀ k, k < n → x.2.1 116 k = zL (w k) := fun x F k hk => by rw [F.L (by decide)]; exact hw k hk
  have hS0 : ¬ (zL (sm w n) = 0) := by rw [ll0, z_eq (by omega) (by omega) (by omega) (by omega)]; omega
  have dd := z_div ha (show a < 9223372036854775808 by omega) hS Sb
  unfold D_X7_shares_0
  rw [m_wsum hf hn hw, bi_s]
  refine Ok.for (fun m i x => D_X7_shares_13 fu m (zL a) (nI n) (zL (sm w n)) (zL (a - sm (sh0 n a w) i)) (nI i) x) n (fun i x => Fr (fun q => q = 117) μ x ∧ ∀ j, j < i → x.2.1 117 j = zL (sh0 n a w j)) ?_ ?_ fu 0 μ (by omega) (by omega) ⟨Fr.rfl', fun j h => absurd h (Nat.not_lt_zero j)⟩ |>.e (congrArg (fun v => D_X7_shares_13 fu fu (zL a) (nI n) (zL (sm w n)) v (nI 0) μ) (congrArg zL (Int.sub_zero a).symm))
  · intro m i x hi P k
    have wq := wb_q B hS ha hi
    have vd := z_div wq.1 wq.2 hS Sb
    simp (disch := omega) only [D_X7_shares_13, li0, li1, li2, li3, li4, li5, li6, li7, li8, li9, li10, li12, li24, li31, li40, li160, n_le, n_lt, n_eq, n_m1, n_add, mr4, mr6, mr7, mr10, mr40, mr160, ml4, ml6, ml7, ml10, ml40, ml160, gu_ib, nI_nat, bi_s, vl_e, gu_t, if_true, if_false, reduceIte, bt1_1, bt1_2, bt1_3, bt1_4, bt1_5, bt1_6, bt1_7, bt1_8, bt1_9, bt1_10, bt1_11, bt1_12, bt14_1, bt14_2, bt14_3, bt14_4, bt14_5, bt14_6, bt14_7, bt14_8, bt14_9, bt14_10, bt14_11, bt14_12, ↓gu_dd hS0, rd x P.1 i hi, dd, z_add, z_sub, z_mul, z_neg, vd, wL_e]
    rw [if_neg (by omega)]
    have e : a - sm (sh0 n a w) i - (a / sm w n * w i + (a - a / sm w n * sm w n) * w i / sm w n) = a - sm (sh0 n a w) (i + 1) := by
      rw [sm_s]; unfold sh0; omega
    rw [e]
    refine k _ ⟨Fr.wL P.1 rfl, fun j hj => ?_⟩
    rw [wL_s]
    by_cases e : j = i
    · rw [if_pos e, e]; rfl
    · rw [if_neg e]; exact P.2 j (by omega)
  · intro m x P
    simp (disch := omega) only [D_X7_shares_13, li0, li1, li2, li3, li4, li5, li6, li7, li8, li9, li10, li12, li24, li31, li40, li160, n_le, n_lt, n_eq, n_m1, n_add, mr4, mr6, mr7, mr10, mr40, mr160, ml4, ml6, ml7, ml10, ml40, ml160, gu_ib, nI_nat, bi_s, vl_e, gu_t, if_true, if_false, reduceIte, bt1_1, bt1_2, bt1_3, bt1_4, bt1_5, bt1_6, bt1_7, bt1_8, bt1_9, bt1_10, bt1_11, bt1_12, bt14_1, bt14_2, bt14_3, bt14_4, bt14_5, bt14_6, bt14_7, bt14_8, bt14_9, bt14_10, bt14_11, bt14_12]
    rw [if_pos (by omega)]
    have R := sh_R wn hS ha
    have Rb : shR n a w ≤ a := by have := (sh0_b wn hS ha (Nat.le_refl n)).1; unfold shR; omega
    have eR : a - sm (sh0 n a w) n = max (shR n a w - cp w 0) 0 := by
      have : cp w 0 = 0 := rfl
      rw [this, Int.max_eq_left (by omega)]; unfold shR; omega
    rw [eR]
    refine Ok.for (fun m i x => D_X7_shares_75 fu m (nI n) (zL (max (shR n a w - cp w i) 0)) (nI i) x) n (fun i x => Fr (fun q => q = 117) μ x ∧ ∀ j, j < n → x.2.1 117 j = zL (sh0 n a w j + if j < i ∧ 0 < w j ∧ cp w j < shR n a w then 1 else 0)) ?_ ?_ fu 0 x (by omega) (by omega) ⟨P.1, fun j hj => by rw [P.2 j hj, if_neg (by omega), Int.add_zero]⟩
    · intro m i x hi P k
      have wi := B.1 i hi
      have c0 := cp_nn w i
      have wW : w i < 9223372036854775808 := by have := sm_at (f := w) hi wn; omega
      simp (disch := omega) only [D_X7_shares_75, D_X7_shares_120, li0, li1, li2, li3, li4, li5, li6, li7, li8, li9, li10, li12, li24, li31, li40, li160, n_le, n_lt, n_eq, n_m1, n_add, mr4, mr6, mr7, mr10, mr40, mr160, ml4, ml6, ml7, ml10, ml40, ml160, gu_ib, nI_nat, bi_s, vl_e, gu_t, if_true, if_false, reduceIte, bt1_1, bt1_2, bt1_3, bt1_4, bt1_5, bt1_6, bt1_7, bt1_8, bt1_9, bt1_10, bt1_11, bt1_12, bt14_1, bt14_2, bt14_3, bt14_4, bt14_5, bt14_6, bt14_7, bt14_8, bt14_9, bt14_10, bt14_11, bt14_12, ll0, ll1, ll2, ll10, ll2e9, z_eq, rd x P.1 i hi]
      rw [if_neg (by omega)]
      have keep : (¬ (0 < w i ∧ cp w i < shR n a w)) → max (shR n a w - cp w i) 0 = max (shR n a w - cp w (i + 1)) 0 → Ok (D_X7_shares_75 fu m (nI n) (zL (max (shR n a w - cp w i) 0)) (nI (i + 1)) x) (fun μ' => Fr (fun q => q = 117) μ μ' ∧ ∀ k, k < n → μ'.2.1 117 k = zL (shF n a w k)) := fun q e => by
        rw [e]
        refine k _ ⟨P.1, fun j hj => ?_⟩
        rw [P.2 j hj]
        by_cases ej : j = i
        · rw [if_neg (by omega), if_neg (by rw [ej]; exact fun z => q z.2)]
        · by_cases q3 : j < i ∧ 0 < w j ∧ cp w j < shR n a w
          · rw [if_pos q3, if_pos ⟨by omega, q3.2⟩]
          · rw [if_neg q3, if_neg (fun z => q3 ⟨by omega, z.2⟩)]
      by_cases q : max (shR n a w - cp w i) 0 = 0
      · rw [if_pos q]
        refine keep (by omega) ?_
        rw [cp_s]; split <;> omega
      · rw [if_neg q]
        by_cases q2 : w i = 0
        · rw [if_pos q2]
          refine keep (by omega) ?_
          rw [cp_s, if_neg (by omega), Int.add_zero]
        · rw [if_neg q2]
          have e : max (shR n a w - cp w i) 0 - 1 = max (shR n a w - cp w (i + 1)) 0 := by rw [cp_s, if_pos (by omega)]; omega
          simp only [z_add, z_sub, z_mul, z_neg, P.2 i hi]
          rw [e]
          refine k _ ⟨Fr.wL P.1 rfl, fun j hj => ?_⟩
          rw [wL_s]
          by_cases ej : j = i
          · rw [if_pos ej, ej, if_neg (by omega), if_pos ⟨by omega, by omega, by omega⟩, Int.add_zero]
          · rw [if_neg ej, P.2 j hj]
            by_cases q3 : j < i ∧ 0 < w j ∧ cp w j < shR n a w
            · rw [if_pos q3, if_pos ⟨by omega, q3.2⟩]
            · rw [if_neg q3, if_neg (fun z => q3 ⟨by omega, z.2⟩)]
    · intro m x P
      simp (disch := omega) only [D_X7_shares_75, li0, li1, li2, li3, li4, li5, li6, li7, li8, li9, li10, li12, li24, li31, li40, li160, n_le, n_lt, n_eq, n_m1, n_add, mr4, mr6, mr7, mr10, mr40, mr160, ml4, ml6, ml7, ml10, ml40, ml160, gu_ib, nI_nat, bi_s, vl_e, gu_t, if_true, if_false, reduceIte, bt1_1, bt1_2, bt1_3, bt1_4, bt1_5, bt1_6, bt1_7, bt1_8, bt1_9, bt1_10, bt1_11, bt1_12, bt14_1, bt14_2, bt14_3, bt14_4, bt14_5, bt14_6, bt14_7, bt14_8, bt14_9, bt14_10, bt14_11, bt14_12]
      rw [if_pos (by omega)]
      refine Ok.s ⟨P.1, fun k hk => ?_⟩
      rw [P.2 k hk]
      unfold shF
      rw [if_neg (show ¬ sm w n ≤ 0 by omega)]
      by_cases q2 : 0 < w k ∧ cp w k < shR n a w
      · rw [if_pos ⟨hk, q2⟩, if_pos q2]
      · rw [if_neg (fun z => q2 z.2), if_neg q2]
