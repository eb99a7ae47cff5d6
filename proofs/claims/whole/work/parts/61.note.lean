/-! events that a book notes -/
theorem wI_s {μ : Mem} {c i : Nat} {x : Int32} {j : Nat} : (wI μ c i x).1 c j = if j = i then x else μ.1 c j := by
  rw [wI_1]
  by_cases e : j = i
  · rw [if_pos ⟨rfl, e⟩, if_pos e]
  · rw [if_neg (fun z => e z.2), if_neg e]
theorem wL_s {μ : Mem} {c i : Nat} {x : Int64} {j : Nat} : (wL μ c i x).2.1 c j = if j = i then x else μ.2.1 c j := by
  rw [wL_2]
  by_cases e : j = i
  · rw [if_pos ⟨rfl, e⟩, if_pos e]
  · rw [if_neg (fun z => e z.2), if_neg e]
theorem c_clrRow {fu r n0 w h : Nat} {μ : Mem} (hf : 200 < fu) (hw : w ≤ 160) (hn : h * w + w ≤ n0) (hn2 : n0 ≤ 4000) : Ok (D_X1_clearRow_0 fu r n0 (nI h) (nI w) μ) (fun x => FrL (fun q => q = r) μ x ∧ ∀ j, x.2.1 r j = if h * w ≤ j ∧ j < h * w + w then zL 0 else μ.2.1 r j) := by
  unfold D_X1_clearRow_0
  refine Ok.for (fun n i x => D_X1_clearRow_2 fu r n0 n (nI h) (nI w) (nI i) x) w (fun i x => FrL (fun q => q = r) μ x ∧ ∀ j, x.2.1 r j = if h * w ≤ j ∧ j < h * w + i then zL 0 else μ.2.1 r j) ?_ ?_ fu 0 μ (by omega) (by omega) ⟨FrL.rfl', fun j => by rw [if_neg (by omega)]⟩
  · intro n i x hi P kk
    simp (disch := omega) only [D_X1_clearRow_2, n_mul, n_add, li1, gu_ib, nI_nat, vl_e, n_le]
    rw [if_neg (by omega)]
    refine kk _ ⟨FrL.wL P.1 rfl, fun j => ?_⟩
    rw [wL_s, P.2 j]
    by_cases e : j = h * w + i
    · rw [if_pos e, if_pos (by omega)]; rfl
    · rw [if_neg e]
      by_cases q : h * w ≤ j ∧ j < h * w + i
      · rw [if_pos q, if_pos (by omega)]
      · rw [if_neg q, if_neg (by omega)]
  · intro n x P
    simp (disch := omega) only [D_X1_clearRow_2, n_le]
    rw [if_pos (by omega)]
    exact Ok.s P
/-- rows of a harm are empty -/
theorem c_clrRows {b fu h : Nat} {μ : Mem} (hf : 200 < fu) (hh : h < 24) : Ok (D_X1_clearRows_0 fu (b + 14) (nI h) μ) (fun x => FrL (fun q => b + 21 ≤ q ∧ q ≤ b + 26) μ x ∧ (∀ c g l, b + 21 ≤ c → c ≤ b + 23 → l < 40 → x.2.1 c (40 * g + l) = if g = h then zL 0 else μ.2.1 c (40 * g + l)) ∧ (∀ g j, j < 160 → x.2.1 (b + 24) (160 * g + j) = if g = h then zL 0 else μ.2.1 (b + 24) (160 * g + j)) ∧ (∀ g j, j < 10 → x.2.1 (b + 25) (10 * g + j) = if g = h then zL 0 else μ.2.1 (b + 25) (10 * g + j)) ∧ ∀ g j, j < 7 → x.2.1 (b + 26) (7 * g + j) = if g = h then zL 0 else μ.2.1 (b + 26) (7 * g + j)) := by
  unfold D_X1_clearRows_0
  refine Ok.b (c_clrRow (w := 40) hf (by decide) (by omega) (by decide)) fun x1 p1 => ?_
  refine Ok.b (c_clrRow (w := 40) hf (by decide) (by omega) (by decide)) fun x2 p2 => ?_
  refine Ok.b (c_clrRow (w := 40) hf (by decide) (by omega) (by decide)) fun x3 p3 => ?_
  refine Ok.b (c_clrRow (w := 160) hf (by decide) (by omega) (by decide)) fun x4 p4 => ?_
  refine Ok.b (c_clrRow (w := 10) hf (by decide) (by omega) (by decide)) fun x5 p5 => ?_
  refine Ok.b (c_clrRow (w := 7) hf (by decide) (by omega) (by decide)) fun x6 p6 => ?_
  have it : ∀ (g h j w : Nat) (a c : Int64), j < w → (∀ g q, q < w → (h * w ≤ w * g + q ∧ w * g + q < h * w + w ↔ g = h)) → (if h * w ≤ w * g + j ∧ w * g + j < h * w + w then a else c) = if g = h then a else c := fun g h j w a c hj hw => by
    by_cases e : g = h
    · rw [if_pos e, if_pos ((hw g j hj).mpr e)]
    · rw [if_neg e, if_neg (fun z => e ((hw g j hj).mp z))]
  refine Ok.s ⟨?_, fun c g l h1 h2 hl => ?_, fun g j hj => ?_, fun g j hj => ?_, fun g j hj => ?_⟩
  · exact ((((p1.1.mo fun q z => by omega).tr (p2.1.mo fun q z => by omega)).tr (p3.1.mo fun q z => by omega)).tr (p4.1.mo fun q z => by omega)).tr (p5.1.mo fun q z => by omega) |>.tr (p6.1.mo fun q z => by omega)
  · have hc : c = b + 21 ∨ c = b + 22 ∨ c = b + 23 := by omega
    rcases hc with e | e | e <;> subst e
    · rw [p6.1.L (by omega), p5.1.L (by omega), p4.1.L (by omega), p3.1.L (by omega), p2.1.L (by omega)]
      exact (p1.2 _).trans (it g h l 40 _ _ hl fun g q hq => by omega)
    · rw [p6.1.L (by omega), p5.1.L (by omega), p4.1.L (by omega), p3.1.L (by omega)]
      refine (p2.2 _).trans ((it g h l 40 _ _ hl fun g q hq => by omega).trans ?_)
      rw [p1.1.L (by omega)]
    · rw [p6.1.L (by omega), p5.1.L (by omega), p4.1.L (by omega)]
      refine (p3.2 _).trans ((it g h l 40 _ _ hl fun g q hq => by omega).trans ?_)
      rw [p2.1.L (by omega), p1.1.L (by omega)]
  · rw [p6.1.L (by omega), p5.1.L (by omega)]
    refine (p4.2 _).trans ((it g h j 160 _ _ hj fun g q hq => by omega).trans ?_)
    rw [p3.1.L (by omega), p2.1.L (by omega), p1.1.L (by omega)]
  · rw [p6.1.L (by omega)]
    refine (p5.2 _).trans ((it g h j 10 _ _ hj fun g q hq => by omega).trans ?_)
    rw [p4.1.L (by omega), p3.1.L (by omega), p2.1.L (by omega), p1.1.L (by omega)]
  · refine (p6.2 _).trans ((it g h j 7 _ _ hj fun g q hq => by omega).trans ?_)
    rw [p5.1.L (by omega), p4.1.L (by omega), p3.1.L (by omega), p2.1.L (by omega), p1.1.L (by omega)]
theorem c_takeBack {b N fu h : Nat} {μ : Mem} {s : Sp} (hf : 200 < fu) (hb : b + 28 < 61) (hh : h < 24) (h1 : isH s h = 1) (C : RC b μ s) (H : Iv N s) : Ok (D_X0_takeBack_0 fu b (nI h) μ) (fun r => r.1 = true ∧ FrL (fun q => b ≤ q ∧ q ≤ b + 28) μ r.2 ∧ RC b r.2 (clrH s h)) := by
  have c4 := IvT_c40 H.T
  have hh' : h < 25 := by omega
  simp (disch := omega) only [D_X0_takeBack_0, li0, li1, li2, li3, li4, li5, li6, li7, li8, li9, li10, li12, li24, li31, li40, li160, n_le, n_lt, n_eq, n_m1, n_add, mr4, mr6, mr7, mr10, mr40, mr160, ml4, ml6, ml7, ml10, ml40, ml160, gu_ib, nI_nat, bi_s, vl_e, gu_t, if_true, if_false, reduceIte, bt1_1, bt1_2, bt1_3, bt1_4, bt1_5, bt1_6, bt1_7, bt1_8, bt1_9, bt1_10, bt1_11, bt1_12, bt14_1, bt14_2, bt14_3, bt14_4, bt14_5, bt14_6, bt14_7, bt14_8, bt14_9, bt14_10, bt14_11, bt14_12, C_ish C hh, h1]
  rw [if_neg (by decide)]
  refine Ok.for (fun n l x => D_X0_takeBack_16 fu b n (nI h) (nI l) x) (cL s) (fun l x => FrL (fun q => q = b + 6 ∨ q = b + 11) μ x ∧ (∀ q, q < 40 → x.2.1 (b + 6) q = μ.2.1 (b + 6) q + zL (if q < l then - tk s (40 * h + q) else 0)) ∧ ∀ q k, q < 40 → isL s q = 1 → k < ng s q → x.2.1 (b + 11) (4 * q + k) = μ.2.1 (b + 11) (4 * q + k) + zL (if q < l then - hd s (160 * h + (4 * q + k)) else 0)) ?_ ?_ fu 0 μ (by omega) (by omega) ⟨FrL.rfl', fun q _ => by rw [if_neg (by omega), zz], fun q k _ _ _ => by rw [if_neg (by omega), zz]⟩
  · intro n l x hl P kk
    obtain ⟨P1, K6, K11⟩ := P
    have l4 : l < 40 := by omega
    have cl : x.1 (b + 1) 13 = nI (cL s) := by rw [P1.1]; exact C_cL C
    have tb := IvH_tk H.H hh' l4
    have r21 : x.2.1 (b + 21) (40 * h + l) = zL (tk s (40 * h + l)) := by rw [P1.L (by omega)]; exact C_tk C hh' (Or.inl h1) l4
    have tz : tk s (40 * h + l) < 9223372036854775808 := by
      rcases IvT_is H.T l4 with z | z
      · rw [IvH_t0 H.H hh' l4 z]; decide
      · have := (IvT_sz H.T l4 z).2; omega
    simp (disch := omega) only [D_X0_takeBack_16, D_X0_takeBack_67, li0, li1, li2, li3, li4, li5, li6, li7, li8, li9, li10, li12, li24, li31, li40, li160, n_le, n_lt, n_eq, n_m1, n_add, mr4, mr6, mr7, mr10, mr40, mr160, ml4, ml6, ml7, ml10, ml40, ml160, gu_ib, nI_nat, bi_s, vl_e, gu_t, if_true, if_false, reduceIte, bt1_1, bt1_2, bt1_3, bt1_4, bt1_5, bt1_6, bt1_7, bt1_8, bt1_9, bt1_10, bt1_11, bt1_12, bt14_1, bt14_2, bt14_3, bt14_4, bt14_5, bt14_6, bt14_7, bt14_8, bt14_9, bt14_10, bt14_11, bt14_12, ll0, ll1, ll2, ll10, ll2e9, cl, r21, z_le]
    rw [if_neg (by omega)]
    by_cases q : tk s (40 * h + l) ≤ 0
    · rw [if_pos q]
      refine kk _ ⟨P1, ae_0 K6 (by omega), fun p k hp hi hk => ?_⟩
      rw [K11 p k hp hi hk]
      by_cases a : p < l
      · rw [if_pos a, if_pos (by omega)]
      · rw [if_neg a]
        by_cases c : p = l
        · have n4 := IvT_ng H.T hp
          have := IvH_hd H.H hh' hp (show k < 4 by omega)
          rw [show 160 * h + 4 * p + k = 160 * h + (4 * p + k) by omega, c] at this
          rw [if_pos (by omega), c, show hd s (160 * h + (4 * l + k)) = 0 by omega]; rfl
        · rw [if_neg (by omega)]
    · rw [if_neg q]
      have i1 : isL s l = 1 := by
        rcases IvT_is H.T l4 with z | z
        · have := IvH_t0 H.H hh' l4 z; omega
        · exact z
      have n4 := IvT_ng H.T l4
      have A6 := ae_w (F := fun q => - tk s (40 * h + q)) K6 l4
      have em : x.2.1 (b + 6) l - zL (tk s (40 * h + l)) = x.2.1 (b + 6) l + zL (- tk s (40 * h + l)) := by rw [← z_neg, Int64.sub_eq_add_neg]
      rw [em]
      generalize ey : wL x (b + 6) l (x.2.1 (b + 6) l + zL (- tk s (40 * h + l))) = y at A6
      have YF : FrL (fun q => q = b + 6 ∨ q = b + 11) μ y := by rw [← ey]; exact FrL.wL P1 (Or.inl rfl)
      have Y11 : y.2.1 (b + 11) = x.2.1 (b + 11) := by rw [← ey, wL_n (by omega)]
      unfold D_X0_takeBackParts_0
      have e160 : nI h * 40 * 4 = nI (160 * h) := by
        rw [li40, li4, mr40, mr4]; congr 1; omega
      rw [e160]
      refine Ok.b (P := fun w => FrL (fun q => q = b + 11) y w ∧ (∀ j, (j < 4 * l ∨ 4 * l + 4 ≤ j) → w.2.1 (b + 11) j = y.2.1 (b + 11) j) ∧ ∀ k, k < ng s l → w.2.1 (b + 11) (4 * l + k) = y.2.1 (b + 11) (4 * l + k) + zL (- hd s (160 * h + (4 * l + k)))) ?_ fun w pw' => ?_
      · have nge : μ.1 (b + 7) l = nI (ng s l) := C_ng C l4 i1
        refine Ok.for (fun n k w => D_X0_takeBackParts_10 fu b n (nI l) (nI (160 * h)) (nI k) w) (ng s l) (fun k w => FrL (fun q => q = b + 11) y w ∧ (∀ j, (j < 4 * l ∨ 4 * l + k ≤ j) → w.2.1 (b + 11) j = y.2.1 (b + 11) j) ∧ ∀ i, i < k → w.2.1 (b + 11) (4 * l + i) = y.2.1 (b + 11) (4 * l + i) + zL (- hd s (160 * h + (4 * l + i)))) ?_ ?_ fu 0 y (by omega) (by omega) ⟨FrL.rfl', fun _ _ => rfl, fun i hi => absurd hi (Nat.not_lt_zero i)⟩
        · intro n k w hk R kw
          have nge' : w.1 (b + 7) l = nI (ng s l) := by rw [R.1.1, YF.1]; exact nge
          have r24 : w.2.1 (b + 24) (160 * h + (4 * l + k)) = zL (hd s (160 * h + (4 * l + k))) := by
            rw [R.1.L (by omega), YF.L (by omega)]; exact C_hd C hh h1 (by omega)
          have r11 := R.2.1 (4 * l + k) (Or.inr (Nat.le_refl _))
          simp (disch := omega) only [D_X0_takeBackParts_10, li0, li1, li2, li3, li4, li5, li6, li7, li8, li9, li10, li12, li24, li31, li40, li160, n_le, n_lt, n_eq, n_m1, n_add, mr4, mr6, mr7, mr10, mr40, mr160, ml4, ml6, ml7, ml10, ml40, ml160, gu_ib, nI_nat, bi_s, vl_e, gu_t, if_true, if_false, reduceIte, bt1_1, bt1_2, bt1_3, bt1_4, bt1_5, bt1_6, bt1_7, bt1_8, bt1_9, bt1_10, bt1_11, bt1_12, bt14_1, bt14_2, bt14_3, bt14_4, bt14_5, bt14_6, bt14_7, bt14_8, bt14_9, bt14_10, bt14_11, bt14_12, nge', r24, r11]
          rw [if_neg (by omega)]
          refine kw _ ⟨FrL.wL R.1 rfl, fun j hj => ?_, fun i hi => ?_⟩
          · rw [wL_s, if_neg (by omega)]; exact R.2.1 j (by omega)
          · rw [wL_s]
            by_cases e : i = k
            · rw [if_pos (by omega), e, ← z_neg, Int64.sub_eq_add_neg]
            · rw [if_neg (by omega)]; exact R.2.2 i (by omega)
        · intro n w R
          have nge' : w.1 (b + 7) l = nI (ng s l) := by rw [R.1.1, YF.1]; exact nge
          simp (disch := omega) only [D_X0_takeBackParts_10, li0, li1, li2, li3, li4, li5, li6, li7, li8, li9, li10, li12, li24, li31, li40, li160, n_le, n_lt, n_eq, n_m1, n_add, mr4, mr6, mr7, mr10, mr40, mr160, ml4, ml6, ml7, ml10, ml40, ml160, gu_ib, nI_nat, bi_s, vl_e, gu_t, if_true, if_false, reduceIte, bt1_1, bt1_2, bt1_3, bt1_4, bt1_5, bt1_6, bt1_7, bt1_8, bt1_9, bt1_10, bt1_11, bt1_12, bt14_1, bt14_2, bt14_3, bt14_4, bt14_5, bt14_6, bt14_7, bt14_8, bt14_9, bt14_10, bt14_11, bt14_12, nge']
          rw [if_pos (by omega)]
          exact Ok.s ⟨R.1, fun j hj => R.2.1 j (by omega), R.2.2⟩
      · refine kk _ ⟨YF.tr (pw'.1.mo fun q z => by omega), fun q hq => ?_, fun p k hp hi hk => ?_⟩
        · rw [pw'.1.L (by omega)]; exact A6 q hq
        · have p4 := IvT_ng H.T hp
          by_cases c : p = l
          · rw [c] at hk ⊢
            rw [pw'.2.2 k hk, Y11, K11 l k l4 i1 hk, if_neg (by omega), if_pos (by omega), zz]
          · rw [pw'.2.1 _ (by omega), Y11, K11 p k hp hi hk]
            by_cases a : p < l
            · rw [if_pos a, if_pos (by omega)]
            · rw [if_neg a, if_neg (by omega)]
  · intro n x P
    obtain ⟨P1, K6, K11⟩ := P
    have cl : x.1 (b + 1) 13 = nI (cL s) := by rw [P1.1]; exact C_cL C
    simp (disch := omega) only [D_X0_takeBack_16, li0, li1, li2, li3, li4, li5, li6, li7, li8, li9, li10, li12, li24, li31, li40, li160, n_le, n_lt, n_eq, n_m1, n_add, mr4, mr6, mr7, mr10, mr40, mr160, ml4, ml6, ml7, ml10, ml40, ml160, gu_ib, nI_nat, bi_s, vl_e, gu_t, if_true, if_false, reduceIte, bt1_1, bt1_2, bt1_3, bt1_4, bt1_5, bt1_6, bt1_7, bt1_8, bt1_9, bt1_10, bt1_11, bt1_12, bt14_1, bt14_2, bt14_3, bt14_4, bt14_5, bt14_6, bt14_7, bt14_8, bt14_9, bt14_10, bt14_11, bt14_12, cl]
    rw [if_pos (by omega)]
    refine Ok.b (c_clrRows hf hh) fun w pw' => ?_
    obtain ⟨W, W1, W2, W3, W4⟩ := pw'
    have F : FrL (fun q => b ≤ q ∧ q ≤ b + 28) μ w := (P1.mo fun q z => by omega).tr (W.mo fun q z => by omega)
    refine Ok.s ⟨rfl, F, RCa_L F.1 C.a, RCb_L F.1 C.b, fun l hl h0 => ?_, fun l k hl h0 hk => ?_, fun g hg h0 => ?_, fun g l hg h0 hl => ?_, fun g l hg h0 hl => ?_, fun g l hg h0 hl => ?_, fun g j hg h0 hj => ?_, fun g i hg h0 hi hp => ?_, fun g hg h0 => ?_, fun g r hg h0 hr => ?_⟩
    · show w.2.1 (b + 6) l = zL (us (clrH s h) l)
      have := IvT_cL H.T hl h0
      rw [W.L (by omega), K6 l hl, if_pos this, C_us C hl h0, z_add, clr_us s h hl]; congr 1
    · show w.2.1 (b + 11) (4 * l + k) = zL (sm (fun g => hd (clrH s h) (160 * g + 4 * l + k)) 24)
      have := IvT_cL H.T hl h0
      have hk' : k < ng s l := hk
      have n4 := IvT_ng H.T hl
      rw [W.L (by omega), K11 l k hl h0 hk, if_pos this, C_ha C hl h0 hk, z_add]
      congr 1
      refine (sm_up (k := h) hh (fun g hg ne => ?_) ?_).symm
      · rw [show 160 * g + 4 * l + k = 160 * g + (4 * l + k) by omega, clr_hd s h g (by omega), if_neg ne]
      · rw [show 160 * h + 4 * l + k = 160 * h + (4 * l + k) by omega, clr_hd s h h (by omega), if_pos rfl]; omega
    · show w.2.1 (b + 19) g = zL (lo (clrH s h) g)
      rw [clr_lo, W.L (by omega), P1.L (by omega)]; exact C_lo C hg h0
    · show w.2.1 (b + 21) (40 * g + l) = zL ((clrH s h).2 2 (40 * g + l))
      rw [clr_t s h 2 g (by omega) hl, W1 _ g l (by omega) (by omega) hl, P1.L (by omega)]
      split
      · rfl
      · exact C_tk C hg h0 hl
    · show w.2.1 (b + 22) (40 * g + l) = zL ((clrH s h).2 3 (40 * g + l))
      rw [clr_t s h 3 g (by omega) hl, W1 _ g l (by omega) (by omega) hl, P1.L (by omega)]
      split
      · rfl
      · exact C_th C hg h0 hl
    · show w.2.1 (b + 23) (40 * g + l) = zL ((clrH s h).2 4 (40 * g + l))
      rw [clr_t s h 4 g (by omega) hl, W1 _ g l (by omega) (by omega) hl, P1.L (by omega)]
      split
      · rfl
      · exact C_mv C hg h0 hl
    · show w.2.1 (b + 24) (160 * g + j) = zL (hd (clrH s h) (160 * g + j))
      rw [clr_hd s h g hj, W2 g j hj, P1.L (by omega)]
      split
      · rfl
      · exact C_hd C hg h0 hj
    · show w.2.1 (b + 25) (10 * g + i) = zL (br (clrH s h) (10 * g + i))
      rw [clr_br s h g hi, W3 g i hi, P1.L (by omega)]
      split
      · rfl
      · exact C_br C hg h0 hi hp
    · show w.2.1 (b + 25) (10 * g) = zL (sm (fun r => fl (clrH s h) (7 * g + r)) 7)
      have w0 : w.2.1 (b + 25) (10 * g) = if g = h then zL 0 else x.2.1 (b + 25) (10 * g) := W3 g 0 (by decide)
      rw [w0, P1.L (by omega)]
      by_cases e : g = h
      · rw [if_pos e, sm_z (fun r hr => by rw [clr_fl s h g hr, if_pos e])]
      · rw [if_neg e, C_b0 C hg h0]; congr 1
        exact sm_congr fun r hr => by rw [clr_fl s h g hr, if_neg e]
    · show w.2.1 (b + 26) (7 * g + r) = zL (fl (clrH s h) (7 * g + r))
      rw [clr_fl s h g hr, W4 g r hr, P1.L (by omega)]
      split
      · rfl
      · exact C_fl C hg h0 hr
