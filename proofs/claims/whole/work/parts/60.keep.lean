/-! what comes of an amount is kept -/
theorem RCa_n {b : Nat} {μ : Mem} {n m : Nat → Nat → Nat} (e : ∀ g, g ≤ 12 → m g = n g) (H : RCa b μ n) : RCa b μ m := by
  have k : ∀ l q, tnI (m, fun _ _ => 0) l q = tnI (n, fun _ _ => 0) l q := fun l q => tnI_c (s := (n, fun _ _ => 0)) (t := (m, fun _ _ => 0)) (e 7 (by decide)) l q
  simp only [RCa, k, e 0 (by decide), e 1 (by decide), e 2 (by decide), e 3 (by decide), e 4 (by decide), e 5 (by decide), e 6 (by decide), e 7 (by decide), e 8 (by decide), e 9 (by decide), e 11 (by decide), e 12 (by decide)] at H ⊢
  exact H
theorem RCb_n {b : Nat} {μ : Mem} {n m : Nat → Nat → Nat} (e : ∀ g, 13 ≤ g → g ≤ 21 → m g = n g) (H : RCb b μ n) : RCb b μ m := by
  simp only [RCb, e 13 (by decide) (by decide), e 14 (by decide) (by decide), e 15 (by decide) (by decide), e 16 (by decide) (by decide), e 17 (by decide) (by decide), e 18 (by decide) (by decide), e 19 (by decide) (by decide), e 20 (by decide) (by decide), e 21 (by decide) (by decide)] at H ⊢
  exact H
theorem RCz_n {b : Nat} {μ : Mem} {n m : Nat → Nat → Nat} {z y : Nat → Nat → Int} (e0 : m 0 = n 0) (e5 : m 5 = n 5) (e13 : m 13 = n 13) (ez : y = z) (H : RCz b μ n z) : RCz b μ m y := by
  subst ez
  simp only [RCz, e0, e5, e13] at H ⊢
  exact H
theorem ad_w {c w h l G : Nat} {x μ : Mem} {F : Nat → Int} (hw : ∀ g q, q < w → (w * g + q = w * h + l ↔ g = h ∧ q = l)) (K : ∀ g q, g < G → q < w → x.2.1 c (w * g + q) = μ.2.1 c (w * g + q) + zL (if g = h ∧ q < l then F q else 0)) (hh : h < G) (hl : l < w) : ∀ g q, g < G → q < w → (wL x c (w * h + l) (x.2.1 c (w * h + l) + zL (F l))).2.1 c (w * g + q) = μ.2.1 c (w * g + q) + zL (if g = h ∧ q < l + 1 then F q else 0) := fun g q hg hq => by
  rw [wL_2]
  by_cases e : g = h ∧ q = l
  · rw [if_pos ⟨rfl, (hw g q hq).mpr e⟩, e.1, e.2, K h l hh hl, if_neg (by omega), if_pos (by omega)]
    have : zL 0 = 0 := rfl
    rw [this, Int64.add_zero]
  · rw [if_neg (fun z => e ((hw g q hq).mp z.2)), K g q hg hq]
    by_cases a : g = h ∧ q < l
    · rw [if_pos a, if_pos (by omega)]
    · rw [if_neg a, if_neg (by omega)]
theorem ad_0 {c w h l G : Nat} {x μ : Mem} {F : Nat → Int} (K : ∀ g q, g < G → q < w → x.2.1 c (w * g + q) = μ.2.1 c (w * g + q) + zL (if g = h ∧ q < l then F q else 0)) (h0 : F l = 0) : ∀ g q, g < G → q < w → x.2.1 c (w * g + q) = μ.2.1 c (w * g + q) + zL (if g = h ∧ q < l + 1 then F q else 0) := fun g q hg hq => by
  rw [K g q hg hq]
  by_cases a : g = h ∧ q < l
  · rw [if_pos a, if_pos (by omega)]
  · rw [if_neg a]
    by_cases e : g = h ∧ q = l
    · rw [if_pos (by omega), e.2, h0]
    · rw [if_neg (by omega)]
theorem ae_w {c n l : Nat} {x μ : Mem} {F : Nat → Int} (K : ∀ q, q < n → x.2.1 c q = μ.2.1 c q + zL (if q < l then F q else 0)) (hl : l < n) : ∀ q, q < n → (wL x c l (x.2.1 c l + zL (F l))).2.1 c q = μ.2.1 c q + zL (if q < l + 1 then F q else 0) := fun q hq => by
  rw [wL_2]
  by_cases e : q = l
  · rw [if_pos ⟨rfl, e⟩, e, K l hl, if_neg (by omega), if_pos (by omega)]
    have : zL 0 = 0 := rfl
    rw [this, Int64.add_zero]
  · rw [if_neg (fun z => e z.2), K q hq]
    by_cases a : q < l
    · rw [if_pos a, if_pos (by omega)]
    · rw [if_neg a, if_neg (by omega)]
theorem ae_0 {c n l : Nat} {x μ : Mem} {F : Nat → Int} (K : ∀ q, q < n → x.2.1 c q = μ.2.1 c q + zL (if q < l then F q else 0)) (h0 : F l = 0) : ∀ q, q < n → x.2.1 c q = μ.2.1 c q + zL (if q < l + 1 then F q else 0) := fun q hq => by
  rw [K q hq]
  by_cases a : q < l
  · rw [if_pos a, if_pos (by omega)]
  · rw [if_neg a]
    by_cases e : q = l
    · rw [if_pos (by omega), e, h0]
    · rw [if_neg (by omega)]
theorem wL_sw {x y : Mem} {c i : Nat} {v : Int64} (e : y.2.1 c = x.2.1 c) : (wL y c i v).2.1 c = (wL x c i v).2.1 c := by funext j; rw [wL_2, wL_2, e]
theorem zz (v : Int64) : v + zL 0 = v := Int64.add_zero v
/-- amounts alone have changed, in A -/
def FrL (A : Nat → Prop) (μ μ' : Mem) : Prop := μ'.1 = μ.1 ∧ (∀ q, ¬ A q → μ'.2.1 q = μ.2.1 q) ∧ μ'.2.2 = μ.2.2
theorem FrL.rfl' {A : Nat → Prop} {μ : Mem} : FrL A μ μ := ⟨rfl, fun _ _ => rfl, rfl⟩
theorem FrL.tr {A : Nat → Prop} {μ μ1 μ2 : Mem} (h : FrL A μ μ1) (k : FrL A μ1 μ2) : FrL A μ μ2 := ⟨k.1.trans h.1, fun q hq => (k.2.1 q hq).trans (h.2.1 q hq), k.2.2.trans h.2.2⟩
theorem FrL.mo {A B : Nat → Prop} {μ μ1 : Mem} (h : FrL A μ μ1) (k : ∀ q, A q → B q) : FrL B μ μ1 := ⟨h.1, fun q hq => h.2.1 q fun z => hq (k q z), h.2.2⟩
theorem FrL.L {A : Nat → Prop} {μ μ1 : Mem} (h : FrL A μ μ1) {q : Nat} (hq : ¬ A q) : μ1.2.1 q = μ.2.1 q := h.2.1 q hq
theorem FrL.wL {A : Nat → Prop} {μ μ1 : Mem} (h : FrL A μ μ1) {c i : Nat} {x : Int64} (hc : A c) : FrL A μ (wL μ1 c i x) := ⟨h.1, fun q hq => by rw [wL_n (fun z : q = c => hq (z ▸ hc))]; exact h.2.1 q hq, h.2.2⟩
theorem FrL.F {A : Nat → Prop} {μ μ1 : Mem} (h : FrL A μ μ1) : Fr A μ μ1 := ⟨fun q hq => ⟨by rw [h.1], h.2.1 q hq⟩, h.2.2⟩
theorem RCa_L {b : Nat} {μ x : Mem} {n : Nat → Nat → Nat} (e : x.1 = μ.1) (H : RCa b μ n) : RCa b x n := by unfold RCa at *; rw [e]; exact H
theorem RCb_L {b : Nat} {μ x : Mem} {n : Nat → Nat → Nat} (e : x.1 = μ.1) (H : RCb b μ n) : RCb b x n := by unfold RCb at *; rw [e]; exact H
/-- parts of a layer are kept -/
theorem c_keepP {b N fu h l : Nat} {μ x : Mem} {s : Sp} {O : Oc} (hf : 200 < fu) (hb : b + 28 < 61) (hh : h < 24) (hl : l < 40) (h1 : isL s l = 1) (C : RCa b x s.1) (H : Iv N s) (hO : ∀ k, k < ng s l → x.2.1 66 (4 * l + k) = zL (O 3 (4 * l + k))) (hz : ∀ k, ng s l ≤ k → k < 4 → O 3 (4 * l + k) = 0)
    (K24 : ∀ g j, g < 24 → j < 160 → x.2.1 (b + 24) (160 * g + j) = μ.2.1 (b + 24) (160 * g + j) + zL (if g = h ∧ j < 4 * l then O 3 j else 0)) (K11 : ∀ j, j < 160 → x.2.1 (b + 11) j = μ.2.1 (b + 11) j + zL (if j < 4 * l then O 3 j else 0)) :
    Ok (D_X0_keepParts_0 fu b 62 (nI h) (nI l) x) (fun y => FrL (fun q => q = b + 11 ∨ q = b + 24) x y ∧ (∀ g j, g < 24 → j < 160 → y.2.1 (b + 24) (160 * g + j) = μ.2.1 (b + 24) (160 * g + j) + zL (if g = h ∧ j < 4 * (l + 1) then O 3 j else 0)) ∧ ∀ j, j < 160 → y.2.1 (b + 11) j = μ.2.1 (b + 11) j + zL (if j < 4 * (l + 1) then O 3 j else 0)) := by
  have n4 := IvT_ng H.T hl
  have nge : x.1 (b + 7) l = nI (ng s l) := RCa_ng C hl h1
  unfold D_X0_keepParts_0
  have e160 : nI h * 40 * 4 = nI (160 * h) := by
    rw [li40, li4, mr40, mr4]; congr 1; omega
  rw [e160]
  refine Ok.for (fun n k y => D_X0_keepParts_11 fu b 62 n (nI l) (nI (160 * h)) (nI k) y) (ng s l) (fun k y => FrL (fun q => q = b + 11 ∨ q = b + 24) x y ∧ (∀ g j, g < 24 → j < 160 → y.2.1 (b + 24) (160 * g + j) = μ.2.1 (b + 24) (160 * g + j) + zL (if g = h ∧ j < 4 * l + k then O 3 j else 0)) ∧ ∀ j, j < 160 → y.2.1 (b + 11) j = μ.2.1 (b + 11) j + zL (if j < 4 * l + k then O 3 j else 0)) ?_ ?_ fu 0 x (by omega) (by omega) ⟨FrL.rfl', K24, K11⟩
  · intro n k y hk P kk
    obtain ⟨P1, P2, P3⟩ := P
    have nge' : y.1 (b + 7) l = nI (ng s l) := by rw [P1.1]; exact nge
    have r66 : y.2.1 (62 + 4) (4 * l + k) = zL (O 3 (4 * l + k)) := by rw [P1.L (by omega)]; exact hO k hk
    simp (disch := omega) only [D_X0_keepParts_11, li0, li1, li2, li3, li4, li5, li6, li7, li8, li9, li10, li12, li24, li31, li40, li160, n_le, n_lt, n_eq, n_m1, n_add, mr4, mr6, mr7, mr10, mr40, mr160, ml4, ml6, ml7, ml10, ml40, ml160, gu_ib, nI_nat, bi_s, vl_e, gu_t, if_true, if_false, reduceIte, bt1_1, bt1_2, bt1_3, bt1_4, bt1_5, bt1_6, bt1_7, bt1_8, bt1_9, bt1_10, bt1_11, bt1_12, bt14_1, bt14_2, bt14_3, bt14_4, bt14_5, bt14_6, bt14_7, bt14_8, bt14_9, bt14_10, bt14_11, bt14_12, nge', r66, wL_n (show 62 + 4 ≠ b + 24 by omega), wL_n (show b + 11 ≠ b + 24 by omega)]
    rw [if_neg (by omega)]
    refine kk _ ⟨FrL.wL (FrL.wL P1 (Or.inr rfl)) (Or.inl rfl), ?_, ?_⟩
    · intro g j hg hj
      rw [wL_n (show b + 24 ≠ b + 11 by omega)]
      exact ad_w (fun g q hq => by omega) P2 hh (show 4 * l + k < 160 by omega) g j hg hj
    · intro j hj
      have K : ∀ j, j < 160 → (wL y (b + 24) (160 * h + (4 * l + k)) (y.2.1 (b + 24) (160 * h + (4 * l + k)) + zL (O 3 (4 * l + k)))).2.1 (b + 11) j = μ.2.1 (b + 11) j + zL (if j < 4 * l + k then O 3 j else 0) := fun j hj => by rw [wL_n (by omega)]; exact P3 j hj
      have := ae_w K (show 4 * l + k < 160 by omega) j hj
      rw [wL_n (show b + 11 ≠ b + 24 by omega)] at this
      exact this
  · intro n y P
    obtain ⟨P1, P2, P3⟩ := P
    have nge' : y.1 (b + 7) l = nI (ng s l) := by rw [P1.1]; exact nge
    simp (disch := omega) only [D_X0_keepParts_11, li0, li1, li2, li3, li4, li5, li6, li7, li8, li9, li10, li12, li24, li31, li40, li160, n_le, n_lt, n_eq, n_m1, n_add, mr4, mr6, mr7, mr10, mr40, mr160, ml4, ml6, ml7, ml10, ml40, ml160, gu_ib, nI_nat, bi_s, vl_e, gu_t, if_true, if_false, reduceIte, bt1_1, bt1_2, bt1_3, bt1_4, bt1_5, bt1_6, bt1_7, bt1_8, bt1_9, bt1_10, bt1_11, bt1_12, bt14_1, bt14_2, bt14_3, bt14_4, bt14_5, bt14_6, bt14_7, bt14_8, bt14_9, bt14_10, bt14_11, bt14_12, nge']
    rw [if_pos (by omega)]
    have up : ∀ j, j < 160 → ¬ j < 4 * l + ng s l → j < 4 * (l + 1) → O 3 j = 0 := fun j _ h2 h3 => by
      have := hz (j - 4 * l) (by omega) (by omega)
      rwa [show 4 * l + (j - 4 * l) = j by omega] at this
    refine Ok.s ⟨P1, fun g j hg hj => ?_, fun j hj => ?_⟩
    · rw [P2 g j hg hj]
      by_cases a : g = h ∧ j < 4 * l + ng s l
      · rw [if_pos a, if_pos (by omega)]
      · rw [if_neg a]
        by_cases c : g = h ∧ j < 4 * (l + 1)
        · rw [if_pos c, up j hj (by omega) c.2]
        · rw [if_neg c]
    · rw [P3 j hj]
      by_cases a : j < 4 * l + ng s l
      · rw [if_pos a, if_pos (by omega)]
      · rw [if_neg a]
        by_cases c : j < 4 * (l + 1)
        · rw [if_pos c, up j hj (by omega) c]
        · rw [if_neg c]
theorem c_keep {b N fu h : Nat} {μ : Mem} {s : Sp} {O : Oc} (hf : 200 < fu) (hb : b + 28 < 61) (hh : h < 24) (h1 : isH s h = 1) (C : RC b μ s) (H : Iv N s) (B : OB s h O) (P0 : CP μ s O) (O3 : ∀ l k, l < 40 → k < 4 → ¬ (0 < O 0 l ∧ k < ng s l) → O 3 (4 * l + k) = 0) (O2 : ∀ l, l < 40 → isL s l = 0 → O 2 l = 0) : Ok (D_X0_keep_0 fu b 62 (nI h) μ) (fun x => FrL (fun q => b ≤ q ∧ q ≤ b + 28) μ x ∧ RC b x (addO s h O)) := by
  have c4 := IvT_c40 H.T
  obtain ⟨Q63, Q64, Q65, Q67, Q670, Q68, Q66⟩ := P0
  have O9 := OB_9 H (show h < 25 by omega) B
  have noL : ∀ l, cL s ≤ l → l < 40 → isL s l = 0 := fun l h2 h3 => by
    rcases IvT_is H.T h3 with z | z
    · exact z
    · have := IvT_cL H.T h3 z; omega
  have isl : ∀ l, l < 40 → 0 < O 0 l → isL s l = 1 := fun l hl h0 => by
    rcases IvT_is H.T hl with z | z
    · have := ((B l hl).2 z).1; omega
    · exact z
  have sp : ∀ (F : FrL (fun q => b ≤ q ∧ q ≤ b + 28) μ μ), True := fun _ => trivial
  unfold D_X0_keep_0
  rw [show nI h * 40 = nI (40 * h) from mr40 h]
  refine Ok.for (fun n l x => D_X0_keep_8 fu b 62 n (nI h) (nI (40 * h)) (nI l) x) (cL s) (fun l x => FrL (fun q => q = b + 6 ∨ q = b + 11 ∨ b + 21 ≤ q ∧ q ≤ b + 24) μ x ∧ (∀ g q, g < 25 → q < 40 → x.2.1 (b + 21) (40 * g + q) = μ.2.1 (b + 21) (40 * g + q) + zL (if g = h ∧ q < l then O 0 q else 0)) ∧ (∀ g q, g < 25 → q < 40 → x.2.1 (b + 22) (40 * g + q) = μ.2.1 (b + 22) (40 * g + q) + zL (if g = h ∧ q < l then O 1 q else 0)) ∧ (∀ g q, g < 24 → q < 40 → x.2.1 (b + 23) (40 * g + q) = μ.2.1 (b + 23) (40 * g + q) + zL (if g = h ∧ q < l then O 2 q else 0)) ∧ (∀ q, q < 40 → x.2.1 (b + 6) q = μ.2.1 (b + 6) q + zL (if q < l then O 0 q else 0)) ∧ (∀ g j, g < 24 → j < 160 → x.2.1 (b + 24) (160 * g + j) = μ.2.1 (b + 24) (160 * g + j) + zL (if g = h ∧ j < 4 * l then O 3 j else 0)) ∧ ∀ j, j < 160 → x.2.1 (b + 11) j = μ.2.1 (b + 11) j + zL (if j < 4 * l then O 3 j else 0)) ?_ ?_ fu 0 μ (by omega) (by omega) ⟨FrL.rfl', fun g q _ _ => by rw [if_neg (by omega), zz], fun g q _ _ => by rw [if_neg (by omega), zz], fun g q _ _ => by rw [if_neg (by omega), zz], fun q _ => by rw [if_neg (by omega), zz], fun g q _ _ => by rw [if_neg (by omega), zz], fun q _ => by rw [if_neg (by omega), zz]⟩
  · intro n l x hl P kk
    obtain ⟨P1, K21, K22, K23, K6, K24, K11⟩ := P
    have l4 : l < 40 := by omega
    have cl : x.1 (b + 1) 13 = nI (cL s) := by rw [P1.1]; exact C_cL C
    have r64 : x.2.1 (62 + 2) l = zL (O 1 l) := by rw [P1.L (by omega)]; exact Q64 l l4
    have r65 : x.2.1 (62 + 3) l = zL (O 2 l) := by rw [P1.L (by omega)]; exact Q65 l l4
    have r63 : x.2.1 (62 + 1) l = zL (O 0 l) := by rw [P1.L (by omega)]; exact Q63 l l4
    have ob := O9.1 l l4
    have n22 : ∀ q, q ≠ b + 22 → ∀ v, (wL x (b + 22) (40 * h + l) v).2.1 q = x.2.1 q := fun q hq v => wL_n hq
    simp (disch := omega) only [D_X0_keep_8, D_X0_keep_126, li0, li1, li2, li3, li4, li5, li6, li7, li8, li9, li10, li12, li24, li31, li40, li160, n_le, n_lt, n_eq, n_m1, n_add, mr4, mr6, mr7, mr10, mr40, mr160, ml4, ml6, ml7, ml10, ml40, ml160, gu_ib, nI_nat, bi_s, vl_e, gu_t, if_true, if_false, reduceIte, bt1_1, bt1_2, bt1_3, bt1_4, bt1_5, bt1_6, bt1_7, bt1_8, bt1_9, bt1_10, bt1_11, bt1_12, bt14_1, bt14_2, bt14_3, bt14_4, bt14_5, bt14_6, bt14_7, bt14_8, bt14_9, bt14_10, bt14_11, bt14_12, ll0, ll1, ll2, ll10, ll2e9, cl, r64, wL_n (show 62 + 3 ≠ b + 22 by omega), wL_n (show 62 + 1 ≠ b + 22 by omega), wL_n (show 62 + 1 ≠ b + 23 by omega), wL_n (show 62 + 1 ≠ b + 21 by omega), wL_n (show b + 23 ≠ b + 22 by omega), wL_n (show b + 21 ≠ b + 22 by omega), wL_n (show b + 21 ≠ b + 23 by omega), wL_n (show b + 6 ≠ b + 22 by omega), wL_n (show b + 6 ≠ b + 23 by omega), wL_n (show b + 6 ≠ b + 21 by omega), r65, r63, z_le]
    rw [if_neg (by omega)]
    have A22 := ad_w (fun g q hq => by omega) K22 (show h < 25 by omega) l4
    have A23 := ad_w (fun g q hq => by omega) K23 hh l4
    generalize ey : wL (wL x (b + 22) (40 * h + l) (x.2.1 (b + 22) (40 * h + l) + zL (O 1 l))) (b + 23) (40 * h + l) (x.2.1 (b + 23) (40 * h + l) + zL (O 2 l)) = y
    have Y22 : ∀ g q, g < 25 → q < 40 → y.2.1 (b + 22) (40 * g + q) = μ.2.1 (b + 22) (40 * g + q) + zL (if g = h ∧ q < l + 1 then O 1 q else 0) := fun g q hg hq => by
      rw [← ey, wL_n (by omega)]; exact A22 g q hg hq
    have Y23 : ∀ g q, g < 24 → q < 40 → y.2.1 (b + 23) (40 * g + q) = μ.2.1 (b + 23) (40 * g + q) + zL (if g = h ∧ q < l + 1 then O 2 q else 0) := fun g q hg hq => by
      rw [← ey, wL_sw (wL_n (show b + 23 ≠ b + 22 by omega))]; exact A23 g q hg hq
    have Yo : ∀ q, q ≠ b + 22 → q ≠ b + 23 → y.2.1 q = x.2.1 q := fun q h2 h3 => by rw [← ey, wL_n h3, wL_n h2]
    have YF : FrL (fun q => q = b + 6 ∨ q = b + 11 ∨ b + 21 ≤ q ∧ q ≤ b + 24) μ y := by rw [← ey]; exact FrL.wL (FrL.wL P1 (by omega)) (by omega)
    by_cases q : O 0 l ≤ 0
    · rw [if_pos q]
      have z0 : O 0 l = 0 := by omega
      have z3 : ∀ k, k < 4 → O 3 (4 * l + k) = 0 := fun k hk => O3 l k l4 hk (by omega)
      refine kk _ ⟨YF, ?_, Y22, Y23, ?_, ?_, ?_⟩
      · exact ad_0 (fun g q hg hq => by rw [Yo _ (by omega) (by omega)]; exact K21 g q hg hq) z0
      · exact ae_0 (fun q hq => by rw [Yo _ (by omega) (by omega)]; exact K6 q hq) z0
      · intro g j hg hj
        rw [Yo _ (by omega) (by omega), K24 g j hg hj]
        by_cases a : g = h ∧ j < 4 * l
        · rw [if_pos a, if_pos (by omega)]
        · rw [if_neg a]
          by_cases c : g = h ∧ j < 4 * (l + 1)
          · have := z3 (j - 4 * l) (by omega)
            rw [show 4 * l + (j - 4 * l) = j by omega] at this
            rw [if_pos c, this]
          · rw [if_neg c]
      · intro j hj
        rw [Yo _ (by omega) (by omega), K11 j hj]
        by_cases a : j < 4 * l
        · rw [if_pos a, if_pos (by omega)]
        · rw [if_neg a]
          by_cases c : j < 4 * (l + 1)
          · have := z3 (j - 4 * l) (by omega)
            rw [show 4 * l + (j - 4 * l) = j by omega] at this
            rw [if_pos c, this]
          · rw [if_neg c]
    · rw [if_neg q]
      have i1 := isl l l4 (by omega)
      have A21 := ad_w (x := y) (μ := μ) (F := O 0) (fun g q hq => by omega) (fun g q hg hq => by rw [Yo (b + 21) (by omega) (by omega)]; exact K21 g q hg hq) (show h < 25 by omega) l4
      have A6 := ae_w (x := y) (μ := μ) (F := O 0) (fun q hq => by rw [Yo (b + 6) (by omega) (by omega)]; exact K6 q hq) l4
      rw [Yo (b + 21) (by omega) (by omega)] at A21
      rw [Yo (b + 6) (by omega) (by omega)] at A6
      generalize ew : wL (wL y (b + 21) (40 * h + l) (x.2.1 (b + 21) (40 * h + l) + zL (O 0 l))) (b + 6) l (x.2.1 (b + 6) l + zL (O 0 l)) = w
      have W21 : ∀ g q, g < 25 → q < 40 → w.2.1 (b + 21) (40 * g + q) = μ.2.1 (b + 21) (40 * g + q) + zL (if g = h ∧ q < l + 1 then O 0 q else 0) := fun g q hg hq => by
        rw [← ew, wL_n (by omega)]; exact A21 g q hg hq
      have W6 : ∀ q, q < 40 → w.2.1 (b + 6) q = μ.2.1 (b + 6) q + zL (if q < l + 1 then O 0 q else 0) := fun q hq => by
        rw [← ew, wL_sw (wL_n (show b + 6 ≠ b + 21 by omega))]; exact A6 q hq
      have Wo : ∀ q, q ≠ b + 21 → q ≠ b + 6 → w.2.1 q = y.2.1 q := fun q h2 h3 => by rw [← ew, wL_n h3, wL_n h2]
      have WF : FrL (fun q => q = b + 6 ∨ q = b + 11 ∨ b + 21 ≤ q ∧ q ≤ b + 24) μ w := by rw [← ew]; exact FrL.wL (FrL.wL YF (by omega)) (by omega)
      refine Ok.b (c_keepP (μ := μ) (O := O) hf hb hh l4 i1 (RCa_L WF.1 C.a) H (fun k hk => by
        rw [WF.L (by omega)]; exact Q66 l k l4 (by omega) hk) (fun k h2 h3 => O3 l k l4 h3 (by omega)) (fun g j hg hj => by
        rw [Wo _ (by omega) (by omega), Yo _ (by omega) (by omega)]; exact K24 g j hg hj) (fun j hj => by
        rw [Wo _ (by omega) (by omega), Yo _ (by omega) (by omega)]; exact K11 j hj)) fun v pv => ?_
      refine kk _ ⟨WF.tr (pv.1.mo fun q z => by omega), fun g q hg hq => ?_, fun g q hg hq => ?_, fun g q hg hq => ?_, fun q hq => ?_, pv.2.1, pv.2.2⟩
      · rw [pv.1.L (by omega)]; exact W21 g q hg hq
      · rw [pv.1.L (by omega), Wo _ (by omega) (by omega)]; exact Y22 g q hg hq
      · rw [pv.1.L (by omega), Wo _ (by omega) (by omega)]; exact Y23 g q hg hq
      · rw [pv.1.L (by omega)]; exact W6 q hq
  · intro n x P
    obtain ⟨P1, K21, K22, K23, K6, K24, K11⟩ := P
    have cl : x.1 (b + 1) 13 = nI (cL s) := by rw [P1.1]; exact C_cL C
    simp (disch := omega) only [D_X0_keep_8, li0, li1, li2, li3, li4, li5, li6, li7, li8, li9, li10, li12, li24, li31, li40, li160, n_le, n_lt, n_eq, n_m1, n_add, mr4, mr6, mr7, mr10, mr40, mr160, ml4, ml6, ml7, ml10, ml40, ml160, gu_ib, nI_nat, bi_s, vl_e, gu_t, if_true, if_false, reduceIte, bt1_1, bt1_2, bt1_3, bt1_4, bt1_5, bt1_6, bt1_7, bt1_8, bt1_9, bt1_10, bt1_11, bt1_12, bt14_1, bt14_2, bt14_3, bt14_4, bt14_5, bt14_6, bt14_7, bt14_8, bt14_9, bt14_10, bt14_11, bt14_12, cl]
    rw [if_pos (by omega)]
    refine Ok.for (fun n i y => D_X0_keep_135 fu b 62 n (nI h) (nI i) y) 10 (fun i y => FrL (fun q => q = b + 25) x y ∧ ∀ g q, g < 24 → q < 10 → y.2.1 (b + 25) (10 * g + q) = x.2.1 (b + 25) (10 * g + q) + zL (if g = h ∧ q < i then (if q = 0 then sm (O 5) 7 else O 4 q) else 0)) ?_ ?_ fu 0 x (by omega) (by omega) ⟨FrL.rfl', fun g q _ _ => by rw [if_neg (by omega), zz]⟩
    · intro n i y hi R kk
      have r67 : y.2.1 (62 + 5) i = zL (if i = 0 then sm (O 5) 7 else O 4 i) := by
        rw [R.1.L (by omega), P1.L (by omega)]
        by_cases q : i = 0
        · rw [if_pos q, q]; exact Q670
        · rw [if_neg q]; exact Q67 i hi (by omega)
      simp (disch := omega) only [D_X0_keep_135, li0, li1, li2, li3, li4, li5, li6, li7, li8, li9, li10, li12, li24, li31, li40, li160, n_le, n_lt, n_eq, n_m1, n_add, mr4, mr6, mr7, mr10, mr40, mr160, ml4, ml6, ml7, ml10, ml40, ml160, gu_ib, nI_nat, bi_s, vl_e, gu_t, if_true, if_false, reduceIte, bt1_1, bt1_2, bt1_3, bt1_4, bt1_5, bt1_6, bt1_7, bt1_8, bt1_9, bt1_10, bt1_11, bt1_12, bt14_1, bt14_2, bt14_3, bt14_4, bt14_5, bt14_6, bt14_7, bt14_8, bt14_9, bt14_10, bt14_11, bt14_12, r67]
      rw [if_neg (by omega)]
      exact kk _ ⟨FrL.wL R.1 rfl, ad_w (F := fun q => if q = 0 then sm (O 5) 7 else O 4 q) (fun g q hq => by omega) R.2 hh hi⟩
    · intro n y R
      simp (disch := omega) only [D_X0_keep_135, li0, li1, li2, li3, li4, li5, li6, li7, li8, li9, li10, li12, li24, li31, li40, li160, n_le, n_lt, n_eq, n_m1, n_add, mr4, mr6, mr7, mr10, mr40, mr160, ml4, ml6, ml7, ml10, ml40, ml160, gu_ib, nI_nat, bi_s, vl_e, gu_t, if_true, if_false, reduceIte, bt1_1, bt1_2, bt1_3, bt1_4, bt1_5, bt1_6, bt1_7, bt1_8, bt1_9, bt1_10, bt1_11, bt1_12, bt14_1, bt14_2, bt14_3, bt14_4, bt14_5, bt14_6, bt14_7, bt14_8, bt14_9, bt14_10, bt14_11, bt14_12]
      rw [if_pos (by omega)]
      refine Ok.for (fun n r w => D_X0_keep_176 fu b 62 n (nI h) (nI r) w) 7 (fun r w => FrL (fun q => q = b + 26) y w ∧ ∀ g q, g < 24 → q < 7 → w.2.1 (b + 26) (7 * g + q) = y.2.1 (b + 26) (7 * g + q) + zL (if g = h ∧ q < r then O 5 q else 0)) ?_ ?_ fu 0 y (by omega) (by omega) ⟨FrL.rfl', fun g q _ _ => by rw [if_neg (by omega), zz]⟩
      · intro n r w hr T kk
        have r68 : w.2.1 (62 + 6) r = zL (O 5 r) := by rw [T.1.L (by omega), R.1.L (by omega), P1.L (by omega)]; exact Q68 r hr
        simp (disch := omega) only [D_X0_keep_176, li0, li1, li2, li3, li4, li5, li6, li7, li8, li9, li10, li12, li24, li31, li40, li160, n_le, n_lt, n_eq, n_m1, n_add, mr4, mr6, mr7, mr10, mr40, mr160, ml4, ml6, ml7, ml10, ml40, ml160, gu_ib, nI_nat, bi_s, vl_e, gu_t, if_true, if_false, reduceIte, bt1_1, bt1_2, bt1_3, bt1_4, bt1_5, bt1_6, bt1_7, bt1_8, bt1_9, bt1_10, bt1_11, bt1_12, bt14_1, bt14_2, bt14_3, bt14_4, bt14_5, bt14_6, bt14_7, bt14_8, bt14_9, bt14_10, bt14_11, bt14_12, r68]
        rw [if_neg (by omega)]
        exact kk _ ⟨FrL.wL T.1 rfl, ad_w (fun g q hq => by omega) T.2 hh hr⟩
      · intro n w T
        simp (disch := omega) only [D_X0_keep_176, li0, li1, li2, li3, li4, li5, li6, li7, li8, li9, li10, li12, li24, li31, li40, li160, n_le, n_lt, n_eq, n_m1, n_add, mr4, mr6, mr7, mr10, mr40, mr160, ml4, ml6, ml7, ml10, ml40, ml160, gu_ib, nI_nat, bi_s, vl_e, gu_t, if_true, if_false, reduceIte, bt1_1, bt1_2, bt1_3, bt1_4, bt1_5, bt1_6, bt1_7, bt1_8, bt1_9, bt1_10, bt1_11, bt1_12, bt14_1, bt14_2, bt14_3, bt14_4, bt14_5, bt14_6, bt14_7, bt14_8, bt14_9, bt14_10, bt14_11, bt14_12]
        rw [if_pos (by omega)]
        have F : FrL (fun q => b ≤ q ∧ q ≤ b + 28) μ w := ((P1.mo fun q z => by omega).tr (R.1.mo fun q z => by omega)).tr (T.1.mo fun q z => by omega)
        have wo : ∀ q, q ≠ b + 25 → q ≠ b + 26 → w.2.1 q = x.2.1 q := fun q h2 h3 => by rw [T.1.L h3, R.1.L h2]
        refine Ok.s ⟨F, RCa_L F.1 C.a, RCb_L F.1 C.b, fun l hl h0 => ?_, fun l k hl h0 hk => ?_, fun g hg h0 => ?_, fun g l hg h0 hl => ?_, fun g l hg h0 hl => ?_, fun g l hg h0 hl => ?_, fun g j hg h0 hj => ?_, fun g i hg h0 hi hp => ?_, fun g hg h0 => ?_, fun g r hg h0 hr => ?_⟩
        · show w.2.1 (b + 6) l = zL (us (addO s h O) l)
          have := IvT_cL H.T hl h0
          rw [wo _ (by omega) (by omega), K6 l hl, if_pos this, C_us C hl h0, z_add, add_us s h O hl]
        · show w.2.1 (b + 11) (4 * l + k) = zL (sm (fun g => hd (addO s h O) (160 * g + 4 * l + k)) 24)
          have := IvT_cL H.T hl h0
          have hk' : k < ng s l := hk
          have n4 := IvT_ng H.T hl
          rw [wo _ (by omega) (by omega), K11 _ (by omega), if_pos (by omega), C_ha C hl h0 hk, z_add]
          congr 1
          refine (sm_up (k := h) hh (fun g hg ne => ?_) ?_).symm
          · rw [show 160 * g + 4 * l + k = 160 * g + (4 * l + k) by omega, add_hd s h O g (by omega), if_neg ne, Int.add_zero]
          · rw [show 160 * h + 4 * l + k = 160 * h + (4 * l + k) by omega, add_hd s h O h (by omega), if_pos rfl]
        · show w.2.1 (b + 19) g = zL (lo (addO s h O) g)
          rw [add_lo, wo _ (by omega) (by omega), P1.L (by omega)]; exact C_lo C hg h0
        · show w.2.1 (b + 21) (40 * g + l) = zL (tk (addO s h O) (40 * g + l))
          rw [add_tk s h O g hl, wo _ (by omega) (by omega), K21 g l hg hl, C_tk C hg h0 hl, z_add]
          by_cases e : g = h
          · rw [if_pos e]
            by_cases c : l < cL s
            · rw [if_pos ⟨e, c⟩]
            · rw [if_neg (fun z => c z.2), O9.2 l (by omega) hl]
          · rw [if_neg e, if_neg (fun z => e z.1)]
        · show w.2.1 (b + 22) (40 * g + l) = zL (th (addO s h O) (40 * g + l))
          rw [add_th s h O g hl, wo _ (by omega) (by omega), K22 g l hg hl, C_th C hg h0 hl, z_add]
          by_cases e : g = h
          · rw [if_pos e]
            by_cases c : l < cL s
            · rw [if_pos ⟨e, c⟩]
            · rw [if_neg (fun z => c z.2), ((B l hl).2 (noL l (by omega) hl)).2]
          · rw [if_neg e, if_neg (fun z => e z.1)]
        · show w.2.1 (b + 23) (40 * g + l) = zL (mv (addO s h O) (40 * g + l))
          rw [add_mv s h O g hl, wo _ (by omega) (by omega), K23 g l hg hl, C_mv C hg h0 hl, z_add]
          by_cases e : g = h
          · rw [if_pos e]
            by_cases c : l < cL s
            · rw [if_pos ⟨e, c⟩]
            · rw [if_neg (fun z => c z.2), O2 l hl (noL l (by omega) hl)]
          · rw [if_neg e, if_neg (fun z => e z.1)]
        · show w.2.1 (b + 24) (160 * g + j) = zL (hd (addO s h O) (160 * g + j))
          rw [add_hd s h O g hj, wo _ (by omega) (by omega), K24 g j hg hj, C_hd C hg h0 hj, z_add]
          by_cases e : g = h
          · rw [if_pos e]
            by_cases c : j < 4 * cL s
            · rw [if_pos ⟨e, c⟩]
            · have z := O3 (j / 4) (j % 4) (by omega) (by omega) (fun z => by have := O9.2 (j / 4) (by omega) (by omega); omega)
              rw [show 4 * (j / 4) + j % 4 = j by omega] at z
              rw [if_neg (fun z => c z.2), z]
          · rw [if_neg e, if_neg (fun z => e z.1)]
        · show w.2.1 (b + 25) (10 * g + i) = zL (br (addO s h O) (10 * g + i))
          rw [add_br s h O g hi, T.1.L (by omega), R.2 g i hg hi, P1.L (by omega), C_br C hg h0 hi hp, z_add]
          by_cases e : g = h
          · rw [if_pos e, if_pos ⟨e, hi⟩, if_neg (by omega)]
          · rw [if_neg e, if_neg (fun z => e z.1)]
        · show w.2.1 (b + 25) (10 * g) = zL (sm (fun r => fl (addO s h O) (7 * g + r)) 7)
          have r0 : y.2.1 (b + 25) (10 * g) = x.2.1 (b + 25) (10 * g) + zL (if g = h ∧ 0 < 10 then (if 0 = 0 then sm (O 5) 7 else O 4 0) else 0) := R.2 g 0 hg (by decide)
          rw [T.1.L (by omega), r0, P1.L (by omega), C_b0 C hg h0, z_add]
          congr 1
          by_cases e : g = h
          · rw [if_pos ⟨e, by decide⟩, if_pos rfl, ← sm_add]
            exact sm_congr fun r hr => by rw [add_fl s h O g hr, if_pos e]
          · rw [if_neg (fun z => e z.1), Int.add_zero]
            exact sm_congr fun r hr => by rw [add_fl s h O g hr, if_neg e, Int.add_zero]
        · show w.2.1 (b + 26) (7 * g + r) = zL (fl (addO s h O) (7 * g + r))
          rw [add_fl s h O g hr, T.2 g r hg hr, R.1.L (by omega), P1.L (by omega), C_fl C hg h0 hr, z_add]
          by_cases e : g = h
          · rw [if_pos e, if_pos ⟨e, hr⟩]
          · rw [if_neg e, if_neg (fun z => e z.1)]
