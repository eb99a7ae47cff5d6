/-! a layer more, one more who signs; an event is carried out -/
theorem n_mx (a b : Nat) : (if a < b then nI b else nI a) = nI (max a b) := by
  by_cases q : a < b
  · rw [if_pos q, Nat.max_eq_right (by omega)]
  · rw [if_neg q, Nat.max_eq_left (by omega)]
section
variable {b N fu : Nat} {μ : Mem} {s : Sp}
theorem us_hd {N : Nat} {s : Sp} (H : Iv N s) {l : Nat} (hl : l < 40) (h0 : us s l ≤ 0) {h k : Nat} (hh : h < 24) (hk : k < 4) : hd s (160 * h + 4 * l + k) = 0 := by
  have e := IvH_us H.H hl
  have a : tk s (40 * h + l) ≤ sm (fun g => tk s (40 * g + l)) 24 := sm_at (f := fun g => tk s (40 * g + l)) (k := h) hh (fun i hi => (IvH_tk H.H (by omega) hl).1)
  have c := IvH_hd H.H (show h < 25 by omega) hl hk
  omega
theorem c_putSigner {l i n : Nat} (hf : 200 < fu) (hb : b + 28 < 61) (hl : l < 40) (hi : i < 10) (hn : 1 ≤ n) (hn2 : n ≤ 10) (C : RC b μ s) (H : Iv N s) : Ok (D_X5_putSigner_0 fu (b + 1) (nI l) (nI i) (nI n) μ) (fun r => (r.1 = true ↔ isL s l = 1 ∧ ng s l < 4 ∧ tnI s l (ng s l) + n ≤ 10 ∧ us s l ≤ 0 ∧ ∀ k, k < ng s l → sg s (4 * l + k) ≠ i) ∧ (r.1 = false → r.2 = μ) ∧ (r.1 = true → Fr (fun q => b ≤ q ∧ q ≤ b + 28) μ r.2 ∧ RC b r.2 (uN' (uN' (uN' s 6 (4 * l + ng s l) i) 7 (4 * l + ng s l) n) 5 l (ng s l + 1)))) := by
  unfold D_X5_putSigner_0 D_X5_isThere_0
  rcases IvT_is H.T hl with z0 | z1
  · simp (disch := omega) only [li0, li1, li2, li3, li4, li5, li6, li7, li8, li9, li10, li12, li24, li31, li40, li160, n_le, n_lt, n_eq, n_m1, n_add, mr4, mr6, mr7, mr10, mr40, mr160, ml4, ml6, ml7, ml10, ml40, ml160, gu_ib, nI_nat, bi_s, vl_e, gu_t, if_true, if_false, reduceIte, bt1_1, bt1_2, bt1_3, bt1_4, bt1_5, bt1_6, bt1_7, bt1_8, bt1_9, bt1_10, bt1_11, bt1_12, bt14_1, bt14_2, bt14_3, bt14_4, bt14_5, bt14_6, bt14_7, bt14_8, bt14_9, bt14_10, bt14_11, bt14_12, C_y0 C hl z0, ↓reduceIte]
    rw [if_neg (by decide)]
    exact Ok.s ⟨⟨fun z => absurd z (by simp), fun z => by omega⟩, fun _ => rfl, fun z => absurd z (by simp)⟩
  · have n4 := IvT_ng H.T hl
    have y12 := IvT_yr H.T hl z1
    have tt := IvT_tt H.T hl
    have ub := lf_b hl z1 H
    have uz : us s l < 9223372036854775808 := by
      have a1 := IvH_ul H.H hl z1
      have a2 := IvT_sz H.T hl z1
      have a3 := IvT_tm H.T hl z1
      have a4 : (sz s l : Int) * (tm s l : Int) ≤ 100000000 * 4 := Int.mul_le_mul (by omega) (by omega) (by omega) (by omega)
      omega
    have tb := tbS_le H.T hl i (Nat.le_refl (ng s l))
    have t0 := tbS_0 H.T hl (i := i) (Nat.le_refl (ng s l))
    have yr' : ¬ (nI (yr s l) = (-1 : Int32)) := by rw [n_m1 (by omega)]; exact not_false
    rw [gu_ib hl (by omega), nI_nat (by omega), C_yr C hl z1, if_neg yr', bi_s, if_pos rfl]
    simp (disch := omega) only [li0, li1, li2, li3, li4, li5, li6, li7, li8, li9, li10, li12, li24, li31, li40, li160, n_le, n_lt, n_eq, n_m1, n_add, mr4, mr6, mr7, mr10, mr40, mr160, ml4, ml6, ml7, ml10, ml40, ml160, gu_ib, nI_nat, bi_s, vl_e, gu_t, if_true, if_false, reduceIte, bt1_1, bt1_2, bt1_3, bt1_4, bt1_5, bt1_6, bt1_7, bt1_8, bt1_9, bt1_10, bt1_11, bt1_12, bt14_1, bt14_2, bt14_3, bt14_4, bt14_5, bt14_6, bt14_7, bt14_8, bt14_9, bt14_10, bt14_11, bt14_12, ll0, ll1, ll2, ll10, ll2e9, C_ng C hl z1, C_tt C hl z1, C_us C hl z1, z_lt, c_tenthsBy hf hl z1 hi C H]
    by_cases q1 : 4 ≤ ng s l
    · rw [if_pos q1]
      exact Ok.s ⟨⟨fun z => absurd z (by simp), fun z => by omega⟩, fun _ => rfl, fun z => absurd z (by simp)⟩
    rw [if_neg q1]
    by_cases q2 : 10 < tnI s l (ng s l) + n
    · rw [if_pos q2]
      exact Ok.s ⟨⟨fun z => absurd z (by simp), fun z => by omega⟩, fun _ => rfl, fun z => absurd z (by simp)⟩
    rw [if_neg q2]
    by_cases q3 : 0 < us s l
    · rw [if_pos q3]
      exact Ok.s ⟨⟨fun z => absurd z (by simp), fun z => by omega⟩, fun _ => rfl, fun z => absurd z (by simp)⟩
    rw [if_neg q3]
    by_cases q4 : tbS s l i (ng s l) ≤ 0
    · rw [if_pos q4]
      have nos := t0.mp (by omega)
      rw [wL_1, wI_n (show b + 7 ≠ b + 10 by omega), wI_n (show b + 7 ≠ b + 9 by omega), C_ng C hl z1, wI_n (show b + 8 ≠ b + 7 by omega), wL_1, wI_n (show b + 8 ≠ b + 10 by omega), wI_n (show b + 8 ≠ b + 9 by omega), C_tt C hl z1, n_add, n_add]
      generalize ex : wI (wI (wL (wI (wI μ (b + 9) (4 * l + ng s l) (nI i)) (b + 10) (4 * l + ng s l) (nI n)) (b + 11) (4 * l + ng s l) (zL 0)) (b + 7) l (nI (ng s l + 1))) (b + 8) l (nI (tnI s l (ng s l) + n)) = x
      have X : ∀ q, q ≠ b + 7 → q ≠ b + 8 → q ≠ b + 9 → q ≠ b + 10 → x.1 q = μ.1 q := fun q h7 h8 h9 h10 => by subst ex; rw [wI_n h8, wI_n h7, wL_1, wI_n h10, wI_n h9]
      have X7 : ∀ q, x.1 (b + 7) q = if q = l then nI (ng s l + 1) else μ.1 (b + 7) q := fun q => by subst ex; rw [wI_n (by omega), wI_s, wL_1, wI_n (by omega), wI_n (by omega)]
      have X8 : ∀ q, x.1 (b + 8) q = if q = l then nI (tnI s l (ng s l) + n) else μ.1 (b + 8) q := fun q => by subst ex; rw [wI_s, wI_n (by omega), wL_1, wI_n (by omega), wI_n (by omega)]
      have X9 : ∀ q, x.1 (b + 9) q = if q = 4 * l + ng s l then nI i else μ.1 (b + 9) q := fun q => by subst ex; rw [wI_n (by omega), wI_n (by omega), wL_1, wI_n (by omega), wI_s]
      have X10 : ∀ q, x.1 (b + 10) q = if q = 4 * l + ng s l then nI n else μ.1 (b + 10) q := fun q => by subst ex; rw [wI_n (by omega), wI_n (by omega), wL_1, wI_s, wI_n (by omega)]
      have XL : ∀ q, q ≠ b + 11 → x.2.1 q = μ.2.1 q := fun q hq => by subst ex; rw [wI_L, wI_L, wL_n hq, wI_L, wI_L]
      have XL11 : ∀ q, x.2.1 (b + 11) q = if q = 4 * l + ng s l then zL 0 else μ.2.1 (b + 11) q := fun q => by subst ex; rw [wI_L, wI_L, wL_s, wI_L, wI_L]
      have XF : Fr (fun q => b ≤ q ∧ q ≤ b + 28) μ x := by subst ex; exact Fr.wI (Fr.wI (Fr.wL (Fr.wI (Fr.wI Fr.rfl' (by omega)) (by omega)) (by omega)) (by omega)) (by omega)
      generalize et : uN' (uN' (uN' s 6 (4 * l + ng s l) i) 7 (4 * l + ng s l) n) 5 l (ng s l + 1) = t
      have e5 : ∀ q, t.1 5 q = if q = l then ng s l + 1 else ng s q := fun q => by subst et; simp [ng, uN']
      have e6 : ∀ j, t.1 6 j = if j = 4 * l + ng s l then i else sg s j := fun j => by subst et; simp [sg, uN']
      have e7 : ∀ j, t.1 7 j = if j = 4 * l + ng s l then n else tn s j := fun j => by subst et; simp [tn, uN']
      have eo : ∀ g, g ≠ 5 → g ≠ 6 → g ≠ 7 → t.1 g = s.1 g := fun g a b c => by subst et; funext j; simp [uN', a, b, c]
      have e2 : t.2 = s.2 := by subst et; rfl
      have old : ∀ q k, q < 40 → k < t.1 5 q → ¬ (q = l ∧ k = ng s l) → k < ng s q ∧ ¬ 4 * q + k = 4 * l + ng s l := fun q k hq hk ne => by
        rw [e5] at hk
        have q4 := IvT_ng H.T hq
        by_cases a : q = l
        · rw [if_pos a] at hk; subst a; omega
        · rw [if_neg a] at hk; exact ⟨hk, by omega⟩
      have tl : ∀ q, q < 40 → ∀ m, m ≤ 4 → (q = l → m ≤ ng s l) → tnI (t.1, fun _ _ => 0) q m = tnI s q m := fun q hq m => by
        induction m with
        | zero => intro _ _; rfl
        | succ m ih =>
          intro h4 hm
          show tnI (t.1, fun _ _ => 0) q m + t.1 7 (4 * q + m) = tnI s q m + tn s (4 * q + m)
          rw [ih (by omega) (fun e => by have := hm e; omega), e7, if_neg (fun z => by
            have : q = l := by omega
            have := hm this
            omega)]
      refine Ok.s ⟨⟨fun _ => ⟨z1, by omega, by omega, by omega, nos⟩, fun _ => rfl⟩, fun z => absurd z (by simp), fun _ => ⟨XF, ?_, ?_, ?_⟩⟩
      · have o0 := eo 0 (by decide) (by decide) (by decide)
        refine ⟨fun q hq h0 => ?_, fun q hq h1 => ?_, fun q hq h1 => ?_, fun q hq h1 => ?_, fun q hq h1 => ?_, fun q hq h1 => ?_, fun q hq h1 => ?_, fun q k hq h1 hk => ?_, fun q k hq h1 hk => ?_, fun y hy => ?_, fun y k hy hk => ?_, ?_, ?_⟩
        · rw [X _ (by omega) (by omega) (by omega) (by omega)]; rw [o0] at h0; exact C_y0 C hq h0
        · rw [X _ (by omega) (by omega) (by omega) (by omega), eo 1 (by decide) (by decide) (by decide)]; rw [o0] at h1; exact C_yr C hq h1
        · rw [X _ (by omega) (by omega) (by omega) (by omega), eo 2 (by decide) (by decide) (by decide)]; rw [o0] at h1; exact C_fr C hq h1
        · rw [X _ (by omega) (by omega) (by omega) (by omega), eo 3 (by decide) (by decide) (by decide)]; rw [o0] at h1; exact C_sz C hq h1
        · rw [X _ (by omega) (by omega) (by omega) (by omega), eo 4 (by decide) (by decide) (by decide)]; rw [o0] at h1; exact C_tm C hq h1
        · rw [o0] at h1
          rw [X7, e5]; split
          · rfl
          · exact C_ng C hq h1
        · rw [o0] at h1
          rw [X8, e5]; split
          · rename_i e
            rw [e]
            show nI (tnI s l (ng s l) + n) = nI (tnI (t.1, fun _ _ => 0) l (ng s l) + t.1 7 (4 * l + ng s l))
            rw [tl l hl (ng s l) (by omega) (fun _ => Nat.le_refl _), e7, if_pos rfl]
          · rename_i ne
            rw [tl q hq (ng s q) (IvT_ng H.T hq) (fun z => absurd z ne)]; exact C_tt C hq h1
        · rw [o0] at h1
          rw [X9, e6]
          by_cases ne : q = l ∧ k = ng s l
          · rw [if_pos (by omega), if_pos (by omega)]
          · obtain ⟨a, c⟩ := old q k hq hk ne
            rw [if_neg c, if_neg c]; exact C_sg C hq h1 a
        · rw [o0] at h1
          rw [X10, e7]
          by_cases ne : q = l ∧ k = ng s l
          · rw [if_pos (by omega), if_pos (by omega)]
          · obtain ⟨a, c⟩ := old q k hq hk ne
            rw [if_neg c, if_neg c]; exact C_tn C hq h1 a
        · rw [X _ (by omega) (by omega) (by omega) (by omega), eo 8 (by decide) (by decide) (by decide)]; exact C_hg C hy
        · rw [X _ (by omega) (by omega) (by omega) (by omega), eo 9 (by decide) (by decide) (by decide)]; rw [eo 8 (by decide) (by decide) (by decide)] at hk; exact C_rg C hy hk
        · rw [X _ (by omega) (by omega) (by omega) (by omega), eo 11 (by decide) (by decide) (by decide)]; exact C_lk C
        · rw [X _ (by omega) (by omega) (by omega) (by omega), eo 12 (by decide) (by decide) (by decide)]; exact C_cL C
      · exact RCb_n (n := s.1) (fun g h1 h2 => eo g (by omega) (by omega) (by omega)) (RCb_frm (fun q h => X q (by omega) (by omega) (by omega) (by omega)) C.b)
      · rw [e2]
        have CZ := C.z
        have o0 := eo 0 (by decide) (by decide) (by decide)
        have o13 := eo 13 (by decide) (by decide) (by decide)
        refine ⟨?_, fun q k hq h1 hk => ?_, ?_, ?_, ?_, ?_, ?_, ?_, ?_, ?_⟩ <;> (try simp only [XL (b + 6) (by omega), XL (b + 19) (by omega), XL (b + 21) (by omega), XL (b + 22) (by omega), XL (b + 23) (by omega), XL (b + 24) (by omega), XL (b + 25) (by omega), XL (b + 26) (by omega), o0, o13])
        · exact CZ.1
        · rw [o0] at h1
          rw [XL11]
          by_cases ne : q = l ∧ k = ng s l
          · rw [if_pos (by omega), ne.1, ne.2]
            exact congrArg zL (sm_z fun h hh => us_hd H hl (by omega) hh (by omega)).symm
          · obtain ⟨a, c⟩ := old q k hq hk ne
            rw [if_neg c]; exact C_ha C hq h1 a
        · exact CZ.2.2.1
        · exact CZ.2.2.2.1
        · exact CZ.2.2.2.2.1
        · exact CZ.2.2.2.2.2.1
        · exact CZ.2.2.2.2.2.2.1
        · exact CZ.2.2.2.2.2.2.2.1
        · exact CZ.2.2.2.2.2.2.2.2.1
        · exact CZ.2.2.2.2.2.2.2.2.2
    · rw [if_neg q4]
      exact Ok.s ⟨⟨fun z => absurd z (by simp), fun z => absurd (t0.mpr z.2.2.2.2) (by omega)⟩, fun _ => rfl, fun z => absurd z (by simp)⟩
/-- rungs make place -/
theorem c_putR {y l f z t c : Nat} {Q : Bool × Mem → Prop} (hy : y < 12) (hc : c < 6) (hf9 : f ≤ 900000000) (F9 : ∀ j, j < c → rg s (6 * y + j) < 40 ∧ fr s (rg s (6 * y + j)) ≤ 900000000) (Fm : ∀ j, j < c → μ.1 (b + 3) (rg s (6 * y + j)) = nI (fr s (rg s (6 * y + j)))) :
    ∀ (k n : Nat) (x : Mem), k ≤ c → k < n → Fr (fun q => q = b + 12) μ x → (∀ j, j < k → x.1 (b + 12) (6 * y + j) = nI (rg s (6 * y + j))) → (∀ j, k < j → j ≤ c → x.1 (b + 12) (6 * y + j) = nI (rg s (6 * y + (j - 1)))) → (∀ j, j < 6 * y ∨ 6 * y + c < j → x.1 (b + 12) j = μ.1 (b + 12) j) →
      (∀ x', Fr (fun q => q = b + 12) μ x' → (∀ j, j < insP s y f k → x'.1 (b + 12) (6 * y + j) = nI (rg s (6 * y + j))) → (∀ j, insP s y f k < j → j ≤ c → x'.1 (b + 12) (6 * y + j) = nI (rg s (6 * y + (j - 1)))) → (∀ j, j < 6 * y ∨ 6 * y + c < j → x'.1 (b + 12) j = μ.1 (b + 12) j) → Ok (D_X5_put_96 fu (b + 1) (nI l) (nI y) (nI f) (nI z) (nI t) (nI (insP s y f k)) x') Q) → Ok (D_X5_put_46 fu (b + 1) n (nI l) (nI y) (nI f) (nI z) (nI t) (nI k) x) Q := by
  intro k
  induction k with
  | zero =>
    intro n x _ hn F h1 h2 h3 kk
    cases n with
    | zero => omega
    | succ n =>
      simp (disch := omega) only [D_X5_put_46, li0, li1, li2, li3, li4, li5, li6, li7, li8, li9, li10, li12, li24, li31, li40, li160, n_le, n_lt, n_eq, n_m1, n_add, mr4, mr6, mr7, mr10, mr40, mr160, ml4, ml6, ml7, ml10, ml40, ml160, gu_ib, nI_nat, bi_s, vl_e, gu_t, if_true, if_false, reduceIte, bt1_1, bt1_2, bt1_3, bt1_4, bt1_5, bt1_6, bt1_7, bt1_8, bt1_9, bt1_10, bt1_11, bt1_12, bt14_1, bt14_2, bt14_3, bt14_4, bt14_5, bt14_6, bt14_7, bt14_8, bt14_9, bt14_10, bt14_11, bt14_12]
      rw [if_pos (by omega)]
      exact kk x F h1 h2 h3
  | succ k ih =>
    intro n x hk hn F h1 h2 h3 kk
    cases n with
    | zero => omega
    | succ n =>
      have f9 := F9 k (by omega)
      have fm : x.1 (b + 3) (rg s (6 * y + k)) = nI (fr s (rg s (6 * y + k))) := by rw [F.I (by omega)]; exact Fm k (by omega)
      have la : D_X5_layerAt_0 x (b + 1) (nI y) (nI k) = some (nI (rg s (6 * y + k))) := by
        simp (disch := omega) only [D_X5_layerAt_0, li0, li1, li2, li3, li4, li5, li6, li7, li8, li9, li10, li12, li24, li31, li40, li160, n_le, n_lt, n_eq, n_m1, n_add, mr4, mr6, mr7, mr10, mr40, mr160, ml4, ml6, ml7, ml10, ml40, ml160, gu_ib, nI_nat, bi_s, vl_e, gu_t, if_true, if_false, reduceIte, bt1_1, bt1_2, bt1_3, bt1_4, bt1_5, bt1_6, bt1_7, bt1_8, bt1_9, bt1_10, bt1_11, bt1_12, bt14_1, bt14_2, bt14_3, bt14_4, bt14_5, bt14_6, bt14_7, bt14_8, bt14_9, bt14_10, bt14_11, bt14_12, h1 k (by omega)]
      simp (disch := omega) only [D_X5_put_46, li0, li1, li2, li3, li4, li5, li6, li7, li8, li9, li10, li12, li24, li31, li40, li160, n_le, n_lt, n_eq, n_m1, n_add, mr4, mr6, mr7, mr10, mr40, mr160, ml4, ml6, ml7, ml10, ml40, ml160, gu_ib, nI_nat, bi_s, vl_e, gu_t, if_true, if_false, reduceIte, bt1_1, bt1_2, bt1_3, bt1_4, bt1_5, bt1_6, bt1_7, bt1_8, bt1_9, bt1_10, bt1_11, bt1_12, bt14_1, bt14_2, bt14_3, bt14_4, bt14_5, bt14_6, bt14_7, bt14_8, bt14_9, bt14_10, bt14_11, bt14_12, n_sub, Nat.add_sub_cancel, la, fm]
      rw [if_neg (by omega)]
      by_cases q : fr s (rg s (6 * y + k)) ≤ f
      · rw [if_pos q]
        have e : insP s y f (k + 1) = k + 1 := by unfold insP; rw [if_neg (by omega)]
        have := kk x F (by rw [e]; exact h1) (by rw [e]; exact h2) h3
        rwa [e] at this
      · rw [if_neg q, show nI (k + 1) + -nI 1 = nI k from n_dec (by omega)]
        have e : insP s y f (k + 1) = insP s y f k := by
          conv => lhs; unfold insP
          rw [if_pos (by omega)]
        rw [e] at kk
        refine ih n _ (by omega) (by omega) (Fr.wI F rfl) (fun j hj => ?_) (fun j hj hjc => ?_) (fun j hj => ?_) kk
        · rw [wI_s, if_neg (by omega)]; exact h1 j (by omega)
        · rw [wI_s]
          by_cases ej : j = k + 1
          · rw [if_pos (by omega), ej, Nat.add_sub_cancel]
          · rw [if_neg (by omega)]; exact h2 j (by omega) hjc
        · rw [wI_s, if_neg (by omega)]; exact h3 j hj
theorem c_put {l y f z t : Nat} (hf : 200 < fu) (hb : b + 28 < 61) (hl : l < 40) (hy : y < 12) (hf9 : f ≤ 900000000) (hz : 1 ≤ z ∧ z ≤ 100000000) (ht : t ≤ 4) (h0 : isL s l = 0) (C : RC b μ s) (H : Iv N s) : Ok (D_X5_put_0 fu (b + 1) (nI l) (nI y) (nI f) (nI z) (nI t) μ) (fun r => (r.1 = true ↔ lkb s y = false ∧ hg s y < 6 ∧ fre s y f z) ∧ (r.1 = false → r.2 = μ) ∧ (r.1 = true → Fr (fun q => b ≤ q ∧ q ≤ b + 28) μ r.2 ∧ RC b r.2 (ptL s l y f z t))) := by
  have h6 := IvT_hg H.T hy
  have c4 := IvT_c40 H.T
  unfold D_X5_put_0
  simp (disch := omega) only [li0, li1, li2, li3, li4, li5, li6, li7, li8, li9, li10, li12, li24, li31, li40, li160, n_le, n_lt, n_eq, n_m1, n_add, mr4, mr6, mr7, mr10, mr40, mr160, ml4, ml6, ml7, ml10, ml40, ml160, gu_ib, nI_nat, bi_s, vl_e, gu_t, if_true, if_false, reduceIte, bt1_1, bt1_2, bt1_3, bt1_4, bt1_5, bt1_6, bt1_7, bt1_8, bt1_9, bt1_10, bt1_11, bt1_12, bt14_1, bt14_2, bt14_3, bt14_4, bt14_5, bt14_6, bt14_7, bt14_8, bt14_9, bt14_10, bt14_11, bt14_12, c_lacks hy C H, C_hg C hy]
  rw [if_neg (by omega)]
  by_cases q : lkb s y = true
  · rw [if_pos q]
    exact Ok.s ⟨⟨fun z => absurd z (by simp), fun z => by rw [z.1] at q; exact absurd q (by decide)⟩, fun _ => rfl, fun z => absurd z (by simp)⟩
  have q' : lkb s y = false := by cases e : lkb s y; rfl; exact absurd e q
  rw [if_neg q]
  by_cases q2 : 6 ≤ hg s y
  · rw [if_pos q2]
    exact Ok.s ⟨⟨fun z => absurd z (by simp), fun z => by omega⟩, fun _ => rfl, fun z => absurd z (by simp)⟩
  rw [if_neg q2]
  refine Ok.b (c_isFree hf hy hf9 hz.2 C H) fun r pr => ?_
  by_cases q3 : r = true
  · have fre' := pr.mp q3
    rw [if_pos q3]
    obtain ⟨p1, p2, p3⟩ := insP_s H.T hy hz.1 fre'
    refine c_putR (s := s) (c := hg s y) hy (by omega) hf9 (fun j hj => ⟨IvT_rg H.T hy hj, IvT_fr H.T (IvT_rg H.T hy hj) (IvT_ri H.T hy hj)⟩) (fun j hj => C_fr C (IvT_rg H.T hy hj) (IvT_ri H.T hy hj)) (hg s y) fu μ (Nat.le_refl _) (by omega) Fr.rfl' (fun j hj => C_rg C hy hj) (fun j h1 h2 => by omega) (fun j hj => rfl) fun x F r1 r2 r3 => ?_
    have x13 : x.1 (b + 13) y = nI (hg s y) := by rw [F.I (by omega)]; exact C_hg C hy
    have xc : x.1 (b + 1) 13 = nI (cL s) := by rw [F.I (by omega)]; exact C_cL C
    unfold D_X5_put_96
    simp (disch := omega) only [li0, li1, li2, li3, li4, li5, li6, li7, li8, li9, li10, li12, li24, li31, li40, li160, n_le, n_lt, n_eq, n_m1, n_add, mr4, mr6, mr7, mr10, mr40, mr160, ml4, ml6, ml7, ml10, ml40, ml160, gu_ib, nI_nat, bi_s, vl_e, gu_t, if_true, if_false, reduceIte, bt1_1, bt1_2, bt1_3, bt1_4, bt1_5, bt1_6, bt1_7, bt1_8, bt1_9, bt1_10, bt1_11, bt1_12, bt14_1, bt14_2, bt14_3, bt14_4, bt14_5, bt14_6, bt14_7, bt14_8, bt14_9, bt14_10, bt14_11, bt14_12, wI_n, wL_1, x13, xc, n_mx]
    generalize ew : wI (wI (wI (wL (wI (wI (wI (wI (wI (wI x (b + 12) (6 * y + insP s y f (hg s y)) (nI l)) (b + 13) y (nI (hg s y + 1))) (b + 2) l (nI y)) (b + 3) l (nI f)) (b + 4) l (nI z)) (b + 5) l (nI t)) (b + 6) l 0) (b + 7) l (nI 0)) (b + 8) l (nI 0)) (b + 1) 13 (nI (max (cL s) (l + 1))) = w
    have WF : Fr (fun q => b ≤ q ∧ q ≤ b + 28) μ w := by
      subst ew
      exact Fr.wI (Fr.wI (Fr.wI (Fr.wL (Fr.wI (Fr.wI (Fr.wI (Fr.wI (Fr.wI (Fr.wI (F.mo fun q z => by omega) (by omega)) (by omega)) (by omega)) (by omega)) (by omega)) (by omega)) (by omega)) (by omega)) (by omega)) (by omega)
    have wo : ∀ q, (q = b + 9 ∨ q = b + 10 ∨ q = b ∨ b + 14 ≤ q) → w.1 q = μ.1 q := fun q hq => by
      subst ew
      simp (disch := omega) only [wI_n, wL_1]
      exact F.I (by omega)
    have w2 : ∀ j, w.1 (b + 2) j = if j = l then nI y else μ.1 (b + 2) j := fun j => by subst ew; simp (disch := omega) only [wI_n, wI_s, wL_1]; rw [F.I (by omega)]
    have w3 : ∀ j, w.1 (b + 3) j = if j = l then nI f else μ.1 (b + 3) j := fun j => by subst ew; simp (disch := omega) only [wI_n, wI_s, wL_1]; rw [F.I (by omega)]
    have w4 : ∀ j, w.1 (b + 4) j = if j = l then nI z else μ.1 (b + 4) j := fun j => by subst ew; simp (disch := omega) only [wI_n, wI_s, wL_1]; rw [F.I (by omega)]
    have w5 : ∀ j, w.1 (b + 5) j = if j = l then nI t else μ.1 (b + 5) j := fun j => by subst ew; simp (disch := omega) only [wI_n, wI_s, wL_1]; rw [F.I (by omega)]
    have w7 : ∀ j, w.1 (b + 7) j = if j = l then nI 0 else μ.1 (b + 7) j := fun j => by subst ew; simp (disch := omega) only [wI_n, wI_s, wL_1]; rw [F.I (by omega)]
    have w8 : ∀ j, w.1 (b + 8) j = if j = l then nI 0 else μ.1 (b + 8) j := fun j => by subst ew; simp (disch := omega) only [wI_n, wI_s, wL_1]; rw [F.I (by omega)]
    have w13 : ∀ j, w.1 (b + 13) j = if j = y then nI (hg s y + 1) else μ.1 (b + 13) j := fun j => by subst ew; simp (disch := omega) only [wI_n, wI_s, wL_1]; rw [F.I (by omega)]
    have w12 : ∀ j, w.1 (b + 12) j = if j = 6 * y + insP s y f (hg s y) then nI l else x.1 (b + 12) j := fun j => by subst ew; simp (disch := omega) only [wI_n, wI_s, wL_1]
    have w1 : ∀ j, w.1 (b + 1) j = if j = 13 then nI (max (cL s) (l + 1)) else μ.1 (b + 1) j := fun j => by subst ew; simp (disch := omega) only [wI_n, wI_s, wL_1]; rw [F.I (by omega)]
    have wz : ∀ q, q ≠ b + 6 → q ≠ b + 12 → w.2.1 q = μ.2.1 q := fun q hq h12 => by
      subst ew
      rw [wI_L, wI_L, wI_L, wL_n hq, wI_L, wI_L, wI_L, wI_L, wI_L, wI_L]
      exact F.L h12
    have w6 : ∀ j, w.2.1 (b + 6) j = if j = l then 0 else μ.2.1 (b + 6) j := fun j => by
      subst ew
      rw [wI_L, wI_L, wI_L, wL_s, wI_L, wI_L, wI_L, wI_L, wI_L, wI_L, F.L (by omega)]
    have n0 := IvT_n0 H.T hl h0
    have isO : ∀ q, isL (ptL s l y f z t) q = 1 → q ≠ l → isL s q = 1 := fun q h1 ne => by rwa [pt_is, if_neg ne] at h1
    refine Ok.s ⟨⟨fun _ => ⟨q', by omega, fre'⟩, fun _ => rfl⟩, fun z => absurd z (by simp), fun _ => ⟨WF, ?_, ?_, ?_⟩⟩
    · refine ⟨fun q hq h1 => ?_, fun q hq h1 => ?_, fun q hq h1 => ?_, fun q hq h1 => ?_, fun q hq h1 => ?_, fun q hq h1 => ?_, fun q hq h1 => ?_, fun q k hq h1 hk => ?_, fun q k hq h1 hk => ?_, fun x' hx => ?_, fun x' k hx hk => ?_, ?_, ?_⟩
      · have h1' : isL (ptL s l y f z t) q = 0 := h1
        rw [pt_is] at h1'
        have ne : q ≠ l := fun e => by rw [if_pos e] at h1'; omega
        rw [if_neg ne] at h1'
        show w.1 (b + 2) q = -1
        rw [w2, if_neg ne]; exact C_y0 C hq h1'
      · show w.1 (b + 2) q = nI (yr (ptL s l y f z t) q)
        rw [w2, pt_yr]; split
        · rfl
        · rename_i ne; exact C_yr C hq (isO q h1 ne)
      · show w.1 (b + 3) q = nI (fr (ptL s l y f z t) q)
        rw [w3, pt_fr]; split
        · rfl
        · rename_i ne; exact C_fr C hq (isO q h1 ne)
      · show w.1 (b + 4) q = nI (sz (ptL s l y f z t) q)
        rw [w4, pt_sz]; split
        · rfl
        · rename_i ne; exact C_sz C hq (isO q h1 ne)
      · show w.1 (b + 5) q = nI (tm (ptL s l y f z t) q)
        rw [w5, pt_tm]; split
        · rfl
        · rename_i ne; exact C_tm C hq (isO q h1 ne)
      · show w.1 (b + 7) q = nI (ng s q)
        rw [w7]; split
        · rename_i e; rw [e, n0]
        · rename_i ne; exact C_ng C hq (isO q h1 ne)
      · show w.1 (b + 8) q = nI (tnI ((ptL s l y f z t).1, fun _ _ => 0) q (ng s q))
        rw [w8, show tnI ((ptL s l y f z t).1, fun _ _ => 0) q (ng s q) = tnI s q (ng s q) from tnI_c (s := s) (t := ((ptL s l y f z t).1, fun _ _ => 0)) rfl _ _]
        split
        · rename_i e; rw [e, n0]; rfl
        · rename_i ne; exact C_tt C hq (isO q h1 ne)
      · have hk' : k < ng s q := hk
        have ne : q ≠ l := fun e => by rw [e] at hk'; omega
        show w.1 (b + 9) (4 * q + k) = nI (sg s (4 * q + k))
        rw [wo _ (by omega)]; exact C_sg C hq (isO q h1 ne) hk'
      · have hk' : k < ng s q := hk
        have ne : q ≠ l := fun e => by rw [e] at hk'; omega
        show w.1 (b + 10) (4 * q + k) = nI (tn s (4 * q + k))
        rw [wo _ (by omega)]; exact C_tn C hq (isO q h1 ne) hk'
      · show w.1 (b + 13) x' = nI (hg (ptL s l y f z t) x')
        rw [w13, pt_hg]; split
        · rename_i e; rw [e]
        · exact C_hg C hx
      · have hk' : k < hg (ptL s l y f z t) x' := hk
        show w.1 (b + 12) (6 * x' + k) = nI (rg (ptL s l y f z t) (6 * x' + k))
        rw [pt_hg] at hk'
        by_cases e : x' = y
        · subst e
          rw [if_pos rfl] at hk'
          rw [pt_rgy s l x' f z t (by omega), w12]
          rcases Nat.lt_trichotomy k (insP s x' f (hg s x')) with c | c | c
          · rw [if_neg (by omega), rgI_l c]; exact r1 k c
          · rw [if_pos (by omega), c, rgI_e]
          · rw [if_neg (by omega), rgI_g c]; exact r2 k c (by omega)
        · rw [if_neg e] at hk'
          have k6 := IvT_hg H.T hx
          rw [pt_rgo s l f z t e (by omega) (by omega), w12, if_neg (by omega), r3 _ (by omega)]
          exact C_rg C hx hk'
      · show w.1 (b + 1) 12 = nI (lk s)
        rw [w1, if_neg (by decide)]; exact C_lk C
      · show w.1 (b + 1) 13 = nI (max (cL s) (l + 1))
        rw [w1, if_pos rfl]
    · exact RCb_n (n := s.1) (fun g h1 h2 => by
        have : g = 13 ∨ g = 14 ∨ g = 15 ∨ g = 16 ∨ g = 17 ∨ g = 18 ∨ g = 19 ∨ g = 20 ∨ g = 21 := by omega
        rcases this with e | e | e | e | e | e | e | e | e <;> subst e <;> rfl) (RCb_frm (fun q h => wo q (by omega)) C.b)
    · have CZ := C.z
      have zu : us s l = 0 := by
        rw [IvH_us H.H hl]
        exact sm_z fun i hi => IvH_t0 H.H (by omega) hl h0
      refine ⟨fun q hq h1 => ?_, fun q k hq h1 hk => ?_, ?_, ?_, ?_, ?_, ?_, ?_, ?_, ?_⟩
      · show w.2.1 (b + 6) q = zL (us s q)
        rw [w6]; split
        · rename_i e; rw [e, zu]; rfl
        · rename_i ne; exact C_us C hq (isO q h1 ne)
      · have hk' : k < ng s q := hk
        have ne : q ≠ l := fun e => by rw [e] at hk'; omega
        show w.2.1 (b + 11) (4 * q + k) = zL (sm (fun h => hd s (160 * h + 4 * q + k)) 24)
        rw [wz _ (by omega) (by omega)]; exact C_ha C hq (isO q h1 ne) hk'
      · simp only [wz (b + 19) (by omega) (by omega)]; exact CZ.2.2.1
      · simp only [wz (b + 21) (by omega) (by omega)]; exact CZ.2.2.2.1
      · simp only [wz (b + 22) (by omega) (by omega)]; exact CZ.2.2.2.2.1
      · simp only [wz (b + 23) (by omega) (by omega)]; exact CZ.2.2.2.2.2.1
      · simp only [wz (b + 24) (by omega) (by omega)]; exact CZ.2.2.2.2.2.2.1
      · simp only [wz (b + 25) (by omega) (by omega)]; exact CZ.2.2.2.2.2.2.2.1
      · simp only [wz (b + 25) (by omega) (by omega)]; exact CZ.2.2.2.2.2.2.2.2.1
      · simp only [wz (b + 26) (by omega) (by omega)]; exact CZ.2.2.2.2.2.2.2.2.2
  · rw [if_neg q3]
    exact Ok.s ⟨⟨fun z => absurd z (by simp), fun z => absurd (pr.mpr z.2.2) q3⟩, fun _ => rfl, fun z => absurd z (by simp)⟩
end
