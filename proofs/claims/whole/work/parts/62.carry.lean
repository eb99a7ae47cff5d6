/-! events that a book notes: small ones, layers, harms; an event is carried out -/
theorem Fr_b {A : Nat → Prop} {μ x : Mem} (F : Fr A μ x) : Fr A μ x := F
section
variable {b N fu : Nat} {μ : Mem} {s : Sp}
theorem c_putLack {y : Nat} (hb : b + 28 < 61) (hy : y < 12) (C : RC b μ s) (H : Iv N s) : Ok (D_X5_putLack_0 (b + 1) (nI y) μ) (fun r => (r.1 = true ↔ lkb s y = false ∧ hg s y = 0) ∧ (r.1 = false → r.2 = μ) ∧ (r.1 = true → Fr (fun q => q = b + 1) μ r.2 ∧ RC b r.2 (uN' s 11 0 (lk s ||| 2 ^ y)))) := by
  have l4 := IvT_lk H.T
  unfold D_X5_putLack_0
  rw [c_lacks hy C H, bi_s, c_gap hy C H, bi_s, C_lk C]
  by_cases q : lkb s y = true
  · rw [if_pos q]
    exact Ok.s ⟨⟨fun z => absurd z (by simp), fun z => by rw [z.1] at q; exact absurd q (by decide)⟩, fun _ => rfl, fun z => absurd z (by simp)⟩
  · have q' : lkb s y = false := by cases e : lkb s y; rfl; exact absurd e q
    rw [if_neg q]
    by_cases q2 : hg s y = 0
    · rw [if_pos (decide_eq_true q2)]
      simp (disch := omega) only [li0, li1, li2, li3, li4, li5, li6, li7, li8, li9, li10, li12, li24, li31, li40, li160, n_le, n_lt, n_eq, n_m1, n_add, mr4, mr6, mr7, mr10, mr40, mr160, ml4, ml6, ml7, ml10, ml40, ml160, gu_ib, nI_nat, bi_s, vl_e, gu_t, if_true, if_false, reduceIte, bt1_1, bt1_2, bt1_3, bt1_4, bt1_5, bt1_6, bt1_7, bt1_8, bt1_9, bt1_10, bt1_11, bt1_12, bt14_1, bt14_2, bt14_3, bt14_4, bt14_5, bt14_6, bt14_7, bt14_8, bt14_9, bt14_10, bt14_11, bt14_12, q_shl, q_or]
      refine Ok.s ⟨⟨fun _ => ⟨q', q2⟩, fun _ => rfl⟩, fun z => absurd z (by simp), fun _ => ⟨Fr.wI Fr.rfl' rfl, ?_, ?_, ?_⟩⟩
      · have CA := C.a
        have F : ∀ q, q ≠ b + 1 → (wI μ (b + 1) 12 (nI (lk s ||| 2 ^ y))).1 q = μ.1 q := fun q hq => wI_n hq
        have e1 : (uN' s 11 0 (lk s ||| 2 ^ y)).1 11 0 = lk s ||| 2 ^ y := rfl
        have eo : ∀ g, g ≠ 11 → (uN' s 11 0 (lk s ||| 2 ^ y)).1 g = s.1 g := fun g a => by funext j; simp [uN', a]
        have k : ∀ l q, tnI ((uN' s 11 0 (lk s ||| 2 ^ y)).1, fun _ _ => 0) l q = tnI (s.1, fun _ _ => 0) l q := fun l q => tnI_c (s := (s.1, fun _ _ => 0)) (t := ((uN' s 11 0 (lk s ||| 2 ^ y)).1, fun _ _ => 0)) (eo 7 (by decide)) l q
        have w12 : (wI μ (b + 1) 12 (nI (lk s ||| 2 ^ y))).1 (b + 1) 12 = nI (lk s ||| 2 ^ y) := wI_e
        have w13 : (wI μ (b + 1) 12 (nI (lk s ||| 2 ^ y))).1 (b + 1) 13 = μ.1 (b + 1) 13 := by rw [wI_s, if_neg (by decide)]
        simp only [RCa, k, e1, w12, w13, F (b + 2) (by omega), F (b + 3) (by omega), F (b + 4) (by omega), F (b + 5) (by omega), F (b + 7) (by omega), F (b + 8) (by omega), F (b + 9) (by omega), F (b + 10) (by omega), F (b + 12) (by omega), F (b + 13) (by omega), eo 0 (by decide), eo 1 (by decide), eo 2 (by decide), eo 3 (by decide), eo 4 (by decide), eo 5 (by decide), eo 6 (by decide), eo 7 (by decide), eo 8 (by decide), eo 9 (by decide), eo 12 (by decide)] at CA ⊢
        exact ⟨CA.1, CA.2.1, CA.2.2.1, CA.2.2.2.1, CA.2.2.2.2.1, CA.2.2.2.2.2.1, CA.2.2.2.2.2.2.1, CA.2.2.2.2.2.2.2.1, CA.2.2.2.2.2.2.2.2.1, CA.2.2.2.2.2.2.2.2.2.1, CA.2.2.2.2.2.2.2.2.2.2.1, trivial, CA.2.2.2.2.2.2.2.2.2.2.2.2⟩
      · exact RCb_n (n := s.1) (fun g h1 h2 => by funext j; simp [uN', show g ≠ 11 by omega]) (RCb_frm (fun q h => wI_n (by omega)) C.b)
      · exact RCz_n (n := s.1) (z := s.2) (by funext j; simp [uN']) (by funext j; simp [uN']) (by funext j; simp [uN']) rfl (RCz_frm (fun q _ _ => by rw [wI_L]) C.z)
    · rw [if_neg (by rw [decide_eq_false q2]; decide)]
      exact Ok.s ⟨⟨fun z => absurd z (by simp), fun z => absurd z.2 q2⟩, fun _ => rfl, fun z => absurd z (by simp)⟩
theorem c_setRules {a c d : Nat} (C : RC b μ s) : Ok (D_X0_setRules_0 b (nI a) (nI c) (nI d) μ) (fun x => Fr (fun q => q = b) μ x ∧ RC b x (uN' (uN' (uN' s 21 0 a) 21 1 c) 21 2 d)) := by
  unfold D_X0_setRules_0
  have F0 : Fr (fun q => q = b) μ (wI (wI (wI μ b 4 (nI a)) b 5 (nI c)) b 6 (nI d)) := Fr.wI (A := fun q => q = b) (Fr.wI (A := fun q => q = b) (Fr.wI (A := fun q => q = b) Fr.rfl' rfl) rfl) rfl
  refine Ok.v (Ok.v (Ok.v (Ok.s ⟨F0, ?_, ?_, ?_⟩)))
  · exact RCa_n (n := s.1) (fun g h => by funext j; simp [uN', show g ≠ 21 by omega]) (RCa_frm (fun q h1 h2 => by rw [wI_n (by omega), wI_n (by omega), wI_n (by omega)]) C.a)
  · have CB := C.b
    generalize et : uN' (uN' (uN' s 21 0 a) 21 1 c) 21 2 d = t
    have eo : ∀ g, g ≠ 21 → t.1 g = s.1 g := fun g z => by subst et; funext j; simp [uN', z]
    have t0 : t.1 21 0 = a := by subst et; rfl
    have t1 : t.1 21 1 = c := by subst et; rfl
    have t2 : t.1 21 2 = d := by subst et; rfl
    generalize ex : wI (wI (wI μ b 4 (nI a)) b 5 (nI c)) b 6 (nI d) = x
    have F : ∀ q, q ≠ b → x.1 q = μ.1 q := fun q hq => by subst ex; rw [wI_n hq, wI_n hq, wI_n hq]
    have x4 : x.1 b 4 = nI a := by subst ex; rw [wI_s, if_neg (by decide), wI_s, if_neg (by decide), wI_e]
    have x5 : x.1 b 5 = nI c := by subst ex; rw [wI_s, if_neg (by decide), wI_e]
    have x6 : x.1 b 6 = nI d := by subst ex; exact wI_e
    simp only [RCb, t0, t1, t2, x4, x5, x6, F (b + 14) (by omega), F (b + 15) (by omega), F (b + 16) (by omega), F (b + 17) (by omega), F (b + 18) (by omega), F (b + 20) (by omega), F (b + 27) (by omega), F (b + 28) (by omega), eo 13 (by decide), eo 14 (by decide), eo 15 (by decide), eo 16 (by decide), eo 17 (by decide), eo 18 (by decide), eo 19 (by decide), eo 20 (by decide)] at CB ⊢
    exact ⟨CB.1, CB.2.1, CB.2.2.1, CB.2.2.2.1, CB.2.2.2.2.1, CB.2.2.2.2.2.1, CB.2.2.2.2.2.2.1, CB.2.2.2.2.2.2.2.1, trivial, trivial, trivial⟩
  · exact RCz_n (n := s.1) (z := s.2) (by funext j; simp [uN']) (by funext j; simp [uN']) (by funext j; simp [uN']) rfl (RCz_frm (fun q _ _ => rfl) C.z)
theorem c_putStand {i v c : Nat} (hi : i < 10) (C : RC b μ s) (H : Iv N s) : Ok (D_X0_putStanding_0 b (nI i) (nI v) (nI c) μ) (fun r => (r.1 = true ↔ sd s i = 0) ∧ (r.1 = false → r.2 = μ) ∧ (r.1 = true → Fr (fun q => q = b + 27 ∨ q = b + 28) μ r.2 ∧ RC b r.2 (uN' (uN' s 19 i v) 20 i c))) := by
  have s2 := IvR_sd H.R hi
  simp (disch := omega) only [D_X0_putStanding_0, li0, li1, li2, li3, li4, li5, li6, li7, li8, li9, li10, li12, li24, li31, li40, li160, n_le, n_lt, n_eq, n_m1, n_add, mr4, mr6, mr7, mr10, mr40, mr160, ml4, ml6, ml7, ml10, ml40, ml160, gu_ib, nI_nat, bi_s, vl_e, gu_t, if_true, if_false, reduceIte, bt1_1, bt1_2, bt1_3, bt1_4, bt1_5, bt1_6, bt1_7, bt1_8, bt1_9, bt1_10, bt1_11, bt1_12, bt14_1, bt14_2, bt14_3, bt14_4, bt14_5, bt14_6, bt14_7, bt14_8, bt14_9, bt14_10, bt14_11, bt14_12, C_sd C hi]
  by_cases q : sd s i = 0
  · rw [if_pos q]
    refine Ok.s ⟨⟨fun _ => q, fun _ => rfl⟩, fun z => absurd z (by simp), fun _ => ⟨Fr.wI (Fr.wI Fr.rfl' (Or.inl rfl)) (Or.inr rfl), ?_, ?_, ?_⟩⟩
    · exact RCa_n (n := s.1) (fun g h => by funext j; simp [uN', show g ≠ 19 by omega, show g ≠ 20 by omega]) (RCa_frm (fun q h1 h2 => by rw [wI_n (by omega), wI_n (by omega)]) C.a)
    · have CB := C.b
      generalize et : uN' (uN' s 19 i v) 20 i c = t
      have eo : ∀ g, g ≠ 19 → g ≠ 20 → t.1 g = s.1 g := fun g z w => by subst et; funext j; simp [uN', z, w]
      have t19 : ∀ j, t.1 19 j = if j = i then v else s.1 19 j := fun j => by subst et; simp [uN']
      have t20 : ∀ j, t.1 20 j = if j = i then c else s.1 20 j := fun j => by subst et; simp [uN']
      generalize ex : wI (wI μ (b + 27) i (nI v)) (b + 28) i (nI c) = x
      have F : ∀ q, q ≠ b + 27 → q ≠ b + 28 → x.1 q = μ.1 q := fun q hq hp => by subst ex; rw [wI_n hp, wI_n hq]
      have x27 : ∀ j, j < 10 → x.1 (b + 27) j = nI (t.1 19 j) := fun j hj => by
        subst ex; rw [wI_n (by omega), wI_s, t19]
        split
        · rfl
        · exact C_sd C hj
      have x28 : ∀ j, j < 10 → x.1 (b + 28) j = nI (t.1 20 j) := fun j hj => by
        subst ex; rw [wI_s, wI_n (by omega), t20]
        split
        · rfl
        · exact C_cs C hj
      refine ⟨?_, ?_, ?_, ?_, ?_, ?_, x27, x28, ?_, ?_, ?_⟩ <;> simp only [F b (by omega) (by omega), F (b + 14) (by omega) (by omega), F (b + 15) (by omega) (by omega), F (b + 16) (by omega) (by omega), F (b + 17) (by omega) (by omega), F (b + 18) (by omega) (by omega), F (b + 20) (by omega) (by omega), eo 13 (by decide) (by decide), eo 14 (by decide) (by decide), eo 15 (by decide) (by decide), eo 16 (by decide) (by decide), eo 17 (by decide) (by decide), eo 18 (by decide) (by decide), eo 21 (by decide) (by decide)]
      · exact CB.1
      · exact CB.2.1
      · exact CB.2.2.1
      · exact CB.2.2.2.1
      · exact CB.2.2.2.2.1
      · exact CB.2.2.2.2.2.1
      · exact CB.2.2.2.2.2.2.2.2.1
      · exact CB.2.2.2.2.2.2.2.2.2.1
      · exact CB.2.2.2.2.2.2.2.2.2.2
    · exact RCz_n (n := s.1) (z := s.2) (by funext j; simp [uN']) (by funext j; simp [uN']) (by funext j; simp [uN']) rfl (RCz_frm (fun q _ _ => rfl) C.z)
  · rw [if_neg q]
    exact Ok.s ⟨⟨fun z => absurd z (by simp), fun z => absurd z q⟩, fun _ => rfl, fun z => absurd z (by simp)⟩
theorem c_addLoss {h v : Nat} (hh : h < 24) (hv : v < 2147483648) (C : RC b μ s) (H : Iv N s) : Ok (D_X1_addLoss_0 (b + 14) (nI h) (nI v) μ) (fun r => (r.1 = true ↔ isH s h = 1) ∧ (r.1 = false → r.2 = μ) ∧ (r.1 = true → Fr (fun q => q = b + 19 ∨ q = b + 20) μ r.2 ∧ RC b r.2 (grS s h (v : Int)))) := by
  have i2 := IvH_is H.H (show h < 25 by omega)
  simp (disch := omega) only [D_X1_addLoss_0, li0, li1, li2, li3, li4, li5, li6, li7, li8, li9, li10, li12, li24, li31, li40, li160, n_le, n_lt, n_eq, n_m1, n_add, mr4, mr6, mr7, mr10, mr40, mr160, ml4, ml6, ml7, ml10, ml40, ml160, gu_ib, nI_nat, bi_s, vl_e, gu_t, if_true, if_false, reduceIte, bt1_1, bt1_2, bt1_3, bt1_4, bt1_5, bt1_6, bt1_7, bt1_8, bt1_9, bt1_10, bt1_11, bt1_12, bt14_1, bt14_2, bt14_3, bt14_4, bt14_5, bt14_6, bt14_7, bt14_8, bt14_9, bt14_10, bt14_11, bt14_12, C_ish C hh]
  by_cases q : isH s h = 0
  · rw [if_pos q]
    exact Ok.s ⟨⟨fun z => absurd z (by simp), fun z => by omega⟩, fun _ => rfl, fun z => absurd z (by simp)⟩
  · have h1 : isH s h = 1 := by omega
    rw [if_neg q, C_lo C hh h1, n_L hv, z_add, wL_1, C_gr C hh h1, n_add]
    refine Ok.s ⟨⟨fun _ => h1, fun _ => rfl⟩, fun z => absurd z (by simp), fun _ => ⟨Fr.wI (Fr.wL Fr.rfl' (Or.inl rfl)) (Or.inr rfl), ?_, ?_, ?_⟩⟩
    · exact RCa_n (n := s.1) (fun g h => gr_1 s _ _ (by omega)) (RCa_frm (fun q h1 h2 => by rw [wI_n (by omega), wL_1]) C.a)
    · have CB := C.b
      have eo : ∀ g, g ≠ 17 → (grS s h (v : Int)).1 g = s.1 g := fun g z => gr_1 s h _ z
      generalize ex : wI (wL μ (b + 19) h (zL (lo s h + (v : Int)))) (b + 20) h (nI (gr s h + 1)) = x
      have F : ∀ q, q ≠ b + 20 → x.1 q = μ.1 q := fun q hq => by subst ex; rw [wI_n hq, wL_1]
      refine ⟨?_, ?_, ?_, ?_, fun g hg h0 => ?_, ?_, ?_, ?_, ?_, ?_, ?_⟩ <;> (try simp only [F b (by omega), F (b + 14) (by omega), F (b + 15) (by omega), F (b + 16) (by omega), F (b + 17) (by omega), F (b + 18) (by omega), F (b + 27) (by omega), F (b + 28) (by omega), eo 13 (by decide), eo 14 (by decide), eo 15 (by decide), eo 16 (by decide), eo 18 (by decide), eo 19 (by decide), eo 20 (by decide), eo 21 (by decide)])
      · exact CB.1
      · exact CB.2.1
      · exact CB.2.2.1
      · exact CB.2.2.2.1
      · have e : (grS s h (v : Int)).1 17 g = if g = h then gr s h + 1 else gr s g := gr_gr s h _ g
        rw [e]; subst ex
        rw [wI_s, wL_1]
        split
        · rfl
        · exact C_gr C hg (by rw [eo 13 (by decide)] at h0; exact h0)
      · exact CB.2.2.2.2.2.1
      · exact CB.2.2.2.2.2.2.1
      · exact CB.2.2.2.2.2.2.2.1
      · exact CB.2.2.2.2.2.2.2.2.1
      · exact CB.2.2.2.2.2.2.2.2.2.1
      · exact CB.2.2.2.2.2.2.2.2.2.2
    · have CZ := C.z
      have eo : ∀ g, g ≠ 17 → (grS s h (v : Int)).1 g = s.1 g := fun g z => gr_1 s h _ z
      have ez : ∀ g, g ≠ 1 → (grS s h (v : Int)).2 g = s.2 g := fun g z => gr_2 s h _ z
      generalize ex : wI (wL μ (b + 19) h (zL (lo s h + (v : Int)))) (b + 20) h (nI (gr s h + 1)) = x
      have F : ∀ q, q ≠ b + 19 → x.2.1 q = μ.2.1 q := fun q hq => by subst ex; rw [wI_L, wL_n hq]
      refine ⟨?_, ?_, fun g hg h0 => ?_, ?_, ?_, ?_, ?_, ?_, ?_, ?_⟩ <;> (try simp only [F (b + 6) (by omega), F (b + 11) (by omega), F (b + 21) (by omega), F (b + 22) (by omega), F (b + 23) (by omega), F (b + 24) (by omega), F (b + 25) (by omega), F (b + 26) (by omega), eo 0 (by decide), eo 5 (by decide), eo 13 (by decide), ez 0 (by decide), ez 2 (by decide), ez 3 (by decide), ez 4 (by decide), ez 5 (by decide), ez 6 (by decide), ez 7 (by decide)])
      · exact CZ.1
      · exact CZ.2.1
      · have e : (grS s h (v : Int)).2 1 g = if g = h then lo s h + (v : Int) else lo s g := gr_lo s h _ g
        rw [e]; subst ex
        rw [wI_L, wL_s]
        split
        · rfl
        · exact C_lo C hg (by rw [eo 13 (by decide)] at h0; exact h0)
      · exact CZ.2.2.2.1
      · exact CZ.2.2.2.2.1
      · exact CZ.2.2.2.2.2.1
      · exact CZ.2.2.2.2.2.2.1
      · exact CZ.2.2.2.2.2.2.2.1
      · exact CZ.2.2.2.2.2.2.2.2.1
      · exact CZ.2.2.2.2.2.2.2.2.2
theorem c_putHarm {h a c d v : Nat} (hf : 200 < fu) (hb : b + 28 < 61) (hh : h < 24) (h0 : isH s h = 0) (hv : v < 2147483648) (C : RC b μ s) (H : Iv N s) : Ok (D_X1_put_0 fu (b + 14) (nI h) (nI a) (nI c) (nI d) (nI v) μ) (fun r => r.1 = true ∧ Fr (fun q => b + 14 ≤ q ∧ q ≤ b + 26) μ r.2 ∧ RC b r.2 (hmS s h a c d (v : Int))) := by
  have c24 := IvH_c24 H.H
  simp (disch := omega) only [D_X1_put_0, li0, li1, li2, li3, li4, li5, li6, li7, li8, li9, li10, li12, li24, li31, li40, li160, n_le, n_lt, n_eq, n_m1, n_add, mr4, mr6, mr7, mr10, mr40, mr160, ml4, ml6, ml7, ml10, ml40, ml160, gu_ib, nI_nat, bi_s, vl_e, gu_t, if_true, if_false, reduceIte, bt1_1, bt1_2, bt1_3, bt1_4, bt1_5, bt1_6, bt1_7, bt1_8, bt1_9, bt1_10, bt1_11, bt1_12, bt14_1, bt14_2, bt14_3, bt14_4, bt14_5, bt14_6, bt14_7, bt14_8, bt14_9, bt14_10, bt14_11, bt14_12, n_L]
  rw [if_pos hh]
  generalize ex : wI (wL (wI (wI (wI (wI μ (b + 15) h (nI 1)) (b + 16) h (nI a)) (b + 17) h (nI c)) (b + 18) h (nI d)) (b + 19) h (zL (v : Int))) (b + 20) h (nI 0) = x
  have X : ∀ q, q < b + 15 ∨ b + 20 < q → x.1 q = μ.1 q := fun q hq => by subst ex; rw [wI_n (by omega), wL_1, wI_n (by omega), wI_n (by omega), wI_n (by omega), wI_n (by omega)]
  have XL : ∀ q, q ≠ b + 19 → x.2.1 q = μ.2.1 q := fun q hq => by subst ex; rw [wI_L, wL_n hq, wI_L, wI_L, wI_L, wI_L]
  have XF : Fr (fun q => b + 14 ≤ q ∧ q ≤ b + 26) μ x := by subst ex; exact Fr.wI (Fr.wL (Fr.wI (Fr.wI (Fr.wI (Fr.wI Fr.rfl' (by omega)) (by omega)) (by omega)) (by omega)) (by omega)) (by omega)
  have X15 : ∀ g, x.1 (b + 15) g = if g = h then nI 1 else μ.1 (b + 15) g := fun g => by subst ex; rw [wI_n (by omega), wL_1, wI_n (by omega), wI_n (by omega), wI_n (by omega), wI_s]
  have X16 : ∀ g, x.1 (b + 16) g = if g = h then nI a else μ.1 (b + 16) g := fun g => by subst ex; rw [wI_n (by omega), wL_1, wI_n (by omega), wI_n (by omega), wI_s, wI_n (by omega)]
  have X17 : ∀ g, x.1 (b + 17) g = if g = h then nI c else μ.1 (b + 17) g := fun g => by subst ex; rw [wI_n (by omega), wL_1, wI_n (by omega), wI_s, wI_n (by omega), wI_n (by omega)]
  have X18 : ∀ g, x.1 (b + 18) g = if g = h then nI d else μ.1 (b + 18) g := fun g => by subst ex; rw [wI_n (by omega), wL_1, wI_s, wI_n (by omega), wI_n (by omega), wI_n (by omega)]
  have X20 : ∀ g, x.1 (b + 20) g = if g = h then nI 0 else μ.1 (b + 20) g := fun g => by subst ex; rw [wI_s, wL_1, wI_n (by omega), wI_n (by omega), wI_n (by omega), wI_n (by omega)]
  have X19 : ∀ g, x.2.1 (b + 19) g = if g = h then zL (v : Int) else μ.2.1 (b + 19) g := fun g => by subst ex; rw [wI_L, wL_s, wI_L, wI_L, wI_L, wI_L]
  refine Ok.b (c_clrRows hf hh) fun w pw' => ?_
  obtain ⟨W, W1, W2, W3, W4⟩ := pw'
  have w12 : w.1 (b + 14) 12 = nI (cH s) := by rw [W.1, X _ (by omega)]; exact C_cH C
  simp (disch := omega) only [w12, n_max]
  generalize ey : wI w (b + 14) 12 (nI (max (cH s) (h + 1))) = y
  have Y : ∀ q, q ≠ b + 14 → y.1 q = x.1 q := fun q hq => by subst ey; rw [wI_n hq, W.1]
  have YL : y.2.1 = w.2.1 := by subst ey; rfl
  have es1 : ∀ g, g ≤ 12 ∨ 19 ≤ g → (hmS s h a c d (v : Int)).1 g = s.1 g := fun g hg => hm_1 s h a c d _ hg
  have es2 : ∀ g, g ≠ 1 → (hmS s h a c d (v : Int)).2 g = s.2 g := fun g hg => hm_2 s h a c d _ hg
  have is13 : ∀ g, (hmS s h a c d (v : Int)).1 13 g = 1 → g ≠ h → isH s g = 1 := fun g hg ne => by
    have : isH (hmS s h a c d (v : Int)) g = 1 := hg
    rw [hm_is, if_neg ne] at this; exact this
  refine Ok.s ⟨rfl, ?_, ?_, ?_, ?_⟩
  · subst ey; exact Fr.wI (XF.tr (W.F.mo fun q z => by omega)) (by omega)
  · exact RCa_n (n := s.1) (fun g h => es1 g (by omega)) (RCa_frm (fun q h1 h2 => by rw [Y q (by omega), X q (by omega)]) C.a)
  · refine ⟨fun g hg => ?_, fun g hg h1 => ?_, fun g hg h1 => ?_, fun g hg h1 => ?_, fun g hg h1 => ?_, ?_, fun i hi => ?_, fun i hi => ?_, ?_, ?_, ?_⟩
    · show _ = nI (isH (hmS s h a c d (v : Int)) g)
      rw [Y _ (by omega), X15, hm_is]; split
      · rfl
      · exact C_ish C hg
    · show _ = nI (fs (hmS s h a c d (v : Int)) g)
      rw [Y _ (by omega), X16, hm_fs]; split
      · rfl
      · rename_i ne; exact C_fs C hg (is13 g h1 ne)
    · show _ = nI (ls (hmS s h a c d (v : Int)) g)
      rw [Y _ (by omega), X17, hm_ls]; split
      · rfl
      · rename_i ne; exact C_ls C hg (is13 g h1 ne)
    · show _ = nI (sh (hmS s h a c d (v : Int)) g)
      rw [Y _ (by omega), X18, hm_sh]; split
      · rfl
      · rename_i ne; exact C_sh C hg (is13 g h1 ne)
    · show _ = nI (gr (hmS s h a c d (v : Int)) g)
      rw [Y _ (by omega), X20, hm_gr]; split
      · rename_i e; rw [e, (IvH_z1 H.H (show h < 25 by omega) h0).2]
      · rename_i ne; exact C_gr C hg (is13 g h1 ne)
    · show _ = nI (cH (hmS s h a c d (v : Int)))
      rw [hm_cH]; subst ey; exact wI_e
    · rw [Y _ (by omega), X _ (by omega), es1 19 (by decide)]; exact C_sd C hi
    · rw [Y _ (by omega), X _ (by omega), es1 20 (by decide)]; exact C_cs C hi
    · rw [Y _ (by omega), X _ (by omega), es1 21 (by decide)]; exact C_r0 C
    · rw [Y _ (by omega), X _ (by omega), es1 21 (by decide)]; exact C_r1 C
    · rw [Y _ (by omega), X _ (by omega), es1 21 (by decide)]; exact C_r2 C
  · have z2 := fun l (hl : l < 40) => IvH_z2 H.H (show h < 25 by omega) h0 hl
    refine ⟨fun l hl h1 => ?_, fun l k hl h1 hk => ?_, fun g hg h1 => ?_, fun g l hg h1 hl => ?_, fun g l hg h1 hl => ?_, fun g l hg h1 hl => ?_, fun g j hg h1 hj => ?_, fun g i hg h1 hi hp => ?_, fun g hg h1 => ?_, fun g r hg h1 hr => ?_⟩
    · rw [YL, W.L (by omega), XL _ (by omega), es2 0 (by decide)]
      rw [es1 0 (by decide)] at h1; exact C_us C hl h1
    · rw [YL, W.L (by omega), XL _ (by omega)]
      simp only [es2 5 (by decide)]
      rw [es1 0 (by decide)] at h1
      rw [es1 5 (by decide)] at hk
      exact C_ha C hl h1 hk
    · show _ = zL (lo (hmS s h a c d (v : Int)) g)
      rw [YL, W.L (by omega), X19, hm_lo]; split
      · rfl
      · rename_i ne; exact C_lo C hg (is13 g h1 ne)
    · rw [YL, W1 _ g l (by omega) (by omega) hl, XL _ (by omega), es2 2 (by decide)]; split
      · rename_i e; rw [e]; exact congrArg zL (z2 l hl).1.symm
      · rename_i ne
        refine C_tk C hg ?_ hl
        rcases h1 with h1 | h1
        · exact Or.inl (is13 g h1 ne)
        · exact Or.inr h1
    · rw [YL, W1 _ g l (by omega) (by omega) hl, XL _ (by omega), es2 3 (by decide)]; split
      · rename_i e; rw [e]; exact congrArg zL (z2 l hl).2.1.symm
      · rename_i ne
        refine C_th C hg ?_ hl
        rcases h1 with h1 | h1
        · exact Or.inl (is13 g h1 ne)
        · exact Or.inr h1
    · rw [YL, W1 _ g l (by omega) (by omega) hl, XL _ (by omega), es2 4 (by decide)]; split
      · rename_i e; rw [e]; exact congrArg zL (z2 l hl).2.2.symm
      · rename_i ne; exact C_mv C hg (is13 g h1 ne) hl
    · rw [YL, W2 g j hj, XL _ (by omega), es2 5 (by decide)]; split
      · rename_i e; rw [e]; exact congrArg zL (IvH_z5 H.H (by omega) h0 hj).symm
      · rename_i ne; exact C_hd C hg (is13 g h1 ne) hj
    · rw [YL, W3 g i hi, XL _ (by omega), es2 6 (by decide)]; split
      · rename_i e; rw [e]; exact congrArg zL (IvH_z6 H.H (by omega) h0 hi).symm
      · rename_i ne; exact C_br C hg (is13 g h1 ne) hi hp
    · have w0 : w.2.1 (b + 25) (10 * g) = if g = h then zL 0 else x.2.1 (b + 25) (10 * g) := W3 g 0 (by decide)
      rw [YL, w0, XL _ (by omega)]
      simp only [es2 7 (by decide)]
      by_cases e : g = h
      · rw [if_pos e, e]
        exact congrArg zL (sm_z fun r hr => IvH_z7 H.H (by omega) h0 hr).symm
      · rw [if_neg e]; exact C_b0 C hg (is13 g h1 e)
    · rw [YL, W4 g r hr, XL _ (by omega), es2 7 (by decide)]; split
      · rename_i e; rw [e]; exact congrArg zL (IvH_z7 H.H (by omega) h0 hr).symm
      · rename_i ne; exact C_fl C hg (is13 g h1 ne) hr
end
