/-! an event is carried out; a book is cleared -/
/-- the log's row of an event -/
def LG (μ : Mem) (k : Nat) (e : Ev) : Prop := ∀ j, j < 6 → μ.1 2 (6 * k + j) = nI (e j)
theorem LG_F {A : Nat → Prop} {μ x : Mem} {k : Nat} {e : Ev} (F : Fr A μ x) (h : ¬ A 2) (L : LG μ k e) : LG x k e := fun j hj => by rw [F.I h]; exact L j hj
theorem c_read {μ : Mem} {k j : Nat} {e : Ev} (hk : k < 160) (hj : j < 6) (L : LG μ k e) : D_X2_read_0 μ (nI k) (nI j) = some (nI (e j)) := by
  simp (disch := omega) only [D_X2_read_0, li0, li1, li2, li3, li4, li5, li6, li7, li8, li9, li10, li12, li24, li31, li40, li160, n_le, n_lt, n_eq, n_m1, n_add, mr4, mr6, mr7, mr10, mr40, mr160, ml4, ml6, ml7, ml10, ml40, ml160, gu_ib, nI_nat, bi_s, vl_e, gu_t, if_true, if_false, reduceIte, bt1_1, bt1_2, bt1_3, bt1_4, bt1_5, bt1_6, bt1_7, bt1_8, bt1_9, bt1_10, bt1_11, bt1_12, bt14_1, bt14_2, bt14_3, bt14_4, bt14_5, bt14_6, bt14_7, bt14_8, bt14_9, bt14_10, bt14_11, bt14_12, L j hj]
/-- cells that a book and the spreader may change -/
def AB (b : Nat) (q : Nat) : Prop := b ≤ q ∧ q ≤ b + 28 ∨ 61 ≤ q ∧ q ≤ 83
theorem offH_b {N : Nat} {s : Sp} (H : Iv N s) {h : Nat} (hh : h < 24) (h1 : isH s h = 1) : offV (fs s h) (ls s h) (sh s h) (ru s 0) < 4096 ∧ ∀ y, y < 12 → (offV (fs s h) (ls s h) (sh s h) (ru s 0)).testBit y = offH s h y := ⟨offV_lt _ _ _ _, fun y hy => offV_b hy⟩
theorem pln_3 {N : Nat} {s : Sp} (H : Iv N s) {h : Nat} (hh : h < 25) (off : Nat → Bool) {a : Int} (ha : 0 ≤ a) (m : Nat) : ∀ l k, l < 40 → k < 4 → ¬ (0 < pln s h off a m 0 l ∧ k < ng s l) → pln s h off a m 3 (4 * l + k) = 0 := fun l k hl hk hn => by
  have e0 : pln s h off a m 0 l = pre s h off a m 0 l := spl_o s _ (by decide) 40
  rw [e0] at hn
  unfold pln
  rw [spl_3 H.T _ hk (Nat.le_refl _), if_neg (fun z => hn ⟨z.2.1, z.2.2⟩)]
  exact pre_3 H hh off ha m (Or.inl rfl)
theorem c_spread {b N fu h : Nat} {x : Mem} {s : Sp} {a : Int} (hf : 200 < fu) (hb : b + 28 < 61) (hh : h < 24) (h1 : isH s h = 1) (ha : 0 ≤ a) (ha2 : a < 4611686018427387904) (C : RC b x s) (H : Iv N s) : Ok (gu (ib (nI h) 24) <| gu (ib (nI h) 24) <| gu (ib (nI h) 24) <|
      (D_X6_yearsSetOff_0 fu x (x.1 (b + 16) (Int32.toNatClampNeg (nI h))) (x.1 (b + 17) (Int32.toNatClampNeg (nI h))) (x.1 (b + 18) (Int32.toNatClampNeg (nI h))) (x.1 b 4)).bind fun x10 =>
      (D_X4_plan_0 fu b (nI h) x10 (zL a) (x.1 b 5) x).bind fun x12 =>
      (D_X0_keep_0 fu b 62 (nI h) x12).bind fun x14 =>
      some (true, x14)) (fun r => r.1 = true ∧ Fr (AB b) x r.2 ∧ RC b r.2 (sprd s h a)) := by
  have y := IvH_fs H.H (show h < 25 by omega) h1
  have r0 := IvR_r0 H.R
  have r1 := IvR_r1 H.R
  have ob := offH_b H hh h1
  rw [gu_ib hh (by omega), gu_ib hh (by omega), gu_ib hh (by omega), nI_nat (by omega), C_fs C hh h1, C_ls C hh h1, C_sh C hh h1, C_r0 C, C_r1 C, cOff (by omega) x y.1 y.2.1 y.2.2 r0, bi_s]
  refine Ok.b (c_plan hf hb (by omega) (Or.inl h1) ob.1 ob.2 ha ha2 r1 C H) fun w pw' => ?_
  have Cw : RC b w s := RC_Fr pw'.1 (fun q z => by omega) C
  have pb := pln_b H (show h < 25 by omega) (offH s h) ha (ru s 1)
  refine Ok.b (c_keep hf hb hh h1 Cw H pb.1 pw'.2.1 (pln_3 H (by omega) _ ha _) pb.2.2) fun v pv => ?_
  exact Ok.s ⟨rfl, Fr.tr (pw'.1.mo fun q z => Or.inr z) (pv.1.F.mo fun q z => Or.inl z), pv.2⟩
theorem canB_f {s : Sp} {e : Ev} (h : ¬ can s e) : canB s e = false := by
  cases q : canB s e
  · rfl
  · exact absurd (canB_t.mp q) h
theorem c_carry {b N fu k : Nat} {μ : Mem} {s : Sp} {e : Ev} (hf : 200 < fu) (hb3 : 3 ≤ b) (hb : b + 28 < 61) (hN : N ≤ 1000) (hk : k < 160) (L : LG μ k e) (E : EvOK e) (F0 : EvF s e) (C : RC b μ s) (H : Iv N s) : Ok (D_X0_carryOut_0 fu b (nI k) μ) (fun r => r.1 = canB s e ∧ Fr (AB b) μ r.2 ∧ RC b r.2 (go s e)) := by
  have rd : ∀ {x : Mem}, Fr (AB b) μ x → ∀ j, j < 6 → D_X2_read_0 x (nI k) (nI j) = some (nI (e j)) := fun F j hj => c_read hk hj (LG_F F (by unfold AB; omega) L)
  have r0 := rd Fr.rfl' 0 (by decide)
  have r1 := rd Fr.rfl' 1 (by decide)
  have r2 := rd Fr.rfl' 2 (by decide)
  have r3 := rd Fr.rfl' 3 (by decide)
  have r4 := rd Fr.rfl' 4 (by decide)
  have r5 := rd Fr.rfl' 5 (by decide)
  have e8 := E.k
  -- a note without an amount
  have plain : ∀ (r : Bool × Mem), (r.1 = true ↔ can s e) → (r.1 = false → r.2 = μ) → (r.1 = true → Fr (AB b) μ r.2 ∧ RC b r.2 (doe s e)) → (e 0 ≤ 3 ∨ e 0 = 6 ∨ e 0 = 7) → Ok (if r.1 = true then
    (D_X2_read_0 r.2 (nI k) 1).bind fun x3 =>
    (D_X0_amountToSpread_0 r.2 b (nI k)).bind fun x5 =>
    if x5 ≤ (0 : Int64) then
      some (true, r.2)
    else
      gu (ib x3 24) <|
      gu (ib x3 24) <|
      gu (ib x3 24) <|
      (D_X6_yearsSetOff_0 fu r.2 (r.2.1 (b + 16) (Int32.toNatClampNeg x3)) (r.2.1 (b + 17) (Int32.toNatClampNeg x3)) (r.2.1 (b + 18) (Int32.toNatClampNeg x3)) (r.2.1 b 4)).bind fun x10 =>
      (D_X4_plan_0 fu b x3 x10 x5 (r.2.1 b 5) r.2).bind fun x12 =>
      (D_X0_keep_0 fu b 62 x3 x12).bind fun x14 =>
      some (true, x14)
  else
    some (false, r.2)) (fun r => r.1 = canB s e ∧ Fr (AB b) μ r.2 ∧ RC b r.2 (go s e)) := fun r h1 h2 h3 h4 => by
    by_cases q : r.1 = true
    · have can' := h1.mp q
      obtain ⟨F, C'⟩ := h3 q
      rw [if_pos q, show D_X2_read_0 r.2 (nI k) 1 = some (nI (e 1)) from rd F 1 (by decide), bi_s]
      have am : D_X0_amountToSpread_0 r.2 b (nI k) = some 0 := by
        unfold D_X0_amountToSpread_0
        rw [show D_X2_read_0 r.2 (nI k) 0 = some (nI (e 0)) from rd F 0 (by decide), bi_s]
        have ee : e 0 = 0 ∨ e 0 = 1 ∨ e 0 = 2 ∨ e 0 = 3 ∨ e 0 = 6 ∨ e 0 = 7 := by omega
        rcases ee with q | q | q | q | q | q <;> rw [q] <;> rfl
      rw [am, bi_s, if_pos (by decide)]
      exact Ok.s ⟨(canB_t.mpr can').symm, F, by rw [go_y can']; exact C'⟩
    · have qf : r.1 = false := by cases z : r.1; rfl; exact absurd z q
      have nc : ¬ can s e := fun z => q (h1.mpr z)
      rw [if_neg q]
      exact Ok.s ⟨(canB_f nc).symm, by rw [h2 qf]; exact Fr.rfl', by rw [h2 qf, go_n nc]; exact C⟩
  unfold D_X0_carryOut_0 D_X0_note_0
  rw [show D_X2_read_0 μ (nI k) 1 = some (nI (e 1)) from r1, bi_s, show D_X2_read_0 μ (nI k) 2 = some (nI (e 2)) from r2, bi_s, show D_X2_read_0 μ (nI k) 3 = some (nI (e 3)) from r3, bi_s, show D_X2_read_0 μ (nI k) 4 = some (nI (e 4)) from r4, bi_s, show D_X2_read_0 μ (nI k) 5 = some (nI (e 5)) from r5, bi_s, show D_X2_read_0 μ (nI k) 0 = some (nI (e 0)) from r0, bi_s]
  have bb : ∀ {α β γ : Type} (x : Option α) (f : α → Option β) (g : β → Option γ), (x.bind f).bind g = x.bind fun a => (f a).bind g := fun x f g => by cases x <;> rfl
  rcases ev_cases E with h | h | h | h | h | h | h | h | h <;> rw [h]
  · have kk := E.k0 h
    rw [if_pos (show nI 0 = 0 from rfl), bb]
    refine Ok.b (c_put hf hb kk.1 kk.2.1 kk.2.2.1 ⟨kk.2.2.2.1, kk.2.2.2.2.1⟩ kk.2.2.2.2.2.2 (F0.1 h) C H) fun r p => ?_
    exact plain r (by rw [can_0 h]; exact p.1) p.2.1 (fun z => ⟨(p.2.2 z).1.mo fun q y => Or.inl y, by rw [doe_0 s h]; exact (p.2.2 z).2⟩) (by omega)
  · have kk := E.k1 h
    rw [if_neg (by decide), if_pos (show nI 1 = 1 from rfl), bb]
    refine Ok.b (c_putSigner hf hb kk.1 kk.2.1 kk.2.2.1 kk.2.2.2 C H) fun r p => ?_
    exact plain r (by rw [can_1 h]; exact p.1) p.2.1 (fun z => ⟨(p.2.2 z).1.mo fun q y => Or.inl y, by rw [doe_1 s h]; exact (p.2.2 z).2⟩) (by omega)
  · have kk := E.k2 h
    rw [if_neg (by decide), if_neg (by decide), if_pos (show nI 2 = 2 from rfl), bb]
    refine Ok.b (c_putLack hb kk C H) fun r p => ?_
    exact plain r (by rw [can_2 h]; exact p.1) p.2.1 (fun z => ⟨(p.2.2 z).1.mo fun q y => Or.inl (by omega), by rw [doe_2 s h]; exact (p.2.2 z).2⟩) (by omega)
  · rw [if_neg (by decide), if_neg (by decide), if_neg (by decide), if_pos (show nI 3 = 3 from rfl), bb]
    refine Ok.b (c_setRules C) fun w p => ?_
    exact plain (true, w) (by rw [can_3 (Or.inl h)]; exact ⟨fun _ => trivial, fun _ => rfl⟩) (fun z => absurd z (by simp)) (fun z => ⟨p.1.mo fun q y => Or.inl (by omega), by rw [doe_3 s h]; exact p.2⟩) (by omega)
  · have kk := E.k4 h
    have can' : can s e := (can_3 (Or.inr h)).mpr trivial
    rw [if_neg (by decide), if_neg (by decide), if_neg (by decide), if_neg (by decide), if_pos (show nI 4 = 4 from rfl), bb]
    refine Ok.b (c_putHarm hf hb kk.1 (F0.2 h) (by omega) C H) fun r p => ?_
    have F : Fr (AB b) μ r.2 := p.2.1.mo fun q y => Or.inl (by omega)
    have H1 := Iv_hm H kk.1 (F0.2 h) kk.2.1 kk.2.2.1 kk.2.2.2.1 kk.2.2.2.2.1 kk.2.2.2.2.2
    have i1 : isH (hmS s (e 1) (e 2) (e 3) (e 4) (e 5 : Int)) (e 1) = 1 := by rw [hm_is, if_pos rfl]
    have am : D_X0_amountToSpread_0 r.2 b (nI k) = some (zL (e 5 : Int)) := by
      unfold D_X0_amountToSpread_0
      rw [show D_X2_read_0 r.2 (nI k) 0 = some (nI (e 0)) from rd F 0 (by decide), bi_s, h, if_pos (show nI 4 = 4 from rfl)]
      unfold D_X0_amountToSpread_40
      rw [show D_X2_read_0 r.2 (nI k) 1 = some (nI (e 1)) from rd F 1 (by decide), bi_s, gu_ib kk.1 (by omega), nI_nat (by omega), C_lo p.2.2 kk.1 i1, hm_lo, if_pos rfl]
    rw [bi_s]
    show Ok (if r.1 = true then _ else _) _
    rw [if_pos p.1, show D_X2_read_0 r.2 (nI k) 1 = some (nI (e 1)) from rd F 1 (by decide), bi_s, am, bi_s, if_neg (by rw [ll0, z_le (by omega) (by omega) (by omega) (by omega)]; omega)]
    refine (c_spread hf hb kk.1 i1 (by omega) (by omega) p.2.2 H1).mo fun w q => ⟨?_, F.tr q.2.1, ?_⟩
    · rw [q.1, canB_t.mpr can']
    · rw [go_y can', doe_4 s h]; exact q.2.2
  · have kk := E.k5 h
    rw [if_neg (by decide), if_neg (by decide), if_neg (by decide), if_neg (by decide), if_neg (by decide), if_pos (show nI 5 = 5 from rfl), bb]
    refine Ok.b (c_addLoss kk.1 (by omega) C H) fun r p => ?_
    rw [bi_s]
    show Ok (if r.1 = true then _ else _) _
    by_cases q : r.1 = true
    · have h1 := p.1.mp q
      have can' : can s e := (can_5 (Or.inl h)).mpr h1
      obtain ⟨F1, C1⟩ := p.2.2 q
      have F : Fr (AB b) μ r.2 := F1.mo fun q y => Or.inl (by omega)
      have H1 := Iv_gr H kk.1 h1 kk.2.2
      have i1 : isH (grS s (e 1) (e 2 : Int)) (e 1) = 1 := by
        show (grS s (e 1) (e 2 : Int)).1 13 (e 1) = 1
        rw [gr_1 s (e 1) _ (by decide)]; exact h1
      have am : D_X0_amountToSpread_0 r.2 b (nI k) = some (zL (e 2 : Int)) := by
        unfold D_X0_amountToSpread_0
        rw [show D_X2_read_0 r.2 (nI k) 0 = some (nI (e 0)) from rd F 0 (by decide), bi_s, h, if_neg (by decide), if_pos (show nI 5 = 5 from rfl), show D_X2_read_0 r.2 (nI k) 2 = some (nI (e 2)) from rd F 2 (by decide), bi_s, n_L (by omega)]
      rw [if_pos q, show D_X2_read_0 r.2 (nI k) 1 = some (nI (e 1)) from rd F 1 (by decide), bi_s, am, bi_s, if_neg (by rw [ll0, z_le (by omega) (by omega) (by omega) (by omega)]; omega)]
      refine (c_spread hf hb kk.1 i1 (by omega) (by omega) C1 H1).mo fun w q => ⟨?_, F.tr q.2.1, ?_⟩
      · rw [q.1, canB_t.mpr can']
      · rw [go_y can', doe_5 s h]; exact q.2.2
    · have qf : r.1 = false := by cases z : r.1; rfl; exact absurd z q
      have nc : ¬ can s e := fun z => q (p.1.mpr ((can_5 (Or.inl h)).mp z))
      rw [if_neg q]
      exact Ok.s ⟨(canB_f nc).symm, by rw [p.2.1 qf]; exact Fr.rfl', by rw [p.2.1 qf, go_n nc]; exact C⟩
  · have kk := E.k6 h
    rw [if_neg (by decide), if_neg (by decide), if_neg (by decide), if_neg (by decide), if_neg (by decide), if_neg (by decide), if_pos (show nI 6 = 6 from rfl), bb]
    refine Ok.b (c_putStand (v := 1) kk.2.1 C H) fun r p => ?_
    exact plain r (by rw [can_6 (Or.inl h)]; exact p.1) p.2.1 (fun z => ⟨(p.2.2 z).1.mo fun q y => Or.inl (by omega), by rw [doe_6 s h]; exact (p.2.2 z).2⟩) (by omega)
  · have kk := E.k7 h
    rw [if_neg (by decide), if_neg (by decide), if_neg (by decide), if_neg (by decide), if_neg (by decide), if_neg (by decide), if_neg (by decide), if_pos (show nI 7 = 7 from rfl), bb]
    refine Ok.b (c_putStand (v := 2) (c := 0) kk.2 C H) fun r p => ?_
    exact plain r (by rw [can_6 (Or.inr h)]; exact p.1) p.2.1 (fun z => ⟨(p.2.2 z).1.mo fun q y => Or.inl (by omega), by rw [doe_7 s h]; exact (p.2.2 z).2⟩) (by omega)
  · have kk := E.k8 h
    rw [if_neg (by decide), if_neg (by decide), if_neg (by decide), if_neg (by decide), if_neg (by decide), if_neg (by decide), if_neg (by decide), if_neg (by decide), bb]
    rcases IvH_is H.H (show e 1 < 25 by omega) with z0 | h1
    · have nc : ¬ can s e := fun z => by have := (can_5 (Or.inr h)).mp z; omega
      have tb : D_X0_takeBack_0 fu b (nI (e 1)) μ = some (false, μ) := by
        simp (disch := omega) only [D_X0_takeBack_0, li0, li1, li2, li3, li4, li5, li6, li7, li8, li9, li10, li12, li24, li31, li40, li160, n_le, n_lt, n_eq, n_m1, n_add, mr4, mr6, mr7, mr10, mr40, mr160, ml4, ml6, ml7, ml10, ml40, ml160, gu_ib, nI_nat, bi_s, vl_e, gu_t, if_true, if_false, reduceIte, bt1_1, bt1_2, bt1_3, bt1_4, bt1_5, bt1_6, bt1_7, bt1_8, bt1_9, bt1_10, bt1_11, bt1_12, bt14_1, bt14_2, bt14_3, bt14_4, bt14_5, bt14_6, bt14_7, bt14_8, bt14_9, bt14_10, bt14_11, bt14_12, C_ish C kk, z0]
      rw [tb, bi_s, bi_s]
      show Ok (if false = true then _ else _) _
      rw [if_neg (by decide)]
      exact Ok.s ⟨(canB_f nc).symm, Fr.rfl', by rw [go_n nc]; exact C⟩
    · have can' : can s e := (can_5 (Or.inr h)).mpr h1
      refine Ok.b (c_takeBack hf hb kk h1 C H) fun r p => ?_
      have F : Fr (AB b) μ r.2 := p.2.1.F.mo fun q y => Or.inl y
      have H1 := Iv_clr H kk
      have lo1 := IvH_lo H.H (show e 1 < 25 by omega) h1
      have gn := IvH_gr H.H (show e 1 < 25 by omega)
      have am : D_X0_amountToSpread_0 r.2 b (nI k) = some (zL (lo s (e 1))) := by
        unfold D_X0_amountToSpread_0
        rw [show D_X2_read_0 r.2 (nI k) 0 = some (nI (e 0)) from rd F 0 (by decide), bi_s, h, if_neg (by decide), if_neg (by decide), if_neg (by decide), if_neg (by decide), if_pos (show nI 8 = 8 from rfl)]
        unfold D_X0_amountToSpread_40
        rw [show D_X2_read_0 r.2 (nI k) 1 = some (nI (e 1)) from rd F 1 (by decide), bi_s, gu_ib kk (by omega), nI_nat (by omega), C_lo p.2.2 kk h1, clr_lo]
      rw [bi_s]
      show Ok (if r.1 = true then _ else _) _
      rw [if_pos p.1, show D_X2_read_0 r.2 (nI k) 1 = some (nI (e 1)) from rd F 1 (by decide), bi_s, am, bi_s, if_neg (by rw [ll0, z_le (by omega) (by omega) (by omega) (by omega)]; omega)]
      refine (c_spread (s := clrH s (e 1)) hf hb kk h1 (by omega) (by omega) p.2.2 H1).mo fun w q => ⟨?_, F.tr q.2.1, ?_⟩
      · rw [q.1, canB_t.mpr can']
      · rw [go_y can', doe_8 s h]; exact q.2.2
theorem c_clear {b fu : Nat} {μ : Mem} (hf : 200 < fu) (hb : b + 28 < 61) (z24 : ∀ l, l < 40 → μ.2.1 (b + 21) (40 * 24 + l) = zL 0 ∧ μ.2.1 (b + 22) (40 * 24 + l) = zL 0) : Ok (D_X0_clear_0 fu b μ) (fun x => Fr (fun q => b ≤ q ∧ q ≤ b + 28) μ x ∧ RC b x sp0) := by
  unfold D_X0_clear_0
  refine Ok.b (P := fun x => Fr (fun q => q = b + 1 ∨ q = b + 2 ∨ q = b + 13) μ x ∧ (∀ l, l < 40 → x.1 (b + 2) l = -1) ∧ (∀ y, y < 12 → x.1 (b + 13) y = nI 0) ∧ x.1 (b + 1) 12 = nI 0 ∧ x.1 (b + 1) 13 = nI 0) ?_ fun x1 p1 => ?_
  · unfold D_X5_clear_0
    refine Ok.b (c_fillI hf (by decide) (-1) μ) fun x1 p1 => ?_
    refine Ok.b (c_fillI hf (by decide) 0 x1) fun x2 p2 => ?_
    refine Ok.v (Ok.v (Ok.s ⟨?_, fun l hl => ?_, fun y hy => ?_, ?_, wI_e⟩))
    · exact Fr.wI (Fr.wI (Fr.tr (p1.1.mo fun q z => by omega) (p2.1.mo fun q z => by omega)) (by omega)) (by omega)
    · rw [wI_n (by omega), wI_n (by omega), p2.1.I (by omega)]; exact p1.2 l hl
    · rw [wI_n (by omega), wI_n (by omega)]; exact p2.2 y hy
    · rw [wI_s, if_neg (by decide), wI_e]; rfl
  refine Ok.b (P := fun x => Fr (fun q => q = b + 14 ∨ q = b + 15) x1 x ∧ (∀ h, h < 24 → x.1 (b + 15) h = nI 0) ∧ x.1 (b + 14) 12 = nI 0) ?_ fun x2 p2 => ?_
  · unfold D_X1_clear_0
    refine Ok.for (fun n i x => D_X1_clear_2 fu (b + 14) n (nI i) x) 24 (fun i x => Fr (fun q => q = b + 14 ∨ q = b + 15) x1 x ∧ ∀ h, h < i → x.1 (b + 15) h = nI 0) ?_ ?_ fu 0 x1 (by omega) (by omega) ⟨Fr.rfl', fun j h => absurd h (Nat.not_lt_zero j)⟩
    · intro n i x hi P kk
      simp (disch := omega) only [D_X1_clear_2, li0, li1, li2, li3, li4, li5, li6, li7, li8, li9, li10, li12, li24, li31, li40, li160, n_le, n_lt, n_eq, n_m1, n_add, mr4, mr6, mr7, mr10, mr40, mr160, ml4, ml6, ml7, ml10, ml40, ml160, gu_ib, nI_nat, bi_s, vl_e, gu_t, if_true, if_false, reduceIte, bt1_1, bt1_2, bt1_3, bt1_4, bt1_5, bt1_6, bt1_7, bt1_8, bt1_9, bt1_10, bt1_11, bt1_12, bt14_1, bt14_2, bt14_3, bt14_4, bt14_5, bt14_6, bt14_7, bt14_8, bt14_9, bt14_10, bt14_11, bt14_12]
      rw [if_neg (by omega)]
      refine kk _ ⟨Fr.wI P.1 (by omega), fun j hj => ?_⟩
      rw [wI_s]; split
      · rfl
      · exact P.2 j (by omega)
    · intro n x P
      simp (disch := omega) only [D_X1_clear_2, li0, li1, li2, li3, li4, li5, li6, li7, li8, li9, li10, li12, li24, li31, li40, li160, n_le, n_lt, n_eq, n_m1, n_add, mr4, mr6, mr7, mr10, mr40, mr160, ml4, ml6, ml7, ml10, ml40, ml160, gu_ib, nI_nat, bi_s, vl_e, gu_t, if_true, if_false, reduceIte, bt1_1, bt1_2, bt1_3, bt1_4, bt1_5, bt1_6, bt1_7, bt1_8, bt1_9, bt1_10, bt1_11, bt1_12, bt14_1, bt14_2, bt14_3, bt14_4, bt14_5, bt14_6, bt14_7, bt14_8, bt14_9, bt14_10, bt14_11, bt14_12]
      rw [if_pos (by omega)]
      refine Ok.s ⟨Fr.wI P.1 (by omega), fun h hh => ?_, wI_e⟩
      rw [wI_n (by omega)]; exact P.2 h hh
  refine Ok.b (c_fillI hf (by decide) 0 x2) fun x3 p3 => ?_
  refine Ok.b (c_fillI hf (by decide) 0 x3) fun x4 p4 => ?_
  refine Ok.b (P := fun x => Fr (fun q => q = b) x4 x ∧ x.1 b 4 = nI 0 ∧ x.1 b 5 = nI 0 ∧ x.1 b 6 = nI 0) ?_ fun x5 p5 => ?_
  · unfold D_X0_setRules_0
    have F0 : Fr (fun q => q = b) x4 (wI (wI (wI x4 b 4 0) b 5 0) b 6 0) := Fr.wI (A := fun q => q = b) (Fr.wI (A := fun q => q = b) (Fr.wI (A := fun q => q = b) Fr.rfl' rfl) rfl) rfl
    refine Ok.v (Ok.v (Ok.v (Ok.s ⟨F0, ?_, ?_, ?_⟩)))
    · rw [wI_s, if_neg (by decide), wI_s, if_neg (by decide), wI_e]; rfl
    · rw [wI_s, if_neg (by decide), wI_e]; rfl
    · exact wI_e
  have L : ∀ q, (q = b + 21 ∨ q = b + 22) → x5.2.1 q = μ.2.1 q := fun q hq => by rw [p5.1.L (by omega), p4.1.L (by omega), p3.1.L (by omega), p2.1.L (by omega), p1.1.L (by omega)]
  refine Ok.s ⟨?_, ?_, ?_, ?_⟩
  · exact Fr.tr (Fr.tr (Fr.tr (Fr.tr (p1.1.mo fun q z => by omega) (p2.1.mo fun q z => by omega)) (p3.1.mo fun q z => by omega)) (p4.1.mo fun q z => by omega)) (p5.1.mo fun q z => by omega)
  · refine ⟨fun l hl _ => ?_, fun _ _ h => absurd h n01, fun _ _ h => absurd h n01, fun _ _ h => absurd h n01, fun _ _ h => absurd h n01, fun _ _ h => absurd h n01, fun _ _ h => absurd h n01, fun _ _ _ h => absurd h n01, fun _ _ _ h => absurd h n01, fun y hy => ?_, fun _ _ _ h => absurd h (Nat.not_lt_zero _), ?_, ?_⟩
    · rw [p5.1.I (by omega), p4.1.I (by omega), p3.1.I (by omega), p2.1.I (by omega)]; exact p1.2.1 l hl
    · rw [p5.1.I (by omega), p4.1.I (by omega), p3.1.I (by omega), p2.1.I (by omega)]; exact p1.2.2.1 y hy
    · rw [p5.1.I (by omega), p4.1.I (by omega), p3.1.I (by omega), p2.1.I (by omega)]; exact p1.2.2.2.1
    · rw [p5.1.I (by omega), p4.1.I (by omega), p3.1.I (by omega), p2.1.I (by omega)]; exact p1.2.2.2.2
  · refine ⟨fun h hh => ?_, fun _ _ h => absurd h n01, fun _ _ h => absurd h n01, fun _ _ h => absurd h n01, fun _ _ h => absurd h n01, ?_, fun i hi => ?_, fun i hi => ?_, p5.2.1, p5.2.2.1, p5.2.2.2⟩
    · rw [p5.1.I (by omega), p4.1.I (by omega), p3.1.I (by omega)]; exact p2.2.1 h hh
    · rw [p5.1.I (by omega), p4.1.I (by omega), p3.1.I (by omega)]; exact p2.2.2
    · rw [p5.1.I (by omega), p4.1.I (by omega)]; exact p3.2 i hi
    · rw [p5.1.I (by omega)]; exact p4.2 i hi
  · refine ⟨fun _ _ h => absurd h n01, fun _ _ _ h => absurd h n01, fun _ _ h => absurd h n01, fun h l hh hq hl => ?_, fun h l hh hq hl => ?_, fun _ _ _ h => absurd h n01, fun _ _ _ h => absurd h n01, fun _ _ _ h => absurd h n01, fun _ _ h => absurd h n01, fun _ _ _ h => absurd h n01⟩
    · rcases hq with e | e
      · exact absurd e n01
      · subst e; rw [L _ (Or.inl rfl)]; exact (z24 l hl).1
    · rcases hq with e | e
      · exact absurd e n01
      · subst e; rw [L _ (Or.inr rfl)]; exact (z24 l hl).2
theorem RC_24 {b N : Nat} {μ : Mem} {s : Sp} (C : RC b μ s) (H : Iv N s) : ∀ l, l < 40 → μ.2.1 (b + 21) (40 * 24 + l) = zL 0 ∧ μ.2.1 (b + 22) (40 * 24 + l) = zL 0 := fun l hl => by
  have z := IvH_z2 H.H (show 24 < 25 by decide) (IvH_24 H.H) hl
  rw [C_tk C (by decide) (Or.inr rfl) hl, C_th C (by decide) (Or.inr rfl) hl, z.1, z.2.1]; exact ⟨rfl, rfl⟩
