/-! what comes of an amount, in the class's rows -/
theorem RC_Fr {A : Nat → Prop} {b : Nat} {μ x : Mem} {s : Sp} (F : Fr A μ x) (hA : ∀ q, A q → q < b ∨ b + 28 < q) (C : RC b μ s) : RC b x s := RC_frm (fun q h1 h2 => F.1 q (fun z => by have := hA q z; omega)) C
theorem wL_n {μ : Mem} {c i q : Nat} {x : Int64} (h : q ≠ c) : (wL μ c i x).2.1 q = μ.2.1 q := by
  funext j; rw [wL_2, if_neg (fun z => h z.1)]
theorem wI_n {μ : Mem} {c i q : Nat} {x : Int32} (h : q ≠ c) : (wI μ c i x).1 q = μ.1 q := by
  funext j; rw [wI_1, if_neg (fun z => h z.1)]
theorem wL_e {μ : Mem} {c i : Nat} {x : Int64} : (wL μ c i x).2.1 c i = x := by rw [wL_2, if_pos ⟨rfl, rfl⟩]
theorem wI_e {μ : Mem} {c i : Nat} {x : Int32} : (wI μ c i x).1 c i = x := by rw [wI_1, if_pos ⟨rfl, rfl⟩]
theorem wI_L (μ : Mem) (c i : Nat) (x : Int32) : (wI μ c i x).2.1 = μ.2.1 := rfl
theorem z_mn {a b : Int} (h1 : -9223372036854775808 ≤ a) (h2 : a < 9223372036854775808) (h3 : -9223372036854775808 ≤ b) (h4 : b < 9223372036854775808) : (if zL a < zL b then zL a else zL b) = zL (min b a) := by
  simp only [z_lt h1 h2 h3 h4]
  rw [Int.min_def]
  by_cases q : a < b
  · rw [if_pos q, if_neg (by omega)]
  · rw [if_neg q, if_pos (by omega)]
/-- rows of an outcome -/
def CO (t : Nat) (μ : Mem) (O : Oc) : Prop := (∀ l, l < 40 → μ.2.1 (t + 1) l = zL (O 0 l)) ∧ (∀ l, l < 40 → μ.2.1 (t + 2) l = zL (O 1 l)) ∧ (∀ l, l < 40 → μ.2.1 (t + 3) l = zL (O 2 l)) ∧ (∀ i, i < 10 → μ.2.1 (t + 5) i = zL (O 4 i)) ∧ (∀ r, r < 7 → μ.2.1 (t + 6) r = zL (O 5 r))
theorem CO.t {t : Nat} {μ : Mem} {O : Oc} (H : CO t μ O) {l : Nat} (hl : l < 40) : μ.2.1 (t + 1) l = zL (O 0 l) := H.1 l hl
theorem CO.h {t : Nat} {μ : Mem} {O : Oc} (H : CO t μ O) {l : Nat} (hl : l < 40) : μ.2.1 (t + 2) l = zL (O 1 l) := H.2.1 l hl
theorem CO.g {t : Nat} {μ : Mem} {O : Oc} (H : CO t μ O) {l : Nat} (hl : l < 40) : μ.2.1 (t + 3) l = zL (O 2 l) := H.2.2.1 l hl
theorem CO.b {t : Nat} {μ : Mem} {O : Oc} (H : CO t μ O) {l : Nat} (hl : l < 10) : μ.2.1 (t + 5) l = zL (O 4 l) := H.2.2.2.1 l hl
theorem CO.r {t : Nat} {μ : Mem} {O : Oc} (H : CO t μ O) {l : Nat} (hl : l < 7) : μ.2.1 (t + 6) l = zL (O 5 l) := H.2.2.2.2 l hl
theorem CO_c {t : Nat} {μ : Mem} {O P : Oc} (e : ∀ f j, P f j = O f j) (H : CO t μ O) : CO t μ P := by
  simp only [CO, e] at H ⊢; exact H
theorem CO_F {A : Nat → Prop} {t : Nat} {μ x : Mem} {O : Oc} (F : Fr A μ x) (hA : ∀ q, A q → q ≤ t ∨ t + 6 < q ∨ q = t + 4) (H : CO t μ O) : CO t x O := by
  have e1 := F.L (q := t + 1) (fun z => by have := hA _ z; omega)
  have e2 := F.L (q := t + 2) (fun z => by have := hA _ z; omega)
  have e3 := F.L (q := t + 3) (fun z => by have := hA _ z; omega)
  have e5 := F.L (q := t + 5) (fun z => by have := hA _ z; omega)
  have e6 := F.L (q := t + 6) (fun z => by have := hA _ z; omega)
  simp only [CO, e1, e2, e3, e5, e6] at H ⊢
  exact H
theorem up_w {c i : Nat} {μ : Mem} {v : Int} {F : Nat → Int} {n : Nat} (h : ∀ l, l < n → μ.2.1 c l = zL (F l)) : ∀ l, l < n → (wL μ c i (zL v)).2.1 c l = zL (if l = i then v else F l) := fun l hl => by
  rw [wL_2]
  by_cases e : l = i
  · rw [if_pos ⟨rfl, e⟩, if_pos e]
  · rw [if_neg (fun z => e z.2), if_neg e]; exact h l hl
theorem uO_s (O : Oc) (f i : Nat) (v : Int) (l : Nat) : uO O f i v f l = if l = i then v else O f l := by
  rw [uO_1]
  by_cases e : l = i
  · rw [if_pos ⟨rfl, e⟩, if_pos e]
  · rw [if_neg (fun z => e z.2), if_neg e]
theorem uO_d (O : Oc) {f i g : Nat} (v : Int) (h : g ≠ f) (l : Nat) : uO O f i v g l = O g l := by
  rw [uO_1, if_neg (fun z => h z.1)]
theorem CO_w {t : Nat} {μ : Mem} {O : Oc} (H : CO t μ O) (f : Nat) (i : Nat) (v : Int) (hf : f = 0 ∨ f = 1 ∨ f = 2 ∨ f = 4 ∨ f = 5) : CO t (wL μ (t + (f + 1)) i (zL v)) (uO O f i v) := by
  rcases hf with e | e | e | e | e <;> subst e
  · refine ⟨fun l hl => ?_, fun l hl => ?_, fun l hl => ?_, fun l hl => ?_, fun l hl => ?_⟩
    · rw [up_w (fun l hl => H.t hl) l hl, uO_s]
    · rw [wL_n (by omega), uO_d _ _ (by omega)]; exact H.h hl
    · rw [wL_n (by omega), uO_d _ _ (by omega)]; exact H.g hl
    · rw [wL_n (by omega), uO_d _ _ (by omega)]; exact H.b hl
    · rw [wL_n (by omega), uO_d _ _ (by omega)]; exact H.r hl
  · refine ⟨fun l hl => ?_, fun l hl => ?_, fun l hl => ?_, fun l hl => ?_, fun l hl => ?_⟩
    · rw [wL_n (by omega), uO_d _ _ (by omega)]; exact H.t hl
    · rw [up_w (fun l hl => H.h hl) l hl, uO_s]
    · rw [wL_n (by omega), uO_d _ _ (by omega)]; exact H.g hl
    · rw [wL_n (by omega), uO_d _ _ (by omega)]; exact H.b hl
    · rw [wL_n (by omega), uO_d _ _ (by omega)]; exact H.r hl
  · refine ⟨fun l hl => ?_, fun l hl => ?_, fun l hl => ?_, fun l hl => ?_, fun l hl => ?_⟩
    · rw [wL_n (by omega), uO_d _ _ (by omega)]; exact H.t hl
    · rw [wL_n (by omega), uO_d _ _ (by omega)]; exact H.h hl
    · rw [up_w (fun l hl => H.g hl) l hl, uO_s]
    · rw [wL_n (by omega), uO_d _ _ (by omega)]; exact H.b hl
    · rw [wL_n (by omega), uO_d _ _ (by omega)]; exact H.r hl
  · refine ⟨fun l hl => ?_, fun l hl => ?_, fun l hl => ?_, fun l hl => ?_, fun l hl => ?_⟩
    · rw [wL_n (by omega), uO_d _ _ (by omega)]; exact H.t hl
    · rw [wL_n (by omega), uO_d _ _ (by omega)]; exact H.h hl
    · rw [wL_n (by omega), uO_d _ _ (by omega)]; exact H.g hl
    · rw [up_w (fun l hl => H.b hl) l hl, uO_s]
    · rw [wL_n (by omega), uO_d _ _ (by omega)]; exact H.r hl
  · refine ⟨fun l hl => ?_, fun l hl => ?_, fun l hl => ?_, fun l hl => ?_, fun l hl => ?_⟩
    · rw [wL_n (by omega), uO_d _ _ (by omega)]; exact H.t hl
    · rw [wL_n (by omega), uO_d _ _ (by omega)]; exact H.h hl
    · rw [wL_n (by omega), uO_d _ _ (by omega)]; exact H.g hl
    · rw [wL_n (by omega), uO_d _ _ (by omega)]; exact H.b hl
    · rw [up_w (fun l hl => H.r hl) l hl, uO_s]
theorem c_clearO {fu : Nat} (hf : 200 < fu) (t : Nat) (μ : Mem) : Ok (D_X3_clear_0 fu t μ) (fun μ' => Fr (fun q => t < q ∧ q ≤ t + 6) μ μ' ∧ CO t μ' oc0) := by
  unfold D_X3_clear_0
  refine Ok.b (c_fillL hf (by decide) 0 μ) fun x1 p1 => ?_
  refine Ok.b (c_fillL hf (by decide) 0 x1) fun x2 p2 => ?_
  refine Ok.b (c_fillL hf (by decide) 0 x2) fun x3 p3 => ?_
  refine Ok.b (c_fillL hf (by decide) 0 x3) fun x4 p4 => ?_
  refine Ok.b (c_fillL hf (by decide) 0 x4) fun x5 p5 => ?_
  refine Ok.s ⟨?_, fun l hl => ?_, fun l hl => ?_, fun l hl => ?_, fun l hl => ?_, fun l hl => ?_⟩
  · exact Fr.tr (Fr.tr (Fr.tr (Fr.tr (p1.1.mo fun q e => by omega) (p2.1.mo fun q e => by omega)) (p3.1.mo fun q e => by omega)) (p4.1.mo fun q e => by omega)) (p5.1.mo fun q e => by omega)
  · rw [p5.1.L (by omega), p4.1.L (by omega), p3.1.L (by omega), p2.1.L (by omega), p1.2 l hl]; rfl
  · rw [p5.1.L (by omega), p4.1.L (by omega), p3.1.L (by omega), p2.2 l hl]; rfl
  · rw [p5.1.L (by omega), p4.1.L (by omega), p3.2 l hl]; rfl
  · rw [p5.1.L (by omega), p4.2 l hl]; rfl
  · rw [p5.2 l hl]; rfl
theorem c_fill {b N fu t h y : Nat} {μ : Mem} {s : Sp} {O : Oc} {a : Int} (hf : 200 < fu) (hb : b + 28 < t) (hh : h < 25) (hq : isH s h = 1 ∨ h = 24) (hy : y < 12) (ha : 0 ≤ a) (ha2 : a < 4611686018427387904) (C : RC b μ s) (H : Iv N s) (B : CO t μ O) (Z : OZ s O y) : Ok (D_X3_fill_0 fu t b (nI h) (nI y) (zL a) μ) (fun r => r.1 = zL (fil s h y a O (hg s y)).1 ∧ CO t r.2 (fil s h y a O (hg s y)).2 ∧ Fr (fun q => t < q ∧ q ≤ t + 6) μ r.2) := by
  have h6 := IvT_hg H.T hy
  unfold D_X3_fill_0
  refine Ok.for (fun n i x => D_X3_fill_16 fu t b n (nI h) (nI y) (zL (fil s h y a O i).1) (nI (flo s y i)) (nI i) x) (hg s y) (fun i x => CO t x (fil s h y a O i).2 ∧ Fr (fun q => t < q ∧ q ≤ t + 6) μ x) ?_ ?_ fu 0 μ (by omega) (by omega) ⟨B, Fr.rfl'⟩
  · intro n i x hi P k
    have Cx : RC b x s := RC_Fr P.2 (fun q z => by omega) C
    have r4 := IvT_rg H.T hy hi
    have r1 := IvT_ri H.T hy hi
    have fb := fil_b H hh hy ha O (k := i) (by omega)
    have g := fHT H hh hy ha hi
    rw [← fil_O s h y a O i] at g
    have hl9 := hL_le H hh r4 r1
    have hl0 := hL_nn s h (rg s (6 * y + i))
    have ct0 := cT_nn H hh r4 r1
    have ct9 := cT_le H hh r4 r1
    have eH : min (fil s h y a O i).1 (hL s h (rg s (6 * y + i))) = fH s h y a i := by unfold fH; rw [fil_O s h y a O i]
    have eT : min ((fil s h y a O i).1 - fH s h y a i) (cT s h (rg s (6 * y + i))) = fT s h y a i := by unfold fT; rw [fil_O s h y a O i]
    have w6 : t + 6 ≠ t + 1 := by omega
    have w62 : t + 6 ≠ t + 2 := by omega
    simp (disch := omega) only [D_X3_fill_16, li0, li1, li2, li3, li4, li5, li6, li7, li8, li9, li10, li12, li24, li31, li40, li160, n_le, n_lt, n_eq, n_m1, n_add, mr4, mr6, mr7, mr10, mr40, mr160, ml4, ml6, ml7, ml10, ml40, ml160, gu_ib, nI_nat, bi_s, vl_e, gu_t, if_true, if_false, reduceIte, bt1_1, bt1_2, bt1_3, bt1_4, bt1_5, bt1_6, bt1_7, bt1_8, bt1_9, bt1_10, bt1_11, bt1_12, bt14_1, bt14_2, bt14_3, bt14_4, bt14_5, bt14_6, bt14_7, bt14_8, bt14_9, bt14_10, bt14_11, bt14_12, ll0, ll1, ll2, ll10, ll2e9, C_hg Cx hy, C_rg Cx hy hi, c_hole hh hq hy hi Cx H, c_canTake hh hq r4 r1 Cx H, z_mn, eH, z_add, z_sub, z_mul, z_neg, eT, wL_1, wL_n w6, wL_n w62, P.1.r (show 1 < 7 by decide), C_fr Cx r4 r1, C_sz Cx r4 r1, z_le]
    rw [if_neg (by omega)]
    by_cases q : (fil s h y a O i).1 ≤ 0
    · rw [if_pos q]
      have q0 : (fil s h y a O i).1 = 0 := by omega
      have st := fil_stop H hh hy ha Z q0 (m := hg s y) (by omega) (Nat.le_refl _)
      exact Ok.s ⟨by rw [st.1, q0], CO_c st.2 P.1, P.2⟩
    · rw [if_neg q]
      have e1 := fil_1 s h y a O i
      have e2 := fil_2 s h y a O i
      rw [← e1]
      refine k _ ⟨?_, ?_⟩
      · rw [e2]
        exact CO_w (CO_w (CO_w P.1 1 _ _ (by decide)) 0 _ _ (by decide)) 5 _ _ (by decide)
      · exact Fr.wL (Fr.wL (Fr.wL P.2 (by omega)) (by omega)) (by omega)
  · intro n x P
    have Cx : RC b x s := RC_Fr P.2 (fun q z => by omega) C
    simp (disch := omega) only [D_X3_fill_16, li0, li1, li2, li3, li4, li5, li6, li7, li8, li9, li10, li12, li24, li31, li40, li160, n_le, n_lt, n_eq, n_m1, n_add, mr4, mr6, mr7, mr10, mr40, mr160, ml4, ml6, ml7, ml10, ml40, ml160, gu_ib, nI_nat, bi_s, vl_e, gu_t, if_true, if_false, reduceIte, bt1_1, bt1_2, bt1_3, bt1_4, bt1_5, bt1_6, bt1_7, bt1_8, bt1_9, bt1_10, bt1_11, bt1_12, bt14_1, bt14_2, bt14_3, bt14_4, bt14_5, bt14_6, bt14_7, bt14_8, bt14_9, bt14_10, bt14_11, bt14_12, C_hg Cx hy]
    rw [if_pos (by omega)]
    exact Ok.s ⟨rfl, P⟩
/-! weights -/
theorem wA_bit {s : Sp} (H : IvT s) {off : Nat → Bool} {v y : Nat} (hy : y < 12) (ho : v.testBit y = off y) : (v &&& (lk s ^^^ 4095)).testBit y = (off y && !lkb s y) := by
  rw [Nat.testBit_and, Nat.testBit_xor, ho, (by decide +kernel : ∀ i, i < 12 → (4095 : Nat).testBit i = true) y hy]
  unfold lkb
  cases off y <;> cases (lk s).testBit y <;> rfl
theorem c_weighA {b N fu v : Nat} {μ : Mem} {s : Sp} {off : Nat → Bool} (hf : 200 < fu) (hb : b + 28 < 61) (hv : v < 4096) (ho : ∀ y, y < 12 → v.testBit y = off y) (C : RC b μ s) (H : Iv N s) : Ok (D_X4_weighAlike_0 fu (b + 1) (nI v) μ) (fun μ' => Fr (fun q => q = 76) μ μ' ∧ ∀ y, y < 12 → μ'.2.1 76 y = zL (wA s off y)) := by
  unfold D_X4_weighAlike_0
  rw [C_lk C, q_xm _ hv]
  have hw := q_al (lk s ^^^ 4095) hv
  refine Ok.for (fun n i x => D_X4_weighAlike_12 fu (b + 1) n (nI (v &&& (lk s ^^^ 4095))) (nI i) x) 12 (fun i x => Fr (fun q => q = 76) μ x ∧ ∀ y, y < i → x.2.1 76 y = zL (wA s off y)) ?_ ?_ fu 0 μ (by omega) (by omega) ⟨Fr.rfl', fun j h => absurd h (Nat.not_lt_zero j)⟩
  · intro n i x hi P k
    simp (disch := omega) only [D_X4_weighAlike_12, li0, li1, li2, li3, li4, li5, li6, li7, li8, li9, li10, li12, li24, li31, li40, li160, n_le, n_lt, n_eq, n_m1, n_add, mr4, mr6, mr7, mr10, mr40, mr160, ml4, ml6, ml7, ml10, ml40, ml160, gu_ib, nI_nat, bi_s, vl_e, gu_t, if_true, if_false, reduceIte, bt1_1, bt1_2, bt1_3, bt1_4, bt1_5, bt1_6, bt1_7, bt1_8, bt1_9, bt1_10, bt1_11, bt1_12, bt14_1, bt14_2, bt14_3, bt14_4, bt14_5, bt14_6, bt14_7, bt14_8, bt14_9, bt14_10, bt14_11, bt14_12, q_b, wA_bit H.T hi (ho i hi)]
    rw [if_neg (by omega)]
    refine k _ ⟨Fr.wL P.1 rfl, fun j hj => ?_⟩
    rw [wL_2]
    by_cases e : j = i
    · rw [if_pos ⟨rfl, e⟩, e]
      unfold wA
      cases off i <;> cases lkb s i <;> rfl
    · rw [if_neg (fun z => e z.2)]; exact P.2 j (by omega)
  · intro n x P
    simp (disch := omega) only [D_X4_weighAlike_12, li0, li1, li2, li3, li4, li5, li6, li7, li8, li9, li10, li12, li24, li31, li40, li160, n_le, n_lt, n_eq, n_m1, n_add, mr4, mr6, mr7, mr10, mr40, mr160, ml4, ml6, ml7, ml10, ml40, ml160, gu_ib, nI_nat, bi_s, vl_e, gu_t, if_true, if_false, reduceIte, bt1_1, bt1_2, bt1_3, bt1_4, bt1_5, bt1_6, bt1_7, bt1_8, bt1_9, bt1_10, bt1_11, bt1_12, bt14_1, bt14_2, bt14_3, bt14_4, bt14_5, bt14_6, bt14_7, bt14_8, bt14_9, bt14_10, bt14_11, bt14_12]
    rw [if_pos (by omega)]
    exact Ok.s P
/-- sizes of years set off -/
def w1 (s : Sp) (off : Nat → Bool) (y : Nat) : Int := if opn s off y then szS s y else 0
theorem szS_0 {s : Sp} {y : Nat} (h : hg s y = 0) : szS s y = 0 := by unfold szS; rw [h]; rfl
theorem opn_i {s : Sp} {off : Nat → Bool} {y : Nat} : opn s off y = true ↔ off y = true ∧ hg s y ≠ 0 := by
  unfold opn; rw [Bool.and_eq_true, decide_eq_true_iff]
theorem w1_e {s : Sp} (H : IvT s) {off : Nat → Bool} {y : Nat} (hy : y < 12) : w1 s off y = if (off y && !lkb s y) = true then szS s y else 0 := by
  unfold w1
  by_cases q : opn s off y = true
  · have o := opn_i.mp q
    have l : lkb s y = false := by
      cases e : lkb s y
      · rfl
      · exact absurd (IvT_lg H hy e) o.2
    rw [if_pos q, if_pos (by rw [o.1, l]; rfl)]
  · rw [if_neg q]
    split
    · rename_i z
      have z1 : off y = true := by cases e : off y <;> rw [e] at z <;> simp_all
      rw [szS_0 (by
        by_cases e : hg s y = 0
        · exact e
        · exact absurd (opn_i.mpr ⟨z1, e⟩) q)]
    · rfl
theorem w1_p {s : Sp} (H : IvT s) {off : Nat → Bool} {y : Nat} (hy : y < 12) : (0 < w1 s off y ↔ opn s off y = true) ∧ 0 ≤ w1 s off y ∧ w1 s off y ≤ 600000000 := by
  have b := szS_b H hy
  unfold w1
  by_cases q : opn s off y = true
  · rw [if_pos q]
    have := b.2.2 (by have := (opn_i.mp q).2; omega)
    exact ⟨⟨fun _ => q, fun _ => this⟩, by omega, by omega⟩
  · rw [if_neg q]
    exact ⟨⟨fun z => absurd z (by decide), fun z => absurd z q⟩, by decide, by decide⟩
theorem c_weighS {b N fu v : Nat} {μ : Mem} {s : Sp} {off : Nat → Bool} (hf : 200 < fu) (hb : b + 28 < 61) (hv : v < 4096) (ho : ∀ y, y < 12 → v.testBit y = off y) (C : RC b μ s) (H : Iv N s) : Ok (D_X4_weighBySizes_0 fu (b + 1) (nI v) μ) (fun μ' => Fr (fun q => q = 76) μ μ' ∧ ∀ y, y < 12 → μ'.2.1 76 y = zL (wS s off y)) := by
  unfold D_X4_weighBySizes_0
  rw [C_lk C, q_xm _ hv]
  have hw := q_al (lk s ^^^ 4095) hv
  have oc := opC_le s off 12
  have zt := szT_b H.T off (n := 12) (Nat.le_refl _)
  refine Ok.for (fun n i x => D_X4_weighBySizes_18 fu (b + 1) n (nI (v &&& (lk s ^^^ 4095))) (zL (szT s off i)) (nI (opC s off i)) (nI i) x) 12 (fun i x => Fr (fun q => q = 76) μ x ∧ ∀ y, y < i → x.2.1 76 y = zL (w1 s off y)) ?_ ?_ fu 0 μ (by omega) (by omega) ⟨Fr.rfl', fun j h => absurd h (Nat.not_lt_zero j)⟩
  · intro n i x hi P k
    have Cx : RC b x s := RC_Fr P.1 (fun q z => by omega) C
    have wp := w1_p H.T (off := off) hi
    have we := w1_e H.T (off := off) hi
    have oi := opC_le s off i
    have eT : szT s off i + w1 s off i = szT s off (i + 1) := rfl
    have go : ∀ v6 v4, D_X4_weighBySizes_50 fu (b + 1) (D_X4_weighBySizes_18 fu (b + 1) n) v6 v4 (nI (opC s off i)) (nI i) (nI i) (zL (w1 s off i)) x = D_X4_weighBySizes_18 fu (b + 1) n v6 (v4 + zL (w1 s off i)) (nI (opC s off (i + 1))) (nI (i + 1)) (wL x 76 i (zL (w1 s off i))) := fun v6 v4 => by
      simp (disch := omega) only [D_X4_weighBySizes_50, D_X4_weighBySizes_82, li0, li1, li2, li3, li4, li5, li6, li7, li8, li9, li10, li12, li24, li31, li40, li160, n_le, n_lt, n_eq, n_m1, n_add, mr4, mr6, mr7, mr10, mr40, mr160, ml4, ml6, ml7, ml10, ml40, ml160, gu_ib, nI_nat, bi_s, vl_e, gu_t, if_true, if_false, reduceIte, bt1_1, bt1_2, bt1_3, bt1_4, bt1_5, bt1_6, bt1_7, bt1_8, bt1_9, bt1_10, bt1_11, bt1_12, bt14_1, bt14_2, bt14_3, bt14_4, bt14_5, bt14_6, bt14_7, bt14_8, bt14_9, bt14_10, bt14_11, bt14_12, ll0, ll1, ll2, ll10, ll2e9, wL_e, z_le]
      rw [opC_s]
      by_cases q : opn s off i = true
      · have := wp.1.mpr q
        rw [if_neg (by omega), if_pos q]
      · have : ¬ 0 < w1 s off i := fun z => q (wp.1.mp z)
        rw [if_pos (by omega), if_neg q]
    have fin : Ok (D_X4_weighBySizes_18 fu (b + 1) n (nI (v &&& (lk s ^^^ 4095))) (zL (szT s off (i + 1))) (nI (opC s off (i + 1))) (nI (i + 1)) (wL x 76 i (zL (w1 s off i)))) (fun μ' => Fr (fun q => q = 76) μ μ' ∧ ∀ y, y < 12 → μ'.2.1 76 y = zL (wS s off y)) := by
      refine k _ ⟨Fr.wL P.1 rfl, fun j hj => ?_⟩
      rw [wL_2]
      by_cases e : j = i
      · rw [if_pos ⟨rfl, e⟩, e]
      · rw [if_neg (fun z => e z.2)]; exact P.2 j (by omega)
    simp (disch := omega) only [D_X4_weighBySizes_18, li0, li1, li2, li3, li4, li5, li6, li7, li8, li9, li10, li12, li24, li31, li40, li160, n_le, n_lt, n_eq, n_m1, n_add, mr4, mr6, mr7, mr10, mr40, mr160, ml4, ml6, ml7, ml10, ml40, ml160, gu_ib, nI_nat, bi_s, vl_e, gu_t, if_true, if_false, reduceIte, bt1_1, bt1_2, bt1_3, bt1_4, bt1_5, bt1_6, bt1_7, bt1_8, bt1_9, bt1_10, bt1_11, bt1_12, bt14_1, bt14_2, bt14_3, bt14_4, bt14_5, bt14_6, bt14_7, bt14_8, bt14_9, bt14_10, bt14_11, bt14_12, ll0, ll1, ll2, ll10, ll2e9, q_b, wA_bit H.T hi (ho i hi), c_sizesIn hf hi Cx H]
    rw [if_neg (by omega)]
    by_cases q : (off i && !lkb s i) = true
    · rw [if_pos q] at we
      rw [if_pos q, if_neg (by decide), ← we, go, z_add, eT]; exact fin
    · rw [if_neg q] at we
      rw [if_neg q, if_pos rfl, ← we, go, z_add, eT]; exact fin
  · intro n x P
    have gap : ∀ g : Int, (g = if opC s off 12 = 0 then 1 else szT s off 12 / (opC s off 12 : Int)) → Ok (D_X4_weighBySizes_106 fu (b + 1) (nI (v &&& (lk s ^^^ 4095))) (zL g) x) (fun μ' => Fr (fun q => q = 76) μ μ' ∧ ∀ y, y < 12 → μ'.2.1 76 y = zL (wS s off y)) := fun g hgg => by
      unfold D_X4_weighBySizes_106
      refine Ok.for (fun n i x => D_X4_weighBySizes_111 fu (b + 1) n (nI (v &&& (lk s ^^^ 4095))) (zL g) (nI i) x) 12 (fun i x => Fr (fun q => q = 76) μ x ∧ ∀ y, y < 12 → x.2.1 76 y = zL (if y < i then wS s off y else w1 s off y)) ?_ ?_ fu 0 x (by omega) (by omega) ⟨P.1, fun j hj => by rw [if_neg (by omega)]; exact P.2 j hj⟩
      · intro n i x hi P k
        have Cx : RC b x s := RC_Fr P.1 (fun q z => by omega) C
        have we := w1_e H.T (off := off) hi
        have keep : wS s off i = w1 s off i → Ok (D_X4_weighBySizes_111 fu (b + 1) n (nI (v &&& (lk s ^^^ 4095))) (zL g) (nI (i + 1)) x) (fun μ' => Fr (fun q => q = 76) μ μ' ∧ ∀ y, y < 12 → μ'.2.1 76 y = zL (wS s off y)) := fun e => by
          refine k _ ⟨P.1, fun j hj => ?_⟩
          rw [P.2 j hj]
          by_cases ej : j = i
          · rw [if_neg (by omega), if_pos (by omega), ej, e]
          · by_cases q : j < i
            · rw [if_pos q, if_pos (by omega)]
            · rw [if_neg q, if_neg (by omega)]
        simp (disch := omega) only [D_X4_weighBySizes_111, D_X4_weighBySizes_145, li0, li1, li2, li3, li4, li5, li6, li7, li8, li9, li10, li12, li24, li31, li40, li160, n_le, n_lt, n_eq, n_m1, n_add, mr4, mr6, mr7, mr10, mr40, mr160, ml4, ml6, ml7, ml10, ml40, ml160, gu_ib, nI_nat, bi_s, vl_e, gu_t, if_true, if_false, reduceIte, bt1_1, bt1_2, bt1_3, bt1_4, bt1_5, bt1_6, bt1_7, bt1_8, bt1_9, bt1_10, bt1_11, bt1_12, bt14_1, bt14_2, bt14_3, bt14_4, bt14_5, bt14_6, bt14_7, bt14_8, bt14_9, bt14_10, bt14_11, bt14_12, q_b, wA_bit H.T hi (ho i hi), c_gap hi Cx H, decide_eq_true_eq]
        rw [if_neg (by omega)]
        by_cases q : (off i && !lkb s i) = true
        · have qo : off i = true ∧ lkb s i = false := by
            rw [Bool.and_eq_true] at q
            exact ⟨q.1, by cases e : lkb s i <;> rw [e] at q <;> simp_all⟩
          rw [if_pos q, if_neg (by decide)]
          by_cases q2 : hg s i = 0
          · rw [if_pos q2]
            refine k _ ⟨Fr.wL P.1 rfl, fun j hj => ?_⟩
            rw [wL_2]
            by_cases ej : j = i
            · rw [if_pos ⟨rfl, ej⟩, ej, if_pos (by omega), hgg]
              unfold wS
              rw [if_pos qo, if_pos q2]
            · rw [if_neg (fun z => ej z.2), P.2 j hj]
              by_cases q3 : j < i
              · rw [if_pos q3, if_pos (by omega)]
              · rw [if_neg q3, if_neg (by omega)]
          · rw [if_neg q2]
            refine keep ?_
            have on : opn s off i = true := opn_i.mpr ⟨qo.1, q2⟩
            unfold wS w1
            have : opC s off 12 ≠ 0 := by
              have h1 := opC_mo s off (show i + 1 ≤ 12 by omega)
              rw [opC_s, if_pos on] at h1
              omega
            rw [if_pos qo, if_neg this, if_neg q2, if_pos on]
        · rw [if_neg q, if_pos rfl]
          refine keep ?_
          rw [we, if_neg q]
          unfold wS
          rw [if_neg]
          intro z
          rw [z.1, z.2] at q
          exact q rfl
      · intro n x P
        simp (disch := omega) only [D_X4_weighBySizes_111, li0, li1, li2, li3, li4, li5, li6, li7, li8, li9, li10, li12, li24, li31, li40, li160, n_le, n_lt, n_eq, n_m1, n_add, mr4, mr6, mr7, mr10, mr40, mr160, ml4, ml6, ml7, ml10, ml40, ml160, gu_ib, nI_nat, bi_s, vl_e, gu_t, if_true, if_false, reduceIte, bt1_1, bt1_2, bt1_3, bt1_4, bt1_5, bt1_6, bt1_7, bt1_8, bt1_9, bt1_10, bt1_11, bt1_12, bt14_1, bt14_2, bt14_3, bt14_4, bt14_5, bt14_6, bt14_7, bt14_8, bt14_9, bt14_10, bt14_11, bt14_12]
        rw [if_pos (by omega)]
        exact Ok.s ⟨P.1, fun y hy => by rw [P.2 y hy, if_pos hy]⟩
    by_cases q : opC s off 12 = 0
    · simp (disch := omega) only [D_X4_weighBySizes_18, li0, li1, li2, li3, li4, li5, li6, li7, li8, li9, li10, li12, li24, li31, li40, li160, n_le, n_lt, n_eq, n_m1, n_add, mr4, mr6, mr7, mr10, mr40, mr160, ml4, ml6, ml7, ml10, ml40, ml160, gu_ib, nI_nat, bi_s, vl_e, gu_t, if_true, if_false, reduceIte, bt1_1, bt1_2, bt1_3, bt1_4, bt1_5, bt1_6, bt1_7, bt1_8, bt1_9, bt1_10, bt1_11, bt1_12, bt14_1, bt14_2, bt14_3, bt14_4, bt14_5, bt14_6, bt14_7, bt14_8, bt14_9, bt14_10, bt14_11, bt14_12, ll0, ll1, ll2, ll10, ll2e9]
      rw [if_pos (by omega), if_pos (by omega)]
      exact gap 1 (by rw [if_pos q])
    · have g0 : ¬ (nI (opC s off 12)).toInt64 = 0 := by
        rw [n_L (by omega), ll0, z_eq (by omega) (by omega) (by omega) (by omega)]; omega
      have dd := z_div zt.1 (show szT s off 12 < 9223372036854775808 by omega) (show (0 : Int) < (opC s off 12 : Int) by omega) (by omega)
      simp (disch := omega) only [D_X4_weighBySizes_18, li0, li1, li2, li3, li4, li5, li6, li7, li8, li9, li10, li12, li24, li31, li40, li160, n_le, n_lt, n_eq, n_m1, n_add, mr4, mr6, mr7, mr10, mr40, mr160, ml4, ml6, ml7, ml10, ml40, ml160, gu_ib, nI_nat, bi_s, vl_e, gu_t, if_true, if_false, reduceIte, bt1_1, bt1_2, bt1_3, bt1_4, bt1_5, bt1_6, bt1_7, bt1_8, bt1_9, bt1_10, bt1_11, bt1_12, bt14_1, bt14_2, bt14_3, bt14_4, bt14_5, bt14_6, bt14_7, bt14_8, bt14_9, bt14_10, bt14_11, bt14_12, ↓gu_dd g0, n_L, dd]
      rw [if_pos (by omega), if_neg (by omega)]
      exact gap _ (by rw [if_neg q])
