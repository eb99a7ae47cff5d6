/-! questions that go over: shift -/
section
variable {fu n N M b : Nat} {ev : Nat → Ev} {μ m : Mem} {s t : Sp} {P : Nat → Prop}
/-- event i told ahead of event p: places 0 .. k-1 gone over -/
noncomputable def sfS (ev : Nat → Ev) (n i p : Nat) : Nat → Sp
  | 0 => sp0
  | k + 1 => (fun t => if k < n ∧ k ≠ i then go t (ev k) else t) (if k = p then go (sfS ev n i p k) (ev i) else sfS ev n i p k)
/-- events used up to place k -/
def sfP (i p k j : Nat) : Prop := j < k ∧ j ≠ i ∨ j = i ∧ p < k
theorem c_shift {i p j : Nat} (hf : 200 < fu) (hi : i < n) (hp : p ≤ n) (hj : j < 10) (G : EG ev n) (C : CI ev n μ) : Ok ((D_X0_clear_0 fu 32 μ).bind fun x19 => D_X6_shift_50 fu fu (nI i) (nI p) (nI j) 0 x19) (fun r => r.1 = .inl (zL (bA (sfS ev n i p (n + 1)) j)) ∧ CI ev n r.2 ∧ Fr (fun q => q ≤ 83) μ r.2) := by
  obtain ⟨t0, M0, C0, H0⟩ := C.t
  have n160 := G.1
  refine Ok.b (c_clear hf (by decide) (RC_24 C0 H0)) fun x pp => ?_
  refine Ok.for (fun q k x => D_X6_shift_50 fu q (nI i) (nI p) (nI j) (nI k) x) (n + 1) (fun k x => CS ev n 32 μ x (sfS ev n i p k) (2 * k) (sfP i p k)) ?_ ?_ fu 0 x (by omega) (by omega) (by
    obtain ⟨a, b, c, d⟩ := cs_0 (ev := ev) (n := n) pp
    exact ⟨a, b, c, DS_mo (fun i _ z => absurd z not_false) d⟩)
  · intro q k x hk S kk
    have cn : ∀ {y : Mem}, Fr (AB 32) μ y → y.1 1 1 = nI n := fun F => by rw [F.I (by unfold AB; omega)]; exact C.n
    have fin : ∀ y t M, M ≤ 2 * k + 1 → CS ev n 32 μ y t M (fun j => j < k ∧ j ≠ i ∨ j = i ∧ p < k + 1) → (if k = p then go (sfS ev n i p k) (ev i) else sfS ev n i p k) = t → Ok (D_X6_shift_85 fu (D_X6_shift_50 fu q) (nI i) (nI p) (nI j) (nI k) y) (fun r => r.1 = .inl (zL (bA (sfS ev n i p (n + 1)) j)) ∧ CI ev n r.2 ∧ Fr (fun q => q ≤ 83) μ r.2) := fun y t M hM S2 et => by
      have es : sfS ev n i p (k + 1) = if k < n ∧ k ≠ i then go t (ev k) else t := by rw [← et]; rfl
      simp (disch := omega) only [D_X6_shift_85, D_X6_shift_121, li0, li1, li2, li3, li4, li5, li6, li7, li8, li9, li10, li12, li24, li31, li40, li160, n_le, n_lt, n_eq, n_m1, n_add, mr4, mr6, mr7, mr10, mr40, mr160, ml4, ml6, ml7, ml10, ml40, ml160, gu_ib, nI_nat, bi_s, vl_e, gu_t, if_true, if_false, reduceIte, bt1_1, bt1_2, bt1_3, bt1_4, bt1_5, bt1_6, bt1_7, bt1_8, bt1_9, bt1_10, bt1_11, bt1_12, bt14_1, bt14_2, bt14_3, bt14_4, bt14_5, bt14_6, bt14_7, bt14_8, bt14_9, bt14_10, bt14_11, bt14_12, cn S2.1]
      by_cases c1 : n ≤ k
      · rw [if_pos c1]
        refine kk _ ?_
        rw [es, if_neg (by omega)]
        exact ⟨S2.1, S2.2.1, Iv_mo (by omega) S2.2.2.1, DS_mo (fun j' _ z => by unfold sfP; omega) S2.2.2.2⟩
      · rw [if_neg c1]
        by_cases c2 : k = i
        · rw [if_pos c2]
          refine kk _ ?_
          rw [es, if_neg (by omega)]
          exact ⟨S2.1, S2.2.1, Iv_mo (by omega) S2.2.2.1, DS_mo (fun j' _ z => by unfold sfP; omega) S2.2.2.2⟩
        · rw [if_neg c2]
          refine Ok.b (cs_step hf (by decide) (by decide) G C.g (show k < n by omega) (by omega) (by omega) S2) fun r p' => ?_
          refine kk _ ?_
          rw [es, if_pos ⟨by omega, c2⟩]
          exact ⟨p'.2.1, p'.2.2.1, Iv_mo (by omega) p'.2.2.2.1, DS_mo (fun j' _ z => by unfold sfP; omega) p'.2.2.2.2⟩
    simp (disch := omega) only [D_X6_shift_50, li0, li1, li2, li3, li4, li5, li6, li7, li8, li9, li10, li12, li24, li31, li40, li160, n_le, n_lt, n_eq, n_m1, n_add, mr4, mr6, mr7, mr10, mr40, mr160, ml4, ml6, ml7, ml10, ml40, ml160, gu_ib, nI_nat, bi_s, vl_e, gu_t, if_true, if_false, reduceIte, bt1_1, bt1_2, bt1_3, bt1_4, bt1_5, bt1_6, bt1_7, bt1_8, bt1_9, bt1_10, bt1_11, bt1_12, bt14_1, bt14_2, bt14_3, bt14_4, bt14_5, bt14_6, bt14_7, bt14_8, bt14_9, bt14_10, bt14_11, bt14_12, cn S.1]
    rw [if_neg (by omega)]
    by_cases c : k = p
    · rw [if_pos c]
      refine Ok.b (cs_step hf (by decide) (by decide) G C.g hi (by unfold sfP; omega) (by omega) S) fun r p' => ?_
      refine fin _ _ _ (Nat.le_refl _) ⟨p'.2.1, p'.2.2.1, p'.2.2.2.1, DS_mo (fun j' _ z => by unfold sfP at z; omega) p'.2.2.2.2⟩ (by rw [if_pos c])
    · rw [if_neg c]
      exact fin _ _ _ (by omega) ⟨S.1, S.2.1, S.2.2.1, DS_mo (fun j' _ z => by unfold sfP at z; omega) S.2.2.2⟩ (by rw [if_neg c])
  · intro q x S
    have cn : x.1 1 1 = nI n := by rw [S.1.I (by unfold AB; omega)]; exact C.n
    have cb : D_X1_borneInAll_0 fu x 46 (nI j) = some (zL (bA (sfS ev n i p (n + 1)) j)) := c_borneAll hf hj S.2.1 S.2.2.1
    simp (disch := omega) only [D_X6_shift_50, li0, li1, li2, li3, li4, li5, li6, li7, li8, li9, li10, li12, li24, li31, li40, li160, n_le, n_lt, n_eq, n_m1, n_add, mr4, mr6, mr7, mr10, mr40, mr160, ml4, ml6, ml7, ml10, ml40, ml160, gu_ib, nI_nat, bi_s, vl_e, gu_t, if_true, if_false, reduceIte, bt1_1, bt1_2, bt1_3, bt1_4, bt1_5, bt1_6, bt1_7, bt1_8, bt1_9, bt1_10, bt1_11, bt1_12, bt14_1, bt14_2, bt14_3, bt14_4, bt14_5, bt14_6, bt14_7, bt14_8, bt14_9, bt14_10, bt14_11, bt14_12, cn, cb]
    rw [if_pos (by omega)]
    exact Ok.s ⟨rfl, CI_32 S C⟩
end
