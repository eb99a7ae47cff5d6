/-! gone over by other rules: the model -/
section
variable {fu n N M b : Nat} {ev : Nat → Ev} {μ m : Mem} {s t : Sp} {P : Nat → Prop}
theorem m_skip {k : Nat} {x : Mem} (hf : 200 < fu) (hk : k < 160) (g : MG x k (ev k)) (E : EvOK (ev k)) (h3 : ev k 0 = 3) (h1 : x.1 85 48 = nI 1) (R : RM x t) (H : Iv N t) : D_X7_goes_0 fu (nI k) x = some x := by
  have cb : canB t (ev k) = true := canB_t.mpr ((can_3 (Or.inl h3)).mpr trivial)
  unfold D_X7_goes_0
  rw [m_can hf hk g E R H, bi_s, if_pos cb]
  unfold D_X7_does_0
  have ne : ¬ (ev k 0 = 0 ∨ ev k 0 = 4) := by omega
  simp only [gu_ib hk (show 160 < 2147483648 by decide), nI_nat (show k < 2147483648 by omega), g.1, h3]
  rw [show D_X7_tell_0 x (nI k) 0 = some (nI (ev k 1)) from m_tell1 hk (by decide) ne g, bi_s, if_neg (by decide), if_neg (by decide), if_neg (by decide), if_pos (show nI 3 = 3 from rfl), h1, if_neg (by decide)]
  rfl
/-- the slots of 85 but for the rules and the word that they are fixed -/
theorem m_byW {a b c : Nat} (hf : 200 < fu) (ha : a ≤ 3) (hb : b ≤ 3) (hc : c ≤ 3) (G : EG ev n) (Lg : ∀ k, k < n → MG m k (ev k)) (hn : m.1 85 5 = nI n) (ho : m.1 85 48 = nI 0) : Ok (D_X7_goesBy_0 fu (nI a) (nI b) (nI c) m) (fun x => Fr AG m x ∧ E85 m x ∧ RM x (rF ev (fun k => decide (ev k 0 ≠ 3)) (ruS sp0 a b c) n) ∧ Iv n (rF ev (fun k => decide (ev k 0 ≠ 3)) (ruS sp0 a b c) n)) := by
  have n160 := G.1
  unfold D_X7_goesBy_0
  refine Ok.b (m_begins hf) fun x0 p => ?_
  obtain ⟨F0, E0, -, R0⟩ := p
  simp only [D_X7_rulesAre_0, vl_e, bi_s, li1]
  generalize ex : wI (wI (wI (wI x0 85 30 (nI a)) 85 31 (nI b)) 85 32 (nI c)) 85 48 (nI 1) = x
  have e85 : ∀ j, x.1 85 j = if j = 48 then nI 1 else if j = 32 then nI c else if j = 31 then nI b else if j = 30 then nI a else x0.1 85 j := fun j => by rw [← ex, wI_s, wI_s, wI_s, wI_s]
  have F1 : Fr (fun q => q = 85) x0 x := by rw [← ex]; exact Fr.wI (A := fun q => q = 85) (Fr.wI (A := fun q => q = 85) (Fr.wI (A := fun q => q = 85) (Fr.wI (A := fun q => q = 85) Fr.rfl' rfl) rfl) rfl) rfl
  have R1 : RM x (ruS sp0 a b c) := by
    have Ra : RMa x sp0.1 := RMa_frm (fun q hq => F1.I (by omega)) (by rw [e85]; simp) R0.a
    have Rz : RMz x sp0.2 := RMz_F F1 (fun q z => by omega) R0.z
    obtain ⟨r1, r2, r3, r4, r5, r6, r7, r8, r9, r10⟩ := R0.b
    refine ⟨Ra, ⟨fun h hh => by rw [F1.I (by omega)]; exact r1 h hh, fun h hh q => by rw [F1.I (by omega)]; exact r2 h hh q, fun h hh q => by rw [F1.I (by omega)]; exact r3 h hh q, fun h hh q => by rw [F1.I (by omega)]; exact r4 h hh q, fun h hh => by rw [F1.I (by omega)]; exact r5 h hh, fun i hi => by rw [F1.I (by omega)]; exact r6 i hi, fun i hi => by rw [F1.I (by omega)]; exact r7 i hi, ?_, ?_, ?_⟩, Rz⟩
    · rw [e85]; simp [ruS, uN']
    · rw [e85]; simp [ruS, uN']
    · rw [e85]; simp [ruS, uN']
  have Fm : Fr AG m x := Fr.tr (F0.mo fun q z => by unfold AG; omega) (F1.mo fun q z => Or.inl z)
  have Gx : ∀ k, k < n → MG x k (ev k) := fun k hk => MG_F Fm (fun q z => by unfold AG at z; omega) (Lg k hk)
  have Ex : ∀ j, j < 29 ∨ 32 < j → j ≠ 49 → j ≠ 48 → x.1 85 j = m.1 85 j := fun j h1 h2 h3 => by rw [e85, if_neg h3, if_neg (by omega), if_neg (by omega), if_neg (by omega)]; exact E0 j h1 h2
  have e48 : x.1 85 48 = nI 1 := by rw [e85, if_pos rfl]
  refine Ok.for (fun q k y => D_X7_goesBy_19 fu q (nI k) y) n (fun k y => MS ev n x y (rF ev (fun k => decide (ev k 0 ≠ 3)) (ruS sp0 a b c) k) k (fun i => i < k)) ?_ ?_ fu 0 x (by omega) (by omega) ⟨Fr.rfl', E85.rfl', R1, Iv_ru Iv_0 ha hb hc, DS_0 _ _ _ (fun _ => rfl) (fun _ => rfl)⟩
  · intro q k y hk S kk
    have cn : y.1 85 5 = nI n := by rw [S.2.1 5 (by decide) (by decide), Ex 5 (by decide) (by decide) (by decide)]; exact hn
    have c48 : y.1 85 48 = nI 1 := by rw [S.2.1 48 (by decide) (by decide)]; exact e48
    simp (disch := omega) only [D_X7_goesBy_19, li0, li1, li2, li3, li4, li5, li6, li7, li8, li9, li10, li12, li24, li31, li40, li160, n_le, n_lt, n_eq, n_m1, n_add, mr4, mr6, mr7, mr10, mr40, mr160, ml4, ml6, ml7, ml10, ml40, ml160, gu_ib, nI_nat, bi_s, vl_e, gu_t, if_true, if_false, reduceIte, bt1_1, bt1_2, bt1_3, bt1_4, bt1_5, bt1_6, bt1_7, bt1_8, bt1_9, bt1_10, bt1_11, bt1_12, bt14_1, bt14_2, bt14_3, bt14_4, bt14_5, bt14_6, bt14_7, bt14_8, bt14_9, bt14_10, bt14_11, bt14_12, cn]
    rw [if_neg (by omega)]
    by_cases q3 : ev k 0 = 3
    · rw [m_skip hf (by omega) (MG_F S.1 (fun q z => by unfold AG at z; omega) (Gx k hk)) (G.2.1 k hk) q3 c48 S.2.2.1 S.2.2.2.1, bi_s]
      refine kk _ ?_
      rw [rF_s, if_neg (by simp [q3])]
      exact ⟨S.1, S.2.1, S.2.2.1, Iv_mo (by omega) S.2.2.2.1, DS_mo (fun i _ z => by omega) S.2.2.2.2⟩
    · refine Ok.b (ms_step hf G Gx hk (by omega) (by omega) (Or.inr q3) S) fun z p => ?_
      refine kk _ ?_
      rw [rF_s, if_pos (by simp [q3])]
      exact ⟨p.2.1, p.2.2.1, p.2.2.2.1, p.2.2.2.2.1, DS_mo (fun i _ z => by omega) p.2.2.2.2.2⟩
  · intro q y S
    have cn : y.1 85 5 = nI n := by rw [S.2.1 5 (by decide) (by decide), Ex 5 (by decide) (by decide) (by decide)]; exact hn
    simp (disch := omega) only [D_X7_goesBy_19, li0, li1, li2, li3, li4, li5, li6, li7, li8, li9, li10, li12, li24, li31, li40, li160, n_le, n_lt, n_eq, n_m1, n_add, mr4, mr6, mr7, mr10, mr40, mr160, ml4, ml6, ml7, ml10, ml40, ml160, gu_ib, nI_nat, bi_s, vl_e, gu_t, if_true, if_false, reduceIte, bt1_1, bt1_2, bt1_3, bt1_4, bt1_5, bt1_6, bt1_7, bt1_8, bt1_9, bt1_10, bt1_11, bt1_12, bt14_1, bt14_2, bt14_3, bt14_4, bt14_5, bt14_6, bt14_7, bt14_8, bt14_9, bt14_10, bt14_11, bt14_12, cn]
    rw [if_pos (by omega)]
    refine Ok.s ⟨Fr.wI (Fr.tr Fm S.1) (Or.inl rfl), fun j h1 h2 => ?_, RM_frm (fun q h1 h2 => ⟨by rw [wI_n (by omega)], by rw [wI_L]⟩) (fun j h1 h2 => by rw [wI_s, if_neg (by omega)]) S.2.2.1, S.2.2.2.1⟩
    rw [wI_s]
    by_cases e : j = 48
    · rw [if_pos e, e]; exact ho.symm
    · rw [if_neg e, S.2.1 j h1 h2]; exact Ex j h1 h2 e
theorem m_by {a b c : Nat} (hf : 200 < fu) (ha : a ≤ 3) (hb : b ≤ 3) (hc : c ≤ 3) (G : EG ev n) (D : MI ev n m) : Ok (D_X7_goesBy_0 fu (nI a) (nI b) (nI c) m) (fun x => Fr AG m x ∧ E85 m x ∧ RM x (rF ev (fun k => decide (ev k 0 ≠ 3)) (ruS sp0 a b c) n) ∧ Iv n (rF ev (fun k => decide (ev k 0 ≠ 3)) (ruS sp0 a b c) n)) := m_byW hf ha hb hc G D.g D.n D.o
end
