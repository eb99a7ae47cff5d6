/-! the model: an event is done, all kinds; gone over -/
theorem RMa_n {μ : Mem} {n m : Nat → Nat → Nat} (e : ∀ g, g ≤ 11 → m g = n g) (H : RMa μ n) : RMa μ m := by
  simp only [RMa, e 0 (by decide), e 1 (by decide), e 2 (by decide), e 3 (by decide), e 4 (by decide), e 5 (by decide), e 6 (by decide), e 7 (by decide), e 8 (by decide), e 9 (by decide), e 10 (by decide), e 11 (by decide)] at H ⊢
  exact H
theorem RMb_n {μ : Mem} {n m : Nat → Nat → Nat} (e : ∀ g, 13 ≤ g → g ≤ 21 → g ≠ 18 → m g = n g) (H : RMb μ n) : RMb μ m := by
  simp only [RMb, e 13 (by decide) (by decide) (by decide), e 14 (by decide) (by decide) (by decide), e 15 (by decide) (by decide) (by decide), e 16 (by decide) (by decide) (by decide), e 17 (by decide) (by decide) (by decide), e 19 (by decide) (by decide) (by decide), e 20 (by decide) (by decide) (by decide), e 21 (by decide) (by decide) (by decide)] at H ⊢
  exact H
section
variable {N fu k : Nat} {μ : Mem} {s : Sp} {e : Ev}
theorem m_signs {l i n : Nat} (hl : l < 40) (h4 : ng s l < 4) (R : RM μ s) (H : Iv N s) : Ok (D_X7_signs_0 (nI l) (nI i) (nI n) μ) (fun x => Fr (fun q => 96 ≤ q ∧ q ≤ 98) μ x ∧ RM x (uN' (uN' (uN' s 6 (4 * l + ng s l) i) 7 (4 * l + ng s l) n) 5 l (ng s l + 1))) := by
  have nge : μ.1 96 l = nI (ng s l) := M_ng R hl
  simp (disch := omega) only [D_X7_signs_0, li0, li1, li2, li3, li4, li5, li6, li7, li8, li9, li10, li12, li24, li31, li40, li160, n_le, n_lt, n_eq, n_m1, n_add, mr4, mr6, mr7, mr10, mr40, mr160, ml4, ml6, ml7, ml10, ml40, ml160, gu_ib, nI_nat, bi_s, vl_e, gu_t, if_true, if_false, reduceIte, bt1_1, bt1_2, bt1_3, bt1_4, bt1_5, bt1_6, bt1_7, bt1_8, bt1_9, bt1_10, bt1_11, bt1_12, bt14_1, bt14_2, bt14_3, bt14_4, bt14_5, bt14_6, bt14_7, bt14_8, bt14_9, bt14_10, bt14_11, bt14_12, nge, wI_n]
  generalize ex : wI (wI (wI μ 97 (4 * l + ng s l) (nI i)) 98 (4 * l + ng s l) (nI n)) 96 l (nI (ng s l + 1)) = x
  have X : ∀ q, q < 96 ∨ 98 < q → x.1 q = μ.1 q := fun q hq => by subst ex; rw [wI_n (by omega), wI_n (by omega), wI_n (by omega)]
  have X96 : ∀ q, x.1 96 q = if q = l then nI (ng s l + 1) else μ.1 96 q := fun q => by subst ex; rw [wI_s, wI_n (by omega), wI_n (by omega)]
  have X97 : ∀ q, x.1 97 q = if q = 4 * l + ng s l then nI i else μ.1 97 q := fun q => by subst ex; rw [wI_n (by omega), wI_n (by omega), wI_s]
  have X98 : ∀ q, x.1 98 q = if q = 4 * l + ng s l then nI n else μ.1 98 q := fun q => by subst ex; rw [wI_n (by omega), wI_s, wI_n (by omega)]
  have XF : Fr (fun q => 96 ≤ q ∧ q ≤ 98) μ x := by subst ex; exact Fr.wI (Fr.wI (Fr.wI Fr.rfl' (by omega)) (by omega)) (by omega)
  generalize et : uN' (uN' (uN' s 6 (4 * l + ng s l) i) 7 (4 * l + ng s l) n) 5 l (ng s l + 1) = t
  have e5 : ∀ q, t.1 5 q = if q = l then ng s l + 1 else ng s q := fun q => by subst et; simp [ng, uN']
  have e6 : ∀ j, t.1 6 j = if j = 4 * l + ng s l then i else sg s j := fun j => by subst et; simp [sg, uN']
  have e7 : ∀ j, t.1 7 j = if j = 4 * l + ng s l then n else tn s j := fun j => by subst et; simp [tn, uN']
  have eo : ∀ g, g ≠ 5 → g ≠ 6 → g ≠ 7 → t.1 g = s.1 g := fun g a b c => by subst et; funext j; simp [uN', a, b, c]
  have e2 : t.2 = s.2 := by subst et; rfl
  have old : ∀ q k, q < 40 → k < t.1 5 q → ¬ (q = l ∧ k = ng s l) → k < ng s q ∧ ¬ 4 * q + k = 4 * l + ng s l := fun q k hq hk ne => by
    rw [e5] at hk
    have q4 := IvT_ng H.T hq
    by_cases a : q = l
    · rw [if_pos a] at hk; subst a; omega
    · rw [if_neg a] at hk; exact ⟨hk, by omega⟩
  have o0 := eo 0 (by decide) (by decide) (by decide)
  refine Ok.s ⟨XF, ⟨fun q hq => ?_, fun q hq => ?_, fun q hq h1 => ?_, fun q hq h1 => ?_, fun q hq h1 => ?_, fun q hq h1 => ?_, fun q hq h1 => ?_, fun q k hq hk => ?_, fun q k hq hk => ?_, fun y hy => ?_, fun y k hy hk => ?_, ?_⟩, ?_, ?_⟩
  · rw [X _ (by omega), o0]; exact M_is R hq
  · rw [X96, e5]; split
    · rfl
    · exact M_ng R hq
  · rw [X _ (by omega), eo 1 (by decide) (by decide) (by decide)]; rw [o0] at h1; exact M_yr R hq h1
  · rw [X _ (by omega), eo 2 (by decide) (by decide) (by decide)]; rw [o0] at h1; exact M_fr R hq h1
  · rw [X _ (by omega), eo 3 (by decide) (by decide) (by decide)]; rw [o0] at h1; exact M_sz R hq h1
  · rw [X _ (by omega), eo 4 (by decide) (by decide) (by decide)]; rw [o0] at h1; exact M_tm R hq h1
  · rw [X _ (by omega), eo 10 (by decide) (by decide) (by decide)]; rw [o0] at h1; exact M_hl R hq h1
  · rw [X97, e6]
    by_cases ne : q = l ∧ k = ng s l
    · rw [if_pos (by omega), if_pos (by omega)]
    · obtain ⟨a, c⟩ := old q k hq hk ne
      rw [if_neg c, if_neg c]; exact M_sg R hq a
  · rw [X98, e7]
    by_cases ne : q = l ∧ k = ng s l
    · rw [if_pos (by omega), if_pos (by omega)]
    · obtain ⟨a, c⟩ := old q k hq hk ne
      rw [if_neg c, if_neg c]; exact M_tn R hq a
  · rw [X _ (by omega), eo 8 (by decide) (by decide) (by decide)]; exact M_hg R hy
  · rw [X _ (by omega), eo 9 (by decide) (by decide) (by decide)]; rw [eo 8 (by decide) (by decide) (by decide)] at hk; exact M_rg R hy hk
  · rw [X _ (by omega), eo 11 (by decide) (by decide) (by decide)]; exact M_lk R
  · exact RMb_n (n := s.1) (fun g h1 h2 _ => eo g (by omega) (by omega) (by omega)) (RMb_F XF (fun q z => by omega) R.b)
  · rw [e2]; exact RMz_F XF (fun q z => by omega) R.z
theorem m_sprd {h : Nat} {v : Int} {x : Mem} (hf : 200 < fu) (hh : h < 24) (h1 : isH s h = 1) (hv : 0 ≤ v) (hv2 : v < 4611686018427387904) (R : RM x s) (H : Iv N s) : Ok (D_X7_spreads_0 fu (nI h) (zL v) x) (fun w => Fr AS x w ∧ RM w (sprd s h v)) := by
  have y := IvH_fs H.H (show h < 25 by omega) h1
  have Y : MY x h (fs s h) (ls s h) (sh s h) := ⟨M_fs R (by omega) h1, M_ls R (by omega) h1, M_sh R (by omega) h1, y.1, y.2.1, y.2.2⟩
  refine (m_spreads hf (by omega) hv hv2 Y R H).mo fun w p => ⟨p.1, ?_⟩
  exact MW_R p.2
theorem m_does (hf : 200 < fu) (hk : k < 160) (hN : N ≤ 1000) (G : MG μ k e) (E : EvOK e) (F0 : EvF s e) (C : can s e) (hr : μ.1 85 48 = nI 0 ∨ e 0 ≠ 3) (R : RM μ s) (H : Iv N s) : Ok (D_X7_does_0 fu (nI k) μ) (fun x => Fr AG μ x ∧ S85 μ x ∧ RM x (doe s e)) := by
  unfold D_X7_does_0
  simp only [gu_ib hk (show 160 < 2147483648 by decide), nI_nat (show k < 2147483648 by omega), G.1]
  rcases ev_cases E with h | h | h | h | h | h | h | h | h <;> rw [h]
  · have kk := E.k0 h
    have c := (can_0 h).mp C
    have h04 : e 0 = 0 ∨ e 0 = 4 := Or.inl h
    rw [show D_X7_tell_0 μ (nI k) 0 = some (nI (e 2)) from m_tell0 hk (by decide) h04 G, bi_s, if_pos (show nI 0 = 0 from rfl)]
    have md : μ.1 88 k = nI (e 1) := (G.2.1 h04).1
    have tl : ∀ (x : Mem) (j : Nat), x.1 89 = μ.1 89 → j < 4 → D_X7_tell_0 x (nI k) (nI j) = some (nI (e (j + 2))) := fun x j hx hj => by
      simp (disch := omega) only [D_X7_tell_0, li0, li1, li2, li3, li4, li5, li6, li7, li8, li9, li10, li12, li24, li31, li40, li160, n_le, n_lt, n_eq, n_m1, n_add, mr4, mr6, mr7, mr10, mr40, mr160, ml4, ml6, ml7, ml10, ml40, ml160, gu_ib, nI_nat, bi_s, vl_e, gu_t, if_true, if_false, reduceIte, bt1_1, bt1_2, bt1_3, bt1_4, bt1_5, bt1_6, bt1_7, bt1_8, bt1_9, bt1_10, bt1_11, bt1_12, bt14_1, bt14_2, bt14_3, bt14_4, bt14_5, bt14_6, bt14_7, bt14_8, bt14_9, bt14_10, bt14_11, bt14_12, hx, (G.2.1 h04).2 j hj]
    unfold D_X7_places_0
    rw [gu_ib hk (by omega), nI_nat (by omega), md]
    simp (disch := omega) only [gu_ib, nI_nat, vl_e]
    rw [show D_X7_tell_0 (wI μ 90 (e 1) 1) (nI k) 0 = some (nI (e 2)) from tl _ 0 (wI_n (by decide)) (by decide), bi_s]
    rw [show D_X7_tell_0 (wI (wI μ 90 (e 1) 1) 92 (e 1) (nI (e 2))) (nI k) 1 = some (nI (e 3)) from tl _ 1 (by rw [wI_n (by decide), wI_n (by decide)]) (by decide), bi_s]
    rw [show D_X7_tell_0 (wI (wI (wI μ 90 (e 1) 1) 92 (e 1) (nI (e 2))) 93 (e 1) (nI (e 3))) (nI k) 2 = some (nI (e 4)) from tl _ 2 (by rw [wI_n (by decide), wI_n (by decide), wI_n (by decide)]) (by decide), bi_s]
    rw [show D_X7_tell_0 (wI (wI (wI (wI μ 90 (e 1) 1) 92 (e 1) (nI (e 2))) 93 (e 1) (nI (e 3))) 94 (e 1) (nI (e 4))) (nI k) 3 = some (nI (e 5)) from tl _ 3 (by rw [wI_n (by decide), wI_n (by decide), wI_n (by decide), wI_n (by decide)]) (by decide), bi_s]
    refine Ok.b (P := fun x => Fr (fun q => 90 ≤ q ∧ q ≤ 115) μ x ∧ RM x (ptL s (e 1) (e 2) (e 3) (e 4) (e 5))) ?_ fun x p => Ok.s ⟨p.1.mo fun q z => by unfold AG; omega, S85_F p.1 (by omega), by rw [doe_0 s h]; exact p.2⟩
    refine Ok.b (m_places hf kk.1 kk.2.1 kk.2.2.1 ⟨kk.2.2.2.1, kk.2.2.2.2.1⟩ kk.2.2.2.2.2 (F0.1 h) c.1 c.2.1 c.2.2 R H rfl) fun x p => Ok.s p
  · have kk := E.k1 h
    have c := (can_1 h).mp C
    have ne : ¬ (e 0 = 0 ∨ e 0 = 4) := by omega
    rw [show D_X7_tell_0 μ (nI k) 0 = some (nI (e 1)) from m_tell1 hk (by decide) ne G, bi_s, if_neg (by decide), if_pos (show nI 1 = 1 from rfl), show D_X7_tell_0 μ (nI k) 1 = some (nI (e 2)) from m_tell1 (j := 1) hk (by decide) ne G, bi_s, show D_X7_tell_0 μ (nI k) 2 = some (nI (e 3)) from m_tell1 (j := 2) hk (by decide) ne G, bi_s]
    refine Ok.b (m_signs kk.1 c.2.1 R H) fun x p => Ok.s ⟨p.1.mo fun q z => by unfold AG; omega, S85_F p.1 (by omega), by rw [doe_1 s h]; exact p.2⟩
  · have kk := E.k2 h
    have ne : ¬ (e 0 = 0 ∨ e 0 = 4) := by omega
    have l4 := IvT_lk H.T
    rw [show D_X7_tell_0 μ (nI k) 0 = some (nI (e 1)) from m_tell1 hk (by decide) ne G, bi_s, if_neg (by decide), if_neg (by decide), if_pos (show nI 2 = 2 from rfl), M_lk R]
    simp (disch := omega) only [li0, li1, li2, li3, li4, li5, li6, li7, li8, li9, li10, li12, li24, li31, li40, li160, n_le, n_lt, n_eq, n_m1, n_add, mr4, mr6, mr7, mr10, mr40, mr160, ml4, ml6, ml7, ml10, ml40, ml160, gu_ib, nI_nat, bi_s, vl_e, gu_t, if_true, if_false, reduceIte, bt1_1, bt1_2, bt1_3, bt1_4, bt1_5, bt1_6, bt1_7, bt1_8, bt1_9, bt1_10, bt1_11, bt1_12, bt14_1, bt14_2, bt14_3, bt14_4, bt14_5, bt14_6, bt14_7, bt14_8, bt14_9, bt14_10, bt14_11, bt14_12, q_shl, q_or]
    have XF : Fr (fun q => q = 85) μ (wI μ 85 29 (nI (lk s ||| 2 ^ e 1))) := Fr.wI Fr.rfl' rfl
    refine Ok.s ⟨XF.mo fun q z => Or.inl z, fun j hj => by rw [wI_s, if_neg (by omega)], ?_⟩
    rw [doe_2 s h]
    refine ⟨?_, ?_, ?_⟩
    · have A := R.a
      refine ⟨fun l hl => ?_, fun l hl => ?_, fun l hl h1 => ?_, fun l hl h1 => ?_, fun l hl h1 => ?_, fun l hl h1 => ?_, fun l hl h1 => ?_, fun l k hl h1 => ?_, fun l k hl h1 => ?_, fun y hy => ?_, fun y k hy h1 => ?_, wI_e⟩ <;> rw [wI_n (by decide)]
      · exact M_is R hl
      · exact M_ng R hl
      · exact M_yr R hl h1
      · exact M_fr R hl h1
      · exact M_sz R hl h1
      · exact M_tm R hl h1
      · exact M_hl R hl h1
      · exact M_sg R hl h1
      · exact M_tn R hl h1
      · exact M_hg R hy
      · exact M_rg R hy h1
    · exact RMb_n (n := s.1) (fun g h1 h2 _ => by funext j; simp [uN', show g ≠ 11 by omega]) (RMb_frm (fun q hq => wI_n (by omega)) (fun j h1 h2 => by rw [wI_s, if_neg (by omega)]) R.b)
    · exact RMz_F XF (fun q z => by omega) R.z
  · have ne : ¬ (e 0 = 0 ∨ e 0 = 4) := by omega
    have h48 : μ.1 85 48 = 0 := by
      rcases hr with z | z
      · exact z
      · exact absurd h z
    rw [show D_X7_tell_0 μ (nI k) 0 = some (nI (e 1)) from m_tell1 hk (by decide) ne G, bi_s, if_neg (by decide), if_neg (by decide), if_neg (by decide), if_pos (show nI 3 = 3 from rfl), if_pos h48, show D_X7_tell_0 μ (nI k) 1 = some (nI (e 2)) from m_tell1 (j := 1) hk (by decide) ne G, bi_s, show D_X7_tell_0 μ (nI k) 2 = some (nI (e 3)) from m_tell1 (j := 2) hk (by decide) ne G, bi_s]
    unfold D_X7_rulesAre_0
    simp only [vl_e, bi_s]
    generalize ex : wI (wI (wI μ 85 30 (nI (e 1))) 85 31 (nI (e 2))) 85 32 (nI (e 3)) = x
    have XF : Fr (fun q => q = 85) μ x := by subst ex; exact Fr.wI (A := fun q => q = 85) (Fr.wI (A := fun q => q = 85) (Fr.wI (A := fun q => q = 85) Fr.rfl' rfl) rfl) rfl
    have X85 : ∀ j, j < 30 ∨ 32 < j → x.1 85 j = μ.1 85 j := fun j hj => by subst ex; rw [wI_s, if_neg (by omega), wI_s, if_neg (by omega), wI_s, if_neg (by omega)]
    have x30 : x.1 85 30 = nI (e 1) := by subst ex; rw [wI_s, if_neg (by decide), wI_s, if_neg (by decide), wI_e]
    have x31 : x.1 85 31 = nI (e 2) := by subst ex; rw [wI_s, if_neg (by decide), wI_e]
    have x32 : x.1 85 32 = nI (e 3) := by subst ex; exact wI_e
    refine Ok.s ⟨XF.mo fun q z => Or.inl z, fun j hj => X85 j (by omega), ?_⟩
    rw [doe_3 s h]
    refine ⟨?_, ?_, ?_⟩
    · exact RMa_n (n := s.1) (fun g h => by funext j; simp [uN', show g ≠ 21 by omega]) (RMa_frm (fun q hq => XF.I (by omega)) (X85 29 (by decide)) R.a)
    · generalize et : uN' (uN' (uN' s 21 0 (e 1)) 21 1 (e 2)) 21 2 (e 3) = t
      have eo : ∀ g, g ≠ 21 → t.1 g = s.1 g := fun g z => by subst et; funext j; simp [uN', z]
      have t0 : t.1 21 0 = e 1 := by subst et; rfl
      have t1 : t.1 21 1 = e 2 := by subst et; rfl
      have t2 : t.1 21 2 = e 3 := by subst et; rfl
      refine ⟨fun h hh => ?_, fun h hh h1 => ?_, fun h hh h1 => ?_, fun h hh h1 => ?_, fun h hh => ?_, fun i hi => ?_, fun i hi => ?_, by rw [t0]; exact x30, by rw [t1]; exact x31, by rw [t2]; exact x32⟩
      · rw [XF.I (by decide), eo 13 (by decide)]; exact M_ish R hh
      · rw [XF.I (by decide), eo 14 (by decide)]; rw [eo 13 (by decide)] at h1; exact M_fs R hh h1
      · rw [XF.I (by decide), eo 15 (by decide)]; rw [eo 13 (by decide)] at h1; exact M_ls R hh h1
      · rw [XF.I (by decide), eo 16 (by decide)]; rw [eo 13 (by decide)] at h1; exact M_sh R hh h1
      · rw [XF.I (by decide), eo 17 (by decide)]; exact M_gr R hh
      · rw [XF.I (by decide), eo 19 (by decide)]; exact M_sd R hi
      · rw [XF.I (by decide), eo 20 (by decide)]; exact M_cs R hi
    · exact RMz_F XF (fun q z => by omega) R.z
  · have kk := E.k4 h
    have h04 : e 0 = 0 ∨ e 0 = 4 := Or.inr h
    rw [show D_X7_tell_0 μ (nI k) 0 = some (nI (e 2)) from m_tell0 hk (by decide) h04 G, bi_s, if_neg (by decide), if_neg (by decide), if_neg (by decide), if_neg (by decide), if_pos (show nI 4 = 4 from rfl)]
    have md : μ.1 88 k = nI (e 1) := (G.2.1 h04).1
    have tl : ∀ (x : Mem) (j : Nat), x.1 89 = μ.1 89 → j < 4 → D_X7_tell_0 x (nI k) (nI j) = some (nI (e (j + 2))) := fun x j hx hj => by
      simp (disch := omega) only [D_X7_tell_0, li0, li1, li2, li3, li4, li5, li6, li7, li8, li9, li10, li12, li24, li31, li40, li160, n_le, n_lt, n_eq, n_m1, n_add, mr4, mr6, mr7, mr10, mr40, mr160, ml4, ml6, ml7, ml10, ml40, ml160, gu_ib, nI_nat, bi_s, vl_e, gu_t, if_true, if_false, reduceIte, bt1_1, bt1_2, bt1_3, bt1_4, bt1_5, bt1_6, bt1_7, bt1_8, bt1_9, bt1_10, bt1_11, bt1_12, bt14_1, bt14_2, bt14_3, bt14_4, bt14_5, bt14_6, bt14_7, bt14_8, bt14_9, bt14_10, bt14_11, bt14_12, hx, (G.2.1 h04).2 j hj]
    unfold D_X7_harms_0
    rw [gu_ib hk (by omega), nI_nat (by omega), md]
    simp (disch := omega) only [gu_ib, nI_nat, vl_e]
    rw [show D_X7_tell_0 (wI μ 91 (e 1) 1) (nI k) 0 = some (nI (e 2)) from tl _ 0 (wI_n (by decide)) (by decide), bi_s]
    rw [show D_X7_tell_0 (wI (wI μ 91 (e 1) 1) 100 (e 1) (nI (e 2))) (nI k) 1 = some (nI (e 3)) from tl _ 1 (by rw [wI_n (by decide), wI_n (by decide)]) (by decide), bi_s]
    rw [show D_X7_tell_0 (wI (wI (wI μ 91 (e 1) 1) 100 (e 1) (nI (e 2))) 101 (e 1) (nI (e 3))) (nI k) 2 = some (nI (e 4)) from tl _ 2 (by rw [wI_n (by decide), wI_n (by decide), wI_n (by decide)]) (by decide), bi_s]
    rw [show D_X7_tell_0 (wI (wI (wI (wI μ 91 (e 1) 1) 100 (e 1) (nI (e 2))) 101 (e 1) (nI (e 3))) 102 (e 1) (nI (e 4))) (nI k) 3 = some (nI (e 5)) from tl _ 3 (by rw [wI_n (by decide), wI_n (by decide), wI_n (by decide), wI_n (by decide)]) (by decide), bi_s, n_L (by omega), wL_e]
    generalize ex : wL (wI (wI (wI (wI μ 91 (e 1) 1) 100 (e 1) (nI (e 2))) 101 (e 1) (nI (e 3))) 102 (e 1) (nI (e 4))) 104 (e 1) (zL (e 5 : Int)) = x
    have XF : Fr (fun q => q = 91 ∨ 100 ≤ q ∧ q ≤ 102 ∨ q = 104) μ x := by subst ex; exact Fr.wL (Fr.wI (Fr.wI (Fr.wI (Fr.wI Fr.rfl' (by omega)) (by omega)) (by omega)) (by omega)) (by omega)
    have x91 : ∀ j, x.1 91 j = if j = e 1 then 1 else μ.1 91 j := fun j => by subst ex; simp (disch := omega) only [wI_n, wI_s, wL_1]
    have x100 : ∀ j, x.1 100 j = if j = e 1 then nI (e 2) else μ.1 100 j := fun j => by subst ex; simp (disch := omega) only [wI_n, wI_s, wL_1]
    have x101 : ∀ j, x.1 101 j = if j = e 1 then nI (e 3) else μ.1 101 j := fun j => by subst ex; simp (disch := omega) only [wI_n, wI_s, wL_1]
    have x102 : ∀ j, x.1 102 j = if j = e 1 then nI (e 4) else μ.1 102 j := fun j => by subst ex; simp (disch := omega) only [wI_n, wI_s, wL_1]
    have x104 : ∀ j, x.2.1 104 j = if j = e 1 then zL (e 5 : Int) else μ.2.1 104 j := fun j => by subst ex; rw [wL_s]; rfl
    have H1 := Iv_hm H kk.1 (F0.2 h) kk.2.1 kk.2.2.1 kk.2.2.2.1 kk.2.2.2.2.1 kk.2.2.2.2.2
    have i1 : isH (hmS s (e 1) (e 2) (e 3) (e 4) (e 5 : Int)) (e 1) = 1 := by rw [hm_is, if_pos rfl]
    have is13 : ∀ g, (hmS s (e 1) (e 2) (e 3) (e 4) (e 5 : Int)).1 13 g = 1 → g ≠ e 1 → isH s g = 1 := fun g hg ne => by
      have : isH (hmS s (e 1) (e 2) (e 3) (e 4) (e 5 : Int)) g = 1 := hg
      rw [hm_is, if_neg ne] at this; exact this
    have R1 : RM x (hmS s (e 1) (e 2) (e 3) (e 4) (e 5 : Int)) := by
      refine ⟨RMa_n (n := s.1) (fun g h => hm_1 s _ _ _ _ _ (by omega)) (RMa_frm (fun q hq => XF.I (by omega)) (by rw [XF.I (by decide)]) R.a), ⟨fun g hg => ?_, fun g hg h1 => ?_, fun g hg h1 => ?_, fun g hg h1 => ?_, fun g hg => ?_, fun i hi => ?_, fun i hi => ?_, ?_, ?_, ?_⟩, ?_⟩
      · show _ = nI (isH (hmS s (e 1) (e 2) (e 3) (e 4) (e 5 : Int)) g)
        rw [x91, hm_is]; split
        · rfl
        · exact M_ish R hg
      · show _ = nI (fs (hmS s (e 1) (e 2) (e 3) (e 4) (e 5 : Int)) g)
        rw [x100, hm_fs]; split
        · rfl
        · rename_i ne; exact M_fs R hg (is13 g h1 ne)
      · show _ = nI (ls (hmS s (e 1) (e 2) (e 3) (e 4) (e 5 : Int)) g)
        rw [x101, hm_ls]; split
        · rfl
        · rename_i ne; exact M_ls R hg (is13 g h1 ne)
      · show _ = nI (sh (hmS s (e 1) (e 2) (e 3) (e 4) (e 5 : Int)) g)
        rw [x102, hm_sh]; split
        · rfl
        · rename_i ne; exact M_sh R hg (is13 g h1 ne)
      · show _ = nI (gr (hmS s (e 1) (e 2) (e 3) (e 4) (e 5 : Int)) g)
        rw [hm_gr, XF.I (by decide)]; exact M_gr R hg
      · rw [XF.I (by decide), hm_1 s _ _ _ _ _ (by decide)]; exact M_sd R hi
      · rw [XF.I (by decide), hm_1 s _ _ _ _ _ (by decide)]; exact M_cs R hi
      · rw [XF.I (by decide), hm_1 s _ _ _ _ _ (by decide)]; exact M_r0 R
      · rw [XF.I (by decide), hm_1 s _ _ _ _ _ (by decide)]; exact M_r1 R
      · rw [XF.I (by decide), hm_1 s _ _ _ _ _ (by decide)]; exact M_r2 R
      · refine ⟨fun l hl => ?_, fun g hg => ?_, fun j hj => ?_, fun j hj => ?_, fun j hj => ?_, fun j hj => ?_, fun j hj => ?_, fun j hj => ?_⟩
        · rw [XF.L (by decide), hm_2 s _ _ _ _ _ (by decide)]; exact M_us R hl
        · show _ = zL (lo (hmS s (e 1) (e 2) (e 3) (e 4) (e 5 : Int)) g)
          rw [x104, hm_lo]; split
          · rfl
          · exact M_lo R hg
        · rw [XF.L (by decide), hm_2 s _ _ _ _ _ (by decide)]; exact M_tk R hj
        · rw [XF.L (by decide), hm_2 s _ _ _ _ _ (by decide)]; exact M_th R hj
        · rw [XF.L (by decide), hm_2 s _ _ _ _ _ (by decide)]; exact M_mv R hj
        · rw [XF.I (by decide), hm_2 s _ _ _ _ _ (by decide)]; exact M_hd R hj
        · rw [XF.L (by decide), hm_2 s _ _ _ _ _ (by decide)]; exact M_br R hj
        · rw [XF.L (by decide), hm_2 s _ _ _ _ _ (by decide)]; exact M_fl R hj
    refine Ok.b (P := fun w => Fr AS x w ∧ RM w (sprd (hmS s (e 1) (e 2) (e 3) (e 4) (e 5 : Int)) (e 1) (e 5 : Int))) ?_ fun w p => Ok.s ⟨Fr.tr (XF.mo fun q z => by unfold AG; omega) (p.1.mo fun q z => AS_G z), (S85_F XF (by omega)).tr (S85_F p.1 (by unfold AS; omega)), by rw [doe_4 s h]; exact p.2⟩
    refine Ok.b (m_sprd hf kk.1 i1 (by omega) (by omega) R1 H1) fun w p => Ok.s p
  · have kk := E.k5 h
    have h1 := (can_5 (Or.inl h)).mp C
    have ne : ¬ (e 0 = 0 ∨ e 0 = 4) := by omega
    rw [show D_X7_tell_0 μ (nI k) 0 = some (nI (e 1)) from m_tell1 hk (by decide) ne G, bi_s, if_neg (by decide), if_neg (by decide), if_neg (by decide), if_neg (by decide), if_neg (by decide), if_pos (show nI 5 = 5 from rfl), show D_X7_tell_0 μ (nI k) 1 = some (nI (e 2)) from m_tell1 (j := 1) hk (by decide) ne G, bi_s]
    unfold D_X7_grows_0
    simp (disch := omega) only [gu_ib, nI_nat, vl_e, M_lo R (show e 1 < 25 by omega), n_L, z_add, wL_1, M_gr R (show e 1 < 25 by omega), li1, n_add]
    generalize ex : wI (wL μ 104 (e 1) (zL (lo s (e 1) + (e 2 : Int)))) 103 (e 1) (nI (gr s (e 1) + 1)) = x
    have XF : Fr (fun q => q = 103 ∨ q = 104) μ x := by subst ex; exact Fr.wI (Fr.wL Fr.rfl' (by omega)) (by omega)
    have x103 : ∀ j, x.1 103 j = if j = e 1 then nI (gr s (e 1) + 1) else μ.1 103 j := fun j => by subst ex; rw [wI_s, wL_1]
    have x104 : ∀ j, x.2.1 104 j = if j = e 1 then zL (lo s (e 1) + (e 2 : Int)) else μ.2.1 104 j := fun j => by subst ex; rw [wI_L, wL_s]
    have H1 := Iv_gr H kk.1 h1 kk.2.2
    have i1 : isH (grS s (e 1) (e 2 : Int)) (e 1) = 1 := by
      show (grS s (e 1) (e 2 : Int)).1 13 (e 1) = 1
      rw [gr_1 s (e 1) _ (by decide)]; exact h1
    have R1 : RM x (grS s (e 1) (e 2 : Int)) := by
      refine ⟨RMa_n (n := s.1) (fun g h => gr_1 s _ _ (by omega)) (RMa_F XF (fun q z => by omega) R.a), ⟨fun g hg => ?_, fun g hg h1 => ?_, fun g hg h1 => ?_, fun g hg h1 => ?_, fun g hg => ?_, fun i hi => ?_, fun i hi => ?_, ?_, ?_, ?_⟩, ?_⟩
      · rw [XF.I (by decide), gr_1 s _ _ (by decide)]; exact M_ish R hg
      · rw [XF.I (by decide), gr_1 s _ _ (by decide)]; rw [gr_1 s _ _ (by decide)] at h1; exact M_fs R hg h1
      · rw [XF.I (by decide), gr_1 s _ _ (by decide)]; rw [gr_1 s _ _ (by decide)] at h1; exact M_ls R hg h1
      · rw [XF.I (by decide), gr_1 s _ _ (by decide)]; rw [gr_1 s _ _ (by decide)] at h1; exact M_sh R hg h1
      · show _ = nI (gr (grS s (e 1) (e 2 : Int)) g)
        rw [x103, gr_gr]; split
        · rfl
        · exact M_gr R hg
      · rw [XF.I (by decide), gr_1 s _ _ (by decide)]; exact M_sd R hi
      · rw [XF.I (by decide), gr_1 s _ _ (by decide)]; exact M_cs R hi
      · rw [XF.I (by decide), gr_1 s _ _ (by decide)]; exact M_r0 R
      · rw [XF.I (by decide), gr_1 s _ _ (by decide)]; exact M_r1 R
      · rw [XF.I (by decide), gr_1 s _ _ (by decide)]; exact M_r2 R
      · refine ⟨fun l hl => ?_, fun g hg => ?_, fun j hj => ?_, fun j hj => ?_, fun j hj => ?_, fun j hj => ?_, fun j hj => ?_, fun j hj => ?_⟩
        · rw [XF.L (by decide), gr_2 s _ _ (by decide)]; exact M_us R hl
        · show _ = zL (lo (grS s (e 1) (e 2 : Int)) g)
          rw [x104, gr_lo]; split
          · rfl
          · exact M_lo R hg
        · rw [XF.L (by decide), gr_2 s _ _ (by decide)]; exact M_tk R hj
        · rw [XF.L (by decide), gr_2 s _ _ (by decide)]; exact M_th R hj
        · rw [XF.L (by decide), gr_2 s _ _ (by decide)]; exact M_mv R hj
        · rw [XF.I (by decide), gr_2 s _ _ (by decide)]; exact M_hd R hj
        · rw [XF.L (by decide), gr_2 s _ _ (by decide)]; exact M_br R hj
        · rw [XF.L (by decide), gr_2 s _ _ (by decide)]; exact M_fl R hj
    refine Ok.b (P := fun w => Fr AS x w ∧ RM w (sprd (grS s (e 1) (e 2 : Int)) (e 1) (e 2 : Int))) ?_ fun w p => Ok.s ⟨Fr.tr (XF.mo fun q z => by unfold AG; omega) (p.1.mo fun q z => AS_G z), (S85_F XF (by omega)).tr (S85_F p.1 (by unfold AS; omega)), by rw [doe_5 s h]; exact p.2⟩
    refine Ok.b (m_sprd hf kk.1 i1 (by omega) (by omega) R1 H1) fun w p => Ok.s p
  · have kk := E.k6 h
    have ne : ¬ (e 0 = 0 ∨ e 0 = 4) := by omega
    rw [show D_X7_tell_0 μ (nI k) 0 = some (nI (e 1)) from m_tell1 hk (by decide) ne G, bi_s, if_neg (by decide), if_neg (by decide), if_neg (by decide), if_neg (by decide), if_neg (by decide), if_neg (by decide), if_pos (show nI 6 = 6 from rfl)]
    simp (disch := omega) only [gu_ib, nI_nat, vl_e]
    have tl : D_X7_tell_0 (wI μ 111 (e 1) 1) (nI k) 1 = some (nI (e 2)) := by
      have := m_tell1 (j := 1) (μ := wI μ 111 (e 1) 1) hk (by decide) ne (MG_F (Fr.wI (A := fun q => q = 111) Fr.rfl' rfl) (fun q z => by omega) G)
      exact this
    rw [tl, bi_s]
    generalize ex : wI (wI μ 111 (e 1) 1) 112 (e 1) (nI (e 2)) = x
    have XF : Fr (fun q => q = 111 ∨ q = 112) μ x := by subst ex; exact Fr.wI (Fr.wI Fr.rfl' (by omega)) (by omega)
    have x111 : ∀ j, x.1 111 j = if j = e 1 then nI 1 else μ.1 111 j := fun j => by subst ex; rw [wI_n (by decide), wI_s]; rfl
    have x112 : ∀ j, x.1 112 j = if j = e 1 then nI (e 2) else μ.1 112 j := fun j => by subst ex; rw [wI_s, wI_n (by decide)]
    refine Ok.s ⟨XF.mo fun q z => by unfold AG; omega, S85_F XF (by omega), ?_⟩
    rw [doe_6 s h]
    generalize et : uN' (uN' s 19 (e 1) 1) 20 (e 1) (e 2) = t
    have eo : ∀ g, g ≠ 19 → g ≠ 20 → t.1 g = s.1 g := fun g z w => by subst et; funext j; simp [uN', z, w]
    have t19 : ∀ j, t.1 19 j = if j = e 1 then 1 else sd s j := fun j => by subst et; simp [uN', sd]
    have t20 : ∀ j, t.1 20 j = if j = e 1 then e 2 else cs s j := fun j => by subst et; simp [uN', cs]
    have t2 : t.2 = s.2 := by subst et; rfl
    refine ⟨RMa_n (n := s.1) (fun g h => eo g (by omega) (by omega)) (RMa_F XF (fun q z => by omega) R.a), ⟨fun g hg => ?_, fun g hg h1 => ?_, fun g hg h1 => ?_, fun g hg h1 => ?_, fun g hg => ?_, fun i hi => ?_, fun i hi => ?_, ?_, ?_, ?_⟩, by rw [t2]; exact RMz_F XF (fun q z => by omega) R.z⟩
    · rw [XF.I (by decide), eo 13 (by decide) (by decide)]; exact M_ish R hg
    · rw [XF.I (by decide), eo 14 (by decide) (by decide)]; rw [eo 13 (by decide) (by decide)] at h1; exact M_fs R hg h1
    · rw [XF.I (by decide), eo 15 (by decide) (by decide)]; rw [eo 13 (by decide) (by decide)] at h1; exact M_ls R hg h1
    · rw [XF.I (by decide), eo 16 (by decide) (by decide)]; rw [eo 13 (by decide) (by decide)] at h1; exact M_sh R hg h1
    · rw [XF.I (by decide), eo 17 (by decide) (by decide)]; exact M_gr R hg
    · rw [x111, t19]; split
      · rfl
      · exact M_sd R hi
    · rw [x112, t20]; split
      · rfl
      · exact M_cs R hi
    · rw [XF.I (by decide), eo 21 (by decide) (by decide)]; exact M_r0 R
    · rw [XF.I (by decide), eo 21 (by decide) (by decide)]; exact M_r1 R
    · rw [XF.I (by decide), eo 21 (by decide) (by decide)]; exact M_r2 R
  · have kk := E.k7 h
    have c := (can_6 (Or.inr h)).mp C
    have ne : ¬ (e 0 = 0 ∨ e 0 = 4) := by omega
    rw [show D_X7_tell_0 μ (nI k) 0 = some (nI (e 1)) from m_tell1 hk (by decide) ne G, bi_s, if_neg (by decide), if_neg (by decide), if_neg (by decide), if_neg (by decide), if_neg (by decide), if_neg (by decide), if_neg (by decide), if_pos (show nI 7 = 7 from rfl)]
    simp (disch := omega) only [gu_ib, nI_nat, vl_e]
    generalize ex : wI μ 111 (e 1) 2 = x
    have XF : Fr (fun q => q = 111) μ x := by subst ex; exact Fr.wI Fr.rfl' rfl
    have x111 : ∀ j, x.1 111 j = if j = e 1 then nI 2 else μ.1 111 j := fun j => by subst ex; rw [wI_s]; rfl
    refine Ok.s ⟨XF.mo fun q z => by unfold AG; omega, S85_F XF (by omega), ?_⟩
    rw [doe_7 s h]
    generalize et : uN' (uN' s 19 (e 1) 2) 20 (e 1) 0 = t
    have eo : ∀ g, g ≠ 19 → g ≠ 20 → t.1 g = s.1 g := fun g z w => by subst et; funext j; simp [uN', z, w]
    have t19 : ∀ j, t.1 19 j = if j = e 1 then 2 else sd s j := fun j => by subst et; simp [uN', sd]
    have t20 : ∀ j, t.1 20 j = if j = e 1 then 0 else cs s j := fun j => by subst et; simp [uN', cs]
    have t2 : t.2 = s.2 := by subst et; rfl
    refine ⟨RMa_n (n := s.1) (fun g h => eo g (by omega) (by omega)) (RMa_F XF (fun q z => by omega) R.a), ⟨fun g hg => ?_, fun g hg h1 => ?_, fun g hg h1 => ?_, fun g hg h1 => ?_, fun g hg => ?_, fun i hi => ?_, fun i hi => ?_, ?_, ?_, ?_⟩, by rw [t2]; exact RMz_F XF (fun q z => by omega) R.z⟩
    · rw [XF.I (by decide), eo 13 (by decide) (by decide)]; exact M_ish R hg
    · rw [XF.I (by decide), eo 14 (by decide) (by decide)]; rw [eo 13 (by decide) (by decide)] at h1; exact M_fs R hg h1
    · rw [XF.I (by decide), eo 15 (by decide) (by decide)]; rw [eo 13 (by decide) (by decide)] at h1; exact M_ls R hg h1
    · rw [XF.I (by decide), eo 16 (by decide) (by decide)]; rw [eo 13 (by decide) (by decide)] at h1; exact M_sh R hg h1
    · rw [XF.I (by decide), eo 17 (by decide) (by decide)]; exact M_gr R hg
    · rw [x111, t19]; split
      · rfl
      · exact M_sd R hi
    · rw [XF.I (by decide), t20, M_cs R hi]; split
      · rename_i q; rw [q, IvR_c0 H.R kk.2 c]
      · rfl
    · rw [XF.I (by decide), eo 21 (by decide) (by decide)]; exact M_r0 R
    · rw [XF.I (by decide), eo 21 (by decide) (by decide)]; exact M_r1 R
    · rw [XF.I (by decide), eo 21 (by decide) (by decide)]; exact M_r2 R
  · have kk := E.k8 h
    have h1 := (can_5 (Or.inr h)).mp C
    have ne : ¬ (e 0 = 0 ∨ e 0 = 4) := by omega
    have lo1 := IvH_lo H.H (show e 1 < 25 by omega) h1
    have gn := IvH_gr H.H (show e 1 < 25 by omega)
    rw [show D_X7_tell_0 μ (nI k) 0 = some (nI (e 1)) from m_tell1 hk (by decide) ne G, bi_s, if_neg (by decide), if_neg (by decide), if_neg (by decide), if_neg (by decide), if_neg (by decide), if_neg (by decide), if_neg (by decide), if_neg (by decide)]
    refine Ok.b (P := fun w => Fr AG μ w ∧ S85 μ w ∧ RM w (sprd (clrH s (e 1)) (e 1) (lo s (e 1)))) ?_ fun w p => Ok.s ⟨p.1, p.2.1, by rw [doe_8 s h]; exact p.2.2⟩
    unfold D_X7_reopens_0
    refine Ok.for (fun n i x => D_X7_reopens_2 fu n (nI (e 1)) (nI i) x) 40 (fun i x => Fr (fun q => q = 99) μ x ∧ ∀ l, l < 40 → x.2.1 99 l = zL (us s l - if l < i then tk s (40 * e 1 + l) else 0)) ?_ ?_ fu 0 μ (by omega) (by omega) ⟨Fr.rfl', fun l hl => by rw [if_neg (by omega), Int.sub_zero]; exact M_us R hl⟩
    · intro n i x hi P kk'
      have e99 := P.2 i hi
      rw [if_neg (by omega), Int.sub_zero] at e99
      have e105 : x.2.1 105 (40 * e 1 + i) = zL (tk s (40 * e 1 + i)) := by rw [P.1.L (by decide)]; exact M_tk R (by omega)
      simp (disch := omega) only [D_X7_reopens_2, li0, li1, li2, li3, li4, li5, li6, li7, li8, li9, li10, li12, li24, li31, li40, li160, n_le, n_lt, n_eq, n_m1, n_add, mr4, mr6, mr7, mr10, mr40, mr160, ml4, ml6, ml7, ml10, ml40, ml160, gu_ib, nI_nat, bi_s, vl_e, gu_t, if_true, if_false, reduceIte, bt1_1, bt1_2, bt1_3, bt1_4, bt1_5, bt1_6, bt1_7, bt1_8, bt1_9, bt1_10, bt1_11, bt1_12, bt14_1, bt14_2, bt14_3, bt14_4, bt14_5, bt14_6, bt14_7, bt14_8, bt14_9, bt14_10, bt14_11, bt14_12, e99, e105, z_add, z_sub, z_mul, z_neg]
      rw [if_neg (by omega)]
      refine kk' _ ⟨Fr.wL P.1 rfl, fun l hl => ?_⟩
      rw [wL_s]
      by_cases q : l = i
      · rw [if_pos q, if_pos (by omega), q]
      · rw [if_neg q, P.2 l hl]
        by_cases c : l < i
        · rw [if_pos c, if_pos (by omega)]
        · rw [if_neg c, if_neg (by omega)]
    · intro n x P
      simp (disch := omega) only [D_X7_reopens_2, li0, li1, li2, li3, li4, li5, li6, li7, li8, li9, li10, li12, li24, li31, li40, li160, n_le, n_lt, n_eq, n_m1, n_add, mr4, mr6, mr7, mr10, mr40, mr160, ml4, ml6, ml7, ml10, ml40, ml160, gu_ib, nI_nat, bi_s, vl_e, gu_t, if_true, if_false, reduceIte, bt1_1, bt1_2, bt1_3, bt1_4, bt1_5, bt1_6, bt1_7, bt1_8, bt1_9, bt1_10, bt1_11, bt1_12, bt14_1, bt14_2, bt14_3, bt14_4, bt14_5, bt14_6, bt14_7, bt14_8, bt14_9, bt14_10, bt14_11, bt14_12]
      rw [if_pos (by omega)]
      refine Ok.b (m_clrH hf (show e 1 < 25 by omega)) fun w pw' => ?_
      obtain ⟨W, W1, W2, W3, W4⟩ := pw'
      have F : Fr (fun q => q = 99 ∨ 105 ≤ q ∧ q ≤ 110) μ w := Fr.tr (P.1.mo fun q z => Or.inl z) (W.mo fun q z => Or.inr z)
      have R1 : RM w (clrH s (e 1)) := by
        refine ⟨RMa_F F (fun q z => by omega) R.a, RMb_F F (fun q z => by omega) R.b, fun l hl => ?_, fun g hg => ?_, fun j hj => ?_, fun j hj => ?_, fun j hj => ?_, fun j hj => ?_, fun j hj => ?_, fun j hj => ?_⟩
        · show _ = zL (us (clrH s (e 1)) l)
          rw [W.L (by omega), P.2 l hl, if_pos hl, clr_us s _ hl]
        · show _ = zL (lo (clrH s (e 1)) g)
          rw [clr_lo, W.L (by omega), P.1.L (by omega)]; exact M_lo R hg
        · rw [W1 105 (by decide) (by decide) j, show j = 40 * (j / 40) + j % 40 by omega, clr_t s (e 1) 2 _ (by decide) (by omega), P.1.L (by decide)]
          by_cases c : j / 40 = e 1
          · rw [if_pos c, if_pos (by omega)]
          · rw [if_neg c, if_neg (by omega)]; exact M_tk R (by omega)
        · rw [W1 106 (by decide) (by decide) j, show j = 40 * (j / 40) + j % 40 by omega, clr_t s (e 1) 3 _ (by decide) (by omega), P.1.L (by decide)]
          by_cases c : j / 40 = e 1
          · rw [if_pos c, if_pos (by omega)]
          · rw [if_neg c, if_neg (by omega)]; exact M_th R (by omega)
        · rw [W1 107 (by decide) (by decide) j, show j = 40 * (j / 40) + j % 40 by omega, clr_t s (e 1) 4 _ (by decide) (by omega), P.1.L (by decide)]
          by_cases c : j / 40 = e 1
          · rw [if_pos c, if_pos (by omega)]
          · rw [if_neg c, if_neg (by omega)]; exact M_mv R (by omega)
        · show _ = zI (hd (clrH s (e 1)) j)
          rw [W2 j, show j = 160 * (j / 160) + j % 160 by omega, clr_hd s (e 1) _ (by omega), P.1.I (by decide)]
          by_cases c : j / 160 = e 1
          · rw [if_pos c, if_pos (by omega)]; rfl
          · rw [if_neg c, if_neg (by omega)]; exact M_hd R (by omega)
        · show _ = zL (br (clrH s (e 1)) j)
          rw [W3 j, show j = 10 * (j / 10) + j % 10 by omega, clr_br s (e 1) _ (by omega), P.1.L (by decide)]
          by_cases c : j / 10 = e 1
          · rw [if_pos c, if_pos (by omega)]
          · rw [if_neg c, if_neg (by omega)]; exact M_br R (by omega)
        · show _ = zL (fl (clrH s (e 1)) j)
          rw [W4 j, show j = 7 * (j / 7) + j % 7 by omega, clr_fl s (e 1) _ (by omega), P.1.L (by decide)]
          by_cases c : j / 7 = e 1
          · rw [if_pos c, if_pos (by omega)]
          · rw [if_neg c, if_neg (by omega)]; exact M_fl R (by omega)
      have el : w.2.1 104 (e 1) = zL (lo s (e 1)) := by
        have := M_lo R1 (show e 1 < 25 by omega)
        rw [clr_lo] at this; exact this
      rw [el]
      refine Ok.b (m_sprd (s := clrH s (e 1)) hf kk h1 (by omega) (by omega) R1 (Iv_clr H kk)) fun v p => Ok.s ⟨Fr.tr (F.mo fun q z => by unfold AG; omega) (p.1.mo fun q z => AS_G z), (S85_F F (by omega)).tr (S85_F p.1 (by unfold AS; omega)), p.2⟩
theorem m_goes (hf : 200 < fu) (hk : k < 160) (hN : N ≤ 1000) (G : MG μ k e) (E : EvOK e) (F0 : EvF s e) (hr : μ.1 85 48 = nI 0 ∨ e 0 ≠ 3) (R : RM μ s) (H : Iv N s) : Ok (D_X7_goes_0 fu (nI k) μ) (fun x => Fr AG μ x ∧ (∀ j, j < 29 ∨ 32 < j → j ≠ 49 → x.1 85 j = μ.1 85 j) ∧ x.1 85 49 = μ.1 85 49 + nI (if canB s e then 0 else 1) ∧ RM x (go s e)) := by
  unfold D_X7_goes_0
  rw [m_can hf hk G E R H, bi_s]
  by_cases q : canB s e = true
  · have C := canB_t.mp q
    rw [if_pos q, if_pos q, go_y C]
    refine Ok.b (m_does hf hk hN G E F0 C hr R H) fun x p => Ok.s ⟨p.1, fun j hj _ => p.2.1 j hj, ?_, p.2.2⟩
    rw [p.2.1 49 (by decide)]; exact (Int32.add_zero _).symm
  · have nc : ¬ can s e := fun z => q (canB_t.mpr z)
    rw [if_neg q, if_neg q, go_n nc]
    have F1 : Fr (fun q => q = 85) μ (wI μ 85 49 (μ.1 85 49 + 1)) := Fr.wI Fr.rfl' rfl
    refine Ok.v (Ok.s ⟨F1.mo fun q z => Or.inl z, fun j hj h49 => by rw [wI_s, if_neg h49], by rw [wI_e]; rfl, ?_⟩)
    refine RM_frm (μ := μ) (fun q h1 h2 => ⟨by rw [wI_n (by omega)], by rw [wI_L]⟩) (fun j h1 h2 => by rw [wI_s, if_neg (by omega)]) R
end
