/-! the model: to the full, what is fair, contribution -/
section
variable {N fu h a b c : Nat} {μ : Mem} {s : Sp}
theorem m_byFull {v : Int} (hf : 200 < fu) (hh : h < 25) (ha : 0 ≤ v) (ha2 : v < 4611686018427387904) (Y : MY μ h a b c) (M : MW μ s h oc0) (H : Iv N s) : Ok (D_X7_byFull_0 fu (nI h) (zL v) μ) (fun x => Fr (fun q => AM q ∨ q = 121) μ x ∧ MW x s h (pyF s h (offB a b c (ru s 0)) v)) := by
  have pk : ∀ {x : Mem} {k : Nat}, Fr (fun q => q = 121) μ x → k ≤ 12 → D_X7_picked_0 fu x (nI h) (nI k) = some (if k < opC s (offB a b c (ru s 0)) 12 then nI (oI s h (offB a b c (ru s 0)) k) else -1) := fun F hk => m_picked hf hh (by omega) (MY_F F (fun q z => by omega) Y) (MW_F F (fun q z => by omega) M).v H
  generalize offB a b c (ru s 0) = off at pk ⊢
  have oc := opC_le s off 12
  unfold D_X7_byFull_0
  rw [show D_X7_picked_0 fu μ (nI h) 0 = _ from pk (k := 0) Fr.rfl' (by decide), bi_s]
  refine Ok.for (fun n i x => D_X7_byFull_11 fu n (nI h) (zL v) (nI i) (if i < opC s off 12 then nI (oI s h off i) else -1) x) (opC s off 12) (fun i x => Fr (fun q => q = 121) μ x ∧ ∀ k, k < i → x.1 121 k = nI (oI s h off k)) ?_ ?_ fu 0 μ (by omega) (by omega) ⟨Fr.rfl', fun j h => absurd h (Nat.not_lt_zero j)⟩
  · intro n i x hi P k
    have oi := (oI_b s h off).1 i hi
    have n1 : ¬ (nI (oI s h off i) = (-1 : Int32)) := by rw [n_m1 (by omega)]; exact not_false
    have F2 : Fr (fun q => q = 121) μ (wI x 121 i (nI (oI s h off i))) := Fr.wI P.1 rfl
    rw [if_pos hi, D_X7_byFull_11, if_neg n1, gu_ib (show i < 12 by omega) (by decide), nI_nat (by omega), vl_e, li1, n_add, pk F2 (by omega), bi_s]
    refine k _ ⟨F2, fun j hj => ?_⟩
    rw [wI_s]
    split
    · rename_i e; rw [e]
    · exact P.2 j (by omega)
  · intro n x P
    rw [if_neg (by omega), D_X7_byFull_11, if_pos rfl]
    have M1 : MW x s h oc0 := MW_F P.1 (fun q z => by omega) M
    refine Ok.for (fun n i y => D_X7_byFull_47 fu n (nI h) (nI (opC s off 12)) (zL (pf s h (oI s h off) v i).1) (nI i) y) (opC s off 12) (fun i y => Fr AM x y ∧ MW y s h (pf s h (oI s h off) v i).2) ?_ ?_ fu 0 x (by omega) (by omega) ⟨Fr.rfl', M1⟩
    · intro n i y hi Q k
      have oi := (oI_b s h off).1 i hi
      obtain ⟨b1, b2, b3, b4⟩ := oI_pf H hh off ha (k := i) (by omega)
      have rd : y.1 121 i = nI (oI s h off i) := by rw [Q.1.I (by unfold AM; omega)]; exact P.2 i hi
      simp (disch := omega) only [D_X7_byFull_47, li0, li1, li2, li3, li4, li5, li6, li7, li8, li9, li10, li12, li24, li31, li40, li160, n_le, n_lt, n_eq, n_m1, n_add, mr4, mr6, mr7, mr10, mr40, mr160, ml4, ml6, ml7, ml10, ml40, ml160, gu_ib, nI_nat, bi_s, vl_e, gu_t, if_true, if_false, reduceIte, bt1_1, bt1_2, bt1_3, bt1_4, bt1_5, bt1_6, bt1_7, bt1_8, bt1_9, bt1_10, bt1_11, bt1_12, bt14_1, bt14_2, bt14_3, bt14_4, bt14_5, bt14_6, bt14_7, bt14_8, bt14_9, bt14_10, bt14_11, bt14_12, rd]
      rw [if_neg (by omega)]
      refine Ok.b (m_fills hf hh oi.1 b3 (by omega) Q.2 H (b2 i (Nat.le_refl _) hi)) fun r p => ?_
      rw [p.1]
      exact k _ ⟨Q.1.tr p.2.2, p.2.1⟩
    · intro n y Q
      have ef : pyF s h off v = uO (pf s h (oI s h off) v (opC s off 12)).2 5 (rsn (opC s off 12)) ((pf s h (oI s h off) v (opC s off 12)).2 5 (rsn (opC s off 12)) + (pf s h (oI s h off) v (opC s off 12)).1) := by
        unfold pyF; rw [pf_oI s h off v (Nat.le_refl _)]
      have FF : Fr (fun q => AM q ∨ q = 121) μ y := Fr.tr (P.1.mo fun q z => Or.inr z) (Q.1.mo fun q z => Or.inl z)
      have e3 := Q.2.z.fl hh (show 3 < 7 by decide)
      have e2 := Q.2.z.fl hh (show 2 < 7 by decide)
      rw [ef]
      have wr : ∀ r, r < 7 → MW (wL y 110 (7 * h + r) (zL (fl s (7 * h + r) + (pf s h (oI s h off) v (opC s off 12)).2 5 r + (pf s h (oI s h off) v (opC s off 12)).1))) s h (uO (pf s h (oI s h off) v (opC s off 12)).2 5 r ((pf s h (oI s h off) v (opC s off 12)).2 5 r + (pf s h (oI s h off) v (opC s off 12)).1)) := fun r hr => by
        refine ⟨RMa_frm (fun _ _ => rfl) rfl Q.2.a, RMb_frm (fun _ _ => rfl) (fun _ _ _ => rfl) Q.2.b, ?_, fun l hl => ?_⟩
        · rw [Int.add_assoc]; exact MZ_5 hr Q.2.z
        · rw [uO_d _ _ (by decide), wL_n (by decide)]; exact Q.2.t hl
      by_cases q : opC s off 12 = 0
      · have er : rsn (opC s off 12) = 3 := by unfold rsn; rw [if_pos q]
        simp (disch := omega) only [D_X7_byFull_47, D_X7_byFull_94, li0, li1, li2, li3, li4, li5, li6, li7, li8, li9, li10, li12, li24, li31, li40, li160, n_le, n_lt, n_eq, n_m1, n_add, mr4, mr6, mr7, mr10, mr40, mr160, ml4, ml6, ml7, ml10, ml40, ml160, gu_ib, nI_nat, bi_s, vl_e, gu_t, if_true, if_false, reduceIte, bt1_1, bt1_2, bt1_3, bt1_4, bt1_5, bt1_6, bt1_7, bt1_8, bt1_9, bt1_10, bt1_11, bt1_12, bt14_1, bt14_2, bt14_3, bt14_4, bt14_5, bt14_6, bt14_7, bt14_8, bt14_9, bt14_10, bt14_11, bt14_12, e3, z_add, z_sub, z_mul, z_neg]
        rw [if_pos (by omega), if_pos q, er]
        exact Ok.s ⟨Fr.wL FF (by unfold AM; omega), wr 3 (by decide)⟩
      · have er : rsn (opC s off 12) = 2 := by unfold rsn; rw [if_neg q]
        simp (disch := omega) only [D_X7_byFull_47, D_X7_byFull_94, li0, li1, li2, li3, li4, li5, li6, li7, li8, li9, li10, li12, li24, li31, li40, li160, n_le, n_lt, n_eq, n_m1, n_add, mr4, mr6, mr7, mr10, mr40, mr160, ml4, ml6, ml7, ml10, ml40, ml160, gu_ib, nI_nat, bi_s, vl_e, gu_t, if_true, if_false, reduceIte, bt1_1, bt1_2, bt1_3, bt1_4, bt1_5, bt1_6, bt1_7, bt1_8, bt1_9, bt1_10, bt1_11, bt1_12, bt14_1, bt14_2, bt14_3, bt14_4, bt14_5, bt14_6, bt14_7, bt14_8, bt14_9, bt14_10, bt14_11, bt14_12, e2, z_add, z_sub, z_mul, z_neg]
        rw [if_pos (by omega), if_neg q, er]
        exact Ok.s ⟨Fr.wL FF (by unfold AM; omega), wr 2 (by decide)⟩
/-! aside and back -/
theorem wL_cm {μ : Mem} {c d i j : Nat} {v w : Int64} (hc : c ≠ d) : wL (wL μ c i v) d j w = wL (wL μ d j w) c i v := by
  unfold wL vp_updL
  refine Prod.ext rfl (Prod.ext ?_ rfl)
  funext q
  by_cases e1 : q = c
  · subst e1; simp [hc]
  · by_cases e2 : q = d
    · subst e2; simp [e1]
    · simp [e1, e2]
def bkO (O : Oc) (i : Nat) : Oc := fun f j => if f ≤ 1 ∧ j < i then 0 else O f j
theorem bkO_s (O : Oc) (i f j : Nat) : bkO O (i + 1) f j = uO (uO (bkO O i) 0 i 0) 1 i 0 f j := by
  rw [uO_1, uO_1]; unfold bkO
  by_cases a : f = 1 ∧ j = i
  · rw [if_pos a, if_pos (by omega)]
  · rw [if_neg a]
    by_cases b : f = 0 ∧ j = i
    · rw [if_pos b, if_pos (by omega)]
    · rw [if_neg b]
      by_cases c : f ≤ 1 ∧ j < i
      · rw [if_pos c, if_pos (by omega)]
      · rw [if_neg c, if_neg (by omega)]
def ctO (O : Oc) (A : Nat → Int) (i : Nat) : Oc := fun f j => if (f = 0 ∨ f = 2) ∧ j < i then O f j + A j else O f j
theorem ctO_i (O : Oc) (A : Nat → Int) (i f : Nat) : ctO O A i f i = O f i := by unfold ctO; rw [if_neg (by omega)]
theorem ctO_s (O : Oc) (A : Nat → Int) (i f j : Nat) : ctO O A (i + 1) f j = uO (uO (ctO O A i) 0 i (O 0 i + A i)) 2 i (O 2 i + A i) f j := by
  rw [uO_1, uO_1]; unfold ctO
  by_cases a : f = 2 ∧ j = i
  · rw [if_pos a, if_pos (by omega), a.1, a.2]
  · rw [if_neg a]
    by_cases b : f = 0 ∧ j = i
    · rw [if_pos b, if_pos (by omega), b.1, b.2]
    · rw [if_neg b]
      by_cases c : (f = 0 ∨ f = 2) ∧ j < i
      · rw [if_pos c, if_pos (by omega)]
      · rw [if_neg c, if_neg (by omega)]
theorem m_aside (hf : 200 < fu) (hh : h < 25) (M : MW μ s h oc0) : Ok (D_X7_laysAside_0 fu (nI h) μ) (fun x => Fr (fun q => 122 ≤ q ∧ q ≤ 125) μ x ∧ (∀ l, l < 40 → x.2.1 122 l = zL (us s l) ∧ x.2.1 123 l = zL (tk s (40 * h + l)) ∧ x.2.1 124 l = zL (th s (40 * h + l))) ∧ ∀ r, r < 7 → x.2.1 125 r = zL (fl s (7 * h + r))) := by
  have z : ∀ f j, oc0 f j = 0 := fun _ _ => rfl
  unfold D_X7_laysAside_0
  refine Ok.for (fun n i x => D_X7_laysAside_2 fu n (nI h) (nI i) x) 40 (fun i x => Fr (fun q => 122 ≤ q ∧ q ≤ 125) μ x ∧ ∀ l, l < i → x.2.1 122 l = zL (us s l) ∧ x.2.1 123 l = zL (tk s (40 * h + l)) ∧ x.2.1 124 l = zL (th s (40 * h + l))) ?_ ?_ fu 0 μ (by omega) (by omega) ⟨Fr.rfl', fun j h => absurd h (Nat.not_lt_zero j)⟩
  · intro n i x hi P k
    have Mx : MW x s h oc0 := MW_F P.1 (fun q z => by omega) M
    have e1 := Mx.z.us hi
    have e2 := Mx.z.tk hh hi
    have e3 := Mx.z.th hh hi
    rw [z, Int.add_zero] at e1 e2 e3
    simp (disch := omega) only [D_X7_laysAside_2, li0, li1, li2, li3, li4, li5, li6, li7, li8, li9, li10, li12, li24, li31, li40, li160, n_le, n_lt, n_eq, n_m1, n_add, mr4, mr6, mr7, mr10, mr40, mr160, ml4, ml6, ml7, ml10, ml40, ml160, gu_ib, nI_nat, bi_s, vl_e, gu_t, if_true, if_false, reduceIte, bt1_1, bt1_2, bt1_3, bt1_4, bt1_5, bt1_6, bt1_7, bt1_8, bt1_9, bt1_10, bt1_11, bt1_12, bt14_1, bt14_2, bt14_3, bt14_4, bt14_5, bt14_6, bt14_7, bt14_8, bt14_9, bt14_10, bt14_11, bt14_12, e1, wL_n, e2, e3]
    rw [if_neg (by omega)]
    refine k _ ⟨Fr.wL (Fr.wL (Fr.wL P.1 (by omega)) (by omega)) (by omega), fun l hl => ?_⟩
    simp (disch := omega) only [wL_n, wL_s]
    by_cases e : l = i
    · rw [if_pos e, if_pos e, if_pos e, e]; exact ⟨rfl, rfl, rfl⟩
    · rw [if_neg e, if_neg e, if_neg e]; exact P.2 l (by omega)
  · intro n x P
    have Mx : MW x s h oc0 := MW_F P.1 (fun q z => by omega) M
    simp (disch := omega) only [D_X7_laysAside_2, li0, li1, li2, li3, li4, li5, li6, li7, li8, li9, li10, li12, li24, li31, li40, li160, n_le, n_lt, n_eq, n_m1, n_add, mr4, mr6, mr7, mr10, mr40, mr160, ml4, ml6, ml7, ml10, ml40, ml160, gu_ib, nI_nat, bi_s, vl_e, gu_t, if_true, if_false, reduceIte, bt1_1, bt1_2, bt1_3, bt1_4, bt1_5, bt1_6, bt1_7, bt1_8, bt1_9, bt1_10, bt1_11, bt1_12, bt14_1, bt14_2, bt14_3, bt14_4, bt14_5, bt14_6, bt14_7, bt14_8, bt14_9, bt14_10, bt14_11, bt14_12]
    rw [if_pos (by omega)]
    refine Ok.for (fun n i y => D_X7_laysAside_62 fu n (nI h) (nI i) y) 7 (fun i y => Fr (fun q => q = 125) x y ∧ ∀ r, r < i → y.2.1 125 r = zL (fl s (7 * h + r))) ?_ ?_ fu 0 x (by omega) (by omega) ⟨Fr.rfl', fun j h => absurd h (Nat.not_lt_zero j)⟩
    · intro n i y hi Q k
      have e := Mx.z.fl hh hi
      rw [z, Int.add_zero] at e
      have e' : y.2.1 110 (7 * h + i) = zL (fl s (7 * h + i)) := by rw [Q.1.L (by omega)]; exact e
      simp (disch := omega) only [D_X7_laysAside_62, li0, li1, li2, li3, li4, li5, li6, li7, li8, li9, li10, li12, li24, li31, li40, li160, n_le, n_lt, n_eq, n_m1, n_add, mr4, mr6, mr7, mr10, mr40, mr160, ml4, ml6, ml7, ml10, ml40, ml160, gu_ib, nI_nat, bi_s, vl_e, gu_t, if_true, if_false, reduceIte, bt1_1, bt1_2, bt1_3, bt1_4, bt1_5, bt1_6, bt1_7, bt1_8, bt1_9, bt1_10, bt1_11, bt1_12, bt14_1, bt14_2, bt14_3, bt14_4, bt14_5, bt14_6, bt14_7, bt14_8, bt14_9, bt14_10, bt14_11, bt14_12, e']
      rw [if_neg (by omega)]
      refine k _ ⟨Fr.wL Q.1 rfl, fun r hr => ?_⟩
      rw [wL_s]; split
      · rename_i e; rw [e]
      · exact Q.2 r (by omega)
    · intro n y Q
      simp (disch := omega) only [D_X7_laysAside_62, li0, li1, li2, li3, li4, li5, li6, li7, li8, li9, li10, li12, li24, li31, li40, li160, n_le, n_lt, n_eq, n_m1, n_add, mr4, mr6, mr7, mr10, mr40, mr160, ml4, ml6, ml7, ml10, ml40, ml160, gu_ib, nI_nat, bi_s, vl_e, gu_t, if_true, if_false, reduceIte, bt1_1, bt1_2, bt1_3, bt1_4, bt1_5, bt1_6, bt1_7, bt1_8, bt1_9, bt1_10, bt1_11, bt1_12, bt14_1, bt14_2, bt14_3, bt14_4, bt14_5, bt14_6, bt14_7, bt14_8, bt14_9, bt14_10, bt14_11, bt14_12]
      rw [if_pos (by omega)]
      exact Ok.s ⟨P.1.tr (Q.1.mo fun q z => by omega), fun l hl => by rw [Q.1.L (by omega), Q.1.L (by omega), Q.1.L (by omega)]; exact P.2 l hl, Q.2⟩
theorem m_back {O : Oc} (hf : 200 < fu) (hh : h < 25) (M : MW μ s h O) (hO : OF O) (h1 : ∀ l, l < 40 → μ.2.1 122 l = zL (us s l) ∧ μ.2.1 123 l = zL (tk s (40 * h + l)) ∧ μ.2.1 124 l = zL (th s (40 * h + l))) (h2 : ∀ r, r < 7 → μ.2.1 125 r = zL (fl s (7 * h + r))) : Ok (D_X7_laysBack_0 fu (nI h) μ) (fun x => Fr AM μ x ∧ MW x s h oc0) := by
  unfold D_X7_laysBack_0
  refine Ok.for (fun n i x => D_X7_laysBack_2 fu n (nI h) (nI i) x) 40 (fun i x => Fr AM μ x ∧ MW x s h (bkO O i)) ?_ ?_ fu 0 μ (by omega) (by omega) ⟨Fr.rfl', MW_c (fun f j => by unfold bkO; rw [if_neg (by omega)]) M⟩
  · intro n i x hi P k
    have hA : ∀ q, 122 ≤ q → q ≤ 125 → x.2.1 q = μ.2.1 q := fun q a b => P.1.L (by unfold AM; omega)
    have e1 : x.2.1 122 i = zL (us s i + 0) := by rw [hA _ (by decide) (by decide), Int.add_zero]; exact (h1 i hi).1
    have e2 : x.2.1 123 i = zL (tk s (40 * h + i) + 0) := by rw [hA _ (by decide) (by decide), Int.add_zero]; exact (h1 i hi).2.1
    have e3 : x.2.1 124 i = zL (th s (40 * h + i) + 0) := by rw [hA _ (by decide) (by decide), Int.add_zero]; exact (h1 i hi).2.2
    simp (disch := omega) only [D_X7_laysBack_2, li0, li1, li2, li3, li4, li5, li6, li7, li8, li9, li10, li12, li24, li31, li40, li160, n_le, n_lt, n_eq, n_m1, n_add, mr4, mr6, mr7, mr10, mr40, mr160, ml4, ml6, ml7, ml10, ml40, ml160, gu_ib, nI_nat, bi_s, vl_e, gu_t, if_true, if_false, reduceIte, bt1_1, bt1_2, bt1_3, bt1_4, bt1_5, bt1_6, bt1_7, bt1_8, bt1_9, bt1_10, bt1_11, bt1_12, bt14_1, bt14_2, bt14_3, bt14_4, bt14_5, bt14_6, bt14_7, bt14_8, bt14_9, bt14_10, bt14_11, bt14_12, ll0, ll1, ll2, ll10, ll2e9, e1, wL_n, e2, e3]
    rw [if_neg (by omega), wL_cm (show 99 ≠ 105 by decide)]
    have Z2 := MZ_1 (v := 0) hi (MZ_0 (v := 0) hi P.2.z)
    have F2 : Fr (fun q => q = 118) (wL (wL (wL x 105 (40 * h + i) (zL (tk s (40 * h + i) + 0))) 99 i (zL (us s i + 0))) 106 (40 * h + i) (zL (th s (40 * h + i) + 0))) (wL (wL (wL (wL x 105 (40 * h + i) (zL (tk s (40 * h + i) + 0))) 99 i (zL (us s i + 0))) 106 (40 * h + i) (zL (th s (40 * h + i) + 0))) 118 i (zL 0)) := Fr.wL Fr.rfl' rfl
    refine k _ ⟨Fr.wL (Fr.wL (Fr.wL (Fr.wL P.1 (by unfold AM; omega)) (by unfold AM; omega)) (by unfold AM; omega)) (by unfold AM; omega), RMa_frm (fun _ _ => rfl) rfl P.2.a, RMb_frm (fun _ _ => rfl) (fun _ _ _ => rfl) P.2.b, MZ_c (bkO_s O i) (MZ_F F2 (fun q z => by omega) Z2), fun l hl => ?_⟩
    rw [bkO_s, uO_d _ _ (by decide), uO_s]
    simp (disch := omega) only [wL_n, wL_s]
    split
    · rfl
    · exact P.2.t hl
  · intro n x P
    simp (disch := omega) only [D_X7_laysBack_2, li0, li1, li2, li3, li4, li5, li6, li7, li8, li9, li10, li12, li24, li31, li40, li160, n_le, n_lt, n_eq, n_m1, n_add, mr4, mr6, mr7, mr10, mr40, mr160, ml4, ml6, ml7, ml10, ml40, ml160, gu_ib, nI_nat, bi_s, vl_e, gu_t, if_true, if_false, reduceIte, bt1_1, bt1_2, bt1_3, bt1_4, bt1_5, bt1_6, bt1_7, bt1_8, bt1_9, bt1_10, bt1_11, bt1_12, bt14_1, bt14_2, bt14_3, bt14_4, bt14_5, bt14_6, bt14_7, bt14_8, bt14_9, bt14_10, bt14_11, bt14_12]
    rw [if_pos (by omega)]
    have hA : ∀ r, r < 7 → x.2.1 125 r = zL (fl s (7 * h + r)) := fun r hr => by rw [P.1.L (by unfold AM; omega)]; exact h2 r hr
    refine Ok.for (fun n i y => D_X7_laysBack_69 fu n (nI h) (nI i) y) 7 (fun i y => Fr (fun q => q = 110) x y ∧ ∀ g r, g < 25 → r < 7 → y.2.1 110 (7 * g + r) = zL (fl s (7 * g + r) + if g = h then (if r < i then 0 else O 5 r) else 0)) ?_ ?_ fu 0 x (by omega) (by omega) ⟨Fr.rfl', fun g r hg hr => by
      rw [P.2.z.2.2.2.2.2.2.2 g r hg hr, show bkO O 40 5 r = O 5 r by unfold bkO; rw [if_neg (by omega)], if_neg (show ¬ r < 0 by omega)]⟩
    · intro n i y hi Q k
      have e : y.2.1 125 i = zL (fl s (7 * h + i)) := by rw [Q.1.L (by omega)]; exact hA i hi
      simp (disch := omega) only [D_X7_laysBack_69, li0, li1, li2, li3, li4, li5, li6, li7, li8, li9, li10, li12, li24, li31, li40, li160, n_le, n_lt, n_eq, n_m1, n_add, mr4, mr6, mr7, mr10, mr40, mr160, ml4, ml6, ml7, ml10, ml40, ml160, gu_ib, nI_nat, bi_s, vl_e, gu_t, if_true, if_false, reduceIte, bt1_1, bt1_2, bt1_3, bt1_4, bt1_5, bt1_6, bt1_7, bt1_8, bt1_9, bt1_10, bt1_11, bt1_12, bt14_1, bt14_2, bt14_3, bt14_4, bt14_5, bt14_6, bt14_7, bt14_8, bt14_9, bt14_10, bt14_11, bt14_12, e]
      rw [if_neg (by omega)]
      refine k _ ⟨Fr.wL Q.1 rfl, fun g r hg hr => ?_⟩
      rw [wL_s]
      by_cases e : 7 * g + r = 7 * h + i
      · rw [if_pos e, if_pos (by omega), if_pos (by omega), e, Int.add_zero]
      · rw [if_neg e, Q.2 g r hg hr]
        by_cases d : g = h
        · rw [if_pos d, if_pos d]
          by_cases c : r < i
          · rw [if_pos c, if_pos (by omega)]
          · rw [if_neg c, if_neg (by omega)]
        · rw [if_neg d, if_neg d]
    · intro n y Q
      simp (disch := omega) only [D_X7_laysBack_69, li0, li1, li2, li3, li4, li5, li6, li7, li8, li9, li10, li12, li24, li31, li40, li160, n_le, n_lt, n_eq, n_m1, n_add, mr4, mr6, mr7, mr10, mr40, mr160, ml4, ml6, ml7, ml10, ml40, ml160, gu_ib, nI_nat, bi_s, vl_e, gu_t, if_true, if_false, reduceIte, bt1_1, bt1_2, bt1_3, bt1_4, bt1_5, bt1_6, bt1_7, bt1_8, bt1_9, bt1_10, bt1_11, bt1_12, bt14_1, bt14_2, bt14_3, bt14_4, bt14_5, bt14_6, bt14_7, bt14_8, bt14_9, bt14_10, bt14_11, bt14_12]
      rw [if_pos (by omega)]
      have L : ∀ q, q ≠ 110 → y.2.1 q = x.2.1 q := fun q hq => Q.1.L hq
      have I : y.1 108 = x.1 108 := Q.1.I (by decide)
      obtain ⟨z0, z1, z2, z3, z4, z5, z6, z7⟩ := P.2.z
      have b01 : ∀ f j, f ≤ 1 → j < 40 → bkO O 40 f j = 0 := fun f j a b => by unfold bkO; rw [if_pos ⟨a, b⟩]
      have b24 : ∀ f j, 2 ≤ f → f ≤ 4 → bkO O 40 f j = 0 := fun f j a b => by unfold bkO; rw [if_neg (by omega)]; exact hO f j a b
      refine Ok.s ⟨P.1.tr (Q.1.mo fun q z => by unfold AM; omega), RMa_F Q.1 (fun q z => by omega) P.2.a, RMb_F Q.1 (fun q z => by omega) P.2.b, ⟨fun q hq => ?_, fun g hg => ?_, fun g q hg hq => ?_, fun g q hg hq => ?_, fun g q hg hq => ?_, fun g q hg hq => ?_, fun g q hg hq => ?_, fun g q hg hq => ?_⟩, fun l hl => ?_⟩
      · rw [L _ (by decide), z0 q hq, b01 0 q (by decide) hq]; rfl
      · rw [L _ (by decide)]; exact z1 g hg
      · rw [L _ (by decide), z2 g q hg hq, b01 0 q (by decide) hq]; rfl
      · rw [L _ (by decide), z3 g q hg hq, b01 1 q (by decide) hq]; rfl
      · rw [L _ (by decide), z4 g q hg hq, b24 2 q (by decide) (by decide)]; rfl
      · rw [I, z5 g q hg hq, b24 3 q (by decide) (by decide)]; rfl
      · rw [L _ (by decide), z6 g q hg hq, b24 4 q (by decide) (by decide)]; rfl
      · rw [Q.2 g q hg hq, if_pos hq]; rfl
      · rw [L _ (by decide), P.2.t hl, b01 0 l (by decide) hl]; rfl
theorem m_fair {v : Int} (hf : 200 < fu) (hh : h < 25) (ha : 0 ≤ v) (ha2 : v < 4611686018427387904) (Y : MY μ h a b c) (M : MW μ s h oc0) (H : Iv N s) : Ok (D_X7_laysFair_0 fu (nI h) (zL v) μ) (fun x => Fr (fun q => AM q ∨ 116 ≤ q ∧ q ≤ 125) μ x ∧ MW x s h oc0 ∧ ∀ l, l < 40 → x.2.1 119 l = zL (pyW s h v (wA s (offB a b c (ru s 0))) 0 l)) := by
  generalize eo : offB a b c (ru s 0) = off
  unfold D_X7_laysFair_0
  refine Ok.b (m_aside hf hh M) fun x1 p1 => ?_
  have M1 : MW x1 s h oc0 := MW_F p1.1 (fun q z => by omega) M
  have Y1 := MY_F p1.1 (fun q z => by omega) Y
  refine Ok.b (m_like hf hh Y1 M1.a M1.b H) fun x2 p2 => ?_
  rw [eo] at p2
  have M2 : MW x2 s h oc0 := MW_F p2.1 (fun q z => by omega) M1
  refine Ok.b (m_byShares hf hh ha ha2 M2 H (WB_A s off) p2.2) fun x3 p3 => ?_
  have pb := pyW_b H hh ha (w := wA s off) fun y _ => (wA_nn s off y).1
  have F3 : Fr (fun q => AM q ∨ 116 ≤ q ∧ q ≤ 125) μ x3 := Fr.tr (Fr.tr (p1.1.mo fun q z => by omega) (p2.1.mo fun q z => by omega)) (p3.1.mo fun q z => z.elim Or.inl fun z => Or.inr (by omega))
  refine Ok.for (fun n i x => D_X7_laysFair_19 fu n (nI h) (nI i) x) 40 (fun i x => Fr (fun q => q = 119) x3 x ∧ ∀ l, l < i → x.2.1 119 l = zL (pyW s h v (wA s off) 0 l)) ?_ ?_ fu 0 x3 (by omega) (by omega) ⟨Fr.rfl', fun j h => absurd h (Nat.not_lt_zero j)⟩
  · intro n i x hi P k
    have e : x.2.1 118 i = zL (pyW s h v (wA s off) 0 i) := by rw [P.1.L (by omega)]; exact p3.2.t hi
    simp (disch := omega) only [D_X7_laysFair_19, li0, li1, li2, li3, li4, li5, li6, li7, li8, li9, li10, li12, li24, li31, li40, li160, n_le, n_lt, n_eq, n_m1, n_add, mr4, mr6, mr7, mr10, mr40, mr160, ml4, ml6, ml7, ml10, ml40, ml160, gu_ib, nI_nat, bi_s, vl_e, gu_t, if_true, if_false, reduceIte, bt1_1, bt1_2, bt1_3, bt1_4, bt1_5, bt1_6, bt1_7, bt1_8, bt1_9, bt1_10, bt1_11, bt1_12, bt14_1, bt14_2, bt14_3, bt14_4, bt14_5, bt14_6, bt14_7, bt14_8, bt14_9, bt14_10, bt14_11, bt14_12, e]
    rw [if_neg (by omega)]
    refine k _ ⟨Fr.wL P.1 rfl, fun l hl => ?_⟩
    rw [wL_s]; split
    · rename_i e; rw [e]
    · exact P.2 l (by omega)
  · intro n x P
    simp (disch := omega) only [D_X7_laysFair_19, li0, li1, li2, li3, li4, li5, li6, li7, li8, li9, li10, li12, li24, li31, li40, li160, n_le, n_lt, n_eq, n_m1, n_add, mr4, mr6, mr7, mr10, mr40, mr160, ml4, ml6, ml7, ml10, ml40, ml160, gu_ib, nI_nat, bi_s, vl_e, gu_t, if_true, if_false, reduceIte, bt1_1, bt1_2, bt1_3, bt1_4, bt1_5, bt1_6, bt1_7, bt1_8, bt1_9, bt1_10, bt1_11, bt1_12, bt14_1, bt14_2, bt14_3, bt14_4, bt14_5, bt14_6, bt14_7, bt14_8, bt14_9, bt14_10, bt14_11, bt14_12]
    rw [if_pos (by omega)]
    have M3 : MW x s h (pyW s h v (wA s off)) := MW_F P.1 (fun q z => by omega) p3.2
    have L : ∀ q, 122 ≤ q → q ≤ 125 → x.2.1 q = x1.2.1 q := fun q a b => by rw [P.1.L (by omega), p3.1.L (by unfold AM; omega), p2.1.L (by omega)]
    refine Ok.b (m_back hf hh M3 pb.2 (fun l hl => by rw [L _ (by decide) (by decide), L _ (by decide) (by decide), L _ (by decide) (by decide)]; exact p1.2.1 l hl) (fun r hr => by rw [L _ (by decide) (by decide)]; exact p1.2.2 r hr)) fun y py => ?_
    refine Ok.s ⟨Fr.tr (Fr.tr F3 (P.1.mo fun q z => by omega)) (py.1.mo fun q z => Or.inl z), py.2, fun l hl => ?_⟩
    rw [py.1.L (by unfold AM; omega)]; exact P.2 l hl
/-! contribution -/
theorem m_unlike {sg : Int} {v : Int32} {A B : Nat → Int} (hf : 200 < fu) (hv : v.toInt64 = zL sg) (hs : sg = 1 ∨ sg = -1) (hA : ∀ l, l < 40 → μ.2.1 118 l = zL (A l) ∧ 0 ≤ A l ∧ A l ≤ 100000000) (hB : ∀ l, l < 40 → μ.2.1 119 l = zL (B l) ∧ 0 ≤ B l ∧ B l ≤ 100000000) : Ok (D_X7_laysUnlike_0 fu v μ) (fun r => r.1 = zL (sm (fun l => max (sg * (A l - B l)) 0) 40) ∧ Fr (fun q => q = 116) μ r.2 ∧ ∀ l, l < 40 → r.2.2.1 116 l = zL (max (sg * (A l - B l)) 0)) := by
  unfold D_X7_laysUnlike_0
  refine Ok.for (fun n i x => D_X7_laysUnlike_5 fu n v (zL (sm (fun l => max (sg * (A l - B l)) 0) i)) (nI i) x) 40 (fun i x => Fr (fun q => q = 116) μ x ∧ ∀ l, l < i → x.2.1 116 l = zL (max (sg * (A l - B l)) 0)) ?_ ?_ fu 0 μ (by omega) (by omega) ⟨Fr.rfl', fun j h => absurd h (Nat.not_lt_zero j)⟩
  · intro n i x hi P k
    have a := hA i hi
    have b := hB i hi
    have e1 : x.2.1 118 i = zL (A i) := by rw [P.1.L (by omega)]; exact a.1
    have e2 : x.2.1 119 i = zL (B i) := by rw [P.1.L (by omega)]; exact b.1
    have sb : -200000000 ≤ sg * (A i - B i) ∧ sg * (A i - B i) ≤ 200000000 := by rcases hs with e | e <;> rw [e] <;> omega
    have fin : ∀ w : Int, w = max (sg * (A i - B i)) 0 → Ok (D_X7_laysUnlike_5 fu n v (zL (sm (fun l => max (sg * (A l - B l)) 0) i) + zL w) (nI (i + 1)) (wL x 116 i (zL w))) (fun r => r.1 = zL (sm (fun l => max (sg * (A l - B l)) 0) 40) ∧ Fr (fun q => q = 116) μ r.2 ∧ ∀ l, l < 40 → r.2.2.1 116 l = zL (max (sg * (A l - B l)) 0)) := fun w e => by
      subst e
      rw [z_add]
      refine k _ ⟨Fr.wL P.1 rfl, fun l hl => ?_⟩
      rw [wL_s]; split
      · rename_i e; rw [e]
      · exact P.2 l (by omega)
    simp (disch := omega) only [D_X7_laysUnlike_5, D_X7_laysUnlike_51, li0, li1, li2, li3, li4, li5, li6, li7, li8, li9, li10, li12, li24, li31, li40, li160, n_le, n_lt, n_eq, n_m1, n_add, mr4, mr6, mr7, mr10, mr40, mr160, ml4, ml6, ml7, ml10, ml40, ml160, gu_ib, nI_nat, bi_s, vl_e, gu_t, if_true, if_false, reduceIte, bt1_1, bt1_2, bt1_3, bt1_4, bt1_5, bt1_6, bt1_7, bt1_8, bt1_9, bt1_10, bt1_11, bt1_12, bt14_1, bt14_2, bt14_3, bt14_4, bt14_5, bt14_6, bt14_7, bt14_8, bt14_9, bt14_10, bt14_11, bt14_12, ll0, ll1, ll2, ll10, ll2e9, e1, e2, hv, z_add, z_sub, z_mul, z_neg, z_le, wL_e]
    rw [if_neg (by omega)]
    by_cases q : sg * (A i - B i) ≤ 0
    · rw [if_pos q]; have := fin 0 (by omega); simpa only [z_add] using this
    · rw [if_neg q]; have := fin (sg * (A i - B i)) (by omega); simpa only [z_add] using this
  · intro n x P
    simp (disch := omega) only [D_X7_laysUnlike_5, li0, li1, li2, li3, li4, li5, li6, li7, li8, li9, li10, li12, li24, li31, li40, li160, n_le, n_lt, n_eq, n_m1, n_add, mr4, mr6, mr7, mr10, mr40, mr160, ml4, ml6, ml7, ml10, ml40, ml160, gu_ib, nI_nat, bi_s, vl_e, gu_t, if_true, if_false, reduceIte, bt1_1, bt1_2, bt1_3, bt1_4, bt1_5, bt1_6, bt1_7, bt1_8, bt1_9, bt1_10, bt1_11, bt1_12, bt14_1, bt14_2, bt14_3, bt14_4, bt14_5, bt14_6, bt14_7, bt14_8, bt14_9, bt14_10, bt14_11, bt14_12]
    rw [if_pos (by omega)]
    exact Ok.s ⟨rfl, P.1, P.2⟩
theorem sh_a0 {n : Nat} {w : Nat → Int} (hw : ∀ k, k < n → 0 ≤ w k) {k : Nat} (hk : k < n) : shF n 0 w k = 0 := by
  have a := sh_le (a := 0) hw hk (Int.le_refl 0)
  have b := sh_nn (n := n) (a := 0) (hw k hk) (Int.le_refl 0)
  omega
theorem m_contr {O : Oc} {B : Nat → Int} (hf : 200 < fu) (hh : h < 25) (M : MW μ s h O) (hO : ∀ l, l < 40 → 0 ≤ O 0 l ∧ O 0 l ≤ 100000000) (hB : ∀ l, l < 40 → μ.2.1 119 l = zL (B l) ∧ 0 ≤ B l ∧ B l ≤ 100000000) : Ok (D_X7_contributes_0 fu (nI h) μ) (fun x => Fr (fun q => q = 99 ∨ q = 105 ∨ q = 107 ∨ q = 116 ∨ q = 117 ∨ q = 118 ∨ q = 126) μ x ∧ MW x s h (ctr O B)) := by
  have e1 : ∀ l, max (1 * (O 0 l - B l)) 0 = exc (O 0) B l := fun l => by unfold exc; omega
  have e2 : ∀ l, max (-1 * (O 0 l - B l)) 0 = exc B (O 0) l := fun l => by unfold exc; omega
  have eb : ∀ l, l < 40 → 0 ≤ exc (O 0) B l ∧ exc (O 0) B l ≤ 100000000 ∧ 0 ≤ exc B (O 0) l ∧ exc B (O 0) l ≤ 100000000 := fun l hl => by
    have a := hO l hl
    have b := (hB l hl).2
    unfold exc; omega
  have W1 : WB 40 (exc (O 0) B) 100000000 := WB_x (Nat.le_refl _) fun k hk => ⟨(eb k hk).1, (eb k hk).2.1⟩
  have W2 : WB 40 (exc B (O 0)) 100000000 := WB_x (Nat.le_refl _) fun k hk => ⟨(eb k hk).2.2.1, (eb k hk).2.2.2⟩
  have U1 : sm (exc (O 0) B) 40 ≤ 100000000 * ((40 : Nat) : Int) := by rw [← sm_c]; exact sm_le fun k hk => (eb k hk).2.1
  have U2 : sm (exc B (O 0)) 40 ≤ 100000000 * ((40 : Nat) : Int) := by rw [← sm_c]; exact sm_le fun k hk => (eb k hk).2.2.2
  have N1 : 0 ≤ sm (exc (O 0) B) 40 := sm_nn fun k hk => (eb k hk).1
  have N2 : 0 ≤ sm (exc B (O 0)) 40 := sm_nn fun k hk => (eb k hk).2.2.1
  have mb := mvd_b (O 0) B
  have un : ∀ (x : Mem), x.2.1 118 = μ.2.1 118 → x.2.1 119 = μ.2.1 119 → Ok (D_X7_laysUnlike_0 fu 1 x) (fun r => r.1 = zL (sm (exc (O 0) B) 40) ∧ Fr (fun q => q = 116) x r.2 ∧ ∀ l, l < 40 → r.2.2.1 116 l = zL (exc (O 0) B l)) := fun x h1 h2 => by
    have := m_unlike (μ := x) (sg := 1) (v := 1) (A := O 0) (B := B) hf rfl (Or.inl rfl) (fun l hl => by rw [h1]; exact ⟨M.t hl, hO l hl⟩) (fun l hl => by rw [h2]; exact hB l hl)
    simpa only [e1] using this
  have up : ∀ (x : Mem), x.2.1 118 = μ.2.1 118 → x.2.1 119 = μ.2.1 119 → Ok (D_X7_laysUnlike_0 fu (-1) x) (fun r => r.1 = zL (sm (exc B (O 0)) 40) ∧ Fr (fun q => q = 116) x r.2 ∧ ∀ l, l < 40 → r.2.2.1 116 l = zL (exc B (O 0) l)) := fun x h1 h2 => by
    have := m_unlike (μ := x) (sg := -1) (v := -1) (A := O 0) (B := B) hf rfl (Or.inr rfl) (fun l hl => by rw [h1]; exact ⟨M.t hl, hO l hl⟩) (fun l hl => by rw [h2]; exact hB l hl)
    simpa only [e2] using this
  unfold D_X7_contributes_0
  refine Ok.b (un μ rfl rfl) fun r1 p1 => ?_
  refine Ok.b (up r1.2 (p1.2.1.L (by decide)) (p1.2.1.L (by decide))) fun r2 p2 => ?_
  have ls : D_X7_least_0 r2.2 r1.1 r2.1 = some (zL (mvd (O 0) B)) := by
    rw [p1.1, p2.1]
    unfold D_X7_least_0 mvd
    simp (disch := omega) only [z_le]
    rw [Int.min_def]
    by_cases q : sm (exc B (O 0)) 40 ≤ sm (exc (O 0) B) 40
    · rw [if_pos q]
      by_cases d : sm (exc (O 0) B) 40 ≤ sm (exc B (O 0)) 40
      · rw [if_pos d, show sm (exc (O 0) B) 40 = sm (exc B (O 0)) 40 by omega]
      · rw [if_neg d]
    · rw [if_neg q, if_pos (by omega)]
  rw [ls, bi_s]
  have F2 : Fr (fun q => q = 116) μ r2.2 := p1.2.1.tr p2.2.1
  by_cases q : mvd (O 0) B = 0
  · rw [if_pos (by rw [ll0, q])]
    refine Ok.s ⟨F2.mo fun q z => by omega, MW_c (fun f j => ?_) (MW_F F2 (fun q z => by omega) M)⟩
    unfold ctr gvs gts
    rw [q]
    by_cases c : f = 0 ∧ j < 40
    · rw [if_pos c, sh_a0 (fun k hk => (eb k hk).2.2.1) c.2, sh_a0 (fun k hk => (eb k hk).1) c.2, c.1]; omega
    · rw [if_neg c]
      by_cases d : f = 2 ∧ j < 40
      · rw [if_pos d, sh_a0 (fun k hk => (eb k hk).2.2.1) d.2, sh_a0 (fun k hk => (eb k hk).1) d.2, d.1]; omega
      · rw [if_neg d]
  · rw [if_neg (by rw [ll0, z_eq (by omega) (by omega) (by omega) (by omega)]; exact q)]
    refine Ok.b (un r2.2 (F2.L (by decide)) (F2.L (by decide))) fun r3 p3 => ?_
    have F3 : Fr (fun q => q = 116) μ r3.2 := F2.tr p3.2.1
    refine Ok.b (m_share (n := 40) hf (Nat.le_refl _) W1 (by omega) mb.1 (by omega) p3.2.2) fun x4 p4 => ?_
    refine Ok.for (fun n i x => D_X7_contributes_46 fu n (nI h) (zL (mvd (O 0) B)) (nI i) x) 40 (fun i x => Fr (fun q => q = 126) x4 x ∧ ∀ l, l < i → x.2.1 126 l = zL (gts (O 0) B l)) ?_ ?_ fu 0 x4 (by omega) (by omega) ⟨Fr.rfl', fun j h => absurd h (Nat.not_lt_zero j)⟩
    · intro n i x hi P k
      have e : x.2.1 117 i = zL (gts (O 0) B i) := by rw [P.1.L (by omega)]; exact p4.2 i hi
      simp (disch := omega) only [D_X7_contributes_46, li0, li1, li2, li3, li4, li5, li6, li7, li8, li9, li10, li12, li24, li31, li40, li160, n_le, n_lt, n_eq, n_m1, n_add, mr4, mr6, mr7, mr10, mr40, mr160, ml4, ml6, ml7, ml10, ml40, ml160, gu_ib, nI_nat, bi_s, vl_e, gu_t, if_true, if_false, reduceIte, bt1_1, bt1_2, bt1_3, bt1_4, bt1_5, bt1_6, bt1_7, bt1_8, bt1_9, bt1_10, bt1_11, bt1_12, bt14_1, bt14_2, bt14_3, bt14_4, bt14_5, bt14_6, bt14_7, bt14_8, bt14_9, bt14_10, bt14_11, bt14_12, e]
      rw [if_neg (by omega)]
      refine k _ ⟨Fr.wL P.1 rfl, fun l hl => ?_⟩
      rw [wL_s]; split
      · rename_i e; rw [e]
      · exact P.2 l (by omega)
    · intro n x P
      simp (disch := omega) only [D_X7_contributes_46]
      rw [if_pos (by decide)]
      have L : ∀ q, q = 118 ∨ q = 119 → x.2.1 q = μ.2.1 q := fun q hq => by rw [P.1.L (by omega), p4.1.L (by omega), F3.L (by omega)]
      refine Ok.b (up x (L _ (Or.inl rfl)) (L _ (Or.inr rfl))) fun r5 p5 => ?_
      refine Ok.b (m_share (n := 40) hf (Nat.le_refl _) W2 (by omega) mb.1 (by omega) p5.2.2) fun x6 p6 => ?_
      have F6 : Fr (fun q => q = 116 ∨ q = 117 ∨ q = 126) μ x6 := Fr.tr (Fr.tr (Fr.tr (Fr.tr (F3.mo fun q z => by omega) (p4.1.mo fun q z => by omega)) (P.1.mo fun q z => by omega)) (p5.2.1.mo fun q z => by omega)) (p6.1.mo fun q z => by omega)
      have M6 : MW x6 s h O := MW_F F6 (fun q z => by omega) M
      have g6 : ∀ l, l < 40 → x6.2.1 126 l = zL (gts (O 0) B l) := fun l hl => by rw [p6.1.L (by omega), p5.2.1.L (by omega)]; exact P.2 l hl
      refine Ok.for (fun n i y => D_X7_contributes_90 fu n (nI h) (nI i) y) 40 (fun i y => Fr (fun q => q = 99 ∨ q = 105 ∨ q = 107 ∨ q = 118) x6 y ∧ MW y s h (ctO O (fun j => gvs (O 0) B j - gts (O 0) B j) i)) ?_ ?_ fu 0 x6 (by omega) (by omega) ⟨Fr.rfl', MW_c (fun f j => by unfold ctO; rw [if_neg (by omega)]) M6⟩
      · intro n i y hi Q k
        have r117 : y.2.1 117 i = zL (gvs (O 0) B i) := by rw [Q.1.L (by omega)]; exact p6.2 i hi
        have r126 : y.2.1 126 i = zL (gts (O 0) B i) := by rw [Q.1.L (by omega)]; exact g6 i hi
        have t118 := Q.2.t hi
        have t99 := Q.2.z.us hi
        have t105 := Q.2.z.tk hh hi
        have t107 := Q.2.z.mv hh hi
        rw [ctO_i] at t118 t99 t105 t107
        simp (disch := omega) only [D_X7_contributes_90, li0, li1, li2, li3, li4, li5, li6, li7, li8, li9, li10, li12, li24, li31, li40, li160, n_le, n_lt, n_eq, n_m1, n_add, mr4, mr6, mr7, mr10, mr40, mr160, ml4, ml6, ml7, ml10, ml40, ml160, gu_ib, nI_nat, bi_s, vl_e, gu_t, if_true, if_false, reduceIte, bt1_1, bt1_2, bt1_3, bt1_4, bt1_5, bt1_6, bt1_7, bt1_8, bt1_9, bt1_10, bt1_11, bt1_12, bt14_1, bt14_2, bt14_3, bt14_4, bt14_5, bt14_6, bt14_7, bt14_8, bt14_9, bt14_10, bt14_11, bt14_12, r117, r126, z_add, z_sub, z_mul, z_neg, wL_n, t118, t99, t105, t107]
        rw [if_neg (by omega), wL_cm (show 99 ≠ 105 by decide), wL_cm (show 118 ≠ 105 by decide), wL_cm (show 118 ≠ 99 by decide), wL_cm (show 118 ≠ 107 by decide), Int.add_assoc (us s i), Int.add_assoc (tk s (40 * h + i)), Int.add_assoc (mv s (40 * h + i))]
        have Z2 := MZ_2 (v := O 2 i + (gvs (O 0) B i - gts (O 0) B i)) hi (MZ_0 (v := O 0 i + (gvs (O 0) B i - gts (O 0) B i)) hi Q.2.z)
        generalize ew : wL (wL (wL y 105 (40 * h + i) (zL (tk s (40 * h + i) + (O 0 i + (gvs (O 0) B i - gts (O 0) B i))))) 99 i (zL (us s i + (O 0 i + (gvs (O 0) B i - gts (O 0) B i))))) 107 (40 * h + i) (zL (mv s (40 * h + i) + (O 2 i + (gvs (O 0) B i - gts (O 0) B i)))) = w at Z2
        have FW : Fr (fun q => q = 99 ∨ q = 105 ∨ q = 107 ∨ q = 118) x6 w := by subst ew; exact Fr.wL (Fr.wL (Fr.wL Q.1 (by omega)) (by omega)) (by omega)
        have WA : RMa w s.1 := by subst ew; exact RMa_frm (fun _ _ => rfl) rfl Q.2.a
        have WB' : RMb w s.1 := by subst ew; exact RMb_frm (fun _ _ => rfl) (fun _ _ _ => rfl) Q.2.b
        have F2 : Fr (fun q => q = 118) w (wL w 118 i (zL (O 0 i + (gvs (O 0) B i - gts (O 0) B i)))) := Fr.wL Fr.rfl' rfl
        refine k _ ⟨Fr.wL FW (by omega), RMa_frm (fun _ _ => rfl) rfl WA, RMb_frm (fun _ _ => rfl) (fun _ _ _ => rfl) WB', MZ_c (ctO_s O _ i) (MZ_F F2 (fun q z => by omega) Z2), fun l hl => ?_⟩
        rw [ctO_s, uO_d _ _ (by decide), uO_s, wL_s]
        split
        · rfl
        · subst ew
          simp (disch := omega) only [wL_n]
          exact Q.2.t hl
      · intro n y Q
        simp (disch := omega) only [D_X7_contributes_90, li0, li1, li2, li3, li4, li5, li6, li7, li8, li9, li10, li12, li24, li31, li40, li160, n_le, n_lt, n_eq, n_m1, n_add, mr4, mr6, mr7, mr10, mr40, mr160, ml4, ml6, ml7, ml10, ml40, ml160, gu_ib, nI_nat, bi_s, vl_e, gu_t, if_true, if_false, reduceIte, bt1_1, bt1_2, bt1_3, bt1_4, bt1_5, bt1_6, bt1_7, bt1_8, bt1_9, bt1_10, bt1_11, bt1_12, bt14_1, bt14_2, bt14_3, bt14_4, bt14_5, bt14_6, bt14_7, bt14_8, bt14_9, bt14_10, bt14_11, bt14_12]
        rw [if_pos (by omega)]
        refine Ok.s ⟨Fr.tr (F6.mo fun q z => by omega) (Q.1.mo fun q z => by omega), MW_c (fun f j => ?_) Q.2⟩
        unfold ctr ctO
        by_cases c : f = 0 ∧ j < 40
        · rw [if_pos c, if_pos ⟨Or.inl c.1, c.2⟩, c.1]
        · rw [if_neg c]
          by_cases d : f = 2 ∧ j < 40
          · rw [if_pos d, if_pos ⟨Or.inr d.1, d.2⟩, d.1]
          · rw [if_neg d, if_neg (by omega)]
end
