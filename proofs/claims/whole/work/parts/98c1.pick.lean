/-! the pick is of no matter unless the spread is in turn -/
section
variable {ev : Nat → Ev} {n : Nat}
def pk (s : Sp) (c : Nat) : Sp := uN' s 21 2 c
theorem pk_1 (s : Sp) (c : Nat) {g : Nat} (h : g ≠ 21) (j : Nat) : (pk s c).1 g j = s.1 g j := by
  show (if g = 21 ∧ j = 2 then c else s.1 g j) = s.1 g j
  rw [if_neg (fun z => h z.1)]
theorem pk_r (s : Sp) (c : Nat) {j : Nat} (h : j ≠ 2) : (pk s c).1 21 j = s.1 21 j := by
  show (if 21 = 21 ∧ j = 2 then c else s.1 21 j) = s.1 21 j
  rw [if_neg (fun z => h z.2)]
theorem pk_2 (s : Sp) (c : Nat) : (pk s c).2 = s.2 := rfl
theorem pk_cT (s : Sp) (c h l : Nat) : cT (pk s c) h l = cT s h l := by
  unfold cT lf
  simp (disch := decide) only [isL, yr, fr, sz, tm, ng, sg, tn, hg, rg, hl, lk, cL, isH, fs, ls, sh, gr, cH, sd, cs, ru, us, lo, tk, th, mv, hd, br, fl, pk_1, pk_2]
theorem pk_hL (s : Sp) (c h l : Nat) : hL (pk s c) h l = hL s h l := by
  unfold hL
  simp (disch := decide) only [isL, yr, fr, sz, tm, ng, sg, tn, hg, rg, hl, lk, cL, isH, fs, ls, sh, gr, cH, sd, cs, ru, us, lo, tk, th, mv, hd, br, fl, pk_1, pk_2]
theorem pk_rmS (s : Sp) (c h y : Nat) : rmS (pk s c) h y = rmS s h y := by
  unfold rmS
  simp (disch := decide) only [isL, yr, fr, sz, tm, ng, sg, tn, hg, rg, hl, lk, cL, isH, fs, ls, sh, gr, cH, sd, cs, ru, us, lo, tk, th, mv, hd, br, fl, pk_1, pk_2, pk_cT, pk_hL]
theorem pk_szS (s : Sp) (c y : Nat) : szS (pk s c) y = szS s y := by
  unfold szS
  simp (disch := decide) only [isL, yr, fr, sz, tm, ng, sg, tn, hg, rg, hl, lk, cL, isH, fs, ls, sh, gr, cH, sd, cs, ru, us, lo, tk, th, mv, hd, br, fl, pk_1, pk_2]
theorem pk_fil (s : Sp) (c h y : Nat) (a : Int) (O : Oc) : ∀ k, fil (pk s c) h y a O k = fil s h y a O k
  | 0 => rfl
  | k + 1 => by
    simp (disch := decide) only [isL, yr, fr, sz, tm, ng, sg, tn, hg, rg, hl, lk, cL, isH, fs, ls, sh, gr, cH, sd, cs, ru, us, lo, tk, th, mv, hd, br, fl, fil, pk_fil s c h y a O k, pk_1, pk_cT, pk_hL]
theorem pk_lkb (s : Sp) (c y : Nat) : lkb (pk s c) y = lkb s y := by
  unfold lkb
  simp (disch := decide) only [isL, yr, fr, sz, tm, ng, sg, tn, hg, rg, hl, lk, cL, isH, fs, ls, sh, gr, cH, sd, cs, ru, us, lo, tk, th, mv, hd, br, fl, pk_1]
theorem pk_opn (s : Sp) (c : Nat) (off : Nat → Bool) (y : Nat) : opn (pk s c) off y = opn s off y := by
  unfold opn
  simp (disch := decide) only [isL, yr, fr, sz, tm, ng, sg, tn, hg, rg, hl, lk, cL, isH, fs, ls, sh, gr, cH, sd, cs, ru, us, lo, tk, th, mv, hd, br, fl, pk_1]
theorem pk_opC (s : Sp) (c : Nat) (off : Nat → Bool) : ∀ n, opC (pk s c) off n = opC s off n
  | 0 => rfl
  | n + 1 => by simp only [opC, pk_opC s c off n, pk_opn]
theorem pk_szT (s : Sp) (c : Nat) (off : Nat → Bool) (n : Nat) : szT (pk s c) off n = szT s off n := by
  unfold szT
  simp only [pk_opn, pk_szS]
theorem pk_wA (s : Sp) (c : Nat) (off : Nat → Bool) : wA (pk s c) off = wA s off := by
  funext y
  unfold wA
  simp only [pk_lkb]
theorem pk_wS (s : Sp) (c : Nat) (off : Nat → Bool) : wS (pk s c) off = wS s off := by
  funext y
  unfold wS
  simp (disch := decide) only [isL, yr, fr, sz, tm, ng, sg, tn, hg, rg, hl, lk, cL, isH, fs, ls, sh, gr, cH, sd, cs, ru, us, lo, tk, th, mv, hd, br, fl, pk_lkb, pk_opC, pk_szT, pk_szS, pk_1]
theorem pk_pw (s : Sp) (c h : Nat) (p : Nat → Int) : ∀ k, pw (pk s c) h p k = pw s h p k
  | 0 => rfl
  | k + 1 => by simp (disch := decide) only [isL, yr, fr, sz, tm, ng, sg, tn, hg, rg, hl, lk, cL, isH, fs, ls, sh, gr, cH, sd, cs, ru, us, lo, tk, th, mv, hd, br, fl, pw, pk_pw s c h p k, pk_1, pk_fil]
theorem pk_pyW (s : Sp) (c h : Nat) (a : Int) (w : Nat → Int) : pyW (pk s c) h a w = pyW s h a w := by
  unfold pyW
  simp only [pk_pw]
theorem pk_rmY (s : Sp) (c h : Nat) (off : Nat → Bool) : rmY (pk s c) h off = rmY s h off := by
  funext y
  unfold rmY
  simp only [pk_opn, pk_rmS]
theorem pk_pl (s : Sp) (c h : Nat) (off : Nat → Bool) (p : Nat → Int) : ∀ k, pl (pk s c) h off p k = pl s h off p k
  | 0 => rfl
  | k + 1 => by simp (disch := decide) only [isL, yr, fr, sz, tm, ng, sg, tn, hg, rg, hl, lk, cL, isH, fs, ls, sh, gr, cH, sd, cs, ru, us, lo, tk, th, mv, hd, br, fl, pl, pk_pl s c h off p k, pk_1, pk_fil, pk_opn]
theorem pk_pyL (s : Sp) (c h : Nat) (off : Nat → Bool) (a : Int) : pyL (pk s c) h off a = pyL s h off a := by
  unfold pyL
  simp only [pk_rmY, pk_pl, pk_opC]
theorem pk_chg (s : Sp) (c : Nat) (O : Oc) (i : Nat) (v : Int) : chg (pk s c) O i v = chg s O i v := by
  unfold chg
  simp (disch := decide) only [isL, yr, fr, sz, tm, ng, sg, tn, hg, rg, hl, lk, cL, isH, fs, ls, sh, gr, cH, sd, cs, ru, us, lo, tk, th, mv, hd, br, fl, pk_1]
theorem pk_due (s : Sp) (c : Nat) (O : Oc) (l : Nat) : due (pk s c) O l = due s O l := by
  unfold due tnS
  simp (disch := decide) only [isL, yr, fr, sz, tm, ng, sg, tn, hg, rg, hl, lk, cL, isH, fs, ls, sh, gr, cH, sd, cs, ru, us, lo, tk, th, mv, hd, br, fl, pk_1]
theorem pk_its (s : Sp) (c : Nat) (O : Oc) (l k : Nat) : its (pk s c) O l k = its s O l k := by
  have e : ten (pk s c) O l = ten s O l := by
    funext k
    unfold ten
    simp (disch := decide) only [isL, yr, fr, sz, tm, ng, sg, tn, hg, rg, hl, lk, cL, isH, fs, ls, sh, gr, cH, sd, cs, ru, us, lo, tk, th, mv, hd, br, fl, pk_1]
  unfold its tnR
  simp (disch := decide) only [isL, yr, fr, sz, tm, ng, sg, tn, hg, rg, hl, lk, cL, isH, fs, ls, sh, gr, cH, sd, cs, ru, us, lo, tk, th, mv, hd, br, fl, pk_1, e, pk_due]
theorem pk_spk (s : Sp) (c : Nat) (O0 : Oc) (l : Nat) (O : Oc) : ∀ k, spk (pk s c) O0 l O k = spk s O0 l O k
  | 0 => rfl
  | k + 1 => by simp (disch := decide) only [isL, yr, fr, sz, tm, ng, sg, tn, hg, rg, hl, lk, cL, isH, fs, ls, sh, gr, cH, sd, cs, ru, us, lo, tk, th, mv, hd, br, fl, spk, pk_spk s c O0 l O k, pk_1, pk_its, pk_chg]
theorem pk_spl (s : Sp) (c : Nat) (O : Oc) : ∀ k, spl (pk s c) O k = spl s O k
  | 0 => rfl
  | k + 1 => by simp (disch := decide) only [isL, yr, fr, sz, tm, ng, sg, tn, hg, rg, hl, lk, cL, isH, fs, ls, sh, gr, cH, sd, cs, ru, us, lo, tk, th, mv, hd, br, fl, spl, pk_spl s c O k, pk_1, pk_spk, pk_due]
theorem pk_pln (s : Sp) (c h : Nat) (off : Nat → Bool) (a : Int) {m : Nat} (hm : m ≠ 2) : pln (pk s c) h off a m = pln s h off a m := by
  unfold pln pre
  rw [if_neg hm, if_neg hm, pk_spl]
  simp only [pk_pyW, pk_pyL, pk_wA, pk_wS]
theorem pk_sprd (s : Sp) (c h : Nat) (a : Int) (hr : ru s 1 ≠ 2) : sprd (pk s c) h a = pk (sprd s h a) c := by
  unfold sprd
  have e : offH (pk s c) h = offH s h := by
    unfold offH
    simp (disch := decide) only [isL, yr, fr, sz, tm, ng, sg, tn, hg, rg, hl, lk, cL, isH, fs, ls, sh, gr, cH, sd, cs, ru, us, lo, tk, th, mv, hd, br, fl, pk_1, pk_r]
  rw [e, show ru (pk s c) 1 = ru s 1 from pk_r s c (by decide), pk_pln s c h _ a hr]
  rfl
theorem pk_uN (s : Sp) (c : Nat) {f i v : Nat} (h : f ≠ 21) : uN' (pk s c) f i v = pk (uN' s f i v) c := by
  unfold pk uN'
  refine Prod.ext ?_ rfl
  funext g j
  show (if g = f ∧ j = i then v else if g = 21 ∧ j = 2 then c else s.1 g j) = if g = 21 ∧ j = 2 then c else if g = f ∧ j = i then v else s.1 g j
  by_cases q : g = f ∧ j = i
  · rw [if_pos q, if_neg (fun z => h (q.1.symm.trans z.1)), if_pos q]
  · rw [if_neg q, if_neg q]
theorem pk_uZ (s : Sp) (c f i : Nat) (v : Int) : uZ (pk s c) f i v = pk (uZ s f i v) c := rfl
theorem pk_insP (s : Sp) (c y f : Nat) : ∀ k, insP (pk s c) y f k = insP s y f k
  | 0 => rfl
  | k + 1 => by simp (disch := decide) only [isL, yr, fr, sz, tm, ng, sg, tn, hg, rg, hl, lk, cL, isH, fs, ls, sh, gr, cH, sd, cs, ru, us, lo, tk, th, mv, hd, br, fl, insP, pk_insP s c y f k, pk_1]
theorem pk_ptL (s : Sp) (c l y f z t : Nat) : ptL (pk s c) l y f z t = pk (ptL s l y f z t) c := by
  refine Prod.ext ?_ rfl
  funext a j
  by_cases q : a = 21
  · subst q; rfl
  · rw [pk_1 _ _ q j]
    have e := pk_1 s c q j
    have e1 : insP (pk s c) y f (hg (pk s c) y) = insP s y f (hg s y) := pk_insP s c y f _
    simp only [ptL, e1, e]
    rfl
theorem pk_can (s : Sp) (c : Nat) {e : Ev} (E : EvOK e) : can (pk s c) e ↔ can s e := by
  have t : ∀ l k, tnI (pk s c) l k = tnI s l k := fun l k => by
    induction k with
    | zero => rfl
    | succ k ih => simp (disch := decide) only [isL, yr, fr, sz, tm, ng, sg, tn, hg, rg, hl, lk, cL, isH, fs, ls, sh, gr, cH, sd, cs, ru, us, lo, tk, th, mv, hd, br, fl, tnI, ih, pk_1]
  rcases ev_cases E with h | h | h | h | h | h | h | h | h
  · rw [can_0 h, can_0 h]; unfold fre tp; simp (disch := decide) only [isL, yr, fr, sz, tm, ng, sg, tn, hg, rg, hl, lk, cL, isH, fs, ls, sh, gr, cH, sd, cs, ru, us, lo, tk, th, mv, hd, br, fl, pk_1, pk_lkb]
  · rw [can_1 h, can_1 h]; simp (disch := decide) only [isL, yr, fr, sz, tm, ng, sg, tn, hg, rg, hl, lk, cL, isH, fs, ls, sh, gr, cH, sd, cs, ru, us, lo, tk, th, mv, hd, br, fl, pk_1, pk_2, t]
  · rw [can_2 h, can_2 h]; simp (disch := decide) only [isL, yr, fr, sz, tm, ng, sg, tn, hg, rg, hl, lk, cL, isH, fs, ls, sh, gr, cH, sd, cs, ru, us, lo, tk, th, mv, hd, br, fl, pk_1, pk_lkb]
  · rw [can_3 (Or.inl h), can_3 (Or.inl h)]
  · rw [can_3 (Or.inr h), can_3 (Or.inr h)]
  · rw [can_5 (Or.inl h), can_5 (Or.inl h)]; simp (disch := decide) only [isL, yr, fr, sz, tm, ng, sg, tn, hg, rg, hl, lk, cL, isH, fs, ls, sh, gr, cH, sd, cs, ru, us, lo, tk, th, mv, hd, br, fl, pk_1]
  · rw [can_6 (Or.inl h), can_6 (Or.inl h)]; simp (disch := decide) only [isL, yr, fr, sz, tm, ng, sg, tn, hg, rg, hl, lk, cL, isH, fs, ls, sh, gr, cH, sd, cs, ru, us, lo, tk, th, mv, hd, br, fl, pk_1]
  · rw [can_6 (Or.inr h), can_6 (Or.inr h)]; simp (disch := decide) only [isL, yr, fr, sz, tm, ng, sg, tn, hg, rg, hl, lk, cL, isH, fs, ls, sh, gr, cH, sd, cs, ru, us, lo, tk, th, mv, hd, br, fl, pk_1]
  · rw [can_5 (Or.inr h), can_5 (Or.inr h)]; simp (disch := decide) only [isL, yr, fr, sz, tm, ng, sg, tn, hg, rg, hl, lk, cL, isH, fs, ls, sh, gr, cH, sd, cs, ru, us, lo, tk, th, mv, hd, br, fl, pk_1]
theorem pk_doe (s : Sp) (c : Nat) {e : Ev} (E : EvOK e) (h3 : e 0 ≠ 3) (hr : ru s 1 ≠ 2) : doe (pk s c) e = pk (doe s e) c := by
  rcases ev_cases E with h | h | h | h | h | h | h | h | h
  · rw [doe_0 _ h, doe_0 _ h, pk_ptL]
  · rw [doe_1 _ h, doe_1 _ h]; simp (disch := decide) only [isL, yr, fr, sz, tm, ng, sg, tn, hg, rg, hl, lk, cL, isH, fs, ls, sh, gr, cH, sd, cs, ru, us, lo, tk, th, mv, hd, br, fl, pk_1, pk_uN]
  · rw [doe_2 _ h, doe_2 _ h]; simp (disch := decide) only [isL, yr, fr, sz, tm, ng, sg, tn, hg, rg, hl, lk, cL, isH, fs, ls, sh, gr, cH, sd, cs, ru, us, lo, tk, th, mv, hd, br, fl, pk_1, pk_uN]
  · exact absurd h h3
  · rw [doe_4 _ h, doe_4 _ h]
    have e1 : hmS (pk s c) (e 1) (e 2) (e 3) (e 4) (e 5 : Int) = pk (hmS s (e 1) (e 2) (e 3) (e 4) (e 5 : Int)) c := by
      unfold hmS; simp (disch := decide) only [isL, yr, fr, sz, tm, ng, sg, tn, hg, rg, hl, lk, cL, isH, fs, ls, sh, gr, cH, sd, cs, ru, us, lo, tk, th, mv, hd, br, fl, pk_1, pk_uN, pk_uZ]
    rw [e1, pk_sprd]
    show (hmS s (e 1) (e 2) (e 3) (e 4) (e 5 : Int)).1 21 1 ≠ 2
    rw [hm_1 s _ _ _ _ _ (by decide)]; exact hr
  · rw [doe_5 _ h, doe_5 _ h]
    have e1 : grS (pk s c) (e 1) (e 2 : Int) = pk (grS s (e 1) (e 2 : Int)) c := by
      unfold grS; simp (disch := decide) only [isL, yr, fr, sz, tm, ng, sg, tn, hg, rg, hl, lk, cL, isH, fs, ls, sh, gr, cH, sd, cs, ru, us, lo, tk, th, mv, hd, br, fl, pk_1, pk_2, pk_uN, pk_uZ]
    rw [e1, pk_sprd]
    show (grS s (e 1) (e 2 : Int)).1 21 1 ≠ 2
    rw [gr_1 s _ _ (by decide)]; exact hr
  · rw [doe_6 _ h, doe_6 _ h]; simp (disch := decide) only [isL, yr, fr, sz, tm, ng, sg, tn, hg, rg, hl, lk, cL, isH, fs, ls, sh, gr, cH, sd, cs, ru, us, lo, tk, th, mv, hd, br, fl, pk_uN]
  · rw [doe_7 _ h, doe_7 _ h]; simp (disch := decide) only [isL, yr, fr, sz, tm, ng, sg, tn, hg, rg, hl, lk, cL, isH, fs, ls, sh, gr, cH, sd, cs, ru, us, lo, tk, th, mv, hd, br, fl, pk_uN]
  · rw [doe_8 _ h, doe_8 _ h, show clrH (pk s c) (e 1) = pk (clrH s (e 1)) c from rfl, pk_sprd (clrH s (e 1)) c (e 1) _ hr]; rfl
theorem doe_ru (s : Sp) {e : Ev} (E : EvOK e) (h3 : e 0 ≠ 3) : (doe s e).1 21 = s.1 21 := by
  rcases ev_cases E with h | h | h | h | h | h | h | h | h
  · rw [doe_0 _ h]; rfl
  · rw [doe_1 _ h]; funext j; simp [uN']
  · rw [doe_2 _ h]; funext j; simp [uN']
  · exact absurd h h3
  · rw [doe_4 _ h]
    show (hmS s (e 1) (e 2) (e 3) (e 4) (e 5 : Int)).1 21 = _
    rw [hm_1 s _ _ _ _ _ (by decide)]
  · rw [doe_5 _ h]
    show (grS s (e 1) (e 2 : Int)).1 21 = _
    rw [gr_1 s _ _ (by decide)]
  · rw [doe_6 _ h]; funext j; simp [uN']
  · rw [doe_7 _ h]; funext j; simp [uN']
  · rw [doe_8 _ h]; rfl
theorem pk_go (s : Sp) (c : Nat) {e : Ev} (E : EvOK e) (h3 : e 0 ≠ 3) (hr : ru s 1 ≠ 2) : go (pk s c) e = pk (go s e) c ∧ ru (go s e) 1 ≠ 2 := by
  by_cases C : can s e
  · rw [go_y C, go_y ((pk_can s c E).mpr C), pk_doe s c E h3 hr]
    refine ⟨rfl, ?_⟩
    show (doe s e).1 21 1 ≠ 2
    rw [doe_ru s E h3]; exact hr
  · rw [go_n C, go_n (fun z => C ((pk_can s c E).mp z))]
    exact ⟨rfl, hr⟩
theorem pk_run {a b : Nat} (c : Nat) (G : EG ev n) (hb : b ≠ 2) : ∀ k, k ≤ n → rF ev (fun k => decide (ev k 0 ≠ 3)) (ruS sp0 a b c) k = pk (rF ev (fun k => decide (ev k 0 ≠ 3)) (ruS sp0 a b 0) k) c ∧ ru (rF ev (fun k => decide (ev k 0 ≠ 3)) (ruS sp0 a b 0) k) 1 ≠ 2
  | 0, _ => by
    refine ⟨?_, ?_⟩
    · show ruS sp0 a b c = pk (ruS sp0 a b 0) c
      unfold ruS pk uN'
      refine Prod.ext ?_ rfl
      funext g j
      show (if g = 21 ∧ j = 2 then c else _) = if g = 21 ∧ j = 2 then c else if g = 21 ∧ j = 2 then 0 else _
      by_cases q : g = 21 ∧ j = 2
      · rw [if_pos q, if_pos q]
      · rw [if_neg q, if_neg q, if_neg q]
    · show (ruS sp0 a b 0).1 21 1 ≠ 2
      have : (ruS sp0 a b 0).1 21 1 = b := by simp [ruS, uN']
      rw [this]; exact hb
  | k + 1, hk => by
    obtain ⟨e, r⟩ := pk_run (a := a) c G hb k (by omega)
    rw [rF_s, rF_s]
    by_cases q : ev k 0 = 3
    · rw [if_neg (by simp [q]), if_neg (by simp [q])]; exact ⟨e, r⟩
    · rw [if_pos (by simp [q]), if_pos (by simp [q]), e]
      exact pk_go _ c (G.2.1 k (by omega)) q r
theorem pk_bA {a b : Nat} (c i : Nat) (G : EG ev n) (hb : b ≠ 2) : bA (rF ev (fun k => decide (ev k 0 ≠ 3)) (ruS sp0 a b c) n) i = bA (rF ev (fun k => decide (ev k 0 ≠ 3)) (ruS sp0 a b 0) n) i := by
  rw [(pk_run (a := a) c G hb n (Nat.le_refl _)).1]
  unfold bA bO
  simp (disch := decide) only [isL, yr, fr, sz, tm, ng, sg, tn, hg, rg, hl, lk, cL, isH, fs, ls, sh, gr, cH, sd, cs, ru, us, lo, tk, th, mv, hd, br, fl, pk_1, pk_2]
end
