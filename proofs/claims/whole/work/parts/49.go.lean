/-! events keep what always holds: all kinds -/
theorem Iv_mo {N M : Nat} (h : N ≤ M) {s : Sp} (H : Iv N s) : Iv M s := ⟨H.T, IvH_c (s := s) h (fun _ _ => rfl) rfl H.H, H.R⟩
theorem Iv_sg {N : Nat} {s : Sp} (H : Iv N s) {l i n : Nat} (hl' : l < 40) (hi : i < 10) (hn : 1 ≤ n) (h1 : isL s l = 1) (h4 : ng s l < 4) (ht : tnI s l (ng s l) + n ≤ 10) (hd' : ∀ k, k < ng s l → sg s (4 * l + k) ≠ i) : Iv N (uN' (uN' (uN' s 6 (4 * l + ng s l) i) 7 (4 * l + ng s l) n) 5 l (ng s l + 1)) := by
  have T := H.T
  generalize ht' : uN' (uN' (uN' s 6 (4 * l + ng s l) i) 7 (4 * l + ng s l) n) 5 l (ng s l + 1) = t
  have e5 : ∀ q, ng t q = if q = l then ng s l + 1 else ng s q := fun q => by subst ht'; simp [ng, uN']
  have e6 : ∀ j, sg t j = if j = 4 * l + ng s l then i else sg s j := fun j => by subst ht'; simp [sg, uN']
  have e7 : ∀ j, tn t j = if j = 4 * l + ng s l then n else tn s j := fun j => by subst ht'; simp [tn, uN']
  have eo : ∀ g, g ≠ 5 → g ≠ 6 → g ≠ 7 → t.1 g = s.1 g := fun g a b c => by subst ht'; funext j; simp [uN', a, b, c]
  have e2 : t.2 = s.2 := by subst ht'; rfl
  have st : ∀ q k, q < 40 → k < 4 → (4 * q + k = 4 * l + ng s l ↔ q = l ∧ k = ng s l) := fun q k _ _ => by omega
  have tl : ∀ q, q < 40 → ∀ m, m ≤ 4 → (q = l → m ≤ ng s l) → tnI t q m = tnI s q m := fun q hq m => by
    induction m with
    | zero => intro _ _; rfl
    | succ m ih =>
      intro h4 hm
      show tnI t q m + tn t (4 * q + m) = tnI s q m + tn s (4 * q + m)
      rw [ih (by omega) (fun e => by have := hm e; omega), e7, if_neg (fun z => by have := (st q m hq (by omega)).mp z; have := hm this.1; omega)]
  have o0 := eo 0 (by decide) (by decide) (by decide)
  have o1 := eo 1 (by decide) (by decide) (by decide)
  have o2 := eo 2 (by decide) (by decide) (by decide)
  have o3 := eo 3 (by decide) (by decide) (by decide)
  have o4 := eo 4 (by decide) (by decide) (by decide)
  have o8 := eo 8 (by decide) (by decide) (by decide)
  have o9 := eo 9 (by decide) (by decide) (by decide)
  have o10 := eo 10 (by decide) (by decide) (by decide)
  have o11 := eo 11 (by decide) (by decide) (by decide)
  have o12 := eo 12 (by decide) (by decide) (by decide)
  refine ⟨?_, IvH_c (s := s) (Nat.le_refl N) (fun g h => eo g (by omega) (by omega) (by omega)) e2 H.H, IvR_c (s := s) (fun g a b => eo g (by omega) (by omega) (by omega)) H.R⟩
  have Q : (∀ q, q < 40 → ng t q ≤ 4) ∧ (∀ q, q < 40 → isL s q = 0 → ng t q = 0) ∧ (∀ q k, q < 40 → k < ng t q → sg t (4 * q + k) < 10) ∧ (∀ q k, q < 40 → k < ng t q → 1 ≤ tn t (4 * q + k)) ∧ (∀ q, q < 40 → tnI t q (ng t q) ≤ 10) ∧ (∀ q k j, q < 40 → k < ng t q → j < ng t q → sg t (4 * q + k) = sg t (4 * q + j) → k = j) := by
    have n4 : ∀ q, q < 40 → ng t q ≤ 4 := fun q hq => by
      rw [e5]; split
      · omega
      · exact IvT_ng T hq
    have old : ∀ q k, q < 40 → k < ng t q → ¬ (q = l ∧ k = ng s l) → k < ng s q ∧ sg t (4 * q + k) = sg s (4 * q + k) ∧ tn t (4 * q + k) = tn s (4 * q + k) := fun q k hq hk n => by
      have k4 : k < 4 := Nat.lt_of_lt_of_le hk (n4 q hq)
      have ne : ¬ 4 * q + k = 4 * l + ng s l := fun z => n ((st q k hq k4).mp z)
      refine ⟨?_, by rw [e6, if_neg ne], by rw [e7, if_neg ne]⟩
      rw [e5] at hk
      by_cases a : q = l
      · rw [if_pos a] at hk; subst a; omega
      · rw [if_neg a] at hk; exact hk
    refine ⟨n4, fun q hq h0 => ?_, fun q k hq hk => ?_, fun q k hq hk => ?_, fun q hq => ?_, fun q k j hq hk hj he => ?_⟩
    · rw [e5, if_neg (fun z => by rw [z] at h0; omega)]; exact IvT_n0 T hq h0
    · by_cases n : q = l ∧ k = ng s l
      · rw [n.1, n.2, e6, if_pos rfl]; exact hi
      · obtain ⟨a, b, _⟩ := old q k hq hk n
        rw [b]; exact IvT_sg T hq a
    · by_cases n : q = l ∧ k = ng s l
      · rw [n.1, n.2, e7, if_pos rfl]; exact hn
      · obtain ⟨a, _, b⟩ := old q k hq hk n
        rw [b]; exact IvT_tn T hq a
    · rw [e5]
      by_cases a : q = l
      · rw [if_pos a, a]
        show tnI t l (ng s l) + tn t (4 * l + ng s l) ≤ 10
        rw [tl l hl' (ng s l) (by omega) (fun _ => Nat.le_refl _), e7, if_pos rfl]; exact ht
      · rw [if_neg a, tl q hq (ng s q) (IvT_ng T hq) (fun z => absurd z a)]; exact IvT_tt T hq
    · by_cases n : q = l ∧ k = ng s l
      · by_cases m : q = l ∧ j = ng s l
        · omega
        · obtain ⟨a, b, _⟩ := old q j hq hj m
          rw [n.2, n.1, e6, if_pos rfl, ← n.1, b, n.1] at he
          rw [n.1] at a
          exact absurd he.symm (hd' j a)
      · obtain ⟨a, b, _⟩ := old q k hq hk n
        by_cases m : q = l ∧ j = ng s l
        · rw [b, m.2, m.1, e6, if_pos rfl] at he
          rw [m.1] at a
          exact absurd he (hd' k a)
        · obtain ⟨c, d, _⟩ := old q j hq hj m
          rw [b, d] at he
          exact IvT_sd T hq a c he
  simp only [IvT, tp, lkb, isL, yr, fr, sz, tm, hg, rg, hl, lk, cL, o0, o1, o2, o3, o4, o8, o9, o10, o11, o12] at T ⊢
  exact ⟨T.1, T.2.1, T.2.2.1, T.2.2.2.1, T.2.2.2.2.1, T.2.2.2.2.2.1, T.2.2.2.2.2.2.1, Q.1, Q.2.1, Q.2.2.1, Q.2.2.2.1, Q.2.2.2.2.1, Q.2.2.2.2.2, T.2.2.2.2.2.2.2.2.2.2.2.2.2⟩
theorem Iv_lk {N : Nat} {s : Sp} (H : Iv N s) {y : Nat} (hy : y < 12) (h0 : hg s y = 0) : Iv N (uN' s 11 0 (lk s ||| 2 ^ y)) := by
  have T := H.T
  generalize ht' : uN' s 11 0 (lk s ||| 2 ^ y) = t
  have el : lk t = lk s ||| 2 ^ y := by subst ht'; rfl
  have eo : ∀ g, g ≠ 11 → t.1 g = s.1 g := fun g a => by subst ht'; funext j; simp [uN', a]
  have e2 : t.2 = s.2 := by subst ht'; rfl
  have k := tnI_c (s := s) (t := t) (eo 7 (by decide))
  have Q : lk t < 4096 ∧ (∀ x, x < 12 → lkb t x = true → hg s x = 0) := by
    refine ⟨by rw [el]; exact q_lt (IvT_lk T) (q_2 hy), fun x hx h => ?_⟩
    unfold lkb at h
    rw [el, Nat.testBit_or, Nat.testBit_two_pow] at h
    by_cases e : y = x
    · rw [← e]; exact h0
    · rw [decide_eq_false e, Bool.or_false] at h
      exact IvT_lg T hx h
  refine ⟨?_, IvH_c (s := s) (Nat.le_refl N) (fun g h => eo g (by omega)) e2 H.H, IvR_c (s := s) (fun g a b => eo g (by omega)) H.R⟩
  simp only [IvT, tp, isL, yr, fr, sz, tm, ng, sg, tn, hg, rg, hl, cL, k, eo 0 (by decide), eo 1 (by decide), eo 2 (by decide), eo 3 (by decide), eo 4 (by decide), eo 5 (by decide), eo 6 (by decide), eo 7 (by decide), eo 8 (by decide), eo 9 (by decide), eo 10 (by decide), eo 12 (by decide)] at T ⊢
  exact ⟨T.1, T.2.1, T.2.2.1, T.2.2.2.1, T.2.2.2.2.1, T.2.2.2.2.2.1, T.2.2.2.2.2.2.1, T.2.2.2.2.2.2.2.1, T.2.2.2.2.2.2.2.2.1, T.2.2.2.2.2.2.2.2.2.1, T.2.2.2.2.2.2.2.2.2.2.1, T.2.2.2.2.2.2.2.2.2.2.2.1, T.2.2.2.2.2.2.2.2.2.2.2.2.1, T.2.2.2.2.2.2.2.2.2.2.2.2.2.1, T.2.2.2.2.2.2.2.2.2.2.2.2.2.2.1, T.2.2.2.2.2.2.2.2.2.2.2.2.2.2.2.1, T.2.2.2.2.2.2.2.2.2.2.2.2.2.2.2.2.1, T.2.2.2.2.2.2.2.2.2.2.2.2.2.2.2.2.2.1, T.2.2.2.2.2.2.2.2.2.2.2.2.2.2.2.2.2.2.1, T.2.2.2.2.2.2.2.2.2.2.2.2.2.2.2.2.2.2.2.1, Q.1, Q.2, T.2.2.2.2.2.2.2.2.2.2.2.2.2.2.2.2.2.2.2.2.2.2⟩
theorem Iv_ru {N : Nat} {s : Sp} (H : Iv N s) {a b c : Nat} (ha : a ≤ 3) (hb : b ≤ 3) (hc : c ≤ 3) : Iv N (uN' (uN' (uN' s 21 0 a) 21 1 b) 21 2 c) := by
  have R := H.R
  refine ⟨IvT_c (s := s) (fun g h => by funext j; simp [uN', show g ≠ 21 by omega]) H.T, IvH_c (s := s) (Nat.le_refl N) (fun g h => by funext j; simp [uN', show g ≠ 21 by omega]) rfl H.H, ?_⟩
  exact ⟨R.1, R.2.1, R.2.2.1, R.2.2.2.1, ha, hb, hc⟩
theorem Iv_sd {N : Nat} {s : Sp} (H : Iv N s) {i v c : Nat} (hi : 1 ≤ i) (hv : v = 1 ∨ v = 2) (hc : c ≤ 1000000000) : Iv N (uN' (uN' s 19 i v) 20 i c) := by
  have R := H.R
  refine ⟨IvT_c (s := s) (fun g h => by funext j; simp [uN', show g ≠ 19 by omega, show g ≠ 20 by omega]) H.T, IvH_c (s := s) (Nat.le_refl N) (fun g h => by funext j; simp [uN', show g ≠ 19 by omega, show g ≠ 20 by omega]) rfl H.H, ?_⟩
  have e1 : ∀ j, sd (uN' (uN' s 19 i v) 20 i c) j = if j = i then v else sd s j := fun j => by simp [sd, uN']
  have e2 : ∀ j, cs (uN' (uN' s 19 i v) 20 i c) j = if j = i then c else cs s j := fun j => by simp [cs, uN']
  refine ⟨fun j hj => ?_, ?_, fun j hj => ?_, fun j hj h => ?_, R.2.2.2.2.1, R.2.2.2.2.2.1, R.2.2.2.2.2.2⟩
  · rw [e1]; split
    · omega
    · exact IvR_sd R hj
  · rw [e1, if_neg (by omega)]; exact IvR_s0 R
  · rw [e2]; split
    · exact hc
    · exact IvR_cs R hj
  · rw [e1] at h; rw [e2]
    by_cases n : j = i
    · rw [if_pos n] at h; omega
    · rw [if_neg n] at h ⊢; exact IvR_c0 R hj h
/-- a harm is told (nothing of it is spread yet) -/
def hmS (s : Sp) (h a b c : Nat) (v : Int) : Sp := uZ (uN' (uN' (uN' (uN' (uN' s 13 h 1) 14 h a) 15 h b) 16 h c) 18 0 (max (cH s) (h + 1))) 1 h v
theorem hm_is (s : Sp) (h a b c : Nat) (v : Int) (g : Nat) : isH (hmS s h a b c v) g = if g = h then 1 else isH s g := by simp [isH, hmS, uN', uZ]
theorem hm_fs (s : Sp) (h a b c : Nat) (v : Int) (g : Nat) : fs (hmS s h a b c v) g = if g = h then a else fs s g := by simp [fs, hmS, uN', uZ]
theorem hm_ls (s : Sp) (h a b c : Nat) (v : Int) (g : Nat) : ls (hmS s h a b c v) g = if g = h then b else ls s g := by simp [ls, hmS, uN', uZ]
theorem hm_sh (s : Sp) (h a b c : Nat) (v : Int) (g : Nat) : sh (hmS s h a b c v) g = if g = h then c else sh s g := by simp [sh, hmS, uN', uZ]
theorem hm_gr (s : Sp) (h a b c : Nat) (v : Int) (g : Nat) : gr (hmS s h a b c v) g = gr s g := by simp [gr, hmS, uN', uZ]
theorem hm_cH (s : Sp) (h a b c : Nat) (v : Int) : cH (hmS s h a b c v) = max (cH s) (h + 1) := by simp [cH, hmS, uN', uZ]
theorem hm_lo (s : Sp) (h a b c : Nat) (v : Int) (g : Nat) : lo (hmS s h a b c v) g = if g = h then v else lo s g := by simp [lo, hmS, uN', uZ]
theorem hm_1 (s : Sp) (h a b c : Nat) (v : Int) {g : Nat} (hg : g ≤ 12 ∨ 19 ≤ g) : (hmS s h a b c v).1 g = s.1 g := by
  funext j
  simp [hmS, uN', uZ, show g ≠ 13 by omega, show g ≠ 14 by omega, show g ≠ 15 by omega, show g ≠ 16 by omega, show g ≠ 18 by omega]
theorem hm_2 (s : Sp) (h a b c : Nat) (v : Int) {g : Nat} (hg : g ≠ 1) : (hmS s h a b c v).2 g = s.2 g := by
  funext j
  simp [hmS, uN', uZ, hg]
theorem Iv_hm {N : Nat} {s : Sp} (H : Iv N s) {h a b c v : Nat} (hh : h < 24) (h0 : isH s h = 0) (h1 : a ≤ b) (h2 : b ≤ c) (h3 : c < 12) (h4 : 1 ≤ v) (h5 : v ≤ 1000000000) : Iv N (hmS s h a b c (v : Int)) := by
  have HH := H.H
  refine ⟨IvT_c (s := s) (fun g hg => hm_1 s h a b c _ (by omega)) H.T, ?_, IvR_c (s := s) (fun g hg _ => hm_1 s h a b c _ (by omega)) H.R⟩
  have z0 := hm_2 s h a b c (v : Int) (g := 0) (by decide)
  have z2 := hm_2 s h a b c (v : Int) (g := 2) (by decide)
  have z3 := hm_2 s h a b c (v : Int) (g := 3) (by decide)
  have z4 := hm_2 s h a b c (v : Int) (g := 4) (by decide)
  have z5 := hm_2 s h a b c (v : Int) (g := 5) (by decide)
  have z6 := hm_2 s h a b c (v : Int) (g := 6) (by decide)
  have z7 := hm_2 s h a b c (v : Int) (g := 7) (by decide)
  have n0 := hm_1 s h a b c (v : Int) (g := 0) (by decide)
  have n3 := hm_1 s h a b c (v : Int) (g := 3) (by decide)
  have n4 := hm_1 s h a b c (v : Int) (g := 4) (by decide)
  have un : ∀ g, isH (hmS s h a b c (v : Int)) g = 0 → g ≠ h ∧ isH s g = 0 := fun g z => by
    rw [hm_is] at z
    by_cases n : g = h
    · rw [if_pos n] at z; omega
    · rw [if_neg n] at z; exact ⟨n, z⟩
  refine ⟨fun g hg => ?_, ?_, fun g hg q => ?_, ?_, fun g hg q => ?_, fun g hg q => ?_, fun g hg => ?_, ?_, ?_, ?_, ?_, ?_, ?_, fun g l hg q hl => ?_, fun g j hg q hj => ?_, fun g i hg q hi => ?_, fun g r hg q hr => ?_, fun g hg q => ?_⟩
  · rw [hm_is]; split
    · exact Or.inr rfl
    · exact IvH_is HH hg
  · rw [hm_is, if_neg (by omega)]; exact IvH_24 HH
  · rw [hm_cH]
    rw [hm_is] at q
    by_cases n : g = h
    · omega
    · rw [if_neg n] at q; have := IvH_cH HH hg q; omega
  · rw [hm_cH]; have := IvH_c24 HH; omega
  · rw [hm_fs, hm_ls, hm_sh]
    rw [hm_is] at q
    by_cases n : g = h
    · rw [if_pos n, if_pos n, if_pos n]; omega
    · rw [if_neg n] at q; rw [if_neg n, if_neg n, if_neg n]; exact IvH_fs HH hg q
  · rw [hm_lo, hm_gr]
    rw [hm_is] at q
    by_cases n : g = h
    · rw [if_pos n]
      have : (0 : Int) ≤ (gr s g : Int) := by omega
      omega
    · rw [if_neg n] at q; rw [if_neg n]; exact IvH_lo HH hg q
  · rw [hm_gr]; exact IvH_gr HH hg
  · simp only [tk, sz, z2, n3]; exact HH.2.2.2.2.2.2.2.1
  · simp only [tk, isL, z2, n0]; exact HH.2.2.2.2.2.2.2.2.1
  · simp only [th, z3]; exact HH.2.2.2.2.2.2.2.2.2.1
  · simp only [hd, tk, z5, z2]; exact HH.2.2.2.2.2.2.2.2.2.2.1
  · simp only [us, tk, z0, z2]; exact HH.2.2.2.2.2.2.2.2.2.2.2.1
  · simp only [us, isL, sz, tm, z0, n0, n3, n4]; exact HH.2.2.2.2.2.2.2.2.2.2.2.2.1
  · simp only [tk, th, mv, z2, z3, z4]; exact IvH_z2 HH hg (un g q).2 hl
  · simp only [hd, z5]; exact IvH_z5 HH hg (un g q).2 hj
  · simp only [br, z6]; exact IvH_z6 HH hg (un g q).2 hi
  · simp only [fl, z7]; exact IvH_z7 HH hg (un g q).2 hr
  · rw [hm_lo, hm_gr, if_neg (un g q).1]; exact IvH_z1 HH hg (un g q).2
/-- a harm grows (nothing of that is spread yet) -/
def grS (s : Sp) (h : Nat) (v : Int) : Sp := uZ (uN' s 17 h (gr s h + 1)) 1 h (lo s h + v)
theorem gr_gr (s : Sp) (h : Nat) (v : Int) (g : Nat) : gr (grS s h v) g = if g = h then gr s h + 1 else gr s g := by simp [gr, grS, uN', uZ]
theorem gr_lo (s : Sp) (h : Nat) (v : Int) (g : Nat) : lo (grS s h v) g = if g = h then lo s h + v else lo s g := by simp [lo, grS, uN', uZ]
theorem gr_1 (s : Sp) (h : Nat) (v : Int) {g : Nat} (hg : g ≠ 17) : (grS s h v).1 g = s.1 g := by funext j; simp [grS, uN', uZ, hg]
theorem gr_2 (s : Sp) (h : Nat) (v : Int) {g : Nat} (hg : g ≠ 1) : (grS s h v).2 g = s.2 g := by funext j; simp [grS, uN', uZ, hg]
theorem Iv_gr {N : Nat} {s : Sp} (H : Iv N s) {h v : Nat} (hh : h < 24) (h1 : isH s h = 1) (h5 : v ≤ 1000000000) : Iv (N + 1) (grS s h (v : Int)) := by
  have HH := H.H
  refine ⟨IvT_c (s := s) (fun g hg => gr_1 s h _ (by omega)) H.T, ?_, IvR_c (s := s) (fun g hg _ => gr_1 s h _ (by omega)) H.R⟩
  have n0 := gr_1 s h (v : Int) (g := 0) (by decide)
  have n3 := gr_1 s h (v : Int) (g := 3) (by decide)
  have n4 := gr_1 s h (v : Int) (g := 4) (by decide)
  have n13 := gr_1 s h (v : Int) (g := 13) (by decide)
  have n14 := gr_1 s h (v : Int) (g := 14) (by decide)
  have n15 := gr_1 s h (v : Int) (g := 15) (by decide)
  have n16 := gr_1 s h (v : Int) (g := 16) (by decide)
  have n18 := gr_1 s h (v : Int) (g := 18) (by decide)
  have z0 := gr_2 s h (v : Int) (g := 0) (by decide)
  have z2 := gr_2 s h (v : Int) (g := 2) (by decide)
  have z3 := gr_2 s h (v : Int) (g := 3) (by decide)
  have z4 := gr_2 s h (v : Int) (g := 4) (by decide)
  have z5 := gr_2 s h (v : Int) (g := 5) (by decide)
  have z6 := gr_2 s h (v : Int) (g := 6) (by decide)
  have z7 := gr_2 s h (v : Int) (g := 7) (by decide)
  have hl' := gr_lo s h (v : Int)
  have hg' := gr_gr s h (v : Int)
  simp only [lo, gr] at hl' hg'
  simp only [IvH, isL, sz, tm, isH, fs, ls, sh, gr, cH, us, lo, tk, th, mv, hd, br, fl, n0, n3, n4, n13, n14, n15, n16, n18, z0, z2, z3, z4, z5, z6, z7] at HH h1 ⊢
  refine ⟨HH.1, HH.2.1, HH.2.2.1, HH.2.2.2.1, HH.2.2.2.2.1, fun g hg q => ?_, fun g hg => ?_, HH.2.2.2.2.2.2.2.1, HH.2.2.2.2.2.2.2.2.1, HH.2.2.2.2.2.2.2.2.2.1, HH.2.2.2.2.2.2.2.2.2.2.1, HH.2.2.2.2.2.2.2.2.2.2.2.1, HH.2.2.2.2.2.2.2.2.2.2.2.2.1, HH.2.2.2.2.2.2.2.2.2.2.2.2.2.1, HH.2.2.2.2.2.2.2.2.2.2.2.2.2.2.1, HH.2.2.2.2.2.2.2.2.2.2.2.2.2.2.2.1, HH.2.2.2.2.2.2.2.2.2.2.2.2.2.2.2.2.1, fun g hg q => ?_⟩
  · have a := HH.2.2.2.2.2.1 g hg q
    rw [hl', hg']
    by_cases n : g = h
    · rw [if_pos n, if_pos n]
      rw [n] at a
      omega
    · rw [if_neg n, if_neg n]; exact a
  · rw [hg']
    have a := HH.2.2.2.2.2.2.1
    by_cases n : g = h
    · rw [if_pos n]; have := a h (by omega); omega
    · rw [if_neg n]; have := a g hg; omega
  · have n : g ≠ h := fun e => by rw [e] at q; omega
    rw [hl', hg', if_neg n, if_neg n]
    exact HH.2.2.2.2.2.2.2.2.2.2.2.2.2.2.2.2.2 g hg q
theorem doe_4 (s : Sp) {e : Ev} (h : e 0 = 4) : doe s e = sprd (hmS s (e 1) (e 2) (e 3) (e 4) (e 5 : Int)) (e 1) (e 5 : Int) := by
  unfold doe
  rw [if_neg (by omega), if_neg (by omega), if_neg (by omega), if_neg (by omega), if_pos h]; rfl
theorem doe_5 (s : Sp) {e : Ev} (h : e 0 = 5) : doe s e = sprd (grS s (e 1) (e 2 : Int)) (e 1) (e 2 : Int) := by
  unfold doe
  rw [if_neg (by omega), if_neg (by omega), if_neg (by omega), if_neg (by omega), if_neg (by omega), if_pos h]; rfl
theorem doe_0 (s : Sp) {e : Ev} (h : e 0 = 0) : doe s e = ptL s (e 1) (e 2) (e 3) (e 4) (e 5) := by unfold doe; rw [if_pos h]
theorem doe_1 (s : Sp) {e : Ev} (h : e 0 = 1) : doe s e = uN' (uN' (uN' s 6 (4 * e 1 + ng s (e 1)) (e 2)) 7 (4 * e 1 + ng s (e 1)) (e 3)) 5 (e 1) (ng s (e 1) + 1) := by
  unfold doe; rw [if_neg (by omega), if_pos h]
theorem doe_2 (s : Sp) {e : Ev} (h : e 0 = 2) : doe s e = uN' s 11 0 (lk s ||| 2 ^ (e 1)) := by
  unfold doe; rw [if_neg (by omega), if_neg (by omega), if_pos h]
theorem doe_3 (s : Sp) {e : Ev} (h : e 0 = 3) : doe s e = uN' (uN' (uN' s 21 0 (e 1)) 21 1 (e 2)) 21 2 (e 3) := by
  unfold doe; rw [if_neg (by omega), if_neg (by omega), if_neg (by omega), if_pos h]
theorem doe_6 (s : Sp) {e : Ev} (h : e 0 = 6) : doe s e = uN' (uN' s 19 (e 1) 1) 20 (e 1) (e 2) := by
  unfold doe; rw [if_neg (by omega), if_neg (by omega), if_neg (by omega), if_neg (by omega), if_neg (by omega), if_neg (by omega), if_pos h]
theorem doe_7 (s : Sp) {e : Ev} (h : e 0 = 7) : doe s e = uN' (uN' s 19 (e 1) 2) 20 (e 1) 0 := by
  unfold doe; rw [if_neg (by omega), if_neg (by omega), if_neg (by omega), if_neg (by omega), if_neg (by omega), if_neg (by omega), if_neg (by omega), if_pos h]
theorem doe_8 (s : Sp) {e : Ev} (h : e 0 = 8) : doe s e = sprd (clrH s (e 1)) (e 1) (lo s (e 1)) := by
  unfold doe; rw [if_neg (by omega), if_neg (by omega), if_neg (by omega), if_neg (by omega), if_neg (by omega), if_neg (by omega), if_neg (by omega), if_neg (by omega)]
theorem can_0 {s : Sp} {e : Ev} (h : e 0 = 0) : can s e ↔ lkb s (e 2) = false ∧ hg s (e 2) < 6 ∧ fre s (e 2) (e 3) (e 4) := by unfold can; rw [if_pos h]
theorem can_1 {s : Sp} {e : Ev} (h : e 0 = 1) : can s e ↔ isL s (e 1) = 1 ∧ ng s (e 1) < 4 ∧ tnI s (e 1) (ng s (e 1)) + e 3 ≤ 10 ∧ us s (e 1) ≤ 0 ∧ ∀ k, k < ng s (e 1) → sg s (4 * e 1 + k) ≠ e 2 := by
  unfold can; rw [if_neg (by omega), if_pos h]
theorem can_2 {s : Sp} {e : Ev} (h : e 0 = 2) : can s e ↔ lkb s (e 1) = false ∧ hg s (e 1) = 0 := by
  unfold can; rw [if_neg (by omega), if_neg (by omega), if_pos h]
theorem can_5 {s : Sp} {e : Ev} (h : e 0 = 5 ∨ e 0 = 8) : can s e ↔ isH s (e 1) = 1 := by
  unfold can; rw [if_neg (by omega), if_neg (by omega), if_neg (by omega), if_pos h]
theorem can_6 {s : Sp} {e : Ev} (h : e 0 = 6 ∨ e 0 = 7) : can s e ↔ sd s (e 1) = 0 := by
  unfold can; rw [if_neg (by omega), if_neg (by omega), if_neg (by omega), if_neg (by omega), if_pos h]
theorem can_3 {s : Sp} {e : Ev} (h : e 0 = 3 ∨ e 0 = 4) : can s e ↔ True := by
  unfold can; rw [if_neg (by omega), if_neg (by omega), if_neg (by omega), if_neg (by omega), if_neg (by omega)]
theorem ev_cases {e : Ev} (E : EvOK e) : e 0 = 0 ∨ e 0 = 1 ∨ e 0 = 2 ∨ e 0 = 3 ∨ e 0 = 4 ∨ e 0 = 5 ∨ e 0 = 6 ∨ e 0 = 7 ∨ e 0 = 8 := by have := E.k; omega
theorem Iv_doe {N : Nat} {s : Sp} {e : Ev} (H : Iv N s) (E : EvOK e) (F : EvF s e) (C : can s e) : Iv (N + 1) (doe s e) := by
  rcases ev_cases E with h | h | h | h | h | h | h | h | h
  · have k := E.k0 h
    have c := (can_0 h).mp C
    rw [doe_0 s h]
    exact Iv_mo (Nat.le_succ N) (Iv_pt H k.1 k.2.1 k.2.2.1 ⟨k.2.2.2.1, k.2.2.2.2.1⟩ k.2.2.2.2.2 (F.1 h) c.1 c.2.1 c.2.2)
  · have k := E.k1 h
    have c := (can_1 h).mp C
    rw [doe_1 s h]
    exact Iv_mo (Nat.le_succ N) (Iv_sg H k.1 k.2.1 k.2.2.1 c.1 c.2.1 c.2.2.1 c.2.2.2.2)
  · have k := E.k2 h
    have c := (can_2 h).mp C
    rw [doe_2 s h]
    exact Iv_mo (Nat.le_succ N) (Iv_lk H k c.2)
  · have k := E.k3 h
    rw [doe_3 s h]
    exact Iv_mo (Nat.le_succ N) (Iv_ru H k.1 k.2.1 k.2.2)
  · have k := E.k4 h
    rw [doe_4 s h]
    exact Iv_mo (Nat.le_succ N) (Iv_sprd (Iv_hm H k.1 (F.2 h) k.2.1 k.2.2.1 k.2.2.2.1 k.2.2.2.2.1 k.2.2.2.2.2) k.1 (by rw [hm_is, if_pos rfl]) (by omega))
  · have k := E.k5 h
    have c := (can_5 (Or.inl h)).mp C
    rw [doe_5 s h]
    refine Iv_sprd (Iv_gr H k.1 c k.2.2) k.1 ?_ (by omega)
    show (grS s (e 1) (e 2 : Int)).1 13 (e 1) = 1
    rw [gr_1 s (e 1) _ (by decide)]; exact c
  · have k := E.k6 h
    rw [doe_6 s h]
    exact Iv_mo (Nat.le_succ N) (Iv_sd H k.1 (Or.inl rfl) k.2.2)
  · have k := E.k7 h
    rw [doe_7 s h]
    exact Iv_mo (Nat.le_succ N) (Iv_sd H k.1 (Or.inr rfl) (by decide))
  · have k := E.k8 h
    have c := (can_5 (Or.inr h)).mp C
    rw [doe_8 s h]
    have b := (IvH_lo H.H (show e 1 < 25 by omega) c).1
    exact Iv_mo (Nat.le_succ N) (Iv_sprd (Iv_clr H k) k c (by omega))
theorem go_y {s : Sp} {e : Ev} (C : can s e) : go s e = doe s e := by unfold go; rw [if_pos (canB_t.mpr C)]
theorem go_n {s : Sp} {e : Ev} (C : ¬ can s e) : go s e = s := by unfold go; rw [if_neg (fun z => C (canB_t.mp z))]
theorem Iv_go {N : Nat} {s : Sp} {e : Ev} (H : Iv N s) (E : EvOK e) (F : EvF s e) : Iv (N + 1) (go s e) := by
  by_cases C : can s e
  · rw [go_y C]; exact Iv_doe H E F C
  · rw [go_n C]; exact Iv_mo (Nat.le_succ N) H
theorem n01 : ¬ ((0 : Nat) = 1) := by decide
theorem Iv_0 : Iv 0 sp0 := by
  refine ⟨?_, ?_, ?_⟩
  · refine ⟨fun _ _ => Or.inl rfl, fun _ _ h => absurd h n01, fun _ _ h => absurd h n01, fun _ _ h => absurd h n01, fun _ _ h => absurd h n01, fun _ _ h => absurd h n01, fun _ _ h => absurd h n01, fun _ _ => Nat.zero_le _, fun _ _ _ => rfl, fun _ _ _ h => absurd h (Nat.not_lt_zero _), fun _ _ _ h => absurd h (Nat.not_lt_zero _), fun _ _ => show (0 : Nat) ≤ 10 from Nat.zero_le _, fun _ _ _ _ h => absurd h (Nat.not_lt_zero _), fun _ _ => Nat.zero_le _, fun _ _ _ h => absurd h (Nat.not_lt_zero _), fun _ _ _ h => absurd h (Nat.not_lt_zero _), fun _ _ _ h => absurd h (Nat.not_lt_zero _), fun _ _ _ h => absurd h (Nat.not_lt_zero _), fun _ _ h => absurd h (Nat.not_lt_zero _), fun _ _ _ h => absurd h (Nat.not_lt_zero _), by decide, fun _ _ _ => rfl, by decide⟩
  · refine ⟨fun _ _ => Or.inl rfl, rfl, fun _ _ h => absurd h n01, by decide, fun _ _ h => absurd h n01, fun _ _ h => absurd h n01, fun _ _ => Nat.zero_le _, fun _ _ _ _ => ⟨Int.le_refl _, show (0 : Int) ≤ 0 from Int.le_refl _⟩, fun _ _ _ _ _ => rfl, fun _ _ _ _ => ⟨Int.le_refl _, show (0 : Int) ≤ 900000000 by decide⟩, fun _ _ _ _ _ _ => ⟨Int.le_refl _, show (0 : Int) ≤ 0 from Int.le_refl _⟩, fun _ _ => (sm_z fun _ _ => rfl).symm, fun _ _ h => absurd h n01, fun _ _ _ _ _ => ⟨rfl, rfl, rfl⟩, fun _ _ _ _ _ => rfl, fun _ _ _ _ _ => rfl, fun _ _ _ _ _ => rfl, fun _ _ _ => ⟨rfl, rfl⟩⟩
  · exact ⟨fun _ _ => Nat.zero_le _, rfl, fun _ _ => Nat.zero_le _, fun _ _ _ => rfl, by decide, by decide, by decide⟩
