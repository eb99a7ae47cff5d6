/-! what comes of filling a year -/
theorem hL_nn (s : Sp) (h l : Nat) : 0 ≤ hL s h l := by unfold hL; omega
theorem Iv.T {N : Nat} {s : Sp} (H : Iv N s) : IvT s := H.1
theorem Iv.H {N : Nat} {s : Sp} (H : Iv N s) : IvH N s := H.2.1
theorem Iv.R {N : Nat} {s : Sp} (H : Iv N s) : IvR s := H.2.2
theorem cT_nn {N : Nat} {s : Sp} (H : Iv N s) {h l : Nat} (hh : h < 25) (hl : l < 40) (h1 : isL s l = 1) : 0 ≤ cT s h l := by
  have a := IvH_tk H.H hh hl
  have b := IvH_ul H.H hl h1
  unfold cT lf
  omega
theorem cT_tk {s : Sp} {h l : Nat} : cT s h l ≤ (sz s l : Int) - tk s (40 * h + l) := by unfold cT; omega
theorem cT_lf {s : Sp} {h l : Nat} : cT s h l ≤ lf s l := by unfold cT; omega
theorem hl_fr {s : Sp} (H : IvT s) {l : Nat} (hl' : l < 40) (h1 : isL s l = 1) : hl s l ≤ fr s l := by
  obtain ⟨k, hk, e⟩ := IvT_in H hl' h1
  have hy := IvT_yr H hl' h1
  cases k with
  | zero =>
    have := IvT_h0 H hy hk
    rw [Nat.add_zero] at e
    rw [e] at this; omega
  | succ k =>
    have := IvT_hk H hy hk
    rw [e] at this; omega
theorem hL_le {N : Nat} {s : Sp} (H : Iv N s) {h l : Nat} (hh : h < 25) (hl' : l < 40) (h1 : isL s l = 1) : hL s h l ≤ 900000000 := by
  have a := hl_fr H.T hl' h1
  have b := IvT_fr H.T hl' h1
  have c := IvH_th H.H hh hl'
  unfold hL; omega
theorem cT_le {N : Nat} {s : Sp} (H : Iv N s) {h l : Nat} (hh : h < 25) (hl' : l < 40) (h1 : isL s l = 1) : cT s h l ≤ 100000000 := by
  have a := IvH_tk H.H hh hl'
  have b := (IvT_sz H.T hl' h1).2
  have c := cT_tk (s := s) (h := h) (l := l)
  omega
def fH (s : Sp) (h y : Nat) (a : Int) (k : Nat) : Int := min (fil s h y a oc0 k).1 (hL s h (rg s (6 * y + k)))
def fT (s : Sp) (h y : Nat) (a : Int) (k : Nat) : Int := min ((fil s h y a oc0 k).1 - fH s h y a k) (cT s h (rg s (6 * y + k)))
theorem fil_O (s : Sp) (h y : Nat) (a : Int) (O : Oc) : ∀ k, (fil s h y a O k).1 = (fil s h y a oc0 k).1
  | 0 => rfl
  | k + 1 => by unfold fil; rw [fil_O s h y a O k]
theorem fil_1 (s : Sp) (h y : Nat) (a : Int) (O : Oc) (k : Nat) : (fil s h y a O (k + 1)).1 = (fil s h y a O k).1 - (fH s h y a k + fT s h y a k) := by
  unfold fT fH
  rw [← fil_O s h y a O k]; rfl
theorem fil_2 (s : Sp) (h y : Nat) (a : Int) (O : Oc) (k : Nat) : (fil s h y a O (k + 1)).2 = uO (uO (uO (fil s h y a O k).2 1 (rg s (6 * y + k)) (fH s h y a k)) 0 (rg s (6 * y + k)) (fT s h y a k)) 5 1 ((fil s h y a O k).2 5 1 + fH s h y a k) := by
  unfold fT fH
  rw [← fil_O s h y a O k]; rfl
theorem fil_b {N : Nat} {s : Sp} (H : Iv N s) {h y : Nat} (hh : h < 25) (hy : y < 12) {a : Int} (ha : 0 ≤ a) (O : Oc) : ∀ {k : Nat}, k ≤ hg s y → 0 ≤ (fil s h y a O k).1 ∧ (fil s h y a O k).1 ≤ a
  | 0, _ => ⟨ha, Int.le_refl _⟩
  | k + 1, hk => by
    have i := fil_b H hh hy ha O (k := k) (by omega)
    have c := cT_nn H hh (IvT_rg H.T hy (k := k) (by omega)) (IvT_ri H.T hy (by omega))
    have d := hL_nn s h (rg s (6 * y + k))
    rw [fil_1]
    unfold fT fH
    rw [fil_O s h y a O k] at i ⊢
    omega
theorem fHT {N : Nat} {s : Sp} (H : Iv N s) {h y : Nat} (hh : h < 25) (hy : y < 12) {a : Int} (ha : 0 ≤ a) {k : Nat} (hk : k < hg s y) :
    0 ≤ fH s h y a k ∧ fH s h y a k ≤ hL s h (rg s (6 * y + k)) ∧ fH s h y a k ≤ (fil s h y a oc0 k).1 ∧ 0 ≤ fT s h y a k ∧ fT s h y a k ≤ cT s h (rg s (6 * y + k)) ∧ fH s h y a k + fT s h y a k ≤ (fil s h y a oc0 k).1 := by
  have i := fil_b H hh hy ha oc0 (k := k) (by omega)
  have c := cT_nn H hh (IvT_rg H.T hy hk) (IvT_ri H.T hy hk)
  have d := hL_nn s h (rg s (6 * y + k))
  unfold fT fH
  omega
theorem fil_o (s : Sp) (h y : Nat) (a : Int) (O : Oc) {f j : Nat} (h5 : ¬ (f = 5 ∧ j = 1)) : ∀ {k : Nat}, (f = 0 ∨ f = 1 → ∀ i, i < k → j ≠ rg s (6 * y + i)) → (fil s h y a O k).2 f j = O f j
  | 0, _ => rfl
  | k + 1, hq => by
    have i := fil_o s h y a O h5 (k := k) (fun z i hi => hq z i (by omega))
    rw [fil_2, uO_1, if_neg h5, uO_1, if_neg (fun z => hq (Or.inl z.1) k (by omega) z.2), uO_1, if_neg (fun z => hq (Or.inr z.1) k (by omega) z.2), i]
theorem fil_t {s : Sp} (H : IvT s) (h : Nat) {y : Nat} (hy : y < 12) (a : Int) (O : Oc) {i : Nat} : ∀ {k : Nat}, i < k → k ≤ hg s y → (fil s h y a O k).2 0 (rg s (6 * y + i)) = fT s h y a i ∧ (fil s h y a O k).2 1 (rg s (6 * y + i)) = fH s h y a i
  | 0, hi, _ => by omega
  | k + 1, hi, hk => by
    by_cases e : i = k
    · subst e
      rw [fil_2, uO_1, if_neg (by omega), uO_1, if_pos ⟨rfl, rfl⟩, uO_1, if_neg (by omega), uO_1, if_neg (by omega), uO_1, if_pos ⟨rfl, rfl⟩]
      exact ⟨rfl, rfl⟩
    · have j := fil_t H h hy a O (i := i) (k := k) (by omega) (by omega)
      have n : ¬ rg s (6 * y + i) = rg s (6 * y + k) := fun z => e (rg_inj H hy (by omega) (by omega) z)
      rw [fil_2, uO_1, if_neg (by omega), uO_1, if_neg (fun z => n z.2), uO_1, if_neg (by omega), uO_1, if_neg (by omega), uO_1, if_neg (by omega), uO_1, if_neg (fun z => n z.2)]
      exact j
/-- bounds of what comes of an amount -/
def OB (s : Sp) (h : Nat) (O : Oc) : Prop := ∀ l, l < 40 → (isL s l = 1 → 0 ≤ O 0 l ∧ O 0 l ≤ cT s h l ∧ 0 ≤ O 1 l ∧ O 1 l ≤ hL s h l) ∧ (isL s l = 0 → O 0 l = 0 ∧ O 1 l = 0)
/-- nothing was filled into a year yet -/
def OZ (s : Sp) (O : Oc) (y : Nat) : Prop := ∀ k, k < hg s y → O 0 (rg s (6 * y + k)) = 0 ∧ O 1 (rg s (6 * y + k)) = 0
theorem OB_oc0 {N : Nat} {s : Sp} (H : Iv N s) {h : Nat} (hh : h < 25) : OB s h oc0 := fun l hl => ⟨fun h1 => ⟨Int.le_refl _, cT_nn H hh hl h1, Int.le_refl _, hL_nn s h l⟩, fun _ => ⟨rfl, rfl⟩⟩
theorem OZ_oc0 (s : Sp) (y : Nat) : OZ s oc0 y := fun _ _ => ⟨rfl, rfl⟩
theorem OB_up {s : Sp} {h : Nat} {O : Oc} (B : OB s h O) {f j : Nat} {v : Int} (hf : 2 ≤ f) : OB s h (uO O f j v) := fun l hl => by
  have e0 : uO O f j v 0 l = O 0 l := by rw [uO_1, if_neg (by omega)]
  have e1 : uO O f j v 1 l = O 1 l := by rw [uO_1, if_neg (by omega)]
  rw [e0, e1]; exact B l hl
theorem OZ_up {s : Sp} {y : Nat} {O : Oc} (B : OZ s O y) {f j : Nat} {v : Int} (hf : 2 ≤ f) : OZ s (uO O f j v) y := fun k hk => by
  rw [uO_1, if_neg (by omega), uO_1, if_neg (by omega)]; exact B k hk
theorem OB_fil {N : Nat} {s : Sp} (H : Iv N s) {h y : Nat} (hh : h < 25) (hy : y < 12) {a : Int} (ha : 0 ≤ a) {O : Oc} (B : OB s h O) {k : Nat} (hk : k ≤ hg s y) : OB s h (fil s h y a O k).2 := by
  intro l hl
  by_cases e : ∃ i, i < k ∧ l = rg s (6 * y + i)
  · obtain ⟨i, hi, rfl⟩ := e
    have q := fil_t H.T h hy a O hi hk
    have b := fHT H hh hy ha (k := i) (by omega)
    rw [q.1, q.2]
    refine ⟨fun _ => ⟨b.2.2.2.1, b.2.2.2.2.1, b.1, b.2.1⟩, fun z => ?_⟩
    have := IvT_ri H.T hy (k := i) (by omega)
    omega
  · have n : ∀ i, i < k → l ≠ rg s (6 * y + i) := fun i hi z => e ⟨i, hi, z⟩
    rw [fil_o s h y a O (by omega) (fun _ => n), fil_o s h y a O (by omega) (fun _ => n)]
    exact B l hl
theorem OZ_fil {s : Sp} (H : IvT s) {h y z : Nat} (hy : y < 12) (hz : z < 12) (hq : z ≠ y) (a : Int) {O : Oc} (B : OZ s O z) {k : Nat} (hk : k ≤ hg s y) : OZ s (fil s h y a O k).2 z := by
  intro i hi
  have n : ∀ j, j < k → rg s (6 * z + i) ≠ rg s (6 * y + j) := fun j hj e => hq (rg_yr H hz hy hi (by omega) e)
  rw [fil_o s h y a O (by omega) (fun _ => n), fil_o s h y a O (by omega) (fun _ => n)]
  exact B i hi
theorem fil_stop {N : Nat} {s : Sp} (H : Iv N s) {h y : Nat} (hh : h < 25) (hy : y < 12) {a : Int} (ha : 0 ≤ a) {O : Oc} (B : OZ s O y) {k : Nat} (h0 : (fil s h y a O k).1 = 0) : ∀ {m : Nat}, k ≤ m → m ≤ hg s y → (fil s h y a O m).1 = 0 ∧ ∀ f j, (fil s h y a O m).2 f j = (fil s h y a O k).2 f j
  | 0, hm, _ => by
    have : k = 0 := by omega
    subst this; exact ⟨h0, fun _ _ => rfl⟩
  | m + 1, hm, hh' => by
    by_cases e : k = m + 1
    · subst e; exact ⟨h0, fun _ _ => rfl⟩
    · have i := fil_stop H hh hy ha B h0 (m := m) (by omega) (by omega)
      have b := fHT H hh hy ha (k := m) (by omega)
      have z := fil_O s h y a O m
      rw [i.1] at z
      have zH : fH s h y a m = 0 := by omega
      have zT : fT s h y a m = 0 := by omega
      refine ⟨by rw [fil_1, i.1, zH, zT]; rfl, fun f j => ?_⟩
      rw [fil_2, zH, zT, ← i.2 f j, uO_1]
      by_cases h5 : f = 5 ∧ j = 1
      · rw [if_pos h5, h5.1, h5.2]; omega
      · rw [if_neg h5, uO_1]
        by_cases q0 : f = 0 ∧ j = rg s (6 * y + m)
        · rw [if_pos q0, q0.1, q0.2, fil_o s h y a O (by omega) (fun _ i hi e => by have := rg_inj H.T hy (by omega) (by omega) e; omega)]
          exact (B m (by omega)).1.symm
        · rw [if_neg q0, uO_1]
          by_cases q1 : f = 1 ∧ j = rg s (6 * y + m)
          · rw [if_pos q1, q1.1, q1.2, fil_o s h y a O (by omega) (fun _ i hi e => by have := rg_inj H.T hy (by omega) (by omega) e; omega)]
            exact (B m (by omega)).2.symm
          · rw [if_neg q1]
/-- by parts: bounds -/
theorem pw_b {N : Nat} {s : Sp} (H : Iv N s) {h : Nat} (hh : h < 25) {p : Nat → Int} (hp : ∀ y, y < 12 → 0 ≤ p y) : ∀ {y : Nat}, y ≤ 12 → OB s h (pw s h p y) ∧ ∀ z, y ≤ z → z < 12 → OZ s (pw s h p y) z
  | 0, _ => ⟨OB_oc0 H hh, fun z _ _ => OZ_oc0 s z⟩
  | y + 1, hy => by
    obtain ⟨i1, i2⟩ := pw_b H hh hp (y := y) (by omega)
    unfold pw
    by_cases e : hg s y = 0
    · rw [if_pos e]
      exact ⟨OB_up i1 (by decide), fun z h1 h2 => OZ_up (i2 z (by omega) h2) (by decide)⟩
    · rw [if_neg e]
      exact ⟨OB_up (OB_fil H hh (by omega) (hp y (by omega)) i1 (Nat.le_refl _)) (by decide), fun z h1 h2 => OZ_up (OZ_fil H.T (by omega) h2 (by omega) _ (i2 z (by omega) h2) (Nat.le_refl _)) (by decide)⟩
theorem pl_b {N : Nat} {s : Sp} (H : Iv N s) {h : Nat} (hh : h < 25) {off : Nat → Bool} {p : Nat → Int} (hp : ∀ y, y < 12 → opn s off y = true → 0 ≤ p y) : ∀ {y : Nat}, y ≤ 12 → OB s h (pl s h off p y) ∧ ∀ z, y ≤ z → z < 12 → OZ s (pl s h off p y) z
  | 0, _ => ⟨OB_oc0 H hh, fun z _ _ => OZ_oc0 s z⟩
  | y + 1, hy => by
    obtain ⟨i1, i2⟩ := pl_b H hh hp (y := y) (by omega)
    unfold pl
    by_cases e : opn s off y = true
    · rw [if_pos e]
      exact ⟨OB_fil H hh (by omega) (hp y (by omega) e) i1 (Nat.le_refl _), fun z h1 h2 => OZ_fil H.T (by omega) h2 (by omega) _ (i2 z (by omega) h2) (Nat.le_refl _)⟩
    · rw [if_neg e]
      exact ⟨i1, fun z h1 h2 => i2 z (by omega) h2⟩
theorem pf_b {N : Nat} {s : Sp} (H : Iv N s) {h : Nat} (hh : h < 25) {o : Nat → Nat} {n : Nat} (ho : ∀ k, k < n → o k < 12) (hi : ∀ i j, i < n → j < n → o i = o j → i = j) {a : Int} (ha : 0 ≤ a) : ∀ {k : Nat}, k ≤ n → OB s h (pf s h o a k).2 ∧ (∀ j, k ≤ j → j < n → OZ s (pf s h o a k).2 (o j)) ∧ 0 ≤ (pf s h o a k).1 ∧ (pf s h o a k).1 ≤ a
  | 0, _ => ⟨OB_oc0 H hh, fun _ _ _ => OZ_oc0 s _, ha, Int.le_refl _⟩
  | k + 1, hk => by
    obtain ⟨i1, i2, i3, i4⟩ := pf_b H hh ho hi ha (k := k) (by omega)
    unfold pf
    have b := fil_b H hh (ho k (by omega)) i3 (pf s h o a k).2 (Nat.le_refl (hg s (o k)))
    exact ⟨OB_fil H hh (ho k (by omega)) i3 i1 (Nat.le_refl _), fun j h1 h2 => OZ_fil H.T (ho k (by omega)) (ho j h2) (fun e => by have := hi j k h2 (by omega) e; omega) _ (i2 j (by omega) h2) (Nat.le_refl _), b.1, by omega⟩
theorem OB_c {s : Sp} {h : Nat} {O P : Oc} (B : OB s h O) (e : ∀ f j, f ≤ 1 → P f j = O f j) : OB s h P := fun l hl => by
  rw [e 0 l (by decide), e 1 l (by decide)]; exact B l hl
/-- weights -/
theorem wA_nn (s : Sp) (off : Nat → Bool) (y : Nat) : 0 ≤ wA s off y ∧ wA s off y ≤ 1 := by unfold wA; split <;> omega
theorem szS_b {s : Sp} (H : IvT s) {y : Nat} (hy : y < 12) : 0 ≤ szS s y ∧ szS s y ≤ 600000000 ∧ (0 < hg s y → 0 < szS s y) := by
  have h6 := IvT_hg H hy
  have u : szS s y ≤ 100000000 * (hg s y : Int) := by
    rw [← sm_c]
    exact sm_le fun k hk => by
      have := (IvT_sz H (IvT_rg H hy hk) (IvT_ri H hy hk)).2
      omega
  have d : (hg s y : Int) ≤ szS s y := by
    have := sm_c 1 (hg s y)
    rw [Int.one_mul] at this
    rw [← this]
    exact sm_le fun k hk => by
      have := (IvT_sz H (IvT_rg H hy hk) (IvT_ri H hy hk)).1
      omega
  omega
theorem opC_s (s : Sp) (off : Nat → Bool) (n : Nat) : opC s off (n + 1) = opC s off n + (if opn s off n then 1 else 0) := rfl
theorem opC_le (s : Sp) (off : Nat → Bool) : ∀ n, opC s off n ≤ n
  | 0 => Nat.le_refl _
  | n + 1 => by have := opC_le s off n; rw [opC_s]; split <;> omega
theorem opC_mo (s : Sp) (off : Nat → Bool) {m : Nat} : ∀ {n : Nat}, m ≤ n → opC s off m ≤ opC s off n
  | 0, h => by rw [Nat.le_zero.mp h]; exact Nat.le_refl _
  | n + 1, h => by
    by_cases e : m = n + 1
    · subst e; exact Nat.le_refl _
    · have := opC_mo s off (m := m) (n := n) (by omega)
      rw [opC_s]; split <;> omega
theorem szT_b {s : Sp} (H : IvT s) (off : Nat → Bool) : ∀ {n : Nat}, n ≤ 12 → 0 ≤ szT s off n ∧ szT s off n ≤ 600000000 * (opC s off n : Int) ∧ (opC s off n : Int) ≤ szT s off n
  | 0, _ => by unfold szT opC sm; omega
  | n + 1, h => by
    have i := szT_b H off (n := n) (by omega)
    have b := szS_b H (y := n) (by omega)
    have e : szT s off (n + 1) = szT s off n + (if opn s off n then szS s n else 0) := rfl
    rw [e, opC_s]
    by_cases q : opn s off n = true
    · have hq : 0 < hg s n := by
        unfold opn at q
        simp at q
        omega
      have := b.2.2 hq
      rw [if_pos q, if_pos q]; omega
    · rw [if_neg q, if_neg q]; omega
theorem wS_b {s : Sp} (H : IvT s) (off : Nat → Bool) {y : Nat} (hy : y < 12) : 0 ≤ wS s off y ∧ wS s off y ≤ 600000000 := by
  unfold wS
  have b := szS_b H hy
  have t := szT_b H off (n := 12) (Nat.le_refl _)
  split
  · split
    · omega
    · split
      · rename_i hc _
        have hp : (0 : Int) < (opC s off 12 : Int) := by omega
        refine ⟨Int.ediv_nonneg t.1 (by omega), ?_⟩
        exact Int.ediv_le_of_le_mul hp (by omega)
      · omega
  · omega
/-- contribution -/
theorem exc_nn (A B : Nat → Int) (l : Nat) : 0 ≤ exc A B l := by unfold exc; omega
theorem mvd_b (A B : Nat → Int) : 0 ≤ mvd A B ∧ mvd A B ≤ sm (exc A B) 40 ∧ mvd A B ≤ sm (exc B A) 40 := by
  have h1 := sm_nn (f := exc A B) (n := 40) fun i _ => exc_nn A B i
  have h2 := sm_nn (f := exc B A) (n := 40) fun i _ => exc_nn B A i
  unfold mvd; omega
theorem gg_b (A B : Nat → Int) {l : Nat} (hl : l < 40) : 0 ≤ gts A B l ∧ gts A B l ≤ exc A B l ∧ 0 ≤ gvs A B l ∧ gvs A B l ≤ exc B A l := by
  have m := mvd_b A B
  exact ⟨sh_nn (exc_nn A B l) m.1, sh_w (fun k _ => exc_nn A B k) hl m.1 m.2.1, sh_nn (exc_nn B A l) m.1, sh_w (fun k _ => exc_nn B A k) hl m.1 m.2.2⟩
theorem ctr_OB {s : Sp} {h : Nat} {O P : Oc} (B : OB s h O) (C : OB s h P) : OB s h (ctr O (P 0)) := by
  intro l hl
  have e0 : ctr O (P 0) 0 l = O 0 l + (gvs (O 0) (P 0) l - gts (O 0) (P 0) l) := by unfold ctr; rw [if_pos ⟨rfl, hl⟩]
  have e1 : ctr O (P 0) 1 l = O 1 l := by unfold ctr; rw [if_neg (by omega), if_neg (by omega)]
  have g := gg_b (O 0) (P 0) hl
  have b := B l hl
  have c := C l hl
  rw [e0, e1]
  unfold exc at g
  constructor
  · intro h1
    have b1 := b.1 h1
    have c1 := c.1 h1
    omega
  · intro h1
    have b1 := b.2 h1
    have c1 := c.2 h1
    omega
