/-! the order of years; the level; tenths -/
def lx (K : Nat → Int) (o y : Nat) : Prop := K o < K y ∨ K o = K y ∧ o < y
theorem lx_tr {K : Nat → Int} {a b c : Nat} (h : lx K a b) (k : lx K b c) : lx K a c := by unfold lx at *; omega
theorem lx_ir {K : Nat → Int} {a : Nat} : ¬ lx K a a := by unfold lx; omega
def enO (s : Sp) (off : Nat → Bool) : Nat → Nat → Nat
  | 0, _ => 0
  | n + 1, i => if opn s off n = true ∧ i = opC s off n then n else enO s off n i
theorem enO_b (s : Sp) (off : Nat → Bool) : ∀ (n : Nat), (∀ i, i < opC s off n → enO s off n i < n ∧ opn s off (enO s off n i) = true) ∧ (∀ i j, i < j → j < opC s off n → enO s off n i < enO s off n j) ∧ (∀ y, y < n → opn s off y = true → ∃ i, i < opC s off n ∧ enO s off n i = y)
  | 0 => ⟨fun i h => absurd h (Nat.not_lt_zero i), fun i j _ h => absurd h (Nat.not_lt_zero j), fun y h => absurd h (Nat.not_lt_zero y)⟩
  | n + 1 => by
    obtain ⟨h1, h2, h3⟩ := enO_b s off n
    rw [opC_s]
    by_cases q : opn s off n = true
    · rw [if_pos q]
      refine ⟨fun i hi => ?_, fun i j hij hj => ?_, fun y hy hq => ?_⟩
      · by_cases e : i = opC s off n
        · rw [enO, if_pos ⟨q, e⟩]; exact ⟨by omega, q⟩
        · rw [enO, if_neg (fun z => e z.2)]
          have := h1 i (by omega)
          exact ⟨by omega, this.2⟩
      · rw [enO, if_neg (fun z => by omega)]
        by_cases e : j = opC s off n
        · rw [enO, if_pos ⟨q, e⟩]; exact (h1 i (by omega)).1
        · rw [enO, if_neg (fun z => e z.2)]; exact h2 i j hij (by omega)
      · by_cases e : y = n
        · exact ⟨opC s off n, by omega, by rw [enO, if_pos ⟨q, rfl⟩, e]⟩
        · obtain ⟨i, hi, he⟩ := h3 y (by omega) hq
          exact ⟨i, by omega, by rw [enO, if_neg (fun z => by omega), he]⟩
    · rw [if_neg q, Nat.add_zero]
      refine ⟨fun i hi => ?_, fun i j hij hj => ?_, fun y hy hq => ?_⟩
      · rw [enO, if_neg (fun z => q z.1)]
        have := h1 i hi
        exact ⟨by omega, this.2⟩
      · rw [enO, if_neg (fun z => q z.1), enO, if_neg (fun z => q z.1)]; exact h2 i j hij hj
      · have e : y ≠ n := fun z => q (z ▸ hq)
        obtain ⟨i, hi, he⟩ := h3 y (by omega) hq
        exact ⟨i, hi, by rw [enO, if_neg (fun z => q z.1), he]⟩
def insQ (K : Nat → Int) (o : Nat → Nat) (v : Nat) : Nat → Nat
  | 0 => 0
  | k + 1 => if K v < K (o k) then insQ K o v k else k + 1
def insA (o : Nat → Nat) (v p c k : Nat) : Nat := if k < p then o k else if k = p then v else if k ≤ c then o (k - 1) else o k
def srt (K : Nat → Int) (e : Nat → Nat) : Nat → Nat → Nat
  | 0 => e
  | i + 1 => insA (srt K e i) (e i) (insQ K (srt K e i) (e i) i) i
theorem insQ_b (K : Nat → Int) (o : Nat → Nat) (v : Nat) : ∀ c, insQ K o v c ≤ c ∧ (∀ k, insQ K o v c ≤ k → k < c → K v < K (o k)) ∧ (0 < insQ K o v c → K (o (insQ K o v c - 1)) ≤ K v)
  | 0 => ⟨Nat.le_refl _, fun k _ h => absurd h (Nat.not_lt_zero k), fun h => absurd h (Nat.not_lt_zero _)⟩
  | c + 1 => by
    obtain ⟨h1, h2, h3⟩ := insQ_b K o v c
    unfold insQ
    by_cases q : K v < K (o c)
    · rw [if_pos q]
      refine ⟨by omega, fun k hk hc => ?_, h3⟩
      by_cases e : k = c
      · rw [e]; exact q
      · exact h2 k hk (by omega)
    · rw [if_neg q]
      exact ⟨Nat.le_refl _, fun k h1 h2 => by omega, fun _ => by rw [Nat.add_sub_cancel]; omega⟩
theorem srt_b (K : Nat → Int) {e : Nat → Nat} {n : Nat} (he : ∀ i j, i < j → j < n → e i < e j) : ∀ {i : Nat}, i ≤ n → (∀ k, i ≤ k → srt K e i k = e k) ∧ (∀ k, k < i → ∃ j, j < i ∧ srt K e i k = e j) ∧ (∀ j, j < i → ∃ k, k < i ∧ srt K e i k = e j) ∧ (∀ k m, k < m → m < i → lx K (srt K e i k) (srt K e i m))
  | 0, _ => ⟨fun _ _ => rfl, fun k h => absurd h (Nat.not_lt_zero k), fun k h => absurd h (Nat.not_lt_zero k), fun k m _ h => absurd h (Nat.not_lt_zero m)⟩
  | i + 1, hn => by
    obtain ⟨h1, h2, h3, h4⟩ := srt_b K he (i := i) (by omega)
    obtain ⟨q1, q2, q3⟩ := insQ_b K (srt K e i) (e i) i
    unfold srt
    generalize hp : insQ K (srt K e i) (e i) i = p at q1 q2 q3
    have low : ∀ k, k < p → lx K (srt K e i k) (e i) := fun k hk => by
      have hv : srt K e i k < e i := by
        obtain ⟨j, hj, ej⟩ := h2 k (by omega)
        rw [ej]; exact he j i hj (by omega)
      have hle := q3 (by omega)
      by_cases ek : k = p - 1
      · rw [← ek] at hle; unfold lx; omega
      · have := h4 k (p - 1) (by omega) (by omega)
        unfold lx at this ⊢; omega
    have hig : ∀ k, p ≤ k → k < i → lx K (e i) (srt K e i k) := fun k hk hi => Or.inl (q2 k hk hi)
    refine ⟨fun k hk => ?_, fun k hk => ?_, fun j hj => ?_, fun k m hkm hm => ?_⟩
    · unfold insA
      rw [if_neg (by omega), if_neg (by omega), if_neg (by omega)]; exact h1 k (by omega)
    · unfold insA
      by_cases a : k < p
      · rw [if_pos a]
        obtain ⟨j, hj, ej⟩ := h2 k (by omega)
        exact ⟨j, by omega, ej⟩
      · rw [if_neg a]
        by_cases b : k = p
        · rw [if_pos b]; exact ⟨i, by omega, rfl⟩
        · rw [if_neg b, if_pos (by omega)]
          obtain ⟨j, hj, ej⟩ := h2 (k - 1) (by omega)
          exact ⟨j, by omega, ej⟩
    · by_cases a : j = i
      · exact ⟨p, by omega, by unfold insA; rw [if_neg (by omega), if_pos rfl, a]⟩
      · obtain ⟨k, hk, ek⟩ := h3 j (by omega)
        by_cases b : k < p
        · exact ⟨k, by omega, by unfold insA; rw [if_pos b, ek]⟩
        · exact ⟨k + 1, by omega, by unfold insA; rw [if_neg (by omega), if_neg (by omega), if_pos (by omega), Nat.add_sub_cancel, ek]⟩
    · unfold insA
      by_cases a : k < p
      · rw [if_pos a]
        by_cases b : m < p
        · rw [if_pos b]; exact h4 k m hkm (by omega)
        · rw [if_neg b]
          by_cases c : m = p
          · rw [if_pos c]; exact low k a
          · rw [if_neg c, if_pos (by omega)]
            exact h4 k (m - 1) (by omega) (by omega)
      · rw [if_neg a]
        by_cases b : k = p
        · rw [if_pos b, if_neg (by omega), if_neg (by omega), if_pos (by omega)]
          exact hig (m - 1) (by omega) (by omega)
        · rw [if_neg b, if_pos (by omega), if_neg (by omega), if_neg (by omega), if_pos (by omega)]
          exact h4 (k - 1) (m - 1) (by omega) (by omega)
/-- the order that insertion finds -/
def oI (s : Sp) (h : Nat) (off : Nat → Bool) : Nat → Nat := srt (kyY s h) (enO s off 12) (opC s off 12)
theorem oI_b (s : Sp) (h : Nat) (off : Nat → Bool) : (∀ k, k < opC s off 12 → oI s h off k < 12 ∧ opn s off (oI s h off k) = true) ∧ (∀ y, y < 12 → opn s off y = true → ∃ k, k < opC s off 12 ∧ oI s h off k = y) ∧ (∀ k m, k < m → m < opC s off 12 → lx (kyY s h) (oI s h off k) (oI s h off m)) := by
  obtain ⟨e1, e2, e3⟩ := enO_b s off 12
  obtain ⟨-, h2, h3, h4⟩ := srt_b (kyY s h) (e := enO s off 12) (n := opC s off 12) e2 (Nat.le_refl _)
  refine ⟨fun k hk => ?_, fun y hy hq => ?_, h4⟩
  · obtain ⟨j, hj, ej⟩ := h2 k hk
    show srt _ _ _ k < 12 ∧ opn s off (srt _ _ _ k) = true
    rw [ej]; exact e1 j hj
  · obtain ⟨i, hi, ei⟩ := e3 y hy hq
    obtain ⟨k, hk, ek⟩ := h3 i hi
    exact ⟨k, hk, ek.trans ei⟩
theorem oI_inj {s : Sp} {h : Nat} {off : Nat → Bool} {i j : Nat} (hi : i < opC s off 12) (hj : j < opC s off 12) (e : oI s h off i = oI s h off j) : i = j := by
  have q := (oI_b s h off).2.2
  rcases Nat.lt_trichotomy i j with g | g | g
  · have := q i j g hj; rw [e] at this; exact absurd this lx_ir
  · exact g
  · have := q j i g hi; rw [e] at this; exact absurd this lx_ir
theorem bef_i {s : Sp} {h : Nat} {off : Nat → Bool} {o y : Nat} : bef s h off o y = true ↔ opn s off o = true ∧ o ≠ y ∧ lx (kyY s h) o y := by
  unfold bef lx; rw [Bool.and_eq_true, decide_eq_true_iff]
theorem ahd_sm (s : Sp) (h : Nat) (off : Nat → Bool) (y : Nat) : ∀ n, (ahd s h off y n : Int) = sm (fun o => if bef s h off o y = true then 1 else 0) n
  | 0 => rfl
  | n + 1 => by
    have e : ahd s h off y (n + 1) = ahd s h off y n + (if bef s h off n y then 1 else 0) := rfl
    rw [sm_s, ← ahd_sm s h off y n, e]
    split <;> simp
theorem cnt_lt {k : Nat} : ∀ n, k ≤ n → sm (fun j => if j < k then 1 else 0) n = (k : Int)
  | 0, h => by rw [Nat.le_zero.mp h]; rfl
  | n + 1, h => by
    by_cases e : k = n + 1
    · rw [e, sm_congr (g := fun _ => 1) (fun i hi => if_pos hi), sm_c]; omega
    · rw [sm_s, cnt_lt n (by omega), if_neg (by omega)]; omega
theorem ahd_oI {s : Sp} {h : Nat} {off : Nat → Bool} {k : Nat} (hk : k < opC s off 12) : ahd s h off (oI s h off k) 12 = k := by
  obtain ⟨b1, b2, b3⟩ := oI_b s h off
  have a := ahd_sm s h off (oI s h off k) 12
  rw [sm_perm (fun o => if bef s h off o (oI s h off k) = true then 1 else 0) (oI s h off) 12 (opC s off 12) (fun j hj => (b1 j hj).1) (fun i j hi hj e => oI_inj hi hj e) _ (fun _ _ => rfl), sm_congr (g := fun j => if j < k then 1 else 0), cnt_lt _ (by omega)] at a
  · omega
  · intro j hj
    show (if bef s h off (oI s h off j) (oI s h off k) = true then (1 : Int) else 0) = if j < k then 1 else 0
    by_cases q : j < k
    · rw [if_pos q, if_pos (bef_i.mpr ⟨(b1 j hj).2, fun e => by have := oI_inj hj hk e; omega, b3 j k q hk⟩)]
    · rw [if_neg q, if_neg]
      intro z
      have z2 := (bef_i.mp z).2
      by_cases e : j = k
      · exact z2.1 (by rw [e])
      · exact lx_ir (lx_tr z2.2 (b3 k j (by omega) hj))
  · intro y hy hn
    refine if_neg fun z => ?_
    obtain ⟨k2, hk2, e2⟩ := b2 y hy (bef_i.mp z).1
    exact hn k2 hk2 e2
theorem od_uq {s : Sp} {h : Nat} {off : Nat → Bool} {y k : Nat} (hy : y < 12) (hq : opn s off y = true) (ha : ahd s h off y 12 = k) : k < opC s off 12 ∧ y = oI s h off k := by
  obtain ⟨j, hj, e⟩ := (oI_b s h off).2.1 y hy hq
  have := ahd_oI (h := h) hj
  rw [e, ha] at this
  subst this
  exact ⟨hj, e.symm⟩
theorem od_e {s : Sp} {h : Nat} {off : Nat → Bool} {k : Nat} (hk : k < opC s off 12) : odY s h off k = oI s h off k := by
  have b := (oI_b s h off).1 k hk
  have ex : ∃ y, y < 12 ∧ opn s off y = true ∧ ahd s h off y 12 = k := ⟨oI s h off k, b.1, b.2, ahd_oI hk⟩
  have sp := Classical.epsilon_spec ex
  unfold odY
  rw [if_pos hk]
  exact (od_uq sp.1 sp.2.1 sp.2.2).2
theorem pf_c {s : Sp} {h : Nat} {o p : Nat → Nat} {a : Int} : ∀ {k : Nat}, (∀ i, i < k → o i = p i) → pf s h o a k = pf s h p a k
  | 0, _ => rfl
  | k + 1, e => by
    unfold pf
    rw [pf_c (fun i hi => e i (by omega)), e k (by omega)]
theorem pf_oI (s : Sp) (h : Nat) (off : Nat → Bool) (a : Int) {k : Nat} (hk : k ≤ opC s off 12) : pf s h (odY s h off) a k = pf s h (oI s h off) a k := pf_c fun _ hi => od_e (by omega)
/-- level with level -/
theorem lev_mo (r : Nat → Int) {L M : Int} (h : L ≤ M) : lev r L ≤ lev r M := sm_le fun y _ => by omega
theorem lvl_e {r : Nat → Int} {a L : Int} (h : isV r a L) : lvl r a = L := by
  have sp : isV r a (lvl r a) := Classical.epsilon_spec ⟨L, h⟩
  rcases Int.lt_trichotomy (lvl r a) L with g | g | g
  · have := sp.2.2.2 L g h.2.1; have := h.2.2.1; omega
  · exact g
  · have := h.2.2.2 _ g sp.2.1; have := sp.2.2.1; omega
/-- by bits -/
def BI (r : Nat → Int) (a : Int) (b : Nat) (L : Int) : Prop := 0 ≤ L ∧ L ≤ 2000000000 ∧ lev r L ≤ a ∧ ∀ M, L + 2 ^ b ≤ M → M ≤ 2000000000 → a < lev r M
theorem BI_0 {r : Nat → Int} {a : Int} (hr : lev r 0 ≤ a) : BI r a 31 0 := ⟨by decide, by decide, hr, fun M h1 h2 => by
  have : (2 : Int) ^ 31 = 2147483648 := rfl
  omega⟩
theorem BI_y {r : Nat → Int} {a L : Int} {b : Nat} (B : BI r a (b + 1) L) (h1 : L + 2 ^ b ≤ 2000000000) (h2 : lev r (L + 2 ^ b) ≤ a) : BI r a b (L + 2 ^ b) := by
  have p : (0 : Int) < 2 ^ b := Int.pow_pos (by decide)
  have e : (2 : Int) ^ (b + 1) = 2 ^ b + 2 ^ b := by rw [Int.pow_succ]; omega
  exact ⟨by have := B.1; omega, h1, h2, fun M h3 h4 => B.2.2.2 M (by rw [e]; omega) h4⟩
theorem BI_n {r : Nat → Int} {a L : Int} {b : Nat} (B : BI r a (b + 1) L) (h : 2000000000 < L + 2 ^ b ∨ a < lev r (L + 2 ^ b)) : BI r a b L :=
  ⟨B.1, B.2.1, B.2.2.1, fun M h3 h4 => by
    rcases h with h | h
    · omega
    · have := lev_mo r h3; omega⟩
theorem BI_e {r : Nat → Int} {a L : Int} (B : BI r a 0 L) : lvl r a = L := lvl_e ⟨B.1, B.2.1, B.2.2.1, fun M h1 h2 => B.2.2.2 M (by
  have : (2 : Int) ^ 0 = 1 := rfl
  omega) h2⟩
theorem mor_s (r : Nat → Int) (L : Int) (n : Nat) : mor r L (n + 1) = mor r L n + (if L < r n then 1 else 0) := rfl
theorem mor_b (r : Nat → Int) (L : Int) : ∀ n : Nat, 0 ≤ mor r L n ∧ mor r L n ≤ n
  | 0 => ⟨Int.le_refl _, Int.le_refl _⟩
  | n + 1 => by
    have := mor_b r L n
    rw [mor_s]; split <;> omega
/-- tenths -/
theorem tnI_S (s : Sp) (l : Nat) : ∀ n, (tnI s l n : Int) = tnS s l n
  | 0 => rfl
  | n + 1 => by
    have := tnI_S s l n
    have e : tnI s l (n + 1) = tnI s l n + tn s (4 * l + n) := rfl
    have e2 : tnS s l (n + 1) = tnS s l n + (tn s (4 * l + n) : Int) := rfl
    omega
theorem tnI_mo (s : Sp) (l : Nat) {m : Nat} : ∀ {n : Nat}, m ≤ n → tnI s l m ≤ tnI s l n
  | 0, h => by rw [Nat.le_zero.mp h]; exact Nat.le_refl _
  | n + 1, h => by
    by_cases e : m = n + 1
    · subst e; exact Nat.le_refl _
    · have := tnI_mo s l (m := m) (n := n) (by omega)
      show tnI s l m ≤ tnI s l n + tn s (4 * l + n)
      omega
theorem tn_le {s : Sp} (H : IvT s) {l k : Nat} (hl : l < 40) (hk : k < ng s l) : tn s (4 * l + k) ≤ 10 := by
  have a := IvT_tt H hl
  have b := tnI_mo s l (m := k + 1) (n := ng s l) (by omega)
  have c : tnI s l (k + 1) = tnI s l k + tn s (4 * l + k) := rfl
  omega
theorem ten_sm (s : Sp) (O : Oc) (l : Nat) : ∀ n, sm (ten s O l) n ≤ O 0 l * tnS s l n / 10
  | 0 => by simp [sm, tnS]
  | n + 1 => by
    have i := ten_sm s O l n
    have e : tnS s l (n + 1) = tnS s l n + (tn s (4 * l + n) : Int) := rfl
    rw [sm_s, e, Int.mul_add]
    unfold ten at i ⊢
    omega
theorem tnR_nn (s : Sp) (O : Oc) (l : Nat) : 0 ≤ tnR s O l := by
  have := ten_sm s O l (ng s l)
  unfold tnR due; omega
theorem one_lt {R : Int} (hR : 0 ≤ R) : ∀ n : Nat, sm (fun k => if (k : Int) < R then 1 else 0) n ≤ R
  | 0 => hR
  | n + 1 => by
    rw [sm_s]
    by_cases q : (n : Int) < R
    · rw [if_pos q]
      have : sm (fun k => if (k : Int) < R then 1 else 0) n ≤ (n : Int) := by
        have := sm_c 1 n
        rw [Int.one_mul] at this
        rw [← this]
        exact sm_le fun i _ => by split <;> omega
      omega
    · rw [if_neg q]
      have := one_lt hR n
      omega
theorem its_b {s : Sp} (H : IvT s) {O : Oc} {l : Nat} (hl : l < 40) (hO : 0 ≤ O 0 l) {k : Nat} (hk : k < ng s l) : 0 ≤ its s O l k ∧ its s O l k ≤ O 0 l := by
  have tnn : ∀ j, 0 ≤ ten s O l j := fun j => Int.ediv_nonneg (Int.mul_nonneg hO (by omega)) (by decide)
  have nn : ∀ j, 0 ≤ its s O l j := fun j => by
    have := tnn j
    unfold its; split <;> omega
  refine ⟨nn k, ?_⟩
  have a := sm_at (f := its s O l) hk (fun i _ => nn i)
  have e : sm (its s O l) (ng s l) = sm (ten s O l) (ng s l) + sm (fun k => if (k : Int) < tnR s O l then 1 else 0) (ng s l) := sm_add _ _ _
  have o := one_lt (tnR_nn s O l) (ng s l)
  have d : due s O l ≤ O 0 l := by
    have t := IvT_tt H hl
    have c := tnI_S s l (ng s l)
    unfold due
    refine Int.ediv_le_of_le_mul (by decide) ?_
    exact Int.mul_le_mul_of_nonneg_left (by omega) hO
  have : tnR s O l = due s O l - sm (ten s O l) (ng s l) := rfl
  omega
/-- who signed has their tenths: what is changed by that -/
theorem chg_o (s : Sp) (O : Oc) (i : Nat) (v : Int) {f j : Nat} (hf : f ≤ 3) : chg s O i v f j = O f j := by
  unfold chg
  split
  · rw [uO_1, if_neg (by omega)]
  · split
    · rw [uO_1, if_neg (by omega)]
    · split <;> rw [uO_1, if_neg (by omega)]
theorem spk_o (s : Sp) (O0 : Oc) (l : Nat) (O : Oc) {f j : Nat} (hf : f ≤ 2) : ∀ k, spk s O0 l O k f j = O f j
  | 0 => rfl
  | k + 1 => by
    unfold spk
    rw [chg_o s _ _ _ (by omega), uO_1, if_neg (by omega), spk_o s O0 l O hf k]
theorem spk_3 (s : Sp) (O0 : Oc) (l : Nat) (O : Oc) (j : Nat) : ∀ n, spk s O0 l O n 3 j = if 4 * l ≤ j ∧ j < 4 * l + n then its s O0 l (j - 4 * l) else O 3 j
  | 0 => by rw [if_neg (by omega)]; rfl
  | n + 1 => by
    unfold spk
    rw [chg_o s _ _ _ (by omega), uO_1]
    by_cases q : j = 4 * l + n
    · rw [if_pos ⟨rfl, q⟩, if_pos (by omega), q, Nat.add_sub_cancel_left]
    · rw [if_neg (fun z => q z.2), spk_3 s O0 l O j n]
      by_cases r : 4 * l ≤ j ∧ j < 4 * l + n
      · rw [if_pos r, if_pos (by omega)]
      · rw [if_neg r, if_neg (by omega)]
theorem spl_o (s : Sp) (O0 : Oc) {f j : Nat} (hf : f ≤ 2) : ∀ m, spl s O0 m f j = O0 f j
  | 0 => rfl
  | m + 1 => by
    unfold spl
    split
    · rw [uO_1, if_neg (by omega), spk_o s O0 m _ hf, spl_o s O0 hf m]
    · exact spl_o s O0 hf m
theorem spl_3 {s : Sp} (H : IvT s) (O0 : Oc) {l k : Nat} (hk : k < 4) : ∀ {m : Nat}, m ≤ 40 → spl s O0 m 3 (4 * l + k) = if l < m ∧ 0 < O0 0 l ∧ k < ng s l then its s O0 l k else O0 3 (4 * l + k)
  | 0, _ => by rw [if_neg (by omega)]; rfl
  | m + 1, hm => by
    have i := spl_3 H O0 (l := l) hk (m := m) (by omega)
    have n4 := IvT_ng H (l := m) (by omega)
    unfold spl
    by_cases q : 0 < O0 0 m
    · rw [if_pos q, uO_1, if_neg (by omega), spk_3, i]
      by_cases e : l = m
      · subst e
        by_cases r : k < ng s l
        · rw [if_pos (by omega), if_pos ⟨by omega, q, r⟩, Nat.add_sub_cancel_left]
        · rw [if_neg (by omega), if_neg (by omega), if_neg (by omega)]
      · rw [if_neg (by omega)]
        by_cases r : l < m ∧ 0 < O0 0 l ∧ k < ng s l
        · rw [if_pos r, if_pos (by omega)]
        · rw [if_neg r, if_neg (by omega)]
    · rw [if_neg q, i]
      by_cases r : l < m ∧ 0 < O0 0 l ∧ k < ng s l
      · rw [if_pos r, if_pos (by omega)]
      · rw [if_neg r, if_neg]
        intro z
        by_cases e : l = m
        · rw [e] at z; exact q z.2.1
        · omega
