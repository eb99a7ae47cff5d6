/-! numbers, loops, memory: what the mathematics stands on -/
def zI (z : Int) : Int32 := Int32.ofInt z
def zL (z : Int) : Int64 := Int64.ofInt z
theorem li0 : (0 : Int32) = nI 0 := rfl
theorem li1 : (1 : Int32) = nI 1 := rfl
theorem li2 : (2 : Int32) = nI 2 := rfl
theorem li3 : (3 : Int32) = nI 3 := rfl
theorem li4 : (4 : Int32) = nI 4 := rfl
theorem li5 : (5 : Int32) = nI 5 := rfl
theorem li6 : (6 : Int32) = nI 6 := rfl
theorem li7 : (7 : Int32) = nI 7 := rfl
theorem li8 : (8 : Int32) = nI 8 := rfl
theorem li9 : (9 : Int32) = nI 9 := rfl
theorem li10 : (10 : Int32) = nI 10 := rfl
theorem li12 : (12 : Int32) = nI 12 := rfl
theorem li24 : (24 : Int32) = nI 24 := rfl
theorem li31 : (31 : Int32) = nI 31 := rfl
theorem li40 : (40 : Int32) = nI 40 := rfl
theorem li64 : (64 : Int32) = nI 64 := rfl
theorem li160 : (160 : Int32) = nI 160 := rfl
theorem ll0 : (0 : Int64) = zL 0 := rfl
theorem ll1 : (1 : Int64) = zL 1 := rfl
theorem ll2 : (2 : Int64) = zL 2 := rfl
theorem ll10 : (10 : Int64) = zL 10 := rfl
theorem ll2e9 : (2000000000 : Int64) = zL 2000000000 := rfl
theorem nI_nat {n : Nat} (h : n < 2147483648) : Int32.toNatClampNeg (nI n) = n := nI_clamp h
theorem ib_n {i n : Nat} (h : i < n) (hn : n < 2147483648) : ib (nI i) n = true := by
  unfold ib
  exact decide_eq_true (nI_in h hn)
theorem gu_t {β : Type} (x : Option β) : gu true x = x := rfl
theorem gu_ib {β : Type} {i n : Nat} {x : Option β} (h : i < n) (hn : n < 2147483648) : gu (ib (nI i) n) x = x := by rw [ib_n h hn]; rfl
theorem gu_d {β : Type} {P : Prop} [Decidable P] {x : Option β} (h : P) : gu (decide P) x = x := by rw [decide_eq_true h]; rfl
theorem bi_s {α β : Type} (a : α) (f : α → Option β) : (some a).bind f = f a := rfl
theorem vl_e {α β : Type} (a : α) (k : α → β) : vl a k = k a := rfl
theorem n_le {a b : Nat} (ha : a < 2147483648) (hb : b < 2147483648) : (nI a ≤ nI b) = (a ≤ b) := propext (nI_leI ha hb)
theorem n_lt {a b : Nat} (ha : a < 2147483648) (hb : b < 2147483648) : (nI a < nI b) = (a < b) := propext (nI_ltI ha hb)
theorem n_eq {a b : Nat} (ha : a < 2147483648) (hb : b < 2147483648) : (nI a = nI b) = (a = b) := propext (nI_eq ha hb)
theorem n_m1 {a : Nat} (ha : a < 2147483648) : (nI a = (-1 : Int32)) = False := by
  refine eq_false fun h => ?_
  have h2 : (nI a).toInt = (a : Int) := nI_toInt ha
  rw [h] at h2
  have h3 : ((-1 : Int32)).toInt = -1 := rfl
  omega
theorem n_m1' : ((-1 : Int32) = (-1 : Int32)) = True := eq_self _
theorem n_add (a b : Nat) : nI a + nI b = nI (a + b) := nI_add a b
theorem n_mul (a b : Nat) : nI a * nI b = nI (a * b) := pk_mul a b
theorem n_sub {a b : Nat} (h : b ≤ a) : nI a - nI b = nI (a - b) := pk_sub h
theorem n_dec {a : Nat} (h : 0 < a) : nI a + (-1) = nI (a - 1) := sb_m1 h
theorem n_L {n : Nat} (h : n < 2147483648) : (nI n).toInt64 = zL (n : Int) := by
  rw [nI_l h]; exact (Int64.ofInt_eq_ofNat (n := n)).symm
theorem zI_n (n : Nat) : zI (n : Int) = nI n := Int32.ofInt_eq_ofNat
theorem zL_i (z : Int) : (zL z).toInt32 = zI z := Int64.toInt32_ofInt
theorem zI_add (a b : Int) : zI a + zI b = zI (a + b) := (Int32.ofInt_add a b).symm
theorem zI_L {z : Int} (h1 : -2147483648 ≤ z) (h2 : z < 2147483648) : (zI z).toInt64 = zL z := Int32.toInt64_ofInt (by
  have : Int32.minValue.toInt = -2147483648 := rfl
  omega) (by
  have : Int32.maxValue.toInt = 2147483647 := rfl
  omega)
theorem z_add (a b : Int) : zL a + zL b = zL (a + b) := (Int64.ofInt_add a b).symm
theorem z_sub (a b : Int) : zL a - zL b = zL (a - b) := (Int64.ofInt_sub a b).symm
theorem z_mul (a b : Int) : zL a * zL b = zL (a * b) := (Int64.ofInt_mul a b).symm
theorem z_neg (a : Int) : -zL a = zL (-a) := Int64.neg_ofInt
theorem z_toInt {a : Int} (h1 : -9223372036854775808 ≤ a) (h2 : a < 9223372036854775808) : (zL a).toInt = a := Int64.toInt_ofInt_of_le h1 h2
theorem z_le {a b : Int} (h1 : -9223372036854775808 ≤ a) (h2 : a < 9223372036854775808) (h3 : -9223372036854775808 ≤ b) (h4 : b < 9223372036854775808) : (zL a ≤ zL b) = (a ≤ b) := by
  rw [Int64.le_iff_toInt_le, z_toInt h1 h2, z_toInt h3 h4]
theorem z_lt {a b : Int} (h1 : -9223372036854775808 ≤ a) (h2 : a < 9223372036854775808) (h3 : -9223372036854775808 ≤ b) (h4 : b < 9223372036854775808) : (zL a < zL b) = (a < b) := by
  rw [Int64.lt_iff_toInt_lt, z_toInt h1 h2, z_toInt h3 h4]
theorem z_eq {a b : Int} (h1 : -9223372036854775808 ≤ a) (h2 : a < 9223372036854775808) (h3 : -9223372036854775808 ≤ b) (h4 : b < 9223372036854775808) : (zL a = zL b) = (a = b) := by
  refine propext ⟨fun h => ?_, fun h => by rw [h]⟩
  have := congrArg Int64.toInt h
  rwa [z_toInt h1 h2, z_toInt h3 h4] at this
theorem z_div {a b : Int} (h1 : 0 ≤ a) (h2 : a < 9223372036854775808) (h3 : 0 < b) (h4 : b < 9223372036854775808) : zL a / zL b = zL (a / b) := by
  have hm : Int64.minValue.toInt = -9223372036854775808 := rfl
  have hM : Int64.maxValue.toInt = 9223372036854775807 := rfl
  rw [← Int.tdiv_eq_ediv_of_nonneg h1]
  exact (Int64.ofInt_tdiv (by omega) (by omega) (by omega) (by omega)).symm
theorem z_ite (c : Prop) [Decidable c] (a b : Int) : (if c then zL a else zL b) = zL (if c then a else b) := by split <;> rfl
theorem n_ite (c : Prop) [Decidable c] (a b : Nat) : (if c then nI a else nI b) = nI (if c then a else b) := by split <;> rfl
/-! memory -/
theorem wI_1 (μ : Mem) (c i : Nat) (x : Int32) (q j : Nat) : (wI μ c i x).1 q j = if q = c ∧ j = i then x else μ.1 q j := by
  unfold wI upd
  by_cases h : q = c
  · subst h; simp
  · simp [h]
theorem wI_2 (μ : Mem) (c i : Nat) (x : Int32) : (wI μ c i x).2 = μ.2 := rfl
theorem wL_1 (μ : Mem) (c i : Nat) (x : Int64) : (wL μ c i x).1 = μ.1 := rfl
theorem wL_2 (μ : Mem) (c i : Nat) (x : Int64) (q j : Nat) : (wL μ c i x).2.1 q j = if q = c ∧ j = i then x else μ.2.1 q j := by
  unfold wL vp_updL
  by_cases h : q = c
  · subst h; simp
  · simp [h]
theorem wL_3 (μ : Mem) (c i : Nat) (x : Int64) : (wL μ c i x).2.2 = μ.2.2 := rfl
/-- nothing outside A has changed -/
def Fr (A : Nat → Prop) (μ μ' : Mem) : Prop := (∀ q, ¬ A q → μ'.1 q = μ.1 q ∧ μ'.2.1 q = μ.2.1 q) ∧ μ'.2.2 = μ.2.2
theorem Fr.rfl' {A : Nat → Prop} {μ : Mem} : Fr A μ μ := ⟨fun _ _ => ⟨rfl, rfl⟩, rfl⟩
theorem Fr.tr {A : Nat → Prop} {μ μ1 μ2 : Mem} (h : Fr A μ μ1) (k : Fr A μ1 μ2) : Fr A μ μ2 := ⟨fun q hq => ⟨(k.1 q hq).1.trans (h.1 q hq).1, (k.1 q hq).2.trans (h.1 q hq).2⟩, k.2.trans h.2⟩
theorem Fr.mo {A B : Nat → Prop} {μ μ1 : Mem} (h : Fr A μ μ1) (k : ∀ q, A q → B q) : Fr B μ μ1 := ⟨fun q hq => h.1 q fun z => hq (k q z), h.2⟩
theorem Fr.I {A : Nat → Prop} {μ μ1 : Mem} (h : Fr A μ μ1) {q : Nat} (hq : ¬ A q) : μ1.1 q = μ.1 q := (h.1 q hq).1
theorem Fr.L {A : Nat → Prop} {μ μ1 : Mem} (h : Fr A μ μ1) {q : Nat} (hq : ¬ A q) : μ1.2.1 q = μ.2.1 q := (h.1 q hq).2
theorem Fr.wI {A : Nat → Prop} {μ μ1 : Mem} (h : Fr A μ μ1) {c i : Nat} {x : Int32} (hc : A c) : Fr A μ (wI μ1 c i x) := ⟨fun q hq => ⟨by
  rw [← h.I hq]; funext j; rw [wI_1, if_neg (fun z : q = c ∧ j = i => hq (z.1 ▸ hc))], h.L hq⟩, h.2⟩
theorem Fr.wL {A : Nat → Prop} {μ μ1 : Mem} (h : Fr A μ μ1) {c i : Nat} {x : Int64} (hc : A c) : Fr A μ (wL μ1 c i x) := ⟨fun q hq => ⟨h.I hq, by
  rw [← h.L hq]; funext j; rw [wL_2, if_neg (fun z : q = c ∧ j = i => hq (z.1 ▸ hc))]⟩, h.2⟩
/-! ends -/
def Ok {α : Type} (x : Option α) (Q : α → Prop) : Prop := ∃ r, x = some r ∧ Q r
theorem Ok.s {α : Type} {a : α} {Q : α → Prop} (h : Q a) : Ok (some a) Q := ⟨a, rfl, h⟩
theorem Ok.e {α : Type} {x y : Option α} {Q : α → Prop} (h : x = y) (k : Ok y Q) : Ok x Q := h ▸ k
theorem Ok.b {α β : Type} {x : Option α} {f : α → Option β} {P : α → Prop} {Q : β → Prop} (h : Ok x P) (k : ∀ r, P r → Ok (f r) Q) : Ok (x.bind f) Q := by
  obtain ⟨r, rfl, hr⟩ := h; exact k r hr
theorem Ok.be {α β : Type} {x : Option α} {a : α} {f : α → Option β} {Q : β → Prop} (h : x = some a) (k : Ok (f a) Q) : Ok (x.bind f) Q := by subst h; exact k
theorem Ok.mo {α : Type} {x : Option α} {P Q : α → Prop} (h : Ok x P) (k : ∀ r, P r → Q r) : Ok x Q := by
  obtain ⟨r, h1, h2⟩ := h; exact ⟨r, h1, k r h2⟩
theorem Ok.v {α β : Type} {a : α} {k : α → Option β} {Q : β → Prop} (h : Ok (k a) Q) : Ok (vl a k) Q := h
theorem Ok.g {β : Type} {i n : Nat} {x : Option β} {Q : β → Prop} (h : i < n) (hn : n < 2147483648) (k : Ok x Q) : Ok (gu (ib (nI i) n) x) Q := by rw [gu_ib h hn]; exact k
/-- a loop that ends at N: its states stand in P -/
theorem Ok.for {α R : Type} {Q : R → Prop} (D : Nat → Nat → α → Option R) (N : Nat) (P : Nat → α → Prop)
    (hs : ∀ n i x, i < N → P i x → (∀ x', P (i + 1) x' → Ok (D n (i + 1) x') Q) → Ok (D (n + 1) i x) Q)
    (he : ∀ n x, P N x → Ok (D (n + 1) N x) Q) : ∀ n i x, i ≤ N → N - i < n → P i x → Ok (D n i x) Q := by
  intro n
  induction n with
  | zero => intro i x _ h _; omega
  | succ n ih =>
    intro i x hi hn hP
    by_cases h : i = N
    · subst h; exact he n x hP
    · exact hs n i x (by omega) hP fun x' hx => ih (i + 1) x' (by omega) (by omega) hx
theorem eq_for {R : Type} (D : Nat → Nat → R) (N : Nat) (r : R) (hs : ∀ n i, i < N → D (n + 1) i = D n (i + 1)) (he : ∀ n, D (n + 1) N = r) : ∀ n i, i ≤ N → N - i < n → D n i = r := by
  intro n
  induction n with
  | zero => intro i _ h; omega
  | succ n ih =>
    intro i hi hn
    by_cases h : i = N
    · subst h; exact he n
    · rw [hs n i (by omega)]; exact ih (i + 1) (by omega) (by omega)
/-- sums -/
def sm (f : Nat → Int) : Nat → Int
  | 0 => 0
  | n + 1 => sm f n + f n
theorem sm_s (f : Nat → Int) (n : Nat) : sm f (n + 1) = sm f n + f n := rfl
theorem sm_congr {f g : Nat → Int} : ∀ {n : Nat}, (∀ i, i < n → f i = g i) → sm f n = sm g n
  | 0, _ => rfl
  | n + 1, h => by rw [sm_s, sm_s, sm_congr fun i hi => h i (by omega), h n (by omega)]
theorem sm_add (f g : Nat → Int) : ∀ n : Nat, sm (fun i => f i + g i) n = sm f n + sm g n
  | 0 => rfl
  | n + 1 => by rw [sm_s, sm_s, sm_s, sm_add f g n]; omega
theorem sm_sub (f g : Nat → Int) : ∀ n : Nat, sm (fun i => f i - g i) n = sm f n - sm g n
  | 0 => rfl
  | n + 1 => by rw [sm_s, sm_s, sm_s, sm_sub f g n]; omega
theorem sm_0 : ∀ n : Nat, sm (fun _ => 0) n = 0
  | 0 => rfl
  | n + 1 => by rw [sm_s, sm_0 n]; rfl
theorem sm_z {f : Nat → Int} {n : Nat} (h : ∀ i, i < n → f i = 0) : sm f n = 0 := by rw [sm_congr h, sm_0]
theorem sm_le {f g : Nat → Int} : ∀ {n : Nat}, (∀ i, i < n → f i ≤ g i) → sm f n ≤ sm g n
  | 0, _ => Int.le_refl _
  | n + 1, h => by
    have h1 := sm_le (n := n) fun i hi => h i (by omega)
    have h2 := h n (by omega)
    rw [sm_s, sm_s]; omega
theorem sm_nn {f : Nat → Int} {n : Nat} (h : ∀ i, i < n → 0 ≤ f i) : 0 ≤ sm f n := by
  have := sm_le h; rwa [sm_0] at this
theorem sm_c (c : Int) : ∀ n : Nat, sm (fun _ => c) n = c * n
  | 0 => by simp [sm]
  | n + 1 => by rw [sm_s, sm_c c n]; simp [Int.mul_add]
theorem sm_at {f : Nat → Int} : ∀ {n : Nat} {k : Nat}, k < n → (∀ i, i < n → 0 ≤ f i) → f k ≤ sm f n
  | n + 1, k, hk, h => by
    rw [sm_s]
    by_cases hkn : k = n
    · subst hkn
      have := sm_nn (f := f) (n := k) fun i hi => h i (by omega)
      omega
    · have := sm_at (f := f) (n := n) (k := k) (by omega) fun i hi => h i (by omega)
      have h2 := h n (by omega)
      omega
/-- one place is changed -/
theorem sm_up {f g : Nat → Int} {k : Nat} {d : Int} : ∀ {n : Nat}, k < n → (∀ i, i < n → i ≠ k → g i = f i) → g k = f k + d → sm g n = sm f n + d
  | n + 1, hk, h, he => by
    rw [sm_s, sm_s]
    by_cases hkn : k = n
    · subst hkn
      rw [sm_congr (f := g) (g := f) fun i hi => h i (by omega) (by omega), he]; omega
    · rw [sm_up (f := f) (g := g) (k := k) (d := d) (n := n) (by omega) (fun i hi hik => h i (by omega) hik) he, h n (by omega) (by omega)]; omega
theorem sm_ext {f : Nat → Int} {n : Nat} : ∀ {m : Nat}, n ≤ m → (∀ i, n ≤ i → i < m → f i = 0) → sm f m = sm f n
  | 0, h, _ => by rw [Nat.le_zero.mp h]
  | m + 1, h, k => by
    by_cases hm : n = m + 1
    · rw [hm]
    · rw [sm_s, sm_ext (n := n) (m := m) (by omega) (fun i h1 h2 => k i h1 (by omega)), k m (by omega) (by omega)]; omega
