/-! calls: what both keep, what a refusal is -/
def CI (ev : Nat → Ev) (n : Nat) (μ : Mem) : Prop := (∀ k, k < n → LG μ k (ev k)) ∧ μ.1 1 1 = nI n ∧ RC 3 μ (run ev n) ∧ ∃ t M, RC 32 μ t ∧ Iv M t
theorem CI.g {ev : Nat → Ev} {n : Nat} {μ : Mem} (C : CI ev n μ) : ∀ k, k < n → LG μ k (ev k) := C.1
theorem CI.n {ev : Nat → Ev} {n : Nat} {μ : Mem} (C : CI ev n μ) : μ.1 1 1 = nI n := C.2.1
theorem CI.r {ev : Nat → Ev} {n : Nat} {μ : Mem} (C : CI ev n μ) : RC 3 μ (run ev n) := C.2.2.1
theorem CI.t {ev : Nat → Ev} {n : Nat} {μ : Mem} (C : CI ev n μ) : ∃ t M, RC 32 μ t ∧ Iv M t := C.2.2.2
def MI (ev : Nat → Ev) (n : Nat) (μ : Mem) : Prop := (∀ k, k < n → MG μ k (ev k)) ∧ μ.1 85 5 = nI n ∧ RM μ (run ev n) ∧ μ.1 85 48 = nI 0
theorem MI.g {ev : Nat → Ev} {n : Nat} {μ : Mem} (C : MI ev n μ) : ∀ k, k < n → MG μ k (ev k) := C.1
theorem MI.n {ev : Nat → Ev} {n : Nat} {μ : Mem} (C : MI ev n μ) : μ.1 85 5 = nI n := C.2.1
theorem MI.r {ev : Nat → Ev} {n : Nat} {μ : Mem} (C : MI ev n μ) : RM μ (run ev n) := C.2.2.1
theorem MI.o {ev : Nat → Ev} {n : Nat} {μ : Mem} (C : MI ev n μ) : μ.1 85 48 = nI 0 := C.2.2.2
def XS (μ x : Mem) (lo hi : Nat) : Prop := ∀ q, lo ≤ q → q ≤ hi → x.1 q = μ.1 q ∧ x.2.1 q = μ.2.1 q
theorem CI_x {ev : Nat → Ev} {n : Nat} {μ x : Mem} (h : XS μ x 1 83) (C : CI ev n μ) : CI ev n x := by
  obtain ⟨g, n1, r, t, M, rt, it⟩ := C
  have e1 := (h 1 (by decide) (by decide)).1
  have e2 := (h 2 (by decide) (by decide)).1
  exact ⟨fun k hk j hj => by rw [e2]; exact g k hk j hj, by rw [e1]; exact n1, RC_frm (fun q h1 h2 => h q (by omega) (by omega)) r, t, M, RC_frm (fun q h1 h2 => h q (by omega) (by omega)) rt, it⟩
/-- the model's cells but for the word of refusal -/
def XM (μ x : Mem) : Prop := XS μ x 87 115 ∧ ∀ j, 1 ≤ j → j ≠ 49 → x.1 85 j = μ.1 85 j
theorem MI_x {ev : Nat → Ev} {n : Nat} {μ x : Mem} (h : XM μ x) (C : MI ev n μ) : MI ev n x := by
  obtain ⟨g, n1, r, o⟩ := C
  have e1 := (h.1 87 (by decide) (by decide)).1
  have e2 := (h.1 88 (by decide) (by decide)).1
  have e3 := (h.1 89 (by decide) (by decide)).1
  refine ⟨fun k hk => ?_, by rw [h.2 5 (by decide) (by decide)]; exact n1, RM_frm (fun q h1 h2 => h.1 q (by omega) (by omega)) (fun j h1 h2 => h.2 j (by omega) (by omega)) r, by rw [h.2 48 (by decide) (by decide)]; exact o⟩
  have := g k hk
  unfold MG at *
  rw [e1, e2, e3]; exact this
def exn : Nat → String
  | 0 => "java/util/NoSuchElementException"
  | 1 => "java/lang/IllegalArgumentException"
  | _ => "java/lang/IllegalStateException"
/-- the class has refused -/
def thr (μ : Mem) (j : Nat) : Mem := ((wI μ 84 j (μ.1 84 j + 1)).1, μ.2.1, μ.2.2.1 + 1, μ.2.2.2 + 6)
/-- the model has refused -/
def mth (μ : Mem) (c : Int32) (j : Nat) : Mem := wI (wI μ 85 0 c) 86 j (μ.1 86 j + 1)
/-- the class's and the model's answers -/
def cAn {α : Type} (μ : Mem) : α ⊕ Nat → (α ⊕ String) × Mem
  | .inl v => (.inl v, μ)
  | .inr j => (.inr (exn j), thr μ j)
def mAn {α : Type} (cd : Nat → Int32) (z : α) (μ : Mem) : α ⊕ Nat → α × Mem
  | .inl v => (v, μ)
  | .inr j => (z, mth μ (cd j) j)
theorem b2_t : b2i true = nI 1 := rfl
theorem b2_f : b2i false = nI 0 := rfl
theorem c_rt (μ : Mem) : D_X6_needRight_0 (nI 1) μ = some (.inl (), μ) := by unfold D_X6_needRight_0; rw [if_neg (by decide)]
theorem c_rf (μ : Mem) : D_X6_needRight_0 (nI 0) μ = some (.inr (exn 1), thr μ 1) := by unfold D_X6_needRight_0; rw [if_pos (show nI 0 = 0 from rfl)]; rfl
theorem c_tt (μ : Mem) : D_X6_needThere_0 (nI 1) μ = some (.inl (), μ) := by unfold D_X6_needThere_0; rw [if_neg (by decide)]
theorem c_tf (μ : Mem) : D_X6_needThere_0 (nI 0) μ = some (.inr (exn 0), thr μ 0) := by unfold D_X6_needThere_0; rw [if_pos (show nI 0 = 0 from rfl)]; rfl
theorem c_e38 (fu : Nat) (μ : Mem) : D_X6_enter_38 fu μ = some (.inr (exn 2), thr μ 2) := rfl
theorem tx_l {α β : Type} (v : α) (m : Mem) (k : α → Mem → Option ((β ⊕ String) × Mem)) : tx (.inl v, m) k = k v m := rfl
theorem tx_r {α β : Type} (E : String) (m : Mem) (k : α → Mem → Option ((β ⊕ String) × Mem)) : tx (.inr E, m) k = some (.inr E, m) := rfl
theorem m_nt {μ : Mem} (h : μ.1 85 0 = nI 0) (c j : Int32) : D_X7_needs_0 (nI 1) c j μ = some (true, μ) := by
  unfold D_X7_needs_0 D_X7_needs_26
  rw [if_neg (by decide), if_pos (by rw [h]; rfl)]
theorem m_nf {μ : Mem} {k j : Nat} (h : μ.1 85 0 = nI 0) (hk : k ≤ 3) (hk0 : k ≠ 0) (hj : j < 3) : D_X7_needs_0 (nI 0) (nI k) (nI j) μ = some (false, mth μ (nI k) j) := by
  unfold D_X7_needs_0
  rw [if_pos (show nI 0 = 0 from rfl), if_pos (by rw [h]; rfl), vl_e]
  simp (disch := omega) only [gu_ib, nI_nat, vl_e]
  have e : ∀ v, (wI (wI μ 85 0 (nI k)) 86 j v).1 85 0 = nI k := fun v => by rw [wI_n (by decide), wI_e]
  unfold D_X7_needs_26
  rw [e, if_neg (by show ¬ nI k = nI 0; rw [n_eq (by omega) (by omega)]; exact hk0)]
  have e2 : (wI μ 85 0 (nI k)).1 86 j = μ.1 86 j := by rw [wI_n (by decide)]
  rw [e2]; rfl
/-- is it from l to h -/
def inC (a l h : Int32) : Bool := if a < l then false else if h < a then false else true
theorem wC (μ : Mem) (a l h : Int32) : D_X6_isWithin_0 μ a l h = some (inC a l h) := by
  unfold D_X6_isWithin_0 inC
  split
  · rfl
  · split <;> rfl
theorem mWi (μ : Mem) (a l h : Int32) : D_X7_within_0 μ a.toInt64 l.toInt64 h.toInt64 = some (inC a l h) := by
  unfold D_X7_within_0 inC
  simp only [Int64.lt_iff_toInt_lt, Int32.lt_iff_toInt_lt, Int32.toInt_toInt64]
  split
  · rfl
  · split <;> rfl
theorem inC_n {a : Int32} {l h : Nat} (hl : l < 2147483648) (hh : h < 2147483648) (q : inC a (nI l) (nI h) = true) : ∃ k, a = nI k ∧ l ≤ k ∧ k ≤ h := by
  unfold inC at q
  split at q
  · cases q
  · split at q
    · cases q
    · rename_i h1 h2
      have i1 : (nI l).toInt = l := nI_toInt hl
      have i2 : (nI h).toInt = h := nI_toInt hh
      rw [Int32.lt_iff_toInt_lt, i1] at h1
      rw [Int32.lt_iff_toInt_lt, i2] at h2
      refine ⟨a.toInt.toNat, ?_, by omega, by omega⟩
      apply Int32.toInt_inj.mp
      rw [nI_toInt (by omega)]; omega
/-- a number below n -/
def iB (a : Int32) (n : Nat) : Bool := if a < 0 then false else if nI n ≤ a then false else true
theorem iB_n {a : Int32} {n : Nat} (hn : n < 2147483648) (q : iB a n = true) : ∃ k, a = nI k ∧ k < n := by
  unfold iB at q
  split at q
  · cases q
  · split at q
    · cases q
    · rename_i h1 h2
      have i2 : (nI n).toInt = n := nI_toInt hn
      have i0 : (0 : Int32).toInt = 0 := rfl
      rw [Int32.lt_iff_toInt_lt, i0] at h1
      rw [Int32.le_iff_toInt_le, i2] at h2
      refine ⟨a.toInt.toNat, ?_, by omega⟩
      apply Int32.toInt_inj.mp
      rw [nI_toInt (by omega)]; omega
theorem iB_k {k n : Nat} (hk : k < 2147483648) (hn : n < 2147483648) : iB (nI k) n = decide (k < n) := by
  unfold iB
  rw [if_neg (show ¬ nI k < 0 by show ¬ nI k < nI 0; rw [n_lt (by omega) (by omega)]; omega)]
  simp only [n_le hn hk]
  by_cases q : k < n
  · rw [if_neg (by omega)]; exact (decide_eq_true q).symm
  · rw [if_pos (by omega)]; exact (decide_eq_false q).symm
theorem inC_k {k l h : Nat} (hk : k < 2147483648) (hl : l < 2147483648) (hh : h < 2147483648) : inC (nI k) (nI l) (nI h) = decide (l ≤ k ∧ k ≤ h) := by
  unfold inC
  simp only [n_lt hk hl, n_lt hh hk]
  by_cases q : l ≤ k ∧ k ≤ h
  · rw [if_neg (by omega), if_neg (by omega)]; exact (decide_eq_true q).symm
  · rw [decide_eq_false q]
    split
    · rfl
    · rw [if_pos (by omega)]
section
variable {fu n c N : Nat} {ev : Nat → Ev} {μ m : Mem} {s : Sp}
theorem c_isL (C : RC 3 μ s) (a : Int32) : D_X6_isLayer_0 μ a = some (iB a (cL s)) := by
  unfold D_X6_isLayer_0 iB
  rw [show μ.1 4 13 = nI (cL s) from C_cL C]
  split
  · rfl
  · split <;> rfl
theorem c_isH (C : RC 3 μ s) (a : Int32) : D_X6_isHarm_0 μ a = some (iB a (cH s)) := by
  unfold D_X6_isHarm_0 iB
  rw [show μ.1 17 12 = nI (cH s) from C_cH C]
  split
  · rfl
  · split <;> rfl
theorem c_isE (C : CI ev n μ) (a : Int32) : D_X6_isEvent_0 μ a = some (iB a n) := by
  unfold D_X6_isEvent_0 iB
  rw [C.n]
  split
  · rfl
  · split <;> rfl
theorem m_isH (R : RM m s) (T : CT s) (H : Iv N s) (h0 : m.1 85 0 = nI 0) (a : Int32) : D_X7_isHarmOne_0 a m = some (if iB a (cH s) = true then (true, m) else (false, mth m (nI 1) 0)) := by
  have t := T.2.2.2
  unfold D_X7_isHarmOne_0 D_X7_isHarmOne_26 D_X7_isHarmOne_27
  rw [show D_X7_within_0 m a.toInt64 0 23 = some (inC a (nI 0) (nI 23)) from mWi m a 0 23, bi_s, show D_X7_needs_0 1 1 0 m = some (true, m) from m_nt h0 _ _, show D_X7_needs_0 0 1 0 m = some (false, mth m (nI 1) 0) from m_nf (k := 1) (j := 0) h0 (by decide) (by decide) (by decide), bi_s, bi_s]
  by_cases q : iB a (cH s) = true
  · obtain ⟨k, rfl, hk⟩ := iB_n (by omega) q
    have b := (T.2.1 k (by omega)).mpr hk
    rw [if_pos q, inC_k (by omega) (by decide) (by decide), if_pos (decide_eq_true (by omega)), gu_ib (by omega) (by decide), nI_nat (by omega), M_ish R (by omega), b, if_neg (by decide)]
  · rw [if_neg q]
    by_cases p : inC a (nI 0) (nI 23) = true
    · obtain ⟨k, rfl, -, hk⟩ := inC_n (by decide) (by decide) p
      have b : ¬ isH s k = 1 := fun z => q (by rw [iB_k (by omega) (by omega)]; exact decide_eq_true ((T.2.1 k (by omega)).mp z))
      have b2 : isH s k = 0 := (IvH_is H.2.1 (by omega)).resolve_right b
      rw [if_pos p, gu_ib (by omega) (by decide), nI_nat (by omega), M_ish R (by omega), b2, if_pos (show nI 0 = 0 from rfl)]
    · rw [if_neg p]
theorem m_isL {d : Nat} (R : RM m s) (T : CT s) (H : Iv N s) (h0 : m.1 85 0 = nI 0) (a : Int32) (hd : d ≤ 3) (hd0 : d ≠ 0) : D_X7_isOne_0 a (nI d) m = some (if iB a (cL s) = true then (true, m) else (false, mth m (nI d) 0)) := by
  have t := T.2.2.1
  unfold D_X7_isOne_0 D_X7_isOne_26 D_X7_isOne_27
  rw [show D_X7_within_0 m a.toInt64 0 39 = some (inC a (nI 0) (nI 39)) from mWi m a 0 39, bi_s, show D_X7_needs_0 1 (nI d) 0 m = some (true, m) from m_nt h0 _ _, show D_X7_needs_0 0 (nI d) 0 m = some (false, mth m (nI d) 0) from m_nf (j := 0) h0 hd hd0 (by decide), bi_s, bi_s]
  by_cases q : iB a (cL s) = true
  · obtain ⟨k, rfl, hk⟩ := iB_n (by omega) q
    have b := (T.1 k (by omega)).mpr hk
    rw [if_pos q, inC_k (by omega) (by decide) (by decide), if_pos (decide_eq_true (by omega)), gu_ib (by omega) (by decide), nI_nat (by omega), M_is R (by omega), b, if_neg (by decide)]
  · rw [if_neg q]
    by_cases p : inC a (nI 0) (nI 39) = true
    · obtain ⟨k, rfl, -, hk⟩ := inC_n (by decide) (by decide) p
      have b : ¬ isL s k = 1 := fun z => q (by rw [iB_k (by omega) (by omega)]; exact decide_eq_true ((T.1 k (by omega)).mp z))
      have b2 : isL s k = 0 := (IvT_is H.1 (by omega)).resolve_right b
      rw [if_pos p, gu_ib (by omega) (by decide), nI_nat (by omega), M_is R (by omega), b2, if_pos (show nI 0 = 0 from rfl)]
    · rw [if_neg p]
theorem m_isE (C : MI ev n m) (hn : n ≤ 160) (h0 : m.1 85 0 = nI 0) (a : Int32) : D_X7_isEvent_0 a m = some (if iB a n = true then (true, m) else (false, mth m (nI 1) 0)) := by
  unfold D_X7_isEvent_0
  rw [C.n, show D_X7_within_0 m a.toInt64 0 (nI n - 1).toInt64 = some (inC a (nI 0) (nI n - 1)) from mWi m a 0 _, bi_s]
  have e : inC a (nI 0) (nI n - 1) = iB a n := by
    unfold inC iB
    have i1 : (nI n - 1).toInt = (n : Int) - 1 := by
      rcases n with _ | k
      · rfl
      · rw [show nI (k + 1) - 1 = nI k from (Int32.sub_eq_add_neg _ _).trans (n_dec (by omega)), nI_toInt (by omega)]; omega
    have i2 : (nI n).toInt = n := nI_toInt (by omega)
    show (if a < 0 then false else _) = _
    split
    · rfl
    · have : (nI n - 1 < a) = (nI n ≤ a) := by rw [Int32.lt_iff_toInt_lt, Int32.le_iff_toInt_le, i1, i2]; exact propext ⟨fun _ => by omega, fun _ => by omega⟩
      simp only [this]
  rw [e]
  cases iB a n
  · rw [b2_f, show D_X7_needs_0 (nI 0) 1 0 m = some (false, mth m (nI 1) 0) from m_nf (k := 1) (j := 0) h0 (by decide) (by decide) (by decide)]; rfl
  · rw [b2_t, m_nt h0]; rfl
end
/-! a call, both sides -/
def IX (ev : Nat → Ev) (n c : Nat) (μ : Mem) : Prop := EG ev n ∧ LV ev n ∧ CI ev n μ ∧ MI ev n μ ∧ (∀ j, j < 3 → μ.1 84 j = μ.1 86 j) ∧ μ.2.2.1 ≤ 129 + c ∧ μ.2.2.2 ≤ 27963 + 6 * c
def kd (a b c : Nat) : Nat → Nat
  | 0 => a
  | 1 => b
  | _ => c
/-- what is asked of a call in the law -/
def LQ {β : Type} (c : Nat) (cl : Option (Int32 × Mem)) (md : Mem → Option (β × Mem)) (cv : β → Int64) : Prop := ∃ k μ1 v μ2, cl = some (k, μ1) ∧ md μ1 = some (v, μ2) ∧ μ2.1 85 0 = k ∧ (k = 0 → μ2.2.1 128 0 = cv v) ∧ ∃ ev n, IX ev n (c + 1) μ2
/-- a question: both answer alike, both books stay as they are -/
def QQ {β : Type} (ev : Nat → Ev) (n : Nat) (cd : Nat → Nat) (μ : Mem) (r : Option ((β ⊕ String) × Mem)) (M : Mem → Option (β × Mem)) : Prop := ∃ o μ', (∀ j, o = .inr j → j < 3 ∧ cd j ≠ 0 ∧ cd j ≤ 3) ∧ r = some (cAn μ' o) ∧ CI ev n μ' ∧ Fr (fun q => q ≤ 83) μ μ' ∧ ∀ x m, wI x 85 0 (nI 0) = m → MI ev n m → m.1 85 0 = nI 0 → ∃ z m', M x = some (mAn (fun j => nI (cd j)) z m' o) ∧ MI ev n m' ∧ m'.1 85 0 = nI 0 ∧ Fr (fun q => q = 85 ∨ 87 ≤ q ∧ q ≤ 127) m m'
theorem q_step {β : Type} {ev : Nat → Ev} {n c : Nat} {cd : Nat → Nat} {μ : Mem} {r : Option ((β ⊕ String) × Mem)} {M : Mem → Option (β × Mem)} {L : Option (Int32 × Mem)} {cv : β → Int64} (I : IX ev n c μ) (Q : QQ ev n cd μ r M) (h1 : ∀ v x, r = some (.inl v, x) → L = some (0, wL x 128 0 (cv v))) (h2 : ∀ j x, j < 3 → cd j ≠ 0 → r = some (.inr (exn j), x) → L = some (nI (cd j), x)) : LQ c L M cv := by
  obtain ⟨G, V, C, D, R, b1, b2⟩ := I
  obtain ⟨o, μ', ho, hr, C', F, hM⟩ := Q
  have e84 : ∀ q, 84 ≤ q → μ'.1 q = μ.1 q ∧ μ'.2.1 q = μ.2.1 q := fun q hq => F.1 q (by omega)
  have cn : μ'.2.2 = μ.2.2 := F.2
  rcases o with v | j
  · have hL := h1 v μ' hr
    obtain ⟨z, m', hm, I', z0, F'⟩ := hM (wL μ' 128 0 (cv v)) _ rfl (MI_x (μ := μ) ⟨fun q p1 p2 => ⟨by rw [wI_n (by omega), wL_1]; exact (e84 q (by omega)).1, by rw [wI_L, wL_n (by omega)]; exact (e84 q (by omega)).2⟩, fun j p1 p2 => by rw [wI_s, if_neg (by omega), wL_1, (e84 85 (by omega)).1]⟩ D) wI_e
    have cn' : m'.2.2 = μ.2.2 := F'.2.trans cn
    refine ⟨0, _, v, m', hL, hm, z0, fun _ => ?_, ev, n, G, V, ?_, I', fun j hj => ?_, ?_, ?_⟩
    · rw [F'.L (by omega), wI_L, wL_e]
    · exact CI_x (μ := μ') (fun q p1 p2 => ⟨by rw [F'.I (by omega), wI_n (by omega), wL_1], by rw [F'.L (by omega), wI_L, wL_n (by omega)]⟩) C'
    · rw [F'.I (by omega), F'.I (by omega), wI_n (by omega), wI_n (by omega), wL_1, (e84 84 (by omega)).1, (e84 86 (by omega)).1]; exact R j hj
    · rw [cn']; omega
    · rw [cn']; omega
  · obtain ⟨j3, k0, k3⟩ := ho j rfl
    have hL := h2 j _ j3 k0 hr
    have t1 : (thr μ' j).1 84 = (wI μ' 84 j (μ'.1 84 j + 1)).1 84 := rfl
    have t2 : ∀ q, q ≠ 84 → (thr μ' j).1 q = μ'.1 q := fun q hq => by show (wI μ' 84 j (μ'.1 84 j + 1)).1 q = _; rw [wI_n hq]
    have t3 : (thr μ' j).2.1 = μ'.2.1 := rfl
    obtain ⟨z, m', hm, I', z0, F'⟩ := hM (thr μ' j) _ rfl (MI_x (μ := μ) ⟨fun q p1 p2 => ⟨by rw [wI_n (by omega)]; rw [t2 q (by omega)]; exact (e84 q (by omega)).1, by rw [wI_L]; exact (e84 q (by omega)).2⟩, fun i p1 p2 => by rw [wI_s, if_neg (by omega)]; rw [t2 85 (by omega), (e84 85 (by omega)).1]⟩ D) wI_e
    refine ⟨nI (cd j), _, z, mth m' (nI (cd j)) j, hL, hm, ?_, fun k => ?_, ev, n, G, V, ?_, ?_, fun i hi => ?_, ?_, ?_⟩
    · unfold mth; rw [wI_n (by omega), wI_e]
    · exact absurd k (by show ¬ nI (cd j) = nI 0; rw [n_eq (by omega) (by omega)]; exact k0)
    · refine CI_x (μ := μ') (fun q p1 p2 => ⟨?_, ?_⟩) C'
      · unfold mth; rw [wI_n (by omega), wI_n (by omega), F'.I (by omega), wI_n (by omega), t2 q (by omega)]
      · unfold mth; rw [wI_L, wI_L, F'.L (by omega), wI_L, t3]
    · exact MI_x (μ := m') ⟨fun q p1 p2 => ⟨by unfold mth; rw [wI_n (by omega), wI_n (by omega)], by unfold mth; rw [wI_L, wI_L]⟩, fun i p1 p2 => by unfold mth; rw [wI_n (by omega), wI_s, if_neg (by omega)]⟩ I'
    · have a1 : m'.1 84 = (wI μ' 84 j (μ'.1 84 j + 1)).1 84 := by rw [F'.I (by omega), wI_n (by omega)]; rfl
      have a2 : m'.1 86 = μ'.1 86 := by rw [F'.I (by omega), wI_n (by omega), t2 86 (by omega)]
      have r1 : ∀ i, i < 3 → μ'.1 84 i = μ'.1 86 i := fun i hi => by rw [(e84 84 (by omega)).1, (e84 86 (by omega)).1]; exact R i hi
      unfold mth
      rw [wI_n (by omega), wI_n (by omega), a1, wI_s, wI_s, wI_n (by omega), a2]
      by_cases q : i = j
      · rw [if_pos q, if_pos q, r1 j j3]
      · rw [if_neg q, if_neg q, r1 i hi]
    · show m'.2.2.1 ≤ _
      rw [F'.2]; show μ'.2.2.1 + 1 ≤ _; rw [cn]; omega
    · show m'.2.2.2 ≤ _
      rw [F'.2]; show μ'.2.2.2 + 6 ≤ _; rw [cn]; omega
theorem QQ_r {β : Type} {ev : Nat → Ev} {n : Nat} {cd : Nat → Nat} {μ : Mem} {r : Option ((β ⊕ String) × Mem)} {M : Mem → Option (β × Mem)} (o : β ⊕ Nat) (z : β) (C : CI ev n μ) (ho : ∀ j, o = .inr j → j < 3 ∧ cd j ≠ 0 ∧ cd j ≤ 3) (hr : r = some (cAn μ o)) (hM : ∀ x m, wI x 85 0 (nI 0) = m → MI ev n m → m.1 85 0 = nI 0 → M x = some (mAn (fun j => nI (cd j)) z m o)) : QQ ev n cd μ r M := ⟨o, μ, ho, hr, C, Fr.rfl', fun x m e D h0 => ⟨z, m, hM x m e D h0, D, h0, Fr.rfl'⟩⟩
theorem ho_l {β : Type} {v : β} {cd : Nat → Nat} : ∀ j, (.inl v : β ⊕ Nat) = .inr j → j < 3 ∧ cd j ≠ 0 ∧ cd j ≤ 3 := fun j h => by cases h
theorem ho_r {β : Type} {i : Nat} {cd : Nat → Nat} (h : i < 3 ∧ cd i ≠ 0 ∧ cd i ≤ 3) : ∀ j, (.inr i : β ⊕ Nat) = .inr j → j < 3 ∧ cd j ≠ 0 ∧ cd j ≤ 3 := fun j e => by cases e; exact h
theorem mWq {a l h : Int32} {b : Bool} (q : inC a l h = b) {L H : Int64} (hl : l.toInt64 = L) (hh : h.toInt64 = H) (m : Mem) : D_X7_within_0 m a.toInt64 L H = some b := by
  rw [← hl, ← hh, ← q]; exact mWi m a l h
/-! the live book -/
theorem K_y0 {μ : Mem} {s : Sp} (H : RC 3 μ s) {l : Nat} (h0 : l < 40) (h1 : isL s l = 0) : μ.1 5 l = -1 := C_y0 H h0 h1
theorem K_yr {μ : Mem} {s : Sp} (H : RC 3 μ s) {l : Nat} (h0 : l < 40) (h1 : isL s l = 1) : μ.1 5 l = nI (yr s l) := C_yr H h0 h1
theorem K_fr {μ : Mem} {s : Sp} (H : RC 3 μ s) {l : Nat} (h0 : l < 40) (h1 : isL s l = 1) : μ.1 6 l = nI (fr s l) := C_fr H h0 h1
theorem K_sz {μ : Mem} {s : Sp} (H : RC 3 μ s) {l : Nat} (h0 : l < 40) (h1 : isL s l = 1) : μ.1 7 l = nI (sz s l) := C_sz H h0 h1
theorem K_tm {μ : Mem} {s : Sp} (H : RC 3 μ s) {l : Nat} (h0 : l < 40) (h1 : isL s l = 1) : μ.1 8 l = nI (tm s l) := C_tm H h0 h1
theorem K_ng {μ : Mem} {s : Sp} (H : RC 3 μ s) {l : Nat} (h0 : l < 40) (h1 : isL s l = 1) : μ.1 10 l = nI (ng s l) := C_ng H h0 h1
theorem K_tt {μ : Mem} {s : Sp} (H : RC 3 μ s) {l : Nat} (h0 : l < 40) (h1 : isL s l = 1) : μ.1 11 l = nI (tnI s l (ng s l)) := C_tt H h0 h1
theorem K_sg {μ : Mem} {s : Sp} (H : RC 3 μ s) {l : Nat} {k : Nat} (h0 : l < 40) (h1 : isL s l = 1) (h2 : k < ng s l) : μ.1 12 (4 * l + k) = nI (sg s (4 * l + k)) := C_sg H h0 h1 h2
theorem K_tn {μ : Mem} {s : Sp} (H : RC 3 μ s) {l : Nat} {k : Nat} (h0 : l < 40) (h1 : isL s l = 1) (h2 : k < ng s l) : μ.1 13 (4 * l + k) = nI (tn s (4 * l + k)) := C_tn H h0 h1 h2
theorem K_hg {μ : Mem} {s : Sp} (H : RC 3 μ s) {y : Nat} (h0 : y < 12) : μ.1 16 y = nI (hg s y) := C_hg H h0
theorem K_rg {μ : Mem} {s : Sp} (H : RC 3 μ s) {y : Nat} {k : Nat} (h0 : y < 12) (h1 : k < hg s y) : μ.1 15 (6 * y + k) = nI (rg s (6 * y + k)) := C_rg H h0 h1
theorem K_lk {μ : Mem} {s : Sp} (H : RC 3 μ s) : μ.1 4 12 = nI (lk s) := C_lk H
theorem K_cL {μ : Mem} {s : Sp} (H : RC 3 μ s) : μ.1 4 13 = nI (cL s) := C_cL H
theorem K_ish {μ : Mem} {s : Sp} (H : RC 3 μ s) {h : Nat} (h0 : h < 24) : μ.1 18 h = nI (isH s h) := C_ish H h0
theorem K_fs {μ : Mem} {s : Sp} (H : RC 3 μ s) {h : Nat} (h0 : h < 24) (h1 : isH s h = 1) : μ.1 19 h = nI (fs s h) := C_fs H h0 h1
theorem K_ls {μ : Mem} {s : Sp} (H : RC 3 μ s) {h : Nat} (h0 : h < 24) (h1 : isH s h = 1) : μ.1 20 h = nI (ls s h) := C_ls H h0 h1
theorem K_sh {μ : Mem} {s : Sp} (H : RC 3 μ s) {h : Nat} (h0 : h < 24) (h1 : isH s h = 1) : μ.1 21 h = nI (sh s h) := C_sh H h0 h1
theorem K_gr {μ : Mem} {s : Sp} (H : RC 3 μ s) {h : Nat} (h0 : h < 24) (h1 : isH s h = 1) : μ.1 23 h = nI (gr s h) := C_gr H h0 h1
theorem K_cH {μ : Mem} {s : Sp} (H : RC 3 μ s) : μ.1 17 12 = nI (cH s) := C_cH H
theorem K_sd {μ : Mem} {s : Sp} (H : RC 3 μ s) {i : Nat} (h0 : i < 10) : μ.1 30 i = nI (sd s i) := C_sd H h0
theorem K_cs {μ : Mem} {s : Sp} (H : RC 3 μ s) {i : Nat} (h0 : i < 10) : μ.1 31 i = nI (cs s i) := C_cs H h0
theorem K_r0 {μ : Mem} {s : Sp} (H : RC 3 μ s) : μ.1 3 4 = nI (ru s 0) := C_r0 H
theorem K_r1 {μ : Mem} {s : Sp} (H : RC 3 μ s) : μ.1 3 5 = nI (ru s 1) := C_r1 H
theorem K_r2 {μ : Mem} {s : Sp} (H : RC 3 μ s) : μ.1 3 6 = nI (ru s 2) := C_r2 H
theorem K_us {μ : Mem} {s : Sp} (H : RC 3 μ s) {l : Nat} (h0 : l < 40) (h1 : isL s l = 1) : μ.2.1 9 l = zL (us s l) := C_us H h0 h1
theorem K_ha {μ : Mem} {s : Sp} (H : RC 3 μ s) {l : Nat} {k : Nat} (h0 : l < 40) (h1 : isL s l = 1) (h2 : k < ng s l) : μ.2.1 14 (4 * l + k) = zL (sm (fun h => hd s (160 * h + 4 * l + k)) 24) := C_ha H h0 h1 h2
theorem K_lo {μ : Mem} {s : Sp} (H : RC 3 μ s) {h : Nat} (h0 : h < 24) (h1 : isH s h = 1) : μ.2.1 22 h = zL (lo s h) := C_lo H h0 h1
theorem K_tk {μ : Mem} {s : Sp} (H : RC 3 μ s) {h : Nat} {l : Nat} (h0 : h < 25) (h1 : isH s h = 1 ∨ h = 24) (h2 : l < 40) : μ.2.1 24 (40 * h + l) = zL (tk s (40 * h + l)) := C_tk H h0 h1 h2
theorem K_th {μ : Mem} {s : Sp} (H : RC 3 μ s) {h : Nat} {l : Nat} (h0 : h < 25) (h1 : isH s h = 1 ∨ h = 24) (h2 : l < 40) : μ.2.1 25 (40 * h + l) = zL (th s (40 * h + l)) := C_th H h0 h1 h2
theorem K_mv {μ : Mem} {s : Sp} (H : RC 3 μ s) {h : Nat} {l : Nat} (h0 : h < 24) (h1 : isH s h = 1) (h2 : l < 40) : μ.2.1 26 (40 * h + l) = zL (mv s (40 * h + l)) := C_mv H h0 h1 h2
theorem K_hd {μ : Mem} {s : Sp} (H : RC 3 μ s) {h : Nat} {j : Nat} (h0 : h < 24) (h1 : isH s h = 1) (h2 : j < 160) : μ.2.1 27 (160 * h + j) = zL (hd s (160 * h + j)) := C_hd H h0 h1 h2
theorem K_br {μ : Mem} {s : Sp} (H : RC 3 μ s) {h : Nat} {i : Nat} (h0 : h < 24) (h1 : isH s h = 1) (h2 : i < 10) (h3 : 0 < i) : μ.2.1 28 (10 * h + i) = zL (br s (10 * h + i)) := C_br H h0 h1 h2 h3
theorem K_b0 {μ : Mem} {s : Sp} (H : RC 3 μ s) {h : Nat} (h0 : h < 24) (h1 : isH s h = 1) : μ.2.1 28 (10 * h) = zL (sm (fun r => fl s (7 * h + r)) 7) := C_b0 H h0 h1
theorem K_fl {μ : Mem} {s : Sp} (H : RC 3 μ s) {h : Nat} {r : Nat} (h0 : h < 24) (h1 : isH s h = 1) (h2 : r < 7) : μ.2.1 29 (7 * h + r) = zL (fl s (7 * h + r)) := C_fl H h0 h1 h2
