/-! memory, ends, calls -/
theorem wd_I {G : GX} {μ : Mem} {q n : Nat} (h : (gt G)[q]? = some (.inl (0, n))) : (wd G μ)[q]? = some (gb G + q, .inl (gc G 0, n, .inl (μ.1 q))) := wd_at h
theorem wd_L {G : GX} {μ : Mem} {q n : Nat} (h : (gt G)[q]? = some (.inl (1, n))) : (wd G μ)[q]? = some (gb G + q, .inl (gc G 1, n, .inr (.inl (μ.2.1 q)))) := wd_at h
theorem wd_Z {G : GX} {μ : Mem} {q n : Nat} (h : (gt G)[q]? = some (.inl (2, n))) : (wd G μ)[q]? = some (gb G + q, .inl (gc G 2, n, .inl (μ.1 q))) := wd_at h
theorem wd_O {G : GX} {μ : Mem} {q ci : Nat} {fs : List (Option (Option Nat))} (h : (gt G)[q]? = some (.inr (ci, fs))) : (wd G μ)[q]? = some (gb G + q, .inr (ci, flds G μ q 0 fs)) := wd_at h
theorem V_iaload {G : GX} {M : MT} {pc : Nat} {lv : List (Option Value)} {st : List Value} {μ μ1 : Mem} {o : Ou} {q n : Nat} {i : Int32} (d : decode (mC M) pc = .ok (.iaload, 1)) (hq : (gt G)[q]? = some (.inl (0, n))) (hi : vp_in i n) (k : V G M (pc + 1) lv (.int (μ.1 q i.toNatClampNeg) :: st) μ o μ1) : V G M pc lv (.int i :: .ref q :: st) μ o μ1 := ⟨k.1, fun p e R s m args below meth c H locs cells slots ls F hl hP hS h1 h2 => va_iald F.1 F.2.1 F.2.2.2.2.2.2.2.2.2.2.1.1 hP q 0 (wd_I hq) rfl hi d (k.2 p e R s m args below meth c H locs cells slots ls F hl hP hS h1 h2)⟩
theorem V_laload {G : GX} {M : MT} {pc : Nat} {lv : List (Option Value)} {st : List Value} {μ μ1 : Mem} {o : Ou} {q n : Nat} {i : Int32} (d : decode (mC M) pc = .ok (.laload, 1)) (hq : (gt G)[q]? = some (.inl (1, n))) (hi : vp_in i n) (k : V G M (pc + 1) lv (.long (μ.2.1 q i.toNatClampNeg) :: st) μ o μ1) : V G M pc lv (.int i :: .ref q :: st) μ o μ1 := ⟨k.1, fun p e R s m args below meth c H locs cells slots ls F hl hP hS h1 h2 => va_lald F.1 F.2.1 F.2.2.2.2.2.2.2.2.2.2.1.1 hP q 1 (wd_L hq) rfl hi d (k.2 p e R s m args below meth c H locs cells slots ls F hl hP hS h1 h2)⟩
theorem V_baload {G : GX} {M : MT} {pc : Nat} {lv : List (Option Value)} {st : List Value} {μ μ1 : Mem} {o : Ou} {q n : Nat} {i : Int32} (d : decode (mC M) pc = .ok (.baload, 1)) (hq : (gt G)[q]? = some (.inl (2, n))) (hi : vp_in i n) (k : V G M (pc + 1) lv (.int (μ.1 q i.toNatClampNeg) :: st) μ o μ1) : V G M pc lv (.int i :: .ref q :: st) μ o μ1 := ⟨k.1, fun p e R s m args below meth c H locs cells slots ls F hl hP hS h1 h2 => va_zald F.1 F.2.1 F.2.2.2.2.2.2.2.2.2.2.1.1 hP q 2 (wd_Z hq) rfl hi d (k.2 p e R s m args below meth c H locs cells slots ls F hl hP hS h1 h2)⟩
theorem V_iastore {G : GX} {M : MT} {pc : Nat} {lv : List (Option Value)} {st : List Value} {μ μ1 : Mem} {o : Ou} {q n : Nat} {i x : Int32} (d : decode (mC M) pc = .ok (.iastore, 1)) (hq : (gt G)[q]? = some (.inl (0, n))) (hi : vp_in i n) {μ2 : Mem} (hw9 : wI μ q i.toNatClampNeg x = μ2) (k : V G M (pc + 1) lv st μ2 o μ1) : V G M pc lv (.int x :: .int i :: .ref q :: st) μ o μ1 := by
  subst hw9
  exact ⟨k.1, fun p e R s m args below meth c H locs cells slots ls F hl hP hS h1 h2 => va_iast F.1 F.2.1 F.2.2.2.2.2.2.2.2.2.2.1.1 hP (wd_D G μ) hS q 0 (wd_I hq) rfl hi d (fun H locs hP _ hS => by
  rw [wd_set (G := G) (μ := μ) (μ' := wI μ q i.toNatClampNeg x) hq (by simp [ent, wI]) (fun c' hc => by simp [wI, hc]) (fun c' hc => rfl)] at hP
  exact k.2 p e R s m args below meth c H locs cells slots ls F hl hP hS h1 h2)⟩
theorem V_bastore {G : GX} {M : MT} {pc : Nat} {lv : List (Option Value)} {st : List Value} {μ μ1 : Mem} {o : Ou} {q n : Nat} {i x : Int32} (d : decode (mC M) pc = .ok (.bastore, 1)) (hq : (gt G)[q]? = some (.inl (2, n))) (hi : vp_in i n) {μ2 : Mem} (hw9 : wI μ q i.toNatClampNeg (vp_nar .boolean x) = μ2) (k : V G M (pc + 1) lv st μ2 o μ1) : V G M pc lv (.int x :: .int i :: .ref q :: st) μ o μ1 := by
  subst hw9
  exact ⟨k.1, fun p e R s m args below meth c H locs cells slots ls F hl hP hS h1 h2 => va_zast F.1 F.2.1 F.2.2.2.2.2.2.2.2.2.2.1.1 hP (wd_D G μ) hS q 2 (wd_Z hq) rfl hi d (fun H locs hP _ hS => by
  rw [wd_set (G := G) (μ := μ) (μ' := wI μ q i.toNatClampNeg (vp_nar .boolean x)) hq (by simp [ent, wI]) (fun c' hc => by simp [wI, hc]) (fun c' hc => rfl)] at hP
  exact k.2 p e R s m args below meth c H locs cells slots ls F hl hP hS h1 h2)⟩
theorem V_lastore {G : GX} {M : MT} {pc : Nat} {lv : List (Option Value)} {st : List Value} {μ μ1 : Mem} {o : Ou} {q n : Nat} {i : Int32} {x : Int64} (d : decode (mC M) pc = .ok (.lastore, 1)) (hq : (gt G)[q]? = some (.inl (1, n))) (hi : vp_in i n) {μ2 : Mem} (hw9 : wL μ q i.toNatClampNeg x = μ2) (k : V G M (pc + 1) lv st μ2 o μ1) : V G M pc lv (.long x :: .int i :: .ref q :: st) μ o μ1 := by
  subst hw9
  exact ⟨k.1, fun p e R s m args below meth c H locs cells slots ls F hl hP hS h1 h2 => va_last F.1 F.2.1 F.2.2.2.2.2.2.2.2.2.2.1.1 hP (wd_D G μ) hS q 1 (wd_L hq) rfl hi d (fun H locs hP _ hS => by
  rw [wd_set (G := G) (μ := μ) (μ' := wL μ q i.toNatClampNeg x) hq (by simp [ent, wL]) (fun c' hc => rfl) (fun c' hc => by simp [wL, hc])] at hP
  exact k.2 p e R s m args below meth c H locs cells slots ls F hl hP hS h1 h2)⟩
theorem V_sload {G : GX} {M : MT} {pc : Nat} {lv : List (Option Value)} {st : List Value} {μ μ1 : Mem} {o : Ou} {i : Int32} (d : decode (mC M) pc = .ok (.iaload, 1)) (hi : vp_in i (gn G)) (k : V G M (pc + 1) lv (.int (gx G i.toNatClampNeg) :: st) μ o μ1) : V G M pc lv (.int i :: .null :: st) μ o μ1 := ⟨k.1, fun p e R s m args below meth c H locs cells slots ls F hl hP hS h1 h2 => va_sld F.1 F.2.1 F.2.2.2.2.2.2.2.2.2.2.2.1 (Nat.lt_of_lt_of_le F.2.2.2.2.2.2.2.2.2.2.2.2.1 F.2.2.2.2.2.2.2.2.2.2.2.2.2.1) (Nat.not_le.mpr F.2.2.2.2.2.2.2.2.2.2.2.2.1) hS hi d (k.2 p e R s m args below meth c H locs cells slots ls F hl hP hS h1 h2)⟩
theorem V_slen {G : GX} {M : MT} {pc : Nat} {lv : List (Option Value)} {st : List Value} {μ μ1 : Mem} {o : Ou} (d : decode (mC M) pc = .ok (.arraylength, 1)) (k : V G M (pc + 1) lv (.int (Int32.ofNat (gn G)) :: st) μ o μ1) : V G M pc lv (.null :: st) μ o μ1 := ⟨k.1, fun p e R s m args below meth c H locs cells slots ls F hl hP hS h1 h2 => va_slen F.1 F.2.1 F.2.2.2.2.2.2.2.2.2.2.2.1 (Nat.lt_of_lt_of_le F.2.2.2.2.2.2.2.2.2.2.2.2.1 F.2.2.2.2.2.2.2.2.2.2.2.2.2.1) (Nat.not_le.mpr F.2.2.2.2.2.2.2.2.2.2.2.2.1) hS d (k.2 p e R s m args below meth c H locs cells slots ls F hl hP hS h1 h2)⟩
/-- what the tables must say of a class, to read and write its fields -/
def kOK (ci : Nat) (C : String) (X : u_T) (N : Nat) (ty : Nat → FieldType) : Prop := vwCl[ci]? = some (C, X, N) ∧ (∀ w ∈ u_ws C X N, w ∈ bigW) ∧ (∀ k, k < N → parseFieldDescriptor (X k).2.2.1 = some (ty k)) ∧ ∀ a, a < N → ∀ b, b < N → a ≠ b → (X a).2.1 ≠ (X b).2.1
theorem V_getI {G : GX} {M : MT} {pc : Nat} {lv : List (Option Value)} {st : List Value} {μ μ1 : Mem} {o : Ou} {ci N q kf idx : Nat} {C : String} {X : u_T} {ty : Nat → FieldType} {fs : List (Option (Option Nat))} (hk : kOK ci C X N ty) (hN : kf < N) (hw : Cond.fieldLink (mO M) idx C (X kf).2.1 (X kf).2.2.1 ∈ bigW) (hC : (X kf).1 = C) (d : decode (mC M) pc = .ok (.getfield idx, 3)) (hq : (gt G)[q]? = some (.inr (ci, fs))) (hf : fs[kf]? = some none) (k : V G M (pc + 3) lv (.int (μ.1 q kf) :: st) μ o μ1) : V G M pc lv (.ref q :: st) μ o μ1 := ⟨k.1, fun p e R s m args below meth c H locs cells slots ls F hl hP hS h1 h2 => va_get (v := .int (μ.1 q kf)) F.1 F.2.1 F.2.2.2.2.2.1 hk.2.1 F.2.2.2.2.1 F.2.2.2.2.2.2.2.2.2.2.1.1 hP q (wd_O hq) hk.1 kf hN (F.2.2.2.2.2.1 _ hw) (fun x hx => by rw [hC] at hx; exact hx) (by rw [flds_get, hf]; simp) d (k.2 p e R s m args below meth c H locs cells slots ls F hl hP hS h1 h2)⟩
theorem V_getR {G : GX} {M : MT} {pc : Nat} {lv : List (Option Value)} {st : List Value} {μ μ1 : Mem} {o : Ou} {ci N q kf idx r : Nat} {C : String} {X : u_T} {ty : Nat → FieldType} {fs : List (Option (Option Nat))} (hk : kOK ci C X N ty) (hN : kf < N) (hw : Cond.fieldLink (mO M) idx C (X kf).2.1 (X kf).2.2.1 ∈ bigW) (hC : (X kf).1 = C) (d : decode (mC M) pc = .ok (.getfield idx, 3)) (hq : (gt G)[q]? = some (.inr (ci, fs))) (hf : fs[kf]? = some (some (some r))) (k : V G M (pc + 3) lv (.ref r :: st) μ o μ1) : V G M pc lv (.ref q :: st) μ o μ1 := ⟨k.1, fun p e R s m args below meth c H locs cells slots ls F hl hP hS h1 h2 => va_get (v := .ref (gb G + r)) F.1 F.2.1 F.2.2.2.2.2.1 hk.2.1 F.2.2.2.2.1 F.2.2.2.2.2.2.2.2.2.2.1.1 hP q (wd_O hq) hk.1 kf hN (F.2.2.2.2.2.1 _ hw) (fun x hx => by rw [hC] at hx; exact hx) (by rw [flds_get, hf]; simp) d (k.2 p e R s m args below meth c H locs cells slots ls F hl hP hS h1 h2)⟩
theorem V_putI {G : GX} {M : MT} {pc : Nat} {lv : List (Option Value)} {st : List Value} {μ μ1 : Mem} {o : Ou} {ci N q kf idx : Nat} {x : Int32} {C : String} {X : u_T} {ty : Nat → FieldType} {fs : List (Option (Option Nat))} (hk : kOK ci C X N ty) (hN : kf < N) (hw : Cond.fieldLink (mO M) idx C (X kf).2.1 (X kf).2.2.1 ∈ bigW) (hC : (X kf).1 = C) (hfin : (X kf).2.2.2 = false) (hd : parseFieldDescriptor (X kf).2.2.1 = some .int) (d : decode (mC M) pc = .ok (.putfield idx, 3)) (hq : (gt G)[q]? = some (.inr (ci, fs))) (hf : fs[kf]? = some none) {μ2 : Mem} (hw9 : wI μ q kf x = μ2) (k : V G M (pc + 3) lv st μ2 o μ1) : V G M pc lv (.int x :: .ref q :: st) μ o μ1 := by
  subst hw9
  exact ⟨k.1, fun p e R s m args below meth c H locs cells slots ls F hl hP hS h1 h2 => va_put (v := .int x) (ty := .int) F.1 F.2.1 F.2.2.2.2.2.1 hk.2.1 ty hk.2.2.1 hk.2.2.2 F.2.2.2.2.1 F.2.2.2.2.2.2.2.2.2.2.1.1 hP (wd_D G μ) hS q (wd_O hq) hk.1 kf hN (F.2.2.2.2.2.1 _ hw) (fun x hx => by rw [hC] at hx; exact hx) hfin hd rfl rfl (by rw [flds_len]; exact (List.getElem?_eq_some_iff.mp hf).1) d (fun H locs hP _ hS => by
  rw [wd_set (G := G) (μ := μ) (μ' := wI μ q kf x) hq (by simp only [ent]; rw [flds_set hf]) (fun c' hc => by simp [wI, hc]) (fun c' hc => rfl)] at hP
  exact k.2 p e R s m args below meth c H locs cells slots ls F hl hP hS h1 h2)⟩
theorem V_end {G : GX} {M : MT} {o : Ou} {μ : Mem} {p : Program} {R : Room} {s : State} {m : MethodId} {args : Array Value} {meth : Method} {c : Code} {H : Heap} {locs : List Loc} (v : Option Value) (ho : o = .inl v) (hP : va_P (gd G) vwCl (wd G μ) H) (hS : va_S (gA G) s.heap H locs) : ∀ t : State, t.heap = H → s.WarmedH t.vm → gQ G o μ args s (.returned (v.map (trv G))) t := fun t ht _ => ⟨⟨v, ho, rfl⟩, by rw [ht]; exact hP, hS.F ht⟩
theorem V_iret {G : GX} {M : MT} {pc : Nat} {lv : List (Option Value)} {μ : Mem} {x : Int32} (hr : mR M = some .int) (d : decode (mC M) pc = .ok (.ireturn, 1)) : V G M pc lv [.int x] μ (.inl (some (.int x))) μ := ⟨⟨Nat.le_refl _, Nat.le_refl _⟩, fun p e R s m args below meth c H locs cells slots ls F hl hP hS h1 h2 => vx_ret (W.widen (k := R.cells) (n := R.slots) (by omega) (by omega) (W.iret F.1 F.2.1 (F.2.2.1.trans hr) (V_end (M := M) (p := p) (R := R) (m := m) (meth := meth) (c := c) (some (.int x)) rfl hP hS) hS.2.2 d F.2.2.2.2.2.2.2.1))⟩
theorem V_zret {G : GX} {M : MT} {pc : Nat} {lv : List (Option Value)} {μ : Mem} {x : Int32} (hr : mR M = some .boolean) (hx : narrow .boolean (.int x) = .int x) (d : decode (mC M) pc = .ok (.ireturn, 1)) : V G M pc lv [.int x] μ (.inl (some (.int x))) μ := ⟨⟨Nat.le_refl _, Nat.le_refl _⟩, fun p e R s m args below meth c H locs cells slots ls F hl hP hS h1 h2 => vx_ret (W.widen (k := R.cells) (n := R.slots) (by omega) (by omega) (W.zret F.1 F.2.1 (F.2.2.1.trans hr) hx (V_end (M := M) (p := p) (R := R) (m := m) (meth := meth) (c := c) (some (.int x)) rfl hP hS) hS.2.2 d F.2.2.2.2.2.2.2.1))⟩
theorem V_lret {G : GX} {M : MT} {pc : Nat} {lv : List (Option Value)} {μ : Mem} {x : Int64} (hr : mR M = some .long) (d : decode (mC M) pc = .ok (.lreturn, 1)) : V G M pc lv [.long x] μ (.inl (some (.long x))) μ := ⟨⟨Nat.le_refl _, Nat.le_refl _⟩, fun p e R s m args below meth c H locs cells slots ls F hl hP hS h1 h2 => vx_ret (W.widen (k := R.cells) (n := R.slots) (by omega) (by omega) (W.lret F.1 F.2.1 (F.2.2.1.trans hr) (V_end (M := M) (p := p) (R := R) (m := m) (meth := meth) (c := c) (some (.long x)) rfl hP hS) hS.2.2 d F.2.2.2.2.2.2.2.1))⟩
theorem V_vret {G : GX} {M : MT} {pc : Nat} {lv : List (Option Value)} {μ : Mem} (hr : mR M = none) (d : decode (mC M) pc = .ok (.return_, 1)) : V G M pc lv [] μ (.inl none) μ := ⟨⟨Nat.le_refl _, Nat.le_refl _⟩, fun p e R s m args below meth c H locs cells slots ls F hl hP hS h1 h2 => vx_ret (W.widen (k := R.cells) (n := R.slots) (by omega) (by omega) (W.vret F.1 F.2.1 (F.2.2.1.trans hr) (V_end (M := M) (p := p) (R := R) (m := m) (meth := meth) (c := c) none rfl hP hS) hS.2.2 d F.2.2.2.2.2.2.2.1))⟩
theorem nar_bool {x : Int32} (h : x = 0 ∨ x = 1) : narrow .boolean (.int x) = .int x := by rcases h with rfl | rfl <;> decide
theorem nar_boolV {x : Int32} (h : x = 0 ∨ x = 1) : vp_nar .boolean x = x := by rcases h with rfl | rfl <;> decide
/-- a computed number gets a name -/
theorem V_topi {G : GX} {M : MT} {pc : Nat} {lv : List (Option Value)} {st : List Value} {μ μ1 : Mem} {o : Ou} {x v : Int32} (h : v = x) (k : V G M pc lv (.int v :: st) μ o μ1) : V G M pc lv (.int x :: st) μ o μ1 := h ▸ k
theorem V_topl {G : GX} {M : MT} {pc : Nat} {lv : List (Option Value)} {st : List Value} {μ μ1 : Mem} {o : Ou} {x v : Int64} (h : v = x) (k : V G M pc lv (.long v :: st) μ o μ1) : V G M pc lv (.long x :: st) μ o μ1 := h ▸ k
def vl {α β : Type} (a : α) (k : α → β) : β := k a
theorem vl_o {α β : Type} {a : α} {k : α → Option β} {r : β} (h : vl a k = some r) : ∃ z, z = a ∧ k z = some r := ⟨a, rfl, h⟩
theorem bi_o {α β : Type} {x : Option α} {f : α → Option β} {r : β} (h : x.bind f = some r) : ∃ v, x = some v ∧ f v = some r := by
  cases x with
  | none => cases h
  | some v => exact ⟨v, rfl, h⟩
theorem if_o {β : Type} {c : Prop} [Decidable c] {a : Option β} {r : β} (h : (if c then a else none) = some r) : c ∧ a = some r := by
  by_cases hc : c
  · rw [if_pos hc] at h; exact ⟨hc, h⟩
  · rw [if_neg hc] at h; cases h
/-- an index lies in its array -/
def ib (i : Int32) (n : Nat) : Bool := decide (¬ (i < 0 ∨ n ≤ i.toNatClampNeg))
theorem ib_in {i : Int32} {n : Nat} (h : ib i n = true) : vp_in i n := (of_decide_eq_true h : ¬ (i < 0 ∨ n ≤ i.toNatClampNeg))
def b2i (b : Bool) : Int32 := if b then 1 else 0
theorem b2i_01 (b : Bool) : b2i b = 0 ∨ b2i b = 1 := by cases b <;> decide
theorem b2i_t {b : Bool} : b = true ↔ ¬ b2i b = 0 := by cases b <;> decide
theorem b2i_f {b : Bool} : ¬ b = true ↔ b2i b = 0 := by cases b <;> decide
theorem b2i_nar (b : Bool) : narrow .boolean (.int (b2i b)) = .int (b2i b) := nar_bool (b2i_01 b)
theorem lc_lt (x y : Int64) : lg_cmp x y < 0 ↔ x < y := by
  unfold lg_cmp
  by_cases h1 : x > y
  · rw [if_pos h1]; exact ⟨fun h => absurd h (by decide), fun h => absurd h (lg_lt_not h1)⟩
  · rw [if_neg h1]
    by_cases h2 : x = y
    · rw [if_pos h2]; subst h2; exact ⟨fun h => absurd h (by decide), fun h => absurd h h1⟩
    · rw [if_neg h2]; refine ⟨fun _ => ?_, fun _ => by decide⟩
      have h3 : ¬ x.toInt = y.toInt := fun z => h2 (Int64.toInt_inj.mp z)
      have h4 : ¬ y < x := h1
      rw [Int64.lt_iff_toInt_lt] at h4 ⊢
      omega
theorem lc_gt (x y : Int64) : 0 < lg_cmp x y ↔ y < x := by
  unfold lg_cmp
  by_cases h1 : x > y
  · rw [if_pos h1]; exact ⟨fun _ => h1, fun _ => by decide⟩
  · rw [if_neg h1]
    by_cases h2 : x = y
    · rw [if_pos h2]; exact ⟨fun h => absurd h (by decide), fun h => absurd h h1⟩
    · rw [if_neg h2]; exact ⟨fun h => absurd h (by decide), fun h => absurd h h1⟩
theorem lc_eq (x y : Int64) : lg_cmp x y = 0 ↔ x = y := by
  unfold lg_cmp
  by_cases h1 : x > y
  · rw [if_pos h1]; exact ⟨fun h => absurd h (by decide), fun h => by subst h; exact absurd h1 Int64.lt_irrefl⟩
  · rw [if_neg h1]
    by_cases h2 : x = y
    · rw [if_pos h2]; exact ⟨fun _ => h2, fun _ => rfl⟩
    · rw [if_neg h2]; exact ⟨fun h => absurd h (by decide), fun h => absurd h h2⟩
theorem lc_le (x y : Int64) : lg_cmp x y ≤ 0 ↔ x ≤ y := by rw [← Int32.not_lt, lc_gt, Int64.not_lt]
theorem lc_ge (x y : Int64) : 0 ≤ lg_cmp x y ↔ y ≤ x := by rw [← Int32.not_lt, lc_lt, Int64.not_lt]
/-- outcomes -/
def ouI : Int32 ⊕ String → Ou
  | .inl v => .inl (some (.int v))
  | .inr E => .inr E
def ouL : Int64 ⊕ String → Ou
  | .inl v => .inl (some (.long v))
  | .inr E => .inr E
def ouV : Unit ⊕ String → Ou
  | .inl _ => .inl none
  | .inr E => .inr E
/-- a table's default -/
theorem tab_out {x : Int32} {lo : Int} (n : Nat) (hi : Int) (hn : hi + 1 = lo + n) (h : ∀ j : Nat, j < n → ¬ x.toInt = lo + j) : x.toInt < lo ∨ hi < x.toInt := by
  by_cases h1 : x.toInt < lo
  · exact Or.inl h1
  · refine Or.inr ?_
    by_cases h2 : hi < x.toInt
    · exact h2
    · exact absurd (by omega) (h (x.toInt - lo).toNat (by omega))
