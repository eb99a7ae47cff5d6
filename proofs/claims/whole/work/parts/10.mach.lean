/-- the cells in the order in which they are made -/
def tbl : List ((Nat × Nat) ⊕ (Nat × List (Option (Option Nat)))) := [.inr (6, [some (some 1), some (some 3), some (some 32), some (some 61), some (some 84)]),
  .inr (2, [some (some 2), none]),
  .inl (0, 960),
  .inr (0, [some (some 4), some (some 17), some (some 30), some (some 31), none, none, none]),
  .inr (5, [some (some 5), some (some 6), some (some 7), some (some 8), some (some 9), some (some 10), some (some 11), some (some 12), some (some 13), some (some 14), some (some 15), some (some 16), none, none]),
  .inl (0, 40),
  .inl (0, 40),
  .inl (0, 40),
  .inl (0, 40),
  .inl (1, 40),
  .inl (0, 40),
  .inl (0, 40),
  .inl (0, 160),
  .inl (0, 160),
  .inl (1, 160),
  .inl (0, 72),
  .inl (0, 12),
  .inr (1, [some (some 18), some (some 19), some (some 20), some (some 21), some (some 22), some (some 23), some (some 24), some (some 25), some (some 26), some (some 27), some (some 28), some (some 29), none]),
  .inl (2, 24),
  .inl (0, 24),
  .inl (0, 24),
  .inl (0, 24),
  .inl (1, 24),
  .inl (0, 24),
  .inl (1, 1000),
  .inl (1, 1000),
  .inl (1, 960),
  .inl (1, 3840),
  .inl (1, 240),
  .inl (1, 168),
  .inl (0, 10),
  .inl (0, 10),
  .inr (0, [some (some 33), some (some 46), some (some 59), some (some 60), none, none, none]),
  .inr (5, [some (some 34), some (some 35), some (some 36), some (some 37), some (some 38), some (some 39), some (some 40), some (some 41), some (some 42), some (some 43), some (some 44), some (some 45), none, none]),
  .inl (0, 40),
  .inl (0, 40),
  .inl (0, 40),
  .inl (0, 40),
  .inl (1, 40),
  .inl (0, 40),
  .inl (0, 40),
  .inl (0, 160),
  .inl (0, 160),
  .inl (1, 160),
  .inl (0, 72),
  .inl (0, 12),
  .inr (1, [some (some 47), some (some 48), some (some 49), some (some 50), some (some 51), some (some 52), some (some 53), some (some 54), some (some 55), some (some 56), some (some 57), some (some 58), none]),
  .inl (2, 24),
  .inl (0, 24),
  .inl (0, 24),
  .inl (0, 24),
  .inl (1, 24),
  .inl (0, 24),
  .inl (1, 1000),
  .inl (1, 1000),
  .inl (1, 960),
  .inl (1, 3840),
  .inl (1, 240),
  .inl (1, 168),
  .inl (0, 10),
  .inl (0, 10),
  .inr (4, [some (some 62), some (some 69), some (some 76), some (some 77), some (some 78), some (some 79), some (some 80), none, some (some 81), some (some 82), some (some 83)]),
  .inr (3, [some (some 63), some (some 64), some (some 65), some (some 66), some (some 67), some (some 68)]),
  .inl (1, 40),
  .inl (1, 40),
  .inl (1, 40),
  .inl (1, 160),
  .inl (1, 10),
  .inl (1, 7),
  .inr (3, [some (some 70), some (some 71), some (some 72), some (some 73), some (some 74), some (some 75)]),
  .inl (1, 40),
  .inl (1, 40),
  .inl (1, 40),
  .inl (1, 160),
  .inl (1, 10),
  .inl (1, 7),
  .inl (1, 12),
  .inl (1, 12),
  .inl (1, 12),
  .inl (1, 12),
  .inl (0, 12),
  .inl (1, 40),
  .inl (1, 40),
  .inl (1, 40),
  .inl (0, 3),
  .inr (7, [none, some (some 86), some (some 87), some (some 88), some (some 89), none, some (some 90), some (some 91), some (some 92), some (some 93), some (some 94), some (some 95), some (some 96), some (some 97), some (some 98), some (some 99), some (some 100), some (some 101), some (some 102), some (some 103), some (some 104), some (some 105), some (some 106), some (some 107), some (some 108), some (some 109), some (some 110), some (some 111), some (some 112), none, none, none, none, some (some 113), some (some 114), some (some 115), some (some 116), some (some 117), some (some 118), some (some 119), some (some 120), some (some 121), some (some 122), some (some 123), some (some 124), some (some 125), some (some 126), some (some 127), none, none]),
  .inl (0, 3),
  .inl (0, 160),
  .inl (0, 160),
  .inl (0, 640),
  .inl (2, 40),
  .inl (2, 25),
  .inl (0, 40),
  .inl (0, 40),
  .inl (0, 40),
  .inl (0, 40),
  .inl (0, 40),
  .inl (0, 160),
  .inl (0, 160),
  .inl (1, 40),
  .inl (0, 25),
  .inl (0, 25),
  .inl (0, 25),
  .inl (0, 25),
  .inl (1, 25),
  .inl (1, 1000),
  .inl (1, 1000),
  .inl (1, 1000),
  .inl (0, 4000),
  .inl (1, 250),
  .inl (1, 175),
  .inl (0, 10),
  .inl (0, 10),
  .inl (0, 72),
  .inl (0, 12),
  .inl (0, 40),
  .inl (1, 40),
  .inl (1, 40),
  .inl (1, 40),
  .inl (1, 40),
  .inl (1, 12),
  .inl (0, 12),
  .inl (1, 40),
  .inl (1, 40),
  .inl (1, 40),
  .inl (1, 7),
  .inl (1, 40),
  .inl (1, 12),
  .inl (1, 1)]
/-- words of the tables that a call does not hand on by itself -/
def xw : List Cond := [.superclass "java/lang/Throwable" "java/lang/Object",
  .declares ⟨"java/lang/RuntimeException", "<init>", "(Ljava/lang/String;)V"⟩,
  .declares ⟨"java/lang/Exception", "<init>", "(Ljava/lang/String;)V"⟩,
  .declares ⟨"java/lang/Throwable", "<init>", "(Ljava/lang/String;)V"⟩,
  .castable "java/util/NoSuchElementException" "java/util/NoSuchElementException",
  .castable "java/lang/IllegalArgumentException" "java/lang/IllegalArgumentException",
  .castable "java/lang/IllegalStateException" "java/lang/IllegalStateException",
  .methodLinkNest "TallTowers$Book" 79 ⟨"TallTowers", "yearsSetOff", "(IIII)I"⟩ "TallTowers",
  .methodLinkNest "TallTowers$Spreader" 110 ⟨"TallTowers", "shareOut", "(J[JI[J)V"⟩ "TallTowers"]
def wmk : Cond → Bool
  | .superclass .. => true
  | .declares _ => true
  | .castable .. => true
  | .methodLinkNest .. => true
  | _ => false
theorem sup_moved {C D : String} {s U : State} (h : s.vm.Alike U.vm) (hs : (Cond.superclass C D).before #[] s = true) : (Cond.superclass C D).before #[] U = true := by
  have hs' : (Cond.superclass C D).holds #[] s none s [] = true := hs
  cases hc : s.vm.findClass C with
  | none => simp [Cond.holds, Cond.value, hc] at hs'
  | some c =>
    obtain ⟨p, k, kp, h1, h2, h3, h4, h5, h6, h7⟩ := Cond.superclass_spec hc hs'
    obtain ⟨k', hk', he⟩ := h.2.2 _ _ h2
    obtain ⟨kp', hkp', hep⟩ := h.2.2 _ _ h3
    have e1 : k'.super = some p := by rw [he]; exact h4
    have e2 : k'.kind = .ordinary := by rw [he]; exact h5
    have e3 : kp'.kind = .ordinary := by rw [hep]; exact h6
    have e4 : k'.isInterface = false := by rw [he]; exact h7
    have f1 : U.vm.findClass C = some c := by rw [h.findClass]; exact hc
    have f2 : U.vm.findClass D = some p := by rw [h.findClass]; exact h1
    show (Cond.superclass C D).holds #[] U none U [] = true
    simp [Cond.holds, Cond.value, f1, f2, hk', hkp', e1, e2, e3, e4]
theorem wmk_warm {w : Cond} {s U : State} (hk : wmk w = true) (hW : s.WarmedH U.vm) (h : va_Nw w s) : va_Nw w U := by
  cases w <;> simp only [wmk, Bool.false_eq_true] at hk
  case superclass C D => exact sup_moved hW.alike h
  case declares x => exact va_Nw.warmD hW h
  case castable C D => exact va_Nw.warmC hW h
  case methodLinkNest a i x q => exact va_Nw.warmM hW h
theorem xw_ok : xw.all wmk = true := by decide +kernel
theorem xw_tab : xw.all (fun w => w.onTables) = true := by decide +kernel
def xn : List (String × String) := [("java/util/NoSuchElementException", "java/lang/IllegalArgumentException"), ("java/util/NoSuchElementException", "java/lang/IllegalStateException"), ("java/lang/IllegalArgumentException", "java/util/NoSuchElementException"), ("java/lang/IllegalArgumentException", "java/lang/IllegalStateException"), ("java/lang/IllegalStateException", "java/util/NoSuchElementException"), ("java/lang/IllegalStateException", "java/lang/IllegalArgumentException")]
def tx0 : String := "no such layer, harm or event"
def tx1 : String := "an argument is out of its bounds"
def tx2 : String := "this can't be done now"
/-- what the tables say beside the good words -/
def gT (U : State) : Prop := (∀ w ∈ xw, va_Nw w U) ∧ (∀ q ∈ xn, va_Nc q.1 q.2 U) ∧ (∃ a : Nat, vk_R "TallTowers" 362 tx0 a U) ∧ (∃ a : Nat, vk_R "TallTowers" 369 tx1 a U) ∧ ∃ a : Nat, vk_R "TallTowers" 374 tx2 a U
theorem gT_warm {s U : State} (hW : s.WarmedH U.vm) (h : gT s) : gT U := by
  obtain ⟨h1, h2, ⟨a, h3⟩, ⟨b, h4⟩, ⟨c, h5⟩⟩ := h
  exact ⟨fun w hw => wmk_warm (List.all_eq_true.mp xw_ok w hw) hW (h1 w hw), fun q hq => va_Nc.moved hW.alike (h2 q hq), ⟨a, vk_R.warm hW h3⟩, ⟨b, vk_R.warm hW h4⟩, ⟨c, vk_R.warm hW h5⟩⟩
/-! THE MACHINE LAYER: one world for all methods: the cells of the desk, of the model and of 'out', in the order in which they are made; V: from this frame and this memory the method comes to that outcome and that memory -/
/-- a memory: whole numbers of a cell's places, longs of a cell's places, how many cells and slots were made -/
abbrev Mem : Type := (Nat → Nat → Int32) × (Nat → Nat → Int64) × Nat × Nat
/-- what a cell is: an array (0 int, 1 long, 2 boolean; its length), or an object (its class's number; its fields: none: an int; some none: null; else a cell's number) -/
abbrev Ent : Type := (Nat × Nat) ⊕ (Nat × List (Option (Option Nat)))
/-- launch, first cell, the script's cell, its length, its ints, classes and slots, array classes -/
abbrev GX : Type := Launch × Nat × Nat × Nat × (Nat → Int32) × va_G × (Nat → ClassId) × List Ent
def gl (G : GX) : Launch := G.1
def gb (G : GX) : Nat := G.2.1
def gs (G : GX) : Nat := G.2.2.1
def gn (G : GX) : Nat := G.2.2.2.1
def gx (G : GX) : Nat → Int32 := G.2.2.2.2.1
def gd (G : GX) : va_G := G.2.2.2.2.2.1
def gc (G : GX) : Nat → ClassId := G.2.2.2.2.2.2.1
/-- the cells that there are -/
def gt (G : GX) : List Ent := G.2.2.2.2.2.2.2
/-- the cells that may be written: all from the first one on -/
def gA (G : GX) : Nat → Prop := fun q => gb G ≤ q
def flds (G : GX) (μ : Mem) (c : Nat) : Nat → List (Option (Option Nat)) → List Value
  | _, [] => []
  | k, none :: r => .int (μ.1 c k) :: flds G μ c (k + 1) r
  | k, some none :: r => .null :: flds G μ c (k + 1) r
  | k, some (some q) :: r => .ref (gb G + q) :: flds G μ c (k + 1) r
def ent (G : GX) (μ : Mem) (c : Nat) : Ent → va_E
  | .inl (t, n) => .inl (gc G t, n, if t = 1 then .inr (.inl (μ.2.1 c)) else .inl (μ.1 c))
  | .inr (ci, fs) => .inr (ci, flds G μ c 0 fs)
def wdl (G : GX) (μ : Mem) : Nat → List Ent → va_W
  | _, [] => []
  | c, e :: r => (gb G + c, ent G μ c e) :: wdl G μ (c + 1) r
def wd (G : GX) (μ : Mem) : va_W := wdl G μ 0 (gt G)
theorem wdl_get (G : GX) (μ : Mem) : ∀ (l : List Ent) (c k : Nat), (wdl G μ c l)[k]? = (l[k]?).map (fun e => (gb G + (c + k), ent G μ (c + k) e))
  | [], c, k => by simp [wdl]
  | e :: r, c, 0 => by simp [wdl]
  | e :: r, c, k + 1 => by
    simp only [wdl, List.getElem?_cons_succ]
    rw [wdl_get G μ r (c + 1) k]
    have h : c + 1 + k = c + (k + 1) := by omega
    rw [h]
theorem wd_get (G : GX) (μ : Mem) (k : Nat) : (wd G μ)[k]? = ((gt G)[k]?).map (fun e => (gb G + k, ent G μ k e)) := by
  have h := wdl_get G μ (gt G) 0 k
  simp only [Nat.zero_add] at h
  exact h
theorem wd_at {G : GX} {μ : Mem} {c : Nat} {e : Ent} (h : (gt G)[c]? = some e) : (wd G μ)[c]? = some (gb G + c, ent G μ c e) := by rw [wd_get, h]; rfl
theorem wd_D (G : GX) (μ : Mem) : va_D (gA G) (wd G μ) := by
  refine ⟨fun i j p q hi hj hpq => ?_, fun k q hk => ?_⟩
  · rw [wd_get] at hi hj
    cases h1 : (gt G)[i]? with
    | none => rw [h1] at hi; cases hi
    | some a =>
      cases h2 : (gt G)[j]? with
      | none => rw [h2] at hj; cases hj
      | some b =>
        rw [h1] at hi; rw [h2] at hj
        cases hi; cases hj
        simp only at hpq
        omega
  · rw [wd_get] at hk
    cases h1 : (gt G)[k]? with
    | none => rw [h1] at hk; cases hk
    | some a =>
      rw [h1] at hk
      cases hk
      exact Nat.le_add_right _ _
/-- a write: an int, a long -/
def wI (μ : Mem) (c i : Nat) (x : Int32) : Mem := (fun c' => if c' = c then upd (μ.1 c) i x else μ.1 c', μ.2)
def wL (μ : Mem) (c i : Nat) (x : Int64) : Mem := (μ.1, fun c' => if c' = c then vp_updL (μ.2.1 c) i x else μ.2.1 c', μ.2.2)
theorem flds_ne {G : GX} {μ μ' : Mem} {c : Nat} (h : μ'.1 c = μ.1 c) : ∀ (l : List (Option (Option Nat))) (k : Nat), flds G μ' c k l = flds G μ c k l
  | [], k => rfl
  | none :: r, k => by simp only [flds, h, flds_ne h r]
  | some none :: r, k => by simp only [flds, flds_ne h r]
  | some (some q) :: r, k => by simp only [flds, flds_ne h r]
theorem ent_ne {G : GX} {μ μ' : Mem} {c : Nat} (h1 : μ'.1 c = μ.1 c) (h2 : μ'.2.1 c = μ.2.1 c) (e : Ent) : ent G μ' c e = ent G μ c e := by
  cases e with
  | inl a => simp only [ent, h1, h2]
  | inr o => simp only [ent, flds_ne h1]
theorem wdl_eq {G : GX} {μ μ' : Mem} (h1 : μ'.1 = μ.1) (h2 : μ'.2.1 = μ.2.1) : ∀ (l : List Ent) (c : Nat), wdl G μ' c l = wdl G μ c l
  | [], c => rfl
  | e :: r, c => by simp only [wdl, wdl_eq h1 h2 r, ent_ne (congrFun h1 c) (congrFun h2 c)]
theorem wd_eq {G : GX} {μ μ' : Mem} (h1 : μ'.1 = μ.1) (h2 : μ'.2.1 = μ.2.1) : wd G μ' = wd G μ := wdl_eq h1 h2 _ 0
theorem wd_set {G : GX} {μ μ' : Mem} {c : Nat} {e : Ent} {x : va_E} (h : (gt G)[c]? = some e) (hx : ent G μ' c e = x) (h1 : ∀ c', c' ≠ c → μ'.1 c' = μ.1 c') (h2 : ∀ c', c' ≠ c → μ'.2.1 c' = μ.2.1 c') : (wd G μ).set c (gb G + c, x) = wd G μ' := by
  refine List.ext_getElem? fun k => ?_
  by_cases hk : k = c
  · subst hk
    have hl : k < (wd G μ).length := (List.getElem?_eq_some_iff.mp (wd_at (G := G) (μ := μ) h)).1
    rw [List.getElem?_set_self hl, wd_at h, hx]
  · rw [List.getElem?_set_ne (Ne.symm hk), wd_get, wd_get]
    cases h3 : (gt G)[k]? with
    | none => rfl
    | some a => rw [Option.map_some, Option.map_some, ent_ne (h1 k hk) (h2 k hk)]
theorem flds_get {G : GX} {μ : Mem} {c : Nat} : ∀ (l : List (Option (Option Nat))) (k j : Nat), (flds G μ c j l)[k]? = (l[k]?).map (fun q => match q with | none => .int (μ.1 c (j + k)) | some none => .null | some (some r) => .ref (gb G + r))
  | [], k, j => by simp [flds]
  | none :: r, 0, j => by simp [flds]
  | some none :: r, 0, j => by simp [flds]
  | some (some q) :: r, 0, j => by simp [flds]
  | none :: r, k + 1, j => by
    have h : j + 1 + k = j + (k + 1) := by omega
    simp only [flds, List.getElem?_cons_succ]
    rw [flds_get r k (j + 1), h]
  | some none :: r, k + 1, j => by
    have h : j + 1 + k = j + (k + 1) := by omega
    simp only [flds, List.getElem?_cons_succ]
    rw [flds_get r k (j + 1), h]
  | some (some q) :: r, k + 1, j => by
    have h : j + 1 + k = j + (k + 1) := by omega
    simp only [flds, List.getElem?_cons_succ]
    rw [flds_get r k (j + 1), h]
theorem flds_len {G : GX} {μ : Mem} {c : Nat} : ∀ (l : List (Option (Option Nat))) (j : Nat), (flds G μ c j l).length = l.length
  | [], j => rfl
  | none :: r, j => by simp only [flds, List.length_cons, flds_len r]
  | some none :: r, j => by simp only [flds, List.length_cons, flds_len r]
  | some (some q) :: r, j => by simp only [flds, List.length_cons, flds_len r]
theorem flds_set {G : GX} {μ : Mem} {c k : Nat} {l : List (Option (Option Nat))} {x : Int32} (h : l[k]? = some none) : flds G (wI μ c k x) c 0 l = (flds G μ c 0 l).set k (.int x) := by
  have hk : k < l.length := (List.getElem?_eq_some_iff.mp h).1
  refine List.ext_getElem? fun j => ?_
  rw [flds_get]
  by_cases hj : j = k
  · subst hj
    rw [List.getElem?_set_self (by rw [flds_len]; exact hk), h]
    simp [wI, upd]
  · rw [List.getElem?_set_ne (Ne.symm hj), flds_get]
    cases h3 : l[j]? with
    | none => rfl
    | some a =>
      cases a with
      | none => simp [wI, upd, hj]
      | some q => cases q <;> rfl
/-! the words, the values, the frames -/
def bigW : List Cond := lw_tbl.filter goodWord
theorem bigW_in {w : Cond} (i : Nat) (h : lw_tbl[i]? = some w) (hg : goodWord w = true) : w ∈ bigW := List.mem_filter.mpr ⟨List.mem_of_getElem? h, hg⟩
theorem bigW_good {ws : List Cond} {w : Cond} (hw : w ∈ bigW) (h : ws = w :: bigW) : GoodIn bigW ws := by
  subst h
  have key : ∀ v ∈ bigW, v ∈ bigW ∧ ((v.onTables && v.keeps) = true ∨ ∃ ty, v = .arrayClass ty) := fun v hv => ⟨hv, good_of_word (List.mem_filter.mp hv).2⟩
  intro v hv
  rcases List.mem_cons.mp hv with rfl | hv
  · exact key _ hw
  · exact key v hv
/-- a number's value: a cell's number is its place from the first cell on; null stands for the script; retAddr for an address as it is -/
def trv (G : GX) : Value → Value
  | .ref c => .ref (gb G + c)
  | .null => .ref (gs G)
  | .retAddr a => .ref a
  | v => v
theorem trv_cat (G : GX) (v : Value) : (trv G v).category = v.category := by cases v <;> rfl
def lvs (G : GX) : Nat → List (Option Value) → List (Nat × Value)
  | _, [] => []
  | i, none :: r => lvs G (i + 1) r
  | i, some v :: r => (i, trv G v) :: lvs G (i + 1) r
theorem lvs_mem {G : GX} : ∀ (l : List (Option Value)) (i : Nat) (q : Nat × Value), q ∈ lvs G i l ↔ ∃ (k : Nat) (v : Value), l[k]? = some (some v) ∧ q = (i + k, trv G v)
  | [], i, q => by simp [lvs]
  | none :: r, i, q => by
    simp only [lvs]
    rw [lvs_mem r (i + 1) q]
    constructor
    · rintro ⟨k, v, h1, h2⟩
      exact ⟨k + 1, v, by simpa using h1, by rw [h2]; congr 1; omega⟩
    · rintro ⟨k, v, h1, h2⟩
      cases k with
      | zero => simp at h1
      | succ k => exact ⟨k, v, by simpa using h1, by rw [h2]; congr 1; omega⟩
  | some w :: r, i, q => by
    simp only [lvs, List.mem_cons]
    rw [lvs_mem r (i + 1) q]
    constructor
    · rintro (h | ⟨k, v, h1, h2⟩)
      · exact ⟨0, w, by simp, by simpa using h⟩
      · exact ⟨k + 1, v, by simpa using h1, by rw [h2]; congr 1; omega⟩
    · rintro ⟨k, v, h1, h2⟩
      cases k with
      | zero =>
        left
        simp only [List.getElem?_cons_zero, Option.some.injEq] at h1
        subst h1
        simpa using h2
      | succ k => exact Or.inr ⟨k, v, by simpa using h1, by rw [h2]; congr 1; omega⟩
/-- a method: its name, code, locals, answer, class; the frames and words that it may nest; its table of handlers -/
abbrev MT : Type := MethodName × ByteArray × Nat × Option FieldType × String × Nat × Nat × Option (List (Nat × Nat × Nat × Nat))
abbrev mY (M : MT) : MethodName := M.1
abbrev mC (M : MT) : ByteArray := M.2.1
abbrev mL (M : MT) : Nat := M.2.2.1
abbrev mR (M : MT) : Option FieldType := M.2.2.2.1
abbrev mO (M : MT) : String := M.2.2.2.2.1
abbrev mF (M : MT) : Nat := M.2.2.2.2.2.1
abbrev mW (M : MT) : Nat := M.2.2.2.2.2.2.1
abbrev mH (M : MT) : Option (List (Nat × Nat × Nat × Nat)) := M.2.2.2.2.2.2.2
def mK (M : MT) : Cond := match mH M with
  | none => .code (mY M) (mC M) (mL M) (mR M)
  | some hh => .codeWith (mY M) (mC M) (mL M) (mR M) hh
/-- returned (what), or thrown (the class) -/
abbrev Ou : Type := Option Value ⊕ String
/-- what the tables and the launch say, at every state on the way -/
def gK (G : GX) (U : State) : Prop := va_K (gd G) vwCl [(gc G 0, .int), (gc G 1, .long), (gc G 2, .boolean)] U ∧ (gl G).stackTraces = false ∧ gT U
/-- what lies in the heap ahead of the first cell -/
def gH (G : GX) (U : State) (H : Heap) : Prop := va_X (gs G) (gn G) (gx G) U H ∧ gs G < gb G ∧ gb G ≤ H.size ∧ vx_Zq Bundle.tN "UNASSIGNED_STACK" Bundle.steD (gA G) U H ∧ vx_Zq Bundle.tN "SUPPRESSED_SENTINEL" Bundle.listD (gA G) U H
theorem gH_kept {G : GX} {s t : State} {H0 H : Heap} (h : gH G s H0) (hv : s.vm.Alike t.vm) (hz : H0.size ≤ H.size) (hk : ∀ q : Nat, q < H0.size → ¬ gA G q → H[q]? = H0[q]?) : gH G t H := by
  obtain ⟨h1, h2, h3, h4, h5⟩ := h
  have hn : ¬ gA G (gs G) := Nat.not_le.mpr h2
  exact ⟨va_X.moved hv (h1.kept (hk _ (Nat.lt_of_lt_of_le h2 h3) hn)), h2, Nat.le_trans h3 hz, vx_Zq.moved hv (h4.kept hk), vx_Zq.moved hv (h5.kept hk)⟩
/-- the state holds the memory -/
def W0 (G : GX) (μ : Mem) (U : State) : Prop := va_P (gd G) vwCl (wd G μ) U.heap ∧ gK G U ∧ gH G U U.heap
def gP (G : GX) (as : List Value) (μ : Mem) : Array Value → State → Prop := fun a U => a = (as.map (trv G)).toArray ∧ W0 G μ U
def gQ (G : GX) (o : Ou) (μ : Mem) : Array Value → State → Outcome → State → Prop := fun _ st oc t => (∃ v : Option Value, o = .inl v ∧ oc = .returned (v.map (trv G))) ∧ va_P (gd G) vwCl (wd G μ) t.heap ∧ va_F (gA G) st t
def gE (G : GX) (o : Ou) (μ : Mem) : String → State → State → Prop := fun E st t => o = .inr E ∧ va_P (gd G) vwCl (wd G μ) t.heap ∧ va_F (gA G) st t
/-- what stays fixed while a frame of the method runs -/
def Fx (G : GX) (M : MT) (p : Program) (R : Room) (s : State) (m : MethodId) (args : Array Value) (meth : Method) (c : Code) : Prop :=
  p.tables.exec = Jvm.exec ∧ c.code = mC M ∧ meth.sig.returnType = mR M ∧ c.maxLocals = mL M ∧ s.vm.findClass (mO M) = some m.cls ∧ (∀ w ∈ bigW, w.before args s = true) ∧ c.exceptionTable.toList = tableOf ((mH M).getD []) ∧ meth.locks = false ∧ R.frames = mF M ∧ R.locals = mW M ∧ gK G s ∧ gH G s s.heap
def V (G : GX) (M : MT) (pc : Nat) (lv : List (Option Value)) (st : List Value) (μ : Mem) (o : Ou) (μ' : Mem) : Prop :=
  (μ.2.2.1 ≤ μ'.2.2.1 ∧ μ.2.2.2 ≤ μ'.2.2.2) ∧
  ∀ (p : Program) (e : Env) (R : Room) (s : State) (m : MethodId) (args : Array Value) (below : List Frame) (meth : Method) (c : Code) (H : Heap) (locs : List Loc) (cells slots : Nat) (ls : Array Slot),
    Fx G M p R s m args meth c → lv_has ls (mL M) (lvs G 0 lv) → va_P (gd G) vwCl (wd G μ) H → va_S (gA G) s.heap H locs →
    cells + μ'.2.2.1 ≤ R.cells + μ.2.2.1 → slots + μ'.2.2.2 ≤ R.slots + μ.2.2.2 →
    W p (gl G) e R s m args below meth c H locs cells slots (vx_MQ below (gQ G o μ') (gE G o μ') args s R.cells R.slots (gA G)) (F0 m pc ls (st.map (trv G)))
def VM (G : GX) (M : MT) (as : List Value) (μ : Mem) (o : Ou) (μ' : Mem) : Prop :=
  (μ.2.2.1 ≤ μ'.2.2.1 ∧ μ.2.2.2 ≤ μ'.2.2.2) ∧
  vx_Met (gl G) (mY M) (mK M :: bigW) { frames := mF M, cells := μ'.2.2.1 - μ.2.2.1, slots := μ'.2.2.2 - μ.2.2.2, locals := mW M } (gP G as μ) (gQ G o μ') (gE G o μ') (μ'.2.2.1 - μ.2.2.1) (μ'.2.2.2 - μ.2.2.2) (gA G)
theorem gK_warm {G : GX} {s U : State} (hW : s.WarmedH U.vm) (h : gK G s) : gK G U := ⟨va_K.moved hW.alike h.1, h.2.1, gT_warm hW h.2.2⟩
theorem V_iconst {G : GX} {M : MT} {pc : Nat} {lv : List (Option Value)} {st : List Value} {μ μ1 : Mem} {o : Ou} {n : Int} {v : Int32} (d : decode (mC M) pc = .ok (.iconst n, 1)) (hv : Int32.ofInt n = v) (k : V G M (pc + 1) lv (.int v :: st) μ o μ1) : V G M pc lv (st) μ o μ1 := ⟨k.1, fun p e R s m args below meth c H locs cells slots ls F hl hP hS h1 h2 => lv_iconst F.1 F.2.1 d hv (k.2 p e R s m args below meth c H locs cells slots ls F hl hP hS h1 h2)⟩
theorem V_bipush {G : GX} {M : MT} {pc : Nat} {lv : List (Option Value)} {st : List Value} {μ μ1 : Mem} {o : Ou} {n : Int} {v : Int32} (d : decode (mC M) pc = .ok (.bipush n, 2)) (hv : (Int8.ofInt n).toInt32 = v) (k : V G M (pc + 2) lv (.int v :: st) μ o μ1) : V G M pc lv (st) μ o μ1 := ⟨k.1, fun p e R s m args below meth c H locs cells slots ls F hl hP hS h1 h2 => lv_bipush F.1 F.2.1 d hv (k.2 p e R s m args below meth c H locs cells slots ls F hl hP hS h1 h2)⟩
theorem V_sipush {G : GX} {M : MT} {pc : Nat} {lv : List (Option Value)} {st : List Value} {μ μ1 : Mem} {o : Ou} {n : Int} {v : Int32} (d : decode (mC M) pc = .ok (.sipush n, 3)) (hv : (Int16.ofInt n).toInt32 = v) (k : V G M (pc + 3) lv (.int v :: st) μ o μ1) : V G M pc lv (st) μ o μ1 := ⟨k.1, fun p e R s m args below meth c H locs cells slots ls F hl hP hS h1 h2 => lv_sipush F.1 F.2.1 d hv (k.2 p e R s m args below meth c H locs cells slots ls F hl hP hS h1 h2)⟩
theorem V_lconst {G : GX} {M : MT} {pc : Nat} {lv : List (Option Value)} {st : List Value} {μ μ1 : Mem} {o : Ou} {n : Fin 2} {v : Int64} (d : decode (mC M) pc = .ok (.lconst n, 1)) (hv : Int64.ofNat (n : Nat) = v) (k : V G M (pc + 1) lv (.long v :: st) μ o μ1) : V G M pc lv (st) μ o μ1 := ⟨k.1, fun p e R s m args below meth c H locs cells slots ls F hl hP hS h1 h2 => lv_lconst F.1 F.2.1 d hv (k.2 p e R s m args below meth c H locs cells slots ls F hl hP hS h1 h2)⟩
theorem V_ldc {G : GX} {M : MT} {pc : Nat} {lv : List (Option Value)} {st : List Value} {μ μ1 : Mem} {o : Ou} {n : Nat} {v : Int32} (d : decode (mC M) pc = .ok (.ldc n, 2)) (hw : Cond.constant (mO M) n v ∈ bigW) (k : V G M (pc + 2) lv (.int v :: st) μ o μ1) : V G M pc lv st μ o μ1 := ⟨k.1, fun p e R s m args below meth c H locs cells slots ls F hl hP hS h1 h2 => lv_ldc F.1 F.2.1 F.2.2.2.2.1 (F.2.2.2.2.2.1 _ hw) d (k.2 p e R s m args below meth c H locs cells slots ls F hl hP hS h1 h2)⟩
theorem V_ldcw {G : GX} {M : MT} {pc : Nat} {lv : List (Option Value)} {st : List Value} {μ μ1 : Mem} {o : Ou} {n : Nat} {v : Int32} (d : decode (mC M) pc = .ok (.ldc_w n, 3)) (hw : Cond.constant (mO M) n v ∈ bigW) (k : V G M (pc + 3) lv (.int v :: st) μ o μ1) : V G M pc lv st μ o μ1 := ⟨k.1, fun p e R s m args below meth c H locs cells slots ls F hl hP hS h1 h2 => lv_ldcw F.1 F.2.1 F.2.2.2.2.1 (F.2.2.2.2.2.1 _ hw) d (k.2 p e R s m args below meth c H locs cells slots ls F hl hP hS h1 h2)⟩
theorem V_ldc2 {G : GX} {M : MT} {pc : Nat} {lv : List (Option Value)} {st : List Value} {μ μ1 : Mem} {o : Ou} {n : Nat} {v : Int64} (d : decode (mC M) pc = .ok (.ldc2_w n, 3)) (hw : Cond.constantLong (mO M) n v ∈ bigW) (k : V G M (pc + 3) lv (.long v :: st) μ o μ1) : V G M pc lv st μ o μ1 := ⟨k.1, fun p e R s m args below meth c H locs cells slots ls F hl hP hS h1 h2 => lv_ldc2 F.1 F.2.1 F.2.2.2.2.1 (F.2.2.2.2.2.1 _ hw) d (k.2 p e R s m args below meth c H locs cells slots ls F hl hP hS h1 h2)⟩
theorem lvs_at {G : GX} {ls : Array Slot} {n i : Nat} {lv : List (Option Value)} {v : Value} (h : lv_has ls n (lvs G 0 lv)) (hi : lv[i]? = some (some v)) : ls[i]? = some (.val (trv G v)) := h.2.2 (i, trv G v) ((lvs_mem lv 0 _).mpr ⟨i, v, hi, by simp⟩)
theorem V_iload_n {G : GX} {M : MT} {pc : Nat} {lv : List (Option Value)} {st : List Value} {μ μ1 : Mem} {o : Ou} {j : Fin 4} {x : Int32} (d : decode (mC M) pc = .ok (.iload_n j, 1)) (hi : lv[(j : Nat)]? = some (some (.int x))) (k : V G M (pc + 1) lv (.int x :: st) μ o μ1) : V G M pc lv st μ o μ1 := ⟨k.1, fun p e R s m args below meth c H locs cells slots ls F hl hP hS h1 h2 => lv_iload_n F.1 F.2.1 d rfl (lvs_at hl hi) (k.2 p e R s m args below meth c H locs cells slots ls F hl hP hS h1 h2)⟩
theorem V_iload {G : GX} {M : MT} {pc : Nat} {lv : List (Option Value)} {st : List Value} {μ μ1 : Mem} {o : Ou} {j : Nat} {x : Int32} (d : decode (mC M) pc = .ok (.iload j, 2)) (hi : lv[j]? = some (some (.int x))) (k : V G M (pc + 2) lv (.int x :: st) μ o μ1) : V G M pc lv st μ o μ1 := ⟨k.1, fun p e R s m args below meth c H locs cells slots ls F hl hP hS h1 h2 => lv_iload F.1 F.2.1 d (lvs_at hl hi) (k.2 p e R s m args below meth c H locs cells slots ls F hl hP hS h1 h2)⟩
theorem V_lload_n {G : GX} {M : MT} {pc : Nat} {lv : List (Option Value)} {st : List Value} {μ μ1 : Mem} {o : Ou} {j : Fin 4} {x : Int64} (d : decode (mC M) pc = .ok (.lload_n j, 1)) (hi : lv[(j : Nat)]? = some (some (.long x))) (k : V G M (pc + 1) lv (.long x :: st) μ o μ1) : V G M pc lv st μ o μ1 := ⟨k.1, fun p e R s m args below meth c H locs cells slots ls F hl hP hS h1 h2 => lv_lload_n F.1 F.2.1 d rfl (lvs_at hl hi) (k.2 p e R s m args below meth c H locs cells slots ls F hl hP hS h1 h2)⟩
theorem V_lload {G : GX} {M : MT} {pc : Nat} {lv : List (Option Value)} {st : List Value} {μ μ1 : Mem} {o : Ou} {j : Nat} {x : Int64} (d : decode (mC M) pc = .ok (.lload j, 2)) (hi : lv[j]? = some (some (.long x))) (k : V G M (pc + 2) lv (.long x :: st) μ o μ1) : V G M pc lv st μ o μ1 := ⟨k.1, fun p e R s m args below meth c H locs cells slots ls F hl hP hS h1 h2 => lv_lload F.1 F.2.1 d (lvs_at hl hi) (k.2 p e R s m args below meth c H locs cells slots ls F hl hP hS h1 h2)⟩
theorem V_aload_n {G : GX} {M : MT} {pc : Nat} {lv : List (Option Value)} {st : List Value} {μ μ1 : Mem} {o : Ou} {j : Fin 4} {x : Nat} (d : decode (mC M) pc = .ok (.aload_n j, 1)) (hi : lv[(j : Nat)]? = some (some (.ref x))) (k : V G M (pc + 1) lv (.ref x :: st) μ o μ1) : V G M pc lv st μ o μ1 := ⟨k.1, fun p e R s m args below meth c H locs cells slots ls F hl hP hS h1 h2 => lv_aload_n F.1 F.2.1 d rfl (lvs_at hl hi) (k.2 p e R s m args below meth c H locs cells slots ls F hl hP hS h1 h2)⟩
theorem V_aload {G : GX} {M : MT} {pc : Nat} {lv : List (Option Value)} {st : List Value} {μ μ1 : Mem} {o : Ou} {j : Nat} {x : Nat} (d : decode (mC M) pc = .ok (.aload j, 2)) (hi : lv[j]? = some (some (.ref x))) (k : V G M (pc + 2) lv (.ref x :: st) μ o μ1) : V G M pc lv st μ o μ1 := ⟨k.1, fun p e R s m args below meth c H locs cells slots ls F hl hP hS h1 h2 => lv_aload F.1 F.2.1 d (lvs_at hl hi) (k.2 p e R s m args below meth c H locs cells slots ls F hl hP hS h1 h2)⟩
theorem V_aloadS_n {G : GX} {M : MT} {pc : Nat} {lv : List (Option Value)} {st : List Value} {μ μ1 : Mem} {o : Ou} {j : Fin 4}  (d : decode (mC M) pc = .ok (.aload_n j, 1)) (hi : lv[(j : Nat)]? = some (some (.null))) (k : V G M (pc + 1) lv (.null :: st) μ o μ1) : V G M pc lv st μ o μ1 := ⟨k.1, fun p e R s m args below meth c H locs cells slots ls F hl hP hS h1 h2 => lv_aload_n F.1 F.2.1 d rfl (lvs_at hl hi) (k.2 p e R s m args below meth c H locs cells slots ls F hl hP hS h1 h2)⟩
theorem V_aloadS {G : GX} {M : MT} {pc : Nat} {lv : List (Option Value)} {st : List Value} {μ μ1 : Mem} {o : Ou} {j : Nat}  (d : decode (mC M) pc = .ok (.aload j, 2)) (hi : lv[j]? = some (some (.null))) (k : V G M (pc + 2) lv (.null :: st) μ o μ1) : V G M pc lv st μ o μ1 := ⟨k.1, fun p e R s m args below meth c H locs cells slots ls F hl hP hS h1 h2 => lv_aload F.1 F.2.1 d (lvs_at hl hi) (k.2 p e R s m args below meth c H locs cells slots ls F hl hP hS h1 h2)⟩
theorem V_aloadR_n {G : GX} {M : MT} {pc : Nat} {lv : List (Option Value)} {st : List Value} {μ μ1 : Mem} {o : Ou} {j : Fin 4} {x : Nat} (d : decode (mC M) pc = .ok (.aload_n j, 1)) (hi : lv[(j : Nat)]? = some (some (.retAddr x))) (k : V G M (pc + 1) lv (.retAddr x :: st) μ o μ1) : V G M pc lv st μ o μ1 := ⟨k.1, fun p e R s m args below meth c H locs cells slots ls F hl hP hS h1 h2 => lv_aload_n F.1 F.2.1 d rfl (lvs_at hl hi) (k.2 p e R s m args below meth c H locs cells slots ls F hl hP hS h1 h2)⟩
theorem V_aloadR {G : GX} {M : MT} {pc : Nat} {lv : List (Option Value)} {st : List Value} {μ μ1 : Mem} {o : Ou} {j : Nat} {x : Nat} (d : decode (mC M) pc = .ok (.aload j, 2)) (hi : lv[j]? = some (some (.retAddr x))) (k : V G M (pc + 2) lv (.retAddr x :: st) μ o μ1) : V G M pc lv st μ o μ1 := ⟨k.1, fun p e R s m args below meth c H locs cells slots ls F hl hP hS h1 h2 => lv_aload F.1 F.2.1 d (lvs_at hl hi) (k.2 p e R s m args below meth c H locs cells slots ls F hl hP hS h1 h2)⟩
/-- storing -/
def clr (lv : List (Option Value)) : Nat → List (Option Value)
  | 0 => lv
  | j + 1 => match lv[j]? with
    | some (some w) => if w.category = 2 then lv.set j none else lv
    | _ => lv
def stI (lv : List (Option Value)) (i : Nat) (v : Value) : List (Option Value) := (clr lv i).set i (some v)
def stL (lv : List (Option Value)) (i : Nat) (v : Value) : List (Option Value) := ((clr lv i).set (i + 1) none).set i (some v)
theorem clr_get {lv : List (Option Value)} {i k : Nat} {w : Value} (h : (clr lv i)[k]? = some (some w)) : lv[k]? = some (some w) ∧ ¬ (k + 1 = i ∧ w.category = 2) := by
  cases i with
  | zero => exact ⟨h, by omega⟩
  | succ j =>
    simp only [clr] at h
    by_cases hk : k = j
    · subst hk
      cases hj : lv[k]? with
      | none => simp only [hj] at h; cases h
      | some a =>
        cases a with
        | none => simp only [hj] at h; cases h
        | some v =>
          simp only [hj] at h
          by_cases hv : v.category = 2
          · rw [if_pos hv, List.getElem?_set] at h
            simp only [if_true] at h
            split at h <;> cases h
          · rw [if_neg hv, hj] at h
            cases h
            exact ⟨rfl, fun q => hv q.2⟩
    · have h2 : lv[k]? = some (some w) := by
        cases hj : lv[j]? with
        | none => simp only [hj] at h; exact h
        | some a =>
          cases a with
          | none => simp only [hj] at h; exact h
          | some v =>
            simp only [hj] at h
            by_cases hv : v.category = 2
            · rw [if_pos hv, List.getElem?_set_ne (fun q => hk q.symm)] at h; exact h
            · rw [if_neg hv] at h; exact h
      exact ⟨h2, fun q => hk (by omega)⟩
theorem stI_has {G : GX} {ls : Array Slot} {n i : Nat} {lv : List (Option Value)} {v : Value} (h : lv_has ls n ((i, trv G v) :: (lvs G 0 lv).filter (fun q => !(q.1 == i) && !(q.1 + 1 == i && q.2.category == 2)))) : lv_has ls n (lvs G 0 (stI lv i v)) := by
  refine ⟨h.1, h.2.1, fun q hq => h.2.2 q ?_⟩
  obtain ⟨k, w, hk, rfl⟩ := (lvs_mem _ 0 q).mp hq
  by_cases hi : k = i
  · subst hi
    rw [stI, List.getElem?_set] at hk
    simp only [if_true] at hk
    split at hk
    · cases hk; simp
    · cases hk
  · rw [stI, List.getElem?_set_ne (fun q => hi q.symm)] at hk
    obtain ⟨h1, h2⟩ := clr_get hk
    refine List.mem_cons_of_mem _ (List.mem_filter.mpr ⟨(lvs_mem lv 0 _).mpr ⟨k, w, h1, rfl⟩, ?_⟩)
    simp only [Nat.zero_add, trv_cat, Bool.and_eq_true, Bool.not_eq_true', beq_eq_false_iff_ne, ne_eq, Bool.and_eq_false_iff]
    refine ⟨hi, ?_⟩
    by_cases h3 : k + 1 = i
    · exact Or.inr fun z => h2 ⟨h3, z⟩
    · exact Or.inl h3
theorem stL_has {G : GX} {ls : Array Slot} {n i : Nat} {lv : List (Option Value)} {v : Value} (h : lv_has ls n ((i, trv G v) :: (lvs G 0 lv).filter (fun q => !(q.1 == i) && (!(q.1 == i + 1) && !(q.1 + 1 == i && q.2.category == 2))))) : lv_has ls n (lvs G 0 (stL lv i v)) := by
  refine ⟨h.1, h.2.1, fun q hq => h.2.2 q ?_⟩
  obtain ⟨k, w, hk, rfl⟩ := (lvs_mem _ 0 q).mp hq
  by_cases hi : k = i
  · subst hi
    rw [stL, List.getElem?_set] at hk
    simp only [if_true] at hk
    split at hk
    · cases hk; simp
    · cases hk
  · rw [stL, List.getElem?_set_ne (fun q => hi q.symm)] at hk
    have hi2 : k ≠ i + 1 := by
      intro q
      subst q
      rw [List.getElem?_set] at hk
      simp only [if_true] at hk
      split at hk <;> cases hk
    rw [List.getElem?_set_ne (fun q => hi2 q.symm)] at hk
    obtain ⟨h1, h2⟩ := clr_get hk
    refine List.mem_cons_of_mem _ (List.mem_filter.mpr ⟨(lvs_mem lv 0 _).mpr ⟨k, w, h1, rfl⟩, ?_⟩)
    simp only [Nat.zero_add, trv_cat, Bool.and_eq_true, Bool.not_eq_true', beq_eq_false_iff_ne, ne_eq, Bool.and_eq_false_iff]
    refine ⟨hi, hi2, ?_⟩
    by_cases h3 : k + 1 = i
    · exact Or.inr fun z => h2 ⟨h3, z⟩
    · exact Or.inl h3
/-- fewer locals: by a mask -/
def wk : List Bool → List (Option Value) → List (Option Value)
  | b :: m, x :: l => (if b then x else none) :: wk m l
  | _, _ => []
theorem wk_get : ∀ (m : List Bool) (l : List (Option Value)) (k : Nat) (v : Value), (wk m l)[k]? = some (some v) → l[k]? = some (some v)
  | [], l, k, v, h => by simp [wk] at h
  | b :: m, [], k, v, h => by simp [wk] at h
  | b :: m, x :: l, 0, v, h => by
    simp only [wk, List.getElem?_cons_zero, Option.some.injEq] at h ⊢
    cases b
    · simp at h
    · simpa using h
  | b :: m, x :: l, k + 1, v, h => by
    simp only [wk, List.getElem?_cons_succ] at h ⊢
    exact wk_get m l k v h
theorem V_wk {G : GX} {M : MT} {pc : Nat} {lv lv' : List (Option Value)} {st : List Value} {μ μ1 : Mem} {o : Ou} (m : List Bool) (h : wk m lv = lv') (k : V G M pc lv' st μ o μ1) : V G M pc lv st μ o μ1 := ⟨k.1, fun p e R s m1 args below meth c H locs cells slots ls F hl hP hS h1 h2 => k.2 p e R s m1 args below meth c H locs cells slots ls F ⟨hl.1, hl.2.1, fun q hq => by
  obtain ⟨j, v, hj, rfl⟩ := (lvs_mem lv' 0 q).mp hq
  rw [← h] at hj
  exact hl.2.2 _ ((lvs_mem lv 0 _).mpr ⟨j, v, wk_get m lv j v hj, rfl⟩)⟩ hP hS h1 h2⟩
theorem V_istore_n {G : GX} {M : MT} {pc : Nat} {lv : List (Option Value)} {st : List Value} {μ μ1 : Mem} {o : Ou} {j : Fin 4} {x : Int32} {lv2 : List (Option Value)} (d : decode (mC M) pc = .ok (.istore_n j, 1)) (hj : (j : Nat) < mL M) (e9 : stI lv (j : Nat) (.int x) = lv2) (k : V G M (pc + 1) lv2 st μ o μ1) : V G M pc lv (.int x :: st) μ o μ1 := ⟨k.1, fun p e R s m args below meth c H locs cells slots ls F hl hP hS h1 h2 => lv_istore_n F.1 F.2.1 d rfl hl hj rfl (fun ls2 h9 => k.2 p e R s m args below meth c H locs cells slots ls2 F (e9 ▸ stI_has h9) hP hS h1 h2)⟩
theorem V_istore {G : GX} {M : MT} {pc : Nat} {lv : List (Option Value)} {st : List Value} {μ μ1 : Mem} {o : Ou} {j : Nat} {x : Int32} {lv2 : List (Option Value)} (d : decode (mC M) pc = .ok (.istore j, 2)) (hj : j < mL M) (e9 : stI lv j (.int x) = lv2) (k : V G M (pc + 2) lv2 st μ o μ1) : V G M pc lv (.int x :: st) μ o μ1 := ⟨k.1, fun p e R s m args below meth c H locs cells slots ls F hl hP hS h1 h2 => lv_istore F.1 F.2.1 d hl hj rfl (fun ls2 h9 => k.2 p e R s m args below meth c H locs cells slots ls2 F (e9 ▸ stI_has h9) hP hS h1 h2)⟩
theorem V_lstore_n {G : GX} {M : MT} {pc : Nat} {lv : List (Option Value)} {st : List Value} {μ μ1 : Mem} {o : Ou} {j : Fin 4} {x : Int64} {lv2 : List (Option Value)} (d : decode (mC M) pc = .ok (.lstore_n j, 1)) (hj : (j + 1 : Nat) < mL M) (e9 : stL lv (j : Nat) (.long x) = lv2) (k : V G M (pc + 1) lv2 st μ o μ1) : V G M pc lv (.long x :: st) μ o μ1 := ⟨k.1, fun p e R s m args below meth c H locs cells slots ls F hl hP hS h1 h2 => lv_lstore_n F.1 F.2.1 d rfl hl hj rfl (fun ls2 h9 => k.2 p e R s m args below meth c H locs cells slots ls2 F (e9 ▸ stL_has h9) hP hS h1 h2)⟩
theorem V_lstore {G : GX} {M : MT} {pc : Nat} {lv : List (Option Value)} {st : List Value} {μ μ1 : Mem} {o : Ou} {j : Nat} {x : Int64} {lv2 : List (Option Value)} (d : decode (mC M) pc = .ok (.lstore j, 2)) (hj : j + 1 < mL M) (e9 : stL lv j (.long x) = lv2) (k : V G M (pc + 2) lv2 st μ o μ1) : V G M pc lv (.long x :: st) μ o μ1 := ⟨k.1, fun p e R s m args below meth c H locs cells slots ls F hl hP hS h1 h2 => lv_lstore F.1 F.2.1 d hl hj rfl (fun ls2 h9 => k.2 p e R s m args below meth c H locs cells slots ls2 F (e9 ▸ stL_has h9) hP hS h1 h2)⟩
theorem V_astore_n {G : GX} {M : MT} {pc : Nat} {lv : List (Option Value)} {st : List Value} {μ μ1 : Mem} {o : Ou} {j : Fin 4} {x : Nat} {lv2 : List (Option Value)} (d : decode (mC M) pc = .ok (.astore_n j, 1)) (hj : (j : Nat) < mL M) (e9 : stI lv (j : Nat) (.ref x) = lv2) (k : V G M (pc + 1) lv2 st μ o μ1) : V G M pc lv (.ref x :: st) μ o μ1 := ⟨k.1, fun p e R s m args below meth c H locs cells slots ls F hl hP hS h1 h2 => lv_astore_n F.1 F.2.1 d rfl hl hj rfl (fun ls2 h9 => k.2 p e R s m args below meth c H locs cells slots ls2 F (e9 ▸ stI_has h9) hP hS h1 h2)⟩
theorem V_astore {G : GX} {M : MT} {pc : Nat} {lv : List (Option Value)} {st : List Value} {μ μ1 : Mem} {o : Ou} {j : Nat} {x : Nat} {lv2 : List (Option Value)} (d : decode (mC M) pc = .ok (.astore j, 2)) (hj : j < mL M) (e9 : stI lv j (.ref x) = lv2) (k : V G M (pc + 2) lv2 st μ o μ1) : V G M pc lv (.ref x :: st) μ o μ1 := ⟨k.1, fun p e R s m args below meth c H locs cells slots ls F hl hP hS h1 h2 => lv_astore F.1 F.2.1 d hl hj rfl (fun ls2 h9 => k.2 p e R s m args below meth c H locs cells slots ls2 F (e9 ▸ stI_has h9) hP hS h1 h2)⟩
theorem V_astoreR_n {G : GX} {M : MT} {pc : Nat} {lv : List (Option Value)} {st : List Value} {μ μ1 : Mem} {o : Ou} {j : Fin 4} {x : Nat} {lv2 : List (Option Value)} (d : decode (mC M) pc = .ok (.astore_n j, 1)) (hj : (j : Nat) < mL M) (e9 : stI lv (j : Nat) (.retAddr x) = lv2) (k : V G M (pc + 1) lv2 st μ o μ1) : V G M pc lv (.retAddr x :: st) μ o μ1 := ⟨k.1, fun p e R s m args below meth c H locs cells slots ls F hl hP hS h1 h2 => lv_astore_n F.1 F.2.1 d rfl hl hj rfl (fun ls2 h9 => k.2 p e R s m args below meth c H locs cells slots ls2 F (e9 ▸ stI_has h9) hP hS h1 h2)⟩
theorem V_astoreR {G : GX} {M : MT} {pc : Nat} {lv : List (Option Value)} {st : List Value} {μ μ1 : Mem} {o : Ou} {j : Nat} {x : Nat} {lv2 : List (Option Value)} (d : decode (mC M) pc = .ok (.astore j, 2)) (hj : j < mL M) (e9 : stI lv j (.retAddr x) = lv2) (k : V G M (pc + 2) lv2 st μ o μ1) : V G M pc lv (.retAddr x :: st) μ o μ1 := ⟨k.1, fun p e R s m args below meth c H locs cells slots ls F hl hP hS h1 h2 => lv_astore F.1 F.2.1 d hl hj rfl (fun ls2 h9 => k.2 p e R s m args below meth c H locs cells slots ls2 F (e9 ▸ stI_has h9) hP hS h1 h2)⟩
theorem V_iinc {G : GX} {M : MT} {pc : Nat} {lv : List (Option Value)} {st : List Value} {μ μ1 : Mem} {o : Ou} {j : Nat} {n : Int} {x v : Int32} {lv2 : List (Option Value)} (d : decode (mC M) pc = .ok (.iinc j n, 3)) (hi : lv[j]? = some (some (.int x))) (hv : x + Int32.ofInt n = v) (hj : j < mL M) (e9 : stI lv j (.int v) = lv2) (k : V G M (pc + 3) lv2 st μ o μ1) : V G M pc lv st μ o μ1 := ⟨k.1, fun p e R s m args below meth c H locs cells slots ls F hl hP hS h1 h2 => (List.getElem?_of_mem ((lvs_mem (G := G) lv 0 (j, .int x)).mpr ⟨j, .int x, hi, by simp [trv]⟩)).elim fun i9 h8 => lv_iinc (k := i9) F.1 F.2.1 d hl h8 hv hj rfl (fun ls2 h9 => k.2 p e R s m args below meth c H locs cells slots ls2 F (e9 ▸ stI_has (v := .int v) h9) hP hS h1 h2)⟩
theorem V_iadd {G : GX} {M : MT} {pc : Nat} {lv : List (Option Value)} {st : List Value} {μ μ1 : Mem} {o : Ou} {x y : Int32} (d : decode (mC M) pc = .ok (.iadd, 1)) (k : V G M (pc + 1) lv (.int (x + y) :: st) μ o μ1) : V G M pc lv (.int y :: .int x :: st) μ o μ1 := ⟨k.1, fun p e R s m args below meth c H locs cells slots ls F hl hP hS h1 h2 => lv_iadd F.1 F.2.1 d (k.2 p e R s m args below meth c H locs cells slots ls F hl hP hS h1 h2)⟩
theorem V_isub {G : GX} {M : MT} {pc : Nat} {lv : List (Option Value)} {st : List Value} {μ μ1 : Mem} {o : Ou} {x y : Int32} (d : decode (mC M) pc = .ok (.isub, 1)) (k : V G M (pc + 1) lv (.int (x - y) :: st) μ o μ1) : V G M pc lv (.int y :: .int x :: st) μ o μ1 := ⟨k.1, fun p e R s m args below meth c H locs cells slots ls F hl hP hS h1 h2 => lv_isub F.1 F.2.1 d (k.2 p e R s m args below meth c H locs cells slots ls F hl hP hS h1 h2)⟩
theorem V_imul {G : GX} {M : MT} {pc : Nat} {lv : List (Option Value)} {st : List Value} {μ μ1 : Mem} {o : Ou} {x y : Int32} (d : decode (mC M) pc = .ok (.imul, 1)) (k : V G M (pc + 1) lv (.int (x * y) :: st) μ o μ1) : V G M pc lv (.int y :: .int x :: st) μ o μ1 := ⟨k.1, fun p e R s m args below meth c H locs cells slots ls F hl hP hS h1 h2 => lv_imul F.1 F.2.1 d (k.2 p e R s m args below meth c H locs cells slots ls F hl hP hS h1 h2)⟩
theorem V_iand {G : GX} {M : MT} {pc : Nat} {lv : List (Option Value)} {st : List Value} {μ μ1 : Mem} {o : Ou} {x y : Int32} (d : decode (mC M) pc = .ok (.iand, 1)) (k : V G M (pc + 1) lv (.int (x &&& y) :: st) μ o μ1) : V G M pc lv (.int y :: .int x :: st) μ o μ1 := ⟨k.1, fun p e R s m args below meth c H locs cells slots ls F hl hP hS h1 h2 => lv_iand F.1 F.2.1 d (k.2 p e R s m args below meth c H locs cells slots ls F hl hP hS h1 h2)⟩
theorem V_ior {G : GX} {M : MT} {pc : Nat} {lv : List (Option Value)} {st : List Value} {μ μ1 : Mem} {o : Ou} {x y : Int32} (d : decode (mC M) pc = .ok (.ior, 1)) (k : V G M (pc + 1) lv (.int (x ||| y) :: st) μ o μ1) : V G M pc lv (.int y :: .int x :: st) μ o μ1 := ⟨k.1, fun p e R s m args below meth c H locs cells slots ls F hl hP hS h1 h2 => lv_ior F.1 F.2.1 d (k.2 p e R s m args below meth c H locs cells slots ls F hl hP hS h1 h2)⟩
theorem V_ixor {G : GX} {M : MT} {pc : Nat} {lv : List (Option Value)} {st : List Value} {μ μ1 : Mem} {o : Ou} {x y : Int32} (d : decode (mC M) pc = .ok (.ixor, 1)) (k : V G M (pc + 1) lv (.int (x ^^^ y) :: st) μ o μ1) : V G M pc lv (.int y :: .int x :: st) μ o μ1 := ⟨k.1, fun p e R s m args below meth c H locs cells slots ls F hl hP hS h1 h2 => lv_ixor F.1 F.2.1 d (k.2 p e R s m args below meth c H locs cells slots ls F hl hP hS h1 h2)⟩
theorem V_ishl {G : GX} {M : MT} {pc : Nat} {lv : List (Option Value)} {st : List Value} {μ μ1 : Mem} {o : Ou} {x y : Int32} (d : decode (mC M) pc = .ok (.ishl, 1)) (k : V G M (pc + 1) lv (.int (x <<< (y &&& 31)) :: st) μ o μ1) : V G M pc lv (.int y :: .int x :: st) μ o μ1 := ⟨k.1, fun p e R s m args below meth c H locs cells slots ls F hl hP hS h1 h2 => lv_ishl F.1 F.2.1 d (k.2 p e R s m args below meth c H locs cells slots ls F hl hP hS h1 h2)⟩
theorem V_ishr {G : GX} {M : MT} {pc : Nat} {lv : List (Option Value)} {st : List Value} {μ μ1 : Mem} {o : Ou} {x y : Int32} (d : decode (mC M) pc = .ok (.ishr, 1)) (k : V G M (pc + 1) lv (.int (x >>> (y &&& 31)) :: st) μ o μ1) : V G M pc lv (.int y :: .int x :: st) μ o μ1 := ⟨k.1, fun p e R s m args below meth c H locs cells slots ls F hl hP hS h1 h2 => lv_ishr F.1 F.2.1 d (k.2 p e R s m args below meth c H locs cells slots ls F hl hP hS h1 h2)⟩
theorem V_idiv {G : GX} {M : MT} {pc : Nat} {lv : List (Option Value)} {st : List Value} {μ μ1 : Mem} {o : Ou} {x y : Int32} (d : decode (mC M) pc = .ok (.idiv, 1)) (hne : ¬ y = 0) (k : V G M (pc + 1) lv (.int (x / y) :: st) μ o μ1) : V G M pc lv (.int y :: .int x :: st) μ o μ1 := ⟨k.1, fun p e R s m args below meth c H locs cells slots ls F hl hP hS h1 h2 => lv_idiv F.1 F.2.1 d hne (k.2 p e R s m args below meth c H locs cells slots ls F hl hP hS h1 h2)⟩
theorem V_irem {G : GX} {M : MT} {pc : Nat} {lv : List (Option Value)} {st : List Value} {μ μ1 : Mem} {o : Ou} {x y : Int32} (d : decode (mC M) pc = .ok (.irem, 1)) (hne : ¬ y = 0) (k : V G M (pc + 1) lv (.int (x - x / y * y) :: st) μ o μ1) : V G M pc lv (.int y :: .int x :: st) μ o μ1 := ⟨k.1, fun p e R s m args below meth c H locs cells slots ls F hl hP hS h1 h2 => lv_irem F.1 F.2.1 d hne (k.2 p e R s m args below meth c H locs cells slots ls F hl hP hS h1 h2)⟩
theorem V_iushr {G : GX} {M : MT} {pc : Nat} {lv : List (Option Value)} {st : List Value} {μ μ1 : Mem} {o : Ou} {x y : Int32} (d : decode (mC M) pc = .ok (.iushr, 1)) (k : V G M (pc + 1) lv (.int (x.toUInt32 >>> (y.toUInt32 &&& Int32.toUInt32 31)).toInt32 :: st) μ o μ1) : V G M pc lv (.int y :: .int x :: st) μ o μ1 := ⟨k.1, fun p e R s m args below meth c H locs cells slots ls F hl hP hS h1 h2 => lv_iushr F.1 F.2.1 d rfl (k.2 p e R s m args below meth c H locs cells slots ls F hl hP hS h1 h2)⟩
theorem V_ineg {G : GX} {M : MT} {pc : Nat} {lv : List (Option Value)} {st : List Value} {μ μ1 : Mem} {o : Ou} {x : Int32} (d : decode (mC M) pc = .ok (.ineg, 1)) (k : V G M (pc + 1) lv (.int (-x) :: st) μ o μ1) : V G M pc lv (.int x :: st) μ o μ1 := ⟨k.1, fun p e R s m args below meth c H locs cells slots ls F hl hP hS h1 h2 => lv_ineg F.1 F.2.1 d (k.2 p e R s m args below meth c H locs cells slots ls F hl hP hS h1 h2)⟩
theorem V_ladd {G : GX} {M : MT} {pc : Nat} {lv : List (Option Value)} {st : List Value} {μ μ1 : Mem} {o : Ou} {x y : Int64} (d : decode (mC M) pc = .ok (.ladd, 1)) (k : V G M (pc + 1) lv (.long (x + y) :: st) μ o μ1) : V G M pc lv (.long y :: .long x :: st) μ o μ1 := ⟨k.1, fun p e R s m args below meth c H locs cells slots ls F hl hP hS h1 h2 => lv_ladd F.1 F.2.1 d (k.2 p e R s m args below meth c H locs cells slots ls F hl hP hS h1 h2)⟩
theorem V_lsub {G : GX} {M : MT} {pc : Nat} {lv : List (Option Value)} {st : List Value} {μ μ1 : Mem} {o : Ou} {x y : Int64} (d : decode (mC M) pc = .ok (.lsub, 1)) (k : V G M (pc + 1) lv (.long (x - y) :: st) μ o μ1) : V G M pc lv (.long y :: .long x :: st) μ o μ1 := ⟨k.1, fun p e R s m args below meth c H locs cells slots ls F hl hP hS h1 h2 => lv_lsub F.1 F.2.1 d (k.2 p e R s m args below meth c H locs cells slots ls F hl hP hS h1 h2)⟩
theorem V_lmul {G : GX} {M : MT} {pc : Nat} {lv : List (Option Value)} {st : List Value} {μ μ1 : Mem} {o : Ou} {x y : Int64} (d : decode (mC M) pc = .ok (.lmul, 1)) (k : V G M (pc + 1) lv (.long (x * y) :: st) μ o μ1) : V G M pc lv (.long y :: .long x :: st) μ o μ1 := ⟨k.1, fun p e R s m args below meth c H locs cells slots ls F hl hP hS h1 h2 => lv_lmul F.1 F.2.1 d (k.2 p e R s m args below meth c H locs cells slots ls F hl hP hS h1 h2)⟩
theorem V_land {G : GX} {M : MT} {pc : Nat} {lv : List (Option Value)} {st : List Value} {μ μ1 : Mem} {o : Ou} {x y : Int64} (d : decode (mC M) pc = .ok (.land, 1)) (k : V G M (pc + 1) lv (.long (x &&& y) :: st) μ o μ1) : V G M pc lv (.long y :: .long x :: st) μ o μ1 := ⟨k.1, fun p e R s m args below meth c H locs cells slots ls F hl hP hS h1 h2 => lv_land F.1 F.2.1 d (k.2 p e R s m args below meth c H locs cells slots ls F hl hP hS h1 h2)⟩
theorem V_lor {G : GX} {M : MT} {pc : Nat} {lv : List (Option Value)} {st : List Value} {μ μ1 : Mem} {o : Ou} {x y : Int64} (d : decode (mC M) pc = .ok (.lor, 1)) (k : V G M (pc + 1) lv (.long (x ||| y) :: st) μ o μ1) : V G M pc lv (.long y :: .long x :: st) μ o μ1 := ⟨k.1, fun p e R s m args below meth c H locs cells slots ls F hl hP hS h1 h2 => lv_lor F.1 F.2.1 d (k.2 p e R s m args below meth c H locs cells slots ls F hl hP hS h1 h2)⟩
theorem V_ldiv {G : GX} {M : MT} {pc : Nat} {lv : List (Option Value)} {st : List Value} {μ μ1 : Mem} {o : Ou} {x y : Int64} (d : decode (mC M) pc = .ok (.ldiv, 1)) (hne : ¬ y = 0) (k : V G M (pc + 1) lv (.long (x / y) :: st) μ o μ1) : V G M pc lv (.long y :: .long x :: st) μ o μ1 := ⟨k.1, fun p e R s m args below meth c H locs cells slots ls F hl hP hS h1 h2 => lv_ldiv F.1 F.2.1 d hne (k.2 p e R s m args below meth c H locs cells slots ls F hl hP hS h1 h2)⟩
theorem V_lrem {G : GX} {M : MT} {pc : Nat} {lv : List (Option Value)} {st : List Value} {μ μ1 : Mem} {o : Ou} {x y : Int64} (d : decode (mC M) pc = .ok (.lrem, 1)) (hne : ¬ y = 0) (k : V G M (pc + 1) lv (.long (x - x / y * y) :: st) μ o μ1) : V G M pc lv (.long y :: .long x :: st) μ o μ1 := ⟨k.1, fun p e R s m args below meth c H locs cells slots ls F hl hP hS h1 h2 => lv_lrem F.1 F.2.1 d hne (k.2 p e R s m args below meth c H locs cells slots ls F hl hP hS h1 h2)⟩
theorem V_lneg {G : GX} {M : MT} {pc : Nat} {lv : List (Option Value)} {st : List Value} {μ μ1 : Mem} {o : Ou} {x : Int64} (d : decode (mC M) pc = .ok (.lneg, 1)) (k : V G M (pc + 1) lv (.long (-x) :: st) μ o μ1) : V G M pc lv (.long x :: st) μ o μ1 := ⟨k.1, fun p e R s m args below meth c H locs cells slots ls F hl hP hS h1 h2 => lv_lneg F.1 F.2.1 d (k.2 p e R s m args below meth c H locs cells slots ls F hl hP hS h1 h2)⟩
theorem V_lshl {G : GX} {M : MT} {pc : Nat} {lv : List (Option Value)} {st : List Value} {μ μ1 : Mem} {o : Ou} {x : Int64} {y : Int32} (d : decode (mC M) pc = .ok (.lshl, 1)) (k : V G M (pc + 1) lv (.long (x <<< (y.toInt64 &&& 63)) :: st) μ o μ1) : V G M pc lv (.int y :: .long x :: st) μ o μ1 := ⟨k.1, fun p e R s m args below meth c H locs cells slots ls F hl hP hS h1 h2 => lv_lshl F.1 F.2.1 d rfl (k.2 p e R s m args below meth c H locs cells slots ls F hl hP hS h1 h2)⟩
theorem V_i2l {G : GX} {M : MT} {pc : Nat} {lv : List (Option Value)} {st : List Value} {μ μ1 : Mem} {o : Ou} {x : Int32} (d : decode (mC M) pc = .ok (.i2l, 1)) (k : V G M (pc + 1) lv (.long x.toInt64 :: st) μ o μ1) : V G M pc lv (.int x :: st) μ o μ1 := ⟨k.1, fun p e R s m args below meth c H locs cells slots ls F hl hP hS h1 h2 => lv_i2l F.1 F.2.1 d rfl (k.2 p e R s m args below meth c H locs cells slots ls F hl hP hS h1 h2)⟩
theorem V_l2i {G : GX} {M : MT} {pc : Nat} {lv : List (Option Value)} {st : List Value} {μ μ1 : Mem} {o : Ou} {x : Int64} (d : decode (mC M) pc = .ok (.l2i, 1)) (k : V G M (pc + 1) lv (.int x.toInt32 :: st) μ o μ1) : V G M pc lv (.long x :: st) μ o μ1 := ⟨k.1, fun p e R s m args below meth c H locs cells slots ls F hl hP hS h1 h2 => lv_l2i F.1 F.2.1 d rfl (k.2 p e R s m args below meth c H locs cells slots ls F hl hP hS h1 h2)⟩
theorem V_lcmp {G : GX} {M : MT} {pc : Nat} {lv : List (Option Value)} {st : List Value} {μ μ1 : Mem} {o : Ou} {x y : Int64} (d : decode (mC M) pc = .ok (.lcmp, 1)) (k : V G M (pc + 1) lv (.int (lg_cmp x y) :: st) μ o μ1) : V G M pc lv (.long y :: .long x :: st) μ o μ1 := ⟨k.1, fun p e R s m args below meth c H locs cells slots ls F hl hP hS h1 h2 => W.lcmp F.1 F.2.1 d (k.2 p e R s m args below meth c H locs cells slots ls F hl hP hS h1 h2)⟩
theorem V_dup {G : GX} {M : MT} {pc : Nat} {lv : List (Option Value)} {st : List Value} {μ μ1 : Mem} {o : Ou} {a : Value} (d : decode (mC M) pc = .ok (.dup, 1)) (ha : a.category = 1) (k : V G M (pc + 1) lv (a :: a :: st) μ o μ1) : V G M pc lv (a :: st) μ o μ1 := ⟨k.1, fun p e R s m args below meth c H locs cells slots ls F hl hP hS h1 h2 => lv_dup F.1 F.2.1 d ((trv_cat G a).trans ha) (k.2 p e R s m args below meth c H locs cells slots ls F hl hP hS h1 h2)⟩
theorem V_dup2 {G : GX} {M : MT} {pc : Nat} {lv : List (Option Value)} {st : List Value} {μ μ1 : Mem} {o : Ou} {a b : Value} (d : decode (mC M) pc = .ok (.dup2, 1)) (ha : a.category = 1) (hb : b.category = 1) (k : V G M (pc + 1) lv (a :: b :: a :: b :: st) μ o μ1) : V G M pc lv (a :: b :: st) μ o μ1 := ⟨k.1, fun p e R s m args below meth c H locs cells slots ls F hl hP hS h1 h2 => lv_dup2_11 F.1 F.2.1 d ((trv_cat G a).trans ha) ((trv_cat G b).trans hb) (k.2 p e R s m args below meth c H locs cells slots ls F hl hP hS h1 h2)⟩
theorem V_dup2L {G : GX} {M : MT} {pc : Nat} {lv : List (Option Value)} {st : List Value} {μ μ1 : Mem} {o : Ou} {a : Value} (d : decode (mC M) pc = .ok (.dup2, 1)) (ha : a.category = 2) (k : V G M (pc + 1) lv (a :: a :: st) μ o μ1) : V G M pc lv (a :: st) μ o μ1 := ⟨k.1, fun p e R s m args below meth c H locs cells slots ls F hl hP hS h1 h2 => lv_dup2_2 F.1 F.2.1 d ((trv_cat G a).trans ha) (k.2 p e R s m args below meth c H locs cells slots ls F hl hP hS h1 h2)⟩
theorem V_pop {G : GX} {M : MT} {pc : Nat} {lv : List (Option Value)} {st : List Value} {μ μ1 : Mem} {o : Ou} {a : Value} (d : decode (mC M) pc = .ok (.pop, 1)) (ha : a.category = 1) (k : V G M (pc + 1) lv (st) μ o μ1) : V G M pc lv (a :: st) μ o μ1 := ⟨k.1, fun p e R s m args below meth c H locs cells slots ls F hl hP hS h1 h2 => lv_pop F.1 F.2.1 d ((trv_cat G a).trans ha) (k.2 p e R s m args below meth c H locs cells slots ls F hl hP hS h1 h2)⟩
theorem V_pop2L {G : GX} {M : MT} {pc : Nat} {lv : List (Option Value)} {st : List Value} {μ μ1 : Mem} {o : Ou} {a : Value} (d : decode (mC M) pc = .ok (.pop2, 1)) (ha : a.category = 2) (k : V G M (pc + 1) lv (st) μ o μ1) : V G M pc lv (a :: st) μ o μ1 := ⟨k.1, fun p e R s m args below meth c H locs cells slots ls F hl hP hS h1 h2 => lv_pop2_2 F.1 F.2.1 d ((trv_cat G a).trans ha) (k.2 p e R s m args below meth c H locs cells slots ls F hl hP hS h1 h2)⟩
theorem V_ifeq_t {G : GX} {M : MT} {pc : Nat} {lv : List (Option Value)} {st : List Value} {μ μ1 : Mem} {o : Ou} {x : Int32} {off : Int} {tgt : Nat} (d : decode (mC M) pc = .ok (.ifCond .eq off, 3)) (ht : (pc : Int) + off = (tgt : Int)) (hc : x = 0) (k : V G M tgt lv st μ o μ1) : V G M pc lv (.int x :: st) μ o μ1 := ⟨k.1, fun p e R s m args below meth c H locs cells slots ls F hl hP hS h1 h2 => lv_if_eq F.1 F.2.1 d ht (fun _ => k.2 p e R s m args below meth c H locs cells slots ls F hl hP hS h1 h2) (fun q => absurd hc q)⟩
theorem V_icmpeq_t {G : GX} {M : MT} {pc : Nat} {lv : List (Option Value)} {st : List Value} {μ μ1 : Mem} {o : Ou} {x y : Int32} {off : Int} {tgt : Nat} (d : decode (mC M) pc = .ok (.if_icmp .eq off, 3)) (ht : (pc : Int) + off = (tgt : Int)) (hc : x = y) (k : V G M tgt lv st μ o μ1) : V G M pc lv (.int y :: .int x :: st) μ o μ1 := ⟨k.1, fun p e R s m args below meth c H locs cells slots ls F hl hP hS h1 h2 => lv_icmp_eq F.1 F.2.1 d ht (fun _ => k.2 p e R s m args below meth c H locs cells slots ls F hl hP hS h1 h2) (fun q => absurd hc q)⟩
theorem V_ifeq_f {G : GX} {M : MT} {pc : Nat} {lv : List (Option Value)} {st : List Value} {μ μ1 : Mem} {o : Ou} {x : Int32} {off : Int} {tgt : Nat} (d : decode (mC M) pc = .ok (.ifCond .eq off, 3)) (ht : (pc : Int) + off = (tgt : Int)) (hc : ¬ (x = 0)) (k : V G M (pc + 3) lv st μ o μ1) : V G M pc lv (.int x :: st) μ o μ1 := ⟨k.1, fun p e R s m args below meth c H locs cells slots ls F hl hP hS h1 h2 => lv_if_eq F.1 F.2.1 d ht (fun q => absurd q hc) (fun _ => k.2 p e R s m args below meth c H locs cells slots ls F hl hP hS h1 h2)⟩
theorem V_icmpeq_f {G : GX} {M : MT} {pc : Nat} {lv : List (Option Value)} {st : List Value} {μ μ1 : Mem} {o : Ou} {x y : Int32} {off : Int} {tgt : Nat} (d : decode (mC M) pc = .ok (.if_icmp .eq off, 3)) (ht : (pc : Int) + off = (tgt : Int)) (hc : ¬ (x = y)) (k : V G M (pc + 3) lv st μ o μ1) : V G M pc lv (.int y :: .int x :: st) μ o μ1 := ⟨k.1, fun p e R s m args below meth c H locs cells slots ls F hl hP hS h1 h2 => lv_icmp_eq F.1 F.2.1 d ht (fun q => absurd q hc) (fun _ => k.2 p e R s m args below meth c H locs cells slots ls F hl hP hS h1 h2)⟩
theorem V_ifne_t {G : GX} {M : MT} {pc : Nat} {lv : List (Option Value)} {st : List Value} {μ μ1 : Mem} {o : Ou} {x : Int32} {off : Int} {tgt : Nat} (d : decode (mC M) pc = .ok (.ifCond .ne off, 3)) (ht : (pc : Int) + off = (tgt : Int)) (hc : ¬ x = 0) (k : V G M tgt lv st μ o μ1) : V G M pc lv (.int x :: st) μ o μ1 := ⟨k.1, fun p e R s m args below meth c H locs cells slots ls F hl hP hS h1 h2 => lv_if_ne F.1 F.2.1 d ht (fun _ => k.2 p e R s m args below meth c H locs cells slots ls F hl hP hS h1 h2) (fun q => absurd q hc)⟩
theorem V_icmpne_t {G : GX} {M : MT} {pc : Nat} {lv : List (Option Value)} {st : List Value} {μ μ1 : Mem} {o : Ou} {x y : Int32} {off : Int} {tgt : Nat} (d : decode (mC M) pc = .ok (.if_icmp .ne off, 3)) (ht : (pc : Int) + off = (tgt : Int)) (hc : ¬ x = y) (k : V G M tgt lv st μ o μ1) : V G M pc lv (.int y :: .int x :: st) μ o μ1 := ⟨k.1, fun p e R s m args below meth c H locs cells slots ls F hl hP hS h1 h2 => lv_icmp_ne F.1 F.2.1 d ht (fun _ => k.2 p e R s m args below meth c H locs cells slots ls F hl hP hS h1 h2) (fun q => absurd q hc)⟩
theorem V_ifne_f {G : GX} {M : MT} {pc : Nat} {lv : List (Option Value)} {st : List Value} {μ μ1 : Mem} {o : Ou} {x : Int32} {off : Int} {tgt : Nat} (d : decode (mC M) pc = .ok (.ifCond .ne off, 3)) (ht : (pc : Int) + off = (tgt : Int)) (hc : x = 0) (k : V G M (pc + 3) lv st μ o μ1) : V G M pc lv (.int x :: st) μ o μ1 := ⟨k.1, fun p e R s m args below meth c H locs cells slots ls F hl hP hS h1 h2 => lv_if_ne F.1 F.2.1 d ht (fun q => absurd hc q) (fun _ => k.2 p e R s m args below meth c H locs cells slots ls F hl hP hS h1 h2)⟩
theorem V_icmpne_f {G : GX} {M : MT} {pc : Nat} {lv : List (Option Value)} {st : List Value} {μ μ1 : Mem} {o : Ou} {x y : Int32} {off : Int} {tgt : Nat} (d : decode (mC M) pc = .ok (.if_icmp .ne off, 3)) (ht : (pc : Int) + off = (tgt : Int)) (hc : x = y) (k : V G M (pc + 3) lv st μ o μ1) : V G M pc lv (.int y :: .int x :: st) μ o μ1 := ⟨k.1, fun p e R s m args below meth c H locs cells slots ls F hl hP hS h1 h2 => lv_icmp_ne F.1 F.2.1 d ht (fun q => absurd hc q) (fun _ => k.2 p e R s m args below meth c H locs cells slots ls F hl hP hS h1 h2)⟩
theorem V_iflt_t {G : GX} {M : MT} {pc : Nat} {lv : List (Option Value)} {st : List Value} {μ μ1 : Mem} {o : Ou} {x : Int32} {off : Int} {tgt : Nat} (d : decode (mC M) pc = .ok (.ifCond .lt off, 3)) (ht : (pc : Int) + off = (tgt : Int)) (hc : x < 0) (k : V G M tgt lv st μ o μ1) : V G M pc lv (.int x :: st) μ o μ1 := ⟨k.1, fun p e R s m args below meth c H locs cells slots ls F hl hP hS h1 h2 => lv_if_lt F.1 F.2.1 d ht (fun _ => k.2 p e R s m args below meth c H locs cells slots ls F hl hP hS h1 h2) (fun q => absurd hc q)⟩
theorem V_icmplt_t {G : GX} {M : MT} {pc : Nat} {lv : List (Option Value)} {st : List Value} {μ μ1 : Mem} {o : Ou} {x y : Int32} {off : Int} {tgt : Nat} (d : decode (mC M) pc = .ok (.if_icmp .lt off, 3)) (ht : (pc : Int) + off = (tgt : Int)) (hc : x < y) (k : V G M tgt lv st μ o μ1) : V G M pc lv (.int y :: .int x :: st) μ o μ1 := ⟨k.1, fun p e R s m args below meth c H locs cells slots ls F hl hP hS h1 h2 => lv_icmp_lt F.1 F.2.1 d ht (fun _ => k.2 p e R s m args below meth c H locs cells slots ls F hl hP hS h1 h2) (fun q => absurd hc q)⟩
theorem V_iflt_f {G : GX} {M : MT} {pc : Nat} {lv : List (Option Value)} {st : List Value} {μ μ1 : Mem} {o : Ou} {x : Int32} {off : Int} {tgt : Nat} (d : decode (mC M) pc = .ok (.ifCond .lt off, 3)) (ht : (pc : Int) + off = (tgt : Int)) (hc : ¬ (x < 0)) (k : V G M (pc + 3) lv st μ o μ1) : V G M pc lv (.int x :: st) μ o μ1 := ⟨k.1, fun p e R s m args below meth c H locs cells slots ls F hl hP hS h1 h2 => lv_if_lt F.1 F.2.1 d ht (fun q => absurd q hc) (fun _ => k.2 p e R s m args below meth c H locs cells slots ls F hl hP hS h1 h2)⟩
theorem V_icmplt_f {G : GX} {M : MT} {pc : Nat} {lv : List (Option Value)} {st : List Value} {μ μ1 : Mem} {o : Ou} {x y : Int32} {off : Int} {tgt : Nat} (d : decode (mC M) pc = .ok (.if_icmp .lt off, 3)) (ht : (pc : Int) + off = (tgt : Int)) (hc : ¬ (x < y)) (k : V G M (pc + 3) lv st μ o μ1) : V G M pc lv (.int y :: .int x :: st) μ o μ1 := ⟨k.1, fun p e R s m args below meth c H locs cells slots ls F hl hP hS h1 h2 => lv_icmp_lt F.1 F.2.1 d ht (fun q => absurd q hc) (fun _ => k.2 p e R s m args below meth c H locs cells slots ls F hl hP hS h1 h2)⟩
theorem V_ifge_t {G : GX} {M : MT} {pc : Nat} {lv : List (Option Value)} {st : List Value} {μ μ1 : Mem} {o : Ou} {x : Int32} {off : Int} {tgt : Nat} (d : decode (mC M) pc = .ok (.ifCond .ge off, 3)) (ht : (pc : Int) + off = (tgt : Int)) (hc : 0 ≤ x) (k : V G M tgt lv st μ o μ1) : V G M pc lv (.int x :: st) μ o μ1 := ⟨k.1, fun p e R s m args below meth c H locs cells slots ls F hl hP hS h1 h2 => lv_if_ge F.1 F.2.1 d ht (fun _ => k.2 p e R s m args below meth c H locs cells slots ls F hl hP hS h1 h2) (fun q => absurd hc q)⟩
theorem V_icmpge_t {G : GX} {M : MT} {pc : Nat} {lv : List (Option Value)} {st : List Value} {μ μ1 : Mem} {o : Ou} {x y : Int32} {off : Int} {tgt : Nat} (d : decode (mC M) pc = .ok (.if_icmp .ge off, 3)) (ht : (pc : Int) + off = (tgt : Int)) (hc : y ≤ x) (k : V G M tgt lv st μ o μ1) : V G M pc lv (.int y :: .int x :: st) μ o μ1 := ⟨k.1, fun p e R s m args below meth c H locs cells slots ls F hl hP hS h1 h2 => lv_icmp_ge F.1 F.2.1 d ht (fun _ => k.2 p e R s m args below meth c H locs cells slots ls F hl hP hS h1 h2) (fun q => absurd hc q)⟩
theorem V_ifge_f {G : GX} {M : MT} {pc : Nat} {lv : List (Option Value)} {st : List Value} {μ μ1 : Mem} {o : Ou} {x : Int32} {off : Int} {tgt : Nat} (d : decode (mC M) pc = .ok (.ifCond .ge off, 3)) (ht : (pc : Int) + off = (tgt : Int)) (hc : ¬ (0 ≤ x)) (k : V G M (pc + 3) lv st μ o μ1) : V G M pc lv (.int x :: st) μ o μ1 := ⟨k.1, fun p e R s m args below meth c H locs cells slots ls F hl hP hS h1 h2 => lv_if_ge F.1 F.2.1 d ht (fun q => absurd q hc) (fun _ => k.2 p e R s m args below meth c H locs cells slots ls F hl hP hS h1 h2)⟩
theorem V_icmpge_f {G : GX} {M : MT} {pc : Nat} {lv : List (Option Value)} {st : List Value} {μ μ1 : Mem} {o : Ou} {x y : Int32} {off : Int} {tgt : Nat} (d : decode (mC M) pc = .ok (.if_icmp .ge off, 3)) (ht : (pc : Int) + off = (tgt : Int)) (hc : ¬ (y ≤ x)) (k : V G M (pc + 3) lv st μ o μ1) : V G M pc lv (.int y :: .int x :: st) μ o μ1 := ⟨k.1, fun p e R s m args below meth c H locs cells slots ls F hl hP hS h1 h2 => lv_icmp_ge F.1 F.2.1 d ht (fun q => absurd q hc) (fun _ => k.2 p e R s m args below meth c H locs cells slots ls F hl hP hS h1 h2)⟩
theorem V_ifgt_t {G : GX} {M : MT} {pc : Nat} {lv : List (Option Value)} {st : List Value} {μ μ1 : Mem} {o : Ou} {x : Int32} {off : Int} {tgt : Nat} (d : decode (mC M) pc = .ok (.ifCond .gt off, 3)) (ht : (pc : Int) + off = (tgt : Int)) (hc : 0 < x) (k : V G M tgt lv st μ o μ1) : V G M pc lv (.int x :: st) μ o μ1 := ⟨k.1, fun p e R s m args below meth c H locs cells slots ls F hl hP hS h1 h2 => lv_if_gt F.1 F.2.1 d ht (fun _ => k.2 p e R s m args below meth c H locs cells slots ls F hl hP hS h1 h2) (fun q => absurd hc q)⟩
theorem V_icmpgt_t {G : GX} {M : MT} {pc : Nat} {lv : List (Option Value)} {st : List Value} {μ μ1 : Mem} {o : Ou} {x y : Int32} {off : Int} {tgt : Nat} (d : decode (mC M) pc = .ok (.if_icmp .gt off, 3)) (ht : (pc : Int) + off = (tgt : Int)) (hc : y < x) (k : V G M tgt lv st μ o μ1) : V G M pc lv (.int y :: .int x :: st) μ o μ1 := ⟨k.1, fun p e R s m args below meth c H locs cells slots ls F hl hP hS h1 h2 => lv_icmp_gt F.1 F.2.1 d ht (fun _ => k.2 p e R s m args below meth c H locs cells slots ls F hl hP hS h1 h2) (fun q => absurd hc q)⟩
theorem V_ifgt_f {G : GX} {M : MT} {pc : Nat} {lv : List (Option Value)} {st : List Value} {μ μ1 : Mem} {o : Ou} {x : Int32} {off : Int} {tgt : Nat} (d : decode (mC M) pc = .ok (.ifCond .gt off, 3)) (ht : (pc : Int) + off = (tgt : Int)) (hc : ¬ (0 < x)) (k : V G M (pc + 3) lv st μ o μ1) : V G M pc lv (.int x :: st) μ o μ1 := ⟨k.1, fun p e R s m args below meth c H locs cells slots ls F hl hP hS h1 h2 => lv_if_gt F.1 F.2.1 d ht (fun q => absurd q hc) (fun _ => k.2 p e R s m args below meth c H locs cells slots ls F hl hP hS h1 h2)⟩
theorem V_icmpgt_f {G : GX} {M : MT} {pc : Nat} {lv : List (Option Value)} {st : List Value} {μ μ1 : Mem} {o : Ou} {x y : Int32} {off : Int} {tgt : Nat} (d : decode (mC M) pc = .ok (.if_icmp .gt off, 3)) (ht : (pc : Int) + off = (tgt : Int)) (hc : ¬ (y < x)) (k : V G M (pc + 3) lv st μ o μ1) : V G M pc lv (.int y :: .int x :: st) μ o μ1 := ⟨k.1, fun p e R s m args below meth c H locs cells slots ls F hl hP hS h1 h2 => lv_icmp_gt F.1 F.2.1 d ht (fun q => absurd q hc) (fun _ => k.2 p e R s m args below meth c H locs cells slots ls F hl hP hS h1 h2)⟩
theorem V_ifle_t {G : GX} {M : MT} {pc : Nat} {lv : List (Option Value)} {st : List Value} {μ μ1 : Mem} {o : Ou} {x : Int32} {off : Int} {tgt : Nat} (d : decode (mC M) pc = .ok (.ifCond .le off, 3)) (ht : (pc : Int) + off = (tgt : Int)) (hc : x ≤ 0) (k : V G M tgt lv st μ o μ1) : V G M pc lv (.int x :: st) μ o μ1 := ⟨k.1, fun p e R s m args below meth c H locs cells slots ls F hl hP hS h1 h2 => lv_if_le F.1 F.2.1 d ht (fun _ => k.2 p e R s m args below meth c H locs cells slots ls F hl hP hS h1 h2) (fun q => absurd hc q)⟩
theorem V_icmple_t {G : GX} {M : MT} {pc : Nat} {lv : List (Option Value)} {st : List Value} {μ μ1 : Mem} {o : Ou} {x y : Int32} {off : Int} {tgt : Nat} (d : decode (mC M) pc = .ok (.if_icmp .le off, 3)) (ht : (pc : Int) + off = (tgt : Int)) (hc : x ≤ y) (k : V G M tgt lv st μ o μ1) : V G M pc lv (.int y :: .int x :: st) μ o μ1 := ⟨k.1, fun p e R s m args below meth c H locs cells slots ls F hl hP hS h1 h2 => lv_icmp_le F.1 F.2.1 d ht (fun _ => k.2 p e R s m args below meth c H locs cells slots ls F hl hP hS h1 h2) (fun q => absurd hc q)⟩
theorem V_ifle_f {G : GX} {M : MT} {pc : Nat} {lv : List (Option Value)} {st : List Value} {μ μ1 : Mem} {o : Ou} {x : Int32} {off : Int} {tgt : Nat} (d : decode (mC M) pc = .ok (.ifCond .le off, 3)) (ht : (pc : Int) + off = (tgt : Int)) (hc : ¬ (x ≤ 0)) (k : V G M (pc + 3) lv st μ o μ1) : V G M pc lv (.int x :: st) μ o μ1 := ⟨k.1, fun p e R s m args below meth c H locs cells slots ls F hl hP hS h1 h2 => lv_if_le F.1 F.2.1 d ht (fun q => absurd q hc) (fun _ => k.2 p e R s m args below meth c H locs cells slots ls F hl hP hS h1 h2)⟩
theorem V_icmple_f {G : GX} {M : MT} {pc : Nat} {lv : List (Option Value)} {st : List Value} {μ μ1 : Mem} {o : Ou} {x y : Int32} {off : Int} {tgt : Nat} (d : decode (mC M) pc = .ok (.if_icmp .le off, 3)) (ht : (pc : Int) + off = (tgt : Int)) (hc : ¬ (x ≤ y)) (k : V G M (pc + 3) lv st μ o μ1) : V G M pc lv (.int y :: .int x :: st) μ o μ1 := ⟨k.1, fun p e R s m args below meth c H locs cells slots ls F hl hP hS h1 h2 => lv_icmp_le F.1 F.2.1 d ht (fun q => absurd q hc) (fun _ => k.2 p e R s m args below meth c H locs cells slots ls F hl hP hS h1 h2)⟩
theorem V_goto {G : GX} {M : MT} {pc : Nat} {lv : List (Option Value)} {st : List Value} {μ μ1 : Mem} {o : Ou} {off : Int} {tgt : Nat} (d : decode (mC M) pc = .ok (.goto off, 3)) (ht : (pc : Int) + off = (tgt : Int)) (k : V G M tgt lv st μ o μ1) : V G M pc lv st μ o μ1 := ⟨k.1, fun p e R s m args below meth c H locs cells slots ls F hl hP hS h1 h2 => lv_goto F.1 F.2.1 d ht (k.2 p e R s m args below meth c H locs cells slots ls F hl hP hS h1 h2)⟩
theorem V_tabOut {G : GX} {M : MT} {pc : Nat} {lv : List (Option Value)} {st : List Value} {μ μ1 : Mem} {o : Ou} {df lo hi : Int} {os : Array Int} {len : Nat} {x : Int32} {tgt : Nat} (d : decode (mC M) pc = .ok (.tableswitch df lo hi os, len)) (h : x.toInt < lo ∨ hi < x.toInt) (ht : (pc : Int) + df = (tgt : Int)) (k : V G M tgt lv st μ o μ1) : V G M pc lv (.int x :: st) μ o μ1 := ⟨k.1, fun p e R s m args below meth c H locs cells slots ls F hl hP hS h1 h2 => lv_tableOut F.1 F.2.1 d h ht (k.2 p e R s m args below meth c H locs cells slots ls F hl hP hS h1 h2)⟩
theorem V_tabIn {G : GX} {M : MT} {pc : Nat} {lv : List (Option Value)} {st : List Value} {μ μ1 : Mem} {o : Ou} {df lo hi : Int} {os : Array Int} {len : Nat} {x : Int32} {off : Int} {tgt : Nat} (d : decode (mC M) pc = .ok (.tableswitch df lo hi os, len)) (ha : ¬ x.toInt < lo) (hb : ¬ hi < x.toInt) (ho : os[(x.toInt - lo).toNat]? = some off) (ht : (pc : Int) + off = (tgt : Int)) (k : V G M tgt lv st μ o μ1) : V G M pc lv (.int x :: st) μ o μ1 := ⟨k.1, fun p e R s m args below meth c H locs cells slots ls F hl hP hS h1 h2 => lv_tableIn F.1 F.2.1 d ha hb ho ht (k.2 p e R s m args below meth c H locs cells slots ls F hl hP hS h1 h2)⟩
theorem V_look {G : GX} {M : MT} {pc : Nat} {lv : List (Option Value)} {st : List Value} {μ μ1 : Mem} {o : Ou} {df : Int} {ps : Array (Int × Int)} {len : Nat} {x : Int32} {off : Int} {tgt : Nat} (d : decode (mC M) pc = .ok (.lookupswitch df ps, len)) (hp : (ps.toList.zip (ps.toList.drop 1)).all (fun (a, next) => a.1 < next.1) = true) (ho : Op.lookupswitch.offset ps.toList df x.toInt = off) (ht : (pc : Int) + off = (tgt : Int)) (k : V G M tgt lv st μ o μ1) : V G M pc lv (.int x :: st) μ o μ1 := ⟨k.1, fun p e R s m args below meth c H locs cells slots ls F hl hP hS h1 h2 => lv_lookup F.1 F.2.1 d hp ho ht (k.2 p e R s m args below meth c H locs cells slots ls F hl hP hS h1 h2)⟩
