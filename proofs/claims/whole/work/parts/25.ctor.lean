/-! CONSTRUCTORS: the table of the cells grows -/
def gw (G : GX) (tb : List Ent) : GX := (G.1, G.2.1, G.2.2.1, G.2.2.2.1, G.2.2.2.2.1, G.2.2.2.2.2.1, G.2.2.2.2.2.2.1, tb)
theorem flds_gw {G : GX} {tb : List Ent} {μ : Mem} {c : Nat} : ∀ (l : List (Option (Option Nat))) (k : Nat), flds (gw G tb) μ c k l = flds G μ c k l
  | [], k => rfl
  | none :: r, k => by simp only [flds, flds_gw r]
  | some none :: r, k => by simp only [flds, flds_gw r]
  | some (some q) :: r, k => by simp only [flds, flds_gw r]; rfl
theorem ent_gw {G : GX} {tb : List Ent} {μ : Mem} {c : Nat} (e : Ent) : ent (gw G tb) μ c e = ent G μ c e := by
  cases e with
  | inl a => rfl
  | inr o => simp only [ent, flds_gw]
theorem wdl_gw {G : GX} {tb : List Ent} {μ : Mem} : ∀ (l : List Ent) (c : Nat), wdl (gw G tb) μ c l = wdl G μ c l
  | [], c => rfl
  | e :: r, c => by simp only [wdl, wdl_gw r, ent_gw]; rfl
theorem wdl_app {G : GX} {μ : Mem} (e : Ent) : ∀ (l : List Ent) (c : Nat), wdl G μ c (l ++ [e]) = wdl G μ c l ++ [(gb G + (c + l.length), ent G μ (c + l.length) e)]
  | [], c => by simp [wdl]
  | a :: r, c => by
    have h : c + 1 + r.length = c + (r.length + 1) := by omega
    simp only [List.cons_append, wdl, wdl_app e r (c + 1), List.length_cons, h]
theorem wd_app {G : GX} {μ : Mem} (e : Ent) : wd (gw G (gt G ++ [e])) μ = wd G μ ++ [(gb G + (gt G).length, ent G μ (gt G).length e)] := by
  have h := wdl_app (G := G) (μ := μ) e (gt G) 0
  rw [Nat.zero_add] at h
  show wdl (gw G (gt G ++ [e])) μ 0 (gt G ++ [e]) = _
  rw [wdl_gw, h]
  rfl
theorem trv_gw {G : GX} {tb : List Ent} : trv (gw G tb) = trv G := by funext v; cases v <;> rfl
theorem lvs_gw {G : GX} {tb : List Ent} : ∀ (l : List (Option Value)) (i : Nat), lvs (gw G tb) i l = lvs G i l
  | [], i => rfl
  | none :: r, i => by simp only [lvs, lvs_gw r]
  | some v :: r, i => by simp only [lvs, lvs_gw r, trv_gw]
def xwc : List Cond := [.methodLinkNest "TallTowers" 11 ⟨"TallTowers$Log", "<init>", "()V"⟩ "TallTowers", .methodLinkNest "TallTowers" 18 ⟨"TallTowers$Book", "<init>", "()V"⟩ "TallTowers", .methodLinkNest "TallTowers" 28 ⟨"TallTowers$Spreader", "<init>", "()V"⟩ "TallTowers",
  .methodLinkNest "TallTowers$Book" 20 ⟨"TallTowers$Harms", "<init>", "()V"⟩ "TallTowers", .methodLinkNest "TallTowers$Spreader" 11 ⟨"TallTowers$Outcome", "<init>", "()V"⟩ "TallTowers"]
theorem xwc_ok : xwc.all wmk = true := by decide +kernel
def gC (U : State) : Prop := ∀ w ∈ xwc, va_Nw w U
theorem gC_warm {s U : State} (hW : s.WarmedH U.vm) (h : gC s) : gC U := fun w hw => wmk_warm (List.all_eq_true.mp xwc_ok w hw) hW (h w hw)
def gQC (G : GX) (tb : List Ent) (ex : Prop) (o : Ou) (μ : Mem) : Array Value → State → Outcome → State → Prop := fun a st oc t => gQ (gw G tb) o μ a st oc t ∧ (ex → t.heap.size = gb G + tb.length)
/-- as V, while cells are made: the heap ends where the table does; 'ex': so it does at the end -/
def VC (G : GX) (M : MT) (pc : Nat) (lv : List (Option Value)) (st : List Value) (μ : Mem) (ex : Prop) (o : Ou) (tb : List Ent) (μ' : Mem) : Prop :=
  (μ.2.2.1 ≤ μ'.2.2.1 ∧ μ.2.2.2 ≤ μ'.2.2.2) ∧
  ∀ (p : Program) (e : Env) (R : Room) (s : State) (m : MethodId) (args : Array Value) (below : List Frame) (meth : Method) (c : Code) (H : Heap) (locs : List Loc) (cells slots : Nat) (ls : Array Slot),
    Fx G M p R s m args meth c → (meth.name = (mY M).name ∧ gC s) → lv_has ls (mL M) (lvs G 0 lv) → va_P (gd G) vwCl (wd G μ) H → (H.size = gb G + (gt G).length ∧ H.size = s.heap.size + cells) → va_S (gA G) s.heap H locs →
    cells + μ'.2.2.1 ≤ R.cells + μ.2.2.1 → slots + μ'.2.2.2 ≤ R.slots + μ.2.2.2 →
    W p (gl G) e R s m args below meth c H locs cells slots (vx_MQ below (gQC G tb ex o μ') (gE (gw G tb) o μ') args s R.cells R.slots (gA G)) (F0 m pc ls (st.map (trv G)))
def gPC (G : GX) (as : List Value) (μ : Mem) : Array Value → State → Prop := fun a U => a = (as.map (trv G)).toArray ∧ W0 G μ U ∧ U.heap.size = gb G + (gt G).length ∧ gC U
def VMC (G : GX) (M : MT) (as : List Value) (μ : Mem) (tb : List Ent) (μ' : Mem) : Prop :=
  (μ.2.2.1 ≤ μ'.2.2.1 ∧ μ.2.2.2 ≤ μ'.2.2.2) ∧
  Met (gl G) (mY M) (mK M :: bigW) { frames := mF M, cells := μ'.2.2.1 - μ.2.2.1, slots := μ'.2.2.2 - μ.2.2.2, locals := mW M } (gPC G as μ) (gQC G tb True (.inl none) μ') (μ'.2.2.1 - μ.2.2.1) (μ'.2.2.2 - μ.2.2.2) (gA G)

theorem VC_iconst {G : GX} {M : MT} {pc : Nat} {lv : List (Option Value)} {st : List Value} {μ μ1 : Mem} {ex : Prop} {o : Ou} {tb : List Ent} {n : Int} {v : Int32} (d : decode (mC M) pc = .ok (.iconst n, 1)) (hv : Int32.ofInt n = v) (k : VC G M (pc + 1) lv (.int v :: st) μ ex o tb μ1) : VC G M pc lv (st) μ ex o tb μ1 := ⟨k.1, fun p e R s m args below meth c H locs cells slots ls F hN hl hP hZ hS h1 h2 => lv_iconst F.1 F.2.1 d hv (k.2 p e R s m args below meth c H locs cells slots ls F hN hl hP hZ hS h1 h2)⟩
theorem VC_bipush {G : GX} {M : MT} {pc : Nat} {lv : List (Option Value)} {st : List Value} {μ μ1 : Mem} {ex : Prop} {o : Ou} {tb : List Ent} {n : Int} {v : Int32} (d : decode (mC M) pc = .ok (.bipush n, 2)) (hv : (Int8.ofInt n).toInt32 = v) (k : VC G M (pc + 2) lv (.int v :: st) μ ex o tb μ1) : VC G M pc lv (st) μ ex o tb μ1 := ⟨k.1, fun p e R s m args below meth c H locs cells slots ls F hN hl hP hZ hS h1 h2 => lv_bipush F.1 F.2.1 d hv (k.2 p e R s m args below meth c H locs cells slots ls F hN hl hP hZ hS h1 h2)⟩
theorem VC_sipush {G : GX} {M : MT} {pc : Nat} {lv : List (Option Value)} {st : List Value} {μ μ1 : Mem} {ex : Prop} {o : Ou} {tb : List Ent} {n : Int} {v : Int32} (d : decode (mC M) pc = .ok (.sipush n, 3)) (hv : (Int16.ofInt n).toInt32 = v) (k : VC G M (pc + 3) lv (.int v :: st) μ ex o tb μ1) : VC G M pc lv (st) μ ex o tb μ1 := ⟨k.1, fun p e R s m args below meth c H locs cells slots ls F hN hl hP hZ hS h1 h2 => lv_sipush F.1 F.2.1 d hv (k.2 p e R s m args below meth c H locs cells slots ls F hN hl hP hZ hS h1 h2)⟩
theorem VC_dup {G : GX} {M : MT} {pc : Nat} {lv : List (Option Value)} {st : List Value} {μ μ1 : Mem} {ex : Prop} {o : Ou} {tb : List Ent} {a : Value} (d : decode (mC M) pc = .ok (.dup, 1)) (ha : a.category = 1) (k : VC G M (pc + 1) lv (a :: a :: st) μ ex o tb μ1) : VC G M pc lv (a :: st) μ ex o tb μ1 := ⟨k.1, fun p e R s m args below meth c H locs cells slots ls F hN hl hP hZ hS h1 h2 => lv_dup F.1 F.2.1 d ((trv_cat G a).trans ha) (k.2 p e R s m args below meth c H locs cells slots ls F hN hl hP hZ hS h1 h2)⟩
theorem VC_aload_n {G : GX} {M : MT} {pc : Nat} {lv : List (Option Value)} {st : List Value} {μ μ1 : Mem} {ex : Prop} {o : Ou} {tb : List Ent} {j : Fin 4} {x : Nat} (d : decode (mC M) pc = .ok (.aload_n j, 1)) (hi : lv[(j : Nat)]? = some (some (.ref x))) (k : VC G M (pc + 1) lv (.ref x :: st) μ ex o tb μ1) : VC G M pc lv st μ ex o tb μ1 := ⟨k.1, fun p e R s m args below meth c H locs cells slots ls F hN hl hP hZ hS h1 h2 => lv_aload_n F.1 F.2.1 d rfl (lvs_at hl hi) (k.2 p e R s m args below meth c H locs cells slots ls F hN hl hP hZ hS h1 h2)⟩
theorem VC_istore_n {G : GX} {M : MT} {pc : Nat} {lv : List (Option Value)} {st : List Value} {μ μ1 : Mem} {ex : Prop} {o : Ou} {tb : List Ent} {j : Fin 4} {x : Int32} {lv2 : List (Option Value)} (d : decode (mC M) pc = .ok (.istore_n j, 1)) (hj : (j : Nat) < mL M) (e9 : stI lv (j : Nat) (.int x) = lv2) (k : VC G M (pc + 1) lv2 st μ ex o tb μ1) : VC G M pc lv (.int x :: st) μ ex o tb μ1 := ⟨k.1, fun p e R s m args below meth c H locs cells slots ls F hN hl hP hZ hS h1 h2 => lv_istore_n F.1 F.2.1 d rfl hl hj rfl (fun ls2 h9 => k.2 p e R s m args below meth c H locs cells slots ls2 F hN (e9 ▸ stI_has h9) hP hZ hS h1 h2)⟩
theorem VC_istore {G : GX} {M : MT} {pc : Nat} {lv : List (Option Value)} {st : List Value} {μ μ1 : Mem} {ex : Prop} {o : Ou} {tb : List Ent} {j : Nat} {x : Int32} {lv2 : List (Option Value)} (d : decode (mC M) pc = .ok (.istore j, 2)) (hj : j < mL M) (e9 : stI lv j (.int x) = lv2) (k : VC G M (pc + 2) lv2 st μ ex o tb μ1) : VC G M pc lv (.int x :: st) μ ex o tb μ1 := ⟨k.1, fun p e R s m args below meth c H locs cells slots ls F hN hl hP hZ hS h1 h2 => lv_istore F.1 F.2.1 d hl hj rfl (fun ls2 h9 => k.2 p e R s m args below meth c H locs cells slots ls2 F hN (e9 ▸ stI_has h9) hP hZ hS h1 h2)⟩
theorem VC_astore_n {G : GX} {M : MT} {pc : Nat} {lv : List (Option Value)} {st : List Value} {μ μ1 : Mem} {ex : Prop} {o : Ou} {tb : List Ent} {j : Fin 4} {x : Nat} {lv2 : List (Option Value)} (d : decode (mC M) pc = .ok (.astore_n j, 1)) (hj : (j : Nat) < mL M) (e9 : stI lv (j : Nat) (.ref x) = lv2) (k : VC G M (pc + 1) lv2 st μ ex o tb μ1) : VC G M pc lv (.ref x :: st) μ ex o tb μ1 := ⟨k.1, fun p e R s m args below meth c H locs cells slots ls F hN hl hP hZ hS h1 h2 => lv_astore_n F.1 F.2.1 d rfl hl hj rfl (fun ls2 h9 => k.2 p e R s m args below meth c H locs cells slots ls2 F hN (e9 ▸ stI_has h9) hP hZ hS h1 h2)⟩
theorem VC_astore {G : GX} {M : MT} {pc : Nat} {lv : List (Option Value)} {st : List Value} {μ μ1 : Mem} {ex : Prop} {o : Ou} {tb : List Ent} {j : Nat} {x : Nat} {lv2 : List (Option Value)} (d : decode (mC M) pc = .ok (.astore j, 2)) (hj : j < mL M) (e9 : stI lv j (.ref x) = lv2) (k : VC G M (pc + 2) lv2 st μ ex o tb μ1) : VC G M pc lv (.ref x :: st) μ ex o tb μ1 := ⟨k.1, fun p e R s m args below meth c H locs cells slots ls F hN hl hP hZ hS h1 h2 => lv_astore F.1 F.2.1 d hl hj rfl (fun ls2 h9 => k.2 p e R s m args below meth c H locs cells slots ls2 F hN (e9 ▸ stI_has h9) hP hZ hS h1 h2)⟩
/-- an object: its fields are null or 0 -/
def dv : Option (Option Nat) → Value
  | none => .int 0
  | some _ => .null
theorem flds_dv {G : GX} {μ : Mem} {c : Nat} (hz : μ.1 c = fun _ => 0) : ∀ (l : List (Option (Option Nat))) (k : Nat), (∀ f ∈ l, f = none ∨ f = some none) → flds G μ c k l = l.map dv
  | [], k, _ => rfl
  | none :: r, k, h => by
    simp only [flds, List.map_cons, dv, hz]
    rw [flds_dv hz r (k + 1) (fun f hf => h f (List.mem_cons_of_mem _ hf))]
  | some none :: r, k, h => by
    simp only [flds, List.map_cons, dv]
    rw [flds_dv hz r (k + 1) (fun f hf => h f (List.mem_cons_of_mem _ hf))]
  | some (some q) :: r, k, h => by
    rcases h (some (some q)) List.mem_cons_self with z | z <;> cases z
theorem VC_next {G : GX} {M : MT} {pc : Nat} {lv : List (Option Value)} {st : List Value} {μ μ1 : Mem} {ex : Prop} {o : Ou} {tb T : List Ent} (k : VC (gw G T) M pc lv st μ ex o tb μ1) {p : Program} {e : Env} {R : Room} {s : State} {m : MethodId} {args : Array Value} {below : List Frame} {meth : Method} {c : Code} {H : Heap} {locs : List Loc} {cells slots : Nat} {ls : Array Slot}
    (F : Fx G M p R s m args meth c) (hN : meth.name = (mY M).name ∧ gC s) (hl : lv_has ls (mL M) (lvs G 0 lv)) (hP : va_P (gd G) vwCl (wd (gw G T) μ) H) (hZ : H.size = gb G + T.length ∧ H.size = s.heap.size + cells) (hS : va_S (gA G) s.heap H locs) (h1 : cells + μ1.2.2.1 ≤ R.cells + μ.2.2.1) (h2 : slots + μ1.2.2.2 ≤ R.slots + μ.2.2.2) :
    W p (gl G) e R s m args below meth c H locs cells slots (vx_MQ below (gQC G tb ex o μ1) (gE (gw G tb) o μ1) args s R.cells R.slots (gA G)) (F0 m pc ls (st.map (trv G))) := by
  have h := k.2 p e R s m args below meth c H locs cells slots ls F hN (by rw [lvs_gw]; exact hl) hP hZ hS h1 h2
  rw [trv_gw] at h
  exact h
theorem VC_new {G : GX} {M : MT} {pc : Nat} {lv : List (Option Value)} {st : List Value} {μ μ1 : Mem} {ex : Prop} {o : Ou} {tb : List Ent} {ci N idx : Nat} {C : String} {X : u_T} {ty : Nat → FieldType} {fs : List (Option (Option Nat))} (d : decode (mC M) pc = .ok (.new idx, 3)) (hk : kOK ci C X N ty) (hcl : Cond.classLink (mO M) idx C ∈ bigW) (hin : Cond.instantiable C N ∈ bigW) (hini : Cond.initialized C ∈ bigW) (hf : ∀ f ∈ fs, f = none ∨ f = some none) (hd : ∀ j, j < N → defaultValue (ty j) = vp_V (fs.map dv) j) (hz : μ.1 (gt G).length = fun _ => 0)
    (k : VC (gw G (gt G ++ [.inr (ci, fs)])) M (pc + 3) lv (.ref (gt G).length :: st) (μ.1, μ.2.1, μ.2.2.1 + 1, μ.2.2.2 + N) ex o tb μ1) : VC G M pc lv st μ ex o tb μ1 := by
  have b1 := k.1.1
  have b2 := k.1.2
  dsimp only at b1 b2
  refine ⟨⟨by omega, by omega⟩, fun p e R s m args below meth c H locs cells slots ls F hN hl hP hZ hS h1 h2 => ?_⟩
  have hts := F.2.2.2.2.2.1
  have hgK := F.2.2.2.2.2.2.2.2.2.2.1
  have hKn := hgK.1.1 ci _ hk.1
  refine W.newcK F.1 F.2.1 F.2.2.2.2.1 (hts _ hcl) (hts _ hin) (hts _ hini) rfl d (by omega) (by omega) hKn.2.1 hZ.1 fun H1 kC hkC e1 z1 o1 => ?_
  refine VC_next k F hN hl ?_ ⟨by rw [z1, List.length_append]; simp only [List.length_cons, List.length_nil]; omega, by rw [z1]; omega⟩ ⟨by rw [z1]; have := hS.1; omega, fun q g1 g2 => (o1 q (by have := hS.1; omega)).trans (hS.2.1 q g1 g2), hS.2.2⟩ (by show cells + 1 + _ ≤ R.cells + (μ.2.2.1 + 1); omega) (by show slots + N + _ ≤ R.slots + (μ.2.2.2 + N); omega)
  rw [show wd (gw G (gt G ++ [.inr (ci, fs)])) (μ.1, μ.2.1, μ.2.2.1 + 1, μ.2.2.2 + N) = wd (gw G (gt G ++ [.inr (ci, fs)])) μ from wd_eq rfl rfl, wd_app]
  refine (hP.kept fun j x hx => o1 x.1 (by rw [← hZ.1]; exact (hP j x hx).lt)).app (fun j x hx => ?_)
  have hj : j < 1 := (List.getElem?_eq_some_iff.mp hx).1
  rw [show j = 0 by omega] at hx
  cases hx
  refine ⟨_, hk.1, (u_born ty hts hk.2.1 hKn hkC e1 hk.2.2.1).to fun i hi => ?_⟩
  rw [flds_dv hz fs 0 hf]
  exact hd i hi
theorem VC_new_int {G : GX} {M : MT} {pc : Nat} {lv : List (Option Value)} {st : List Value} {μ μ1 : Mem} {ex : Prop} {o : Ou} {tb : List Ent} {n : Int32} {N : Nat} (d : decode (mC M) pc = .ok (.newarray .int, 2)) (hw : Cond.arrayClass .int ∈ bigW) (hn : ¬ n < 0) (hN9 : n.toNatClampNeg = N) (hb : N * componentBytes .int ≤ 536870912) (hz : μ.1 (gt G).length = fun _ => 0)
    (k : VC (gw G (gt G ++ [.inl (0, N)])) M (pc + 2) lv (.ref (gt G).length :: st) (μ.1, μ.2.1, μ.2.2.1 + 1, μ.2.2.2 + N) ex o tb μ1) : VC G M pc lv (.int n :: st) μ ex o tb μ1 := by
  have b1 := k.1.1
  have b2 := k.1.2
  dsimp only at b1 b2
  refine ⟨⟨by omega, by omega⟩, fun p e R s m args below meth c H locs cells slots ls F hN hl hP hZ hS h1 h2 => ?_⟩
  have hts := F.2.2.2.2.2.1
  have hgK := F.2.2.2.2.2.2.2.2.2.2.1
  refine va_newaK (atype := .int) F.1 F.2.1 (hts _ hw) rfl d (rest := st.map (trv G)) rfl hn hN9 hb (by omega) (by omega) hZ.1 fun H1 cA e1 z1 o1 hAr hNm => ?_
  have hA : cA = gc G 0 := Option.some.inj (hNm.symm.trans (hgK.1.2 0 _ rfl).2)
  subst hA
  refine VC_next k F hN hl ?_ ⟨by rw [z1, List.length_append]; simp only [List.length_cons, List.length_nil]; omega, by rw [z1]; omega⟩ ⟨by rw [z1]; have := hS.1; omega, fun q g1 g2 => (o1 q (by have := hS.1; omega)).trans (hS.2.1 q g1 g2), hS.2.2⟩ (by show cells + 1 + _ ≤ R.cells + (μ.2.2.1 + 1); omega) (by show slots + N + _ ≤ R.slots + (μ.2.2.2 + N); omega)
  rw [show wd (gw G (gt G ++ [.inl (0, N)])) (μ.1, μ.2.1, μ.2.2.1 + 1, μ.2.2.2 + N) = wd (gw G (gt G ++ [.inl (0, N)])) μ from wd_eq rfl rfl, wd_app]
  refine (hP.kept fun j x hx => o1 x.1 (by rw [← hZ.1]; exact (hP j x hx).lt)).app (fun j x hx => ?_)
  have hj : j < 1 := (List.getElem?_eq_some_iff.mp hx).1
  rw [show j = 0 by omega] at hx
  cases hx
  show H1[_]? = some (vp_cell _ _)
  rw [e1]
  show _ = some (vp_cell (gc G 0) (N, .inl (μ.1 (gt G).length)))
  rw [hz]
  rfl
theorem VC_new_long {G : GX} {M : MT} {pc : Nat} {lv : List (Option Value)} {st : List Value} {μ μ1 : Mem} {ex : Prop} {o : Ou} {tb : List Ent} {n : Int32} {N : Nat} (d : decode (mC M) pc = .ok (.newarray .long, 2)) (hw : Cond.arrayClass .long ∈ bigW) (hn : ¬ n < 0) (hN9 : n.toNatClampNeg = N) (hb : N * componentBytes .long ≤ 536870912) (hz : μ.2.1 (gt G).length = fun _ => 0)
    (k : VC (gw G (gt G ++ [.inl (1, N)])) M (pc + 2) lv (.ref (gt G).length :: st) (μ.1, μ.2.1, μ.2.2.1 + 1, μ.2.2.2 + N) ex o tb μ1) : VC G M pc lv (.int n :: st) μ ex o tb μ1 := by
  have b1 := k.1.1
  have b2 := k.1.2
  dsimp only at b1 b2
  refine ⟨⟨by omega, by omega⟩, fun p e R s m args below meth c H locs cells slots ls F hN hl hP hZ hS h1 h2 => ?_⟩
  have hts := F.2.2.2.2.2.1
  have hgK := F.2.2.2.2.2.2.2.2.2.2.1
  refine va_newaK (atype := .long) F.1 F.2.1 (hts _ hw) rfl d (rest := st.map (trv G)) rfl hn hN9 hb (by omega) (by omega) hZ.1 fun H1 cA e1 z1 o1 hAr hNm => ?_
  have hA : cA = gc G 1 := Option.some.inj (hNm.symm.trans (hgK.1.2 1 _ rfl).2)
  subst hA
  refine VC_next k F hN hl ?_ ⟨by rw [z1, List.length_append]; simp only [List.length_cons, List.length_nil]; omega, by rw [z1]; omega⟩ ⟨by rw [z1]; have := hS.1; omega, fun q g1 g2 => (o1 q (by have := hS.1; omega)).trans (hS.2.1 q g1 g2), hS.2.2⟩ (by show cells + 1 + _ ≤ R.cells + (μ.2.2.1 + 1); omega) (by show slots + N + _ ≤ R.slots + (μ.2.2.2 + N); omega)
  rw [show wd (gw G (gt G ++ [.inl (1, N)])) (μ.1, μ.2.1, μ.2.2.1 + 1, μ.2.2.2 + N) = wd (gw G (gt G ++ [.inl (1, N)])) μ from wd_eq rfl rfl, wd_app]
  refine (hP.kept fun j x hx => o1 x.1 (by rw [← hZ.1]; exact (hP j x hx).lt)).app (fun j x hx => ?_)
  have hj : j < 1 := (List.getElem?_eq_some_iff.mp hx).1
  rw [show j = 0 by omega] at hx
  cases hx
  show H1[_]? = some (vp_cell _ _)
  rw [e1]
  show _ = some (vp_cell (gc G 1) (N, .inr (.inl (μ.2.1 (gt G).length))))
  rw [hz]
  rfl
theorem VC_new_boolean {G : GX} {M : MT} {pc : Nat} {lv : List (Option Value)} {st : List Value} {μ μ1 : Mem} {ex : Prop} {o : Ou} {tb : List Ent} {n : Int32} {N : Nat} (d : decode (mC M) pc = .ok (.newarray .boolean, 2)) (hw : Cond.arrayClass .boolean ∈ bigW) (hn : ¬ n < 0) (hN9 : n.toNatClampNeg = N) (hb : N * componentBytes .boolean ≤ 536870912) (hz : μ.1 (gt G).length = fun _ => 0)
    (k : VC (gw G (gt G ++ [.inl (2, N)])) M (pc + 2) lv (.ref (gt G).length :: st) (μ.1, μ.2.1, μ.2.2.1 + 1, μ.2.2.2 + N) ex o tb μ1) : VC G M pc lv (.int n :: st) μ ex o tb μ1 := by
  have b1 := k.1.1
  have b2 := k.1.2
  dsimp only at b1 b2
  refine ⟨⟨by omega, by omega⟩, fun p e R s m args below meth c H locs cells slots ls F hN hl hP hZ hS h1 h2 => ?_⟩
  have hts := F.2.2.2.2.2.1
  have hgK := F.2.2.2.2.2.2.2.2.2.2.1
  refine va_newaK (atype := .boolean) F.1 F.2.1 (hts _ hw) rfl d (rest := st.map (trv G)) rfl hn hN9 hb (by omega) (by omega) hZ.1 fun H1 cA e1 z1 o1 hAr hNm => ?_
  have hA : cA = gc G 2 := Option.some.inj (hNm.symm.trans (hgK.1.2 2 _ rfl).2)
  subst hA
  refine VC_next k F hN hl ?_ ⟨by rw [z1, List.length_append]; simp only [List.length_cons, List.length_nil]; omega, by rw [z1]; omega⟩ ⟨by rw [z1]; have := hS.1; omega, fun q g1 g2 => (o1 q (by have := hS.1; omega)).trans (hS.2.1 q g1 g2), hS.2.2⟩ (by show cells + 1 + _ ≤ R.cells + (μ.2.2.1 + 1); omega) (by show slots + N + _ ≤ R.slots + (μ.2.2.2 + N); omega)
  rw [show wd (gw G (gt G ++ [.inl (2, N)])) (μ.1, μ.2.1, μ.2.2.1 + 1, μ.2.2.2 + N) = wd (gw G (gt G ++ [.inl (2, N)])) μ from wd_eq rfl rfl, wd_app]
  refine (hP.kept fun j x hx => o1 x.1 (by rw [← hZ.1]; exact (hP j x hx).lt)).app (fun j x hx => ?_)
  have hj : j < 1 := (List.getElem?_eq_some_iff.mp hx).1
  rw [show j = 0 by omega] at hx
  cases hx
  show H1[_]? = some (vp_cell _ _)
  rw [e1]
  show _ = some (vp_cell (gc G 2) (N, .inl (μ.1 (gt G).length)))
  rw [hz]
  rfl
