/-- nothing stands behind the table's end -/
def zb (T : List Ent) (μ : Mem) : Prop := ∀ c, T.length ≤ c → μ.1 c = (fun _ => 0) ∧ μ.2.1 c = fun _ => 0
theorem zb_to {T T' : List Ent} {μ μ' : Mem} (h : zb T μ) (hl : T.length ≤ T'.length) (h1 : μ'.1 = μ.1) (h2 : μ'.2.1 = μ.2.1) : zb T' μ' := fun c hc => by
  rw [h1, h2]
  exact h c (Nat.le_trans hl hc)
/-- T' is T, but for the cell q and what is new -/
def Gr (T T' : List Ent) (q : Nat) : Prop := T.length ≤ T'.length ∧ ∀ j, j < T.length → j ≠ q → T'[j]? = T[j]?
theorem Gr.rf (T : List Ent) (q : Nat) : Gr T T q := ⟨Nat.le_refl _, fun _ _ _ => rfl⟩
theorem Gr.tr {T T' T'' : List Ent} {q : Nat} (h : Gr T T' q) (h' : Gr T' T'' q) : Gr T T'' q := ⟨Nat.le_trans h.1 h'.1, fun j a b => (h'.2 j (Nat.lt_of_lt_of_le a h.1) b).trans (h.2 j a b)⟩
theorem Gr.ap (T : List Ent) (e : Ent) (q : Nat) : Gr T (T ++ [e]) q := ⟨by rw [List.length_append]; exact Nat.le_add_right _ _, fun j a _ => List.getElem?_append_left a⟩
theorem Gr.put (T : List Ent) (q kf r : Nat) : Gr T (pt T q kf r) q := ⟨Nat.le_of_eq (pt_len T q kf r).symm, fun j _ b => by
  cases h : T[q]? with
  | none => simp only [pt, h]
  | some x =>
    cases x with
    | inl y => simp only [pt, h]
    | inr y => rw [pt_eq h, List.getElem?_set_ne (Ne.symm b)]⟩
/-- what a constructor does to cells that were there before its object -/
theorem Gr.new {T T' : List Ent} {e : Ent} {q : Nat} (h : Gr (T ++ [e]) T' T.length) : Gr T T' q := ⟨Nat.le_trans (Gr.ap T e q).1 h.1, fun j a _ => (h.2 j (by rw [List.length_append]; omega) (by omega)).trans (List.getElem?_append_left a)⟩
def aT (kd N : Nat) (q kf : Nat) (T : List Ent) : List Ent := pt (T ++ [.inl (kd, N)]) q kf T.length
theorem aT_len (kd N q kf : Nat) (T : List Ent) : (aT kd N q kf T).length = T.length + 1 := by rw [aT, pt_len, List.length_append]; rfl
theorem aT_gr (kd N q kf : Nat) (T : List Ent) : Gr T (aT kd N q kf T) q := (Gr.ap T _ q).tr (Gr.put _ q kf _)
theorem aT_get {kd N q kf ci : Nat} {T : List Ent} {fs : List (Option (Option Nat))} (h : T[q]? = some (.inr (ci, fs))) : (aT kd N q kf T)[q]? = some (.inr (ci, fs.set kf (some (some T.length)))) := pt_get (ap_get h)
def oT (e : Ent) (F : List Ent → Nat → List Ent) (q kf : Nat) (T : List Ent) : List Ent := pt (F (T ++ [e]) T.length) q kf T.length
def upG (μ : Mem) (a b : Nat) : Mem := (μ.1, μ.2.1, μ.2.2.1 + a, μ.2.2.2 + b)
theorem VC_fld_int {G : GX} {M : MT} {pc pcb : Nat} {lv : List (Option Value)} {μ μ1 : Mem} {ex : Prop} {o : Ou} {tb : List Ent} {n : Int32} {N ci NN q kf idx : Nat} {C : String} {X : u_T} {ty : Nat → FieldType} {fs : List (Option (Option Nat))} (d0 : decode (mC M) pc = .ok (.aload_n 0, 1)) (h0 : lv[((0 : Fin 4) : Nat)]? = some (some (.ref q))) (hp : VC G M pcb lv [.int n, .ref q] μ ex o tb μ1 → VC G M (pc + 1) lv [.ref q] μ ex o tb μ1) (d2 : decode (mC M) pcb = .ok (.newarray .int, 2)) (hw : Cond.arrayClass .int ∈ bigW) (hn : ¬ n < 0) (hN9 : n.toNatClampNeg = N) (hb : N * componentBytes .int ≤ 536870912) (hz : zb (gt G) μ)
    (hk : kOK ci C X NN ty) (hN8 : kf < NN) (hw9 : Cond.fieldLink (mO M) idx C (X kf).2.1 (X kf).2.2.1 ∈ bigW) (hC : (X kf).1 = C) (hO : mO M = C) (hI : (mY M).name = "<init>") (hfin : (X kf).2.2.2 = true) (hfit : ∀ a : Nat, fits (ty kf) (.ref a) = true ∧ narrow (ty kf) (.ref a) = .ref a) (d3 : decode (mC M) (pcb + 2) = .ok (.putfield idx, 3)) (hq : (gt G)[q]? = some (.inr (ci, fs))) (hf : fs[kf]? = some (some none))
    (k : VC (gw G (aT 0 N q kf (gt G))) M (pcb + 5) lv [] (upG μ 1 N) ex o tb μ1) : VC G M pc lv [] μ ex o tb μ1 := by
  refine VC_aload_n d0 h0 (hp (VC_new_int d2 hw hn hN9 hb (hz _ (Nat.le_refl _)).1 ?_))
  refine VC_putR (r := (gt G).length) hk hN8 hw9 hC hO hI hfin hfit d3 (ap_get hq) hf ?_
  exact k
theorem VC_fld_long {G : GX} {M : MT} {pc pcb : Nat} {lv : List (Option Value)} {μ μ1 : Mem} {ex : Prop} {o : Ou} {tb : List Ent} {n : Int32} {N ci NN q kf idx : Nat} {C : String} {X : u_T} {ty : Nat → FieldType} {fs : List (Option (Option Nat))} (d0 : decode (mC M) pc = .ok (.aload_n 0, 1)) (h0 : lv[((0 : Fin 4) : Nat)]? = some (some (.ref q))) (hp : VC G M pcb lv [.int n, .ref q] μ ex o tb μ1 → VC G M (pc + 1) lv [.ref q] μ ex o tb μ1) (d2 : decode (mC M) pcb = .ok (.newarray .long, 2)) (hw : Cond.arrayClass .long ∈ bigW) (hn : ¬ n < 0) (hN9 : n.toNatClampNeg = N) (hb : N * componentBytes .long ≤ 536870912) (hz : zb (gt G) μ)
    (hk : kOK ci C X NN ty) (hN8 : kf < NN) (hw9 : Cond.fieldLink (mO M) idx C (X kf).2.1 (X kf).2.2.1 ∈ bigW) (hC : (X kf).1 = C) (hO : mO M = C) (hI : (mY M).name = "<init>") (hfin : (X kf).2.2.2 = true) (hfit : ∀ a : Nat, fits (ty kf) (.ref a) = true ∧ narrow (ty kf) (.ref a) = .ref a) (d3 : decode (mC M) (pcb + 2) = .ok (.putfield idx, 3)) (hq : (gt G)[q]? = some (.inr (ci, fs))) (hf : fs[kf]? = some (some none))
    (k : VC (gw G (aT 1 N q kf (gt G))) M (pcb + 5) lv [] (upG μ 1 N) ex o tb μ1) : VC G M pc lv [] μ ex o tb μ1 := by
  refine VC_aload_n d0 h0 (hp (VC_new_long d2 hw hn hN9 hb (hz _ (Nat.le_refl _)).2 ?_))
  refine VC_putR (r := (gt G).length) hk hN8 hw9 hC hO hI hfin hfit d3 (ap_get hq) hf ?_
  exact k
theorem VC_fld_boolean {G : GX} {M : MT} {pc pcb : Nat} {lv : List (Option Value)} {μ μ1 : Mem} {ex : Prop} {o : Ou} {tb : List Ent} {n : Int32} {N ci NN q kf idx : Nat} {C : String} {X : u_T} {ty : Nat → FieldType} {fs : List (Option (Option Nat))} (d0 : decode (mC M) pc = .ok (.aload_n 0, 1)) (h0 : lv[((0 : Fin 4) : Nat)]? = some (some (.ref q))) (hp : VC G M pcb lv [.int n, .ref q] μ ex o tb μ1 → VC G M (pc + 1) lv [.ref q] μ ex o tb μ1) (d2 : decode (mC M) pcb = .ok (.newarray .boolean, 2)) (hw : Cond.arrayClass .boolean ∈ bigW) (hn : ¬ n < 0) (hN9 : n.toNatClampNeg = N) (hb : N * componentBytes .boolean ≤ 536870912) (hz : zb (gt G) μ)
    (hk : kOK ci C X NN ty) (hN8 : kf < NN) (hw9 : Cond.fieldLink (mO M) idx C (X kf).2.1 (X kf).2.2.1 ∈ bigW) (hC : (X kf).1 = C) (hO : mO M = C) (hI : (mY M).name = "<init>") (hfin : (X kf).2.2.2 = true) (hfit : ∀ a : Nat, fits (ty kf) (.ref a) = true ∧ narrow (ty kf) (.ref a) = .ref a) (d3 : decode (mC M) (pcb + 2) = .ok (.putfield idx, 3)) (hq : (gt G)[q]? = some (.inr (ci, fs))) (hf : fs[kf]? = some (some none))
    (k : VC (gw G (aT 2 N q kf (gt G))) M (pcb + 5) lv [] (upG μ 1 N) ex o tb μ1) : VC G M pc lv [] μ ex o tb μ1 := by
  refine VC_aload_n d0 h0 (hp (VC_new_boolean d2 hw hn hN9 hb (hz _ (Nat.le_refl _)).1 ?_))
  refine VC_putR (r := (gt G).length) hk hN8 hw9 hC hO hI hfin hfit d3 (ap_get hq) hf ?_
  exact k
theorem VC_fld_obj {G : GX} {M : MT} {pc pcb : Nat} {lv : List (Option Value)} {μ μ1 : Mem} {ex : Prop} {o : Ou} {tb : List Ent} {μ2 : Mem} {T : List Ent} {i1 N ci NN q kf idx cn : Nat} {C C' : String} {X X' : u_T} {ty ty' : Nat → FieldType} {fs fs' : List (Option (Option Nat))} (d0 : decode (mC M) pc = .ok (.aload_n 0, 1)) (h0 : lv[((0 : Fin 4) : Nat)]? = some (some (.ref q))) (d1 : decode (mC M) (pc + 1) = .ok (.new i1, 3)) (hk' : kOK cn C' X' N ty') (hcl : Cond.classLink (mO M) i1 C' ∈ bigW) (hin : Cond.instantiable C' N ∈ bigW) (hini : Cond.initialized C' ∈ bigW) (hf' : ∀ f ∈ fs', f = none ∨ f = some none) (hd : ∀ j, j < N → defaultValue (ty' j) = vp_V (fs'.map dv) j) (d2 : decode (mC M) (pc + 4) = .ok (.dup, 1)) (hz : zb (gt G) μ)
    (hc : VC (gw G T) M (pc + 8) lv [.ref (gt G).length, .ref q] μ2 ex o tb μ1 → VC (gw G (gt G ++ [.inr (cn, fs')])) M (pc + 5) lv [.ref (gt G).length, .ref (gt G).length, .ref q] (upG μ 1 N) ex o tb μ1)
    (hk : kOK ci C X NN ty) (hN8 : kf < NN) (hw9 : Cond.fieldLink (mO M) idx C (X kf).2.1 (X kf).2.2.1 ∈ bigW) (hC : (X kf).1 = C) (hO : mO M = C) (hI : (mY M).name = "<init>") (hfin : (X kf).2.2.2 = true) (hfit : ∀ a : Nat, fits (ty kf) (.ref a) = true ∧ narrow (ty kf) (.ref a) = .ref a) (d3 : decode (mC M) (pc + 8) = .ok (.putfield idx, 3)) (hq : T[q]? = some (.inr (ci, fs))) (hf : fs[kf]? = some (some none))
    (k : VC (gw G (pt T q kf (gt G).length)) M (pc + 11) lv [] μ2 ex o tb μ1) : VC G M pc lv [] μ ex o tb μ1 := by
  refine VC_aload_n d0 h0 (VC_new d1 hk' hcl hin hini hf' hd (hz _ (Nat.le_refl _)).1 (VC_dup d2 rfl (hc ?_)))
  exact VC_putR (G := gw G T) (r := (gt G).length) hk hN8 hw9 hC hO hI hfin hfit d3 hq hf k
/-- what Arrays.fill does -/
def flM (μ : Mem) (c n : Nat) (v : Int32) : Mem := (fun c' => if c' = c then (fun j => if j < n then v else μ.1 c j) else μ.1 c', μ.2)
theorem flM_0 (μ : Mem) (c : Nat) (v : Int32) : flM μ c 0 v = μ := by
  refine Prod.ext ?_ rfl
  funext c' j
  by_cases h : c' = c
  · subst h; simp [flM]
  · simp [flM, h]
theorem flM_s (μ : Mem) (c n : Nat) (v : Int32) : wI (flM μ c n v) c n v = flM μ c (n + 1) v := by
  refine Prod.ext ?_ rfl
  funext c' j
  by_cases h : c' = c
  · subst h
    simp only [wI, flM, if_true, upd]
    by_cases hj : j = n
    · subst hj; simp
    · by_cases h2 : j < n
      · simp [hj, h2, Nat.lt_succ_of_lt h2]
      · have h3 : ¬ j < n + 1 := by omega
        simp [hj, h2, h3]
  · simp [wI, flM, h]
theorem ib_nI {i n : Nat} (h : i < n) (hn : n < 2 ^ 31) : ib (nI i) n = true := decide_eq_true (vp_in_nI h hn)
theorem fill_at (fu r0 n0 : Nat) (v : Int32) (μ : Mem) (hn : n0 < 2 ^ 31) : ∀ (d i k : Nat), i + d = n0 → d < k → D_J7_fill_53178_5 fu r0 n0 k v (nI i) (nI n0) (flM μ r0 i v) = some (flM μ r0 n0 v) := by
  intro d
  induction d with
  | zero =>
    intro i k hi hk
    cases k with
    | zero => omega
    | succ k =>
      have : i = n0 := by omega
      subst this
      rw [D_J7_fill_53178_5, if_pos (Int32.le_refl _)]
  | succ d ih =>
    intro i k hi hk
    cases k with
    | zero => omega
    | succ k =>
      have hlt : i < n0 := by omega
      rw [D_J7_fill_53178_5, if_neg (nI_ge hlt hn)]
      rw [gu, if_pos (ib_nI hlt hn), vl, nI_clamp (by omega), flM_s, nI_1]
      exact ih (i + 1) k (by omega) (by omega)
theorem fill_ok (r0 n0 : Nat) (v : Int32) (μ : Mem) (hn : n0 < 2 ^ 31) : D_J7_fill_53178_0 (n0 + 1) r0 n0 v μ = some (flM μ r0 n0 v) := by
  have h := fill_at (n0 + 1) r0 n0 v μ hn n0 0 (n0 + 1) (by omega) (by omega)
  rw [flM_0] at h
  exact h
theorem VC_fl_int {G : GX} {T : List Ent} {M : MT} {pc pcb : Nat} {lv : List (Option Value)} {μ μ1 : Mem} {ex : Prop} {o : Ou} {tb : List Ent} {n : Int32} {N ci NN q kf idx : Nat} {C : String} {X : u_T} {ty : Nat → FieldType} {fs : List (Option (Option Nat))} (d0 : decode (mC M) pc = .ok (.aload_n 0, 1)) (h0 : lv[((0 : Fin 4) : Nat)]? = some (some (.ref q))) (hp : VC (gw G T) M pcb lv [.int n, .ref q] μ ex o tb μ1 → VC (gw G T) M (pc + 1) lv [.ref q] μ ex o tb μ1) (d2 : decode (mC M) pcb = .ok (.newarray .int, 2)) (hw : Cond.arrayClass .int ∈ bigW) (hn : ¬ n < 0) (hN9 : n.toNatClampNeg = N) (hb : N * componentBytes .int ≤ 536870912) (hz : zb T μ)
    (hk : kOK ci C X NN ty) (hN8 : kf < NN) (hw9 : Cond.fieldLink (mO M) idx C (X kf).2.1 (X kf).2.2.1 ∈ bigW) (hC : (X kf).1 = C) (hO : mO M = C) (hI : (mY M).name = "<init>") (hfin : (X kf).2.2.2 = true) (hfit : ∀ a : Nat, fits (ty kf) (.ref a) = true ∧ narrow (ty kf) (.ref a) = .ref a) (d3 : decode (mC M) (pcb + 2) = .ok (.putfield idx, 3)) (hq : T[q]? = some (.inr (ci, fs))) (hf : fs[kf]? = some (some none))
    (k : VC (gw G (aT 0 N q kf T)) M (pcb + 5) lv [] (upG μ 1 N) ex o tb μ1) : VC (gw G T) M pc lv [] μ ex o tb μ1 := VC_fld_int (G := gw G T) d0 h0 hp d2 hw hn hN9 hb hz hk hN8 hw9 hC hO hI hfin hfit d3 hq hf k
theorem VC_fl_long {G : GX} {T : List Ent} {M : MT} {pc pcb : Nat} {lv : List (Option Value)} {μ μ1 : Mem} {ex : Prop} {o : Ou} {tb : List Ent} {n : Int32} {N ci NN q kf idx : Nat} {C : String} {X : u_T} {ty : Nat → FieldType} {fs : List (Option (Option Nat))} (d0 : decode (mC M) pc = .ok (.aload_n 0, 1)) (h0 : lv[((0 : Fin 4) : Nat)]? = some (some (.ref q))) (hp : VC (gw G T) M pcb lv [.int n, .ref q] μ ex o tb μ1 → VC (gw G T) M (pc + 1) lv [.ref q] μ ex o tb μ1) (d2 : decode (mC M) pcb = .ok (.newarray .long, 2)) (hw : Cond.arrayClass .long ∈ bigW) (hn : ¬ n < 0) (hN9 : n.toNatClampNeg = N) (hb : N * componentBytes .long ≤ 536870912) (hz : zb T μ)
    (hk : kOK ci C X NN ty) (hN8 : kf < NN) (hw9 : Cond.fieldLink (mO M) idx C (X kf).2.1 (X kf).2.2.1 ∈ bigW) (hC : (X kf).1 = C) (hO : mO M = C) (hI : (mY M).name = "<init>") (hfin : (X kf).2.2.2 = true) (hfit : ∀ a : Nat, fits (ty kf) (.ref a) = true ∧ narrow (ty kf) (.ref a) = .ref a) (d3 : decode (mC M) (pcb + 2) = .ok (.putfield idx, 3)) (hq : T[q]? = some (.inr (ci, fs))) (hf : fs[kf]? = some (some none))
    (k : VC (gw G (aT 1 N q kf T)) M (pcb + 5) lv [] (upG μ 1 N) ex o tb μ1) : VC (gw G T) M pc lv [] μ ex o tb μ1 := VC_fld_long (G := gw G T) d0 h0 hp d2 hw hn hN9 hb hz hk hN8 hw9 hC hO hI hfin hfit d3 hq hf k
theorem VC_fl_boolean {G : GX} {T : List Ent} {M : MT} {pc pcb : Nat} {lv : List (Option Value)} {μ μ1 : Mem} {ex : Prop} {o : Ou} {tb : List Ent} {n : Int32} {N ci NN q kf idx : Nat} {C : String} {X : u_T} {ty : Nat → FieldType} {fs : List (Option (Option Nat))} (d0 : decode (mC M) pc = .ok (.aload_n 0, 1)) (h0 : lv[((0 : Fin 4) : Nat)]? = some (some (.ref q))) (hp : VC (gw G T) M pcb lv [.int n, .ref q] μ ex o tb μ1 → VC (gw G T) M (pc + 1) lv [.ref q] μ ex o tb μ1) (d2 : decode (mC M) pcb = .ok (.newarray .boolean, 2)) (hw : Cond.arrayClass .boolean ∈ bigW) (hn : ¬ n < 0) (hN9 : n.toNatClampNeg = N) (hb : N * componentBytes .boolean ≤ 536870912) (hz : zb T μ)
    (hk : kOK ci C X NN ty) (hN8 : kf < NN) (hw9 : Cond.fieldLink (mO M) idx C (X kf).2.1 (X kf).2.2.1 ∈ bigW) (hC : (X kf).1 = C) (hO : mO M = C) (hI : (mY M).name = "<init>") (hfin : (X kf).2.2.2 = true) (hfit : ∀ a : Nat, fits (ty kf) (.ref a) = true ∧ narrow (ty kf) (.ref a) = .ref a) (d3 : decode (mC M) (pcb + 2) = .ok (.putfield idx, 3)) (hq : T[q]? = some (.inr (ci, fs))) (hf : fs[kf]? = some (some none))
    (k : VC (gw G (aT 2 N q kf T)) M (pcb + 5) lv [] (upG μ 1 N) ex o tb μ1) : VC (gw G T) M pc lv [] μ ex o tb μ1 := VC_fld_boolean (G := gw G T) d0 h0 hp d2 hw hn hN9 hb hz hk hN8 hw9 hC hO hI hfin hfit d3 hq hf k
theorem VC_fl_obj {G : GX} {T0 : List Ent} {M : MT} {pc : Nat} {lv : List (Option Value)} {μ μ1 : Mem} {ex : Prop} {o : Ou} {tb : List Ent} {μ2 : Mem} {T : List Ent} {i1 N ci NN q kf idx cn : Nat} {C C' : String} {X X' : u_T} {ty ty' : Nat → FieldType} {fs fs' : List (Option (Option Nat))} (d0 : decode (mC M) pc = .ok (.aload_n 0, 1)) (h0 : lv[((0 : Fin 4) : Nat)]? = some (some (.ref q))) (d1 : decode (mC M) (pc + 1) = .ok (.new i1, 3)) (hk' : kOK cn C' X' N ty') (hcl : Cond.classLink (mO M) i1 C' ∈ bigW) (hin : Cond.instantiable C' N ∈ bigW) (hini : Cond.initialized C' ∈ bigW) (hf' : ∀ f ∈ fs', f = none ∨ f = some none) (hd : ∀ j, j < N → defaultValue (ty' j) = vp_V (fs'.map dv) j) (d2 : decode (mC M) (pc + 4) = .ok (.dup, 1)) (hz : zb T0 μ)
    (hc : VC (gw G T) M (pc + 8) lv [.ref T0.length, .ref q] μ2 ex o tb μ1 → VC (gw G (T0 ++ [.inr (cn, fs')])) M (pc + 5) lv [.ref T0.length, .ref T0.length, .ref q] (upG μ 1 N) ex o tb μ1)
    (hk : kOK ci C X NN ty) (hN8 : kf < NN) (hw9 : Cond.fieldLink (mO M) idx C (X kf).2.1 (X kf).2.2.1 ∈ bigW) (hC : (X kf).1 = C) (hO : mO M = C) (hI : (mY M).name = "<init>") (hfin : (X kf).2.2.2 = true) (hfit : ∀ a : Nat, fits (ty kf) (.ref a) = true ∧ narrow (ty kf) (.ref a) = .ref a) (d3 : decode (mC M) (pc + 8) = .ok (.putfield idx, 3)) (hq : T[q]? = some (.inr (ci, fs))) (hf : fs[kf]? = some (some none))
    (k : VC (gw G (pt T q kf T0.length)) M (pc + 11) lv [] μ2 ex o tb μ1) : VC (gw G T0) M pc lv [] μ ex o tb μ1 := VC_fld_obj (pcb := 0) (G := gw G T0) (T := T) d0 h0 d1 hk' hcl hin hini hf' hd d2 hz hc hk hN8 hw9 hC hO hI hfin hfit d3 hq hf k
theorem VC_cI {G : GX} {T0 T : List Ent} {M M' : MT} {pc q idx : Nat} {lv : List (Option Value)} {st : List Value} {μ μ1 μ2 : Mem} {ex : Prop} {o : Ou} {tb : List Ent} (d : decode (mC M) pc = .ok (.invokespecial idx, 3)) (hm : mOK M' 0) (hH : mH M' = none) (hR : mR M' = none) (hI : (mY M').name = "<init>") (hi9 : Cond.instanceMethod (mY M') ∈ bigW) (hl9 : Cond.methodLink (mO M) idx (mY M') ∈ bigW) (hfr : mF M' + 1 ≤ mF M) (hlo : 8 + (mL M' + 11) + mW M' ≤ mW M) (hc : (st.map fun v => v.category).sum ≤ 8) (hT : T.length = T0.length + (μ1.2.2.1 - μ.2.2.1)) (h : VMC (gw G T0) M' [.ref q] μ T μ1) (k : VC (gw G T) M (pc + 3) lv st μ1 ex o tb μ2) : VC (gw G T0) M pc lv (.ref q :: st) μ ex o tb μ2 := VC_callI (G := gw G T0) (n := 0) d hm hH hR hI hi9 hl9 hfr hlo hc hT h k
theorem VC_cIN {G : GX} {T0 T : List Ent} {M M' : MT} {pc q idx : Nat} {lv : List (Option Value)} {st : List Value} {μ μ1 μ2 : Mem} {ex : Prop} {o : Ou} {tb : List Ent} (d : decode (mC M) pc = .ok (.invokespecial idx, 3)) (hm : mOK M' 0) (hH : mH M' = none) (hR : mR M' = none) (hI : (mY M').name = "<init>") (hi9 : Cond.instanceMethod (mY M') ∈ bigW) (hl9 : Cond.methodLinkNest (mO M) idx (mY M') "TallTowers" ∈ xwc) (hfr : mF M' + 1 ≤ mF M) (hlo : 8 + (mL M' + 11) + mW M' ≤ mW M) (hc : (st.map fun v => v.category).sum ≤ 8) (hT : T.length = T0.length + (μ1.2.2.1 - μ.2.2.1)) (h : VMC (gw G T0) M' [.ref q] μ T μ1) (k : VC (gw G T) M (pc + 3) lv st μ1 ex o tb μ2) : VC (gw G T0) M pc lv (.ref q :: st) μ ex o tb μ2 := VC_callIN (G := gw G T0) (n := 0) d hm hH hR hI hi9 hl9 hfr hlo hc hT h k
theorem gt_gw (G : GX) (T : List Ent) : gt (gw G T) = T := rfl
theorem VC_vretT {G : GX} {T : List Ent} {M : MT} {pc : Nat} {lv : List (Option Value)} {μ : Mem} {ex : Prop} (hr : mR M = none) (d : decode (mC M) pc = .ok (.return_, 1)) : VC (gw G T) M pc lv [] μ ex (.inl none) T μ := VC_vret (G := gw G T) hr d
theorem VC_getRT {G : GX} {T : List Ent} {M : MT} {pc : Nat} {lv : List (Option Value)} {st : List Value} {μ μ1 : Mem} {ex : Prop} {o : Ou} {tb : List Ent} {ci N q kf idx r : Nat} {C : String} {X : u_T} {ty : Nat → FieldType} {fs : List (Option (Option Nat))} (hk : kOK ci C X N ty) (hN9 : kf < N) (hw : Cond.fieldLink (mO M) idx C (X kf).2.1 (X kf).2.2.1 ∈ bigW) (hC : (X kf).1 = C) (d : decode (mC M) pc = .ok (.getfield idx, 3)) (hq : T[q]? = some (.inr (ci, fs))) (hf : fs[kf]? = some (some (some r))) (k : VC (gw G T) M (pc + 3) lv (.ref r :: st) μ ex o tb μ1) : VC (gw G T) M pc lv (.ref q :: st) μ ex o tb μ1 := VC_getR (G := gw G T) hk hN9 hw hC d hq hf k
/-- Arrays.fill(a, v), while cells are made -/
theorem VC_fillT {G : GX} {T : List Ent} {M : MT} {pc : Nat} {lv : List (Option Value)} {μ μ2 : Mem} {ex : Prop} {o : Ou} {tb : List Ent} {idx a n : Nat} {v : Int32} (d : decode (mC M) pc = .ok (.invokestatic idx, 3)) (hl9 : Cond.methodLink (mO M) idx (mY mJ7_fill_53178) ∈ bigW) (hfr : mF mJ7_fill_53178 + 1 ≤ mF M) (hlo : 8 + (mL mJ7_fill_53178 + 11) + mW mJ7_fill_53178 ≤ mW M) (ha : T[a]? = some (.inl (0, n))) (hn : n < 2 ^ 31) (k : VC (gw G T) M (pc + 3) lv [] (flM μ a n v) ex o tb μ2) : VC (gw G T) M pc lv [.int v, .ref a] μ ex o tb μ2 :=
  VC_callS (G := gw G T) (μ1 := flM μ a n v) (as := [.ref a, .int v]) (rest := []) d os_mJ7_fill_53178 rfl hl9 hfr hlo rfl rfl (Nat.le_of_ble_eq_true rfl) (Nat.lt_of_le_of_lt (Nat.zero_le _) (List.getElem?_eq_some_iff.mp ha).1) rfl (VM_J7_fill_53178 (gw G T) (n + 1) a n ha v μ _ (fill_ok a n v μ hn)) k
