theorem W.sz {p : Program} {l : Launch} {e : Env} {R : Room} {s : State} {m : MethodId} {args : Array Value} {below : List Frame} {meth : Method} {c : Code} {H : Heap} {locs : List Loc} {cells slots : Nat} {Q : State → Prop} {g : JFrame} (h : H.size ≤ s.heap.size + cells → W p l e R s m args below meth c H locs cells slots Q g) : W p l e R s m args below meth c H locs cells slots Q g := fun T hT X => h (by rw [← hT]; exact X.heapSize) T hT X
theorem VC_size {G : GX} {T : List Ent} {μ : Mem} {H : Heap} {n : Nat} (hP : va_P (gd G) vwCl (wd (gw G T) μ) H) (hn : gb G + T.length = n) (hz : H.size ≤ n) (h0 : 0 < T.length) : H.size = gb G + T.length ∧ H.size = n := by
  have h1 : T[T.length - 1]? = some (T[T.length - 1]'(by omega)) := List.getElem?_eq_getElem _
  have h2 := (hP _ _ (wd_at (G := gw G T) (μ := μ) h1)).lt
  have h3 : gb G + (T.length - 1) < H.size := h2
  omega
/-- a reference goes into a final field -/
def pt (T : List Ent) (q kf r : Nat) : List Ent := match T[q]? with
  | some (.inr (ci, fs)) => T.set q (.inr (ci, fs.set kf (some (some r))))
  | _ => T
theorem pt_eq {T : List Ent} {q kf r ci : Nat} {fs : List (Option (Option Nat))} (h : T[q]? = some (.inr (ci, fs))) : pt T q kf r = T.set q (.inr (ci, fs.set kf (some (some r)))) := by simp only [pt, h]
theorem pt_len (T : List Ent) (q kf r : Nat) : (pt T q kf r).length = T.length := by
  unfold pt
  split
  · rw [List.length_set]
  · rfl
theorem pt_get {T : List Ent} {q kf r ci : Nat} {fs : List (Option (Option Nat))} (h : T[q]? = some (.inr (ci, fs))) : (pt T q kf r)[q]? = some (.inr (ci, fs.set kf (some (some r)))) := by
  rw [pt_eq h, List.getElem?_set_self ((List.getElem?_eq_some_iff.mp h).1)]
theorem ap_get {T : List Ent} {q : Nat} {x e : Ent} (h : T[q]? = some x) : (T ++ [e])[q]? = some x := by rw [List.getElem?_append_left ((List.getElem?_eq_some_iff.mp h).1)]; exact h
theorem flds_setR {G : GX} {μ : Mem} {c : Nat} {l : List (Option (Option Nat))} (r : Nat) : ∀ (k j : Nat), flds G μ c j (l.set k (some (some r))) = if (l[k]?) = some none then flds G μ c j (l.set k (some (some r))) else (flds G μ c j l).set k (.ref (gb G + r)) := by
  induction l with
  | nil => intro k j; simp [flds]
  | cons a l ih =>
    intro k j
    cases k with
    | zero =>
      cases a with
      | none => simp
      | some b => cases b <;> simp [flds]
    | succ k =>
      have h := ih k (j + 1)
      by_cases hk : l[k]? = some none
      · simp [hk]
      · rw [if_neg hk] at h
        simp only [List.getElem?_cons_succ, if_neg hk, List.set_cons_succ]
        cases a with
        | none => simp only [flds, List.set_cons_succ, h]
        | some b => cases b <;> simp only [flds, List.set_cons_succ, h]
theorem wd_pt {G : GX} {μ : Mem} {q kf r ci : Nat} {fs : List (Option (Option Nat))} (h : (gt G)[q]? = some (.inr (ci, fs))) (hf : fs[kf]? = some (some none)) : (wd G μ).set q (gb G + q, .inr (ci, (flds G μ q 0 fs).set kf (.ref (gb G + r)))) = wd (gw G (pt (gt G) q kf r)) μ := by
  refine List.ext_getElem? fun k => ?_
  have e1 : (wd (gw G (pt (gt G) q kf r)) μ)[k]? = ((pt (gt G) q kf r)[k]?).map (fun e => (gb G + k, ent G μ k e)) := by
    rw [wd_get]
    show ((pt (gt G) q kf r)[k]?).map _ = _
    congr 1
    funext e
    rw [ent_gw]
    rfl
  rw [e1, pt_eq h]
  by_cases hk : k = q
  · subst hk
    rw [List.getElem?_set_self ((List.getElem?_eq_some_iff.mp (wd_at (G := G) (μ := μ) h)).1), List.getElem?_set_self ((List.getElem?_eq_some_iff.mp h).1)]
    have h2 := flds_setR (G := G) (μ := μ) (c := k) (l := fs) r kf 0
    rw [if_neg (by rw [hf]; simp)] at h2
    simp only [Option.map_some, ent, h2]
  · rw [List.getElem?_set_ne (Ne.symm hk), List.getElem?_set_ne (Ne.symm hk), wd_get]
theorem VC_putR {G : GX} {M : MT} {pc : Nat} {lv : List (Option Value)} {st : List Value} {μ μ1 : Mem} {ex : Prop} {o : Ou} {tb : List Ent} {ci N q kf idx r : Nat} {C : String} {X : u_T} {ty : Nat → FieldType} {fs : List (Option (Option Nat))} (hk : kOK ci C X N ty) (hN9 : kf < N) (hw : Cond.fieldLink (mO M) idx C (X kf).2.1 (X kf).2.2.1 ∈ bigW) (hC : (X kf).1 = C) (hO : mO M = C) (hI : (mY M).name = "<init>") (hfin : (X kf).2.2.2 = true) (hfit : ∀ a : Nat, fits (ty kf) (.ref a) = true ∧ narrow (ty kf) (.ref a) = .ref a) (d : decode (mC M) pc = .ok (.putfield idx, 3)) (hq : (gt G)[q]? = some (.inr (ci, fs))) (hf : fs[kf]? = some (some none)) (k : VC (gw G (pt (gt G) q kf r)) M (pc + 3) lv st μ ex o tb μ1) : VC G M pc lv (.ref r :: .ref q :: st) μ ex o tb μ1 := ⟨k.1, fun p e R s m args below meth c H locs cells slots ls F hN hl hP hZ hS h1 h2 => va_putF (v := .ref (gb G + r)) (ty := ty kf) F.1 F.2.1 F.2.2.2.2.2.1 hk.2.1 ty hk.2.2.1 hk.2.2.2 F.2.2.2.2.1 F.2.2.2.2.2.2.2.2.2.2.1.1 hP (wd_D G μ) hS q (wd_O hq) hk.1 kf hN9 (F.2.2.2.2.2.1 _ hw) (fun x hx => by rw [hC] at hx; exact hx) hfin (hN.1.trans hI) (hC.trans hO.symm) (hk.2.2.1 kf hN9) (hfit _).2 (hfit _).1 (by rw [flds_len]; exact (List.getElem?_eq_some_iff.mp hf).1) d (fun H1 locs1 hP1 _ hS1 => by
  rw [wd_pt hq hf] at hP1
  refine W.sz fun hz => ?_
  have hz9 := VC_size hP1 (by rw [pt_len]; exact hZ.1.symm.trans hZ.2) hz (by rw [pt_len]; exact Nat.lt_of_le_of_lt (Nat.zero_le _) (List.getElem?_eq_some_iff.mp hq).1)
  exact VC_next k F hN hl hP1 hz9 hS1 h1 h2)⟩
theorem VC_getR {G : GX} {M : MT} {pc : Nat} {lv : List (Option Value)} {st : List Value} {μ μ1 : Mem} {ex : Prop} {o : Ou} {tb : List Ent} {ci N q kf idx r : Nat} {C : String} {X : u_T} {ty : Nat → FieldType} {fs : List (Option (Option Nat))} (hk : kOK ci C X N ty) (hN9 : kf < N) (hw : Cond.fieldLink (mO M) idx C (X kf).2.1 (X kf).2.2.1 ∈ bigW) (hC : (X kf).1 = C) (d : decode (mC M) pc = .ok (.getfield idx, 3)) (hq : (gt G)[q]? = some (.inr (ci, fs))) (hf : fs[kf]? = some (some (some r))) (k : VC G M (pc + 3) lv (.ref r :: st) μ ex o tb μ1) : VC G M pc lv (.ref q :: st) μ ex o tb μ1 := ⟨k.1, fun p e R s m args below meth c H locs cells slots ls F hN hl hP hZ hS h1 h2 => va_get (v := .ref (gb G + r)) F.1 F.2.1 F.2.2.2.2.2.1 hk.2.1 F.2.2.2.2.1 F.2.2.2.2.2.2.2.2.2.2.1.1 hP q (wd_O hq) hk.1 kf hN9 (F.2.2.2.2.2.1 _ hw) (fun x hx => by rw [hC] at hx; exact hx) (by rw [flds_get, hf]; simp) d (k.2 p e R s m args below meth c H locs cells slots ls F hN hl hP hZ hS h1 h2)⟩
theorem VC_objInit {G : GX} {M : MT} {pc : Nat} {lv : List (Option Value)} {st : List Value} {μ μ1 : Mem} {ex : Prop} {o : Ou} {tb : List Ent} {q idx : Nat} (d : decode (mC M) pc = .ok (.invokespecial idx, 3)) (hl9 : Cond.methodLink (mO M) idx Lib.objectInit ∈ bigW) (hi9 : Cond.instanceMethod Lib.objectInit ∈ bigW) (hc9 : Cond.code Lib.objectInit ⟨#[0xb1]⟩ 1 none ∈ bigW) (hfr : 1 ≤ mF M) (hlo : (st.map fun v => v.category).sum + 12 ≤ mW M) (k : VC G M (pc + 3) lv st μ ex o tb μ1) : VC G M pc lv (.ref q :: st) μ ex o tb μ1 := ⟨k.1, fun p e R s m args below meth c H locs cells slots ls F hN hl hP hZ hS h1 h2 => W.objInit F.1 F.2.1 F.2.2.2.2.1 (F.2.2.2.2.2.1 _ hl9) (F.2.2.2.2.2.1 _ hi9) (F.2.2.2.2.2.1 _ hc9) (g := F0 m pc ls ((Value.ref q :: st).map (trv G))) rfl (hl.1.trans F.2.2.2.1.symm) rfl d (by rw [F.2.2.2.2.2.2.2.2.1]; exact hfr) (by rw [cat_map, F.2.2.2.2.2.2.2.2.2.1]; show 2 * 0 + _ + 12 ≤ _; omega) (k.2 p e R s m args below meth c H locs cells slots ls F hN hl hP hZ hS h1 h2)⟩
theorem VC_vret {G : GX} {M : MT} {pc : Nat} {lv : List (Option Value)} {μ : Mem} {ex : Prop} (hr : mR M = none) (d : decode (mC M) pc = .ok (.return_, 1)) : VC G M pc lv [] μ ex (.inl none) (gt G) μ := ⟨⟨Nat.le_refl _, Nat.le_refl _⟩, fun p e R s m args below meth c H locs cells slots ls F hN hl hP hZ hS h1 h2 => vx_ret (W.widen (k := R.cells) (n := R.slots) (by omega) (by omega) (W.vret F.1 F.2.1 (F.2.2.1.trans hr) (fun t ht hw => ⟨⟨⟨none, rfl, rfl⟩, by rw [ht]; exact hP, hS.F ht⟩, fun _ => by rw [ht]; exact hZ.1⟩) hS.2.2 d F.2.2.2.2.2.2.2.1))⟩
theorem gPC_blind {G : GX} {as : List Value} {μ : Mem} : FrameBlind (gPC G as μ) := fun a U g mk h => ⟨h.1, ⟨h.2.1.1, gK_warm (s := U) (State.WarmedH.refl U) h.2.1.2.1, gH_kept (s := U) h.2.1.2.2 (Vm.Alike.refl U.vm) (Nat.le_refl _) (fun _ _ _ => rfl)⟩, h.2.2.1, gC_warm (s := U) (State.WarmedH.refl U) h.2.2.2⟩
theorem VMC_entry {G : GX} {M : MT} {n : Nat} {as : List Value} {lv : List (Option Value)} {μ μ1 : Mem} {tb : List Ent} (hm : mOK M n) (hH : mH M = none) (hmc : (mY M).cls = mO M) (he : entL as (mL M) = lv) (hlen : (lg_sl (as.map (trv G))).length ≤ mL M) (h : VC G M 0 lv [] μ True (.inl none) tb μ1) : VMC G M as μ tb μ1 := by
  refine ⟨h.1, ?_⟩
  have hv : vx_Met (gl G) (mY M) (mK M :: bigW) { frames := mF M, cells := μ1.2.2.1 - μ.2.2.1, slots := μ1.2.2.2 - μ.2.2.2, locals := mW M } (gPC G as μ) (gQC G tb True (.inl none) μ1) (gE (gw G tb) (.inl none) μ1) (μ1.2.2.1 - μ.2.2.1) (μ1.2.2.2 - μ.2.2.2) (gA G) := by
    refine vx_ofW (cc := mC M) (maxL := mL M) (ret := mR M) hm.2.2.2.1 (by rw [mK_none hH]) (fun p e s m args below meth c s₁ B hml ht hp => ?_)
    obtain ⟨rfl, ⟨hP, hK, hgH⟩, hsz, hgC⟩ := hp
    have a1 := h.1.1
    have a2 := h.1.2
    have hts := atoms_spec (ws := mK M :: bigW) B.pre
    have hl := lv_entry (as.map (trv G)) (n := mL M) hlen
    rw [lg_entry_eq]
    have htab : c.exceptionTable.toList = tableOf ((mH M).getD []) := by
      rw [hH]
      cases hx : c.exceptionTable.toList with
      | nil => rfl
      | cons a r => exact absurd (ht a (by rw [hx]; exact List.mem_cons_self)) (fun z => z)
    have F : Fx G M p { frames := mF M, cells := μ1.2.2.1 - μ.2.2.1, slots := μ1.2.2.2 - μ.2.2.2, locals := mW M } s m (as.map (trv G)).toArray meth c := ⟨B.exec, B.bytes, B.returns, hml, by rw [← hmc]; exact findClass_of_methodNamed B.named, fun w hw => hts w (List.mem_cons_of_mem _ hw), htab, B.notSynchronized, rfl, rfl, hK, hgH⟩
    refine h.2 p e _ s m _ below meth c s.heap [] 0 0 _ F ⟨(name_of_methodNamed B.named B.method).1, hgC⟩ ⟨hl.1, hl.2.1, fun q hq => hl.2.2 q ?_⟩ hP ⟨hsz, rfl⟩ va_S.rf (by show 0 + _ ≤ (μ1.2.2.1 - μ.2.2.1) + _; omega) (by show 0 + _ ≤ (μ1.2.2.2 - μ.2.2.2) + _; omega)
    rw [← he] at hq
    exact entL_in as (mL M) 0 q hq
  intro p e ha hc hk s m args below hf happ hP hK
  obtain ⟨n, o, g1, g2, g3, hq⟩ := hv p e ha hc hk s m args below hf happ hP hK
  refine ⟨n, o, g1, g2, g3, ?_⟩
  rcases hq with hq | ⟨q, rfl, E, ce, L, hx, -⟩
  · exact hq
  · cases hx.1
/-- behind a constructor's call -/
theorem VC_run {G : GX} {M : MT} {pc : Nat} {lv : List (Option Value)} {st : List Value} {μ μ1 μ2 : Mem} {ex : Prop} {o : Ou} {tb T : List Ent} (h0 : μ.2.2.1 ≤ μ1.2.2.1 ∧ μ.2.2.2 ≤ μ1.2.2.2) (hT : T.length = (gt G).length + (μ1.2.2.1 - μ.2.2.1)) (k : VC (gw G T) M (pc + 3) lv st μ1 ex o tb μ2)
    {p : Program} {e : Env} {R : Room} {s : State} {m : MethodId} {args : Array Value} {below : List Frame} {meth : Method} {c : Code} {H : Heap} {locs : List Loc} {cells slots : Nat} {ls : Array Slot} {st0 : List Value} {a : Array Value}
    (F : Fx G M p R s m args meth c) (hN : meth.name = (mY M).name ∧ gC s) (hl : lv_has ls (mL M) (lvs G 0 lv)) (hZ : H.size = gb G + (gt G).length ∧ H.size = s.heap.size + cells) (hS : va_S (gA G) s.heap H locs) (h1 : cells + μ2.2.2.1 ≤ R.cells + μ.2.2.1) (h2 : slots + μ2.2.2.2 ≤ R.slots + μ.2.2.2)
    (hr : va_Run p (gl G) e R s m args below meth c H locs cells slots (μ1.2.2.1 - μ.2.2.1) (μ1.2.2.2 - μ.2.2.2) (F0 m pc ls st0) (st.map (trv G)) (gQC G T True (.inl none) μ1 a) (gA G)) :
    W p (gl G) e R s m args below meth c H locs cells slots (vx_MQ below (gQC G tb ex o μ2) (gE (gw G tb) o μ2) args s R.cells R.slots (gA G)) (F0 m pc ls st0) := by
  have b1 := k.1.1
  have b2 := k.1.2
  obtain ⟨a1, a2⟩ := h0
  intro T9 hT9 X
  obtain ⟨v, st₀, t, T', L, e0, X', hL, e1, e2, ⟨⟨⟨w, hw, hv⟩, hP1, hF⟩, hsz⟩, st1⟩ := hr T9 hT9 X
  cases hw
  cases hv
  obtain ⟨k1, k2, k3⟩ := vx_keep e0 e1 hS (fun _ _ h => h) (fun _ h => h) hL hF
  have hsz' : T'.heap.size = gb G + T.length := by rw [e1]; exact hsz trivial
  obtain ⟨t2, c1, c2⟩ := VC_next k F hN hl (by rw [e1]; exact hP1) ⟨hsz', by rw [hsz', hT]; omega⟩ k3 (by omega) (by omega) T' rfl X'
  exact ⟨t2, st1 t2 c1, c2⟩
theorem VC_callI {G : GX} {M : MT} {pc : Nat} {lv : List (Option Value)} {st : List Value} {μ μ1 : Mem} {ex : Prop} {o : Ou} {tb : List Ent} {M' : MT} {q n idx : Nat} {T : List Ent} {μ2 : Mem} (d : decode (mC M) pc = .ok (.invokespecial idx, 3)) (hm : mOK M' 0) (hH : mH M' = none) (hR : mR M' = none) (hI : (mY M').name = "<init>") (hi9 : Cond.instanceMethod (mY M') ∈ bigW) (hl9 : Cond.methodLink (mO M) idx (mY M') ∈ bigW) (hfr : mF M' + 1 ≤ mF M) (hlo : 8 + (mL M' + 11) + mW M' ≤ mW M) (hc : (st.map fun v => v.category).sum ≤ 8) (hT : T.length = (gt G).length + (μ1.2.2.1 - μ.2.2.1)) (h : VMC G M' [.ref q] μ T μ1) (k : VC (gw G T) M (pc + 3) lv st μ1 ex o tb μ2) : VC G M pc lv (.ref q :: st) μ ex o tb μ2 := by
  have a1 := h.1.1
  have a2 := h.1.2
  have b1 := k.1.1
  have b2 := k.1.2
  refine ⟨⟨Nat.le_trans a1 b1, Nat.le_trans a2 b2⟩, fun p e R s m args below meth c H locs cells slots ls F hN hl hP hZ hS h1 h2 => ?_⟩
  have hts := F.2.2.2.2.2.1
  have hcb : CallB R s args (mO M) idx (mY M') (mC M') (mL M') none (mK M' :: bigW) { frames := mF M', cells := μ1.2.2.1 - μ.2.2.1, slots := μ1.2.2.2 - μ.2.2.2, locals := mW M' } (μ1.2.2.1 - μ.2.2.1) (μ1.2.2.2 - μ.2.2.2) 0 := hR ▸ mCB F hm hH hl9 hfr hlo
  refine VC_run h.1 hT k F hN hl hZ hS h1 h2 (va_runI (As := []) (rest := st.map (trv G)) (b := gb G + q) ⟨F.1, F.2.1, F.2.2.2.1, F.2.2.2.2.1, hts⟩ h.2 ⟨hcb, hI, hts _ hi9⟩ ⟨gPC_blind, fun U hU hW => ⟨rfl, W0_here F hP hS U hU hW, by rw [hU]; exact hZ.1, gC_warm hW hN.2⟩⟩ rfl rfl hl.1 rfl (lv_room (by rw [cat_map]; exact hc)) d ⟨by omega, by omega⟩)
theorem VC_callIN {G : GX} {M : MT} {pc : Nat} {lv : List (Option Value)} {st : List Value} {μ μ1 : Mem} {ex : Prop} {o : Ou} {tb : List Ent} {M' : MT} {q n idx : Nat} {T : List Ent} {μ2 : Mem} (d : decode (mC M) pc = .ok (.invokespecial idx, 3)) (hm : mOK M' 0) (hH : mH M' = none) (hR : mR M' = none) (hI : (mY M').name = "<init>") (hi9 : Cond.instanceMethod (mY M') ∈ bigW) (hl9 : Cond.methodLinkNest (mO M) idx (mY M') "TallTowers" ∈ xwc) (hfr : mF M' + 1 ≤ mF M) (hlo : 8 + (mL M' + 11) + mW M' ≤ mW M) (hc : (st.map fun v => v.category).sum ≤ 8) (hT : T.length = (gt G).length + (μ1.2.2.1 - μ.2.2.1)) (h : VMC G M' [.ref q] μ T μ1) (k : VC (gw G T) M (pc + 3) lv st μ1 ex o tb μ2) : VC G M pc lv (.ref q :: st) μ ex o tb μ2 := by
  have a1 := h.1.1
  have a2 := h.1.2
  have b1 := k.1.1
  have b2 := k.1.2
  refine ⟨⟨Nat.le_trans a1 b1, Nat.le_trans a2 b2⟩, fun p e R s m args below meth c H locs cells slots ls F hN hl hP hZ hS h1 h2 => ?_⟩
  have hts := F.2.2.2.2.2.1
  have hcd := hts _ hm.1
  rw [mK_none hH, hR] at hcd
  refine VC_run h.1 hT k F hN hl hZ hS h1 h2 (va_runIN (host := "TallTowers") (As := []) (rest := st.map (trv G)) (b := gb G + q) (bytes := mC M') (maxL := mL M') (n := 0) ⟨F.1, F.2.1, F.2.2.2.1, F.2.2.2.2.1, hts⟩ h.2 ⟨⟨⟨rfl, rfl, by rw [F.2.2.2.2.2.2.2.2.1]; exact hfr, by rw [F.2.2.2.2.2.2.2.2.2.1]; exact hlo, pay_in hts (bigW_good hm.1 rfl), by rw [mK_none hH, hR]; exact List.mem_cons_self⟩, hcd, hts _ hm.2.1, ⟨hm.2.2.1.1, hm.2.2.1.2.1⟩, mOK_len hm, va_Nw.use rfl (hN.2 _ hl9)⟩, hI, hts _ hi9⟩ ⟨gPC_blind, fun U hU hW => ⟨rfl, W0_here F hP hS U hU hW, by rw [hU]; exact hZ.1, gC_warm hW hN.2⟩⟩ rfl rfl hl.1 rfl (lv_room (by rw [cat_map]; exact hc)) d ⟨by omega, by omega⟩)
theorem VC_callS {G : GX} {M : MT} {pc : Nat} {lv : List (Option Value)} {st : List Value} {μ μ1 : Mem} {ex : Prop} {o : Ou} {tb : List Ent} {M' : MT} {as rest : List Value} {n idx : Nat} {v : Option Value} {μ2 : Mem} (d : decode (mC M) pc = .ok (.invokestatic idx, 3)) (hm : mOKs M' n) (hH : mH M' = none) (hl9 : Cond.methodLink (mO M) idx (mY M') ∈ bigW) (hfr : mF M' + 1 ≤ mF M) (hlo : 8 + (mL M' + 11) + mW M' ≤ mW M) (hst : as.reverse ++ rest = st) (hn : as.length = n) (hc : (rest.map fun v => v.category).sum ≤ 8) (h0 : 0 < (gt G).length) (hg0 : μ1.2.2 = μ.2.2) (h : VM G M' as μ (.inl v) μ1) (k : VC G M (pc + 3) lv (v.toList ++ rest) μ1 ex o tb μ2) : VC G M pc lv st μ ex o tb μ2 := by
  subst hst
  have a1 := h.1.1
  have a2 := h.1.2
  have b1 := k.1.1
  have b2 := k.1.2
  refine ⟨⟨Nat.le_trans a1 b1, Nat.le_trans a2 b2⟩, fun p e R s m args below meth c H locs cells slots ls F hN hl hP hZ hS h1 h2 => ?_⟩
  have g1 : μ1.2.2.1 - μ.2.2.1 = 0 := by rw [hg0]; exact Nat.sub_self _
  have g2 : μ1.2.2.2 - μ.2.2.2 = 0 := by rw [hg0]; exact Nat.sub_self _
  refine W_callR (runS F hP hS hl.1 hm hH hl9 hfr hlo hn hc d h ⟨by omega, by omega⟩) hS (fun H1 locs1 hP1 hS1 => ?_)
  rw [st_back]
  refine W.sz fun hz => ?_
  have hz9 := VC_size (G := G) (T := gt G) hP1 (n := s.heap.size + (cells + (μ1.2.2.1 - μ.2.2.1))) (by rw [g1]; exact hZ.1.symm.trans hZ.2) hz h0
  exact k.2 p e R s m args below meth c H1 locs1 _ _ ls F hN hl hP1 hz9 hS1 (by omega) (by omega)
