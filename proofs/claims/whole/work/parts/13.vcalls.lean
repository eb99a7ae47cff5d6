/-! calls, as rows -/
theorem V_callV {G : GX} {M M' : MT} {pc n idx : Nat} {lv : List (Option Value)} {st as rest : List Value} {μ μ1 μ2 : Mem} {o : Ou} {q ci N : Nat} {X : u_T} {fs : List (Option (Option Nat))} {v : Option Value} (d : decode (mC M) pc = .ok (.invokevirtual idx, 3)) (hm : mOKv M' n) (hl9 : Cond.methodLink (mO M) idx (mY M') ∈ bigW) (hfr : mF M' + 1 ≤ mF M) (hlo : 8 + (mL M' + 11) + mW M' ≤ mW M) (hst : as.reverse ++ .ref q :: rest = st) (hn : as.length = n) (hc : (rest.map fun v => v.category).sum ≤ 8) (hq : (gt G)[q]? = some (.inr (ci, fs))) (hci : vwCl[ci]? = some ((mY M').cls, X, N)) (h : VM G M' (.ref q :: as) μ (.inl v) μ1) (k : V G M (pc + 3) lv (v.toList ++ rest) μ1 o μ2) : V G M pc lv st μ o μ2 := by
  subst hst
  have a1 := h.1.1
  have a2 := h.1.2
  have b1 := k.1.1
  have b2 := k.1.2
  refine ⟨⟨Nat.le_trans a1 b1, Nat.le_trans a2 b2⟩, fun p e R s m args below meth c H locs cells slots ls F hl hP hS h1 h2 => ?_⟩
  refine W_callR (runV F hP hS hl.1 hm hl9 hfr hlo hn hc hq hci d h ⟨by omega, by omega⟩) hS (fun H1 locs1 hP1 hS1 => ?_)
  rw [st_back]
  exact k.2 p e R s m args below meth c H1 locs1 _ _ ls F hl hP1 hS1 (by omega) (by omega)
theorem V_callS {G : GX} {M M' : MT} {pc n idx : Nat} {lv : List (Option Value)} {st as rest : List Value} {μ μ1 μ2 : Mem} {o : Ou} {v : Option Value} (d : decode (mC M) pc = .ok (.invokestatic idx, 3)) (hm : mOKs M' n) (hH : mH M' = none) (hl9 : Cond.methodLink (mO M) idx (mY M') ∈ bigW) (hfr : mF M' + 1 ≤ mF M) (hlo : 8 + (mL M' + 11) + mW M' ≤ mW M) (hst : as.reverse ++ rest = st) (hn : as.length = n) (hc : (rest.map fun v => v.category).sum ≤ 8) (h : VM G M' as μ (.inl v) μ1) (k : V G M (pc + 3) lv (v.toList ++ rest) μ1 o μ2) : V G M pc lv st μ o μ2 := by
  subst hst
  have a1 := h.1.1
  have a2 := h.1.2
  have b1 := k.1.1
  have b2 := k.1.2
  refine ⟨⟨Nat.le_trans a1 b1, Nat.le_trans a2 b2⟩, fun p e R s m args below meth c H locs cells slots ls F hl hP hS h1 h2 => ?_⟩
  refine W_callR (runS F hP hS hl.1 hm hH hl9 hfr hlo hn hc d h ⟨by omega, by omega⟩) hS (fun H1 locs1 hP1 hS1 => ?_)
  rw [st_back]
  exact k.2 p e R s m args below meth c H1 locs1 _ _ ls F hl hP1 hS1 (by omega) (by omega)
theorem V_callSX {G : GX} {M M' : MT} {pc n idx : Nat} {lv : List (Option Value)} {st as rest : List Value} {μ μ1 μ2 : Mem} {o : Ou} {hh : List (Nat × Nat × Nat × Nat)} {v : Option Value} (d : decode (mC M) pc = .ok (.invokestatic idx, 3)) (hm : mOKs M' n) (hH : mH M' = some hh) (hl9 : Cond.methodLink (mO M) idx (mY M') ∈ bigW) (hfr : mF M' + 1 ≤ mF M) (hlo : 8 + (mL M' + 11) + mW M' ≤ mW M) (hst : as.reverse ++ rest = st) (hn : as.length = n) (hc : (rest.map fun v => v.category).sum ≤ 8) (h : VM G M' as μ (.inl v) μ1) (k : V G M (pc + 3) lv (v.toList ++ rest) μ1 o μ2) : V G M pc lv st μ o μ2 := by
  subst hst
  have a1 := h.1.1
  have a2 := h.1.2
  have b1 := k.1.1
  have b2 := k.1.2
  refine ⟨⟨Nat.le_trans a1 b1, Nat.le_trans a2 b2⟩, fun p e R s m args below meth c H locs cells slots ls F hl hP hS h1 h2 => ?_⟩
  refine W_callR (runSX F hP hS hl.1 hm hH hl9 hfr hlo hn hc d h ⟨by omega, by omega⟩) hS (fun H1 locs1 hP1 hS1 => ?_)
  rw [st_back]
  exact k.2 p e R s m args below meth c H1 locs1 _ _ ls F hl hP1 hS1 (by omega) (by omega)
/-- a static method of a nest mate, private there -/
theorem V_callSN {G : GX} {M M' : MT} {pc n idx : Nat} {lv : List (Option Value)} {st as rest : List Value} {μ μ1 μ2 : Mem} {o : Ou} {host : String} {v : Option Value} (d : decode (mC M) pc = .ok (.invokestatic idx, 3)) (hm : mOKs M' n) (hH : mH M' = none) (hl9 : Cond.methodLinkNest (mO M) idx (mY M') host ∈ xw) (hfr : mF M' + 1 ≤ mF M) (hlo : 8 + (mL M' + 11) + mW M' ≤ mW M) (hst : as.reverse ++ rest = st) (hn : as.length = n) (hc : (rest.map fun v => v.category).sum ≤ 8) (h : VM G M' as μ (.inl v) μ1) (k : V G M (pc + 3) lv (v.toList ++ rest) μ1 o μ2) : V G M pc lv st μ o μ2 := by
  subst hst
  have a1 := h.1.1
  have a2 := h.1.2
  have b1 := k.1.1
  have b2 := k.1.2
  refine ⟨⟨Nat.le_trans a1 b1, Nat.le_trans a2 b2⟩, fun p e R s m args below meth c H locs cells slots ls F hl hP hS h1 h2 => ?_⟩
  have hts := F.2.2.2.2.2.1
  have hcd := hts _ hm.1.1
  rw [mK_none hH] at hcd
  have hr := va_runSN (R := R) (e := e) (below := below) (locs := locs) (cells := cells) (slots := slots) (meth := meth) (l := gl G) (host := host) (As := as.map (trv G)) (rest := rest.map (trv G)) (g := F0 m pc ls ((as.reverse ++ rest).map (trv G))) (bytes := mC M') (maxL := mL M') (ret := mR M') (n := n) ⟨F.1, F.2.1, F.2.2.2.1, F.2.2.2.2.1, hts⟩ h.met ⟨⟨⟨rfl, rfl, by rw [F.2.2.2.2.2.2.2.2.1]; exact hfr, by rw [F.2.2.2.2.2.2.2.2.2.1]; exact hlo, pay_in hts (bigW_good hm.1.1 rfl), by rw [mK_none hH]; exact List.mem_cons_self⟩, hcd, hts _ hm.1.2.1, ⟨hm.1.2.2.1.1, hm.1.2.2.1.2.1⟩, mOK_len hm.1, va_Nw.use rfl (F.2.2.2.2.2.2.2.2.2.2.1.2.2.1 _ hl9)⟩, hts _ hm.2, trivial⟩ ⟨gP_blind, fun U hU hW => ⟨rfl, W0_here F hP hS U hU hW⟩⟩ rfl (by rw [List.length_map]; exact hn) hl.1 st_splitS (lv_room (by rw [cat_map]; exact hc)) d ⟨by omega, by omega⟩
  refine W_callR (a := (as.map (trv G)).toArray) (v := v) (μ1 := μ1) (fun T hT X => Or.inl (hr T hT X)) hS (fun H1 locs1 hP1 hS1 => ?_)
  rw [st_back]
  exact k.2 p e R s m args below meth c H1 locs1 _ _ ls F hl hP1 hS1 (by omega) (by omega)
/-- thrown by the callee, not caught here -/
theorem V_callVX {G : GX} {M M' : MT} {pc n idx : Nat} {lv : List (Option Value)} {st as rest : List Value} {μ μ1 : Mem} {q ci N : Nat} {X : u_T} {fs : List (Option (Option Nat))} {E : String} (d : decode (mC M) pc = .ok (.invokevirtual idx, 3)) (hM : mH M = none) (hm : mOKv M' n) (hl9 : Cond.methodLink (mO M) idx (mY M') ∈ bigW) (hfr : mF M' + 1 ≤ mF M) (hlo : 8 + (mL M' + 11) + mW M' ≤ mW M) (hst : as.reverse ++ .ref q :: rest = st) (hn : as.length = n) (hc : (rest.map fun v => v.category).sum ≤ 8) (hq : (gt G)[q]? = some (.inr (ci, fs))) (hci : vwCl[ci]? = some ((mY M').cls, X, N)) (h : VM G M' (.ref q :: as) μ (.inr E) μ1) : V G M pc lv st μ (.inr E) μ1 := by
  subst hst
  have a1 := h.1.1
  have a2 := h.1.2
  refine ⟨h.1, fun p e R s m args below meth c H locs cells slots ls F hl hP hS h1 h2 => ?_⟩
  refine W_callX (runV F hP hS hl.1 hm hl9 hfr hlo hn hc hq hci d h ⟨by omega, by omega⟩) hS (fun ce q9 H1 locs1 hP1 hS1 hce hcv hcl => ?_)
  refine vx_out (E := E) (fun x hx => ?_) F.2.2.2.2.2.2.2.1 hce hcv hcl (fun t ht _ => ⟨rfl, by rw [ht]; exact hP1, hS1.F ht⟩) hS1.2.2 (by omega) (by omega)
  rw [F.2.2.2.2.2.2.1, hM] at hx
  cases hx
/-- thrown by the callee, caught by this row of the method's table -/
theorem V_callVH {G : GX} {M M' : MT} {pc n idx : Nat} {lv : List (Option Value)} {st as rest : List Value} {μ μ1 μ2 : Mem} {o : Ou} {q ci N sp ep hpc ct : Nat} {X : u_T} {fs : List (Option (Option Nat))} {E : String} (hp hs : List (Nat × Nat × Nat × Nat)) (d : decode (mC M) pc = .ok (.invokevirtual idx, 3)) (hM : mH M = some (hp ++ (sp, ep, hpc, ct) :: hs)) (hpass : ∀ z ∈ hp, z.2.2.2 ≠ 0 ∧ ∃ nm : String, Cond.classLink (mO M) z.2.2.2 nm ∈ bigW ∧ (E, nm) ∈ xn) (hcov : covers ⟨sp, ep, hpc, ct⟩ pc = true) (hct : ct ≠ 0) (hlk : Cond.classLink (mO M) ct E ∈ bigW) (hEE : Cond.castable E E ∈ xw) (hm : mOKv M' n) (hl9 : Cond.methodLink (mO M) idx (mY M') ∈ bigW) (hfr : mF M' + 1 ≤ mF M) (hlo : 8 + (mL M' + 11) + mW M' ≤ mW M) (hst : as.reverse ++ .ref q :: rest = st) (hn : as.length = n) (hc : (rest.map fun v => v.category).sum ≤ 8) (hq : (gt G)[q]? = some (.inr (ci, fs))) (hci : vwCl[ci]? = some ((mY M').cls, X, N)) (h : VM G M' (.ref q :: as) μ (.inr E) μ1) (k : ∀ a : Nat, V G M hpc lv [.retAddr a] μ1 o μ2) : V G M pc lv st μ o μ2 := by
  subst hst
  have a1 := h.1.1
  have a2 := h.1.2
  have b1 := (k 0).1.1
  have b2 := (k 0).1.2
  refine ⟨⟨Nat.le_trans a1 b1, Nat.le_trans a2 b2⟩, fun p e R s m args below meth c H locs cells slots ls F hl hP hS h1 h2 => ?_⟩
  have hts := F.2.2.2.2.2.1
  have hgT := F.2.2.2.2.2.2.2.2.2.2.1.2.2
  refine W_callX (runV F hP hS hl.1 hm hl9 hfr hlo hn hc hq hci d h ⟨by omega, by omega⟩) hS (fun ce q9 H1 locs1 hP1 hS1 hce hcv hcl => ?_)
  refine vx_catch (name := E) F.2.2.2.2.1 (tableOf hp) ⟨sp, ep, hpc, ct⟩ (tableOf hs) ?_ ?_ hcov hct (hts _ hlk) (va_Nw.use rfl (hgT.1 _ hEE)) hce hcv hcl ?_
  · rw [F.2.2.2.2.2.2.1, hM]
    simp [tableOf]
  · intro z hz
    obtain ⟨y, hy, rfl⟩ := List.mem_map.mp hz
    obtain ⟨g1, nm, g2, g3⟩ := hpass y hy
    exact Or.inr ⟨g1, nm, hts _ g2, hgT.2.1 _ g3⟩
  · exact (k q9).2 p e R s m args below meth c H1 locs1 _ _ ls F hl hP1 hS1 (by omega) (by omega)
/-- throw new E("text") -/
theorem V_throw {G : GX} {M : MT} {pc ik is ic : Nat} {lv : List (Option Value)} {μ : Mem} {E text : String} (hM : mH M = none) (hO : mO M = "TallTowers") (hE : Bundle.fit E = true) (hk : Cond.classLink (mO M) ik E ∈ bigW) (hi : Cond.initialized E ∈ bigW) (hstr : ∀ U : State, gT U → ∃ a : Nat, vk_R "TallTowers" is text a U) (hg1 : ∀ w ∈ (vx_atS "TallTowers" ic E ["java/lang/RuntimeException", "java/lang/Exception"]).filter goodWord, w ∈ bigW) (hg2 : ∀ w ∈ (vx_atS "TallTowers" ic E ["java/lang/RuntimeException", "java/lang/Exception"]).filter (fun w => !goodWord w), w ∈ xw) (hot : ∀ w ∈ Cond.classLink "TallTowers" ik E :: Cond.initialized E :: vx_atS "TallTowers" ic E ["java/lang/RuntimeException", "java/lang/Exception"], vx_ot w = true)
    (hfr : 5 < mF M) (hlo : 82 ≤ mW M) (d0 : decode (mC M) pc = .ok (.new ik, 3)) (d3 : decode (mC M) (pc + 3) = .ok (.dup, 1)) (d4 : decode (mC M) (pc + 4) = .ok (.ldc_w is, 3)) (d7 : decode (mC M) (pc + 7) = .ok (.invokespecial ic, 3)) (d10 : decode (mC M) (pc + 10) = .ok (.athrow, 1)) : V G M pc lv [] μ (.inr E) (μ.1, μ.2.1, μ.2.2.1 + 1, μ.2.2.2 + 6) := by
  refine ⟨⟨Nat.le_succ _, Nat.le_add_right _ _⟩, fun p e R s m args below meth c H locs cells slots ls F hl hP hS h1 h2 => ?_⟩
  have hts := F.2.2.2.2.2.1
  have hgK := F.2.2.2.2.2.2.2.2.2.2.1
  obtain ⟨sa, hsa⟩ := hstr s hgK.2.2
  have ho := F.2.2.2.2.1
  rw [hO] at ho hk
  dsimp only at h1 h2
  refine vx_throwSW (A := gA G) (names := ["java/lang/RuntimeException", "java/lang/Exception"]) F.1 F.2.1 hgK.2.1 ho hE (by decide +kernel) (hts _ hk) (hts _ hi) hsa (vx_hat (B := xw) (fun w hw => hts w (hg1 w hw)) hg2 (fun w hw => va_Nw.use (List.all_eq_true.mp xw_tab w hw) (hgK.2.2.1 w hw))) hot F.2.2.2.2.2.2.2.2.2.2.2.2.2.2.1 F.2.2.2.2.2.2.2.2.2.2.2.2.2.2.2 hS (hl.1.trans F.2.2.2.1.symm) d0 d3 d4 d7 d10 (fun x hx => ?_) (by rw [F.2.2.2.2.2.2.2.2.1]; exact hfr) (by rw [F.2.2.2.2.2.2.2.2.2.1]; exact hlo) (by omega) (by omega) F.2.2.2.2.2.2.2.1 (fun t _ hz hk9 => ⟨rfl, ?_, ?_⟩) hS.2.2 (by omega) (by omega)
  · rw [F.2.2.2.2.2.2.1, hM] at hx
    cases hx
  · rw [show wd G (μ.1, μ.2.1, μ.2.2.1 + 1, μ.2.2.2 + 6) = wd G μ from wd_eq rfl rfl]
    exact hP.kept fun j x hx => hk9 x.1 ((hP j x hx).lt)
  · exact ⟨Nat.le_trans hS.1 hz, fun q g1 g2 => (hk9 q (Nat.lt_of_lt_of_le g1 hS.1)).trans (hS.2.1 q g1 g2)⟩
/-! the entry -/
def entL : List Value → Nat → List (Option Value)
  | [], n => List.replicate n none
  | v :: r, n => if v.category = 2 then some v :: none :: entL r (n - 2) else some v :: entL r (n - 1)
theorem entL_in {G : GX} : ∀ (as : List Value) (n i : Nat) (q : Nat × Value), q ∈ lvs G i (entL as n) → q ∈ lv_args i (as.map (trv G))
  | [], n, i, q, h => by
    obtain ⟨k, v, hk, -⟩ := (lvs_mem _ i q).mp h
    rw [entL, List.getElem?_replicate] at hk
    split at hk <;> cases hk
  | v :: r, n, i, q, h => by
    by_cases hv : v.category = 2
    · simp only [entL, hv, if_true, lvs, List.mem_cons] at h
      simp only [List.map_cons, lv_args, List.mem_cons, trv_cat, hv, if_true]
      rcases h with h | h
      · exact Or.inl h
      · exact Or.inr (entL_in r (n - 2) (i + 2) q h)
    · simp only [entL, hv, if_false, lvs, List.mem_cons] at h
      simp only [List.map_cons, lv_args, List.mem_cons, trv_cat, hv, if_false]
      rcases h with h | h
      · exact Or.inl h
      · exact Or.inr (entL_in r (n - 1) (i + 1) q h)
theorem V_body {G : GX} {M : MT} {n : Nat} {as : List Value} {lv : List (Option Value)} {μ μ1 : Mem} {o : Ou} {p : Program} {e : Env} {s s₁ : State} {m : MethodId} {args : Array Value} {below : List Frame} {meth : Method} {c : Code} (hm : mOK M n) (he : entL as (mL M) = lv) (hlen : (lg_sl (as.map (trv G))).length ≤ mL M) (h : V G M 0 lv [] μ o μ1)
    (B : BodyLoose p (gl G) (mY M) (headSpec (mK M :: bigW) { frames := mF M, cells := μ1.2.2.1 - μ.2.2.1, slots := μ1.2.2.2 - μ.2.2.2, locals := mW M }) (mC M) (mL M) (mR M) e s m args below meth c s₁) (hml : c.maxLocals = mL M) (htab : c.exceptionTable.toList = tableOf ((mH M).getD [])) (hp : gP G as μ args s) :
    W p (gl G) e { frames := mF M, cells := μ1.2.2.1 - μ.2.2.1, slots := μ1.2.2.2 - μ.2.2.2, locals := mW M } s m args below meth c s.heap [] 0 0 (vx_MQ below (gQ G o μ1) (gE G o μ1) args s (μ1.2.2.1 - μ.2.2.1) (μ1.2.2.2 - μ.2.2.2) (gA G)) (entryFrame m args (mL M)) := by
  obtain ⟨rfl, hP, hK, hH⟩ := hp
  have a1 := h.1.1
  have a2 := h.1.2
  have hts := atoms_spec (ws := mK M :: bigW) B.pre
  have hl := lv_entry (as.map (trv G)) (n := mL M) hlen
  rw [lg_entry_eq]
  have F : Fx G M p { frames := mF M, cells := μ1.2.2.1 - μ.2.2.1, slots := μ1.2.2.2 - μ.2.2.2, locals := mW M } s m (as.map (trv G)).toArray meth c := ⟨B.exec, B.bytes, B.returns, hml, by rw [← hm.2.2.2.2]; exact findClass_of_methodNamed B.named, fun w hw => hts w (List.mem_cons_of_mem _ hw), htab, B.notSynchronized, rfl, rfl, hK, hH⟩
  refine h.2 p e _ s m _ below meth c s.heap [] 0 0 _ F ⟨hl.1, hl.2.1, fun q hq => hl.2.2 q ?_⟩ hP va_S.rf (by show 0 + _ ≤ (μ1.2.2.1 - μ.2.2.1) + _; omega) (by show 0 + _ ≤ (μ1.2.2.2 - μ.2.2.2) + _; omega)
  rw [← he] at hq
  exact entL_in as (mL M) 0 q hq
theorem V_entry {G : GX} {M : MT} {n : Nat} {as : List Value} {lv : List (Option Value)} {μ μ1 : Mem} {o : Ou} (hm : mOK M n) (hH : mH M = none) (he : entL as (mL M) = lv) (hlen : (lg_sl (as.map (trv G))).length ≤ mL M) (h : V G M 0 lv [] μ o μ1) : VM G M as μ o μ1 :=
  ⟨h.1, vx_ofW (cc := mC M) (maxL := mL M) (ret := mR M) hm.2.2.2.1 (by rw [mK_none hH]) (fun p e s m args below meth c s₁ B hml ht hp => V_body hm he hlen h B hml (by
    rw [hH]
    cases hx : c.exceptionTable.toList with
    | nil => rfl
    | cons a r => exact absurd (ht a (by rw [hx]; exact List.mem_cons_self)) (fun z => z)) hp)⟩
theorem V_entryH {G : GX} {M : MT} {n : Nat} {hh : List (Nat × Nat × Nat × Nat)} {as : List Value} {lv : List (Option Value)} {μ μ1 : Mem} {o : Ou} (hm : mOK M n) (hH : mH M = some hh) (he : entL as (mL M) = lv) (hlen : (lg_sl (as.map (trv G))).length ≤ mL M) (h : V G M 0 lv [] μ o μ1) : VM G M as μ o μ1 :=
  ⟨h.1, vx_ofWH (cc := mC M) (maxL := mL M) (ret := mR M) (hh := hh) hm.2.2.2.1 (by rw [mK_some hH]) (fun p e s m args below meth c s₁ B hml hp => V_body hm he hlen h B hml (by
    have hts := atoms_spec (ws := mK M :: bigW) B.pre
    have h1 := hts _ List.mem_cons_self
    rw [mK_some hH] at h1
    rw [hH]
    exact vx_table (x := mY M) B h1) hp)⟩
theorem V_mmaxI {G : GX} {M : MT} {pc idx : Nat} {lv : List (Option Value)} {st : List Value} {μ μ1 : Mem} {o : Ou} {x y : Int32} (d : decode (mC M) pc = .ok (.invokestatic idx, 3)) (hl9 : Cond.methodLink (mO M) idx Lib.Math.max.name ∈ bigW) (hs9 : Cond.static Lib.Math.max.name ∈ bigW) (hc9 : Cond.code Lib.Math.max.name Lib.Math.max.code 2 (some .int) ∈ bigW) (hi9 : Cond.initialized "java/lang/Math" ∈ bigW) (hfr : 1 ≤ mF M) (hlo : (st.map fun v => v.category).sum + 13 ≤ mW M) (k : V G M (pc + 3) lv (.int (if x < y then y else x) :: st) μ o μ1) : V G M pc lv (.int y :: .int x :: st) μ o μ1 := by
  have a1 := k.1.1
  have a2 := k.1.2
  exact ⟨k.1, fun p e R s m args below meth c H locs cells slots ls F hl hP hS h1 h2 => va_mmax F.1 F.2.1 (F.2.2.2.1.trans hl.1.symm) F.2.2.2.2.1 (F.2.2.2.2.2.1 _ hl9) (F.2.2.2.2.2.1 _ hs9) (F.2.2.2.2.2.1 _ hi9) (F.2.2.2.2.2.1 _ hc9) (by rw [F.2.2.2.2.2.2.2.2.1]; exact hfr) (by rw [cat_map, F.2.2.2.2.2.2.2.2.2.1]; exact hlo) (by omega) (by omega) d (k.2 p e R s m args below meth c H locs cells slots ls F hl hP hS h1 h2)⟩
theorem V_mminI {G : GX} {M : MT} {pc idx : Nat} {lv : List (Option Value)} {st : List Value} {μ μ1 : Mem} {o : Ou} {x y : Int32} (d : decode (mC M) pc = .ok (.invokestatic idx, 3)) (hl9 : Cond.methodLink (mO M) idx Lib.Math.min.name ∈ bigW) (hs9 : Cond.static Lib.Math.min.name ∈ bigW) (hc9 : Cond.code Lib.Math.min.name Lib.Math.min.code 2 (some .int) ∈ bigW) (hi9 : Cond.initialized "java/lang/Math" ∈ bigW) (hfr : 1 ≤ mF M) (hlo : (st.map fun v => v.category).sum + 13 ≤ mW M) (k : V G M (pc + 3) lv (.int (if y < x then y else x) :: st) μ o μ1) : V G M pc lv (.int y :: .int x :: st) μ o μ1 := by
  have a1 := k.1.1
  have a2 := k.1.2
  exact ⟨k.1, fun p e R s m args below meth c H locs cells slots ls F hl hP hS h1 h2 => va_mmin F.1 F.2.1 (F.2.2.2.1.trans hl.1.symm) F.2.2.2.2.1 (F.2.2.2.2.2.1 _ hl9) (F.2.2.2.2.2.1 _ hs9) (F.2.2.2.2.2.1 _ hi9) (F.2.2.2.2.2.1 _ hc9) (by rw [F.2.2.2.2.2.2.2.2.1]; exact hfr) (by rw [cat_map, F.2.2.2.2.2.2.2.2.2.1]; exact hlo) (by omega) (by omega) d (k.2 p e R s m args below meth c H locs cells slots ls F hl hP hS h1 h2)⟩
theorem V_mminL {G : GX} {M : MT} {pc idx : Nat} {lv : List (Option Value)} {st : List Value} {μ μ1 : Mem} {o : Ou} {x y : Int64} (d : decode (mC M) pc = .ok (.invokestatic idx, 3)) (hl9 : Cond.methodLink (mO M) idx Lib.MathLoose.min_long.x ∈ bigW) (hs9 : Cond.static Lib.MathLoose.min_long.x ∈ bigW) (hc9 : Cond.code Lib.MathLoose.min_long.x Lib.MathLoose.min_long.code 4 (some .long) ∈ bigW) (hi9 : Cond.initialized "java/lang/Math" ∈ bigW) (hfr : 1 ≤ mF M) (hlo : (st.map fun v => v.category).sum + 15 ≤ mW M) (k : V G M (pc + 3) lv (.long (if y < x then y else x) :: st) μ o μ1) : V G M pc lv (.long y :: .long x :: st) μ o μ1 := by
  have a1 := k.1.1
  have a2 := k.1.2
  exact ⟨k.1, fun p e R s m args below meth c H locs cells slots ls F hl hP hS h1 h2 => va_mmin_long F.1 F.2.1 (F.2.2.2.1.trans hl.1.symm) F.2.2.2.2.1 (F.2.2.2.2.2.1 _ hl9) (F.2.2.2.2.2.1 _ hs9) (F.2.2.2.2.2.1 _ hi9) (F.2.2.2.2.2.1 _ hc9) (by rw [F.2.2.2.2.2.2.2.2.1]; exact hfr) (by rw [cat_map, F.2.2.2.2.2.2.2.2.2.1]; exact hlo) (by omega) (by omega) d (k.2 p e R s m args below meth c H locs cells slots ls F hl hP hS h1 h2)⟩
