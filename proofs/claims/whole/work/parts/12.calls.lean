/-! calls -/
section CALLS
variable {p : Program} {e : Env} {R : Room} {s : State} {m : MethodId} {args : Array Value} {below : List Frame} {meth : Method} {c : Code} {H : Heap} {locs : List Loc} {cells slots mc ms pc : Nat} {Q : State → Prop} {G : GX} {ls : Array Slot} {st0 rest : List Value} {a : Array Value} {μ1 : Mem}
theorem W_callR {v : Option Value} (hr : vx_Run p (gl G) e R s m args below meth c H locs cells slots mc ms (F0 m pc ls st0) rest (gQ G (.inl v) μ1 a) (gE G (.inl v) μ1) (gA G)) (hS : va_S (gA G) s.heap H locs)
    (kk : ∀ (H1 : Heap) (locs1 : List Loc), va_P (gd G) vwCl (wd G μ1) H1 → va_S (gA G) s.heap H1 locs1 → W p (gl G) e R s m args below meth c H1 locs1 (cells + mc) (slots + ms) Q (F0 m (pc + 3) ls ((v.map (trv G)).toList ++ rest))) : W p (gl G) e R s m args below meth c H locs cells slots Q (F0 m pc ls st0) := by
  intro T hT X
  rcases hr T hT X with ⟨v', st₀, t, T', L, h0, X', hL, e1, e2, ⟨⟨w, hw, hv⟩, hP1, hF⟩, st⟩ | ⟨q, st₀, t, T', L, E, ce, h0, X', hL, e1, e2, ⟨hw, -⟩, -⟩
  · cases hw
    cases hv
    obtain ⟨k1, k2, k3⟩ := vx_keep h0 e1 hS (fun _ _ h => h) (fun _ h => h) hL hF
    obtain ⟨t2, a1, b1⟩ := kk T'.heap (locs ++ L) (by rw [e1]; exact hP1) k3 T' rfl X'
    exact ⟨t2, st t2 a1, b1⟩
  · cases hw
theorem W_callX {E : String} (hr : vx_Run p (gl G) e R s m args below meth c H locs cells slots mc ms (F0 m pc ls st0) rest (gQ G (.inr E) μ1 a) (gE G (.inr E) μ1) (gA G)) (hS : va_S (gA G) s.heap H locs)
    (kx : ∀ (ce : Cell) (q9 : Addr) (H1 : Heap) (locs1 : List Loc), va_P (gd G) vwCl (wd G μ1) H1 → va_S (gA G) s.heap H1 locs1 → H1[q9]? = some ce → ce.vm = .none → s.vm.findClass E = some ce.cls → vx_W p (gl G) e R s m args below meth c H1 locs1 (cells + mc) (slots + ms) Q (F0 m pc ls rest) q9) : W p (gl G) e R s m args below meth c H locs cells slots Q (F0 m pc ls st0) := by
  intro T hT X
  rcases hr T hT X with ⟨v', st₀, t, T', L, h0, X', hL, e1, e2, ⟨⟨w, hw, hv⟩, -⟩, st⟩ | ⟨q, st₀, t, T', L, E', ce, h0, X', hL, e1, e2, ⟨hw, hP1, hF⟩, hce, hcv, hcl, st⟩
  · cases hw
  · cases hw
    obtain ⟨k1, k2, k3⟩ := vx_keep h0 e1 hS (fun _ _ h => h) (fun _ h => h) hL hF
    obtain ⟨t2, a1, b1⟩ := kx ce q T'.heap (locs ++ L) (by rw [e1]; exact hP1) k3 (by rw [e1]; exact hce) hcv hcl T' rfl X'
    exact ⟨t2, st.trans a1, b1⟩
theorem W0_here {M : MT} {μ : Mem} (F : Fx G M p R s m args meth c) (hP : va_P (gd G) vwCl (wd G μ) H) (hS : va_S (gA G) s.heap H locs) : ∀ U : State, U.heap = H → s.WarmedH U.vm → W0 G μ U := fun U hU hW => by
  subst hU
  exact ⟨hP, gK_warm hW F.2.2.2.2.2.2.2.2.2.2.1, gH_kept F.2.2.2.2.2.2.2.2.2.2.2 hW.alike hS.1 hS.2.1⟩
theorem gP_blind {as : List Value} {μ : Mem} : FrameBlind (gP G as μ) := fun a U g mk h => ⟨h.1, h.2.1, gK_warm (s := U) (State.WarmedH.refl U) h.2.2.1, gH_kept (s := U) h.2.2.2 (Vm.Alike.refl U.vm) (Nat.le_refl _) (fun _ _ _ => rfl)⟩
end CALLS
/-- what the tables must say of a method that is called -/
def mOK (M : MT) (n : Nat) : Prop := mK M ∈ bigW ∧ Cond.initialized (mY M).cls ∈ bigW ∧ ((mY M).cls ≠ "java/lang/invoke/MethodHandle" ∧ (mY M).cls ≠ "java/lang/invoke/VarHandle" ∧ (parseMethodDescriptor (mY M).desc).map (fun d => d.parameters.length) = some n) ∧ plainName (mY M).cls = true ∧ (mY M).cls = mO M
def mOKv (M : MT) (n : Nat) : Prop := mH M = none ∧ mOK M n ∧ Cond.instanceMethod (mY M) ∈ bigW ∧ Cond.selects (mY M).cls (mY M) (mY M) ∈ bigW
def mOKs (M : MT) (n : Nat) : Prop := mOK M n ∧ Cond.static (mY M) ∈ bigW
theorem mOK_len {M : MT} {n : Nat} (h : mOK M n) : ∀ sig, parseMethodDescriptor (mY M).desc = some sig → n = sig.parameters.length := fun sig hs => by
  have h2 := h.2.2.1.2.2
  rw [hs] at h2
  exact (Option.some.inj h2).symm
theorem mK_none {M : MT} (h : mH M = none) : mK M = .code (mY M) (mC M) (mL M) (mR M) := by simp only [mK, h]
theorem mK_some {M : MT} {hh : List (Nat × Nat × Nat × Nat)} (h : mH M = some hh) : mK M = .codeWith (mY M) (mC M) (mL M) (mR M) hh := by simp only [mK, h]
section CALLS2
variable {p : Program} {e : Env} {R : Room} {s : State} {m : MethodId} {args : Array Value} {below : List Frame} {meth : Method} {c : Code} {H : Heap} {locs : List Loc} {cells slots pc : Nat} {G : GX} {ls : Array Slot}
variable {M M' : MT} {n idx q : Nat} {as rest : List Value} {μ μ1 : Mem} {o1 : Ou}
theorem mCB (F : Fx G M p R s m args meth c) (hm : mOK M' n) (hn : mH M' = none) (hl : Cond.methodLink (mO M) idx (mY M') ∈ bigW) (hfr : mF M' + 1 ≤ mF M) (hlo : 8 + (mL M' + 11) + mW M' ≤ mW M) :
    CallB R s args (mO M) idx (mY M') (mC M') (mL M') (mR M') (mK M' :: bigW) { frames := mF M', cells := μ1.2.2.1 - μ.2.2.1, slots := μ1.2.2.2 - μ.2.2.2, locals := mW M' } (μ1.2.2.1 - μ.2.2.1) (μ1.2.2.2 - μ.2.2.2) n := by
  have hts := F.2.2.2.2.2.1
  refine ⟨rfl, rfl, by rw [F.2.2.2.2.2.2.2.2.1]; exact hfr, by rw [F.2.2.2.2.2.2.2.2.2.1]; exact hlo, pay_in hts (bigW_good hm.1 rfl), ?_, ?_, hts _ hm.2.1, ⟨hm.2.2.1.1, hm.2.2.1.2.1⟩, mOK_len hm, hts _ hl⟩
  · rw [mK_none hn]; exact List.mem_cons_self
  · have h := hts _ hm.1
    rw [mK_none hn] at h
    exact h
theorem st_split : (as.reverse ++ .ref q :: rest).map (trv G) = (as.map (trv G)).reverse ++ .ref (gb G + q) :: rest.map (trv G) := by simp [trv]
theorem st_splitS : (as.reverse ++ rest).map (trv G) = (as.map (trv G)).reverse ++ rest.map (trv G) := by simp
theorem st_back (v : Option Value) : (v.map (trv G)).toList ++ rest.map (trv G) = (v.toList ++ rest).map (trv G) := by cases v <;> simp
theorem cat_map : ((rest.map (trv G)).map fun v => v.category) = rest.map fun v => v.category := by
  rw [List.map_map]
  exact List.map_congr_left fun v _ => trv_cat G v
theorem runV (F : Fx G M p R s m args meth c) (hP : va_P (gd G) vwCl (wd G μ) H) (hS : va_S (gA G) s.heap H locs) (hsz : ls.size = mL M) (hm : mOKv M' n) (hl : Cond.methodLink (mO M) idx (mY M') ∈ bigW) (hfr : mF M' + 1 ≤ mF M) (hlo : 8 + (mL M' + 11) + mW M' ≤ mW M) (hn : as.length = n) (hc : (rest.map fun v => v.category).sum ≤ 8)
    {ci N : Nat} {X : u_T} {fs : List (Option (Option Nat))} (hq : (gt G)[q]? = some (.inr (ci, fs))) (hci : vwCl[ci]? = some ((mY M').cls, X, N)) (d : decode (mC M) pc = .ok (.invokevirtual idx, 3)) (h : VM G M' (.ref q :: as) μ o1 μ1) (hf : cells + (μ1.2.2.1 - μ.2.2.1) ≤ R.cells ∧ slots + (μ1.2.2.2 - μ.2.2.2) ≤ R.slots) :
    vx_Run p (gl G) e R s m args below meth c H locs cells slots (μ1.2.2.1 - μ.2.2.1) (μ1.2.2.2 - μ.2.2.2) (F0 m pc ls ((as.reverse ++ .ref q :: rest).map (trv G))) (rest.map (trv G)) (gQ G o1 μ1 ((Value.ref (gb G + q) :: as.map (trv G)).toArray)) (gE G o1 μ1) (gA G) := by
  have hts := F.2.2.2.2.2.1
  exact vx_runV (As := as.map (trv G)) ⟨F.1, F.2.1, F.2.2.2.1, F.2.2.2.2.1, hts⟩ h.2 ⟨mCB F hm.2.1 hm.1 hl hfr hlo, hts _ hm.2.2.1, hts _ hm.2.2.2⟩ ⟨gP_blind, va_recv F.2.2.2.2.2.2.2.2.2.2.1.1 hP hci (wd_O hq), fun U hU hW => ⟨rfl, W0_here F hP hS U hU hW⟩⟩ rfl (by rw [List.length_map]; exact hn) hsz st_split (lv_room (by rw [cat_map]; exact hc)) d hf
theorem runS (F : Fx G M p R s m args meth c) (hP : va_P (gd G) vwCl (wd G μ) H) (hS : va_S (gA G) s.heap H locs) (hsz : ls.size = mL M) (hm : mOKs M' n) (hH : mH M' = none) (hl : Cond.methodLink (mO M) idx (mY M') ∈ bigW) (hfr : mF M' + 1 ≤ mF M) (hlo : 8 + (mL M' + 11) + mW M' ≤ mW M) (hn : as.length = n) (hc : (rest.map fun v => v.category).sum ≤ 8)
    (d : decode (mC M) pc = .ok (.invokestatic idx, 3)) (h : VM G M' as μ o1 μ1) (hf : cells + (μ1.2.2.1 - μ.2.2.1) ≤ R.cells ∧ slots + (μ1.2.2.2 - μ.2.2.2) ≤ R.slots) :
    vx_Run p (gl G) e R s m args below meth c H locs cells slots (μ1.2.2.1 - μ.2.2.1) (μ1.2.2.2 - μ.2.2.2) (F0 m pc ls ((as.reverse ++ rest).map (trv G))) (rest.map (trv G)) (gQ G o1 μ1 ((as.map (trv G)).toArray)) (gE G o1 μ1) (gA G) := by
  have hts := F.2.2.2.2.2.1
  exact vx_runS (As := as.map (trv G)) ⟨F.1, F.2.1, F.2.2.2.1, F.2.2.2.2.1, hts⟩ h.2 ⟨mCB F hm.1 hH hl hfr hlo, hts _ hm.2⟩ ⟨gP_blind, fun U hU hW => ⟨rfl, W0_here F hP hS U hU hW⟩⟩ rfl (by rw [List.length_map]; exact hn) hsz st_splitS (lv_room (by rw [cat_map]; exact hc)) d hf
theorem runSX {hh : List (Nat × Nat × Nat × Nat)} (F : Fx G M p R s m args meth c) (hP : va_P (gd G) vwCl (wd G μ) H) (hS : va_S (gA G) s.heap H locs) (hsz : ls.size = mL M) (hm : mOKs M' n) (hH : mH M' = some hh) (hl : Cond.methodLink (mO M) idx (mY M') ∈ bigW) (hfr : mF M' + 1 ≤ mF M) (hlo : 8 + (mL M' + 11) + mW M' ≤ mW M) (hn : as.length = n) (hc : (rest.map fun v => v.category).sum ≤ 8)
    (d : decode (mC M) pc = .ok (.invokestatic idx, 3)) (h : VM G M' as μ o1 μ1) (hf : cells + (μ1.2.2.1 - μ.2.2.1) ≤ R.cells ∧ slots + (μ1.2.2.2 - μ.2.2.2) ≤ R.slots) :
    vx_Run p (gl G) e R s m args below meth c H locs cells slots (μ1.2.2.1 - μ.2.2.1) (μ1.2.2.2 - μ.2.2.2) (F0 m pc ls ((as.reverse ++ rest).map (trv G))) (rest.map (trv G)) (gQ G o1 μ1 ((as.map (trv G)).toArray)) (gE G o1 μ1) (gA G) := by
  have hts := F.2.2.2.2.2.1
  have hcd := hts _ hm.1.1
  rw [mK_some hH] at hcd
  exact vx_runSX (hh := hh) (As := as.map (trv G)) ⟨F.1, F.2.1, F.2.2.2.1, F.2.2.2.2.1, hts⟩ h.2 ⟨⟨rfl, rfl, by rw [F.2.2.2.2.2.2.2.2.1]; exact hfr, by rw [F.2.2.2.2.2.2.2.2.2.1]; exact hlo, pay_in hts (bigW_good hm.1.1 rfl), by rw [mK_some hH]; exact List.mem_cons_self⟩, hcd, hts _ hm.1.2.1, ⟨hm.1.2.2.1.1, hm.1.2.2.1.2.1⟩, mOK_len hm.1, hts _ hl, hts _ hm.2⟩ ⟨gP_blind, fun U hU hW => ⟨rfl, W0_here F hP hS U hU hW⟩⟩ rfl (by rw [List.length_map]; exact hn) hsz st_splitS (lv_room (by rw [cat_map]; exact hc)) d hf
/-- a callee that returns -/
theorem VM.met {v : Option Value} (h : VM G M' as μ (.inl v) μ1) : Met (gl G) (mY M') (mK M' :: bigW) { frames := mF M', cells := μ1.2.2.1 - μ.2.2.1, slots := μ1.2.2.2 - μ.2.2.2, locals := mW M' } (gP G as μ) (gQ G (.inl v) μ1) (μ1.2.2.1 - μ.2.2.1) (μ1.2.2.2 - μ.2.2.2) (gA G) := by
  intro p e ha hc hk s m args below hf happ hP hK
  obtain ⟨n, o, h1, h2, h3, hq⟩ := h.2 p e ha hc hk s m args below hf happ hP hK
  refine ⟨n, o, h1, h2, h3, ?_⟩
  rcases hq with hq | ⟨q, rfl, E, ce, L, hx, -⟩
  · exact hq
  · cases hx.1
end CALLS2
