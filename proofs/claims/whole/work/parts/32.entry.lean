/-! THE CLAIM OUT OF ONE WALK OF THE LAW'S BODY -/
/-- what is owed of the program as numbers: from the loop's head the law comes to 'true', in its room -/
def LawTrue : Prop := ∀ G : GX, gt G = tbl → gn G ≤ 3072 → ∃ μ' : Mem, V G mL_law 23 [some .null, some (.ref 0), some (.ref 85), some (.ref 128), some (.int 0), none, none, none] [] m0 (.inl (some (.int 1))) μ' ∧ μ'.2.2.1 ≤ 1156 ∧ μ'.2.2.2 ≤ 36173
def R_law : String := "TallTowersLaw"
def lw_P (b : Addr) (xs : List Int32) (args : Array Value) (s : State) : Prop := args = #[.ref b] ∧ s.IntsAt b xs ∧ xs.length ≤ 3072 ∧ (Jvm.Cond.and given_1 narrow_1).before args s = true
def lw_Q (_ : Array Value) (s : State) (o : Outcome) (t : State) : Prop := o = .returned (some (.int 1)) ∧ Framed s o t [] 1156 36173
def lw_Z (below : List Frame) (a : Array Value) (s : State) : State → Prop := fun t => ∃ o, t.status = .running ∧ Ended t below o ∧ lw_Q a s o t
/-- what holds at the law's entry -/
def lw_At (p : Program) (s : State) (m : MethodId) (meth : Method) (c : Code) (b L : Nat) (xs : Nat → Int32) : Prop :=
  p.tables.exec = Jvm.exec ∧ c.code = code ∧ meth.sig.returnType = ret ∧ c.maxLocals = 8 ∧ s.vm.findClass R_law = some m.cls ∧ (∀ w ∈ lw_tbl, w.before #[Value.ref b] s = true) ∧ va_X b L xs s s.heap ∧ b < s.heap.size ∧ meth.locks = false ∧ (Jvm.Cond.and given_1 narrow_1).before #[Value.ref b] s = true ∧ meth.name = "law" ∧ c.exceptionTable.toList = []
theorem known8 {s : State} {args : Array Value} (hts : ∀ w ∈ bigW, w.before args s = true) : ∃ (dC : Nat → ClassId) (dI : Nat → Nat → Nat), ∀ (k : Nat) (q : vw_C), vwCl[k]? = some q → u_Kn s q.1 q.2.1 q.2.2 (dC k) (dI k) := by
  obtain ⟨c0, i0, h0⟩ := u_known hts k_X0.2.1 (hts _ ii_X0)
  obtain ⟨c1, i1, h1⟩ := u_known hts k_X1.2.1 (hts _ ii_X1)
  obtain ⟨c2, i2, h2⟩ := u_known hts k_X2.2.1 (hts _ ii_X2)
  obtain ⟨c3, i3, h3⟩ := u_known hts k_X3.2.1 (hts _ ii_X3)
  obtain ⟨c4, i4, h4⟩ := u_known hts k_X4.2.1 (hts _ ii_X4)
  obtain ⟨c5, i5, h5⟩ := u_known hts k_X5.2.1 (hts _ ii_X5)
  obtain ⟨c6, i6, h6⟩ := u_known hts k_X6.2.1 (hts _ ii_X6)
  obtain ⟨c7, i7, h7⟩ := u_known hts k_X7.2.1 (hts _ ii_X7)
  refine ⟨fun k => match k with | 0 => c0 | 1 => c1 | 2 => c2 | 3 => c3 | 4 => c4 | 5 => c5 | 6 => c6 | _ => c7, fun k => match k with | 0 => i0 | 1 => i1 | 2 => i2 | 3 => i3 | 4 => i4 | 5 => i5 | 6 => i6 | _ => i7, fun k q hq => ?_⟩
  match k, hq with
  | 0, hq => cases hq; exact h0
  | 1, hq => cases hq; exact h1
  | 2, hq => cases hq; exact h2
  | 3, hq => cases hq; exact h3
  | 4, hq => cases hq; exact h4
  | 5, hq => cases hq; exact h5
  | 6, hq => cases hq; exact h6
  | 7, hq => cases hq; exact h7
  | k + 8, hq => exact absurd hq (by rw [List.getElem?_eq_none (by show 8 ≤ k + 8; omega)]; exact fun z => by cases z)
theorem arr_known {s : State} {args : Array Value} {ty : FieldType} (h : (Cond.arrayClass ty).before args s = true) (ht : ∀ U cA, va_RA U cA ty ↔ U.vm.findClass ("[" ++ ty.toString) = some cA) : ∃ cA : ClassId, ArrOfT s cA ty ∧ va_RA s cA ty := by
  obtain ⟨cA, kA, comp, h1, h2, h3⟩ := Cond.arrayClass_spec h
  exact ⟨cA, fun N z => ⟨(fun k h => by cases h), kA, h2, comp, h3⟩, (ht _ _).mpr h1⟩
theorem gT_of {s : State} {args : Array Value} {c0 : ClassId} (hts : ∀ w ∈ lw_tbl, w.before args s = true) (hown : s.vm.findClass "TallTowers" = some c0) (hs : (Jvm.Cond.and given_1 narrow_1).before args s = true) : gT s := by
  have hf := flat_of_before _ hs
  refine ⟨fun w hw => va_Nw.of (List.all_eq_true.mp xw_tab w hw) (hts w (xw_in w hw)), ?_, ?_, ?_, ?_⟩
  · refine List.forall_mem_cons.mpr ⟨va_Nc.of (hf _ (by decide +kernel)), List.forall_mem_cons.mpr ⟨va_Nc.of (hf _ (by decide +kernel)), List.forall_mem_cons.mpr ⟨va_Nc.of (hf _ (by decide +kernel)), List.forall_mem_cons.mpr ⟨va_Nc.of (hf _ (by decide +kernel)), List.forall_mem_cons.mpr ⟨va_Nc.of (hf _ (by decide +kernel)), List.forall_mem_cons.mpr ⟨va_Nc.of (hf _ (by decide +kernel)), fun w h => absurd h List.not_mem_nil⟩⟩⟩⟩⟩⟩
  · obtain ⟨-, -, -, a, -, -, -, -, -, hev⟩ := Cond.stringRef_spec hown (hts _ sr_362)
    exact ⟨a, vk_R.of (hts _ sr_362) hev⟩
  · obtain ⟨-, -, -, a, -, -, -, -, -, hev⟩ := Cond.stringRef_spec hown (hts _ sr_369)
    exact ⟨a, vk_R.of (hts _ sr_369) hev⟩
  · obtain ⟨-, -, -, a, -, -, -, -, -, hev⟩ := Cond.stringRef_spec hown (hts _ sr_374)
    exact ⟨a, vk_R.of (hts _ sr_374) hev⟩
theorem framed_none {s : State} {o : Outcome} {t : State} {L : List Loc} {k n : Nat} (h : FrameEnd s o t L k n) (hL : ∀ q ∈ L, s.heap.size ≤ q.base) : Framed s o t [] k n := by
  obtain ⟨h1, h2, a1, a2, a3, a4, a5, a6⟩ := h
  refine ⟨h1, h2, a1, a2, a3, a4, a5, fun a c hc => ?_⟩
  obtain ⟨c', b1, b2, b3, b4⟩ := a6 a c hc
  have ha : a < s.heap.size := (Array.getElem?_eq_some_iff.mp hc).1
  exact ⟨c', b1, b2, b3, fun i _ => b4 i fun hm => Nat.lt_irrefl _ (Nat.lt_of_lt_of_le ha (hL _ hm))⟩
set_option maxHeartbeats 2000000 in
theorem whole_start (hM : LawTrue) {p : Program} {e : Env} {s : State} {m : MethodId} {below : List Frame} {meth : Method} {c : Code} (l : Launch) (hflags : l.flags = flags0) {b L : Nat} {xs : Nat → Int32} (hL : L ≤ 3072) (C0 : lw_At p s m meth c b L xs) : W p l e room_1 s m #[Value.ref b] below meth c s.heap [] 0 0 (lw_Z below #[Value.ref b] s) (entryFrame m ([Value.ref b] : List Value).toArray 8) := by
  obtain ⟨hx, hb, hr, hml, hown, hts, hX, hbl, hlocks, hgv, hnm, htab⟩ := C0
  have htw : ∀ w ∈ bigW, w.before #[Value.ref b] s = true := fun w hw => hts w (List.mem_filter.mp hw).1
  have hf := flat_of_before _ hgv
  obtain ⟨dC, dI, hKc⟩ := known8 htw
  obtain ⟨a0, g0, r0⟩ := arr_known (htw _ aw_int) (fun _ _ => Iff.rfl)
  obtain ⟨a1, g1, r1⟩ := arr_known (htw _ aw_long) (fun _ _ => Iff.rfl)
  obtain ⟨a2, g2, r2⟩ := arr_known (htw _ aw_boolean) (fun _ _ => Iff.rfl)
  have hT6 : s.vm.findClass "TallTowers" = some (dC 6) := (hKc 6 _ rfl).2.1
  have hA : ∀ a : Nat, a < s.heap.size → ¬ s.heap.size ≤ a := fun a h => Nat.not_le.mpr h
  obtain ⟨G, hG⟩ : ∃ G : GX, G = (l, s.heap.size, b, L, xs, (dC, dI), (fun k => match k with | 0 => a0 | 1 => a1 | _ => a2), tbl) := ⟨_, rfl⟩
  have hK : va_K (dC, dI) vwCl [(a0, .int), (a1, .long), (a2, .boolean)] s := ⟨hKc, fun k q hk => by
    match k, hk with
    | 0, hk => cases hk; exact ⟨g0, r0⟩
    | 1, hk => cases hk; exact ⟨g1, r1⟩
    | 2, hk => cases hk; exact ⟨g2, r2⟩
    | k + 3, hk => exact absurd hk (by rw [List.getElem?_eq_none (by show 3 ≤ k + 3; omega)]; exact fun z => by cases z)⟩
  have hst : l.stackTraces = false := by
    simp [Launch.stackTraces, hflags, flags0]
  have hgK : gK G s := by subst hG; exact ⟨hK, hst, gT_of hts hT6 hgv⟩
  have hgH : gH G s s.heap := by
    subst hG
    exact ⟨hX, hbl, Nat.le_refl _, vx_Zqof (hts _ st_us) (hts _ in_thr) (hf _ (by decide +kernel)) hA, vx_Zqof (hts _ st_ss) (hts _ in_thr) (hf _ (by decide +kernel)) hA⟩
  have hgC : gC s := fun w hw => va_Nw.of (List.all_eq_true.mp xwc_tab w hw) (hts w (xwc_in w hw))
  obtain ⟨μ', hV, hc1, hc2⟩ := hM G (by subst hG; rfl) (by subst hG; exact hL)
  have hgw : gw G tbl = G := by subst hG; rfl
  have hVC := law_VC G μ' (by rw [hgw]; exact hV)
  have F : Fx (gw G []) mL_law p room_1 s m #[Value.ref b] meth c := ⟨hx, hb, hr, hml, hown, htw, htab, hlocks, rfl, rfl, hgK, hgH⟩
  have hl := lv_entry ([.ref b]) (n := 8) (Nat.le_of_ble_eq_true rfl)
  rw [lg_entry_eq]
  generalize (lg_sl ([.ref b]) ++ List.replicate (8 - (lg_sl ([.ref b])).length) Slot.unset).toArray = ls at hl ⊢
  have hl2 : lv_has ls (mL mL_law) (lvs (gw G []) 0 [some .null, none, none, none, none, none, none, none]) := by
    subst hG; exact hl
  have hsz : s.heap.size = gb (gw G []) + (gt (gw G [])).length ∧ s.heap.size = s.heap.size + 0 := by
    subst hG; exact ⟨rfl, rfl⟩
  have hgl : gl (gw G []) = l := by subst hG; rfl
  have hgb : gb G = s.heap.size := by subst hG; rfl
  have k := hVC.2 p e room_1 s m #[Value.ref b] below meth c s.heap [] 0 0 ls F ⟨hnm, hgC⟩ hl2 (fun k q hk => by cases hk) hsz va_S.rf (by show 0 + μ'.2.2.1 ≤ 1156 + 0; omega) (by show 0 + μ'.2.2.2 ≤ 36173 + 0; omega)
  rw [hgl] at k
  intro T hT X
  obtain ⟨t, q1, o, q2, q3, hq⟩ := k T hT X
  refine ⟨t, q1, o, q2, q3, ?_⟩
  rcases hq with ⟨⟨⟨⟨v, hv, ho⟩, hP, hF⟩, -⟩, L9, hfe, hfree⟩ | ⟨q, rfl, E, ce, L9, hx9, -⟩
  · cases hv
    exact ⟨ho, framed_none hfe (fun q hq => by have := hfree q hq; rw [← hgb]; exact this)⟩
  · cases hx9.1
