def D_L_law_3740 (G : GX) (fu : Nat)  (k23 : Int32 → Mem → Option (Bool × Mem)) (v4 : Int32) (μ : Mem) : Option (Bool × Mem) :=
  k23 (v4 + 6) μ
set_option maxRecDepth 20000 in
theorem T_L_law_3740 (G : GX) (fu : Nat)  (hG : gt G = tbl) (k23 : Int32 → Mem → Option (Bool × Mem)) (hk23 : ∀ (v4 : Int32) (μ : Mem) (r : (Bool × Mem)), k23 v4 μ = some r → V G mL_law 23 [some (.null), some (.ref 0), some (.ref 85), some (.ref 128), some (.int v4), none, none, none] [] μ (.inl (some (.int (b2i r.1)))) (r.2)) : ∀ (v4 : Int32) (μ : Mem) (r : (Bool × Mem)) , D_L_law_3740 G fu k23 v4 μ = some r → V G mL_law 3740 [some (.null), some (.ref 0), some (.ref 85), some (.ref 128), some (.int v4), none, none, none] [] μ (.inl (some (.int (b2i r.1)))) (r.2) := by
  intro v4 μ r h
  unfold D_L_law_3740 at h
  refine V_iinc (v := v4 + 6) (lv2 := [some (.null), some (.ref 0), some (.ref 85), some (.ref 128), some (.int (v4 + 6)), none, none, none]) dL_law_3740 rfl rfl (by decide) rfl ?_
  refine V_goto (tgt := 23) dL_law_3743 (by decide) ?_
  exact V_wk [true, true, true, true, true, false, false, false] rfl (hk23 _ _ _ h)
def D_L_law_345 (G : GX) (fu : Nat)  (k23 : Int32 → Mem → Option (Bool × Mem)) (v4 : Int32) (μ : Mem) : Option (Bool × Mem) :=
  D_L_law_3740 G fu k23 v4 μ
set_option maxRecDepth 20000 in
theorem T_L_law_345 (G : GX) (fu : Nat)  (hG : gt G = tbl) (k23 : Int32 → Mem → Option (Bool × Mem)) (hk23 : ∀ (v4 : Int32) (μ : Mem) (r : (Bool × Mem)), k23 v4 μ = some r → V G mL_law 23 [some (.null), some (.ref 0), some (.ref 85), some (.ref 128), some (.int v4), none, none, none] [] μ (.inl (some (.int (b2i r.1)))) (r.2)) : ∀ (v4 : Int32) (μ : Mem) (r : (Bool × Mem)) , D_L_law_345 G fu k23 v4 μ = some r → V G mL_law 345 [some (.null), some (.ref 0), some (.ref 85), some (.ref 128), some (.int v4), none, none, none] [] μ (.inl (some (.int (b2i r.1)))) (r.2) := by
  intro v4 μ r h
  unfold D_L_law_345 at h
  refine V_goto (tgt := 3740) dL_law_345 (by decide) ?_
  exact V_wk [true, true, true, true, true, false, false, false] rfl (T_L_law_3740 G fu hG k23 hk23 _ _ _ h)
def D_L_law_256 (G : GX) (fu : Nat)  (k23 : Int32 → Mem → Option (Bool × Mem)) (v4 : Int32) (μ : Mem) : Option (Bool × Mem) :=
  gu (ib (v4 + 1) (gn G)) <|
  gu (ib (v4 + 2) (gn G)) <|
  gu (ib (v4 + 3) (gn G)) <|
  gu (ib (v4 + 4) (gn G)) <|
  (D_L_place_0 fu (gx G (Int32.toNatClampNeg (v4 + 1))) (gx G (Int32.toNatClampNeg (v4 + 2))) (gx G (Int32.toNatClampNeg (v4 + 3))) (gx G (Int32.toNatClampNeg (v4 + 4))) μ).bind fun x6 =>
  gu (ib (v4 + 1) (gn G)) <|
  gu (ib (v4 + 2) (gn G)) <|
  gu (ib (v4 + 3) (gn G)) <|
  gu (ib (v4 + 4) (gn G)) <|
  (D_X7_place_0 fu (gx G (Int32.toNatClampNeg (v4 + 1))) (gx G (Int32.toNatClampNeg (v4 + 2))) (gx G (Int32.toNatClampNeg (v4 + 3))) (gx G (Int32.toNatClampNeg (v4 + 4))) x6.2).bind fun x12 =>
  (D_X7_thrown_0 x12.2).bind fun x14 =>
  if x14 = x6.1 then
    if x6.1 = 0 then
      gu (ib 0 1) <|
      if (x12.2.2.1 128 (Int32.toNatClampNeg 0)) = ((x12.1 : Int32).toInt64) then
        D_L_law_345 G fu k23 v4 x12.2
      else
        some (false, x12.2)
    else
      D_L_law_345 G fu k23 v4 x12.2
  else
    some (false, x12.2)
set_option maxRecDepth 20000 in
theorem T_L_law_256 (G : GX) (fu : Nat)  (hG : gt G = tbl) (k23 : Int32 → Mem → Option (Bool × Mem)) (hk23 : ∀ (v4 : Int32) (μ : Mem) (r : (Bool × Mem)), k23 v4 μ = some r → V G mL_law 23 [some (.null), some (.ref 0), some (.ref 85), some (.ref 128), some (.int v4), none, none, none] [] μ (.inl (some (.int (b2i r.1)))) (r.2)) : ∀ (v4 : Int32) (μ : Mem) (r : (Bool × Mem)) , D_L_law_256 G fu k23 v4 μ = some r → V G mL_law 256 [some (.null), some (.ref 0), some (.ref 85), some (.ref 128), some (.int v4), none, none, none] [] μ (.inl (some (.int (b2i r.1)))) (r.2) := by
  intro v4 μ r h
  unfold D_L_law_256 at h
  refine V_aload_n dL_law_256 rfl ?_
  refine V_aloadS_n dL_law_257 rfl ?_
  refine V_iload dL_law_258 rfl ?_
  refine V_iconst (v := 1) dL_law_260 rfl ?_
  refine V_iadd dL_law_261 ?_
  obtain ⟨g2, h⟩ := gu_o h
  refine V_sload dL_law_262 (ib_in g2) ?_
  refine V_aloadS_n dL_law_263 rfl ?_
  refine V_iload dL_law_264 rfl ?_
  refine V_iconst (v := 2) dL_law_266 rfl ?_
  refine V_iadd dL_law_267 ?_
  obtain ⟨g3, h⟩ := gu_o h
  refine V_sload dL_law_268 (ib_in g3) ?_
  refine V_aloadS_n dL_law_269 rfl ?_
  refine V_iload dL_law_270 rfl ?_
  refine V_iconst (v := 3) dL_law_272 rfl ?_
  refine V_iadd dL_law_273 ?_
  obtain ⟨g4, h⟩ := gu_o h
  refine V_sload dL_law_274 (ib_in g4) ?_
  refine V_aloadS_n dL_law_275 rfl ?_
  refine V_iload dL_law_276 rfl ?_
  refine V_iconst (v := 4) dL_law_278 rfl ?_
  refine V_iadd dL_law_279 ?_
  obtain ⟨g5, h⟩ := gu_o h
  refine V_sload dL_law_280 (ib_in g5) ?_
  refine V_aload_n dL_law_281 rfl ?_
  obtain ⟨x6, y7, h⟩ := bi_o h
  refine V_callSX (as := [.ref 0, .int (gx G (Int32.toNatClampNeg (v4 + 1))), .int (gx G (Int32.toNatClampNeg (v4 + 2))), .int (gx G (Int32.toNatClampNeg (v4 + 3))), .int (gx G (Int32.toNatClampNeg (v4 + 4))), .ref 128]) (rest := []) dL_law_282 os_mL_place rfl lk_RL_169 (by decide) (by decide) rfl rfl (Nat.le_of_ble_eq_true rfl) (VM_L_place G fu hG (gx G (Int32.toNatClampNeg (v4 + 1))) (gx G (Int32.toNatClampNeg (v4 + 2))) (gx G (Int32.toNatClampNeg (v4 + 3))) (gx G (Int32.toNatClampNeg (v4 + 4))) μ _ y7) ?_
  refine V_istore (lv2 := [some (.null), some (.ref 0), some (.ref 85), some (.ref 128), some (.int v4), some (.int x6.1), none, none]) dL_law_285 (by decide) rfl ?_
  refine V_aload_n dL_law_287 rfl ?_
  refine V_aloadS_n dL_law_288 rfl ?_
  refine V_iload dL_law_289 rfl ?_
  refine V_iconst (v := 1) dL_law_291 rfl ?_
  refine V_iadd dL_law_292 ?_
  obtain ⟨g8, h⟩ := gu_o h
  refine V_sload dL_law_293 (ib_in g8) ?_
  refine V_aloadS_n dL_law_294 rfl ?_
  refine V_iload dL_law_295 rfl ?_
  refine V_iconst (v := 2) dL_law_297 rfl ?_
  refine V_iadd dL_law_298 ?_
  obtain ⟨g9, h⟩ := gu_o h
  refine V_sload dL_law_299 (ib_in g9) ?_
  refine V_aloadS_n dL_law_300 rfl ?_
  refine V_iload dL_law_301 rfl ?_
  refine V_iconst (v := 3) dL_law_303 rfl ?_
  refine V_iadd dL_law_304 ?_
  obtain ⟨g10, h⟩ := gu_o h
  refine V_sload dL_law_305 (ib_in g10) ?_
  refine V_aloadS_n dL_law_306 rfl ?_
  refine V_iload dL_law_307 rfl ?_
  refine V_iconst (v := 4) dL_law_309 rfl ?_
  refine V_iadd dL_law_310 ?_
  obtain ⟨g11, h⟩ := gu_o h
  refine V_sload dL_law_311 (ib_in g11) ?_
  obtain ⟨x12, y13, h⟩ := bi_o h
  refine V_callV (as := [.int (gx G (Int32.toNatClampNeg (v4 + 1))), .int (gx G (Int32.toNatClampNeg (v4 + 2))), .int (gx G (Int32.toNatClampNeg (v4 + 3))), .int (gx G (Int32.toNatClampNeg (v4 + 4)))]) (q := 85) (rest := []) dL_law_312 ov_mX7_place lk_RL_174 (by decide) (by decide) rfl rfl (Nat.le_of_ble_eq_true rfl) (tq_85 hG) rfl (VM_X7_place G fu hG (gx G (Int32.toNatClampNeg (v4 + 1))) (gx G (Int32.toNatClampNeg (v4 + 2))) (gx G (Int32.toNatClampNeg (v4 + 3))) (gx G (Int32.toNatClampNeg (v4 + 4))) x6.2 _ y13) ?_
  refine V_istore (lv2 := [some (.null), some (.ref 0), some (.ref 85), some (.ref 128), some (.int v4), some (.int x6.1), some (.int x12.1), none]) dL_law_315 (by decide) rfl ?_
  refine V_aload_n dL_law_317 rfl ?_
  obtain ⟨x14, y15, h⟩ := bi_o h
  refine V_callV (as := []) (q := 85) (rest := []) dL_law_318 ov_mX7_thrown lk_RL_175 (by decide) (by decide) rfl rfl (Nat.le_of_ble_eq_true rfl) (tq_85 hG) rfl (VM_X7_thrown G x12.2 hG _ y15) ?_
  refine V_iload dL_law_321 rfl ?_
  by_cases c323 : x14 = x6.1
  · rw [if_pos c323] at h
    refine V_icmpeq_t (tgt := 328) dL_law_323 (by decide) c323 ?_
    refine V_iload dL_law_328 rfl ?_
    by_cases c330 : x6.1 = 0
    · rw [if_pos c330] at h
      refine V_ifne_f (tgt := 345) dL_law_330 (by decide) c330 ?_
      refine V_aload_n dL_law_333 rfl ?_
      refine V_iconst (v := 0) dL_law_334 rfl ?_
      obtain ⟨g16, h⟩ := gu_o h
      refine V_laload dL_law_335 (tq_128 hG) (ib_in g16) ?_
      refine V_iload dL_law_336 rfl ?_
      refine V_i2l dL_law_338 ?_
      refine V_lcmp dL_law_339 ?_
      by_cases c340 : (x12.2.2.1 128 (Int32.toNatClampNeg 0)) = ((x12.1 : Int32).toInt64)
      · rw [if_pos c340] at h
        refine V_ifeq_t (tgt := 345) dL_law_340 (by decide) ((lc_eq (x12.2.2.1 128 (Int32.toNatClampNeg 0)) ((x12.1 : Int32).toInt64)).mpr c340) ?_
        exact V_wk [true, true, true, true, true, false, false, false] rfl (T_L_law_345 G fu hG k23 hk23 _ _ _ h)
      · rw [if_neg c340] at h
        refine V_ifeq_f (tgt := 345) dL_law_340 (by decide) (fun z => c340 ((lc_eq (x12.2.2.1 128 (Int32.toNatClampNeg 0)) ((x12.1 : Int32).toInt64)).mp z)) ?_
        refine V_iconst (v := 0) dL_law_343 rfl ?_
        cases h
        exact V_zret rfl (by decide) dL_law_344
    · rw [if_neg c330] at h
      refine V_ifne_t (tgt := 345) dL_law_330 (by decide) c330 ?_
      exact V_wk [true, true, true, true, true, false, false, false] rfl (T_L_law_345 G fu hG k23 hk23 _ _ _ h)
  · rw [if_neg c323] at h
    refine V_icmpeq_f (tgt := 328) dL_law_323 (by decide) c323 ?_
    refine V_iconst (v := 0) dL_law_326 rfl ?_
    cases h
    exact V_zret rfl (by decide) dL_law_327
def D_L_law_425 (G : GX) (fu : Nat)  (k23 : Int32 → Mem → Option (Bool × Mem)) (v4 : Int32) (μ : Mem) : Option (Bool × Mem) :=
  D_L_law_3740 G fu k23 v4 μ
set_option maxRecDepth 20000 in
theorem T_L_law_425 (G : GX) (fu : Nat)  (hG : gt G = tbl) (k23 : Int32 → Mem → Option (Bool × Mem)) (hk23 : ∀ (v4 : Int32) (μ : Mem) (r : (Bool × Mem)), k23 v4 μ = some r → V G mL_law 23 [some (.null), some (.ref 0), some (.ref 85), some (.ref 128), some (.int v4), none, none, none] [] μ (.inl (some (.int (b2i r.1)))) (r.2)) : ∀ (v4 : Int32) (μ : Mem) (r : (Bool × Mem)) , D_L_law_425 G fu k23 v4 μ = some r → V G mL_law 425 [some (.null), some (.ref 0), some (.ref 85), some (.ref 128), some (.int v4), none, none, none] [] μ (.inl (some (.int (b2i r.1)))) (r.2) := by
  intro v4 μ r h
  unfold D_L_law_425 at h
  refine V_goto (tgt := 3740) dL_law_425 (by decide) ?_
  exact V_wk [true, true, true, true, true, false, false, false] rfl (T_L_law_3740 G fu hG k23 hk23 _ _ _ h)
def D_L_law_348 (G : GX) (fu : Nat)  (k23 : Int32 → Mem → Option (Bool × Mem)) (v4 : Int32) (μ : Mem) : Option (Bool × Mem) :=
  gu (ib (v4 + 1) (gn G)) <|
  gu (ib (v4 + 2) (gn G)) <|
  gu (ib (v4 + 3) (gn G)) <|
  (D_L_sign_0 fu (gx G (Int32.toNatClampNeg (v4 + 1))) (gx G (Int32.toNatClampNeg (v4 + 2))) (gx G (Int32.toNatClampNeg (v4 + 3))) μ).bind fun x20 =>
  gu (ib (v4 + 1) (gn G)) <|
  gu (ib (v4 + 2) (gn G)) <|
  gu (ib (v4 + 3) (gn G)) <|
  (D_X7_sign_0 fu (gx G (Int32.toNatClampNeg (v4 + 1))) (gx G (Int32.toNatClampNeg (v4 + 2))) (gx G (Int32.toNatClampNeg (v4 + 3))) x20.2).bind fun x25 =>
  (D_X7_thrown_0 x25.2).bind fun x27 =>
  if x27 = x20.1 then
    if x20.1 = 0 then
      gu (ib 0 1) <|
      if (x25.2.2.1 128 (Int32.toNatClampNeg 0)) = ((x25.1 : Int32).toInt64) then
        D_L_law_425 G fu k23 v4 x25.2
      else
        some (false, x25.2)
    else
      D_L_law_425 G fu k23 v4 x25.2
  else
    some (false, x25.2)
set_option maxRecDepth 20000 in
theorem T_L_law_348 (G : GX) (fu : Nat)  (hG : gt G = tbl) (k23 : Int32 → Mem → Option (Bool × Mem)) (hk23 : ∀ (v4 : Int32) (μ : Mem) (r : (Bool × Mem)), k23 v4 μ = some r → V G mL_law 23 [some (.null), some (.ref 0), some (.ref 85), some (.ref 128), some (.int v4), none, none, none] [] μ (.inl (some (.int (b2i r.1)))) (r.2)) : ∀ (v4 : Int32) (μ : Mem) (r : (Bool × Mem)) , D_L_law_348 G fu k23 v4 μ = some r → V G mL_law 348 [some (.null), some (.ref 0), some (.ref 85), some (.ref 128), some (.int v4), none, none, none] [] μ (.inl (some (.int (b2i r.1)))) (r.2) := by
  intro v4 μ r h
  unfold D_L_law_348 at h
  refine V_aload_n dL_law_348 rfl ?_
  refine V_aloadS_n dL_law_349 rfl ?_
  refine V_iload dL_law_350 rfl ?_
  refine V_iconst (v := 1) dL_law_352 rfl ?_
  refine V_iadd dL_law_353 ?_
  obtain ⟨g17, h⟩ := gu_o h
  refine V_sload dL_law_354 (ib_in g17) ?_
  refine V_aloadS_n dL_law_355 rfl ?_
  refine V_iload dL_law_356 rfl ?_
  refine V_iconst (v := 2) dL_law_358 rfl ?_
  refine V_iadd dL_law_359 ?_
  obtain ⟨g18, h⟩ := gu_o h
  refine V_sload dL_law_360 (ib_in g18) ?_
  refine V_aloadS_n dL_law_361 rfl ?_
  refine V_iload dL_law_362 rfl ?_
  refine V_iconst (v := 3) dL_law_364 rfl ?_
  refine V_iadd dL_law_365 ?_
  obtain ⟨g19, h⟩ := gu_o h
  refine V_sload dL_law_366 (ib_in g19) ?_
  refine V_aload_n dL_law_367 rfl ?_
  obtain ⟨x20, y21, h⟩ := bi_o h
  refine V_callSX (as := [.ref 0, .int (gx G (Int32.toNatClampNeg (v4 + 1))), .int (gx G (Int32.toNatClampNeg (v4 + 2))), .int (gx G (Int32.toNatClampNeg (v4 + 3))), .ref 128]) (rest := []) dL_law_368 os_mL_sign rfl lk_RL_179 (by decide) (by decide) rfl rfl (Nat.le_of_ble_eq_true rfl) (VM_L_sign G fu hG (gx G (Int32.toNatClampNeg (v4 + 1))) (gx G (Int32.toNatClampNeg (v4 + 2))) (gx G (Int32.toNatClampNeg (v4 + 3))) μ _ y21) ?_
  refine V_istore (lv2 := [some (.null), some (.ref 0), some (.ref 85), some (.ref 128), some (.int v4), some (.int x20.1), none, none]) dL_law_371 (by decide) rfl ?_
  refine V_aload_n dL_law_373 rfl ?_
  refine V_aloadS_n dL_law_374 rfl ?_
  refine V_iload dL_law_375 rfl ?_
  refine V_iconst (v := 1) dL_law_377 rfl ?_
  refine V_iadd dL_law_378 ?_
  obtain ⟨g22, h⟩ := gu_o h
  refine V_sload dL_law_379 (ib_in g22) ?_
  refine V_aloadS_n dL_law_380 rfl ?_
  refine V_iload dL_law_381 rfl ?_
  refine V_iconst (v := 2) dL_law_383 rfl ?_
  refine V_iadd dL_law_384 ?_
  obtain ⟨g23, h⟩ := gu_o h
  refine V_sload dL_law_385 (ib_in g23) ?_
  refine V_aloadS_n dL_law_386 rfl ?_
  refine V_iload dL_law_387 rfl ?_
  refine V_iconst (v := 3) dL_law_389 rfl ?_
  refine V_iadd dL_law_390 ?_
  obtain ⟨g24, h⟩ := gu_o h
  refine V_sload dL_law_391 (ib_in g24) ?_
  obtain ⟨x25, y26, h⟩ := bi_o h
  refine V_callV (as := [.int (gx G (Int32.toNatClampNeg (v4 + 1))), .int (gx G (Int32.toNatClampNeg (v4 + 2))), .int (gx G (Int32.toNatClampNeg (v4 + 3)))]) (q := 85) (rest := []) dL_law_392 ov_mX7_sign lk_RL_182 (by decide) (by decide) rfl rfl (Nat.le_of_ble_eq_true rfl) (tq_85 hG) rfl (VM_X7_sign G fu hG (gx G (Int32.toNatClampNeg (v4 + 1))) (gx G (Int32.toNatClampNeg (v4 + 2))) (gx G (Int32.toNatClampNeg (v4 + 3))) x20.2 _ y26) ?_
  refine V_istore (lv2 := [some (.null), some (.ref 0), some (.ref 85), some (.ref 128), some (.int v4), some (.int x20.1), some (.int x25.1), none]) dL_law_395 (by decide) rfl ?_
  refine V_aload_n dL_law_397 rfl ?_
  obtain ⟨x27, y28, h⟩ := bi_o h
  refine V_callV (as := []) (q := 85) (rest := []) dL_law_398 ov_mX7_thrown lk_RL_175 (by decide) (by decide) rfl rfl (Nat.le_of_ble_eq_true rfl) (tq_85 hG) rfl (VM_X7_thrown G x25.2 hG _ y28) ?_
  refine V_iload dL_law_401 rfl ?_
  by_cases c403 : x27 = x20.1
  · rw [if_pos c403] at h
    refine V_icmpeq_t (tgt := 408) dL_law_403 (by decide) c403 ?_
    refine V_iload dL_law_408 rfl ?_
    by_cases c410 : x20.1 = 0
    · rw [if_pos c410] at h
      refine V_ifne_f (tgt := 425) dL_law_410 (by decide) c410 ?_
      refine V_aload_n dL_law_413 rfl ?_
      refine V_iconst (v := 0) dL_law_414 rfl ?_
      obtain ⟨g29, h⟩ := gu_o h
      refine V_laload dL_law_415 (tq_128 hG) (ib_in g29) ?_
      refine V_iload dL_law_416 rfl ?_
      refine V_i2l dL_law_418 ?_
      refine V_lcmp dL_law_419 ?_
      by_cases c420 : (x25.2.2.1 128 (Int32.toNatClampNeg 0)) = ((x25.1 : Int32).toInt64)
      · rw [if_pos c420] at h
        refine V_ifeq_t (tgt := 425) dL_law_420 (by decide) ((lc_eq (x25.2.2.1 128 (Int32.toNatClampNeg 0)) ((x25.1 : Int32).toInt64)).mpr c420) ?_
        exact V_wk [true, true, true, true, true, false, false, false] rfl (T_L_law_425 G fu hG k23 hk23 _ _ _ h)
      · rw [if_neg c420] at h
        refine V_ifeq_f (tgt := 425) dL_law_420 (by decide) (fun z => c420 ((lc_eq (x25.2.2.1 128 (Int32.toNatClampNeg 0)) ((x25.1 : Int32).toInt64)).mp z)) ?_
        refine V_iconst (v := 0) dL_law_423 rfl ?_
        cases h
        exact V_zret rfl (by decide) dL_law_424
    · rw [if_neg c410] at h
      refine V_ifne_t (tgt := 425) dL_law_410 (by decide) c410 ?_
      exact V_wk [true, true, true, true, true, false, false, false] rfl (T_L_law_425 G fu hG k23 hk23 _ _ _ h)
  · rw [if_neg c403] at h
    refine V_icmpeq_f (tgt := 408) dL_law_403 (by decide) c403 ?_
    refine V_iconst (v := 0) dL_law_406 rfl ?_
    cases h
    exact V_zret rfl (by decide) dL_law_407
def D_L_law_481 (G : GX) (fu : Nat)  (k23 : Int32 → Mem → Option (Bool × Mem)) (v4 : Int32) (μ : Mem) : Option (Bool × Mem) :=
  D_L_law_3740 G fu k23 v4 μ
set_option maxRecDepth 20000 in
theorem T_L_law_481 (G : GX) (fu : Nat)  (hG : gt G = tbl) (k23 : Int32 → Mem → Option (Bool × Mem)) (hk23 : ∀ (v4 : Int32) (μ : Mem) (r : (Bool × Mem)), k23 v4 μ = some r → V G mL_law 23 [some (.null), some (.ref 0), some (.ref 85), some (.ref 128), some (.int v4), none, none, none] [] μ (.inl (some (.int (b2i r.1)))) (r.2)) : ∀ (v4 : Int32) (μ : Mem) (r : (Bool × Mem)) , D_L_law_481 G fu k23 v4 μ = some r → V G mL_law 481 [some (.null), some (.ref 0), some (.ref 85), some (.ref 128), some (.int v4), none, none, none] [] μ (.inl (some (.int (b2i r.1)))) (r.2) := by
  intro v4 μ r h
  unfold D_L_law_481 at h
  refine V_goto (tgt := 3740) dL_law_481 (by decide) ?_
  exact V_wk [true, true, true, true, true, false, false, false] rfl (T_L_law_3740 G fu hG k23 hk23 _ _ _ h)
def D_L_law_428 (G : GX) (fu : Nat)  (k23 : Int32 → Mem → Option (Bool × Mem)) (v4 : Int32) (μ : Mem) : Option (Bool × Mem) :=
  gu (ib (v4 + 1) (gn G)) <|
  (D_L_lack_0 fu (gx G (Int32.toNatClampNeg (v4 + 1))) μ).bind fun x31 =>
  gu (ib (v4 + 1) (gn G)) <|
  (D_X7_lack_0 fu (gx G (Int32.toNatClampNeg (v4 + 1))) x31.2).bind fun x34 =>
  (D_X7_thrown_0 x34.2).bind fun x36 =>
  if x36 = x31.1 then
    if x31.1 = 0 then
      gu (ib 0 1) <|
      if (x34.2.2.1 128 (Int32.toNatClampNeg 0)) = ((x34.1 : Int32).toInt64) then
        D_L_law_481 G fu k23 v4 x34.2
      else
        some (false, x34.2)
    else
      D_L_law_481 G fu k23 v4 x34.2
  else
    some (false, x34.2)
set_option maxRecDepth 20000 in
theorem T_L_law_428 (G : GX) (fu : Nat)  (hG : gt G = tbl) (k23 : Int32 → Mem → Option (Bool × Mem)) (hk23 : ∀ (v4 : Int32) (μ : Mem) (r : (Bool × Mem)), k23 v4 μ = some r → V G mL_law 23 [some (.null), some (.ref 0), some (.ref 85), some (.ref 128), some (.int v4), none, none, none] [] μ (.inl (some (.int (b2i r.1)))) (r.2)) : ∀ (v4 : Int32) (μ : Mem) (r : (Bool × Mem)) , D_L_law_428 G fu k23 v4 μ = some r → V G mL_law 428 [some (.null), some (.ref 0), some (.ref 85), some (.ref 128), some (.int v4), none, none, none] [] μ (.inl (some (.int (b2i r.1)))) (r.2) := by
  intro v4 μ r h
  unfold D_L_law_428 at h
  refine V_aload_n dL_law_428 rfl ?_
  refine V_aloadS_n dL_law_429 rfl ?_
  refine V_iload dL_law_430 rfl ?_
  refine V_iconst (v := 1) dL_law_432 rfl ?_
  refine V_iadd dL_law_433 ?_
  obtain ⟨g30, h⟩ := gu_o h
  refine V_sload dL_law_434 (ib_in g30) ?_
  refine V_aload_n dL_law_435 rfl ?_
  obtain ⟨x31, y32, h⟩ := bi_o h
  refine V_callSX (as := [.ref 0, .int (gx G (Int32.toNatClampNeg (v4 + 1))), .ref 128]) (rest := []) dL_law_436 os_mL_lack rfl lk_RL_183 (by decide) (by decide) rfl rfl (Nat.le_of_ble_eq_true rfl) (VM_L_lack G fu hG (gx G (Int32.toNatClampNeg (v4 + 1))) μ _ y32) ?_
  refine V_istore (lv2 := [some (.null), some (.ref 0), some (.ref 85), some (.ref 128), some (.int v4), some (.int x31.1), none, none]) dL_law_439 (by decide) rfl ?_
  refine V_aload_n dL_law_441 rfl ?_
  refine V_aloadS_n dL_law_442 rfl ?_
  refine V_iload dL_law_443 rfl ?_
  refine V_iconst (v := 1) dL_law_445 rfl ?_
  refine V_iadd dL_law_446 ?_
  obtain ⟨g33, h⟩ := gu_o h
  refine V_sload dL_law_447 (ib_in g33) ?_
  obtain ⟨x34, y35, h⟩ := bi_o h
  refine V_callV (as := [.int (gx G (Int32.toNatClampNeg (v4 + 1)))]) (q := 85) (rest := []) dL_law_448 ov_mX7_lack lk_RL_186 (by decide) (by decide) rfl rfl (Nat.le_of_ble_eq_true rfl) (tq_85 hG) rfl (VM_X7_lack G fu hG (gx G (Int32.toNatClampNeg (v4 + 1))) x31.2 _ y35) ?_
  refine V_istore (lv2 := [some (.null), some (.ref 0), some (.ref 85), some (.ref 128), some (.int v4), some (.int x31.1), some (.int x34.1), none]) dL_law_451 (by decide) rfl ?_
  refine V_aload_n dL_law_453 rfl ?_
  obtain ⟨x36, y37, h⟩ := bi_o h
  refine V_callV (as := []) (q := 85) (rest := []) dL_law_454 ov_mX7_thrown lk_RL_175 (by decide) (by decide) rfl rfl (Nat.le_of_ble_eq_true rfl) (tq_85 hG) rfl (VM_X7_thrown G x34.2 hG _ y37) ?_
  refine V_iload dL_law_457 rfl ?_
  by_cases c459 : x36 = x31.1
  · rw [if_pos c459] at h
    refine V_icmpeq_t (tgt := 464) dL_law_459 (by decide) c459 ?_
    refine V_iload dL_law_464 rfl ?_
    by_cases c466 : x31.1 = 0
    · rw [if_pos c466] at h
      refine V_ifne_f (tgt := 481) dL_law_466 (by decide) c466 ?_
      refine V_aload_n dL_law_469 rfl ?_
      refine V_iconst (v := 0) dL_law_470 rfl ?_
      obtain ⟨g38, h⟩ := gu_o h
      refine V_laload dL_law_471 (tq_128 hG) (ib_in g38) ?_
      refine V_iload dL_law_472 rfl ?_
      refine V_i2l dL_law_474 ?_
      refine V_lcmp dL_law_475 ?_
      by_cases c476 : (x34.2.2.1 128 (Int32.toNatClampNeg 0)) = ((x34.1 : Int32).toInt64)
      · rw [if_pos c476] at h
        refine V_ifeq_t (tgt := 481) dL_law_476 (by decide) ((lc_eq (x34.2.2.1 128 (Int32.toNatClampNeg 0)) ((x34.1 : Int32).toInt64)).mpr c476) ?_
        exact V_wk [true, true, true, true, true, false, false, false] rfl (T_L_law_481 G fu hG k23 hk23 _ _ _ h)
      · rw [if_neg c476] at h
        refine V_ifeq_f (tgt := 481) dL_law_476 (by decide) (fun z => c476 ((lc_eq (x34.2.2.1 128 (Int32.toNatClampNeg 0)) ((x34.1 : Int32).toInt64)).mp z)) ?_
        refine V_iconst (v := 0) dL_law_479 rfl ?_
        cases h
        exact V_zret rfl (by decide) dL_law_480
    · rw [if_neg c466] at h
      refine V_ifne_t (tgt := 481) dL_law_466 (by decide) c466 ?_
      exact V_wk [true, true, true, true, true, false, false, false] rfl (T_L_law_481 G fu hG k23 hk23 _ _ _ h)
  · rw [if_neg c459] at h
    refine V_icmpeq_f (tgt := 464) dL_law_459 (by decide) c459 ?_
    refine V_iconst (v := 0) dL_law_462 rfl ?_
    cases h
    exact V_zret rfl (by decide) dL_law_463
def D_L_law_561 (G : GX) (fu : Nat)  (k23 : Int32 → Mem → Option (Bool × Mem)) (v4 : Int32) (μ : Mem) : Option (Bool × Mem) :=
  D_L_law_3740 G fu k23 v4 μ
set_option maxRecDepth 20000 in
theorem T_L_law_561 (G : GX) (fu : Nat)  (hG : gt G = tbl) (k23 : Int32 → Mem → Option (Bool × Mem)) (hk23 : ∀ (v4 : Int32) (μ : Mem) (r : (Bool × Mem)), k23 v4 μ = some r → V G mL_law 23 [some (.null), some (.ref 0), some (.ref 85), some (.ref 128), some (.int v4), none, none, none] [] μ (.inl (some (.int (b2i r.1)))) (r.2)) : ∀ (v4 : Int32) (μ : Mem) (r : (Bool × Mem)) , D_L_law_561 G fu k23 v4 μ = some r → V G mL_law 561 [some (.null), some (.ref 0), some (.ref 85), some (.ref 128), some (.int v4), none, none, none] [] μ (.inl (some (.int (b2i r.1)))) (r.2) := by
  intro v4 μ r h
  unfold D_L_law_561 at h
  refine V_goto (tgt := 3740) dL_law_561 (by decide) ?_
  exact V_wk [true, true, true, true, true, false, false, false] rfl (T_L_law_3740 G fu hG k23 hk23 _ _ _ h)
def D_L_law_484 (G : GX) (fu : Nat)  (k23 : Int32 → Mem → Option (Bool × Mem)) (v4 : Int32) (μ : Mem) : Option (Bool × Mem) :=
  gu (ib (v4 + 1) (gn G)) <|
  gu (ib (v4 + 2) (gn G)) <|
  gu (ib (v4 + 3) (gn G)) <|
  (D_L_rules_0 fu (gx G (Int32.toNatClampNeg (v4 + 1))) (gx G (Int32.toNatClampNeg (v4 + 2))) (gx G (Int32.toNatClampNeg (v4 + 3))) μ).bind fun x42 =>
  gu (ib (v4 + 1) (gn G)) <|
  gu (ib (v4 + 2) (gn G)) <|
  gu (ib (v4 + 3) (gn G)) <|
  (D_X7_rules_0 fu (gx G (Int32.toNatClampNeg (v4 + 1))) (gx G (Int32.toNatClampNeg (v4 + 2))) (gx G (Int32.toNatClampNeg (v4 + 3))) x42.2).bind fun x47 =>
  (D_X7_thrown_0 x47.2).bind fun x49 =>
  if x49 = x42.1 then
    if x42.1 = 0 then
      gu (ib 0 1) <|
      if (x47.2.2.1 128 (Int32.toNatClampNeg 0)) = ((x47.1 : Int32).toInt64) then
        D_L_law_561 G fu k23 v4 x47.2
      else
        some (false, x47.2)
    else
      D_L_law_561 G fu k23 v4 x47.2
  else
    some (false, x47.2)
set_option maxRecDepth 20000 in
theorem T_L_law_484 (G : GX) (fu : Nat)  (hG : gt G = tbl) (k23 : Int32 → Mem → Option (Bool × Mem)) (hk23 : ∀ (v4 : Int32) (μ : Mem) (r : (Bool × Mem)), k23 v4 μ = some r → V G mL_law 23 [some (.null), some (.ref 0), some (.ref 85), some (.ref 128), some (.int v4), none, none, none] [] μ (.inl (some (.int (b2i r.1)))) (r.2)) : ∀ (v4 : Int32) (μ : Mem) (r : (Bool × Mem)) , D_L_law_484 G fu k23 v4 μ = some r → V G mL_law 484 [some (.null), some (.ref 0), some (.ref 85), some (.ref 128), some (.int v4), none, none, none] [] μ (.inl (some (.int (b2i r.1)))) (r.2) := by
  intro v4 μ r h
  unfold D_L_law_484 at h
  refine V_aload_n dL_law_484 rfl ?_
  refine V_aloadS_n dL_law_485 rfl ?_
  refine V_iload dL_law_486 rfl ?_
  refine V_iconst (v := 1) dL_law_488 rfl ?_
  refine V_iadd dL_law_489 ?_
  obtain ⟨g39, h⟩ := gu_o h
  refine V_sload dL_law_490 (ib_in g39) ?_
  refine V_aloadS_n dL_law_491 rfl ?_
  refine V_iload dL_law_492 rfl ?_
  refine V_iconst (v := 2) dL_law_494 rfl ?_
  refine V_iadd dL_law_495 ?_
  obtain ⟨g40, h⟩ := gu_o h
  refine V_sload dL_law_496 (ib_in g40) ?_
  refine V_aloadS_n dL_law_497 rfl ?_
  refine V_iload dL_law_498 rfl ?_
  refine V_iconst (v := 3) dL_law_500 rfl ?_
  refine V_iadd dL_law_501 ?_
  obtain ⟨g41, h⟩ := gu_o h
  refine V_sload dL_law_502 (ib_in g41) ?_
  refine V_aload_n dL_law_503 rfl ?_
  obtain ⟨x42, y43, h⟩ := bi_o h
  refine V_callSX (as := [.ref 0, .int (gx G (Int32.toNatClampNeg (v4 + 1))), .int (gx G (Int32.toNatClampNeg (v4 + 2))), .int (gx G (Int32.toNatClampNeg (v4 + 3))), .ref 128]) (rest := []) dL_law_504 os_mL_rules rfl lk_RL_187 (by decide) (by decide) rfl rfl (Nat.le_of_ble_eq_true rfl) (VM_L_rules G fu hG (gx G (Int32.toNatClampNeg (v4 + 1))) (gx G (Int32.toNatClampNeg (v4 + 2))) (gx G (Int32.toNatClampNeg (v4 + 3))) μ _ y43) ?_
  refine V_istore (lv2 := [some (.null), some (.ref 0), some (.ref 85), some (.ref 128), some (.int v4), some (.int x42.1), none, none]) dL_law_507 (by decide) rfl ?_
  refine V_aload_n dL_law_509 rfl ?_
  refine V_aloadS_n dL_law_510 rfl ?_
  refine V_iload dL_law_511 rfl ?_
  refine V_iconst (v := 1) dL_law_513 rfl ?_
  refine V_iadd dL_law_514 ?_
  obtain ⟨g44, h⟩ := gu_o h
  refine V_sload dL_law_515 (ib_in g44) ?_
  refine V_aloadS_n dL_law_516 rfl ?_
  refine V_iload dL_law_517 rfl ?_
  refine V_iconst (v := 2) dL_law_519 rfl ?_
  refine V_iadd dL_law_520 ?_
  obtain ⟨g45, h⟩ := gu_o h
  refine V_sload dL_law_521 (ib_in g45) ?_
  refine V_aloadS_n dL_law_522 rfl ?_
  refine V_iload dL_law_523 rfl ?_
  refine V_iconst (v := 3) dL_law_525 rfl ?_
  refine V_iadd dL_law_526 ?_
  obtain ⟨g46, h⟩ := gu_o h
  refine V_sload dL_law_527 (ib_in g46) ?_
  obtain ⟨x47, y48, h⟩ := bi_o h
  refine V_callV (as := [.int (gx G (Int32.toNatClampNeg (v4 + 1))), .int (gx G (Int32.toNatClampNeg (v4 + 2))), .int (gx G (Int32.toNatClampNeg (v4 + 3)))]) (q := 85) (rest := []) dL_law_528 ov_mX7_rules lk_RL_189 (by decide) (by decide) rfl rfl (Nat.le_of_ble_eq_true rfl) (tq_85 hG) rfl (VM_X7_rules G fu hG (gx G (Int32.toNatClampNeg (v4 + 1))) (gx G (Int32.toNatClampNeg (v4 + 2))) (gx G (Int32.toNatClampNeg (v4 + 3))) x42.2 _ y48) ?_
  refine V_istore (lv2 := [some (.null), some (.ref 0), some (.ref 85), some (.ref 128), some (.int v4), some (.int x42.1), some (.int x47.1), none]) dL_law_531 (by decide) rfl ?_
  refine V_aload_n dL_law_533 rfl ?_
  obtain ⟨x49, y50, h⟩ := bi_o h
  refine V_callV (as := []) (q := 85) (rest := []) dL_law_534 ov_mX7_thrown lk_RL_175 (by decide) (by decide) rfl rfl (Nat.le_of_ble_eq_true rfl) (tq_85 hG) rfl (VM_X7_thrown G x47.2 hG _ y50) ?_
  refine V_iload dL_law_537 rfl ?_
  by_cases c539 : x49 = x42.1
  · rw [if_pos c539] at h
    refine V_icmpeq_t (tgt := 544) dL_law_539 (by decide) c539 ?_
    refine V_iload dL_law_544 rfl ?_
    by_cases c546 : x42.1 = 0
    · rw [if_pos c546] at h
      refine V_ifne_f (tgt := 561) dL_law_546 (by decide) c546 ?_
      refine V_aload_n dL_law_549 rfl ?_
      refine V_iconst (v := 0) dL_law_550 rfl ?_
      obtain ⟨g51, h⟩ := gu_o h
      refine V_laload dL_law_551 (tq_128 hG) (ib_in g51) ?_
      refine V_iload dL_law_552 rfl ?_
      refine V_i2l dL_law_554 ?_
      refine V_lcmp dL_law_555 ?_
      by_cases c556 : (x47.2.2.1 128 (Int32.toNatClampNeg 0)) = ((x47.1 : Int32).toInt64)
      · rw [if_pos c556] at h
        refine V_ifeq_t (tgt := 561) dL_law_556 (by decide) ((lc_eq (x47.2.2.1 128 (Int32.toNatClampNeg 0)) ((x47.1 : Int32).toInt64)).mpr c556) ?_
        exact V_wk [true, true, true, true, true, false, false, false] rfl (T_L_law_561 G fu hG k23 hk23 _ _ _ h)
      · rw [if_neg c556] at h
        refine V_ifeq_f (tgt := 561) dL_law_556 (by decide) (fun z => c556 ((lc_eq (x47.2.2.1 128 (Int32.toNatClampNeg 0)) ((x47.1 : Int32).toInt64)).mp z)) ?_
        refine V_iconst (v := 0) dL_law_559 rfl ?_
        cases h
        exact V_zret rfl (by decide) dL_law_560
    · rw [if_neg c546] at h
      refine V_ifne_t (tgt := 561) dL_law_546 (by decide) c546 ?_
      exact V_wk [true, true, true, true, true, false, false, false] rfl (T_L_law_561 G fu hG k23 hk23 _ _ _ h)
  · rw [if_neg c539] at h
    refine V_icmpeq_f (tgt := 544) dL_law_539 (by decide) c539 ?_
    refine V_iconst (v := 0) dL_law_542 rfl ?_
    cases h
    exact V_zret rfl (by decide) dL_law_543
def D_L_law_653 (G : GX) (fu : Nat)  (k23 : Int32 → Mem → Option (Bool × Mem)) (v4 : Int32) (μ : Mem) : Option (Bool × Mem) :=
  D_L_law_3740 G fu k23 v4 μ
set_option maxRecDepth 20000 in
theorem T_L_law_653 (G : GX) (fu : Nat)  (hG : gt G = tbl) (k23 : Int32 → Mem → Option (Bool × Mem)) (hk23 : ∀ (v4 : Int32) (μ : Mem) (r : (Bool × Mem)), k23 v4 μ = some r → V G mL_law 23 [some (.null), some (.ref 0), some (.ref 85), some (.ref 128), some (.int v4), none, none, none] [] μ (.inl (some (.int (b2i r.1)))) (r.2)) : ∀ (v4 : Int32) (μ : Mem) (r : (Bool × Mem)) , D_L_law_653 G fu k23 v4 μ = some r → V G mL_law 653 [some (.null), some (.ref 0), some (.ref 85), some (.ref 128), some (.int v4), none, none, none] [] μ (.inl (some (.int (b2i r.1)))) (r.2) := by
  intro v4 μ r h
  unfold D_L_law_653 at h
  refine V_goto (tgt := 3740) dL_law_653 (by decide) ?_
  exact V_wk [true, true, true, true, true, false, false, false] rfl (T_L_law_3740 G fu hG k23 hk23 _ _ _ h)
def D_L_law_564 (G : GX) (fu : Nat)  (k23 : Int32 → Mem → Option (Bool × Mem)) (v4 : Int32) (μ : Mem) : Option (Bool × Mem) :=
  gu (ib (v4 + 1) (gn G)) <|
  gu (ib (v4 + 2) (gn G)) <|
  gu (ib (v4 + 3) (gn G)) <|
  gu (ib (v4 + 4) (gn G)) <|
  (D_L_harm_0 fu (gx G (Int32.toNatClampNeg (v4 + 1))) (gx G (Int32.toNatClampNeg (v4 + 2))) (gx G (Int32.toNatClampNeg (v4 + 3))) (gx G (Int32.toNatClampNeg (v4 + 4))) μ).bind fun x56 =>
  gu (ib (v4 + 1) (gn G)) <|
  gu (ib (v4 + 2) (gn G)) <|
  gu (ib (v4 + 3) (gn G)) <|
  gu (ib (v4 + 4) (gn G)) <|
  (D_X7_harm_0 fu (gx G (Int32.toNatClampNeg (v4 + 1))) (gx G (Int32.toNatClampNeg (v4 + 2))) (gx G (Int32.toNatClampNeg (v4 + 3))) (gx G (Int32.toNatClampNeg (v4 + 4))) x56.2).bind fun x62 =>
  (D_X7_thrown_0 x62.2).bind fun x64 =>
  if x64 = x56.1 then
    if x56.1 = 0 then
      gu (ib 0 1) <|
      if (x62.2.2.1 128 (Int32.toNatClampNeg 0)) = ((x62.1 : Int32).toInt64) then
        D_L_law_653 G fu k23 v4 x62.2
      else
        some (false, x62.2)
    else
      D_L_law_653 G fu k23 v4 x62.2
  else
    some (false, x62.2)
set_option maxRecDepth 20000 in
theorem T_L_law_564 (G : GX) (fu : Nat)  (hG : gt G = tbl) (k23 : Int32 → Mem → Option (Bool × Mem)) (hk23 : ∀ (v4 : Int32) (μ : Mem) (r : (Bool × Mem)), k23 v4 μ = some r → V G mL_law 23 [some (.null), some (.ref 0), some (.ref 85), some (.ref 128), some (.int v4), none, none, none] [] μ (.inl (some (.int (b2i r.1)))) (r.2)) : ∀ (v4 : Int32) (μ : Mem) (r : (Bool × Mem)) , D_L_law_564 G fu k23 v4 μ = some r → V G mL_law 564 [some (.null), some (.ref 0), some (.ref 85), some (.ref 128), some (.int v4), none, none, none] [] μ (.inl (some (.int (b2i r.1)))) (r.2) := by
  intro v4 μ r h
  unfold D_L_law_564 at h
  refine V_aload_n dL_law_564 rfl ?_
  refine V_aloadS_n dL_law_565 rfl ?_
  refine V_iload dL_law_566 rfl ?_
  refine V_iconst (v := 1) dL_law_568 rfl ?_
  refine V_iadd dL_law_569 ?_
  obtain ⟨g52, h⟩ := gu_o h
  refine V_sload dL_law_570 (ib_in g52) ?_
  refine V_aloadS_n dL_law_571 rfl ?_
  refine V_iload dL_law_572 rfl ?_
  refine V_iconst (v := 2) dL_law_574 rfl ?_
  refine V_iadd dL_law_575 ?_
  obtain ⟨g53, h⟩ := gu_o h
  refine V_sload dL_law_576 (ib_in g53) ?_
  refine V_aloadS_n dL_law_577 rfl ?_
  refine V_iload dL_law_578 rfl ?_
  refine V_iconst (v := 3) dL_law_580 rfl ?_
  refine V_iadd dL_law_581 ?_
  obtain ⟨g54, h⟩ := gu_o h
  refine V_sload dL_law_582 (ib_in g54) ?_
  refine V_aloadS_n dL_law_583 rfl ?_
  refine V_iload dL_law_584 rfl ?_
  refine V_iconst (v := 4) dL_law_586 rfl ?_
  refine V_iadd dL_law_587 ?_
  obtain ⟨g55, h⟩ := gu_o h
  refine V_sload dL_law_588 (ib_in g55) ?_
  refine V_aload_n dL_law_589 rfl ?_
  obtain ⟨x56, y57, h⟩ := bi_o h
  refine V_callSX (as := [.ref 0, .int (gx G (Int32.toNatClampNeg (v4 + 1))), .int (gx G (Int32.toNatClampNeg (v4 + 2))), .int (gx G (Int32.toNatClampNeg (v4 + 3))), .int (gx G (Int32.toNatClampNeg (v4 + 4))), .ref 128]) (rest := []) dL_law_590 os_mL_harm rfl lk_RL_190 (by decide) (by decide) rfl rfl (Nat.le_of_ble_eq_true rfl) (VM_L_harm G fu hG (gx G (Int32.toNatClampNeg (v4 + 1))) (gx G (Int32.toNatClampNeg (v4 + 2))) (gx G (Int32.toNatClampNeg (v4 + 3))) (gx G (Int32.toNatClampNeg (v4 + 4))) μ _ y57) ?_
  refine V_istore (lv2 := [some (.null), some (.ref 0), some (.ref 85), some (.ref 128), some (.int v4), some (.int x56.1), none, none]) dL_law_593 (by decide) rfl ?_
  refine V_aload_n dL_law_595 rfl ?_
  refine V_aloadS_n dL_law_596 rfl ?_
  refine V_iload dL_law_597 rfl ?_
  refine V_iconst (v := 1) dL_law_599 rfl ?_
  refine V_iadd dL_law_600 ?_
  obtain ⟨g58, h⟩ := gu_o h
  refine V_sload dL_law_601 (ib_in g58) ?_
  refine V_aloadS_n dL_law_602 rfl ?_
  refine V_iload dL_law_603 rfl ?_
  refine V_iconst (v := 2) dL_law_605 rfl ?_
  refine V_iadd dL_law_606 ?_
  obtain ⟨g59, h⟩ := gu_o h
  refine V_sload dL_law_607 (ib_in g59) ?_
  refine V_aloadS_n dL_law_608 rfl ?_
  refine V_iload dL_law_609 rfl ?_
  refine V_iconst (v := 3) dL_law_611 rfl ?_
  refine V_iadd dL_law_612 ?_
  obtain ⟨g60, h⟩ := gu_o h
  refine V_sload dL_law_613 (ib_in g60) ?_
  refine V_aloadS_n dL_law_614 rfl ?_
  refine V_iload dL_law_615 rfl ?_
  refine V_iconst (v := 4) dL_law_617 rfl ?_
  refine V_iadd dL_law_618 ?_
  obtain ⟨g61, h⟩ := gu_o h
  refine V_sload dL_law_619 (ib_in g61) ?_
  obtain ⟨x62, y63, h⟩ := bi_o h
  refine V_callV (as := [.int (gx G (Int32.toNatClampNeg (v4 + 1))), .int (gx G (Int32.toNatClampNeg (v4 + 2))), .int (gx G (Int32.toNatClampNeg (v4 + 3))), .int (gx G (Int32.toNatClampNeg (v4 + 4)))]) (q := 85) (rest := []) dL_law_620 ov_mX7_harm lk_RL_192 (by decide) (by decide) rfl rfl (Nat.le_of_ble_eq_true rfl) (tq_85 hG) rfl (VM_X7_harm G fu hG (gx G (Int32.toNatClampNeg (v4 + 1))) (gx G (Int32.toNatClampNeg (v4 + 2))) (gx G (Int32.toNatClampNeg (v4 + 3))) (gx G (Int32.toNatClampNeg (v4 + 4))) x56.2 _ y63) ?_
  refine V_istore (lv2 := [some (.null), some (.ref 0), some (.ref 85), some (.ref 128), some (.int v4), some (.int x56.1), some (.int x62.1), none]) dL_law_623 (by decide) rfl ?_
  refine V_aload_n dL_law_625 rfl ?_
  obtain ⟨x64, y65, h⟩ := bi_o h
  refine V_callV (as := []) (q := 85) (rest := []) dL_law_626 ov_mX7_thrown lk_RL_175 (by decide) (by decide) rfl rfl (Nat.le_of_ble_eq_true rfl) (tq_85 hG) rfl (VM_X7_thrown G x62.2 hG _ y65) ?_
  refine V_iload dL_law_629 rfl ?_
  by_cases c631 : x64 = x56.1
  · rw [if_pos c631] at h
    refine V_icmpeq_t (tgt := 636) dL_law_631 (by decide) c631 ?_
    refine V_iload dL_law_636 rfl ?_
    by_cases c638 : x56.1 = 0
    · rw [if_pos c638] at h
      refine V_ifne_f (tgt := 653) dL_law_638 (by decide) c638 ?_
      refine V_aload_n dL_law_641 rfl ?_
      refine V_iconst (v := 0) dL_law_642 rfl ?_
      obtain ⟨g66, h⟩ := gu_o h
      refine V_laload dL_law_643 (tq_128 hG) (ib_in g66) ?_
      refine V_iload dL_law_644 rfl ?_
      refine V_i2l dL_law_646 ?_
      refine V_lcmp dL_law_647 ?_
      by_cases c648 : (x62.2.2.1 128 (Int32.toNatClampNeg 0)) = ((x62.1 : Int32).toInt64)
      · rw [if_pos c648] at h
        refine V_ifeq_t (tgt := 653) dL_law_648 (by decide) ((lc_eq (x62.2.2.1 128 (Int32.toNatClampNeg 0)) ((x62.1 : Int32).toInt64)).mpr c648) ?_
        exact V_wk [true, true, true, true, true, false, false, false] rfl (T_L_law_653 G fu hG k23 hk23 _ _ _ h)
      · rw [if_neg c648] at h
        refine V_ifeq_f (tgt := 653) dL_law_648 (by decide) (fun z => c648 ((lc_eq (x62.2.2.1 128 (Int32.toNatClampNeg 0)) ((x62.1 : Int32).toInt64)).mp z)) ?_
        refine V_iconst (v := 0) dL_law_651 rfl ?_
        cases h
        exact V_zret rfl (by decide) dL_law_652
    · rw [if_neg c638] at h
      refine V_ifne_t (tgt := 653) dL_law_638 (by decide) c638 ?_
      exact V_wk [true, true, true, true, true, false, false, false] rfl (T_L_law_653 G fu hG k23 hk23 _ _ _ h)
  · rw [if_neg c631] at h
    refine V_icmpeq_f (tgt := 636) dL_law_631 (by decide) c631 ?_
    refine V_iconst (v := 0) dL_law_634 rfl ?_
    cases h
    exact V_zret rfl (by decide) dL_law_635
def D_L_law_720 (G : GX) (fu : Nat)  (k23 : Int32 → Mem → Option (Bool × Mem)) (v4 : Int32) (μ : Mem) : Option (Bool × Mem) :=
  D_L_law_3740 G fu k23 v4 μ
set_option maxRecDepth 20000 in
theorem T_L_law_720 (G : GX) (fu : Nat)  (hG : gt G = tbl) (k23 : Int32 → Mem → Option (Bool × Mem)) (hk23 : ∀ (v4 : Int32) (μ : Mem) (r : (Bool × Mem)), k23 v4 μ = some r → V G mL_law 23 [some (.null), some (.ref 0), some (.ref 85), some (.ref 128), some (.int v4), none, none, none] [] μ (.inl (some (.int (b2i r.1)))) (r.2)) : ∀ (v4 : Int32) (μ : Mem) (r : (Bool × Mem)) , D_L_law_720 G fu k23 v4 μ = some r → V G mL_law 720 [some (.null), some (.ref 0), some (.ref 85), some (.ref 128), some (.int v4), none, none, none] [] μ (.inl (some (.int (b2i r.1)))) (r.2) := by
  intro v4 μ r h
  unfold D_L_law_720 at h
  refine V_goto (tgt := 3740) dL_law_720 (by decide) ?_
  exact V_wk [true, true, true, true, true, false, false, false] rfl (T_L_law_3740 G fu hG k23 hk23 _ _ _ h)
def D_L_law_656 (G : GX) (fu : Nat)  (k23 : Int32 → Mem → Option (Bool × Mem)) (v4 : Int32) (μ : Mem) : Option (Bool × Mem) :=
  gu (ib (v4 + 1) (gn G)) <|
  gu (ib (v4 + 2) (gn G)) <|
  (D_L_grow_0 fu (gx G (Int32.toNatClampNeg (v4 + 1))) (gx G (Int32.toNatClampNeg (v4 + 2))) μ).bind fun x69 =>
  gu (ib (v4 + 1) (gn G)) <|
  gu (ib (v4 + 2) (gn G)) <|
  (D_X7_grow_0 fu (gx G (Int32.toNatClampNeg (v4 + 1))) (gx G (Int32.toNatClampNeg (v4 + 2))) x69.2).bind fun x73 =>
  (D_X7_thrown_0 x73.2).bind fun x75 =>
  if x75 = x69.1 then
    if x69.1 = 0 then
      gu (ib 0 1) <|
      if (x73.2.2.1 128 (Int32.toNatClampNeg 0)) = x73.1 then
        D_L_law_720 G fu k23 v4 x73.2
      else
        some (false, x73.2)
    else
      D_L_law_720 G fu k23 v4 x73.2
  else
    some (false, x73.2)
set_option maxRecDepth 20000 in
theorem T_L_law_656 (G : GX) (fu : Nat)  (hG : gt G = tbl) (k23 : Int32 → Mem → Option (Bool × Mem)) (hk23 : ∀ (v4 : Int32) (μ : Mem) (r : (Bool × Mem)), k23 v4 μ = some r → V G mL_law 23 [some (.null), some (.ref 0), some (.ref 85), some (.ref 128), some (.int v4), none, none, none] [] μ (.inl (some (.int (b2i r.1)))) (r.2)) : ∀ (v4 : Int32) (μ : Mem) (r : (Bool × Mem)) , D_L_law_656 G fu k23 v4 μ = some r → V G mL_law 656 [some (.null), some (.ref 0), some (.ref 85), some (.ref 128), some (.int v4), none, none, none] [] μ (.inl (some (.int (b2i r.1)))) (r.2) := by
  intro v4 μ r h
  unfold D_L_law_656 at h
  refine V_aload_n dL_law_656 rfl ?_
  refine V_aloadS_n dL_law_657 rfl ?_
  refine V_iload dL_law_658 rfl ?_
  refine V_iconst (v := 1) dL_law_660 rfl ?_
  refine V_iadd dL_law_661 ?_
  obtain ⟨g67, h⟩ := gu_o h
  refine V_sload dL_law_662 (ib_in g67) ?_
  refine V_aloadS_n dL_law_663 rfl ?_
  refine V_iload dL_law_664 rfl ?_
  refine V_iconst (v := 2) dL_law_666 rfl ?_
  refine V_iadd dL_law_667 ?_
  obtain ⟨g68, h⟩ := gu_o h
  refine V_sload dL_law_668 (ib_in g68) ?_
  refine V_aload_n dL_law_669 rfl ?_
  obtain ⟨x69, y70, h⟩ := bi_o h
  refine V_callSX (as := [.ref 0, .int (gx G (Int32.toNatClampNeg (v4 + 1))), .int (gx G (Int32.toNatClampNeg (v4 + 2))), .ref 128]) (rest := []) dL_law_670 os_mL_grow rfl lk_RL_193 (by decide) (by decide) rfl rfl (Nat.le_of_ble_eq_true rfl) (VM_L_grow G fu hG (gx G (Int32.toNatClampNeg (v4 + 1))) (gx G (Int32.toNatClampNeg (v4 + 2))) μ _ y70) ?_
  refine V_istore (lv2 := [some (.null), some (.ref 0), some (.ref 85), some (.ref 128), some (.int v4), some (.int x69.1), none, none]) dL_law_673 (by decide) rfl ?_
  refine V_aload_n dL_law_675 rfl ?_
  refine V_aloadS_n dL_law_676 rfl ?_
  refine V_iload dL_law_677 rfl ?_
  refine V_iconst (v := 1) dL_law_679 rfl ?_
  refine V_iadd dL_law_680 ?_
  obtain ⟨g71, h⟩ := gu_o h
  refine V_sload dL_law_681 (ib_in g71) ?_
  refine V_aloadS_n dL_law_682 rfl ?_
  refine V_iload dL_law_683 rfl ?_
  refine V_iconst (v := 2) dL_law_685 rfl ?_
  refine V_iadd dL_law_686 ?_
  obtain ⟨g72, h⟩ := gu_o h
  refine V_sload dL_law_687 (ib_in g72) ?_
  obtain ⟨x73, y74, h⟩ := bi_o h
  refine V_callV (as := [.int (gx G (Int32.toNatClampNeg (v4 + 1))), .int (gx G (Int32.toNatClampNeg (v4 + 2)))]) (q := 85) (rest := []) dL_law_688 ov_mX7_grow lk_RL_196 (by decide) (by decide) rfl rfl (Nat.le_of_ble_eq_true rfl) (tq_85 hG) rfl (VM_X7_grow G fu hG (gx G (Int32.toNatClampNeg (v4 + 1))) (gx G (Int32.toNatClampNeg (v4 + 2))) x69.2 _ y74) ?_
  refine V_lstore (lv2 := [some (.null), some (.ref 0), some (.ref 85), some (.ref 128), some (.int v4), some (.int x69.1), some (.long x73.1), none]) dL_law_691 (by decide) rfl ?_
  refine V_aload_n dL_law_693 rfl ?_
  obtain ⟨x75, y76, h⟩ := bi_o h
  refine V_callV (as := []) (q := 85) (rest := []) dL_law_694 ov_mX7_thrown lk_RL_175 (by decide) (by decide) rfl rfl (Nat.le_of_ble_eq_true rfl) (tq_85 hG) rfl (VM_X7_thrown G x73.2 hG _ y76) ?_
  refine V_iload dL_law_697 rfl ?_
  by_cases c699 : x75 = x69.1
  · rw [if_pos c699] at h
    refine V_icmpeq_t (tgt := 704) dL_law_699 (by decide) c699 ?_
    refine V_iload dL_law_704 rfl ?_
    by_cases c706 : x69.1 = 0
    · rw [if_pos c706] at h
      refine V_ifne_f (tgt := 720) dL_law_706 (by decide) c706 ?_
      refine V_aload_n dL_law_709 rfl ?_
      refine V_iconst (v := 0) dL_law_710 rfl ?_
      obtain ⟨g77, h⟩ := gu_o h
      refine V_laload dL_law_711 (tq_128 hG) (ib_in g77) ?_
      refine V_lload dL_law_712 rfl ?_
      refine V_lcmp dL_law_714 ?_
      by_cases c715 : (x73.2.2.1 128 (Int32.toNatClampNeg 0)) = x73.1
      · rw [if_pos c715] at h
        refine V_ifeq_t (tgt := 720) dL_law_715 (by decide) ((lc_eq (x73.2.2.1 128 (Int32.toNatClampNeg 0)) x73.1).mpr c715) ?_
        exact V_wk [true, true, true, true, true, false, false, false] rfl (T_L_law_720 G fu hG k23 hk23 _ _ _ h)
      · rw [if_neg c715] at h
        refine V_ifeq_f (tgt := 720) dL_law_715 (by decide) (fun z => c715 ((lc_eq (x73.2.2.1 128 (Int32.toNatClampNeg 0)) x73.1).mp z)) ?_
        refine V_iconst (v := 0) dL_law_718 rfl ?_
        cases h
        exact V_zret rfl (by decide) dL_law_719
    · rw [if_neg c706] at h
      refine V_ifne_t (tgt := 720) dL_law_706 (by decide) c706 ?_
      exact V_wk [true, true, true, true, true, false, false, false] rfl (T_L_law_720 G fu hG k23 hk23 _ _ _ h)
  · rw [if_neg c699] at h
    refine V_icmpeq_f (tgt := 704) dL_law_699 (by decide) c699 ?_
    refine V_iconst (v := 0) dL_law_702 rfl ?_
    cases h
    exact V_zret rfl (by decide) dL_law_703
def D_L_law_788 (G : GX) (fu : Nat)  (k23 : Int32 → Mem → Option (Bool × Mem)) (v4 : Int32) (μ : Mem) : Option (Bool × Mem) :=
  D_L_law_3740 G fu k23 v4 μ
set_option maxRecDepth 20000 in
theorem T_L_law_788 (G : GX) (fu : Nat)  (hG : gt G = tbl) (k23 : Int32 → Mem → Option (Bool × Mem)) (hk23 : ∀ (v4 : Int32) (μ : Mem) (r : (Bool × Mem)), k23 v4 μ = some r → V G mL_law 23 [some (.null), some (.ref 0), some (.ref 85), some (.ref 128), some (.int v4), none, none, none] [] μ (.inl (some (.int (b2i r.1)))) (r.2)) : ∀ (v4 : Int32) (μ : Mem) (r : (Bool × Mem)) , D_L_law_788 G fu k23 v4 μ = some r → V G mL_law 788 [some (.null), some (.ref 0), some (.ref 85), some (.ref 128), some (.int v4), none, none, none] [] μ (.inl (some (.int (b2i r.1)))) (r.2) := by
  intro v4 μ r h
  unfold D_L_law_788 at h
  refine V_goto (tgt := 3740) dL_law_788 (by decide) ?_
  exact V_wk [true, true, true, true, true, false, false, false] rfl (T_L_law_3740 G fu hG k23 hk23 _ _ _ h)
def D_L_law_723 (G : GX) (fu : Nat)  (k23 : Int32 → Mem → Option (Bool × Mem)) (v4 : Int32) (μ : Mem) : Option (Bool × Mem) :=
  gu (ib (v4 + 1) (gn G)) <|
  gu (ib (v4 + 2) (gn G)) <|
  (D_L_settle_0 fu (gx G (Int32.toNatClampNeg (v4 + 1))) (gx G (Int32.toNatClampNeg (v4 + 2))) μ).bind fun x80 =>
  gu (ib (v4 + 1) (gn G)) <|
  gu (ib (v4 + 2) (gn G)) <|
  (D_X7_settle_0 fu (gx G (Int32.toNatClampNeg (v4 + 1))) (gx G (Int32.toNatClampNeg (v4 + 2))) x80.2).bind fun x84 =>
  (D_X7_thrown_0 x84.2).bind fun x86 =>
  if x86 = x80.1 then
    if x80.1 = 0 then
      gu (ib 0 1) <|
      if (x84.2.2.1 128 (Int32.toNatClampNeg 0)) = ((x84.1 : Int32).toInt64) then
        D_L_law_788 G fu k23 v4 x84.2
      else
        some (false, x84.2)
    else
      D_L_law_788 G fu k23 v4 x84.2
  else
    some (false, x84.2)
set_option maxRecDepth 20000 in
theorem T_L_law_723 (G : GX) (fu : Nat)  (hG : gt G = tbl) (k23 : Int32 → Mem → Option (Bool × Mem)) (hk23 : ∀ (v4 : Int32) (μ : Mem) (r : (Bool × Mem)), k23 v4 μ = some r → V G mL_law 23 [some (.null), some (.ref 0), some (.ref 85), some (.ref 128), some (.int v4), none, none, none] [] μ (.inl (some (.int (b2i r.1)))) (r.2)) : ∀ (v4 : Int32) (μ : Mem) (r : (Bool × Mem)) , D_L_law_723 G fu k23 v4 μ = some r → V G mL_law 723 [some (.null), some (.ref 0), some (.ref 85), some (.ref 128), some (.int v4), none, none, none] [] μ (.inl (some (.int (b2i r.1)))) (r.2) := by
  intro v4 μ r h
  unfold D_L_law_723 at h
  refine V_aload_n dL_law_723 rfl ?_
  refine V_aloadS_n dL_law_724 rfl ?_
  refine V_iload dL_law_725 rfl ?_
  refine V_iconst (v := 1) dL_law_727 rfl ?_
  refine V_iadd dL_law_728 ?_
  obtain ⟨g78, h⟩ := gu_o h
  refine V_sload dL_law_729 (ib_in g78) ?_
  refine V_aloadS_n dL_law_730 rfl ?_
  refine V_iload dL_law_731 rfl ?_
  refine V_iconst (v := 2) dL_law_733 rfl ?_
  refine V_iadd dL_law_734 ?_
  obtain ⟨g79, h⟩ := gu_o h
  refine V_sload dL_law_735 (ib_in g79) ?_
  refine V_aload_n dL_law_736 rfl ?_
  obtain ⟨x80, y81, h⟩ := bi_o h
  refine V_callSX (as := [.ref 0, .int (gx G (Int32.toNatClampNeg (v4 + 1))), .int (gx G (Int32.toNatClampNeg (v4 + 2))), .ref 128]) (rest := []) dL_law_737 os_mL_settle rfl lk_RL_197 (by decide) (by decide) rfl rfl (Nat.le_of_ble_eq_true rfl) (VM_L_settle G fu hG (gx G (Int32.toNatClampNeg (v4 + 1))) (gx G (Int32.toNatClampNeg (v4 + 2))) μ _ y81) ?_
  refine V_istore (lv2 := [some (.null), some (.ref 0), some (.ref 85), some (.ref 128), some (.int v4), some (.int x80.1), none, none]) dL_law_740 (by decide) rfl ?_
  refine V_aload_n dL_law_742 rfl ?_
  refine V_aloadS_n dL_law_743 rfl ?_
  refine V_iload dL_law_744 rfl ?_
  refine V_iconst (v := 1) dL_law_746 rfl ?_
  refine V_iadd dL_law_747 ?_
  obtain ⟨g82, h⟩ := gu_o h
  refine V_sload dL_law_748 (ib_in g82) ?_
  refine V_aloadS_n dL_law_749 rfl ?_
  refine V_iload dL_law_750 rfl ?_
  refine V_iconst (v := 2) dL_law_752 rfl ?_
  refine V_iadd dL_law_753 ?_
  obtain ⟨g83, h⟩ := gu_o h
  refine V_sload dL_law_754 (ib_in g83) ?_
  obtain ⟨x84, y85, h⟩ := bi_o h
  refine V_callV (as := [.int (gx G (Int32.toNatClampNeg (v4 + 1))), .int (gx G (Int32.toNatClampNeg (v4 + 2)))]) (q := 85) (rest := []) dL_law_755 ov_mX7_settle lk_RL_199 (by decide) (by decide) rfl rfl (Nat.le_of_ble_eq_true rfl) (tq_85 hG) rfl (VM_X7_settle G fu hG (gx G (Int32.toNatClampNeg (v4 + 1))) (gx G (Int32.toNatClampNeg (v4 + 2))) x80.2 _ y85) ?_
  refine V_istore (lv2 := [some (.null), some (.ref 0), some (.ref 85), some (.ref 128), some (.int v4), some (.int x80.1), some (.int x84.1), none]) dL_law_758 (by decide) rfl ?_
  refine V_aload_n dL_law_760 rfl ?_
  obtain ⟨x86, y87, h⟩ := bi_o h
  refine V_callV (as := []) (q := 85) (rest := []) dL_law_761 ov_mX7_thrown lk_RL_175 (by decide) (by decide) rfl rfl (Nat.le_of_ble_eq_true rfl) (tq_85 hG) rfl (VM_X7_thrown G x84.2 hG _ y87) ?_
  refine V_iload dL_law_764 rfl ?_
  by_cases c766 : x86 = x80.1
  · rw [if_pos c766] at h
    refine V_icmpeq_t (tgt := 771) dL_law_766 (by decide) c766 ?_
    refine V_iload dL_law_771 rfl ?_
    by_cases c773 : x80.1 = 0
    · rw [if_pos c773] at h
      refine V_ifne_f (tgt := 788) dL_law_773 (by decide) c773 ?_
      refine V_aload_n dL_law_776 rfl ?_
      refine V_iconst (v := 0) dL_law_777 rfl ?_
      obtain ⟨g88, h⟩ := gu_o h
      refine V_laload dL_law_778 (tq_128 hG) (ib_in g88) ?_
      refine V_iload dL_law_779 rfl ?_
      refine V_i2l dL_law_781 ?_
      refine V_lcmp dL_law_782 ?_
      by_cases c783 : (x84.2.2.1 128 (Int32.toNatClampNeg 0)) = ((x84.1 : Int32).toInt64)
      · rw [if_pos c783] at h
        refine V_ifeq_t (tgt := 788) dL_law_783 (by decide) ((lc_eq (x84.2.2.1 128 (Int32.toNatClampNeg 0)) ((x84.1 : Int32).toInt64)).mpr c783) ?_
        exact V_wk [true, true, true, true, true, false, false, false] rfl (T_L_law_788 G fu hG k23 hk23 _ _ _ h)
      · rw [if_neg c783] at h
        refine V_ifeq_f (tgt := 788) dL_law_783 (by decide) (fun z => c783 ((lc_eq (x84.2.2.1 128 (Int32.toNatClampNeg 0)) ((x84.1 : Int32).toInt64)).mp z)) ?_
        refine V_iconst (v := 0) dL_law_786 rfl ?_
        cases h
        exact V_zret rfl (by decide) dL_law_787
    · rw [if_neg c773] at h
      refine V_ifne_t (tgt := 788) dL_law_773 (by decide) c773 ?_
      exact V_wk [true, true, true, true, true, false, false, false] rfl (T_L_law_788 G fu hG k23 hk23 _ _ _ h)
  · rw [if_neg c766] at h
    refine V_icmpeq_f (tgt := 771) dL_law_766 (by decide) c766 ?_
    refine V_iconst (v := 0) dL_law_769 rfl ?_
    cases h
    exact V_zret rfl (by decide) dL_law_770
def D_L_law_844 (G : GX) (fu : Nat)  (k23 : Int32 → Mem → Option (Bool × Mem)) (v4 : Int32) (μ : Mem) : Option (Bool × Mem) :=
  D_L_law_3740 G fu k23 v4 μ
set_option maxRecDepth 20000 in
theorem T_L_law_844 (G : GX) (fu : Nat)  (hG : gt G = tbl) (k23 : Int32 → Mem → Option (Bool × Mem)) (hk23 : ∀ (v4 : Int32) (μ : Mem) (r : (Bool × Mem)), k23 v4 μ = some r → V G mL_law 23 [some (.null), some (.ref 0), some (.ref 85), some (.ref 128), some (.int v4), none, none, none] [] μ (.inl (some (.int (b2i r.1)))) (r.2)) : ∀ (v4 : Int32) (μ : Mem) (r : (Bool × Mem)) , D_L_law_844 G fu k23 v4 μ = some r → V G mL_law 844 [some (.null), some (.ref 0), some (.ref 85), some (.ref 128), some (.int v4), none, none, none] [] μ (.inl (some (.int (b2i r.1)))) (r.2) := by
  intro v4 μ r h
  unfold D_L_law_844 at h
  refine V_goto (tgt := 3740) dL_law_844 (by decide) ?_
  exact V_wk [true, true, true, true, true, false, false, false] rfl (T_L_law_3740 G fu hG k23 hk23 _ _ _ h)
def D_L_law_791 (G : GX) (fu : Nat)  (k23 : Int32 → Mem → Option (Bool × Mem)) (v4 : Int32) (μ : Mem) : Option (Bool × Mem) :=
  gu (ib (v4 + 1) (gn G)) <|
  (D_L_fall_0 fu (gx G (Int32.toNatClampNeg (v4 + 1))) μ).bind fun x90 =>
  gu (ib (v4 + 1) (gn G)) <|
  (D_X7_fall_0 fu (gx G (Int32.toNatClampNeg (v4 + 1))) x90.2).bind fun x93 =>
  (D_X7_thrown_0 x93.2).bind fun x95 =>
  if x95 = x90.1 then
    if x90.1 = 0 then
      gu (ib 0 1) <|
      if (x93.2.2.1 128 (Int32.toNatClampNeg 0)) = ((x93.1 : Int32).toInt64) then
        D_L_law_844 G fu k23 v4 x93.2
      else
        some (false, x93.2)
    else
      D_L_law_844 G fu k23 v4 x93.2
  else
    some (false, x93.2)
set_option maxRecDepth 20000 in
theorem T_L_law_791 (G : GX) (fu : Nat)  (hG : gt G = tbl) (k23 : Int32 → Mem → Option (Bool × Mem)) (hk23 : ∀ (v4 : Int32) (μ : Mem) (r : (Bool × Mem)), k23 v4 μ = some r → V G mL_law 23 [some (.null), some (.ref 0), some (.ref 85), some (.ref 128), some (.int v4), none, none, none] [] μ (.inl (some (.int (b2i r.1)))) (r.2)) : ∀ (v4 : Int32) (μ : Mem) (r : (Bool × Mem)) , D_L_law_791 G fu k23 v4 μ = some r → V G mL_law 791 [some (.null), some (.ref 0), some (.ref 85), some (.ref 128), some (.int v4), none, none, none] [] μ (.inl (some (.int (b2i r.1)))) (r.2) := by
  intro v4 μ r h
  unfold D_L_law_791 at h
  refine V_aload_n dL_law_791 rfl ?_
  refine V_aloadS_n dL_law_792 rfl ?_
  refine V_iload dL_law_793 rfl ?_
  refine V_iconst (v := 1) dL_law_795 rfl ?_
  refine V_iadd dL_law_796 ?_
  obtain ⟨g89, h⟩ := gu_o h
  refine V_sload dL_law_797 (ib_in g89) ?_
  refine V_aload_n dL_law_798 rfl ?_
  obtain ⟨x90, y91, h⟩ := bi_o h
  refine V_callSX (as := [.ref 0, .int (gx G (Int32.toNatClampNeg (v4 + 1))), .ref 128]) (rest := []) dL_law_799 os_mL_fall rfl lk_RL_200 (by decide) (by decide) rfl rfl (Nat.le_of_ble_eq_true rfl) (VM_L_fall G fu hG (gx G (Int32.toNatClampNeg (v4 + 1))) μ _ y91) ?_
  refine V_istore (lv2 := [some (.null), some (.ref 0), some (.ref 85), some (.ref 128), some (.int v4), some (.int x90.1), none, none]) dL_law_802 (by decide) rfl ?_
  refine V_aload_n dL_law_804 rfl ?_
  refine V_aloadS_n dL_law_805 rfl ?_
  refine V_iload dL_law_806 rfl ?_
  refine V_iconst (v := 1) dL_law_808 rfl ?_
  refine V_iadd dL_law_809 ?_
  obtain ⟨g92, h⟩ := gu_o h
  refine V_sload dL_law_810 (ib_in g92) ?_
  obtain ⟨x93, y94, h⟩ := bi_o h
  refine V_callV (as := [.int (gx G (Int32.toNatClampNeg (v4 + 1)))]) (q := 85) (rest := []) dL_law_811 ov_mX7_fall lk_RL_202 (by decide) (by decide) rfl rfl (Nat.le_of_ble_eq_true rfl) (tq_85 hG) rfl (VM_X7_fall G fu hG (gx G (Int32.toNatClampNeg (v4 + 1))) x90.2 _ y94) ?_
  refine V_istore (lv2 := [some (.null), some (.ref 0), some (.ref 85), some (.ref 128), some (.int v4), some (.int x90.1), some (.int x93.1), none]) dL_law_814 (by decide) rfl ?_
  refine V_aload_n dL_law_816 rfl ?_
  obtain ⟨x95, y96, h⟩ := bi_o h
  refine V_callV (as := []) (q := 85) (rest := []) dL_law_817 ov_mX7_thrown lk_RL_175 (by decide) (by decide) rfl rfl (Nat.le_of_ble_eq_true rfl) (tq_85 hG) rfl (VM_X7_thrown G x93.2 hG _ y96) ?_
  refine V_iload dL_law_820 rfl ?_
  by_cases c822 : x95 = x90.1
  · rw [if_pos c822] at h
    refine V_icmpeq_t (tgt := 827) dL_law_822 (by decide) c822 ?_
    refine V_iload dL_law_827 rfl ?_
    by_cases c829 : x90.1 = 0
    · rw [if_pos c829] at h
      refine V_ifne_f (tgt := 844) dL_law_829 (by decide) c829 ?_
      refine V_aload_n dL_law_832 rfl ?_
      refine V_iconst (v := 0) dL_law_833 rfl ?_
      obtain ⟨g97, h⟩ := gu_o h
      refine V_laload dL_law_834 (tq_128 hG) (ib_in g97) ?_
      refine V_iload dL_law_835 rfl ?_
      refine V_i2l dL_law_837 ?_
      refine V_lcmp dL_law_838 ?_
      by_cases c839 : (x93.2.2.1 128 (Int32.toNatClampNeg 0)) = ((x93.1 : Int32).toInt64)
      · rw [if_pos c839] at h
        refine V_ifeq_t (tgt := 844) dL_law_839 (by decide) ((lc_eq (x93.2.2.1 128 (Int32.toNatClampNeg 0)) ((x93.1 : Int32).toInt64)).mpr c839) ?_
        exact V_wk [true, true, true, true, true, false, false, false] rfl (T_L_law_844 G fu hG k23 hk23 _ _ _ h)
      · rw [if_neg c839] at h
        refine V_ifeq_f (tgt := 844) dL_law_839 (by decide) (fun z => c839 ((lc_eq (x93.2.2.1 128 (Int32.toNatClampNeg 0)) ((x93.1 : Int32).toInt64)).mp z)) ?_
        refine V_iconst (v := 0) dL_law_842 rfl ?_
        cases h
        exact V_zret rfl (by decide) dL_law_843
    · rw [if_neg c829] at h
      refine V_ifne_t (tgt := 844) dL_law_829 (by decide) c829 ?_
      exact V_wk [true, true, true, true, true, false, false, false] rfl (T_L_law_844 G fu hG k23 hk23 _ _ _ h)
  · rw [if_neg c822] at h
    refine V_icmpeq_f (tgt := 827) dL_law_822 (by decide) c822 ?_
    refine V_iconst (v := 0) dL_law_825 rfl ?_
    cases h
    exact V_zret rfl (by decide) dL_law_826
def D_L_law_899 (G : GX) (fu : Nat)  (k23 : Int32 → Mem → Option (Bool × Mem)) (v4 : Int32) (μ : Mem) : Option (Bool × Mem) :=
  D_L_law_3740 G fu k23 v4 μ
set_option maxRecDepth 20000 in
theorem T_L_law_899 (G : GX) (fu : Nat)  (hG : gt G = tbl) (k23 : Int32 → Mem → Option (Bool × Mem)) (hk23 : ∀ (v4 : Int32) (μ : Mem) (r : (Bool × Mem)), k23 v4 μ = some r → V G mL_law 23 [some (.null), some (.ref 0), some (.ref 85), some (.ref 128), some (.int v4), none, none, none] [] μ (.inl (some (.int (b2i r.1)))) (r.2)) : ∀ (v4 : Int32) (μ : Mem) (r : (Bool × Mem)) , D_L_law_899 G fu k23 v4 μ = some r → V G mL_law 899 [some (.null), some (.ref 0), some (.ref 85), some (.ref 128), some (.int v4), none, none, none] [] μ (.inl (some (.int (b2i r.1)))) (r.2) := by
  intro v4 μ r h
  unfold D_L_law_899 at h
  refine V_goto (tgt := 3740) dL_law_899 (by decide) ?_
  exact V_wk [true, true, true, true, true, false, false, false] rfl (T_L_law_3740 G fu hG k23 hk23 _ _ _ h)
def D_L_law_847 (G : GX) (fu : Nat)  (k23 : Int32 → Mem → Option (Bool × Mem)) (v4 : Int32) (μ : Mem) : Option (Bool × Mem) :=
  gu (ib (v4 + 1) (gn G)) <|
  (D_L_reopen_0 fu (gx G (Int32.toNatClampNeg (v4 + 1))) μ).bind fun x99 =>
  gu (ib (v4 + 1) (gn G)) <|
  (D_X7_reopen_0 fu (gx G (Int32.toNatClampNeg (v4 + 1))) x99.2).bind fun x102 =>
  (D_X7_thrown_0 x102.2).bind fun x104 =>
  if x104 = x99.1 then
    if x99.1 = 0 then
      gu (ib 0 1) <|
      if (x102.2.2.1 128 (Int32.toNatClampNeg 0)) = x102.1 then
        D_L_law_899 G fu k23 v4 x102.2
      else
        some (false, x102.2)
    else
      D_L_law_899 G fu k23 v4 x102.2
  else
    some (false, x102.2)
set_option maxRecDepth 20000 in
theorem T_L_law_847 (G : GX) (fu : Nat)  (hG : gt G = tbl) (k23 : Int32 → Mem → Option (Bool × Mem)) (hk23 : ∀ (v4 : Int32) (μ : Mem) (r : (Bool × Mem)), k23 v4 μ = some r → V G mL_law 23 [some (.null), some (.ref 0), some (.ref 85), some (.ref 128), some (.int v4), none, none, none] [] μ (.inl (some (.int (b2i r.1)))) (r.2)) : ∀ (v4 : Int32) (μ : Mem) (r : (Bool × Mem)) , D_L_law_847 G fu k23 v4 μ = some r → V G mL_law 847 [some (.null), some (.ref 0), some (.ref 85), some (.ref 128), some (.int v4), none, none, none] [] μ (.inl (some (.int (b2i r.1)))) (r.2) := by
  intro v4 μ r h
  unfold D_L_law_847 at h
  refine V_aload_n dL_law_847 rfl ?_
  refine V_aloadS_n dL_law_848 rfl ?_
  refine V_iload dL_law_849 rfl ?_
  refine V_iconst (v := 1) dL_law_851 rfl ?_
  refine V_iadd dL_law_852 ?_
  obtain ⟨g98, h⟩ := gu_o h
  refine V_sload dL_law_853 (ib_in g98) ?_
  refine V_aload_n dL_law_854 rfl ?_
  obtain ⟨x99, y100, h⟩ := bi_o h
  refine V_callSX (as := [.ref 0, .int (gx G (Int32.toNatClampNeg (v4 + 1))), .ref 128]) (rest := []) dL_law_855 os_mL_reopen rfl lk_RL_203 (by decide) (by decide) rfl rfl (Nat.le_of_ble_eq_true rfl) (VM_L_reopen G fu hG (gx G (Int32.toNatClampNeg (v4 + 1))) μ _ y100) ?_
  refine V_istore (lv2 := [some (.null), some (.ref 0), some (.ref 85), some (.ref 128), some (.int v4), some (.int x99.1), none, none]) dL_law_858 (by decide) rfl ?_
  refine V_aload_n dL_law_860 rfl ?_
  refine V_aloadS_n dL_law_861 rfl ?_
  refine V_iload dL_law_862 rfl ?_
  refine V_iconst (v := 1) dL_law_864 rfl ?_
  refine V_iadd dL_law_865 ?_
  obtain ⟨g101, h⟩ := gu_o h
  refine V_sload dL_law_866 (ib_in g101) ?_
  obtain ⟨x102, y103, h⟩ := bi_o h
  refine V_callV (as := [.int (gx G (Int32.toNatClampNeg (v4 + 1)))]) (q := 85) (rest := []) dL_law_867 ov_mX7_reopen lk_RL_205 (by decide) (by decide) rfl rfl (Nat.le_of_ble_eq_true rfl) (tq_85 hG) rfl (VM_X7_reopen G fu hG (gx G (Int32.toNatClampNeg (v4 + 1))) x99.2 _ y103) ?_
  refine V_lstore (lv2 := [some (.null), some (.ref 0), some (.ref 85), some (.ref 128), some (.int v4), some (.int x99.1), some (.long x102.1), none]) dL_law_870 (by decide) rfl ?_
  refine V_aload_n dL_law_872 rfl ?_
  obtain ⟨x104, y105, h⟩ := bi_o h
  refine V_callV (as := []) (q := 85) (rest := []) dL_law_873 ov_mX7_thrown lk_RL_175 (by decide) (by decide) rfl rfl (Nat.le_of_ble_eq_true rfl) (tq_85 hG) rfl (VM_X7_thrown G x102.2 hG _ y105) ?_
  refine V_iload dL_law_876 rfl ?_
  by_cases c878 : x104 = x99.1
  · rw [if_pos c878] at h
    refine V_icmpeq_t (tgt := 883) dL_law_878 (by decide) c878 ?_
    refine V_iload dL_law_883 rfl ?_
    by_cases c885 : x99.1 = 0
    · rw [if_pos c885] at h
      refine V_ifne_f (tgt := 899) dL_law_885 (by decide) c885 ?_
      refine V_aload_n dL_law_888 rfl ?_
      refine V_iconst (v := 0) dL_law_889 rfl ?_
      obtain ⟨g106, h⟩ := gu_o h
      refine V_laload dL_law_890 (tq_128 hG) (ib_in g106) ?_
      refine V_lload dL_law_891 rfl ?_
      refine V_lcmp dL_law_893 ?_
      by_cases c894 : (x102.2.2.1 128 (Int32.toNatClampNeg 0)) = x102.1
      · rw [if_pos c894] at h
        refine V_ifeq_t (tgt := 899) dL_law_894 (by decide) ((lc_eq (x102.2.2.1 128 (Int32.toNatClampNeg 0)) x102.1).mpr c894) ?_
        exact V_wk [true, true, true, true, true, false, false, false] rfl (T_L_law_899 G fu hG k23 hk23 _ _ _ h)
      · rw [if_neg c894] at h
        refine V_ifeq_f (tgt := 899) dL_law_894 (by decide) (fun z => c894 ((lc_eq (x102.2.2.1 128 (Int32.toNatClampNeg 0)) x102.1).mp z)) ?_
        refine V_iconst (v := 0) dL_law_897 rfl ?_
        cases h
        exact V_zret rfl (by decide) dL_law_898
    · rw [if_neg c885] at h
      refine V_ifne_t (tgt := 899) dL_law_885 (by decide) c885 ?_
      exact V_wk [true, true, true, true, true, false, false, false] rfl (T_L_law_899 G fu hG k23 hk23 _ _ _ h)
  · rw [if_neg c878] at h
    refine V_icmpeq_f (tgt := 883) dL_law_878 (by decide) c878 ?_
    refine V_iconst (v := 0) dL_law_881 rfl ?_
    cases h
    exact V_zret rfl (by decide) dL_law_882
def D_L_law_902 (G : GX) (fu : Nat)  (k23 : Int32 → Mem → Option (Bool × Mem)) (v4 : Int32) (μ : Mem) : Option (Bool × Mem) :=
  (D_X6_back_0 fu μ).bind fun x107 =>
  (D_X7_back_0 fu x107.2).bind fun x109 =>
  if x107.1 = x109.1 then
    D_L_law_3740 G fu k23 v4 x109.2
  else
    some (false, x109.2)
set_option maxRecDepth 20000 in
theorem T_L_law_902 (G : GX) (fu : Nat)  (hG : gt G = tbl) (k23 : Int32 → Mem → Option (Bool × Mem)) (hk23 : ∀ (v4 : Int32) (μ : Mem) (r : (Bool × Mem)), k23 v4 μ = some r → V G mL_law 23 [some (.null), some (.ref 0), some (.ref 85), some (.ref 128), some (.int v4), none, none, none] [] μ (.inl (some (.int (b2i r.1)))) (r.2)) : ∀ (v4 : Int32) (μ : Mem) (r : (Bool × Mem)) , D_L_law_902 G fu k23 v4 μ = some r → V G mL_law 902 [some (.null), some (.ref 0), some (.ref 85), some (.ref 128), some (.int v4), none, none, none] [] μ (.inl (some (.int (b2i r.1)))) (r.2) := by
  intro v4 μ r h
  unfold D_L_law_902 at h
  refine V_aload_n dL_law_902 rfl ?_
  obtain ⟨x107, y108, h⟩ := bi_o h
  refine V_callV (as := []) (q := 0) (rest := []) dL_law_903 ov_mX6_back lk_RL_206 (by decide) (by decide) rfl rfl (Nat.le_of_ble_eq_true rfl) (tq_0 hG) rfl (VM_X6_back G fu hG μ _ y108) ?_
  refine V_aload_n dL_law_906 rfl ?_
  obtain ⟨x109, y110, h⟩ := bi_o h
  refine V_callV (as := []) (q := 85) (rest := [.int x107.1]) dL_law_907 ov_mX7_back lk_RL_209 (by decide) (by decide) rfl rfl (Nat.le_of_ble_eq_true rfl) (tq_85 hG) rfl (VM_X7_back G fu hG x107.2 _ y110) ?_
  by_cases c910 : x107.1 = x109.1
  · rw [if_pos c910] at h
    refine V_icmpeq_t (tgt := 3740) dL_law_910 (by decide) c910 ?_
    exact V_wk [true, true, true, true, true, false, false, false] rfl (T_L_law_3740 G fu hG k23 hk23 _ _ _ h)
  · rw [if_neg c910] at h
    refine V_icmpeq_f (tgt := 3740) dL_law_910 (by decide) c910 ?_
    refine V_iconst (v := 0) dL_law_913 rfl ?_
    cases h
    exact V_zret rfl (by decide) dL_law_914
def D_L_law_968 (G : GX) (fu : Nat)  (k23 : Int32 → Mem → Option (Bool × Mem)) (v4 : Int32) (μ : Mem) : Option (Bool × Mem) :=
  D_L_law_3740 G fu k23 v4 μ
set_option maxRecDepth 20000 in
theorem T_L_law_968 (G : GX) (fu : Nat)  (hG : gt G = tbl) (k23 : Int32 → Mem → Option (Bool × Mem)) (hk23 : ∀ (v4 : Int32) (μ : Mem) (r : (Bool × Mem)), k23 v4 μ = some r → V G mL_law 23 [some (.null), some (.ref 0), some (.ref 85), some (.ref 128), some (.int v4), none, none, none] [] μ (.inl (some (.int (b2i r.1)))) (r.2)) : ∀ (v4 : Int32) (μ : Mem) (r : (Bool × Mem)) , D_L_law_968 G fu k23 v4 μ = some r → V G mL_law 968 [some (.null), some (.ref 0), some (.ref 85), some (.ref 128), some (.int v4), none, none, none] [] μ (.inl (some (.int (b2i r.1)))) (r.2) := by
  intro v4 μ r h
  unfold D_L_law_968 at h
  refine V_goto (tgt := 3740) dL_law_968 (by decide) ?_
  exact V_wk [true, true, true, true, true, false, false, false] rfl (T_L_law_3740 G fu hG k23 hk23 _ _ _ h)
def D_L_law_915 (G : GX) (fu : Nat)  (k23 : Int32 → Mem → Option (Bool × Mem)) (v4 : Int32) (μ : Mem) : Option (Bool × Mem) :=
  gu (ib (v4 + 1) (gn G)) <|
  (D_L_told_0 fu (gx G (Int32.toNatClampNeg (v4 + 1))) μ).bind fun x112 =>
  gu (ib (v4 + 1) (gn G)) <|
  (D_X7_told_0 fu (gx G (Int32.toNatClampNeg (v4 + 1))) x112.2).bind fun x115 =>
  (D_X7_thrown_0 x115.2).bind fun x117 =>
  if x117 = x112.1 then
    if x112.1 = 0 then
      gu (ib 0 1) <|
      if (x115.2.2.1 128 (Int32.toNatClampNeg 0)) = ((x115.1 : Int32).toInt64) then
        D_L_law_968 G fu k23 v4 x115.2
      else
        some (false, x115.2)
    else
      D_L_law_968 G fu k23 v4 x115.2
  else
    some (false, x115.2)
set_option maxRecDepth 20000 in
theorem T_L_law_915 (G : GX) (fu : Nat)  (hG : gt G = tbl) (k23 : Int32 → Mem → Option (Bool × Mem)) (hk23 : ∀ (v4 : Int32) (μ : Mem) (r : (Bool × Mem)), k23 v4 μ = some r → V G mL_law 23 [some (.null), some (.ref 0), some (.ref 85), some (.ref 128), some (.int v4), none, none, none] [] μ (.inl (some (.int (b2i r.1)))) (r.2)) : ∀ (v4 : Int32) (μ : Mem) (r : (Bool × Mem)) , D_L_law_915 G fu k23 v4 μ = some r → V G mL_law 915 [some (.null), some (.ref 0), some (.ref 85), some (.ref 128), some (.int v4), none, none, none] [] μ (.inl (some (.int (b2i r.1)))) (r.2) := by
  intro v4 μ r h
  unfold D_L_law_915 at h
  refine V_aload_n dL_law_915 rfl ?_
  refine V_aloadS_n dL_law_916 rfl ?_
  refine V_iload dL_law_917 rfl ?_
  refine V_iconst (v := 1) dL_law_919 rfl ?_
  refine V_iadd dL_law_920 ?_
  obtain ⟨g111, h⟩ := gu_o h
  refine V_sload dL_law_921 (ib_in g111) ?_
  refine V_aload_n dL_law_922 rfl ?_
  obtain ⟨x112, y113, h⟩ := bi_o h
  refine V_callSX (as := [.ref 0, .int (gx G (Int32.toNatClampNeg (v4 + 1))), .ref 128]) (rest := []) dL_law_923 os_mL_told rfl lk_RL_210 (by decide) (by decide) rfl rfl (Nat.le_of_ble_eq_true rfl) (VM_L_told G fu hG (gx G (Int32.toNatClampNeg (v4 + 1))) μ _ y113) ?_
  refine V_istore (lv2 := [some (.null), some (.ref 0), some (.ref 85), some (.ref 128), some (.int v4), some (.int x112.1), none, none]) dL_law_926 (by decide) rfl ?_
  refine V_aload_n dL_law_928 rfl ?_
  refine V_aloadS_n dL_law_929 rfl ?_
  refine V_iload dL_law_930 rfl ?_
  refine V_iconst (v := 1) dL_law_932 rfl ?_
  refine V_iadd dL_law_933 ?_
  obtain ⟨g114, h⟩ := gu_o h
  refine V_sload dL_law_934 (ib_in g114) ?_
  obtain ⟨x115, y116, h⟩ := bi_o h
  refine V_callV (as := [.int (gx G (Int32.toNatClampNeg (v4 + 1)))]) (q := 85) (rest := []) dL_law_935 ov_mX7_told lk_RL_212 (by decide) (by decide) rfl rfl (Nat.le_of_ble_eq_true rfl) (tq_85 hG) rfl (VM_X7_told G fu hG (gx G (Int32.toNatClampNeg (v4 + 1))) x112.2 _ y116) ?_
  refine V_istore (lv2 := [some (.null), some (.ref 0), some (.ref 85), some (.ref 128), some (.int v4), some (.int x112.1), some (.int x115.1), none]) dL_law_938 (by decide) rfl ?_
  refine V_aload_n dL_law_940 rfl ?_
  obtain ⟨x117, y118, h⟩ := bi_o h
  refine V_callV (as := []) (q := 85) (rest := []) dL_law_941 ov_mX7_thrown lk_RL_175 (by decide) (by decide) rfl rfl (Nat.le_of_ble_eq_true rfl) (tq_85 hG) rfl (VM_X7_thrown G x115.2 hG _ y118) ?_
  refine V_iload dL_law_944 rfl ?_
  by_cases c946 : x117 = x112.1
  · rw [if_pos c946] at h
    refine V_icmpeq_t (tgt := 951) dL_law_946 (by decide) c946 ?_
    refine V_iload dL_law_951 rfl ?_
    by_cases c953 : x112.1 = 0
    · rw [if_pos c953] at h
      refine V_ifne_f (tgt := 968) dL_law_953 (by decide) c953 ?_
      refine V_aload_n dL_law_956 rfl ?_
      refine V_iconst (v := 0) dL_law_957 rfl ?_
      obtain ⟨g119, h⟩ := gu_o h
      refine V_laload dL_law_958 (tq_128 hG) (ib_in g119) ?_
      refine V_iload dL_law_959 rfl ?_
      refine V_i2l dL_law_961 ?_
      refine V_lcmp dL_law_962 ?_
      by_cases c963 : (x115.2.2.1 128 (Int32.toNatClampNeg 0)) = ((x115.1 : Int32).toInt64)
      · rw [if_pos c963] at h
        refine V_ifeq_t (tgt := 968) dL_law_963 (by decide) ((lc_eq (x115.2.2.1 128 (Int32.toNatClampNeg 0)) ((x115.1 : Int32).toInt64)).mpr c963) ?_
        exact V_wk [true, true, true, true, true, false, false, false] rfl (T_L_law_968 G fu hG k23 hk23 _ _ _ h)
      · rw [if_neg c963] at h
        refine V_ifeq_f (tgt := 968) dL_law_963 (by decide) (fun z => c963 ((lc_eq (x115.2.2.1 128 (Int32.toNatClampNeg 0)) ((x115.1 : Int32).toInt64)).mp z)) ?_
        refine V_iconst (v := 0) dL_law_966 rfl ?_
        cases h
        exact V_zret rfl (by decide) dL_law_967
    · rw [if_neg c953] at h
      refine V_ifne_t (tgt := 968) dL_law_953 (by decide) c953 ?_
      exact V_wk [true, true, true, true, true, false, false, false] rfl (T_L_law_968 G fu hG k23 hk23 _ _ _ h)
  · rw [if_neg c946] at h
    refine V_icmpeq_f (tgt := 951) dL_law_946 (by decide) c946 ?_
    refine V_iconst (v := 0) dL_law_949 rfl ?_
    cases h
    exact V_zret rfl (by decide) dL_law_950
def D_L_law_1036 (G : GX) (fu : Nat)  (k23 : Int32 → Mem → Option (Bool × Mem)) (v4 : Int32) (μ : Mem) : Option (Bool × Mem) :=
  D_L_law_3740 G fu k23 v4 μ
set_option maxRecDepth 20000 in
theorem T_L_law_1036 (G : GX) (fu : Nat)  (hG : gt G = tbl) (k23 : Int32 → Mem → Option (Bool × Mem)) (hk23 : ∀ (v4 : Int32) (μ : Mem) (r : (Bool × Mem)), k23 v4 μ = some r → V G mL_law 23 [some (.null), some (.ref 0), some (.ref 85), some (.ref 128), some (.int v4), none, none, none] [] μ (.inl (some (.int (b2i r.1)))) (r.2)) : ∀ (v4 : Int32) (μ : Mem) (r : (Bool × Mem)) , D_L_law_1036 G fu k23 v4 μ = some r → V G mL_law 1036 [some (.null), some (.ref 0), some (.ref 85), some (.ref 128), some (.int v4), none, none, none] [] μ (.inl (some (.int (b2i r.1)))) (r.2) := by
  intro v4 μ r h
  unfold D_L_law_1036 at h
  refine V_goto (tgt := 3740) dL_law_1036 (by decide) ?_
  exact V_wk [true, true, true, true, true, false, false, false] rfl (T_L_law_3740 G fu hG k23 hk23 _ _ _ h)
def D_L_law_971 (G : GX) (fu : Nat)  (k23 : Int32 → Mem → Option (Bool × Mem)) (v4 : Int32) (μ : Mem) : Option (Bool × Mem) :=
  gu (ib (v4 + 1) (gn G)) <|
  gu (ib (v4 + 2) (gn G)) <|
  (D_L_event_0 (gx G (Int32.toNatClampNeg (v4 + 1))) (gx G (Int32.toNatClampNeg (v4 + 2))) μ).bind fun x122 =>
  gu (ib (v4 + 1) (gn G)) <|
  gu (ib (v4 + 2) (gn G)) <|
  (D_X7_event_0 (gx G (Int32.toNatClampNeg (v4 + 1))) (gx G (Int32.toNatClampNeg (v4 + 2))) x122.2).bind fun x126 =>
  (D_X7_thrown_0 x126.2).bind fun x128 =>
  if x128 = x122.1 then
    if x122.1 = 0 then
      gu (ib 0 1) <|
      if (x126.2.2.1 128 (Int32.toNatClampNeg 0)) = ((x126.1 : Int32).toInt64) then
        D_L_law_1036 G fu k23 v4 x126.2
      else
        some (false, x126.2)
    else
      D_L_law_1036 G fu k23 v4 x126.2
  else
    some (false, x126.2)
set_option maxRecDepth 20000 in
theorem T_L_law_971 (G : GX) (fu : Nat)  (hG : gt G = tbl) (k23 : Int32 → Mem → Option (Bool × Mem)) (hk23 : ∀ (v4 : Int32) (μ : Mem) (r : (Bool × Mem)), k23 v4 μ = some r → V G mL_law 23 [some (.null), some (.ref 0), some (.ref 85), some (.ref 128), some (.int v4), none, none, none] [] μ (.inl (some (.int (b2i r.1)))) (r.2)) : ∀ (v4 : Int32) (μ : Mem) (r : (Bool × Mem)) , D_L_law_971 G fu k23 v4 μ = some r → V G mL_law 971 [some (.null), some (.ref 0), some (.ref 85), some (.ref 128), some (.int v4), none, none, none] [] μ (.inl (some (.int (b2i r.1)))) (r.2) := by
  intro v4 μ r h
  unfold D_L_law_971 at h
  refine V_aload_n dL_law_971 rfl ?_
  refine V_aloadS_n dL_law_972 rfl ?_
  refine V_iload dL_law_973 rfl ?_
  refine V_iconst (v := 1) dL_law_975 rfl ?_
  refine V_iadd dL_law_976 ?_
  obtain ⟨g120, h⟩ := gu_o h
  refine V_sload dL_law_977 (ib_in g120) ?_
  refine V_aloadS_n dL_law_978 rfl ?_
  refine V_iload dL_law_979 rfl ?_
  refine V_iconst (v := 2) dL_law_981 rfl ?_
  refine V_iadd dL_law_982 ?_
  obtain ⟨g121, h⟩ := gu_o h
  refine V_sload dL_law_983 (ib_in g121) ?_
  refine V_aload_n dL_law_984 rfl ?_
  obtain ⟨x122, y123, h⟩ := bi_o h
  refine V_callSX (as := [.ref 0, .int (gx G (Int32.toNatClampNeg (v4 + 1))), .int (gx G (Int32.toNatClampNeg (v4 + 2))), .ref 128]) (rest := []) dL_law_985 os_mL_event rfl lk_RL_213 (by decide) (by decide) rfl rfl (Nat.le_of_ble_eq_true rfl) (VM_L_event G hG (gx G (Int32.toNatClampNeg (v4 + 1))) (gx G (Int32.toNatClampNeg (v4 + 2))) μ _ y123) ?_
  refine V_istore (lv2 := [some (.null), some (.ref 0), some (.ref 85), some (.ref 128), some (.int v4), some (.int x122.1), none, none]) dL_law_988 (by decide) rfl ?_
  refine V_aload_n dL_law_990 rfl ?_
  refine V_aloadS_n dL_law_991 rfl ?_
  refine V_iload dL_law_992 rfl ?_
  refine V_iconst (v := 1) dL_law_994 rfl ?_
  refine V_iadd dL_law_995 ?_
  obtain ⟨g124, h⟩ := gu_o h
  refine V_sload dL_law_996 (ib_in g124) ?_
  refine V_aloadS_n dL_law_997 rfl ?_
  refine V_iload dL_law_998 rfl ?_
  refine V_iconst (v := 2) dL_law_1000 rfl ?_
  refine V_iadd dL_law_1001 ?_
  obtain ⟨g125, h⟩ := gu_o h
  refine V_sload dL_law_1002 (ib_in g125) ?_
  obtain ⟨x126, y127, h⟩ := bi_o h
  refine V_callV (as := [.int (gx G (Int32.toNatClampNeg (v4 + 1))), .int (gx G (Int32.toNatClampNeg (v4 + 2)))]) (q := 85) (rest := []) dL_law_1003 ov_mX7_event lk_RL_215 (by decide) (by decide) rfl rfl (Nat.le_of_ble_eq_true rfl) (tq_85 hG) rfl (VM_X7_event G hG (gx G (Int32.toNatClampNeg (v4 + 1))) (gx G (Int32.toNatClampNeg (v4 + 2))) x122.2 _ y127) ?_
  refine V_istore (lv2 := [some (.null), some (.ref 0), some (.ref 85), some (.ref 128), some (.int v4), some (.int x122.1), some (.int x126.1), none]) dL_law_1006 (by decide) rfl ?_
  refine V_aload_n dL_law_1008 rfl ?_
  obtain ⟨x128, y129, h⟩ := bi_o h
  refine V_callV (as := []) (q := 85) (rest := []) dL_law_1009 ov_mX7_thrown lk_RL_175 (by decide) (by decide) rfl rfl (Nat.le_of_ble_eq_true rfl) (tq_85 hG) rfl (VM_X7_thrown G x126.2 hG _ y129) ?_
  refine V_iload dL_law_1012 rfl ?_
  by_cases c1014 : x128 = x122.1
  · rw [if_pos c1014] at h
    refine V_icmpeq_t (tgt := 1019) dL_law_1014 (by decide) c1014 ?_
    refine V_iload dL_law_1019 rfl ?_
    by_cases c1021 : x122.1 = 0
    · rw [if_pos c1021] at h
      refine V_ifne_f (tgt := 1036) dL_law_1021 (by decide) c1021 ?_
      refine V_aload_n dL_law_1024 rfl ?_
      refine V_iconst (v := 0) dL_law_1025 rfl ?_
      obtain ⟨g130, h⟩ := gu_o h
      refine V_laload dL_law_1026 (tq_128 hG) (ib_in g130) ?_
      refine V_iload dL_law_1027 rfl ?_
      refine V_i2l dL_law_1029 ?_
      refine V_lcmp dL_law_1030 ?_
      by_cases c1031 : (x126.2.2.1 128 (Int32.toNatClampNeg 0)) = ((x126.1 : Int32).toInt64)
      · rw [if_pos c1031] at h
        refine V_ifeq_t (tgt := 1036) dL_law_1031 (by decide) ((lc_eq (x126.2.2.1 128 (Int32.toNatClampNeg 0)) ((x126.1 : Int32).toInt64)).mpr c1031) ?_
        exact V_wk [true, true, true, true, true, false, false, false] rfl (T_L_law_1036 G fu hG k23 hk23 _ _ _ h)
      · rw [if_neg c1031] at h
        refine V_ifeq_f (tgt := 1036) dL_law_1031 (by decide) (fun z => c1031 ((lc_eq (x126.2.2.1 128 (Int32.toNatClampNeg 0)) ((x126.1 : Int32).toInt64)).mp z)) ?_
        refine V_iconst (v := 0) dL_law_1034 rfl ?_
        cases h
        exact V_zret rfl (by decide) dL_law_1035
    · rw [if_neg c1021] at h
      refine V_ifne_t (tgt := 1036) dL_law_1021 (by decide) c1021 ?_
      exact V_wk [true, true, true, true, true, false, false, false] rfl (T_L_law_1036 G fu hG k23 hk23 _ _ _ h)
  · rw [if_neg c1014] at h
    refine V_icmpeq_f (tgt := 1019) dL_law_1014 (by decide) c1014 ?_
    refine V_iconst (v := 0) dL_law_1017 rfl ?_
    cases h
    exact V_zret rfl (by decide) dL_law_1018
def D_L_law_1103 (G : GX) (fu : Nat)  (k23 : Int32 → Mem → Option (Bool × Mem)) (v4 : Int32) (μ : Mem) : Option (Bool × Mem) :=
  D_L_law_3740 G fu k23 v4 μ
set_option maxRecDepth 20000 in
theorem T_L_law_1103 (G : GX) (fu : Nat)  (hG : gt G = tbl) (k23 : Int32 → Mem → Option (Bool × Mem)) (hk23 : ∀ (v4 : Int32) (μ : Mem) (r : (Bool × Mem)), k23 v4 μ = some r → V G mL_law 23 [some (.null), some (.ref 0), some (.ref 85), some (.ref 128), some (.int v4), none, none, none] [] μ (.inl (some (.int (b2i r.1)))) (r.2)) : ∀ (v4 : Int32) (μ : Mem) (r : (Bool × Mem)) , D_L_law_1103 G fu k23 v4 μ = some r → V G mL_law 1103 [some (.null), some (.ref 0), some (.ref 85), some (.ref 128), some (.int v4), none, none, none] [] μ (.inl (some (.int (b2i r.1)))) (r.2) := by
  intro v4 μ r h
  unfold D_L_law_1103 at h
  refine V_goto (tgt := 3740) dL_law_1103 (by decide) ?_
  exact V_wk [true, true, true, true, true, false, false, false] rfl (T_L_law_3740 G fu hG k23 hk23 _ _ _ h)
def D_L_law_1039 (G : GX) (fu : Nat)  (k23 : Int32 → Mem → Option (Bool × Mem)) (v4 : Int32) (μ : Mem) : Option (Bool × Mem) :=
  gu (ib (v4 + 1) (gn G)) <|
  gu (ib (v4 + 2) (gn G)) <|
  (D_L_layer_0 fu (gx G (Int32.toNatClampNeg (v4 + 1))) (gx G (Int32.toNatClampNeg (v4 + 2))) μ).bind fun x133 =>
  gu (ib (v4 + 1) (gn G)) <|
  gu (ib (v4 + 2) (gn G)) <|
  (D_X7_layer_0 fu (gx G (Int32.toNatClampNeg (v4 + 1))) (gx G (Int32.toNatClampNeg (v4 + 2))) x133.2).bind fun x137 =>
  (D_X7_thrown_0 x137.2).bind fun x139 =>
  if x139 = x133.1 then
    if x133.1 = 0 then
      gu (ib 0 1) <|
      if (x137.2.2.1 128 (Int32.toNatClampNeg 0)) = x137.1 then
        D_L_law_1103 G fu k23 v4 x137.2
      else
        some (false, x137.2)
    else
      D_L_law_1103 G fu k23 v4 x137.2
  else
    some (false, x137.2)
set_option maxRecDepth 20000 in
theorem T_L_law_1039 (G : GX) (fu : Nat)  (hG : gt G = tbl) (k23 : Int32 → Mem → Option (Bool × Mem)) (hk23 : ∀ (v4 : Int32) (μ : Mem) (r : (Bool × Mem)), k23 v4 μ = some r → V G mL_law 23 [some (.null), some (.ref 0), some (.ref 85), some (.ref 128), some (.int v4), none, none, none] [] μ (.inl (some (.int (b2i r.1)))) (r.2)) : ∀ (v4 : Int32) (μ : Mem) (r : (Bool × Mem)) , D_L_law_1039 G fu k23 v4 μ = some r → V G mL_law 1039 [some (.null), some (.ref 0), some (.ref 85), some (.ref 128), some (.int v4), none, none, none] [] μ (.inl (some (.int (b2i r.1)))) (r.2) := by
  intro v4 μ r h
  unfold D_L_law_1039 at h
  refine V_aload_n dL_law_1039 rfl ?_
  refine V_aloadS_n dL_law_1040 rfl ?_
  refine V_iload dL_law_1041 rfl ?_
  refine V_iconst (v := 1) dL_law_1043 rfl ?_
  refine V_iadd dL_law_1044 ?_
  obtain ⟨g131, h⟩ := gu_o h
  refine V_sload dL_law_1045 (ib_in g131) ?_
  refine V_aloadS_n dL_law_1046 rfl ?_
  refine V_iload dL_law_1047 rfl ?_
  refine V_iconst (v := 2) dL_law_1049 rfl ?_
  refine V_iadd dL_law_1050 ?_
  obtain ⟨g132, h⟩ := gu_o h
  refine V_sload dL_law_1051 (ib_in g132) ?_
  refine V_aload_n dL_law_1052 rfl ?_
  obtain ⟨x133, y134, h⟩ := bi_o h
  refine V_callSX (as := [.ref 0, .int (gx G (Int32.toNatClampNeg (v4 + 1))), .int (gx G (Int32.toNatClampNeg (v4 + 2))), .ref 128]) (rest := []) dL_law_1053 os_mL_layer rfl lk_RL_216 (by decide) (by decide) rfl rfl (Nat.le_of_ble_eq_true rfl) (VM_L_layer G fu hG (gx G (Int32.toNatClampNeg (v4 + 1))) (gx G (Int32.toNatClampNeg (v4 + 2))) μ _ y134) ?_
  refine V_istore (lv2 := [some (.null), some (.ref 0), some (.ref 85), some (.ref 128), some (.int v4), some (.int x133.1), none, none]) dL_law_1056 (by decide) rfl ?_
  refine V_aload_n dL_law_1058 rfl ?_
  refine V_aloadS_n dL_law_1059 rfl ?_
  refine V_iload dL_law_1060 rfl ?_
  refine V_iconst (v := 1) dL_law_1062 rfl ?_
  refine V_iadd dL_law_1063 ?_
  obtain ⟨g135, h⟩ := gu_o h
  refine V_sload dL_law_1064 (ib_in g135) ?_
  refine V_aloadS_n dL_law_1065 rfl ?_
  refine V_iload dL_law_1066 rfl ?_
  refine V_iconst (v := 2) dL_law_1068 rfl ?_
  refine V_iadd dL_law_1069 ?_
  obtain ⟨g136, h⟩ := gu_o h
  refine V_sload dL_law_1070 (ib_in g136) ?_
  obtain ⟨x137, y138, h⟩ := bi_o h
  refine V_callV (as := [.int (gx G (Int32.toNatClampNeg (v4 + 1))), .int (gx G (Int32.toNatClampNeg (v4 + 2)))]) (q := 85) (rest := []) dL_law_1071 ov_mX7_layer lk_RL_218 (by decide) (by decide) rfl rfl (Nat.le_of_ble_eq_true rfl) (tq_85 hG) rfl (VM_X7_layer G fu hG (gx G (Int32.toNatClampNeg (v4 + 1))) (gx G (Int32.toNatClampNeg (v4 + 2))) x133.2 _ y138) ?_
  refine V_lstore (lv2 := [some (.null), some (.ref 0), some (.ref 85), some (.ref 128), some (.int v4), some (.int x133.1), some (.long x137.1), none]) dL_law_1074 (by decide) rfl ?_
  refine V_aload_n dL_law_1076 rfl ?_
  obtain ⟨x139, y140, h⟩ := bi_o h
  refine V_callV (as := []) (q := 85) (rest := []) dL_law_1077 ov_mX7_thrown lk_RL_175 (by decide) (by decide) rfl rfl (Nat.le_of_ble_eq_true rfl) (tq_85 hG) rfl (VM_X7_thrown G x137.2 hG _ y140) ?_
  refine V_iload dL_law_1080 rfl ?_
  by_cases c1082 : x139 = x133.1
  · rw [if_pos c1082] at h
    refine V_icmpeq_t (tgt := 1087) dL_law_1082 (by decide) c1082 ?_
    refine V_iload dL_law_1087 rfl ?_
    by_cases c1089 : x133.1 = 0
    · rw [if_pos c1089] at h
      refine V_ifne_f (tgt := 1103) dL_law_1089 (by decide) c1089 ?_
      refine V_aload_n dL_law_1092 rfl ?_
      refine V_iconst (v := 0) dL_law_1093 rfl ?_
      obtain ⟨g141, h⟩ := gu_o h
      refine V_laload dL_law_1094 (tq_128 hG) (ib_in g141) ?_
      refine V_lload dL_law_1095 rfl ?_
      refine V_lcmp dL_law_1097 ?_
      by_cases c1098 : (x137.2.2.1 128 (Int32.toNatClampNeg 0)) = x137.1
      · rw [if_pos c1098] at h
        refine V_ifeq_t (tgt := 1103) dL_law_1098 (by decide) ((lc_eq (x137.2.2.1 128 (Int32.toNatClampNeg 0)) x137.1).mpr c1098) ?_
        exact V_wk [true, true, true, true, true, false, false, false] rfl (T_L_law_1103 G fu hG k23 hk23 _ _ _ h)
      · rw [if_neg c1098] at h
        refine V_ifeq_f (tgt := 1103) dL_law_1098 (by decide) (fun z => c1098 ((lc_eq (x137.2.2.1 128 (Int32.toNatClampNeg 0)) x137.1).mp z)) ?_
        refine V_iconst (v := 0) dL_law_1101 rfl ?_
        cases h
        exact V_zret rfl (by decide) dL_law_1102
    · rw [if_neg c1089] at h
      refine V_ifne_t (tgt := 1103) dL_law_1089 (by decide) c1089 ?_
      exact V_wk [true, true, true, true, true, false, false, false] rfl (T_L_law_1103 G fu hG k23 hk23 _ _ _ h)
  · rw [if_neg c1082] at h
    refine V_icmpeq_f (tgt := 1087) dL_law_1082 (by decide) c1082 ?_
    refine V_iconst (v := 0) dL_law_1085 rfl ?_
    cases h
    exact V_zret rfl (by decide) dL_law_1086
def D_L_law_1182 (G : GX) (fu : Nat)  (k23 : Int32 → Mem → Option (Bool × Mem)) (v4 : Int32) (μ : Mem) : Option (Bool × Mem) :=
  D_L_law_3740 G fu k23 v4 μ
set_option maxRecDepth 20000 in
theorem T_L_law_1182 (G : GX) (fu : Nat)  (hG : gt G = tbl) (k23 : Int32 → Mem → Option (Bool × Mem)) (hk23 : ∀ (v4 : Int32) (μ : Mem) (r : (Bool × Mem)), k23 v4 μ = some r → V G mL_law 23 [some (.null), some (.ref 0), some (.ref 85), some (.ref 128), some (.int v4), none, none, none] [] μ (.inl (some (.int (b2i r.1)))) (r.2)) : ∀ (v4 : Int32) (μ : Mem) (r : (Bool × Mem)) , D_L_law_1182 G fu k23 v4 μ = some r → V G mL_law 1182 [some (.null), some (.ref 0), some (.ref 85), some (.ref 128), some (.int v4), none, none, none] [] μ (.inl (some (.int (b2i r.1)))) (r.2) := by
  intro v4 μ r h
  unfold D_L_law_1182 at h
  refine V_goto (tgt := 3740) dL_law_1182 (by decide) ?_
  exact V_wk [true, true, true, true, true, false, false, false] rfl (T_L_law_3740 G fu hG k23 hk23 _ _ _ h)
def D_L_law_1106 (G : GX) (fu : Nat)  (k23 : Int32 → Mem → Option (Bool × Mem)) (v4 : Int32) (μ : Mem) : Option (Bool × Mem) :=
  gu (ib (v4 + 1) (gn G)) <|
  gu (ib (v4 + 2) (gn G)) <|
  gu (ib (v4 + 3) (gn G)) <|
  (D_L_signed_0 (gx G (Int32.toNatClampNeg (v4 + 1))) (gx G (Int32.toNatClampNeg (v4 + 2))) (gx G (Int32.toNatClampNeg (v4 + 3))) μ).bind fun x145 =>
  gu (ib (v4 + 1) (gn G)) <|
  gu (ib (v4 + 2) (gn G)) <|
  gu (ib (v4 + 3) (gn G)) <|
  (D_X7_signed_0 fu (gx G (Int32.toNatClampNeg (v4 + 1))) (gx G (Int32.toNatClampNeg (v4 + 2))) (gx G (Int32.toNatClampNeg (v4 + 3))) x145.2).bind fun x150 =>
  (D_X7_thrown_0 x150.2).bind fun x152 =>
  if x152 = x145.1 then
    if x145.1 = 0 then
      gu (ib 0 1) <|
      if (x150.2.2.1 128 (Int32.toNatClampNeg 0)) = x150.1 then
        D_L_law_1182 G fu k23 v4 x150.2
      else
        some (false, x150.2)
    else
      D_L_law_1182 G fu k23 v4 x150.2
  else
    some (false, x150.2)
set_option maxRecDepth 20000 in
theorem T_L_law_1106 (G : GX) (fu : Nat)  (hG : gt G = tbl) (k23 : Int32 → Mem → Option (Bool × Mem)) (hk23 : ∀ (v4 : Int32) (μ : Mem) (r : (Bool × Mem)), k23 v4 μ = some r → V G mL_law 23 [some (.null), some (.ref 0), some (.ref 85), some (.ref 128), some (.int v4), none, none, none] [] μ (.inl (some (.int (b2i r.1)))) (r.2)) : ∀ (v4 : Int32) (μ : Mem) (r : (Bool × Mem)) , D_L_law_1106 G fu k23 v4 μ = some r → V G mL_law 1106 [some (.null), some (.ref 0), some (.ref 85), some (.ref 128), some (.int v4), none, none, none] [] μ (.inl (some (.int (b2i r.1)))) (r.2) := by
  intro v4 μ r h
  unfold D_L_law_1106 at h
  refine V_aload_n dL_law_1106 rfl ?_
  refine V_aloadS_n dL_law_1107 rfl ?_
  refine V_iload dL_law_1108 rfl ?_
  refine V_iconst (v := 1) dL_law_1110 rfl ?_
  refine V_iadd dL_law_1111 ?_
  obtain ⟨g142, h⟩ := gu_o h
  refine V_sload dL_law_1112 (ib_in g142) ?_
  refine V_aloadS_n dL_law_1113 rfl ?_
  refine V_iload dL_law_1114 rfl ?_
  refine V_iconst (v := 2) dL_law_1116 rfl ?_
  refine V_iadd dL_law_1117 ?_
  obtain ⟨g143, h⟩ := gu_o h
  refine V_sload dL_law_1118 (ib_in g143) ?_
  refine V_aloadS_n dL_law_1119 rfl ?_
  refine V_iload dL_law_1120 rfl ?_
  refine V_iconst (v := 3) dL_law_1122 rfl ?_
  refine V_iadd dL_law_1123 ?_
  obtain ⟨g144, h⟩ := gu_o h
  refine V_sload dL_law_1124 (ib_in g144) ?_
  refine V_aload_n dL_law_1125 rfl ?_
  obtain ⟨x145, y146, h⟩ := bi_o h
  refine V_callSX (as := [.ref 0, .int (gx G (Int32.toNatClampNeg (v4 + 1))), .int (gx G (Int32.toNatClampNeg (v4 + 2))), .int (gx G (Int32.toNatClampNeg (v4 + 3))), .ref 128]) (rest := []) dL_law_1126 os_mL_signed rfl lk_RL_219 (by decide) (by decide) rfl rfl (Nat.le_of_ble_eq_true rfl) (VM_L_signed G hG (gx G (Int32.toNatClampNeg (v4 + 1))) (gx G (Int32.toNatClampNeg (v4 + 2))) (gx G (Int32.toNatClampNeg (v4 + 3))) μ _ y146) ?_
  refine V_istore (lv2 := [some (.null), some (.ref 0), some (.ref 85), some (.ref 128), some (.int v4), some (.int x145.1), none, none]) dL_law_1129 (by decide) rfl ?_
  refine V_aload_n dL_law_1131 rfl ?_
  refine V_aloadS_n dL_law_1132 rfl ?_
  refine V_iload dL_law_1133 rfl ?_
  refine V_iconst (v := 1) dL_law_1135 rfl ?_
  refine V_iadd dL_law_1136 ?_
  obtain ⟨g147, h⟩ := gu_o h
  refine V_sload dL_law_1137 (ib_in g147) ?_
  refine V_aloadS_n dL_law_1138 rfl ?_
  refine V_iload dL_law_1139 rfl ?_
  refine V_iconst (v := 2) dL_law_1141 rfl ?_
  refine V_iadd dL_law_1142 ?_
  obtain ⟨g148, h⟩ := gu_o h
  refine V_sload dL_law_1143 (ib_in g148) ?_
  refine V_aloadS_n dL_law_1144 rfl ?_
  refine V_iload dL_law_1145 rfl ?_
  refine V_iconst (v := 3) dL_law_1147 rfl ?_
  refine V_iadd dL_law_1148 ?_
  obtain ⟨g149, h⟩ := gu_o h
  refine V_sload dL_law_1149 (ib_in g149) ?_
  obtain ⟨x150, y151, h⟩ := bi_o h
  refine V_callV (as := [.int (gx G (Int32.toNatClampNeg (v4 + 1))), .int (gx G (Int32.toNatClampNeg (v4 + 2))), .int (gx G (Int32.toNatClampNeg (v4 + 3)))]) (q := 85) (rest := []) dL_law_1150 ov_mX7_signed lk_RL_221 (by decide) (by decide) rfl rfl (Nat.le_of_ble_eq_true rfl) (tq_85 hG) rfl (VM_X7_signed G fu hG (gx G (Int32.toNatClampNeg (v4 + 1))) (gx G (Int32.toNatClampNeg (v4 + 2))) (gx G (Int32.toNatClampNeg (v4 + 3))) x145.2 _ y151) ?_
  refine V_lstore (lv2 := [some (.null), some (.ref 0), some (.ref 85), some (.ref 128), some (.int v4), some (.int x145.1), some (.long x150.1), none]) dL_law_1153 (by decide) rfl ?_
  refine V_aload_n dL_law_1155 rfl ?_
  obtain ⟨x152, y153, h⟩ := bi_o h
  refine V_callV (as := []) (q := 85) (rest := []) dL_law_1156 ov_mX7_thrown lk_RL_175 (by decide) (by decide) rfl rfl (Nat.le_of_ble_eq_true rfl) (tq_85 hG) rfl (VM_X7_thrown G x150.2 hG _ y153) ?_
  refine V_iload dL_law_1159 rfl ?_
  by_cases c1161 : x152 = x145.1
  · rw [if_pos c1161] at h
    refine V_icmpeq_t (tgt := 1166) dL_law_1161 (by decide) c1161 ?_
    refine V_iload dL_law_1166 rfl ?_
    by_cases c1168 : x145.1 = 0
    · rw [if_pos c1168] at h
      refine V_ifne_f (tgt := 1182) dL_law_1168 (by decide) c1168 ?_
      refine V_aload_n dL_law_1171 rfl ?_
      refine V_iconst (v := 0) dL_law_1172 rfl ?_
      obtain ⟨g154, h⟩ := gu_o h
      refine V_laload dL_law_1173 (tq_128 hG) (ib_in g154) ?_
      refine V_lload dL_law_1174 rfl ?_
      refine V_lcmp dL_law_1176 ?_
      by_cases c1177 : (x150.2.2.1 128 (Int32.toNatClampNeg 0)) = x150.1
      · rw [if_pos c1177] at h
        refine V_ifeq_t (tgt := 1182) dL_law_1177 (by decide) ((lc_eq (x150.2.2.1 128 (Int32.toNatClampNeg 0)) x150.1).mpr c1177) ?_
        exact V_wk [true, true, true, true, true, false, false, false] rfl (T_L_law_1182 G fu hG k23 hk23 _ _ _ h)
      · rw [if_neg c1177] at h
        refine V_ifeq_f (tgt := 1182) dL_law_1177 (by decide) (fun z => c1177 ((lc_eq (x150.2.2.1 128 (Int32.toNatClampNeg 0)) x150.1).mp z)) ?_
        refine V_iconst (v := 0) dL_law_1180 rfl ?_
        cases h
        exact V_zret rfl (by decide) dL_law_1181
    · rw [if_neg c1168] at h
      refine V_ifne_t (tgt := 1182) dL_law_1168 (by decide) c1168 ?_
      exact V_wk [true, true, true, true, true, false, false, false] rfl (T_L_law_1182 G fu hG k23 hk23 _ _ _ h)
  · rw [if_neg c1161] at h
    refine V_icmpeq_f (tgt := 1166) dL_law_1161 (by decide) c1161 ?_
    refine V_iconst (v := 0) dL_law_1164 rfl ?_
    cases h
    exact V_zret rfl (by decide) dL_law_1165
def D_L_law_1249 (G : GX) (fu : Nat)  (k23 : Int32 → Mem → Option (Bool × Mem)) (v4 : Int32) (μ : Mem) : Option (Bool × Mem) :=
  D_L_law_3740 G fu k23 v4 μ
set_option maxRecDepth 20000 in
theorem T_L_law_1249 (G : GX) (fu : Nat)  (hG : gt G = tbl) (k23 : Int32 → Mem → Option (Bool × Mem)) (hk23 : ∀ (v4 : Int32) (μ : Mem) (r : (Bool × Mem)), k23 v4 μ = some r → V G mL_law 23 [some (.null), some (.ref 0), some (.ref 85), some (.ref 128), some (.int v4), none, none, none] [] μ (.inl (some (.int (b2i r.1)))) (r.2)) : ∀ (v4 : Int32) (μ : Mem) (r : (Bool × Mem)) , D_L_law_1249 G fu k23 v4 μ = some r → V G mL_law 1249 [some (.null), some (.ref 0), some (.ref 85), some (.ref 128), some (.int v4), none, none, none] [] μ (.inl (some (.int (b2i r.1)))) (r.2) := by
  intro v4 μ r h
  unfold D_L_law_1249 at h
  refine V_goto (tgt := 3740) dL_law_1249 (by decide) ?_
  exact V_wk [true, true, true, true, true, false, false, false] rfl (T_L_law_3740 G fu hG k23 hk23 _ _ _ h)
def D_L_law_1185 (G : GX) (fu : Nat)  (k23 : Int32 → Mem → Option (Bool × Mem)) (v4 : Int32) (μ : Mem) : Option (Bool × Mem) :=
  gu (ib (v4 + 1) (gn G)) <|
  gu (ib (v4 + 2) (gn G)) <|
  (D_L_year_0 fu (gx G (Int32.toNatClampNeg (v4 + 1))) (gx G (Int32.toNatClampNeg (v4 + 2))) μ).bind fun x157 =>
  gu (ib (v4 + 1) (gn G)) <|
  gu (ib (v4 + 2) (gn G)) <|
  (D_X7_year_0 fu (gx G (Int32.toNatClampNeg (v4 + 1))) (gx G (Int32.toNatClampNeg (v4 + 2))) x157.2).bind fun x161 =>
  (D_X7_thrown_0 x161.2).bind fun x163 =>
  if x163 = x157.1 then
    if x157.1 = 0 then
      gu (ib 0 1) <|
      if (x161.2.2.1 128 (Int32.toNatClampNeg 0)) = x161.1 then
        D_L_law_1249 G fu k23 v4 x161.2
      else
        some (false, x161.2)
    else
      D_L_law_1249 G fu k23 v4 x161.2
  else
    some (false, x161.2)
set_option maxRecDepth 20000 in
theorem T_L_law_1185 (G : GX) (fu : Nat)  (hG : gt G = tbl) (k23 : Int32 → Mem → Option (Bool × Mem)) (hk23 : ∀ (v4 : Int32) (μ : Mem) (r : (Bool × Mem)), k23 v4 μ = some r → V G mL_law 23 [some (.null), some (.ref 0), some (.ref 85), some (.ref 128), some (.int v4), none, none, none] [] μ (.inl (some (.int (b2i r.1)))) (r.2)) : ∀ (v4 : Int32) (μ : Mem) (r : (Bool × Mem)) , D_L_law_1185 G fu k23 v4 μ = some r → V G mL_law 1185 [some (.null), some (.ref 0), some (.ref 85), some (.ref 128), some (.int v4), none, none, none] [] μ (.inl (some (.int (b2i r.1)))) (r.2) := by
  intro v4 μ r h
  unfold D_L_law_1185 at h
  refine V_aload_n dL_law_1185 rfl ?_
  refine V_aloadS_n dL_law_1186 rfl ?_
  refine V_iload dL_law_1187 rfl ?_
  refine V_iconst (v := 1) dL_law_1189 rfl ?_
  refine V_iadd dL_law_1190 ?_
  obtain ⟨g155, h⟩ := gu_o h
  refine V_sload dL_law_1191 (ib_in g155) ?_
  refine V_aloadS_n dL_law_1192 rfl ?_
  refine V_iload dL_law_1193 rfl ?_
  refine V_iconst (v := 2) dL_law_1195 rfl ?_
  refine V_iadd dL_law_1196 ?_
  obtain ⟨g156, h⟩ := gu_o h
  refine V_sload dL_law_1197 (ib_in g156) ?_
  refine V_aload_n dL_law_1198 rfl ?_
  obtain ⟨x157, y158, h⟩ := bi_o h
  refine V_callSX (as := [.ref 0, .int (gx G (Int32.toNatClampNeg (v4 + 1))), .int (gx G (Int32.toNatClampNeg (v4 + 2))), .ref 128]) (rest := []) dL_law_1199 os_mL_year rfl lk_RL_222 (by decide) (by decide) rfl rfl (Nat.le_of_ble_eq_true rfl) (VM_L_year G fu hG (gx G (Int32.toNatClampNeg (v4 + 1))) (gx G (Int32.toNatClampNeg (v4 + 2))) μ _ y158) ?_
  refine V_istore (lv2 := [some (.null), some (.ref 0), some (.ref 85), some (.ref 128), some (.int v4), some (.int x157.1), none, none]) dL_law_1202 (by decide) rfl ?_
  refine V_aload_n dL_law_1204 rfl ?_
  refine V_aloadS_n dL_law_1205 rfl ?_
  refine V_iload dL_law_1206 rfl ?_
  refine V_iconst (v := 1) dL_law_1208 rfl ?_
  refine V_iadd dL_law_1209 ?_
  obtain ⟨g159, h⟩ := gu_o h
  refine V_sload dL_law_1210 (ib_in g159) ?_
  refine V_aloadS_n dL_law_1211 rfl ?_
  refine V_iload dL_law_1212 rfl ?_
  refine V_iconst (v := 2) dL_law_1214 rfl ?_
  refine V_iadd dL_law_1215 ?_
  obtain ⟨g160, h⟩ := gu_o h
  refine V_sload dL_law_1216 (ib_in g160) ?_
  obtain ⟨x161, y162, h⟩ := bi_o h
  refine V_callV (as := [.int (gx G (Int32.toNatClampNeg (v4 + 1))), .int (gx G (Int32.toNatClampNeg (v4 + 2)))]) (q := 85) (rest := []) dL_law_1217 ov_mX7_year lk_RL_224 (by decide) (by decide) rfl rfl (Nat.le_of_ble_eq_true rfl) (tq_85 hG) rfl (VM_X7_year G fu hG (gx G (Int32.toNatClampNeg (v4 + 1))) (gx G (Int32.toNatClampNeg (v4 + 2))) x157.2 _ y162) ?_
  refine V_lstore (lv2 := [some (.null), some (.ref 0), some (.ref 85), some (.ref 128), some (.int v4), some (.int x157.1), some (.long x161.1), none]) dL_law_1220 (by decide) rfl ?_
  refine V_aload_n dL_law_1222 rfl ?_
  obtain ⟨x163, y164, h⟩ := bi_o h
  refine V_callV (as := []) (q := 85) (rest := []) dL_law_1223 ov_mX7_thrown lk_RL_175 (by decide) (by decide) rfl rfl (Nat.le_of_ble_eq_true rfl) (tq_85 hG) rfl (VM_X7_thrown G x161.2 hG _ y164) ?_
  refine V_iload dL_law_1226 rfl ?_
  by_cases c1228 : x163 = x157.1
  · rw [if_pos c1228] at h
    refine V_icmpeq_t (tgt := 1233) dL_law_1228 (by decide) c1228 ?_
    refine V_iload dL_law_1233 rfl ?_
    by_cases c1235 : x157.1 = 0
    · rw [if_pos c1235] at h
      refine V_ifne_f (tgt := 1249) dL_law_1235 (by decide) c1235 ?_
      refine V_aload_n dL_law_1238 rfl ?_
      refine V_iconst (v := 0) dL_law_1239 rfl ?_
      obtain ⟨g165, h⟩ := gu_o h
      refine V_laload dL_law_1240 (tq_128 hG) (ib_in g165) ?_
      refine V_lload dL_law_1241 rfl ?_
      refine V_lcmp dL_law_1243 ?_
      by_cases c1244 : (x161.2.2.1 128 (Int32.toNatClampNeg 0)) = x161.1
      · rw [if_pos c1244] at h
        refine V_ifeq_t (tgt := 1249) dL_law_1244 (by decide) ((lc_eq (x161.2.2.1 128 (Int32.toNatClampNeg 0)) x161.1).mpr c1244) ?_
        exact V_wk [true, true, true, true, true, false, false, false] rfl (T_L_law_1249 G fu hG k23 hk23 _ _ _ h)
      · rw [if_neg c1244] at h
        refine V_ifeq_f (tgt := 1249) dL_law_1244 (by decide) (fun z => c1244 ((lc_eq (x161.2.2.1 128 (Int32.toNatClampNeg 0)) x161.1).mp z)) ?_
        refine V_iconst (v := 0) dL_law_1247 rfl ?_
        cases h
        exact V_zret rfl (by decide) dL_law_1248
    · rw [if_neg c1235] at h
      refine V_ifne_t (tgt := 1249) dL_law_1235 (by decide) c1235 ?_
      exact V_wk [true, true, true, true, true, false, false, false] rfl (T_L_law_1249 G fu hG k23 hk23 _ _ _ h)
  · rw [if_neg c1228] at h
    refine V_icmpeq_f (tgt := 1233) dL_law_1228 (by decide) c1228 ?_
    refine V_iconst (v := 0) dL_law_1231 rfl ?_
    cases h
    exact V_zret rfl (by decide) dL_law_1232
def D_L_law_1317 (G : GX) (fu : Nat)  (k23 : Int32 → Mem → Option (Bool × Mem)) (v4 : Int32) (μ : Mem) : Option (Bool × Mem) :=
  D_L_law_3740 G fu k23 v4 μ
set_option maxRecDepth 20000 in
theorem T_L_law_1317 (G : GX) (fu : Nat)  (hG : gt G = tbl) (k23 : Int32 → Mem → Option (Bool × Mem)) (hk23 : ∀ (v4 : Int32) (μ : Mem) (r : (Bool × Mem)), k23 v4 μ = some r → V G mL_law 23 [some (.null), some (.ref 0), some (.ref 85), some (.ref 128), some (.int v4), none, none, none] [] μ (.inl (some (.int (b2i r.1)))) (r.2)) : ∀ (v4 : Int32) (μ : Mem) (r : (Bool × Mem)) , D_L_law_1317 G fu k23 v4 μ = some r → V G mL_law 1317 [some (.null), some (.ref 0), some (.ref 85), some (.ref 128), some (.int v4), none, none, none] [] μ (.inl (some (.int (b2i r.1)))) (r.2) := by
  intro v4 μ r h
  unfold D_L_law_1317 at h
  refine V_goto (tgt := 3740) dL_law_1317 (by decide) ?_
  exact V_wk [true, true, true, true, true, false, false, false] rfl (T_L_law_3740 G fu hG k23 hk23 _ _ _ h)
def D_L_law_1252 (G : GX) (fu : Nat)  (k23 : Int32 → Mem → Option (Bool × Mem)) (v4 : Int32) (μ : Mem) : Option (Bool × Mem) :=
  gu (ib (v4 + 1) (gn G)) <|
  gu (ib (v4 + 2) (gn G)) <|
  (D_L_at_0 fu (gx G (Int32.toNatClampNeg (v4 + 1))) (gx G (Int32.toNatClampNeg (v4 + 2))) μ).bind fun x168 =>
  gu (ib (v4 + 1) (gn G)) <|
  gu (ib (v4 + 2) (gn G)) <|
  (D_X7_at_0 fu (gx G (Int32.toNatClampNeg (v4 + 1))) (gx G (Int32.toNatClampNeg (v4 + 2))) x168.2).bind fun x172 =>
  (D_X7_thrown_0 x172.2).bind fun x174 =>
  if x174 = x168.1 then
    if x168.1 = 0 then
      gu (ib 0 1) <|
      if (x172.2.2.1 128 (Int32.toNatClampNeg 0)) = ((x172.1 : Int32).toInt64) then
        D_L_law_1317 G fu k23 v4 x172.2
      else
        some (false, x172.2)
    else
      D_L_law_1317 G fu k23 v4 x172.2
  else
    some (false, x172.2)
set_option maxRecDepth 20000 in
theorem T_L_law_1252 (G : GX) (fu : Nat)  (hG : gt G = tbl) (k23 : Int32 → Mem → Option (Bool × Mem)) (hk23 : ∀ (v4 : Int32) (μ : Mem) (r : (Bool × Mem)), k23 v4 μ = some r → V G mL_law 23 [some (.null), some (.ref 0), some (.ref 85), some (.ref 128), some (.int v4), none, none, none] [] μ (.inl (some (.int (b2i r.1)))) (r.2)) : ∀ (v4 : Int32) (μ : Mem) (r : (Bool × Mem)) , D_L_law_1252 G fu k23 v4 μ = some r → V G mL_law 1252 [some (.null), some (.ref 0), some (.ref 85), some (.ref 128), some (.int v4), none, none, none] [] μ (.inl (some (.int (b2i r.1)))) (r.2) := by
  intro v4 μ r h
  unfold D_L_law_1252 at h
  refine V_aload_n dL_law_1252 rfl ?_
  refine V_aloadS_n dL_law_1253 rfl ?_
  refine V_iload dL_law_1254 rfl ?_
  refine V_iconst (v := 1) dL_law_1256 rfl ?_
  refine V_iadd dL_law_1257 ?_
  obtain ⟨g166, h⟩ := gu_o h
  refine V_sload dL_law_1258 (ib_in g166) ?_
  refine V_aloadS_n dL_law_1259 rfl ?_
  refine V_iload dL_law_1260 rfl ?_
  refine V_iconst (v := 2) dL_law_1262 rfl ?_
  refine V_iadd dL_law_1263 ?_
  obtain ⟨g167, h⟩ := gu_o h
  refine V_sload dL_law_1264 (ib_in g167) ?_
  refine V_aload_n dL_law_1265 rfl ?_
  obtain ⟨x168, y169, h⟩ := bi_o h
  refine V_callSX (as := [.ref 0, .int (gx G (Int32.toNatClampNeg (v4 + 1))), .int (gx G (Int32.toNatClampNeg (v4 + 2))), .ref 128]) (rest := []) dL_law_1266 os_mL_at rfl lk_RL_225 (by decide) (by decide) rfl rfl (Nat.le_of_ble_eq_true rfl) (VM_L_at G fu hG (gx G (Int32.toNatClampNeg (v4 + 1))) (gx G (Int32.toNatClampNeg (v4 + 2))) μ _ y169) ?_
  refine V_istore (lv2 := [some (.null), some (.ref 0), some (.ref 85), some (.ref 128), some (.int v4), some (.int x168.1), none, none]) dL_law_1269 (by decide) rfl ?_
  refine V_aload_n dL_law_1271 rfl ?_
  refine V_aloadS_n dL_law_1272 rfl ?_
  refine V_iload dL_law_1273 rfl ?_
  refine V_iconst (v := 1) dL_law_1275 rfl ?_
  refine V_iadd dL_law_1276 ?_
  obtain ⟨g170, h⟩ := gu_o h
  refine V_sload dL_law_1277 (ib_in g170) ?_
  refine V_aloadS_n dL_law_1278 rfl ?_
  refine V_iload dL_law_1279 rfl ?_
  refine V_iconst (v := 2) dL_law_1281 rfl ?_
  refine V_iadd dL_law_1282 ?_
  obtain ⟨g171, h⟩ := gu_o h
  refine V_sload dL_law_1283 (ib_in g171) ?_
  obtain ⟨x172, y173, h⟩ := bi_o h
  refine V_callV (as := [.int (gx G (Int32.toNatClampNeg (v4 + 1))), .int (gx G (Int32.toNatClampNeg (v4 + 2)))]) (q := 85) (rest := []) dL_law_1284 ov_mX7_at lk_RL_227 (by decide) (by decide) rfl rfl (Nat.le_of_ble_eq_true rfl) (tq_85 hG) rfl (VM_X7_at G fu hG (gx G (Int32.toNatClampNeg (v4 + 1))) (gx G (Int32.toNatClampNeg (v4 + 2))) x168.2 _ y173) ?_
  refine V_istore (lv2 := [some (.null), some (.ref 0), some (.ref 85), some (.ref 128), some (.int v4), some (.int x168.1), some (.int x172.1), none]) dL_law_1287 (by decide) rfl ?_
  refine V_aload_n dL_law_1289 rfl ?_
  obtain ⟨x174, y175, h⟩ := bi_o h
  refine V_callV (as := []) (q := 85) (rest := []) dL_law_1290 ov_mX7_thrown lk_RL_175 (by decide) (by decide) rfl rfl (Nat.le_of_ble_eq_true rfl) (tq_85 hG) rfl (VM_X7_thrown G x172.2 hG _ y175) ?_
  refine V_iload dL_law_1293 rfl ?_
  by_cases c1295 : x174 = x168.1
  · rw [if_pos c1295] at h
    refine V_icmpeq_t (tgt := 1300) dL_law_1295 (by decide) c1295 ?_
    refine V_iload dL_law_1300 rfl ?_
    by_cases c1302 : x168.1 = 0
    · rw [if_pos c1302] at h
      refine V_ifne_f (tgt := 1317) dL_law_1302 (by decide) c1302 ?_
      refine V_aload_n dL_law_1305 rfl ?_
      refine V_iconst (v := 0) dL_law_1306 rfl ?_
      obtain ⟨g176, h⟩ := gu_o h
      refine V_laload dL_law_1307 (tq_128 hG) (ib_in g176) ?_
      refine V_iload dL_law_1308 rfl ?_
      refine V_i2l dL_law_1310 ?_
      refine V_lcmp dL_law_1311 ?_
      by_cases c1312 : (x172.2.2.1 128 (Int32.toNatClampNeg 0)) = ((x172.1 : Int32).toInt64)
      · rw [if_pos c1312] at h
        refine V_ifeq_t (tgt := 1317) dL_law_1312 (by decide) ((lc_eq (x172.2.2.1 128 (Int32.toNatClampNeg 0)) ((x172.1 : Int32).toInt64)).mpr c1312) ?_
        exact V_wk [true, true, true, true, true, false, false, false] rfl (T_L_law_1317 G fu hG k23 hk23 _ _ _ h)
      · rw [if_neg c1312] at h
        refine V_ifeq_f (tgt := 1317) dL_law_1312 (by decide) (fun z => c1312 ((lc_eq (x172.2.2.1 128 (Int32.toNatClampNeg 0)) ((x172.1 : Int32).toInt64)).mp z)) ?_
        refine V_iconst (v := 0) dL_law_1315 rfl ?_
        cases h
        exact V_zret rfl (by decide) dL_law_1316
    · rw [if_neg c1302] at h
      refine V_ifne_t (tgt := 1317) dL_law_1302 (by decide) c1302 ?_
      exact V_wk [true, true, true, true, true, false, false, false] rfl (T_L_law_1317 G fu hG k23 hk23 _ _ _ h)
  · rw [if_neg c1295] at h
    refine V_icmpeq_f (tgt := 1300) dL_law_1295 (by decide) c1295 ?_
    refine V_iconst (v := 0) dL_law_1298 rfl ?_
    cases h
    exact V_zret rfl (by decide) dL_law_1299
def D_L_law_1385 (G : GX) (fu : Nat)  (k23 : Int32 → Mem → Option (Bool × Mem)) (v4 : Int32) (μ : Mem) : Option (Bool × Mem) :=
  D_L_law_3740 G fu k23 v4 μ
set_option maxRecDepth 20000 in
theorem T_L_law_1385 (G : GX) (fu : Nat)  (hG : gt G = tbl) (k23 : Int32 → Mem → Option (Bool × Mem)) (hk23 : ∀ (v4 : Int32) (μ : Mem) (r : (Bool × Mem)), k23 v4 μ = some r → V G mL_law 23 [some (.null), some (.ref 0), some (.ref 85), some (.ref 128), some (.int v4), none, none, none] [] μ (.inl (some (.int (b2i r.1)))) (r.2)) : ∀ (v4 : Int32) (μ : Mem) (r : (Bool × Mem)) , D_L_law_1385 G fu k23 v4 μ = some r → V G mL_law 1385 [some (.null), some (.ref 0), some (.ref 85), some (.ref 128), some (.int v4), none, none, none] [] μ (.inl (some (.int (b2i r.1)))) (r.2) := by
  intro v4 μ r h
  unfold D_L_law_1385 at h
  refine V_goto (tgt := 3740) dL_law_1385 (by decide) ?_
  exact V_wk [true, true, true, true, true, false, false, false] rfl (T_L_law_3740 G fu hG k23 hk23 _ _ _ h)
def D_L_law_1320 (G : GX) (fu : Nat)  (k23 : Int32 → Mem → Option (Bool × Mem)) (v4 : Int32) (μ : Mem) : Option (Bool × Mem) :=
  gu (ib (v4 + 1) (gn G)) <|
  gu (ib (v4 + 2) (gn G)) <|
  (D_L_rung_0 (gx G (Int32.toNatClampNeg (v4 + 1))) (gx G (Int32.toNatClampNeg (v4 + 2))) μ).bind fun x179 =>
  gu (ib (v4 + 1) (gn G)) <|
  gu (ib (v4 + 2) (gn G)) <|
  (D_X7_rung_0 (gx G (Int32.toNatClampNeg (v4 + 1))) (gx G (Int32.toNatClampNeg (v4 + 2))) x179.2).bind fun x183 =>
  (D_X7_thrown_0 x183.2).bind fun x185 =>
  if x185 = x179.1 then
    if x179.1 = 0 then
      gu (ib 0 1) <|
      if (x183.2.2.1 128 (Int32.toNatClampNeg 0)) = ((x183.1 : Int32).toInt64) then
        D_L_law_1385 G fu k23 v4 x183.2
      else
        some (false, x183.2)
    else
      D_L_law_1385 G fu k23 v4 x183.2
  else
    some (false, x183.2)
set_option maxRecDepth 20000 in
theorem T_L_law_1320 (G : GX) (fu : Nat)  (hG : gt G = tbl) (k23 : Int32 → Mem → Option (Bool × Mem)) (hk23 : ∀ (v4 : Int32) (μ : Mem) (r : (Bool × Mem)), k23 v4 μ = some r → V G mL_law 23 [some (.null), some (.ref 0), some (.ref 85), some (.ref 128), some (.int v4), none, none, none] [] μ (.inl (some (.int (b2i r.1)))) (r.2)) : ∀ (v4 : Int32) (μ : Mem) (r : (Bool × Mem)) , D_L_law_1320 G fu k23 v4 μ = some r → V G mL_law 1320 [some (.null), some (.ref 0), some (.ref 85), some (.ref 128), some (.int v4), none, none, none] [] μ (.inl (some (.int (b2i r.1)))) (r.2) := by
  intro v4 μ r h
  unfold D_L_law_1320 at h
  refine V_aload_n dL_law_1320 rfl ?_
  refine V_aloadS_n dL_law_1321 rfl ?_
  refine V_iload dL_law_1322 rfl ?_
  refine V_iconst (v := 1) dL_law_1324 rfl ?_
  refine V_iadd dL_law_1325 ?_
  obtain ⟨g177, h⟩ := gu_o h
  refine V_sload dL_law_1326 (ib_in g177) ?_
  refine V_aloadS_n dL_law_1327 rfl ?_
  refine V_iload dL_law_1328 rfl ?_
  refine V_iconst (v := 2) dL_law_1330 rfl ?_
  refine V_iadd dL_law_1331 ?_
  obtain ⟨g178, h⟩ := gu_o h
  refine V_sload dL_law_1332 (ib_in g178) ?_
  refine V_aload_n dL_law_1333 rfl ?_
  obtain ⟨x179, y180, h⟩ := bi_o h
  refine V_callSX (as := [.ref 0, .int (gx G (Int32.toNatClampNeg (v4 + 1))), .int (gx G (Int32.toNatClampNeg (v4 + 2))), .ref 128]) (rest := []) dL_law_1334 os_mL_rung rfl lk_RL_228 (by decide) (by decide) rfl rfl (Nat.le_of_ble_eq_true rfl) (VM_L_rung G hG (gx G (Int32.toNatClampNeg (v4 + 1))) (gx G (Int32.toNatClampNeg (v4 + 2))) μ _ y180) ?_
  refine V_istore (lv2 := [some (.null), some (.ref 0), some (.ref 85), some (.ref 128), some (.int v4), some (.int x179.1), none, none]) dL_law_1337 (by decide) rfl ?_
  refine V_aload_n dL_law_1339 rfl ?_
  refine V_aloadS_n dL_law_1340 rfl ?_
  refine V_iload dL_law_1341 rfl ?_
  refine V_iconst (v := 1) dL_law_1343 rfl ?_
  refine V_iadd dL_law_1344 ?_
  obtain ⟨g181, h⟩ := gu_o h
  refine V_sload dL_law_1345 (ib_in g181) ?_
  refine V_aloadS_n dL_law_1346 rfl ?_
  refine V_iload dL_law_1347 rfl ?_
  refine V_iconst (v := 2) dL_law_1349 rfl ?_
  refine V_iadd dL_law_1350 ?_
  obtain ⟨g182, h⟩ := gu_o h
  refine V_sload dL_law_1351 (ib_in g182) ?_
  obtain ⟨x183, y184, h⟩ := bi_o h
  refine V_callV (as := [.int (gx G (Int32.toNatClampNeg (v4 + 1))), .int (gx G (Int32.toNatClampNeg (v4 + 2)))]) (q := 85) (rest := []) dL_law_1352 ov_mX7_rung lk_RL_230 (by decide) (by decide) rfl rfl (Nat.le_of_ble_eq_true rfl) (tq_85 hG) rfl (VM_X7_rung G hG (gx G (Int32.toNatClampNeg (v4 + 1))) (gx G (Int32.toNatClampNeg (v4 + 2))) x179.2 _ y184) ?_
  refine V_istore (lv2 := [some (.null), some (.ref 0), some (.ref 85), some (.ref 128), some (.int v4), some (.int x179.1), some (.int x183.1), none]) dL_law_1355 (by decide) rfl ?_
  refine V_aload_n dL_law_1357 rfl ?_
  obtain ⟨x185, y186, h⟩ := bi_o h
  refine V_callV (as := []) (q := 85) (rest := []) dL_law_1358 ov_mX7_thrown lk_RL_175 (by decide) (by decide) rfl rfl (Nat.le_of_ble_eq_true rfl) (tq_85 hG) rfl (VM_X7_thrown G x183.2 hG _ y186) ?_
  refine V_iload dL_law_1361 rfl ?_
  by_cases c1363 : x185 = x179.1
  · rw [if_pos c1363] at h
    refine V_icmpeq_t (tgt := 1368) dL_law_1363 (by decide) c1363 ?_
    refine V_iload dL_law_1368 rfl ?_
    by_cases c1370 : x179.1 = 0
    · rw [if_pos c1370] at h
      refine V_ifne_f (tgt := 1385) dL_law_1370 (by decide) c1370 ?_
      refine V_aload_n dL_law_1373 rfl ?_
      refine V_iconst (v := 0) dL_law_1374 rfl ?_
      obtain ⟨g187, h⟩ := gu_o h
      refine V_laload dL_law_1375 (tq_128 hG) (ib_in g187) ?_
      refine V_iload dL_law_1376 rfl ?_
      refine V_i2l dL_law_1378 ?_
      refine V_lcmp dL_law_1379 ?_
      by_cases c1380 : (x183.2.2.1 128 (Int32.toNatClampNeg 0)) = ((x183.1 : Int32).toInt64)
      · rw [if_pos c1380] at h
        refine V_ifeq_t (tgt := 1385) dL_law_1380 (by decide) ((lc_eq (x183.2.2.1 128 (Int32.toNatClampNeg 0)) ((x183.1 : Int32).toInt64)).mpr c1380) ?_
        exact V_wk [true, true, true, true, true, false, false, false] rfl (T_L_law_1385 G fu hG k23 hk23 _ _ _ h)
      · rw [if_neg c1380] at h
        refine V_ifeq_f (tgt := 1385) dL_law_1380 (by decide) (fun z => c1380 ((lc_eq (x183.2.2.1 128 (Int32.toNatClampNeg 0)) ((x183.1 : Int32).toInt64)).mp z)) ?_
        refine V_iconst (v := 0) dL_law_1383 rfl ?_
        cases h
        exact V_zret rfl (by decide) dL_law_1384
    · rw [if_neg c1370] at h
      refine V_ifne_t (tgt := 1385) dL_law_1370 (by decide) c1370 ?_
      exact V_wk [true, true, true, true, true, false, false, false] rfl (T_L_law_1385 G fu hG k23 hk23 _ _ _ h)
  · rw [if_neg c1363] at h
    refine V_icmpeq_f (tgt := 1368) dL_law_1363 (by decide) c1363 ?_
    refine V_iconst (v := 0) dL_law_1366 rfl ?_
    cases h
    exact V_zret rfl (by decide) dL_law_1367
def D_L_law_1452 (G : GX) (fu : Nat)  (k23 : Int32 → Mem → Option (Bool × Mem)) (v4 : Int32) (μ : Mem) : Option (Bool × Mem) :=
  D_L_law_3740 G fu k23 v4 μ
set_option maxRecDepth 20000 in
theorem T_L_law_1452 (G : GX) (fu : Nat)  (hG : gt G = tbl) (k23 : Int32 → Mem → Option (Bool × Mem)) (hk23 : ∀ (v4 : Int32) (μ : Mem) (r : (Bool × Mem)), k23 v4 μ = some r → V G mL_law 23 [some (.null), some (.ref 0), some (.ref 85), some (.ref 128), some (.int v4), none, none, none] [] μ (.inl (some (.int (b2i r.1)))) (r.2)) : ∀ (v4 : Int32) (μ : Mem) (r : (Bool × Mem)) , D_L_law_1452 G fu k23 v4 μ = some r → V G mL_law 1452 [some (.null), some (.ref 0), some (.ref 85), some (.ref 128), some (.int v4), none, none, none] [] μ (.inl (some (.int (b2i r.1)))) (r.2) := by
  intro v4 μ r h
  unfold D_L_law_1452 at h
  refine V_goto (tgt := 3740) dL_law_1452 (by decide) ?_
  exact V_wk [true, true, true, true, true, false, false, false] rfl (T_L_law_3740 G fu hG k23 hk23 _ _ _ h)
def D_L_law_1388 (G : GX) (fu : Nat)  (k23 : Int32 → Mem → Option (Bool × Mem)) (v4 : Int32) (μ : Mem) : Option (Bool × Mem) :=
  gu (ib (v4 + 1) (gn G)) <|
  gu (ib (v4 + 2) (gn G)) <|
  (D_L_damage_0 (gx G (Int32.toNatClampNeg (v4 + 1))) (gx G (Int32.toNatClampNeg (v4 + 2))) μ).bind fun x190 =>
  gu (ib (v4 + 1) (gn G)) <|
  gu (ib (v4 + 2) (gn G)) <|
  (D_X7_damage_0 fu (gx G (Int32.toNatClampNeg (v4 + 1))) (gx G (Int32.toNatClampNeg (v4 + 2))) x190.2).bind fun x194 =>
  (D_X7_thrown_0 x194.2).bind fun x196 =>
  if x196 = x190.1 then
    if x190.1 = 0 then
      gu (ib 0 1) <|
      if (x194.2.2.1 128 (Int32.toNatClampNeg 0)) = x194.1 then
        D_L_law_1452 G fu k23 v4 x194.2
      else
        some (false, x194.2)
    else
      D_L_law_1452 G fu k23 v4 x194.2
  else
    some (false, x194.2)
set_option maxRecDepth 20000 in
theorem T_L_law_1388 (G : GX) (fu : Nat)  (hG : gt G = tbl) (k23 : Int32 → Mem → Option (Bool × Mem)) (hk23 : ∀ (v4 : Int32) (μ : Mem) (r : (Bool × Mem)), k23 v4 μ = some r → V G mL_law 23 [some (.null), some (.ref 0), some (.ref 85), some (.ref 128), some (.int v4), none, none, none] [] μ (.inl (some (.int (b2i r.1)))) (r.2)) : ∀ (v4 : Int32) (μ : Mem) (r : (Bool × Mem)) , D_L_law_1388 G fu k23 v4 μ = some r → V G mL_law 1388 [some (.null), some (.ref 0), some (.ref 85), some (.ref 128), some (.int v4), none, none, none] [] μ (.inl (some (.int (b2i r.1)))) (r.2) := by
  intro v4 μ r h
  unfold D_L_law_1388 at h
  refine V_aload_n dL_law_1388 rfl ?_
  refine V_aloadS_n dL_law_1389 rfl ?_
  refine V_iload dL_law_1390 rfl ?_
  refine V_iconst (v := 1) dL_law_1392 rfl ?_
  refine V_iadd dL_law_1393 ?_
  obtain ⟨g188, h⟩ := gu_o h
  refine V_sload dL_law_1394 (ib_in g188) ?_
  refine V_aloadS_n dL_law_1395 rfl ?_
  refine V_iload dL_law_1396 rfl ?_
  refine V_iconst (v := 2) dL_law_1398 rfl ?_
  refine V_iadd dL_law_1399 ?_
  obtain ⟨g189, h⟩ := gu_o h
  refine V_sload dL_law_1400 (ib_in g189) ?_
  refine V_aload_n dL_law_1401 rfl ?_
  obtain ⟨x190, y191, h⟩ := bi_o h
  refine V_callSX (as := [.ref 0, .int (gx G (Int32.toNatClampNeg (v4 + 1))), .int (gx G (Int32.toNatClampNeg (v4 + 2))), .ref 128]) (rest := []) dL_law_1402 os_mL_damage rfl lk_RL_231 (by decide) (by decide) rfl rfl (Nat.le_of_ble_eq_true rfl) (VM_L_damage G hG (gx G (Int32.toNatClampNeg (v4 + 1))) (gx G (Int32.toNatClampNeg (v4 + 2))) μ _ y191) ?_
  refine V_istore (lv2 := [some (.null), some (.ref 0), some (.ref 85), some (.ref 128), some (.int v4), some (.int x190.1), none, none]) dL_law_1405 (by decide) rfl ?_
  refine V_aload_n dL_law_1407 rfl ?_
  refine V_aloadS_n dL_law_1408 rfl ?_
  refine V_iload dL_law_1409 rfl ?_
  refine V_iconst (v := 1) dL_law_1411 rfl ?_
  refine V_iadd dL_law_1412 ?_
  obtain ⟨g192, h⟩ := gu_o h
  refine V_sload dL_law_1413 (ib_in g192) ?_
  refine V_aloadS_n dL_law_1414 rfl ?_
  refine V_iload dL_law_1415 rfl ?_
  refine V_iconst (v := 2) dL_law_1417 rfl ?_
  refine V_iadd dL_law_1418 ?_
  obtain ⟨g193, h⟩ := gu_o h
  refine V_sload dL_law_1419 (ib_in g193) ?_
  obtain ⟨x194, y195, h⟩ := bi_o h
  refine V_callV (as := [.int (gx G (Int32.toNatClampNeg (v4 + 1))), .int (gx G (Int32.toNatClampNeg (v4 + 2)))]) (q := 85) (rest := []) dL_law_1420 ov_mX7_damage lk_RL_233 (by decide) (by decide) rfl rfl (Nat.le_of_ble_eq_true rfl) (tq_85 hG) rfl (VM_X7_damage G fu hG (gx G (Int32.toNatClampNeg (v4 + 1))) (gx G (Int32.toNatClampNeg (v4 + 2))) x190.2 _ y195) ?_
  refine V_lstore (lv2 := [some (.null), some (.ref 0), some (.ref 85), some (.ref 128), some (.int v4), some (.int x190.1), some (.long x194.1), none]) dL_law_1423 (by decide) rfl ?_
  refine V_aload_n dL_law_1425 rfl ?_
  obtain ⟨x196, y197, h⟩ := bi_o h
  refine V_callV (as := []) (q := 85) (rest := []) dL_law_1426 ov_mX7_thrown lk_RL_175 (by decide) (by decide) rfl rfl (Nat.le_of_ble_eq_true rfl) (tq_85 hG) rfl (VM_X7_thrown G x194.2 hG _ y197) ?_
  refine V_iload dL_law_1429 rfl ?_
  by_cases c1431 : x196 = x190.1
  · rw [if_pos c1431] at h
    refine V_icmpeq_t (tgt := 1436) dL_law_1431 (by decide) c1431 ?_
    refine V_iload dL_law_1436 rfl ?_
    by_cases c1438 : x190.1 = 0
    · rw [if_pos c1438] at h
      refine V_ifne_f (tgt := 1452) dL_law_1438 (by decide) c1438 ?_
      refine V_aload_n dL_law_1441 rfl ?_
      refine V_iconst (v := 0) dL_law_1442 rfl ?_
      obtain ⟨g198, h⟩ := gu_o h
      refine V_laload dL_law_1443 (tq_128 hG) (ib_in g198) ?_
      refine V_lload dL_law_1444 rfl ?_
      refine V_lcmp dL_law_1446 ?_
      by_cases c1447 : (x194.2.2.1 128 (Int32.toNatClampNeg 0)) = x194.1
      · rw [if_pos c1447] at h
        refine V_ifeq_t (tgt := 1452) dL_law_1447 (by decide) ((lc_eq (x194.2.2.1 128 (Int32.toNatClampNeg 0)) x194.1).mpr c1447) ?_
        exact V_wk [true, true, true, true, true, false, false, false] rfl (T_L_law_1452 G fu hG k23 hk23 _ _ _ h)
      · rw [if_neg c1447] at h
        refine V_ifeq_f (tgt := 1452) dL_law_1447 (by decide) (fun z => c1447 ((lc_eq (x194.2.2.1 128 (Int32.toNatClampNeg 0)) x194.1).mp z)) ?_
        refine V_iconst (v := 0) dL_law_1450 rfl ?_
        cases h
        exact V_zret rfl (by decide) dL_law_1451
    · rw [if_neg c1438] at h
      refine V_ifne_t (tgt := 1452) dL_law_1438 (by decide) c1438 ?_
      exact V_wk [true, true, true, true, true, false, false, false] rfl (T_L_law_1452 G fu hG k23 hk23 _ _ _ h)
  · rw [if_neg c1431] at h
    refine V_icmpeq_f (tgt := 1436) dL_law_1431 (by decide) c1431 ?_
    refine V_iconst (v := 0) dL_law_1434 rfl ?_
    cases h
    exact V_zret rfl (by decide) dL_law_1435
def D_L_law_1519 (G : GX) (fu : Nat)  (k23 : Int32 → Mem → Option (Bool × Mem)) (v4 : Int32) (μ : Mem) : Option (Bool × Mem) :=
  D_L_law_3740 G fu k23 v4 μ
set_option maxRecDepth 20000 in
theorem T_L_law_1519 (G : GX) (fu : Nat)  (hG : gt G = tbl) (k23 : Int32 → Mem → Option (Bool × Mem)) (hk23 : ∀ (v4 : Int32) (μ : Mem) (r : (Bool × Mem)), k23 v4 μ = some r → V G mL_law 23 [some (.null), some (.ref 0), some (.ref 85), some (.ref 128), some (.int v4), none, none, none] [] μ (.inl (some (.int (b2i r.1)))) (r.2)) : ∀ (v4 : Int32) (μ : Mem) (r : (Bool × Mem)) , D_L_law_1519 G fu k23 v4 μ = some r → V G mL_law 1519 [some (.null), some (.ref 0), some (.ref 85), some (.ref 128), some (.int v4), none, none, none] [] μ (.inl (some (.int (b2i r.1)))) (r.2) := by
  intro v4 μ r h
  unfold D_L_law_1519 at h
  refine V_goto (tgt := 3740) dL_law_1519 (by decide) ?_
  exact V_wk [true, true, true, true, true, false, false, false] rfl (T_L_law_3740 G fu hG k23 hk23 _ _ _ h)
def D_L_law_1455 (G : GX) (fu : Nat)  (k23 : Int32 → Mem → Option (Bool × Mem)) (v4 : Int32) (μ : Mem) : Option (Bool × Mem) :=
  gu (ib (v4 + 1) (gn G)) <|
  gu (ib (v4 + 2) (gn G)) <|
  (D_L_took_0 (gx G (Int32.toNatClampNeg (v4 + 1))) (gx G (Int32.toNatClampNeg (v4 + 2))) μ).bind fun x201 =>
  gu (ib (v4 + 1) (gn G)) <|
  gu (ib (v4 + 2) (gn G)) <|
  (D_X7_took_0 (gx G (Int32.toNatClampNeg (v4 + 1))) (gx G (Int32.toNatClampNeg (v4 + 2))) x201.2).bind fun x205 =>
  (D_X7_thrown_0 x205.2).bind fun x207 =>
  if x207 = x201.1 then
    if x201.1 = 0 then
      gu (ib 0 1) <|
      if (x205.2.2.1 128 (Int32.toNatClampNeg 0)) = x205.1 then
        D_L_law_1519 G fu k23 v4 x205.2
      else
        some (false, x205.2)
    else
      D_L_law_1519 G fu k23 v4 x205.2
  else
    some (false, x205.2)
set_option maxRecDepth 20000 in
theorem T_L_law_1455 (G : GX) (fu : Nat)  (hG : gt G = tbl) (k23 : Int32 → Mem → Option (Bool × Mem)) (hk23 : ∀ (v4 : Int32) (μ : Mem) (r : (Bool × Mem)), k23 v4 μ = some r → V G mL_law 23 [some (.null), some (.ref 0), some (.ref 85), some (.ref 128), some (.int v4), none, none, none] [] μ (.inl (some (.int (b2i r.1)))) (r.2)) : ∀ (v4 : Int32) (μ : Mem) (r : (Bool × Mem)) , D_L_law_1455 G fu k23 v4 μ = some r → V G mL_law 1455 [some (.null), some (.ref 0), some (.ref 85), some (.ref 128), some (.int v4), none, none, none] [] μ (.inl (some (.int (b2i r.1)))) (r.2) := by
  intro v4 μ r h
  unfold D_L_law_1455 at h
  refine V_aload_n dL_law_1455 rfl ?_
  refine V_aloadS_n dL_law_1456 rfl ?_
  refine V_iload dL_law_1457 rfl ?_
  refine V_iconst (v := 1) dL_law_1459 rfl ?_
  refine V_iadd dL_law_1460 ?_
  obtain ⟨g199, h⟩ := gu_o h
  refine V_sload dL_law_1461 (ib_in g199) ?_
  refine V_aloadS_n dL_law_1462 rfl ?_
  refine V_iload dL_law_1463 rfl ?_
  refine V_iconst (v := 2) dL_law_1465 rfl ?_
  refine V_iadd dL_law_1466 ?_
  obtain ⟨g200, h⟩ := gu_o h
  refine V_sload dL_law_1467 (ib_in g200) ?_
  refine V_aload_n dL_law_1468 rfl ?_
  obtain ⟨x201, y202, h⟩ := bi_o h
  refine V_callSX (as := [.ref 0, .int (gx G (Int32.toNatClampNeg (v4 + 1))), .int (gx G (Int32.toNatClampNeg (v4 + 2))), .ref 128]) (rest := []) dL_law_1469 os_mL_took rfl lk_RL_234 (by decide) (by decide) rfl rfl (Nat.le_of_ble_eq_true rfl) (VM_L_took G hG (gx G (Int32.toNatClampNeg (v4 + 1))) (gx G (Int32.toNatClampNeg (v4 + 2))) μ _ y202) ?_
  refine V_istore (lv2 := [some (.null), some (.ref 0), some (.ref 85), some (.ref 128), some (.int v4), some (.int x201.1), none, none]) dL_law_1472 (by decide) rfl ?_
  refine V_aload_n dL_law_1474 rfl ?_
  refine V_aloadS_n dL_law_1475 rfl ?_
  refine V_iload dL_law_1476 rfl ?_
  refine V_iconst (v := 1) dL_law_1478 rfl ?_
  refine V_iadd dL_law_1479 ?_
  obtain ⟨g203, h⟩ := gu_o h
  refine V_sload dL_law_1480 (ib_in g203) ?_
  refine V_aloadS_n dL_law_1481 rfl ?_
  refine V_iload dL_law_1482 rfl ?_
  refine V_iconst (v := 2) dL_law_1484 rfl ?_
  refine V_iadd dL_law_1485 ?_
  obtain ⟨g204, h⟩ := gu_o h
  refine V_sload dL_law_1486 (ib_in g204) ?_
  obtain ⟨x205, y206, h⟩ := bi_o h
  refine V_callV (as := [.int (gx G (Int32.toNatClampNeg (v4 + 1))), .int (gx G (Int32.toNatClampNeg (v4 + 2)))]) (q := 85) (rest := []) dL_law_1487 ov_mX7_took lk_RL_236 (by decide) (by decide) rfl rfl (Nat.le_of_ble_eq_true rfl) (tq_85 hG) rfl (VM_X7_took G hG (gx G (Int32.toNatClampNeg (v4 + 1))) (gx G (Int32.toNatClampNeg (v4 + 2))) x201.2 _ y206) ?_
  refine V_lstore (lv2 := [some (.null), some (.ref 0), some (.ref 85), some (.ref 128), some (.int v4), some (.int x201.1), some (.long x205.1), none]) dL_law_1490 (by decide) rfl ?_
  refine V_aload_n dL_law_1492 rfl ?_
  obtain ⟨x207, y208, h⟩ := bi_o h
  refine V_callV (as := []) (q := 85) (rest := []) dL_law_1493 ov_mX7_thrown lk_RL_175 (by decide) (by decide) rfl rfl (Nat.le_of_ble_eq_true rfl) (tq_85 hG) rfl (VM_X7_thrown G x205.2 hG _ y208) ?_
  refine V_iload dL_law_1496 rfl ?_
  by_cases c1498 : x207 = x201.1
  · rw [if_pos c1498] at h
    refine V_icmpeq_t (tgt := 1503) dL_law_1498 (by decide) c1498 ?_
    refine V_iload dL_law_1503 rfl ?_
    by_cases c1505 : x201.1 = 0
    · rw [if_pos c1505] at h
      refine V_ifne_f (tgt := 1519) dL_law_1505 (by decide) c1505 ?_
      refine V_aload_n dL_law_1508 rfl ?_
      refine V_iconst (v := 0) dL_law_1509 rfl ?_
      obtain ⟨g209, h⟩ := gu_o h
      refine V_laload dL_law_1510 (tq_128 hG) (ib_in g209) ?_
      refine V_lload dL_law_1511 rfl ?_
      refine V_lcmp dL_law_1513 ?_
      by_cases c1514 : (x205.2.2.1 128 (Int32.toNatClampNeg 0)) = x205.1
      · rw [if_pos c1514] at h
        refine V_ifeq_t (tgt := 1519) dL_law_1514 (by decide) ((lc_eq (x205.2.2.1 128 (Int32.toNatClampNeg 0)) x205.1).mpr c1514) ?_
        exact V_wk [true, true, true, true, true, false, false, false] rfl (T_L_law_1519 G fu hG k23 hk23 _ _ _ h)
      · rw [if_neg c1514] at h
        refine V_ifeq_f (tgt := 1519) dL_law_1514 (by decide) (fun z => c1514 ((lc_eq (x205.2.2.1 128 (Int32.toNatClampNeg 0)) x205.1).mp z)) ?_
        refine V_iconst (v := 0) dL_law_1517 rfl ?_
        cases h
        exact V_zret rfl (by decide) dL_law_1518
    · rw [if_neg c1505] at h
      refine V_ifne_t (tgt := 1519) dL_law_1505 (by decide) c1505 ?_
      exact V_wk [true, true, true, true, true, false, false, false] rfl (T_L_law_1519 G fu hG k23 hk23 _ _ _ h)
  · rw [if_neg c1498] at h
    refine V_icmpeq_f (tgt := 1503) dL_law_1498 (by decide) c1498 ?_
    refine V_iconst (v := 0) dL_law_1501 rfl ?_
    cases h
    exact V_zret rfl (by decide) dL_law_1502
def D_L_law_1586 (G : GX) (fu : Nat)  (k23 : Int32 → Mem → Option (Bool × Mem)) (v4 : Int32) (μ : Mem) : Option (Bool × Mem) :=
  D_L_law_3740 G fu k23 v4 μ
set_option maxRecDepth 20000 in
theorem T_L_law_1586 (G : GX) (fu : Nat)  (hG : gt G = tbl) (k23 : Int32 → Mem → Option (Bool × Mem)) (hk23 : ∀ (v4 : Int32) (μ : Mem) (r : (Bool × Mem)), k23 v4 μ = some r → V G mL_law 23 [some (.null), some (.ref 0), some (.ref 85), some (.ref 128), some (.int v4), none, none, none] [] μ (.inl (some (.int (b2i r.1)))) (r.2)) : ∀ (v4 : Int32) (μ : Mem) (r : (Bool × Mem)) , D_L_law_1586 G fu k23 v4 μ = some r → V G mL_law 1586 [some (.null), some (.ref 0), some (.ref 85), some (.ref 128), some (.int v4), none, none, none] [] μ (.inl (some (.int (b2i r.1)))) (r.2) := by
  intro v4 μ r h
  unfold D_L_law_1586 at h
  refine V_goto (tgt := 3740) dL_law_1586 (by decide) ?_
  exact V_wk [true, true, true, true, true, false, false, false] rfl (T_L_law_3740 G fu hG k23 hk23 _ _ _ h)
def D_L_law_1522 (G : GX) (fu : Nat)  (k23 : Int32 → Mem → Option (Bool × Mem)) (v4 : Int32) (μ : Mem) : Option (Bool × Mem) :=
  gu (ib (v4 + 1) (gn G)) <|
  gu (ib (v4 + 2) (gn G)) <|
  (D_L_hole_0 (gx G (Int32.toNatClampNeg (v4 + 1))) (gx G (Int32.toNatClampNeg (v4 + 2))) μ).bind fun x212 =>
  gu (ib (v4 + 1) (gn G)) <|
  gu (ib (v4 + 2) (gn G)) <|
  (D_X7_hole_0 (gx G (Int32.toNatClampNeg (v4 + 1))) (gx G (Int32.toNatClampNeg (v4 + 2))) x212.2).bind fun x216 =>
  (D_X7_thrown_0 x216.2).bind fun x218 =>
  if x218 = x212.1 then
    if x212.1 = 0 then
      gu (ib 0 1) <|
      if (x216.2.2.1 128 (Int32.toNatClampNeg 0)) = x216.1 then
        D_L_law_1586 G fu k23 v4 x216.2
      else
        some (false, x216.2)
    else
      D_L_law_1586 G fu k23 v4 x216.2
  else
    some (false, x216.2)
set_option maxRecDepth 20000 in
theorem T_L_law_1522 (G : GX) (fu : Nat)  (hG : gt G = tbl) (k23 : Int32 → Mem → Option (Bool × Mem)) (hk23 : ∀ (v4 : Int32) (μ : Mem) (r : (Bool × Mem)), k23 v4 μ = some r → V G mL_law 23 [some (.null), some (.ref 0), some (.ref 85), some (.ref 128), some (.int v4), none, none, none] [] μ (.inl (some (.int (b2i r.1)))) (r.2)) : ∀ (v4 : Int32) (μ : Mem) (r : (Bool × Mem)) , D_L_law_1522 G fu k23 v4 μ = some r → V G mL_law 1522 [some (.null), some (.ref 0), some (.ref 85), some (.ref 128), some (.int v4), none, none, none] [] μ (.inl (some (.int (b2i r.1)))) (r.2) := by
  intro v4 μ r h
  unfold D_L_law_1522 at h
  refine V_aload_n dL_law_1522 rfl ?_
  refine V_aloadS_n dL_law_1523 rfl ?_
  refine V_iload dL_law_1524 rfl ?_
  refine V_iconst (v := 1) dL_law_1526 rfl ?_
  refine V_iadd dL_law_1527 ?_
  obtain ⟨g210, h⟩ := gu_o h
  refine V_sload dL_law_1528 (ib_in g210) ?_
  refine V_aloadS_n dL_law_1529 rfl ?_
  refine V_iload dL_law_1530 rfl ?_
  refine V_iconst (v := 2) dL_law_1532 rfl ?_
  refine V_iadd dL_law_1533 ?_
  obtain ⟨g211, h⟩ := gu_o h
  refine V_sload dL_law_1534 (ib_in g211) ?_
  refine V_aload_n dL_law_1535 rfl ?_
  obtain ⟨x212, y213, h⟩ := bi_o h
  refine V_callSX (as := [.ref 0, .int (gx G (Int32.toNatClampNeg (v4 + 1))), .int (gx G (Int32.toNatClampNeg (v4 + 2))), .ref 128]) (rest := []) dL_law_1536 os_mL_hole rfl lk_RL_237 (by decide) (by decide) rfl rfl (Nat.le_of_ble_eq_true rfl) (VM_L_hole G hG (gx G (Int32.toNatClampNeg (v4 + 1))) (gx G (Int32.toNatClampNeg (v4 + 2))) μ _ y213) ?_
  refine V_istore (lv2 := [some (.null), some (.ref 0), some (.ref 85), some (.ref 128), some (.int v4), some (.int x212.1), none, none]) dL_law_1539 (by decide) rfl ?_
  refine V_aload_n dL_law_1541 rfl ?_
  refine V_aloadS_n dL_law_1542 rfl ?_
  refine V_iload dL_law_1543 rfl ?_
  refine V_iconst (v := 1) dL_law_1545 rfl ?_
  refine V_iadd dL_law_1546 ?_
  obtain ⟨g214, h⟩ := gu_o h
  refine V_sload dL_law_1547 (ib_in g214) ?_
  refine V_aloadS_n dL_law_1548 rfl ?_
  refine V_iload dL_law_1549 rfl ?_
  refine V_iconst (v := 2) dL_law_1551 rfl ?_
  refine V_iadd dL_law_1552 ?_
  obtain ⟨g215, h⟩ := gu_o h
  refine V_sload dL_law_1553 (ib_in g215) ?_
  obtain ⟨x216, y217, h⟩ := bi_o h
  refine V_callV (as := [.int (gx G (Int32.toNatClampNeg (v4 + 1))), .int (gx G (Int32.toNatClampNeg (v4 + 2)))]) (q := 85) (rest := []) dL_law_1554 ov_mX7_hole lk_RL_239 (by decide) (by decide) rfl rfl (Nat.le_of_ble_eq_true rfl) (tq_85 hG) rfl (VM_X7_hole G hG (gx G (Int32.toNatClampNeg (v4 + 1))) (gx G (Int32.toNatClampNeg (v4 + 2))) x212.2 _ y217) ?_
  refine V_lstore (lv2 := [some (.null), some (.ref 0), some (.ref 85), some (.ref 128), some (.int v4), some (.int x212.1), some (.long x216.1), none]) dL_law_1557 (by decide) rfl ?_
  refine V_aload_n dL_law_1559 rfl ?_
  obtain ⟨x218, y219, h⟩ := bi_o h
  refine V_callV (as := []) (q := 85) (rest := []) dL_law_1560 ov_mX7_thrown lk_RL_175 (by decide) (by decide) rfl rfl (Nat.le_of_ble_eq_true rfl) (tq_85 hG) rfl (VM_X7_thrown G x216.2 hG _ y219) ?_
  refine V_iload dL_law_1563 rfl ?_
  by_cases c1565 : x218 = x212.1
  · rw [if_pos c1565] at h
    refine V_icmpeq_t (tgt := 1570) dL_law_1565 (by decide) c1565 ?_
    refine V_iload dL_law_1570 rfl ?_
    by_cases c1572 : x212.1 = 0
    · rw [if_pos c1572] at h
      refine V_ifne_f (tgt := 1586) dL_law_1572 (by decide) c1572 ?_
      refine V_aload_n dL_law_1575 rfl ?_
      refine V_iconst (v := 0) dL_law_1576 rfl ?_
      obtain ⟨g220, h⟩ := gu_o h
      refine V_laload dL_law_1577 (tq_128 hG) (ib_in g220) ?_
      refine V_lload dL_law_1578 rfl ?_
      refine V_lcmp dL_law_1580 ?_
      by_cases c1581 : (x216.2.2.1 128 (Int32.toNatClampNeg 0)) = x216.1
      · rw [if_pos c1581] at h
        refine V_ifeq_t (tgt := 1586) dL_law_1581 (by decide) ((lc_eq (x216.2.2.1 128 (Int32.toNatClampNeg 0)) x216.1).mpr c1581) ?_
        exact V_wk [true, true, true, true, true, false, false, false] rfl (T_L_law_1586 G fu hG k23 hk23 _ _ _ h)
      · rw [if_neg c1581] at h
        refine V_ifeq_f (tgt := 1586) dL_law_1581 (by decide) (fun z => c1581 ((lc_eq (x216.2.2.1 128 (Int32.toNatClampNeg 0)) x216.1).mp z)) ?_
        refine V_iconst (v := 0) dL_law_1584 rfl ?_
        cases h
        exact V_zret rfl (by decide) dL_law_1585
    · rw [if_neg c1572] at h
      refine V_ifne_t (tgt := 1586) dL_law_1572 (by decide) c1572 ?_
      exact V_wk [true, true, true, true, true, false, false, false] rfl (T_L_law_1586 G fu hG k23 hk23 _ _ _ h)
  · rw [if_neg c1565] at h
    refine V_icmpeq_f (tgt := 1570) dL_law_1565 (by decide) c1565 ?_
    refine V_iconst (v := 0) dL_law_1568 rfl ?_
    cases h
    exact V_zret rfl (by decide) dL_law_1569
def D_L_law_1653 (G : GX) (fu : Nat)  (k23 : Int32 → Mem → Option (Bool × Mem)) (v4 : Int32) (μ : Mem) : Option (Bool × Mem) :=
  D_L_law_3740 G fu k23 v4 μ
set_option maxRecDepth 20000 in
theorem T_L_law_1653 (G : GX) (fu : Nat)  (hG : gt G = tbl) (k23 : Int32 → Mem → Option (Bool × Mem)) (hk23 : ∀ (v4 : Int32) (μ : Mem) (r : (Bool × Mem)), k23 v4 μ = some r → V G mL_law 23 [some (.null), some (.ref 0), some (.ref 85), some (.ref 128), some (.int v4), none, none, none] [] μ (.inl (some (.int (b2i r.1)))) (r.2)) : ∀ (v4 : Int32) (μ : Mem) (r : (Bool × Mem)) , D_L_law_1653 G fu k23 v4 μ = some r → V G mL_law 1653 [some (.null), some (.ref 0), some (.ref 85), some (.ref 128), some (.int v4), none, none, none] [] μ (.inl (some (.int (b2i r.1)))) (r.2) := by
  intro v4 μ r h
  unfold D_L_law_1653 at h
  refine V_goto (tgt := 3740) dL_law_1653 (by decide) ?_
  exact V_wk [true, true, true, true, true, false, false, false] rfl (T_L_law_3740 G fu hG k23 hk23 _ _ _ h)
def D_L_law_1589 (G : GX) (fu : Nat)  (k23 : Int32 → Mem → Option (Bool × Mem)) (v4 : Int32) (μ : Mem) : Option (Bool × Mem) :=
  gu (ib (v4 + 1) (gn G)) <|
  gu (ib (v4 + 2) (gn G)) <|
  (D_L_moved_0 (gx G (Int32.toNatClampNeg (v4 + 1))) (gx G (Int32.toNatClampNeg (v4 + 2))) μ).bind fun x223 =>
  gu (ib (v4 + 1) (gn G)) <|
  gu (ib (v4 + 2) (gn G)) <|
  (D_X7_moved_0 (gx G (Int32.toNatClampNeg (v4 + 1))) (gx G (Int32.toNatClampNeg (v4 + 2))) x223.2).bind fun x227 =>
  (D_X7_thrown_0 x227.2).bind fun x229 =>
  if x229 = x223.1 then
    if x223.1 = 0 then
      gu (ib 0 1) <|
      if (x227.2.2.1 128 (Int32.toNatClampNeg 0)) = x227.1 then
        D_L_law_1653 G fu k23 v4 x227.2
      else
        some (false, x227.2)
    else
      D_L_law_1653 G fu k23 v4 x227.2
  else
    some (false, x227.2)
set_option maxRecDepth 20000 in
theorem T_L_law_1589 (G : GX) (fu : Nat)  (hG : gt G = tbl) (k23 : Int32 → Mem → Option (Bool × Mem)) (hk23 : ∀ (v4 : Int32) (μ : Mem) (r : (Bool × Mem)), k23 v4 μ = some r → V G mL_law 23 [some (.null), some (.ref 0), some (.ref 85), some (.ref 128), some (.int v4), none, none, none] [] μ (.inl (some (.int (b2i r.1)))) (r.2)) : ∀ (v4 : Int32) (μ : Mem) (r : (Bool × Mem)) , D_L_law_1589 G fu k23 v4 μ = some r → V G mL_law 1589 [some (.null), some (.ref 0), some (.ref 85), some (.ref 128), some (.int v4), none, none, none] [] μ (.inl (some (.int (b2i r.1)))) (r.2) := by
  intro v4 μ r h
  unfold D_L_law_1589 at h
  refine V_aload_n dL_law_1589 rfl ?_
  refine V_aloadS_n dL_law_1590 rfl ?_
  refine V_iload dL_law_1591 rfl ?_
  refine V_iconst (v := 1) dL_law_1593 rfl ?_
  refine V_iadd dL_law_1594 ?_
  obtain ⟨g221, h⟩ := gu_o h
  refine V_sload dL_law_1595 (ib_in g221) ?_
  refine V_aloadS_n dL_law_1596 rfl ?_
  refine V_iload dL_law_1597 rfl ?_
  refine V_iconst (v := 2) dL_law_1599 rfl ?_
  refine V_iadd dL_law_1600 ?_
  obtain ⟨g222, h⟩ := gu_o h
  refine V_sload dL_law_1601 (ib_in g222) ?_
  refine V_aload_n dL_law_1602 rfl ?_
  obtain ⟨x223, y224, h⟩ := bi_o h
  refine V_callSX (as := [.ref 0, .int (gx G (Int32.toNatClampNeg (v4 + 1))), .int (gx G (Int32.toNatClampNeg (v4 + 2))), .ref 128]) (rest := []) dL_law_1603 os_mL_moved rfl lk_RL_240 (by decide) (by decide) rfl rfl (Nat.le_of_ble_eq_true rfl) (VM_L_moved G hG (gx G (Int32.toNatClampNeg (v4 + 1))) (gx G (Int32.toNatClampNeg (v4 + 2))) μ _ y224) ?_
  refine V_istore (lv2 := [some (.null), some (.ref 0), some (.ref 85), some (.ref 128), some (.int v4), some (.int x223.1), none, none]) dL_law_1606 (by decide) rfl ?_
  refine V_aload_n dL_law_1608 rfl ?_
  refine V_aloadS_n dL_law_1609 rfl ?_
  refine V_iload dL_law_1610 rfl ?_
  refine V_iconst (v := 1) dL_law_1612 rfl ?_
  refine V_iadd dL_law_1613 ?_
  obtain ⟨g225, h⟩ := gu_o h
  refine V_sload dL_law_1614 (ib_in g225) ?_
  refine V_aloadS_n dL_law_1615 rfl ?_
  refine V_iload dL_law_1616 rfl ?_
  refine V_iconst (v := 2) dL_law_1618 rfl ?_
  refine V_iadd dL_law_1619 ?_
  obtain ⟨g226, h⟩ := gu_o h
  refine V_sload dL_law_1620 (ib_in g226) ?_
  obtain ⟨x227, y228, h⟩ := bi_o h
  refine V_callV (as := [.int (gx G (Int32.toNatClampNeg (v4 + 1))), .int (gx G (Int32.toNatClampNeg (v4 + 2)))]) (q := 85) (rest := []) dL_law_1621 ov_mX7_moved lk_RL_242 (by decide) (by decide) rfl rfl (Nat.le_of_ble_eq_true rfl) (tq_85 hG) rfl (VM_X7_moved G hG (gx G (Int32.toNatClampNeg (v4 + 1))) (gx G (Int32.toNatClampNeg (v4 + 2))) x223.2 _ y228) ?_
  refine V_lstore (lv2 := [some (.null), some (.ref 0), some (.ref 85), some (.ref 128), some (.int v4), some (.int x223.1), some (.long x227.1), none]) dL_law_1624 (by decide) rfl ?_
  refine V_aload_n dL_law_1626 rfl ?_
  obtain ⟨x229, y230, h⟩ := bi_o h
  refine V_callV (as := []) (q := 85) (rest := []) dL_law_1627 ov_mX7_thrown lk_RL_175 (by decide) (by decide) rfl rfl (Nat.le_of_ble_eq_true rfl) (tq_85 hG) rfl (VM_X7_thrown G x227.2 hG _ y230) ?_
  refine V_iload dL_law_1630 rfl ?_
  by_cases c1632 : x229 = x223.1
  · rw [if_pos c1632] at h
    refine V_icmpeq_t (tgt := 1637) dL_law_1632 (by decide) c1632 ?_
    refine V_iload dL_law_1637 rfl ?_
    by_cases c1639 : x223.1 = 0
    · rw [if_pos c1639] at h
      refine V_ifne_f (tgt := 1653) dL_law_1639 (by decide) c1639 ?_
      refine V_aload_n dL_law_1642 rfl ?_
      refine V_iconst (v := 0) dL_law_1643 rfl ?_
      obtain ⟨g231, h⟩ := gu_o h
      refine V_laload dL_law_1644 (tq_128 hG) (ib_in g231) ?_
      refine V_lload dL_law_1645 rfl ?_
      refine V_lcmp dL_law_1647 ?_
      by_cases c1648 : (x227.2.2.1 128 (Int32.toNatClampNeg 0)) = x227.1
      · rw [if_pos c1648] at h
        refine V_ifeq_t (tgt := 1653) dL_law_1648 (by decide) ((lc_eq (x227.2.2.1 128 (Int32.toNatClampNeg 0)) x227.1).mpr c1648) ?_
        exact V_wk [true, true, true, true, true, false, false, false] rfl (T_L_law_1653 G fu hG k23 hk23 _ _ _ h)
      · rw [if_neg c1648] at h
        refine V_ifeq_f (tgt := 1653) dL_law_1648 (by decide) (fun z => c1648 ((lc_eq (x227.2.2.1 128 (Int32.toNatClampNeg 0)) x227.1).mp z)) ?_
        refine V_iconst (v := 0) dL_law_1651 rfl ?_
        cases h
        exact V_zret rfl (by decide) dL_law_1652
    · rw [if_neg c1639] at h
      refine V_ifne_t (tgt := 1653) dL_law_1639 (by decide) c1639 ?_
      exact V_wk [true, true, true, true, true, false, false, false] rfl (T_L_law_1653 G fu hG k23 hk23 _ _ _ h)
  · rw [if_neg c1632] at h
    refine V_icmpeq_f (tgt := 1637) dL_law_1632 (by decide) c1632 ?_
    refine V_iconst (v := 0) dL_law_1635 rfl ?_
    cases h
    exact V_zret rfl (by decide) dL_law_1636
def D_L_law_1720 (G : GX) (fu : Nat)  (k23 : Int32 → Mem → Option (Bool × Mem)) (v4 : Int32) (μ : Mem) : Option (Bool × Mem) :=
  D_L_law_3740 G fu k23 v4 μ
set_option maxRecDepth 20000 in
theorem T_L_law_1720 (G : GX) (fu : Nat)  (hG : gt G = tbl) (k23 : Int32 → Mem → Option (Bool × Mem)) (hk23 : ∀ (v4 : Int32) (μ : Mem) (r : (Bool × Mem)), k23 v4 μ = some r → V G mL_law 23 [some (.null), some (.ref 0), some (.ref 85), some (.ref 128), some (.int v4), none, none, none] [] μ (.inl (some (.int (b2i r.1)))) (r.2)) : ∀ (v4 : Int32) (μ : Mem) (r : (Bool × Mem)) , D_L_law_1720 G fu k23 v4 μ = some r → V G mL_law 1720 [some (.null), some (.ref 0), some (.ref 85), some (.ref 128), some (.int v4), none, none, none] [] μ (.inl (some (.int (b2i r.1)))) (r.2) := by
  intro v4 μ r h
  unfold D_L_law_1720 at h
  refine V_goto (tgt := 3740) dL_law_1720 (by decide) ?_
  exact V_wk [true, true, true, true, true, false, false, false] rfl (T_L_law_3740 G fu hG k23 hk23 _ _ _ h)
def D_L_law_1656 (G : GX) (fu : Nat)  (k23 : Int32 → Mem → Option (Bool × Mem)) (v4 : Int32) (μ : Mem) : Option (Bool × Mem) :=
  gu (ib (v4 + 1) (gn G)) <|
  gu (ib (v4 + 2) (gn G)) <|
  (D_L_bears_0 (gx G (Int32.toNatClampNeg (v4 + 1))) (gx G (Int32.toNatClampNeg (v4 + 2))) μ).bind fun x234 =>
  gu (ib (v4 + 1) (gn G)) <|
  gu (ib (v4 + 2) (gn G)) <|
  (D_X7_bears_0 fu (gx G (Int32.toNatClampNeg (v4 + 1))) (gx G (Int32.toNatClampNeg (v4 + 2))) x234.2).bind fun x238 =>
  (D_X7_thrown_0 x238.2).bind fun x240 =>
  if x240 = x234.1 then
    if x234.1 = 0 then
      gu (ib 0 1) <|
      if (x238.2.2.1 128 (Int32.toNatClampNeg 0)) = x238.1 then
        D_L_law_1720 G fu k23 v4 x238.2
      else
        some (false, x238.2)
    else
      D_L_law_1720 G fu k23 v4 x238.2
  else
    some (false, x238.2)
set_option maxRecDepth 20000 in
theorem T_L_law_1656 (G : GX) (fu : Nat)  (hG : gt G = tbl) (k23 : Int32 → Mem → Option (Bool × Mem)) (hk23 : ∀ (v4 : Int32) (μ : Mem) (r : (Bool × Mem)), k23 v4 μ = some r → V G mL_law 23 [some (.null), some (.ref 0), some (.ref 85), some (.ref 128), some (.int v4), none, none, none] [] μ (.inl (some (.int (b2i r.1)))) (r.2)) : ∀ (v4 : Int32) (μ : Mem) (r : (Bool × Mem)) , D_L_law_1656 G fu k23 v4 μ = some r → V G mL_law 1656 [some (.null), some (.ref 0), some (.ref 85), some (.ref 128), some (.int v4), none, none, none] [] μ (.inl (some (.int (b2i r.1)))) (r.2) := by
  intro v4 μ r h
  unfold D_L_law_1656 at h
  refine V_aload_n dL_law_1656 rfl ?_
  refine V_aloadS_n dL_law_1657 rfl ?_
  refine V_iload dL_law_1658 rfl ?_
  refine V_iconst (v := 1) dL_law_1660 rfl ?_
  refine V_iadd dL_law_1661 ?_
  obtain ⟨g232, h⟩ := gu_o h
  refine V_sload dL_law_1662 (ib_in g232) ?_
  refine V_aloadS_n dL_law_1663 rfl ?_
  refine V_iload dL_law_1664 rfl ?_
  refine V_iconst (v := 2) dL_law_1666 rfl ?_
  refine V_iadd dL_law_1667 ?_
  obtain ⟨g233, h⟩ := gu_o h
  refine V_sload dL_law_1668 (ib_in g233) ?_
  refine V_aload_n dL_law_1669 rfl ?_
  obtain ⟨x234, y235, h⟩ := bi_o h
  refine V_callSX (as := [.ref 0, .int (gx G (Int32.toNatClampNeg (v4 + 1))), .int (gx G (Int32.toNatClampNeg (v4 + 2))), .ref 128]) (rest := []) dL_law_1670 os_mL_bears rfl lk_RL_243 (by decide) (by decide) rfl rfl (Nat.le_of_ble_eq_true rfl) (VM_L_bears G hG (gx G (Int32.toNatClampNeg (v4 + 1))) (gx G (Int32.toNatClampNeg (v4 + 2))) μ _ y235) ?_
  refine V_istore (lv2 := [some (.null), some (.ref 0), some (.ref 85), some (.ref 128), some (.int v4), some (.int x234.1), none, none]) dL_law_1673 (by decide) rfl ?_
  refine V_aload_n dL_law_1675 rfl ?_
  refine V_aloadS_n dL_law_1676 rfl ?_
  refine V_iload dL_law_1677 rfl ?_
  refine V_iconst (v := 1) dL_law_1679 rfl ?_
  refine V_iadd dL_law_1680 ?_
  obtain ⟨g236, h⟩ := gu_o h
  refine V_sload dL_law_1681 (ib_in g236) ?_
  refine V_aloadS_n dL_law_1682 rfl ?_
  refine V_iload dL_law_1683 rfl ?_
  refine V_iconst (v := 2) dL_law_1685 rfl ?_
  refine V_iadd dL_law_1686 ?_
  obtain ⟨g237, h⟩ := gu_o h
  refine V_sload dL_law_1687 (ib_in g237) ?_
  obtain ⟨x238, y239, h⟩ := bi_o h
  refine V_callV (as := [.int (gx G (Int32.toNatClampNeg (v4 + 1))), .int (gx G (Int32.toNatClampNeg (v4 + 2)))]) (q := 85) (rest := []) dL_law_1688 ov_mX7_bears lk_RL_245 (by decide) (by decide) rfl rfl (Nat.le_of_ble_eq_true rfl) (tq_85 hG) rfl (VM_X7_bears G fu hG (gx G (Int32.toNatClampNeg (v4 + 1))) (gx G (Int32.toNatClampNeg (v4 + 2))) x234.2 _ y239) ?_
  refine V_lstore (lv2 := [some (.null), some (.ref 0), some (.ref 85), some (.ref 128), some (.int v4), some (.int x234.1), some (.long x238.1), none]) dL_law_1691 (by decide) rfl ?_
  refine V_aload_n dL_law_1693 rfl ?_
  obtain ⟨x240, y241, h⟩ := bi_o h
  refine V_callV (as := []) (q := 85) (rest := []) dL_law_1694 ov_mX7_thrown lk_RL_175 (by decide) (by decide) rfl rfl (Nat.le_of_ble_eq_true rfl) (tq_85 hG) rfl (VM_X7_thrown G x238.2 hG _ y241) ?_
  refine V_iload dL_law_1697 rfl ?_
  by_cases c1699 : x240 = x234.1
  · rw [if_pos c1699] at h
    refine V_icmpeq_t (tgt := 1704) dL_law_1699 (by decide) c1699 ?_
    refine V_iload dL_law_1704 rfl ?_
    by_cases c1706 : x234.1 = 0
    · rw [if_pos c1706] at h
      refine V_ifne_f (tgt := 1720) dL_law_1706 (by decide) c1706 ?_
      refine V_aload_n dL_law_1709 rfl ?_
      refine V_iconst (v := 0) dL_law_1710 rfl ?_
      obtain ⟨g242, h⟩ := gu_o h
      refine V_laload dL_law_1711 (tq_128 hG) (ib_in g242) ?_
      refine V_lload dL_law_1712 rfl ?_
      refine V_lcmp dL_law_1714 ?_
      by_cases c1715 : (x238.2.2.1 128 (Int32.toNatClampNeg 0)) = x238.1
      · rw [if_pos c1715] at h
        refine V_ifeq_t (tgt := 1720) dL_law_1715 (by decide) ((lc_eq (x238.2.2.1 128 (Int32.toNatClampNeg 0)) x238.1).mpr c1715) ?_
        exact V_wk [true, true, true, true, true, false, false, false] rfl (T_L_law_1720 G fu hG k23 hk23 _ _ _ h)
      · rw [if_neg c1715] at h
        refine V_ifeq_f (tgt := 1720) dL_law_1715 (by decide) (fun z => c1715 ((lc_eq (x238.2.2.1 128 (Int32.toNatClampNeg 0)) x238.1).mp z)) ?_
        refine V_iconst (v := 0) dL_law_1718 rfl ?_
        cases h
        exact V_zret rfl (by decide) dL_law_1719
    · rw [if_neg c1706] at h
      refine V_ifne_t (tgt := 1720) dL_law_1706 (by decide) c1706 ?_
      exact V_wk [true, true, true, true, true, false, false, false] rfl (T_L_law_1720 G fu hG k23 hk23 _ _ _ h)
  · rw [if_neg c1699] at h
    refine V_icmpeq_f (tgt := 1704) dL_law_1699 (by decide) c1699 ?_
    refine V_iconst (v := 0) dL_law_1702 rfl ?_
    cases h
    exact V_zret rfl (by decide) dL_law_1703
def D_L_law_1787 (G : GX) (fu : Nat)  (k23 : Int32 → Mem → Option (Bool × Mem)) (v4 : Int32) (μ : Mem) : Option (Bool × Mem) :=
  D_L_law_3740 G fu k23 v4 μ
set_option maxRecDepth 20000 in
theorem T_L_law_1787 (G : GX) (fu : Nat)  (hG : gt G = tbl) (k23 : Int32 → Mem → Option (Bool × Mem)) (hk23 : ∀ (v4 : Int32) (μ : Mem) (r : (Bool × Mem)), k23 v4 μ = some r → V G mL_law 23 [some (.null), some (.ref 0), some (.ref 85), some (.ref 128), some (.int v4), none, none, none] [] μ (.inl (some (.int (b2i r.1)))) (r.2)) : ∀ (v4 : Int32) (μ : Mem) (r : (Bool × Mem)) , D_L_law_1787 G fu k23 v4 μ = some r → V G mL_law 1787 [some (.null), some (.ref 0), some (.ref 85), some (.ref 128), some (.int v4), none, none, none] [] μ (.inl (some (.int (b2i r.1)))) (r.2) := by
  intro v4 μ r h
  unfold D_L_law_1787 at h
  refine V_goto (tgt := 3740) dL_law_1787 (by decide) ?_
  exact V_wk [true, true, true, true, true, false, false, false] rfl (T_L_law_3740 G fu hG k23 hk23 _ _ _ h)
def D_L_law_1723 (G : GX) (fu : Nat)  (k23 : Int32 → Mem → Option (Bool × Mem)) (v4 : Int32) (μ : Mem) : Option (Bool × Mem) :=
  gu (ib (v4 + 1) (gn G)) <|
  gu (ib (v4 + 2) (gn G)) <|
  (D_L_falls_0 (gx G (Int32.toNatClampNeg (v4 + 1))) (gx G (Int32.toNatClampNeg (v4 + 2))) μ).bind fun x245 =>
  gu (ib (v4 + 1) (gn G)) <|
  gu (ib (v4 + 2) (gn G)) <|
  (D_X7_falls_0 (gx G (Int32.toNatClampNeg (v4 + 1))) (gx G (Int32.toNatClampNeg (v4 + 2))) x245.2).bind fun x249 =>
  (D_X7_thrown_0 x249.2).bind fun x251 =>
  if x251 = x245.1 then
    if x245.1 = 0 then
      gu (ib 0 1) <|
      if (x249.2.2.1 128 (Int32.toNatClampNeg 0)) = x249.1 then
        D_L_law_1787 G fu k23 v4 x249.2
      else
        some (false, x249.2)
    else
      D_L_law_1787 G fu k23 v4 x249.2
  else
    some (false, x249.2)
set_option maxRecDepth 20000 in
theorem T_L_law_1723 (G : GX) (fu : Nat)  (hG : gt G = tbl) (k23 : Int32 → Mem → Option (Bool × Mem)) (hk23 : ∀ (v4 : Int32) (μ : Mem) (r : (Bool × Mem)), k23 v4 μ = some r → V G mL_law 23 [some (.null), some (.ref 0), some (.ref 85), some (.ref 128), some (.int v4), none, none, none] [] μ (.inl (some (.int (b2i r.1)))) (r.2)) : ∀ (v4 : Int32) (μ : Mem) (r : (Bool × Mem)) , D_L_law_1723 G fu k23 v4 μ = some r → V G mL_law 1723 [some (.null), some (.ref 0), some (.ref 85), some (.ref 128), some (.int v4), none, none, none] [] μ (.inl (some (.int (b2i r.1)))) (r.2) := by
  intro v4 μ r h
  unfold D_L_law_1723 at h
  refine V_aload_n dL_law_1723 rfl ?_
  refine V_aloadS_n dL_law_1724 rfl ?_
  refine V_iload dL_law_1725 rfl ?_
  refine V_iconst (v := 1) dL_law_1727 rfl ?_
  refine V_iadd dL_law_1728 ?_
  obtain ⟨g243, h⟩ := gu_o h
  refine V_sload dL_law_1729 (ib_in g243) ?_
  refine V_aloadS_n dL_law_1730 rfl ?_
  refine V_iload dL_law_1731 rfl ?_
  refine V_iconst (v := 2) dL_law_1733 rfl ?_
  refine V_iadd dL_law_1734 ?_
  obtain ⟨g244, h⟩ := gu_o h
  refine V_sload dL_law_1735 (ib_in g244) ?_
  refine V_aload_n dL_law_1736 rfl ?_
  obtain ⟨x245, y246, h⟩ := bi_o h
  refine V_callSX (as := [.ref 0, .int (gx G (Int32.toNatClampNeg (v4 + 1))), .int (gx G (Int32.toNatClampNeg (v4 + 2))), .ref 128]) (rest := []) dL_law_1737 os_mL_falls rfl lk_RL_246 (by decide) (by decide) rfl rfl (Nat.le_of_ble_eq_true rfl) (VM_L_falls G hG (gx G (Int32.toNatClampNeg (v4 + 1))) (gx G (Int32.toNatClampNeg (v4 + 2))) μ _ y246) ?_
  refine V_istore (lv2 := [some (.null), some (.ref 0), some (.ref 85), some (.ref 128), some (.int v4), some (.int x245.1), none, none]) dL_law_1740 (by decide) rfl ?_
  refine V_aload_n dL_law_1742 rfl ?_
  refine V_aloadS_n dL_law_1743 rfl ?_
  refine V_iload dL_law_1744 rfl ?_
  refine V_iconst (v := 1) dL_law_1746 rfl ?_
  refine V_iadd dL_law_1747 ?_
  obtain ⟨g247, h⟩ := gu_o h
  refine V_sload dL_law_1748 (ib_in g247) ?_
  refine V_aloadS_n dL_law_1749 rfl ?_
  refine V_iload dL_law_1750 rfl ?_
  refine V_iconst (v := 2) dL_law_1752 rfl ?_
  refine V_iadd dL_law_1753 ?_
  obtain ⟨g248, h⟩ := gu_o h
  refine V_sload dL_law_1754 (ib_in g248) ?_
  obtain ⟨x249, y250, h⟩ := bi_o h
  refine V_callV (as := [.int (gx G (Int32.toNatClampNeg (v4 + 1))), .int (gx G (Int32.toNatClampNeg (v4 + 2)))]) (q := 85) (rest := []) dL_law_1755 ov_mX7_falls lk_RL_248 (by decide) (by decide) rfl rfl (Nat.le_of_ble_eq_true rfl) (tq_85 hG) rfl (VM_X7_falls G hG (gx G (Int32.toNatClampNeg (v4 + 1))) (gx G (Int32.toNatClampNeg (v4 + 2))) x245.2 _ y250) ?_
  refine V_lstore (lv2 := [some (.null), some (.ref 0), some (.ref 85), some (.ref 128), some (.int v4), some (.int x245.1), some (.long x249.1), none]) dL_law_1758 (by decide) rfl ?_
  refine V_aload_n dL_law_1760 rfl ?_
  obtain ⟨x251, y252, h⟩ := bi_o h
  refine V_callV (as := []) (q := 85) (rest := []) dL_law_1761 ov_mX7_thrown lk_RL_175 (by decide) (by decide) rfl rfl (Nat.le_of_ble_eq_true rfl) (tq_85 hG) rfl (VM_X7_thrown G x249.2 hG _ y252) ?_
  refine V_iload dL_law_1764 rfl ?_
  by_cases c1766 : x251 = x245.1
  · rw [if_pos c1766] at h
    refine V_icmpeq_t (tgt := 1771) dL_law_1766 (by decide) c1766 ?_
    refine V_iload dL_law_1771 rfl ?_
    by_cases c1773 : x245.1 = 0
    · rw [if_pos c1773] at h
      refine V_ifne_f (tgt := 1787) dL_law_1773 (by decide) c1773 ?_
      refine V_aload_n dL_law_1776 rfl ?_
      refine V_iconst (v := 0) dL_law_1777 rfl ?_
      obtain ⟨g253, h⟩ := gu_o h
      refine V_laload dL_law_1778 (tq_128 hG) (ib_in g253) ?_
      refine V_lload dL_law_1779 rfl ?_
      refine V_lcmp dL_law_1781 ?_
      by_cases c1782 : (x249.2.2.1 128 (Int32.toNatClampNeg 0)) = x249.1
      · rw [if_pos c1782] at h
        refine V_ifeq_t (tgt := 1787) dL_law_1782 (by decide) ((lc_eq (x249.2.2.1 128 (Int32.toNatClampNeg 0)) x249.1).mpr c1782) ?_
        exact V_wk [true, true, true, true, true, false, false, false] rfl (T_L_law_1787 G fu hG k23 hk23 _ _ _ h)
      · rw [if_neg c1782] at h
        refine V_ifeq_f (tgt := 1787) dL_law_1782 (by decide) (fun z => c1782 ((lc_eq (x249.2.2.1 128 (Int32.toNatClampNeg 0)) x249.1).mp z)) ?_
        refine V_iconst (v := 0) dL_law_1785 rfl ?_
        cases h
        exact V_zret rfl (by decide) dL_law_1786
    · rw [if_neg c1773] at h
      refine V_ifne_t (tgt := 1787) dL_law_1773 (by decide) c1773 ?_
      exact V_wk [true, true, true, true, true, false, false, false] rfl (T_L_law_1787 G fu hG k23 hk23 _ _ _ h)
  · rw [if_neg c1766] at h
    refine V_icmpeq_f (tgt := 1771) dL_law_1766 (by decide) c1766 ?_
    refine V_iconst (v := 0) dL_law_1769 rfl ?_
    cases h
    exact V_zret rfl (by decide) dL_law_1770
def D_L_law_1854 (G : GX) (fu : Nat)  (k23 : Int32 → Mem → Option (Bool × Mem)) (v4 : Int32) (μ : Mem) : Option (Bool × Mem) :=
  D_L_law_3740 G fu k23 v4 μ
set_option maxRecDepth 20000 in
theorem T_L_law_1854 (G : GX) (fu : Nat)  (hG : gt G = tbl) (k23 : Int32 → Mem → Option (Bool × Mem)) (hk23 : ∀ (v4 : Int32) (μ : Mem) (r : (Bool × Mem)), k23 v4 μ = some r → V G mL_law 23 [some (.null), some (.ref 0), some (.ref 85), some (.ref 128), some (.int v4), none, none, none] [] μ (.inl (some (.int (b2i r.1)))) (r.2)) : ∀ (v4 : Int32) (μ : Mem) (r : (Bool × Mem)) , D_L_law_1854 G fu k23 v4 μ = some r → V G mL_law 1854 [some (.null), some (.ref 0), some (.ref 85), some (.ref 128), some (.int v4), none, none, none] [] μ (.inl (some (.int (b2i r.1)))) (r.2) := by
  intro v4 μ r h
  unfold D_L_law_1854 at h
  refine V_goto (tgt := 3740) dL_law_1854 (by decide) ?_
  exact V_wk [true, true, true, true, true, false, false, false] rfl (T_L_law_3740 G fu hG k23 hk23 _ _ _ h)
def D_L_law_1790 (G : GX) (fu : Nat)  (k23 : Int32 → Mem → Option (Bool × Mem)) (v4 : Int32) (μ : Mem) : Option (Bool × Mem) :=
  gu (ib (v4 + 1) (gn G)) <|
  gu (ib (v4 + 2) (gn G)) <|
  (D_L_insurer_0 fu (gx G (Int32.toNatClampNeg (v4 + 1))) (gx G (Int32.toNatClampNeg (v4 + 2))) μ).bind fun x256 =>
  gu (ib (v4 + 1) (gn G)) <|
  gu (ib (v4 + 2) (gn G)) <|
  (D_X7_insurer_0 fu (gx G (Int32.toNatClampNeg (v4 + 1))) (gx G (Int32.toNatClampNeg (v4 + 2))) x256.2).bind fun x260 =>
  (D_X7_thrown_0 x260.2).bind fun x262 =>
  if x262 = x256.1 then
    if x256.1 = 0 then
      gu (ib 0 1) <|
      if (x260.2.2.1 128 (Int32.toNatClampNeg 0)) = x260.1 then
        D_L_law_1854 G fu k23 v4 x260.2
      else
        some (false, x260.2)
    else
      D_L_law_1854 G fu k23 v4 x260.2
  else
    some (false, x260.2)
set_option maxRecDepth 20000 in
theorem T_L_law_1790 (G : GX) (fu : Nat)  (hG : gt G = tbl) (k23 : Int32 → Mem → Option (Bool × Mem)) (hk23 : ∀ (v4 : Int32) (μ : Mem) (r : (Bool × Mem)), k23 v4 μ = some r → V G mL_law 23 [some (.null), some (.ref 0), some (.ref 85), some (.ref 128), some (.int v4), none, none, none] [] μ (.inl (some (.int (b2i r.1)))) (r.2)) : ∀ (v4 : Int32) (μ : Mem) (r : (Bool × Mem)) , D_L_law_1790 G fu k23 v4 μ = some r → V G mL_law 1790 [some (.null), some (.ref 0), some (.ref 85), some (.ref 128), some (.int v4), none, none, none] [] μ (.inl (some (.int (b2i r.1)))) (r.2) := by
  intro v4 μ r h
  unfold D_L_law_1790 at h
  refine V_aload_n dL_law_1790 rfl ?_
  refine V_aloadS_n dL_law_1791 rfl ?_
  refine V_iload dL_law_1792 rfl ?_
  refine V_iconst (v := 1) dL_law_1794 rfl ?_
  refine V_iadd dL_law_1795 ?_
  obtain ⟨g254, h⟩ := gu_o h
  refine V_sload dL_law_1796 (ib_in g254) ?_
  refine V_aloadS_n dL_law_1797 rfl ?_
  refine V_iload dL_law_1798 rfl ?_
  refine V_iconst (v := 2) dL_law_1800 rfl ?_
  refine V_iadd dL_law_1801 ?_
  obtain ⟨g255, h⟩ := gu_o h
  refine V_sload dL_law_1802 (ib_in g255) ?_
  refine V_aload_n dL_law_1803 rfl ?_
  obtain ⟨x256, y257, h⟩ := bi_o h
  refine V_callSX (as := [.ref 0, .int (gx G (Int32.toNatClampNeg (v4 + 1))), .int (gx G (Int32.toNatClampNeg (v4 + 2))), .ref 128]) (rest := []) dL_law_1804 os_mL_insurer rfl lk_RL_249 (by decide) (by decide) rfl rfl (Nat.le_of_ble_eq_true rfl) (VM_L_insurer G fu hG (gx G (Int32.toNatClampNeg (v4 + 1))) (gx G (Int32.toNatClampNeg (v4 + 2))) μ _ y257) ?_
  refine V_istore (lv2 := [some (.null), some (.ref 0), some (.ref 85), some (.ref 128), some (.int v4), some (.int x256.1), none, none]) dL_law_1807 (by decide) rfl ?_
  refine V_aload_n dL_law_1809 rfl ?_
  refine V_aloadS_n dL_law_1810 rfl ?_
  refine V_iload dL_law_1811 rfl ?_
  refine V_iconst (v := 1) dL_law_1813 rfl ?_
  refine V_iadd dL_law_1814 ?_
  obtain ⟨g258, h⟩ := gu_o h
  refine V_sload dL_law_1815 (ib_in g258) ?_
  refine V_aloadS_n dL_law_1816 rfl ?_
  refine V_iload dL_law_1817 rfl ?_
  refine V_iconst (v := 2) dL_law_1819 rfl ?_
  refine V_iadd dL_law_1820 ?_
  obtain ⟨g259, h⟩ := gu_o h
  refine V_sload dL_law_1821 (ib_in g259) ?_
  obtain ⟨x260, y261, h⟩ := bi_o h
  refine V_callV (as := [.int (gx G (Int32.toNatClampNeg (v4 + 1))), .int (gx G (Int32.toNatClampNeg (v4 + 2)))]) (q := 85) (rest := []) dL_law_1822 ov_mX7_insurer lk_RL_251 (by decide) (by decide) rfl rfl (Nat.le_of_ble_eq_true rfl) (tq_85 hG) rfl (VM_X7_insurer G fu hG (gx G (Int32.toNatClampNeg (v4 + 1))) (gx G (Int32.toNatClampNeg (v4 + 2))) x256.2 _ y261) ?_
  refine V_lstore (lv2 := [some (.null), some (.ref 0), some (.ref 85), some (.ref 128), some (.int v4), some (.int x256.1), some (.long x260.1), none]) dL_law_1825 (by decide) rfl ?_
  refine V_aload_n dL_law_1827 rfl ?_
  obtain ⟨x262, y263, h⟩ := bi_o h
  refine V_callV (as := []) (q := 85) (rest := []) dL_law_1828 ov_mX7_thrown lk_RL_175 (by decide) (by decide) rfl rfl (Nat.le_of_ble_eq_true rfl) (tq_85 hG) rfl (VM_X7_thrown G x260.2 hG _ y263) ?_
  refine V_iload dL_law_1831 rfl ?_
  by_cases c1833 : x262 = x256.1
  · rw [if_pos c1833] at h
    refine V_icmpeq_t (tgt := 1838) dL_law_1833 (by decide) c1833 ?_
    refine V_iload dL_law_1838 rfl ?_
    by_cases c1840 : x256.1 = 0
    · rw [if_pos c1840] at h
      refine V_ifne_f (tgt := 1854) dL_law_1840 (by decide) c1840 ?_
      refine V_aload_n dL_law_1843 rfl ?_
      refine V_iconst (v := 0) dL_law_1844 rfl ?_
      obtain ⟨g264, h⟩ := gu_o h
      refine V_laload dL_law_1845 (tq_128 hG) (ib_in g264) ?_
      refine V_lload dL_law_1846 rfl ?_
      refine V_lcmp dL_law_1848 ?_
      by_cases c1849 : (x260.2.2.1 128 (Int32.toNatClampNeg 0)) = x260.1
      · rw [if_pos c1849] at h
        refine V_ifeq_t (tgt := 1854) dL_law_1849 (by decide) ((lc_eq (x260.2.2.1 128 (Int32.toNatClampNeg 0)) x260.1).mpr c1849) ?_
        exact V_wk [true, true, true, true, true, false, false, false] rfl (T_L_law_1854 G fu hG k23 hk23 _ _ _ h)
      · rw [if_neg c1849] at h
        refine V_ifeq_f (tgt := 1854) dL_law_1849 (by decide) (fun z => c1849 ((lc_eq (x260.2.2.1 128 (Int32.toNatClampNeg 0)) x260.1).mp z)) ?_
        refine V_iconst (v := 0) dL_law_1852 rfl ?_
        cases h
        exact V_zret rfl (by decide) dL_law_1853
    · rw [if_neg c1840] at h
      refine V_ifne_t (tgt := 1854) dL_law_1840 (by decide) c1840 ?_
      exact V_wk [true, true, true, true, true, false, false, false] rfl (T_L_law_1854 G fu hG k23 hk23 _ _ _ h)
  · rw [if_neg c1833] at h
    refine V_icmpeq_f (tgt := 1838) dL_law_1833 (by decide) c1833 ?_
    refine V_iconst (v := 0) dL_law_1836 rfl ?_
    cases h
    exact V_zret rfl (by decide) dL_law_1837
def D_L_law_1909 (G : GX) (fu : Nat)  (k23 : Int32 → Mem → Option (Bool × Mem)) (v4 : Int32) (μ : Mem) : Option (Bool × Mem) :=
  D_L_law_3740 G fu k23 v4 μ
set_option maxRecDepth 20000 in
theorem T_L_law_1909 (G : GX) (fu : Nat)  (hG : gt G = tbl) (k23 : Int32 → Mem → Option (Bool × Mem)) (hk23 : ∀ (v4 : Int32) (μ : Mem) (r : (Bool × Mem)), k23 v4 μ = some r → V G mL_law 23 [some (.null), some (.ref 0), some (.ref 85), some (.ref 128), some (.int v4), none, none, none] [] μ (.inl (some (.int (b2i r.1)))) (r.2)) : ∀ (v4 : Int32) (μ : Mem) (r : (Bool × Mem)) , D_L_law_1909 G fu k23 v4 μ = some r → V G mL_law 1909 [some (.null), some (.ref 0), some (.ref 85), some (.ref 128), some (.int v4), none, none, none] [] μ (.inl (some (.int (b2i r.1)))) (r.2) := by
  intro v4 μ r h
  unfold D_L_law_1909 at h
  refine V_goto (tgt := 3740) dL_law_1909 (by decide) ?_
  exact V_wk [true, true, true, true, true, false, false, false] rfl (T_L_law_3740 G fu hG k23 hk23 _ _ _ h)
def D_L_law_1857 (G : GX) (fu : Nat)  (k23 : Int32 → Mem → Option (Bool × Mem)) (v4 : Int32) (μ : Mem) : Option (Bool × Mem) :=
  gu (ib (v4 + 1) (gn G)) <|
  (D_L_burden_0 fu (gx G (Int32.toNatClampNeg (v4 + 1))) μ).bind fun x266 =>
  gu (ib (v4 + 1) (gn G)) <|
  (D_X7_burden_0 fu (gx G (Int32.toNatClampNeg (v4 + 1))) x266.2).bind fun x269 =>
  (D_X7_thrown_0 x269.2).bind fun x271 =>
  if x271 = x266.1 then
    if x266.1 = 0 then
      gu (ib 0 1) <|
      if (x269.2.2.1 128 (Int32.toNatClampNeg 0)) = x269.1 then
        D_L_law_1909 G fu k23 v4 x269.2
      else
        some (false, x269.2)
    else
      D_L_law_1909 G fu k23 v4 x269.2
  else
    some (false, x269.2)
set_option maxRecDepth 20000 in
theorem T_L_law_1857 (G : GX) (fu : Nat)  (hG : gt G = tbl) (k23 : Int32 → Mem → Option (Bool × Mem)) (hk23 : ∀ (v4 : Int32) (μ : Mem) (r : (Bool × Mem)), k23 v4 μ = some r → V G mL_law 23 [some (.null), some (.ref 0), some (.ref 85), some (.ref 128), some (.int v4), none, none, none] [] μ (.inl (some (.int (b2i r.1)))) (r.2)) : ∀ (v4 : Int32) (μ : Mem) (r : (Bool × Mem)) , D_L_law_1857 G fu k23 v4 μ = some r → V G mL_law 1857 [some (.null), some (.ref 0), some (.ref 85), some (.ref 128), some (.int v4), none, none, none] [] μ (.inl (some (.int (b2i r.1)))) (r.2) := by
  intro v4 μ r h
  unfold D_L_law_1857 at h
  refine V_aload_n dL_law_1857 rfl ?_
  refine V_aloadS_n dL_law_1858 rfl ?_
  refine V_iload dL_law_1859 rfl ?_
  refine V_iconst (v := 1) dL_law_1861 rfl ?_
  refine V_iadd dL_law_1862 ?_
  obtain ⟨g265, h⟩ := gu_o h
  refine V_sload dL_law_1863 (ib_in g265) ?_
  refine V_aload_n dL_law_1864 rfl ?_
  obtain ⟨x266, y267, h⟩ := bi_o h
  refine V_callSX (as := [.ref 0, .int (gx G (Int32.toNatClampNeg (v4 + 1))), .ref 128]) (rest := []) dL_law_1865 os_mL_burden rfl lk_RL_252 (by decide) (by decide) rfl rfl (Nat.le_of_ble_eq_true rfl) (VM_L_burden G fu hG (gx G (Int32.toNatClampNeg (v4 + 1))) μ _ y267) ?_
  refine V_istore (lv2 := [some (.null), some (.ref 0), some (.ref 85), some (.ref 128), some (.int v4), some (.int x266.1), none, none]) dL_law_1868 (by decide) rfl ?_
  refine V_aload_n dL_law_1870 rfl ?_
  refine V_aloadS_n dL_law_1871 rfl ?_
  refine V_iload dL_law_1872 rfl ?_
  refine V_iconst (v := 1) dL_law_1874 rfl ?_
  refine V_iadd dL_law_1875 ?_
  obtain ⟨g268, h⟩ := gu_o h
  refine V_sload dL_law_1876 (ib_in g268) ?_
  obtain ⟨x269, y270, h⟩ := bi_o h
  refine V_callV (as := [.int (gx G (Int32.toNatClampNeg (v4 + 1)))]) (q := 85) (rest := []) dL_law_1877 ov_mX7_burden lk_RL_254 (by decide) (by decide) rfl rfl (Nat.le_of_ble_eq_true rfl) (tq_85 hG) rfl (VM_X7_burden G fu hG (gx G (Int32.toNatClampNeg (v4 + 1))) x266.2 _ y270) ?_
  refine V_lstore (lv2 := [some (.null), some (.ref 0), some (.ref 85), some (.ref 128), some (.int v4), some (.int x266.1), some (.long x269.1), none]) dL_law_1880 (by decide) rfl ?_
  refine V_aload_n dL_law_1882 rfl ?_
  obtain ⟨x271, y272, h⟩ := bi_o h
  refine V_callV (as := []) (q := 85) (rest := []) dL_law_1883 ov_mX7_thrown lk_RL_175 (by decide) (by decide) rfl rfl (Nat.le_of_ble_eq_true rfl) (tq_85 hG) rfl (VM_X7_thrown G x269.2 hG _ y272) ?_
  refine V_iload dL_law_1886 rfl ?_
  by_cases c1888 : x271 = x266.1
  · rw [if_pos c1888] at h
    refine V_icmpeq_t (tgt := 1893) dL_law_1888 (by decide) c1888 ?_
    refine V_iload dL_law_1893 rfl ?_
    by_cases c1895 : x266.1 = 0
    · rw [if_pos c1895] at h
      refine V_ifne_f (tgt := 1909) dL_law_1895 (by decide) c1895 ?_
      refine V_aload_n dL_law_1898 rfl ?_
      refine V_iconst (v := 0) dL_law_1899 rfl ?_
      obtain ⟨g273, h⟩ := gu_o h
      refine V_laload dL_law_1900 (tq_128 hG) (ib_in g273) ?_
      refine V_lload dL_law_1901 rfl ?_
      refine V_lcmp dL_law_1903 ?_
      by_cases c1904 : (x269.2.2.1 128 (Int32.toNatClampNeg 0)) = x269.1
      · rw [if_pos c1904] at h
        refine V_ifeq_t (tgt := 1909) dL_law_1904 (by decide) ((lc_eq (x269.2.2.1 128 (Int32.toNatClampNeg 0)) x269.1).mpr c1904) ?_
        exact V_wk [true, true, true, true, true, false, false, false] rfl (T_L_law_1909 G fu hG k23 hk23 _ _ _ h)
      · rw [if_neg c1904] at h
        refine V_ifeq_f (tgt := 1909) dL_law_1904 (by decide) (fun z => c1904 ((lc_eq (x269.2.2.1 128 (Int32.toNatClampNeg 0)) x269.1).mp z)) ?_
        refine V_iconst (v := 0) dL_law_1907 rfl ?_
        cases h
        exact V_zret rfl (by decide) dL_law_1908
    · rw [if_neg c1895] at h
      refine V_ifne_t (tgt := 1909) dL_law_1895 (by decide) c1895 ?_
      exact V_wk [true, true, true, true, true, false, false, false] rfl (T_L_law_1909 G fu hG k23 hk23 _ _ _ h)
  · rw [if_neg c1888] at h
    refine V_icmpeq_f (tgt := 1893) dL_law_1888 (by decide) c1888 ?_
    refine V_iconst (v := 0) dL_law_1891 rfl ?_
    cases h
    exact V_zret rfl (by decide) dL_law_1892
def D_L_law_1965 (G : GX) (fu : Nat)  (k23 : Int32 → Mem → Option (Bool × Mem)) (v4 : Int32) (μ : Mem) : Option (Bool × Mem) :=
  D_L_law_3740 G fu k23 v4 μ
set_option maxRecDepth 20000 in
theorem T_L_law_1965 (G : GX) (fu : Nat)  (hG : gt G = tbl) (k23 : Int32 → Mem → Option (Bool × Mem)) (hk23 : ∀ (v4 : Int32) (μ : Mem) (r : (Bool × Mem)), k23 v4 μ = some r → V G mL_law 23 [some (.null), some (.ref 0), some (.ref 85), some (.ref 128), some (.int v4), none, none, none] [] μ (.inl (some (.int (b2i r.1)))) (r.2)) : ∀ (v4 : Int32) (μ : Mem) (r : (Bool × Mem)) , D_L_law_1965 G fu k23 v4 μ = some r → V G mL_law 1965 [some (.null), some (.ref 0), some (.ref 85), some (.ref 128), some (.int v4), none, none, none] [] μ (.inl (some (.int (b2i r.1)))) (r.2) := by
  intro v4 μ r h
  unfold D_L_law_1965 at h
  refine V_goto (tgt := 3740) dL_law_1965 (by decide) ?_
  exact V_wk [true, true, true, true, true, false, false, false] rfl (T_L_law_3740 G fu hG k23 hk23 _ _ _ h)
def D_L_law_1912 (G : GX) (fu : Nat)  (k23 : Int32 → Mem → Option (Bool × Mem)) (v4 : Int32) (μ : Mem) : Option (Bool × Mem) :=
  gu (ib (v4 + 1) (gn G)) <|
  (D_L_rank_0 fu (gx G (Int32.toNatClampNeg (v4 + 1))) μ).bind fun x275 =>
  gu (ib (v4 + 1) (gn G)) <|
  (D_X7_rank_0 fu (gx G (Int32.toNatClampNeg (v4 + 1))) x275.2).bind fun x278 =>
  (D_X7_thrown_0 x278.2).bind fun x280 =>
  if x280 = x275.1 then
    if x275.1 = 0 then
      gu (ib 0 1) <|
      if (x278.2.2.1 128 (Int32.toNatClampNeg 0)) = ((x278.1 : Int32).toInt64) then
        D_L_law_1965 G fu k23 v4 x278.2
      else
        some (false, x278.2)
    else
      D_L_law_1965 G fu k23 v4 x278.2
  else
    some (false, x278.2)
set_option maxRecDepth 20000 in
theorem T_L_law_1912 (G : GX) (fu : Nat)  (hG : gt G = tbl) (k23 : Int32 → Mem → Option (Bool × Mem)) (hk23 : ∀ (v4 : Int32) (μ : Mem) (r : (Bool × Mem)), k23 v4 μ = some r → V G mL_law 23 [some (.null), some (.ref 0), some (.ref 85), some (.ref 128), some (.int v4), none, none, none] [] μ (.inl (some (.int (b2i r.1)))) (r.2)) : ∀ (v4 : Int32) (μ : Mem) (r : (Bool × Mem)) , D_L_law_1912 G fu k23 v4 μ = some r → V G mL_law 1912 [some (.null), some (.ref 0), some (.ref 85), some (.ref 128), some (.int v4), none, none, none] [] μ (.inl (some (.int (b2i r.1)))) (r.2) := by
  intro v4 μ r h
  unfold D_L_law_1912 at h
  refine V_aload_n dL_law_1912 rfl ?_
  refine V_aloadS_n dL_law_1913 rfl ?_
  refine V_iload dL_law_1914 rfl ?_
  refine V_iconst (v := 1) dL_law_1916 rfl ?_
  refine V_iadd dL_law_1917 ?_
  obtain ⟨g274, h⟩ := gu_o h
  refine V_sload dL_law_1918 (ib_in g274) ?_
  refine V_aload_n dL_law_1919 rfl ?_
  obtain ⟨x275, y276, h⟩ := bi_o h
  refine V_callSX (as := [.ref 0, .int (gx G (Int32.toNatClampNeg (v4 + 1))), .ref 128]) (rest := []) dL_law_1920 os_mL_rank rfl lk_RL_255 (by decide) (by decide) rfl rfl (Nat.le_of_ble_eq_true rfl) (VM_L_rank G fu hG (gx G (Int32.toNatClampNeg (v4 + 1))) μ _ y276) ?_
  refine V_istore (lv2 := [some (.null), some (.ref 0), some (.ref 85), some (.ref 128), some (.int v4), some (.int x275.1), none, none]) dL_law_1923 (by decide) rfl ?_
  refine V_aload_n dL_law_1925 rfl ?_
  refine V_aloadS_n dL_law_1926 rfl ?_
  refine V_iload dL_law_1927 rfl ?_
  refine V_iconst (v := 1) dL_law_1929 rfl ?_
  refine V_iadd dL_law_1930 ?_
  obtain ⟨g277, h⟩ := gu_o h
  refine V_sload dL_law_1931 (ib_in g277) ?_
  obtain ⟨x278, y279, h⟩ := bi_o h
  refine V_callV (as := [.int (gx G (Int32.toNatClampNeg (v4 + 1)))]) (q := 85) (rest := []) dL_law_1932 ov_mX7_rank lk_RL_257 (by decide) (by decide) rfl rfl (Nat.le_of_ble_eq_true rfl) (tq_85 hG) rfl (VM_X7_rank G fu hG (gx G (Int32.toNatClampNeg (v4 + 1))) x275.2 _ y279) ?_
  refine V_istore (lv2 := [some (.null), some (.ref 0), some (.ref 85), some (.ref 128), some (.int v4), some (.int x275.1), some (.int x278.1), none]) dL_law_1935 (by decide) rfl ?_
  refine V_aload_n dL_law_1937 rfl ?_
  obtain ⟨x280, y281, h⟩ := bi_o h
  refine V_callV (as := []) (q := 85) (rest := []) dL_law_1938 ov_mX7_thrown lk_RL_175 (by decide) (by decide) rfl rfl (Nat.le_of_ble_eq_true rfl) (tq_85 hG) rfl (VM_X7_thrown G x278.2 hG _ y281) ?_
  refine V_iload dL_law_1941 rfl ?_
  by_cases c1943 : x280 = x275.1
  · rw [if_pos c1943] at h
    refine V_icmpeq_t (tgt := 1948) dL_law_1943 (by decide) c1943 ?_
    refine V_iload dL_law_1948 rfl ?_
    by_cases c1950 : x275.1 = 0
    · rw [if_pos c1950] at h
      refine V_ifne_f (tgt := 1965) dL_law_1950 (by decide) c1950 ?_
      refine V_aload_n dL_law_1953 rfl ?_
      refine V_iconst (v := 0) dL_law_1954 rfl ?_
      obtain ⟨g282, h⟩ := gu_o h
      refine V_laload dL_law_1955 (tq_128 hG) (ib_in g282) ?_
      refine V_iload dL_law_1956 rfl ?_
      refine V_i2l dL_law_1958 ?_
      refine V_lcmp dL_law_1959 ?_
      by_cases c1960 : (x278.2.2.1 128 (Int32.toNatClampNeg 0)) = ((x278.1 : Int32).toInt64)
      · rw [if_pos c1960] at h
        refine V_ifeq_t (tgt := 1965) dL_law_1960 (by decide) ((lc_eq (x278.2.2.1 128 (Int32.toNatClampNeg 0)) ((x278.1 : Int32).toInt64)).mpr c1960) ?_
        exact V_wk [true, true, true, true, true, false, false, false] rfl (T_L_law_1965 G fu hG k23 hk23 _ _ _ h)
      · rw [if_neg c1960] at h
        refine V_ifeq_f (tgt := 1965) dL_law_1960 (by decide) (fun z => c1960 ((lc_eq (x278.2.2.1 128 (Int32.toNatClampNeg 0)) ((x278.1 : Int32).toInt64)).mp z)) ?_
        refine V_iconst (v := 0) dL_law_1963 rfl ?_
        cases h
        exact V_zret rfl (by decide) dL_law_1964
    · rw [if_neg c1950] at h
      refine V_ifne_t (tgt := 1965) dL_law_1950 (by decide) c1950 ?_
      exact V_wk [true, true, true, true, true, false, false, false] rfl (T_L_law_1965 G fu hG k23 hk23 _ _ _ h)
  · rw [if_neg c1943] at h
    refine V_icmpeq_f (tgt := 1948) dL_law_1943 (by decide) c1943 ?_
    refine V_iconst (v := 0) dL_law_1946 rfl ?_
    cases h
    exact V_zret rfl (by decide) dL_law_1947
def D_L_law_2057 (G : GX) (fu : Nat)  (k23 : Int32 → Mem → Option (Bool × Mem)) (v4 : Int32) (μ : Mem) : Option (Bool × Mem) :=
  D_L_law_3740 G fu k23 v4 μ
set_option maxRecDepth 20000 in
theorem T_L_law_2057 (G : GX) (fu : Nat)  (hG : gt G = tbl) (k23 : Int32 → Mem → Option (Bool × Mem)) (hk23 : ∀ (v4 : Int32) (μ : Mem) (r : (Bool × Mem)), k23 v4 μ = some r → V G mL_law 23 [some (.null), some (.ref 0), some (.ref 85), some (.ref 128), some (.int v4), none, none, none] [] μ (.inl (some (.int (b2i r.1)))) (r.2)) : ∀ (v4 : Int32) (μ : Mem) (r : (Bool × Mem)) , D_L_law_2057 G fu k23 v4 μ = some r → V G mL_law 2057 [some (.null), some (.ref 0), some (.ref 85), some (.ref 128), some (.int v4), none, none, none] [] μ (.inl (some (.int (b2i r.1)))) (r.2) := by
  intro v4 μ r h
  unfold D_L_law_2057 at h
  refine V_goto (tgt := 3740) dL_law_2057 (by decide) ?_
  exact V_wk [true, true, true, true, true, false, false, false] rfl (T_L_law_3740 G fu hG k23 hk23 _ _ _ h)
def D_L_law_1968 (G : GX) (fu : Nat)  (k23 : Int32 → Mem → Option (Bool × Mem)) (v4 : Int32) (μ : Mem) : Option (Bool × Mem) :=
  gu (ib (v4 + 1) (gn G)) <|
  gu (ib (v4 + 2) (gn G)) <|
  gu (ib (v4 + 3) (gn G)) <|
  gu (ib (v4 + 4) (gn G)) <|
  (D_L_offs_0 fu (gx G (Int32.toNatClampNeg (v4 + 1))) (gx G (Int32.toNatClampNeg (v4 + 2))) (gx G (Int32.toNatClampNeg (v4 + 3))) (gx G (Int32.toNatClampNeg (v4 + 4))) μ).bind fun x287 =>
  gu (ib (v4 + 1) (gn G)) <|
  gu (ib (v4 + 2) (gn G)) <|
  gu (ib (v4 + 3) (gn G)) <|
  gu (ib (v4 + 4) (gn G)) <|
  (D_X7_offs_0 fu (gx G (Int32.toNatClampNeg (v4 + 1))) (gx G (Int32.toNatClampNeg (v4 + 2))) (gx G (Int32.toNatClampNeg (v4 + 3))) (gx G (Int32.toNatClampNeg (v4 + 4))) x287.2).bind fun x293 =>
  (D_X7_thrown_0 x293.2).bind fun x295 =>
  if x295 = x287.1 then
    if x287.1 = 0 then
      gu (ib 0 1) <|
      if (x293.2.2.1 128 (Int32.toNatClampNeg 0)) = ((x293.1 : Int32).toInt64) then
        D_L_law_2057 G fu k23 v4 x293.2
      else
        some (false, x293.2)
    else
      D_L_law_2057 G fu k23 v4 x293.2
  else
    some (false, x293.2)
set_option maxRecDepth 20000 in
theorem T_L_law_1968 (G : GX) (fu : Nat)  (hG : gt G = tbl) (k23 : Int32 → Mem → Option (Bool × Mem)) (hk23 : ∀ (v4 : Int32) (μ : Mem) (r : (Bool × Mem)), k23 v4 μ = some r → V G mL_law 23 [some (.null), some (.ref 0), some (.ref 85), some (.ref 128), some (.int v4), none, none, none] [] μ (.inl (some (.int (b2i r.1)))) (r.2)) : ∀ (v4 : Int32) (μ : Mem) (r : (Bool × Mem)) , D_L_law_1968 G fu k23 v4 μ = some r → V G mL_law 1968 [some (.null), some (.ref 0), some (.ref 85), some (.ref 128), some (.int v4), none, none, none] [] μ (.inl (some (.int (b2i r.1)))) (r.2) := by
  intro v4 μ r h
  unfold D_L_law_1968 at h
  refine V_aload_n dL_law_1968 rfl ?_
  refine V_aloadS_n dL_law_1969 rfl ?_
  refine V_iload dL_law_1970 rfl ?_
  refine V_iconst (v := 1) dL_law_1972 rfl ?_
  refine V_iadd dL_law_1973 ?_
  obtain ⟨g283, h⟩ := gu_o h
  refine V_sload dL_law_1974 (ib_in g283) ?_
  refine V_aloadS_n dL_law_1975 rfl ?_
  refine V_iload dL_law_1976 rfl ?_
  refine V_iconst (v := 2) dL_law_1978 rfl ?_
  refine V_iadd dL_law_1979 ?_
  obtain ⟨g284, h⟩ := gu_o h
  refine V_sload dL_law_1980 (ib_in g284) ?_
  refine V_aloadS_n dL_law_1981 rfl ?_
  refine V_iload dL_law_1982 rfl ?_
  refine V_iconst (v := 3) dL_law_1984 rfl ?_
  refine V_iadd dL_law_1985 ?_
  obtain ⟨g285, h⟩ := gu_o h
  refine V_sload dL_law_1986 (ib_in g285) ?_
  refine V_aloadS_n dL_law_1987 rfl ?_
  refine V_iload dL_law_1988 rfl ?_
  refine V_iconst (v := 4) dL_law_1990 rfl ?_
  refine V_iadd dL_law_1991 ?_
  obtain ⟨g286, h⟩ := gu_o h
  refine V_sload dL_law_1992 (ib_in g286) ?_
  refine V_aload_n dL_law_1993 rfl ?_
  obtain ⟨x287, y288, h⟩ := bi_o h
  refine V_callSX (as := [.ref 0, .int (gx G (Int32.toNatClampNeg (v4 + 1))), .int (gx G (Int32.toNatClampNeg (v4 + 2))), .int (gx G (Int32.toNatClampNeg (v4 + 3))), .int (gx G (Int32.toNatClampNeg (v4 + 4))), .ref 128]) (rest := []) dL_law_1994 os_mL_offs rfl lk_RL_258 (by decide) (by decide) rfl rfl (Nat.le_of_ble_eq_true rfl) (VM_L_offs G fu hG (gx G (Int32.toNatClampNeg (v4 + 1))) (gx G (Int32.toNatClampNeg (v4 + 2))) (gx G (Int32.toNatClampNeg (v4 + 3))) (gx G (Int32.toNatClampNeg (v4 + 4))) μ _ y288) ?_
  refine V_istore (lv2 := [some (.null), some (.ref 0), some (.ref 85), some (.ref 128), some (.int v4), some (.int x287.1), none, none]) dL_law_1997 (by decide) rfl ?_
  refine V_aload_n dL_law_1999 rfl ?_
  refine V_aloadS_n dL_law_2000 rfl ?_
  refine V_iload dL_law_2001 rfl ?_
  refine V_iconst (v := 1) dL_law_2003 rfl ?_
  refine V_iadd dL_law_2004 ?_
  obtain ⟨g289, h⟩ := gu_o h
  refine V_sload dL_law_2005 (ib_in g289) ?_
  refine V_aloadS_n dL_law_2006 rfl ?_
  refine V_iload dL_law_2007 rfl ?_
  refine V_iconst (v := 2) dL_law_2009 rfl ?_
  refine V_iadd dL_law_2010 ?_
  obtain ⟨g290, h⟩ := gu_o h
  refine V_sload dL_law_2011 (ib_in g290) ?_
  refine V_aloadS_n dL_law_2012 rfl ?_
  refine V_iload dL_law_2013 rfl ?_
  refine V_iconst (v := 3) dL_law_2015 rfl ?_
  refine V_iadd dL_law_2016 ?_
  obtain ⟨g291, h⟩ := gu_o h
  refine V_sload dL_law_2017 (ib_in g291) ?_
  refine V_aloadS_n dL_law_2018 rfl ?_
  refine V_iload dL_law_2019 rfl ?_
  refine V_iconst (v := 4) dL_law_2021 rfl ?_
  refine V_iadd dL_law_2022 ?_
  obtain ⟨g292, h⟩ := gu_o h
  refine V_sload dL_law_2023 (ib_in g292) ?_
  obtain ⟨x293, y294, h⟩ := bi_o h
  refine V_callV (as := [.int (gx G (Int32.toNatClampNeg (v4 + 1))), .int (gx G (Int32.toNatClampNeg (v4 + 2))), .int (gx G (Int32.toNatClampNeg (v4 + 3))), .int (gx G (Int32.toNatClampNeg (v4 + 4)))]) (q := 85) (rest := []) dL_law_2024 ov_mX7_offs lk_RL_260 (by decide) (by decide) rfl rfl (Nat.le_of_ble_eq_true rfl) (tq_85 hG) rfl (VM_X7_offs G fu hG (gx G (Int32.toNatClampNeg (v4 + 1))) (gx G (Int32.toNatClampNeg (v4 + 2))) (gx G (Int32.toNatClampNeg (v4 + 3))) (gx G (Int32.toNatClampNeg (v4 + 4))) x287.2 _ y294) ?_
  refine V_istore (lv2 := [some (.null), some (.ref 0), some (.ref 85), some (.ref 128), some (.int v4), some (.int x287.1), some (.int x293.1), none]) dL_law_2027 (by decide) rfl ?_
  refine V_aload_n dL_law_2029 rfl ?_
  obtain ⟨x295, y296, h⟩ := bi_o h
  refine V_callV (as := []) (q := 85) (rest := []) dL_law_2030 ov_mX7_thrown lk_RL_175 (by decide) (by decide) rfl rfl (Nat.le_of_ble_eq_true rfl) (tq_85 hG) rfl (VM_X7_thrown G x293.2 hG _ y296) ?_
  refine V_iload dL_law_2033 rfl ?_
  by_cases c2035 : x295 = x287.1
  · rw [if_pos c2035] at h
    refine V_icmpeq_t (tgt := 2040) dL_law_2035 (by decide) c2035 ?_
    refine V_iload dL_law_2040 rfl ?_
    by_cases c2042 : x287.1 = 0
    · rw [if_pos c2042] at h
      refine V_ifne_f (tgt := 2057) dL_law_2042 (by decide) c2042 ?_
      refine V_aload_n dL_law_2045 rfl ?_
      refine V_iconst (v := 0) dL_law_2046 rfl ?_
      obtain ⟨g297, h⟩ := gu_o h
      refine V_laload dL_law_2047 (tq_128 hG) (ib_in g297) ?_
      refine V_iload dL_law_2048 rfl ?_
      refine V_i2l dL_law_2050 ?_
      refine V_lcmp dL_law_2051 ?_
      by_cases c2052 : (x293.2.2.1 128 (Int32.toNatClampNeg 0)) = ((x293.1 : Int32).toInt64)
      · rw [if_pos c2052] at h
        refine V_ifeq_t (tgt := 2057) dL_law_2052 (by decide) ((lc_eq (x293.2.2.1 128 (Int32.toNatClampNeg 0)) ((x293.1 : Int32).toInt64)).mpr c2052) ?_
        exact V_wk [true, true, true, true, true, false, false, false] rfl (T_L_law_2057 G fu hG k23 hk23 _ _ _ h)
      · rw [if_neg c2052] at h
        refine V_ifeq_f (tgt := 2057) dL_law_2052 (by decide) (fun z => c2052 ((lc_eq (x293.2.2.1 128 (Int32.toNatClampNeg 0)) ((x293.1 : Int32).toInt64)).mp z)) ?_
        refine V_iconst (v := 0) dL_law_2055 rfl ?_
        cases h
        exact V_zret rfl (by decide) dL_law_2056
    · rw [if_neg c2042] at h
      refine V_ifne_t (tgt := 2057) dL_law_2042 (by decide) c2042 ?_
      exact V_wk [true, true, true, true, true, false, false, false] rfl (T_L_law_2057 G fu hG k23 hk23 _ _ _ h)
  · rw [if_neg c2035] at h
    refine V_icmpeq_f (tgt := 2040) dL_law_2035 (by decide) c2035 ?_
    refine V_iconst (v := 0) dL_law_2038 rfl ?_
    cases h
    exact V_zret rfl (by decide) dL_law_2039
def D_L_law_2160 (G : GX) (fu : Nat)  (k23 : Int32 → Mem → Option (Bool × Mem)) (v4 : Int32) (μ : Mem) : Option (Bool × Mem) :=
  D_L_law_3740 G fu k23 v4 μ
set_option maxRecDepth 20000 in
theorem T_L_law_2160 (G : GX) (fu : Nat)  (hG : gt G = tbl) (k23 : Int32 → Mem → Option (Bool × Mem)) (hk23 : ∀ (v4 : Int32) (μ : Mem) (r : (Bool × Mem)), k23 v4 μ = some r → V G mL_law 23 [some (.null), some (.ref 0), some (.ref 85), some (.ref 128), some (.int v4), none, none, none] [] μ (.inl (some (.int (b2i r.1)))) (r.2)) : ∀ (v4 : Int32) (μ : Mem) (r : (Bool × Mem)) , D_L_law_2160 G fu k23 v4 μ = some r → V G mL_law 2160 [some (.null), some (.ref 0), some (.ref 85), some (.ref 128), some (.int v4), none, none, none] [] μ (.inl (some (.int (b2i r.1)))) (r.2) := by
  intro v4 μ r h
  unfold D_L_law_2160 at h
  refine V_goto (tgt := 3740) dL_law_2160 (by decide) ?_
  exact V_wk [true, true, true, true, true, false, false, false] rfl (T_L_law_3740 G fu hG k23 hk23 _ _ _ h)
def D_L_law_2060 (G : GX) (fu : Nat)  (k23 : Int32 → Mem → Option (Bool × Mem)) (v4 : Int32) (μ : Mem) : Option (Bool × Mem) :=
  gu (ib (v4 + 1) (gn G)) <|
  gu (ib (v4 + 2) (gn G)) <|
  gu (ib (v4 + 3) (gn G)) <|
  gu (ib (v4 + 4) (gn G)) <|
  gu (ib (v4 + 5) (gn G)) <|
  (D_L_would_0 fu (gx G (Int32.toNatClampNeg (v4 + 1))) (gx G (Int32.toNatClampNeg (v4 + 2))) (gx G (Int32.toNatClampNeg (v4 + 3))) (gx G (Int32.toNatClampNeg (v4 + 4))) (gx G (Int32.toNatClampNeg (v4 + 5))) μ).bind fun x303 =>
  gu (ib (v4 + 1) (gn G)) <|
  gu (ib (v4 + 2) (gn G)) <|
  gu (ib (v4 + 3) (gn G)) <|
  gu (ib (v4 + 4) (gn G)) <|
  gu (ib (v4 + 5) (gn G)) <|
  (D_X7_would_0 fu (gx G (Int32.toNatClampNeg (v4 + 1))) (gx G (Int32.toNatClampNeg (v4 + 2))) (gx G (Int32.toNatClampNeg (v4 + 3))) (gx G (Int32.toNatClampNeg (v4 + 4))) (gx G (Int32.toNatClampNeg (v4 + 5))) x303.2).bind fun x310 =>
  (D_X7_thrown_0 x310.2).bind fun x312 =>
  if x312 = x303.1 then
    if x303.1 = 0 then
      gu (ib 0 1) <|
      if (x310.2.2.1 128 (Int32.toNatClampNeg 0)) = x310.1 then
        D_L_law_2160 G fu k23 v4 x310.2
      else
        some (false, x310.2)
    else
      D_L_law_2160 G fu k23 v4 x310.2
  else
    some (false, x310.2)
set_option maxRecDepth 20000 in
theorem T_L_law_2060 (G : GX) (fu : Nat)  (hG : gt G = tbl) (k23 : Int32 → Mem → Option (Bool × Mem)) (hk23 : ∀ (v4 : Int32) (μ : Mem) (r : (Bool × Mem)), k23 v4 μ = some r → V G mL_law 23 [some (.null), some (.ref 0), some (.ref 85), some (.ref 128), some (.int v4), none, none, none] [] μ (.inl (some (.int (b2i r.1)))) (r.2)) : ∀ (v4 : Int32) (μ : Mem) (r : (Bool × Mem)) , D_L_law_2060 G fu k23 v4 μ = some r → V G mL_law 2060 [some (.null), some (.ref 0), some (.ref 85), some (.ref 128), some (.int v4), none, none, none] [] μ (.inl (some (.int (b2i r.1)))) (r.2) := by
  intro v4 μ r h
  unfold D_L_law_2060 at h
  refine V_aload_n dL_law_2060 rfl ?_
  refine V_aloadS_n dL_law_2061 rfl ?_
  refine V_iload dL_law_2062 rfl ?_
  refine V_iconst (v := 1) dL_law_2064 rfl ?_
  refine V_iadd dL_law_2065 ?_
  obtain ⟨g298, h⟩ := gu_o h
  refine V_sload dL_law_2066 (ib_in g298) ?_
  refine V_aloadS_n dL_law_2067 rfl ?_
  refine V_iload dL_law_2068 rfl ?_
  refine V_iconst (v := 2) dL_law_2070 rfl ?_
  refine V_iadd dL_law_2071 ?_
  obtain ⟨g299, h⟩ := gu_o h
  refine V_sload dL_law_2072 (ib_in g299) ?_
  refine V_aloadS_n dL_law_2073 rfl ?_
  refine V_iload dL_law_2074 rfl ?_
  refine V_iconst (v := 3) dL_law_2076 rfl ?_
  refine V_iadd dL_law_2077 ?_
  obtain ⟨g300, h⟩ := gu_o h
  refine V_sload dL_law_2078 (ib_in g300) ?_
  refine V_aloadS_n dL_law_2079 rfl ?_
  refine V_iload dL_law_2080 rfl ?_
  refine V_iconst (v := 4) dL_law_2082 rfl ?_
  refine V_iadd dL_law_2083 ?_
  obtain ⟨g301, h⟩ := gu_o h
  refine V_sload dL_law_2084 (ib_in g301) ?_
  refine V_aloadS_n dL_law_2085 rfl ?_
  refine V_iload dL_law_2086 rfl ?_
  refine V_iconst (v := 5) dL_law_2088 rfl ?_
  refine V_iadd dL_law_2089 ?_
  obtain ⟨g302, h⟩ := gu_o h
  refine V_sload dL_law_2090 (ib_in g302) ?_
  refine V_aload_n dL_law_2091 rfl ?_
  obtain ⟨x303, y304, h⟩ := bi_o h
  refine V_callSX (as := [.ref 0, .int (gx G (Int32.toNatClampNeg (v4 + 1))), .int (gx G (Int32.toNatClampNeg (v4 + 2))), .int (gx G (Int32.toNatClampNeg (v4 + 3))), .int (gx G (Int32.toNatClampNeg (v4 + 4))), .int (gx G (Int32.toNatClampNeg (v4 + 5))), .ref 128]) (rest := []) dL_law_2092 os_mL_would rfl lk_RL_261 (by decide) (by decide) rfl rfl (Nat.le_of_ble_eq_true rfl) (VM_L_would G fu hG (gx G (Int32.toNatClampNeg (v4 + 1))) (gx G (Int32.toNatClampNeg (v4 + 2))) (gx G (Int32.toNatClampNeg (v4 + 3))) (gx G (Int32.toNatClampNeg (v4 + 4))) (gx G (Int32.toNatClampNeg (v4 + 5))) μ _ y304) ?_
  refine V_istore (lv2 := [some (.null), some (.ref 0), some (.ref 85), some (.ref 128), some (.int v4), some (.int x303.1), none, none]) dL_law_2095 (by decide) rfl ?_
  refine V_aload_n dL_law_2097 rfl ?_
  refine V_aloadS_n dL_law_2098 rfl ?_
  refine V_iload dL_law_2099 rfl ?_
  refine V_iconst (v := 1) dL_law_2101 rfl ?_
  refine V_iadd dL_law_2102 ?_
  obtain ⟨g305, h⟩ := gu_o h
  refine V_sload dL_law_2103 (ib_in g305) ?_
  refine V_aloadS_n dL_law_2104 rfl ?_
  refine V_iload dL_law_2105 rfl ?_
  refine V_iconst (v := 2) dL_law_2107 rfl ?_
  refine V_iadd dL_law_2108 ?_
  obtain ⟨g306, h⟩ := gu_o h
  refine V_sload dL_law_2109 (ib_in g306) ?_
  refine V_aloadS_n dL_law_2110 rfl ?_
  refine V_iload dL_law_2111 rfl ?_
  refine V_iconst (v := 3) dL_law_2113 rfl ?_
  refine V_iadd dL_law_2114 ?_
  obtain ⟨g307, h⟩ := gu_o h
  refine V_sload dL_law_2115 (ib_in g307) ?_
  refine V_aloadS_n dL_law_2116 rfl ?_
  refine V_iload dL_law_2117 rfl ?_
  refine V_iconst (v := 4) dL_law_2119 rfl ?_
  refine V_iadd dL_law_2120 ?_
  obtain ⟨g308, h⟩ := gu_o h
  refine V_sload dL_law_2121 (ib_in g308) ?_
  refine V_aloadS_n dL_law_2122 rfl ?_
  refine V_iload dL_law_2123 rfl ?_
  refine V_iconst (v := 5) dL_law_2125 rfl ?_
  refine V_iadd dL_law_2126 ?_
  obtain ⟨g309, h⟩ := gu_o h
  refine V_sload dL_law_2127 (ib_in g309) ?_
  obtain ⟨x310, y311, h⟩ := bi_o h
  refine V_callV (as := [.int (gx G (Int32.toNatClampNeg (v4 + 1))), .int (gx G (Int32.toNatClampNeg (v4 + 2))), .int (gx G (Int32.toNatClampNeg (v4 + 3))), .int (gx G (Int32.toNatClampNeg (v4 + 4))), .int (gx G (Int32.toNatClampNeg (v4 + 5)))]) (q := 85) (rest := []) dL_law_2128 ov_mX7_would lk_RL_264 (by decide) (by decide) rfl rfl (Nat.le_of_ble_eq_true rfl) (tq_85 hG) rfl (VM_X7_would G fu hG (gx G (Int32.toNatClampNeg (v4 + 1))) (gx G (Int32.toNatClampNeg (v4 + 2))) (gx G (Int32.toNatClampNeg (v4 + 3))) (gx G (Int32.toNatClampNeg (v4 + 4))) (gx G (Int32.toNatClampNeg (v4 + 5))) x303.2 _ y311) ?_
  refine V_lstore (lv2 := [some (.null), some (.ref 0), some (.ref 85), some (.ref 128), some (.int v4), some (.int x303.1), some (.long x310.1), none]) dL_law_2131 (by decide) rfl ?_
  refine V_aload_n dL_law_2133 rfl ?_
  obtain ⟨x312, y313, h⟩ := bi_o h
  refine V_callV (as := []) (q := 85) (rest := []) dL_law_2134 ov_mX7_thrown lk_RL_175 (by decide) (by decide) rfl rfl (Nat.le_of_ble_eq_true rfl) (tq_85 hG) rfl (VM_X7_thrown G x310.2 hG _ y313) ?_
  refine V_iload dL_law_2137 rfl ?_
  by_cases c2139 : x312 = x303.1
  · rw [if_pos c2139] at h
    refine V_icmpeq_t (tgt := 2144) dL_law_2139 (by decide) c2139 ?_
    refine V_iload dL_law_2144 rfl ?_
    by_cases c2146 : x303.1 = 0
    · rw [if_pos c2146] at h
      refine V_ifne_f (tgt := 2160) dL_law_2146 (by decide) c2146 ?_
      refine V_aload_n dL_law_2149 rfl ?_
      refine V_iconst (v := 0) dL_law_2150 rfl ?_
      obtain ⟨g314, h⟩ := gu_o h
      refine V_laload dL_law_2151 (tq_128 hG) (ib_in g314) ?_
      refine V_lload dL_law_2152 rfl ?_
      refine V_lcmp dL_law_2154 ?_
      by_cases c2155 : (x310.2.2.1 128 (Int32.toNatClampNeg 0)) = x310.1
      · rw [if_pos c2155] at h
        refine V_ifeq_t (tgt := 2160) dL_law_2155 (by decide) ((lc_eq (x310.2.2.1 128 (Int32.toNatClampNeg 0)) x310.1).mpr c2155) ?_
        exact V_wk [true, true, true, true, true, false, false, false] rfl (T_L_law_2160 G fu hG k23 hk23 _ _ _ h)
      · rw [if_neg c2155] at h
        refine V_ifeq_f (tgt := 2160) dL_law_2155 (by decide) (fun z => c2155 ((lc_eq (x310.2.2.1 128 (Int32.toNatClampNeg 0)) x310.1).mp z)) ?_
        refine V_iconst (v := 0) dL_law_2158 rfl ?_
        cases h
        exact V_zret rfl (by decide) dL_law_2159
    · rw [if_neg c2146] at h
      refine V_ifne_t (tgt := 2160) dL_law_2146 (by decide) c2146 ?_
      exact V_wk [true, true, true, true, true, false, false, false] rfl (T_L_law_2160 G fu hG k23 hk23 _ _ _ h)
  · rw [if_neg c2139] at h
    refine V_icmpeq_f (tgt := 2144) dL_law_2139 (by decide) c2139 ?_
    refine V_iconst (v := 0) dL_law_2142 rfl ?_
    cases h
    exact V_zret rfl (by decide) dL_law_2143
def D_L_law_2263 (G : GX) (fu : Nat)  (k23 : Int32 → Mem → Option (Bool × Mem)) (v4 : Int32) (μ : Mem) : Option (Bool × Mem) :=
  D_L_law_3740 G fu k23 v4 μ
set_option maxRecDepth 20000 in
theorem T_L_law_2263 (G : GX) (fu : Nat)  (hG : gt G = tbl) (k23 : Int32 → Mem → Option (Bool × Mem)) (hk23 : ∀ (v4 : Int32) (μ : Mem) (r : (Bool × Mem)), k23 v4 μ = some r → V G mL_law 23 [some (.null), some (.ref 0), some (.ref 85), some (.ref 128), some (.int v4), none, none, none] [] μ (.inl (some (.int (b2i r.1)))) (r.2)) : ∀ (v4 : Int32) (μ : Mem) (r : (Bool × Mem)) , D_L_law_2263 G fu k23 v4 μ = some r → V G mL_law 2263 [some (.null), some (.ref 0), some (.ref 85), some (.ref 128), some (.int v4), none, none, none] [] μ (.inl (some (.int (b2i r.1)))) (r.2) := by
  intro v4 μ r h
  unfold D_L_law_2263 at h
  refine V_goto (tgt := 3740) dL_law_2263 (by decide) ?_
  exact V_wk [true, true, true, true, true, false, false, false] rfl (T_L_law_3740 G fu hG k23 hk23 _ _ _ h)
def D_L_law_2163 (G : GX) (fu : Nat)  (k23 : Int32 → Mem → Option (Bool × Mem)) (v4 : Int32) (μ : Mem) : Option (Bool × Mem) :=
  gu (ib (v4 + 1) (gn G)) <|
  gu (ib (v4 + 2) (gn G)) <|
  gu (ib (v4 + 3) (gn G)) <|
  gu (ib (v4 + 4) (gn G)) <|
  gu (ib (v4 + 5) (gn G)) <|
  (D_L_takes_0 fu (gx G (Int32.toNatClampNeg (v4 + 1))) (gx G (Int32.toNatClampNeg (v4 + 2))) (gx G (Int32.toNatClampNeg (v4 + 3))) (gx G (Int32.toNatClampNeg (v4 + 4))) (gx G (Int32.toNatClampNeg (v4 + 5))) μ).bind fun x320 =>
  gu (ib (v4 + 1) (gn G)) <|
  gu (ib (v4 + 2) (gn G)) <|
  gu (ib (v4 + 3) (gn G)) <|
  gu (ib (v4 + 4) (gn G)) <|
  gu (ib (v4 + 5) (gn G)) <|
  (D_X7_takes_0 fu (gx G (Int32.toNatClampNeg (v4 + 1))) (gx G (Int32.toNatClampNeg (v4 + 2))) (gx G (Int32.toNatClampNeg (v4 + 3))) (gx G (Int32.toNatClampNeg (v4 + 4))) (gx G (Int32.toNatClampNeg (v4 + 5))) x320.2).bind fun x327 =>
  (D_X7_thrown_0 x327.2).bind fun x329 =>
  if x329 = x320.1 then
    if x320.1 = 0 then
      gu (ib 0 1) <|
      if (x327.2.2.1 128 (Int32.toNatClampNeg 0)) = x327.1 then
        D_L_law_2263 G fu k23 v4 x327.2
      else
        some (false, x327.2)
    else
      D_L_law_2263 G fu k23 v4 x327.2
  else
    some (false, x327.2)
set_option maxRecDepth 20000 in
theorem T_L_law_2163 (G : GX) (fu : Nat)  (hG : gt G = tbl) (k23 : Int32 → Mem → Option (Bool × Mem)) (hk23 : ∀ (v4 : Int32) (μ : Mem) (r : (Bool × Mem)), k23 v4 μ = some r → V G mL_law 23 [some (.null), some (.ref 0), some (.ref 85), some (.ref 128), some (.int v4), none, none, none] [] μ (.inl (some (.int (b2i r.1)))) (r.2)) : ∀ (v4 : Int32) (μ : Mem) (r : (Bool × Mem)) , D_L_law_2163 G fu k23 v4 μ = some r → V G mL_law 2163 [some (.null), some (.ref 0), some (.ref 85), some (.ref 128), some (.int v4), none, none, none] [] μ (.inl (some (.int (b2i r.1)))) (r.2) := by
  intro v4 μ r h
  unfold D_L_law_2163 at h
  refine V_aload_n dL_law_2163 rfl ?_
  refine V_aloadS_n dL_law_2164 rfl ?_
  refine V_iload dL_law_2165 rfl ?_
  refine V_iconst (v := 1) dL_law_2167 rfl ?_
  refine V_iadd dL_law_2168 ?_
  obtain ⟨g315, h⟩ := gu_o h
  refine V_sload dL_law_2169 (ib_in g315) ?_
  refine V_aloadS_n dL_law_2170 rfl ?_
  refine V_iload dL_law_2171 rfl ?_
  refine V_iconst (v := 2) dL_law_2173 rfl ?_
  refine V_iadd dL_law_2174 ?_
  obtain ⟨g316, h⟩ := gu_o h
  refine V_sload dL_law_2175 (ib_in g316) ?_
  refine V_aloadS_n dL_law_2176 rfl ?_
  refine V_iload dL_law_2177 rfl ?_
  refine V_iconst (v := 3) dL_law_2179 rfl ?_
  refine V_iadd dL_law_2180 ?_
  obtain ⟨g317, h⟩ := gu_o h
  refine V_sload dL_law_2181 (ib_in g317) ?_
  refine V_aloadS_n dL_law_2182 rfl ?_
  refine V_iload dL_law_2183 rfl ?_
  refine V_iconst (v := 4) dL_law_2185 rfl ?_
  refine V_iadd dL_law_2186 ?_
  obtain ⟨g318, h⟩ := gu_o h
  refine V_sload dL_law_2187 (ib_in g318) ?_
  refine V_aloadS_n dL_law_2188 rfl ?_
  refine V_iload dL_law_2189 rfl ?_
  refine V_iconst (v := 5) dL_law_2191 rfl ?_
  refine V_iadd dL_law_2192 ?_
  obtain ⟨g319, h⟩ := gu_o h
  refine V_sload dL_law_2193 (ib_in g319) ?_
  refine V_aload_n dL_law_2194 rfl ?_
  obtain ⟨x320, y321, h⟩ := bi_o h
  refine V_callSX (as := [.ref 0, .int (gx G (Int32.toNatClampNeg (v4 + 1))), .int (gx G (Int32.toNatClampNeg (v4 + 2))), .int (gx G (Int32.toNatClampNeg (v4 + 3))), .int (gx G (Int32.toNatClampNeg (v4 + 4))), .int (gx G (Int32.toNatClampNeg (v4 + 5))), .ref 128]) (rest := []) dL_law_2195 os_mL_takes rfl lk_RL_265 (by decide) (by decide) rfl rfl (Nat.le_of_ble_eq_true rfl) (VM_L_takes G fu hG (gx G (Int32.toNatClampNeg (v4 + 1))) (gx G (Int32.toNatClampNeg (v4 + 2))) (gx G (Int32.toNatClampNeg (v4 + 3))) (gx G (Int32.toNatClampNeg (v4 + 4))) (gx G (Int32.toNatClampNeg (v4 + 5))) μ _ y321) ?_
  refine V_istore (lv2 := [some (.null), some (.ref 0), some (.ref 85), some (.ref 128), some (.int v4), some (.int x320.1), none, none]) dL_law_2198 (by decide) rfl ?_
  refine V_aload_n dL_law_2200 rfl ?_
  refine V_aloadS_n dL_law_2201 rfl ?_
  refine V_iload dL_law_2202 rfl ?_
  refine V_iconst (v := 1) dL_law_2204 rfl ?_
  refine V_iadd dL_law_2205 ?_
  obtain ⟨g322, h⟩ := gu_o h
  refine V_sload dL_law_2206 (ib_in g322) ?_
  refine V_aloadS_n dL_law_2207 rfl ?_
  refine V_iload dL_law_2208 rfl ?_
  refine V_iconst (v := 2) dL_law_2210 rfl ?_
  refine V_iadd dL_law_2211 ?_
  obtain ⟨g323, h⟩ := gu_o h
  refine V_sload dL_law_2212 (ib_in g323) ?_
  refine V_aloadS_n dL_law_2213 rfl ?_
  refine V_iload dL_law_2214 rfl ?_
  refine V_iconst (v := 3) dL_law_2216 rfl ?_
  refine V_iadd dL_law_2217 ?_
  obtain ⟨g324, h⟩ := gu_o h
  refine V_sload dL_law_2218 (ib_in g324) ?_
  refine V_aloadS_n dL_law_2219 rfl ?_
  refine V_iload dL_law_2220 rfl ?_
  refine V_iconst (v := 4) dL_law_2222 rfl ?_
  refine V_iadd dL_law_2223 ?_
  obtain ⟨g325, h⟩ := gu_o h
  refine V_sload dL_law_2224 (ib_in g325) ?_
  refine V_aloadS_n dL_law_2225 rfl ?_
  refine V_iload dL_law_2226 rfl ?_
  refine V_iconst (v := 5) dL_law_2228 rfl ?_
  refine V_iadd dL_law_2229 ?_
  obtain ⟨g326, h⟩ := gu_o h
  refine V_sload dL_law_2230 (ib_in g326) ?_
  obtain ⟨x327, y328, h⟩ := bi_o h
  refine V_callV (as := [.int (gx G (Int32.toNatClampNeg (v4 + 1))), .int (gx G (Int32.toNatClampNeg (v4 + 2))), .int (gx G (Int32.toNatClampNeg (v4 + 3))), .int (gx G (Int32.toNatClampNeg (v4 + 4))), .int (gx G (Int32.toNatClampNeg (v4 + 5)))]) (q := 85) (rest := []) dL_law_2231 ov_mX7_takes lk_RL_267 (by decide) (by decide) rfl rfl (Nat.le_of_ble_eq_true rfl) (tq_85 hG) rfl (VM_X7_takes G fu hG (gx G (Int32.toNatClampNeg (v4 + 1))) (gx G (Int32.toNatClampNeg (v4 + 2))) (gx G (Int32.toNatClampNeg (v4 + 3))) (gx G (Int32.toNatClampNeg (v4 + 4))) (gx G (Int32.toNatClampNeg (v4 + 5))) x320.2 _ y328) ?_
  refine V_lstore (lv2 := [some (.null), some (.ref 0), some (.ref 85), some (.ref 128), some (.int v4), some (.int x320.1), some (.long x327.1), none]) dL_law_2234 (by decide) rfl ?_
  refine V_aload_n dL_law_2236 rfl ?_
  obtain ⟨x329, y330, h⟩ := bi_o h
  refine V_callV (as := []) (q := 85) (rest := []) dL_law_2237 ov_mX7_thrown lk_RL_175 (by decide) (by decide) rfl rfl (Nat.le_of_ble_eq_true rfl) (tq_85 hG) rfl (VM_X7_thrown G x327.2 hG _ y330) ?_
  refine V_iload dL_law_2240 rfl ?_
  by_cases c2242 : x329 = x320.1
  · rw [if_pos c2242] at h
    refine V_icmpeq_t (tgt := 2247) dL_law_2242 (by decide) c2242 ?_
    refine V_iload dL_law_2247 rfl ?_
    by_cases c2249 : x320.1 = 0
    · rw [if_pos c2249] at h
      refine V_ifne_f (tgt := 2263) dL_law_2249 (by decide) c2249 ?_
      refine V_aload_n dL_law_2252 rfl ?_
      refine V_iconst (v := 0) dL_law_2253 rfl ?_
      obtain ⟨g331, h⟩ := gu_o h
      refine V_laload dL_law_2254 (tq_128 hG) (ib_in g331) ?_
      refine V_lload dL_law_2255 rfl ?_
      refine V_lcmp dL_law_2257 ?_
      by_cases c2258 : (x327.2.2.1 128 (Int32.toNatClampNeg 0)) = x327.1
      · rw [if_pos c2258] at h
        refine V_ifeq_t (tgt := 2263) dL_law_2258 (by decide) ((lc_eq (x327.2.2.1 128 (Int32.toNatClampNeg 0)) x327.1).mpr c2258) ?_
        exact V_wk [true, true, true, true, true, false, false, false] rfl (T_L_law_2263 G fu hG k23 hk23 _ _ _ h)
      · rw [if_neg c2258] at h
        refine V_ifeq_f (tgt := 2263) dL_law_2258 (by decide) (fun z => c2258 ((lc_eq (x327.2.2.1 128 (Int32.toNatClampNeg 0)) x327.1).mp z)) ?_
        refine V_iconst (v := 0) dL_law_2261 rfl ?_
        cases h
        exact V_zret rfl (by decide) dL_law_2262
    · rw [if_neg c2249] at h
      refine V_ifne_t (tgt := 2263) dL_law_2249 (by decide) c2249 ?_
      exact V_wk [true, true, true, true, true, false, false, false] rfl (T_L_law_2263 G fu hG k23 hk23 _ _ _ h)
  · rw [if_neg c2242] at h
    refine V_icmpeq_f (tgt := 2247) dL_law_2242 (by decide) c2242 ?_
    refine V_iconst (v := 0) dL_law_2245 rfl ?_
    cases h
    exact V_zret rfl (by decide) dL_law_2246
def D_L_law_2366 (G : GX) (fu : Nat)  (k23 : Int32 → Mem → Option (Bool × Mem)) (v4 : Int32) (μ : Mem) : Option (Bool × Mem) :=
  D_L_law_3740 G fu k23 v4 μ
set_option maxRecDepth 20000 in
theorem T_L_law_2366 (G : GX) (fu : Nat)  (hG : gt G = tbl) (k23 : Int32 → Mem → Option (Bool × Mem)) (hk23 : ∀ (v4 : Int32) (μ : Mem) (r : (Bool × Mem)), k23 v4 μ = some r → V G mL_law 23 [some (.null), some (.ref 0), some (.ref 85), some (.ref 128), some (.int v4), none, none, none] [] μ (.inl (some (.int (b2i r.1)))) (r.2)) : ∀ (v4 : Int32) (μ : Mem) (r : (Bool × Mem)) , D_L_law_2366 G fu k23 v4 μ = some r → V G mL_law 2366 [some (.null), some (.ref 0), some (.ref 85), some (.ref 128), some (.int v4), none, none, none] [] μ (.inl (some (.int (b2i r.1)))) (r.2) := by
  intro v4 μ r h
  unfold D_L_law_2366 at h
  refine V_goto (tgt := 3740) dL_law_2366 (by decide) ?_
  exact V_wk [true, true, true, true, true, false, false, false] rfl (T_L_law_3740 G fu hG k23 hk23 _ _ _ h)
def D_L_law_2266 (G : GX) (fu : Nat)  (k23 : Int32 → Mem → Option (Bool × Mem)) (v4 : Int32) (μ : Mem) : Option (Bool × Mem) :=
  gu (ib (v4 + 1) (gn G)) <|
  gu (ib (v4 + 2) (gn G)) <|
  gu (ib (v4 + 3) (gn G)) <|
  gu (ib (v4 + 4) (gn G)) <|
  gu (ib (v4 + 5) (gn G)) <|
  (D_L_drops_0 fu (gx G (Int32.toNatClampNeg (v4 + 1))) (gx G (Int32.toNatClampNeg (v4 + 2))) (gx G (Int32.toNatClampNeg (v4 + 3))) (gx G (Int32.toNatClampNeg (v4 + 4))) (gx G (Int32.toNatClampNeg (v4 + 5))) μ).bind fun x337 =>
  gu (ib (v4 + 1) (gn G)) <|
  gu (ib (v4 + 2) (gn G)) <|
  gu (ib (v4 + 3) (gn G)) <|
  gu (ib (v4 + 4) (gn G)) <|
  gu (ib (v4 + 5) (gn G)) <|
  (D_X7_drops_0 fu (gx G (Int32.toNatClampNeg (v4 + 1))) (gx G (Int32.toNatClampNeg (v4 + 2))) (gx G (Int32.toNatClampNeg (v4 + 3))) (gx G (Int32.toNatClampNeg (v4 + 4))) (gx G (Int32.toNatClampNeg (v4 + 5))) x337.2).bind fun x344 =>
  (D_X7_thrown_0 x344.2).bind fun x346 =>
  if x346 = x337.1 then
    if x337.1 = 0 then
      gu (ib 0 1) <|
      if (x344.2.2.1 128 (Int32.toNatClampNeg 0)) = x344.1 then
        D_L_law_2366 G fu k23 v4 x344.2
      else
        some (false, x344.2)
    else
      D_L_law_2366 G fu k23 v4 x344.2
  else
    some (false, x344.2)
set_option maxRecDepth 20000 in
theorem T_L_law_2266 (G : GX) (fu : Nat)  (hG : gt G = tbl) (k23 : Int32 → Mem → Option (Bool × Mem)) (hk23 : ∀ (v4 : Int32) (μ : Mem) (r : (Bool × Mem)), k23 v4 μ = some r → V G mL_law 23 [some (.null), some (.ref 0), some (.ref 85), some (.ref 128), some (.int v4), none, none, none] [] μ (.inl (some (.int (b2i r.1)))) (r.2)) : ∀ (v4 : Int32) (μ : Mem) (r : (Bool × Mem)) , D_L_law_2266 G fu k23 v4 μ = some r → V G mL_law 2266 [some (.null), some (.ref 0), some (.ref 85), some (.ref 128), some (.int v4), none, none, none] [] μ (.inl (some (.int (b2i r.1)))) (r.2) := by
  intro v4 μ r h
  unfold D_L_law_2266 at h
  refine V_aload_n dL_law_2266 rfl ?_
  refine V_aloadS_n dL_law_2267 rfl ?_
  refine V_iload dL_law_2268 rfl ?_
  refine V_iconst (v := 1) dL_law_2270 rfl ?_
  refine V_iadd dL_law_2271 ?_
  obtain ⟨g332, h⟩ := gu_o h
  refine V_sload dL_law_2272 (ib_in g332) ?_
  refine V_aloadS_n dL_law_2273 rfl ?_
  refine V_iload dL_law_2274 rfl ?_
  refine V_iconst (v := 2) dL_law_2276 rfl ?_
  refine V_iadd dL_law_2277 ?_
  obtain ⟨g333, h⟩ := gu_o h
  refine V_sload dL_law_2278 (ib_in g333) ?_
  refine V_aloadS_n dL_law_2279 rfl ?_
  refine V_iload dL_law_2280 rfl ?_
  refine V_iconst (v := 3) dL_law_2282 rfl ?_
  refine V_iadd dL_law_2283 ?_
  obtain ⟨g334, h⟩ := gu_o h
  refine V_sload dL_law_2284 (ib_in g334) ?_
  refine V_aloadS_n dL_law_2285 rfl ?_
  refine V_iload dL_law_2286 rfl ?_
  refine V_iconst (v := 4) dL_law_2288 rfl ?_
  refine V_iadd dL_law_2289 ?_
  obtain ⟨g335, h⟩ := gu_o h
  refine V_sload dL_law_2290 (ib_in g335) ?_
  refine V_aloadS_n dL_law_2291 rfl ?_
  refine V_iload dL_law_2292 rfl ?_
  refine V_iconst (v := 5) dL_law_2294 rfl ?_
  refine V_iadd dL_law_2295 ?_
  obtain ⟨g336, h⟩ := gu_o h
  refine V_sload dL_law_2296 (ib_in g336) ?_
  refine V_aload_n dL_law_2297 rfl ?_
  obtain ⟨x337, y338, h⟩ := bi_o h
  refine V_callSX (as := [.ref 0, .int (gx G (Int32.toNatClampNeg (v4 + 1))), .int (gx G (Int32.toNatClampNeg (v4 + 2))), .int (gx G (Int32.toNatClampNeg (v4 + 3))), .int (gx G (Int32.toNatClampNeg (v4 + 4))), .int (gx G (Int32.toNatClampNeg (v4 + 5))), .ref 128]) (rest := []) dL_law_2298 os_mL_drops rfl lk_RL_268 (by decide) (by decide) rfl rfl (Nat.le_of_ble_eq_true rfl) (VM_L_drops G fu hG (gx G (Int32.toNatClampNeg (v4 + 1))) (gx G (Int32.toNatClampNeg (v4 + 2))) (gx G (Int32.toNatClampNeg (v4 + 3))) (gx G (Int32.toNatClampNeg (v4 + 4))) (gx G (Int32.toNatClampNeg (v4 + 5))) μ _ y338) ?_
  refine V_istore (lv2 := [some (.null), some (.ref 0), some (.ref 85), some (.ref 128), some (.int v4), some (.int x337.1), none, none]) dL_law_2301 (by decide) rfl ?_
  refine V_aload_n dL_law_2303 rfl ?_
  refine V_aloadS_n dL_law_2304 rfl ?_
  refine V_iload dL_law_2305 rfl ?_
  refine V_iconst (v := 1) dL_law_2307 rfl ?_
  refine V_iadd dL_law_2308 ?_
  obtain ⟨g339, h⟩ := gu_o h
  refine V_sload dL_law_2309 (ib_in g339) ?_
  refine V_aloadS_n dL_law_2310 rfl ?_
  refine V_iload dL_law_2311 rfl ?_
  refine V_iconst (v := 2) dL_law_2313 rfl ?_
  refine V_iadd dL_law_2314 ?_
  obtain ⟨g340, h⟩ := gu_o h
  refine V_sload dL_law_2315 (ib_in g340) ?_
  refine V_aloadS_n dL_law_2316 rfl ?_
  refine V_iload dL_law_2317 rfl ?_
  refine V_iconst (v := 3) dL_law_2319 rfl ?_
  refine V_iadd dL_law_2320 ?_
  obtain ⟨g341, h⟩ := gu_o h
  refine V_sload dL_law_2321 (ib_in g341) ?_
  refine V_aloadS_n dL_law_2322 rfl ?_
  refine V_iload dL_law_2323 rfl ?_
  refine V_iconst (v := 4) dL_law_2325 rfl ?_
  refine V_iadd dL_law_2326 ?_
  obtain ⟨g342, h⟩ := gu_o h
  refine V_sload dL_law_2327 (ib_in g342) ?_
  refine V_aloadS_n dL_law_2328 rfl ?_
  refine V_iload dL_law_2329 rfl ?_
  refine V_iconst (v := 5) dL_law_2331 rfl ?_
  refine V_iadd dL_law_2332 ?_
  obtain ⟨g343, h⟩ := gu_o h
  refine V_sload dL_law_2333 (ib_in g343) ?_
  obtain ⟨x344, y345, h⟩ := bi_o h
  refine V_callV (as := [.int (gx G (Int32.toNatClampNeg (v4 + 1))), .int (gx G (Int32.toNatClampNeg (v4 + 2))), .int (gx G (Int32.toNatClampNeg (v4 + 3))), .int (gx G (Int32.toNatClampNeg (v4 + 4))), .int (gx G (Int32.toNatClampNeg (v4 + 5)))]) (q := 85) (rest := []) dL_law_2334 ov_mX7_drops lk_RL_270 (by decide) (by decide) rfl rfl (Nat.le_of_ble_eq_true rfl) (tq_85 hG) rfl (VM_X7_drops G fu hG (gx G (Int32.toNatClampNeg (v4 + 1))) (gx G (Int32.toNatClampNeg (v4 + 2))) (gx G (Int32.toNatClampNeg (v4 + 3))) (gx G (Int32.toNatClampNeg (v4 + 4))) (gx G (Int32.toNatClampNeg (v4 + 5))) x337.2 _ y345) ?_
  refine V_lstore (lv2 := [some (.null), some (.ref 0), some (.ref 85), some (.ref 128), some (.int v4), some (.int x337.1), some (.long x344.1), none]) dL_law_2337 (by decide) rfl ?_
  refine V_aload_n dL_law_2339 rfl ?_
  obtain ⟨x346, y347, h⟩ := bi_o h
  refine V_callV (as := []) (q := 85) (rest := []) dL_law_2340 ov_mX7_thrown lk_RL_175 (by decide) (by decide) rfl rfl (Nat.le_of_ble_eq_true rfl) (tq_85 hG) rfl (VM_X7_thrown G x344.2 hG _ y347) ?_
  refine V_iload dL_law_2343 rfl ?_
  by_cases c2345 : x346 = x337.1
  · rw [if_pos c2345] at h
    refine V_icmpeq_t (tgt := 2350) dL_law_2345 (by decide) c2345 ?_
    refine V_iload dL_law_2350 rfl ?_
    by_cases c2352 : x337.1 = 0
    · rw [if_pos c2352] at h
      refine V_ifne_f (tgt := 2366) dL_law_2352 (by decide) c2352 ?_
      refine V_aload_n dL_law_2355 rfl ?_
      refine V_iconst (v := 0) dL_law_2356 rfl ?_
      obtain ⟨g348, h⟩ := gu_o h
      refine V_laload dL_law_2357 (tq_128 hG) (ib_in g348) ?_
      refine V_lload dL_law_2358 rfl ?_
      refine V_lcmp dL_law_2360 ?_
      by_cases c2361 : (x344.2.2.1 128 (Int32.toNatClampNeg 0)) = x344.1
      · rw [if_pos c2361] at h
        refine V_ifeq_t (tgt := 2366) dL_law_2361 (by decide) ((lc_eq (x344.2.2.1 128 (Int32.toNatClampNeg 0)) x344.1).mpr c2361) ?_
        exact V_wk [true, true, true, true, true, false, false, false] rfl (T_L_law_2366 G fu hG k23 hk23 _ _ _ h)
      · rw [if_neg c2361] at h
        refine V_ifeq_f (tgt := 2366) dL_law_2361 (by decide) (fun z => c2361 ((lc_eq (x344.2.2.1 128 (Int32.toNatClampNeg 0)) x344.1).mp z)) ?_
        refine V_iconst (v := 0) dL_law_2364 rfl ?_
        cases h
        exact V_zret rfl (by decide) dL_law_2365
    · rw [if_neg c2352] at h
      refine V_ifne_t (tgt := 2366) dL_law_2352 (by decide) c2352 ?_
      exact V_wk [true, true, true, true, true, false, false, false] rfl (T_L_law_2366 G fu hG k23 hk23 _ _ _ h)
  · rw [if_neg c2345] at h
    refine V_icmpeq_f (tgt := 2350) dL_law_2345 (by decide) c2345 ?_
    refine V_iconst (v := 0) dL_law_2348 rfl ?_
    cases h
    exact V_zret rfl (by decide) dL_law_2349
def D_L_law_2469 (G : GX) (fu : Nat)  (k23 : Int32 → Mem → Option (Bool × Mem)) (v4 : Int32) (μ : Mem) : Option (Bool × Mem) :=
  D_L_law_3740 G fu k23 v4 μ
set_option maxRecDepth 20000 in
theorem T_L_law_2469 (G : GX) (fu : Nat)  (hG : gt G = tbl) (k23 : Int32 → Mem → Option (Bool × Mem)) (hk23 : ∀ (v4 : Int32) (μ : Mem) (r : (Bool × Mem)), k23 v4 μ = some r → V G mL_law 23 [some (.null), some (.ref 0), some (.ref 85), some (.ref 128), some (.int v4), none, none, none] [] μ (.inl (some (.int (b2i r.1)))) (r.2)) : ∀ (v4 : Int32) (μ : Mem) (r : (Bool × Mem)) , D_L_law_2469 G fu k23 v4 μ = some r → V G mL_law 2469 [some (.null), some (.ref 0), some (.ref 85), some (.ref 128), some (.int v4), none, none, none] [] μ (.inl (some (.int (b2i r.1)))) (r.2) := by
  intro v4 μ r h
  unfold D_L_law_2469 at h
  refine V_goto (tgt := 3740) dL_law_2469 (by decide) ?_
  exact V_wk [true, true, true, true, true, false, false, false] rfl (T_L_law_3740 G fu hG k23 hk23 _ _ _ h)
def D_L_law_2369 (G : GX) (fu : Nat)  (k23 : Int32 → Mem → Option (Bool × Mem)) (v4 : Int32) (μ : Mem) : Option (Bool × Mem) :=
  gu (ib (v4 + 1) (gn G)) <|
  gu (ib (v4 + 2) (gn G)) <|
  gu (ib (v4 + 3) (gn G)) <|
  gu (ib (v4 + 4) (gn G)) <|
  gu (ib (v4 + 5) (gn G)) <|
  (D_L_share_0 fu (gx G (Int32.toNatClampNeg (v4 + 1))) (gx G (Int32.toNatClampNeg (v4 + 2))) (gx G (Int32.toNatClampNeg (v4 + 3))) (gx G (Int32.toNatClampNeg (v4 + 4))) (gx G (Int32.toNatClampNeg (v4 + 5))) μ).bind fun x354 =>
  gu (ib (v4 + 1) (gn G)) <|
  gu (ib (v4 + 2) (gn G)) <|
  gu (ib (v4 + 3) (gn G)) <|
  gu (ib (v4 + 4) (gn G)) <|
  gu (ib (v4 + 5) (gn G)) <|
  (D_X7_share_0 fu (gx G (Int32.toNatClampNeg (v4 + 1))) (gx G (Int32.toNatClampNeg (v4 + 2))) (gx G (Int32.toNatClampNeg (v4 + 3))) (gx G (Int32.toNatClampNeg (v4 + 4))) (gx G (Int32.toNatClampNeg (v4 + 5))) x354.2).bind fun x361 =>
  (D_X7_thrown_0 x361.2).bind fun x363 =>
  if x363 = x354.1 then
    if x354.1 = 0 then
      gu (ib 0 1) <|
      if (x361.2.2.1 128 (Int32.toNatClampNeg 0)) = x361.1 then
        D_L_law_2469 G fu k23 v4 x361.2
      else
        some (false, x361.2)
    else
      D_L_law_2469 G fu k23 v4 x361.2
  else
    some (false, x361.2)
set_option maxRecDepth 20000 in
theorem T_L_law_2369 (G : GX) (fu : Nat)  (hG : gt G = tbl) (k23 : Int32 → Mem → Option (Bool × Mem)) (hk23 : ∀ (v4 : Int32) (μ : Mem) (r : (Bool × Mem)), k23 v4 μ = some r → V G mL_law 23 [some (.null), some (.ref 0), some (.ref 85), some (.ref 128), some (.int v4), none, none, none] [] μ (.inl (some (.int (b2i r.1)))) (r.2)) : ∀ (v4 : Int32) (μ : Mem) (r : (Bool × Mem)) , D_L_law_2369 G fu k23 v4 μ = some r → V G mL_law 2369 [some (.null), some (.ref 0), some (.ref 85), some (.ref 128), some (.int v4), none, none, none] [] μ (.inl (some (.int (b2i r.1)))) (r.2) := by
  intro v4 μ r h
  unfold D_L_law_2369 at h
  refine V_aload_n dL_law_2369 rfl ?_
  refine V_aloadS_n dL_law_2370 rfl ?_
  refine V_iload dL_law_2371 rfl ?_
  refine V_iconst (v := 1) dL_law_2373 rfl ?_
  refine V_iadd dL_law_2374 ?_
  obtain ⟨g349, h⟩ := gu_o h
  refine V_sload dL_law_2375 (ib_in g349) ?_
  refine V_aloadS_n dL_law_2376 rfl ?_
  refine V_iload dL_law_2377 rfl ?_
  refine V_iconst (v := 2) dL_law_2379 rfl ?_
  refine V_iadd dL_law_2380 ?_
  obtain ⟨g350, h⟩ := gu_o h
  refine V_sload dL_law_2381 (ib_in g350) ?_
  refine V_aloadS_n dL_law_2382 rfl ?_
  refine V_iload dL_law_2383 rfl ?_
  refine V_iconst (v := 3) dL_law_2385 rfl ?_
  refine V_iadd dL_law_2386 ?_
  obtain ⟨g351, h⟩ := gu_o h
  refine V_sload dL_law_2387 (ib_in g351) ?_
  refine V_aloadS_n dL_law_2388 rfl ?_
  refine V_iload dL_law_2389 rfl ?_
  refine V_iconst (v := 4) dL_law_2391 rfl ?_
  refine V_iadd dL_law_2392 ?_
  obtain ⟨g352, h⟩ := gu_o h
  refine V_sload dL_law_2393 (ib_in g352) ?_
  refine V_aloadS_n dL_law_2394 rfl ?_
  refine V_iload dL_law_2395 rfl ?_
  refine V_iconst (v := 5) dL_law_2397 rfl ?_
  refine V_iadd dL_law_2398 ?_
  obtain ⟨g353, h⟩ := gu_o h
  refine V_sload dL_law_2399 (ib_in g353) ?_
  refine V_aload_n dL_law_2400 rfl ?_
  obtain ⟨x354, y355, h⟩ := bi_o h
  refine V_callSX (as := [.ref 0, .int (gx G (Int32.toNatClampNeg (v4 + 1))), .int (gx G (Int32.toNatClampNeg (v4 + 2))), .int (gx G (Int32.toNatClampNeg (v4 + 3))), .int (gx G (Int32.toNatClampNeg (v4 + 4))), .int (gx G (Int32.toNatClampNeg (v4 + 5))), .ref 128]) (rest := []) dL_law_2401 os_mL_share rfl lk_RL_271 (by decide) (by decide) rfl rfl (Nat.le_of_ble_eq_true rfl) (VM_L_share G fu hG (gx G (Int32.toNatClampNeg (v4 + 1))) (gx G (Int32.toNatClampNeg (v4 + 2))) (gx G (Int32.toNatClampNeg (v4 + 3))) (gx G (Int32.toNatClampNeg (v4 + 4))) (gx G (Int32.toNatClampNeg (v4 + 5))) μ _ y355) ?_
  refine V_istore (lv2 := [some (.null), some (.ref 0), some (.ref 85), some (.ref 128), some (.int v4), some (.int x354.1), none, none]) dL_law_2404 (by decide) rfl ?_
  refine V_aload_n dL_law_2406 rfl ?_
  refine V_aloadS_n dL_law_2407 rfl ?_
  refine V_iload dL_law_2408 rfl ?_
  refine V_iconst (v := 1) dL_law_2410 rfl ?_
  refine V_iadd dL_law_2411 ?_
  obtain ⟨g356, h⟩ := gu_o h
  refine V_sload dL_law_2412 (ib_in g356) ?_
  refine V_aloadS_n dL_law_2413 rfl ?_
  refine V_iload dL_law_2414 rfl ?_
  refine V_iconst (v := 2) dL_law_2416 rfl ?_
  refine V_iadd dL_law_2417 ?_
  obtain ⟨g357, h⟩ := gu_o h
  refine V_sload dL_law_2418 (ib_in g357) ?_
  refine V_aloadS_n dL_law_2419 rfl ?_
  refine V_iload dL_law_2420 rfl ?_
  refine V_iconst (v := 3) dL_law_2422 rfl ?_
  refine V_iadd dL_law_2423 ?_
  obtain ⟨g358, h⟩ := gu_o h
  refine V_sload dL_law_2424 (ib_in g358) ?_
  refine V_aloadS_n dL_law_2425 rfl ?_
  refine V_iload dL_law_2426 rfl ?_
  refine V_iconst (v := 4) dL_law_2428 rfl ?_
  refine V_iadd dL_law_2429 ?_
  obtain ⟨g359, h⟩ := gu_o h
  refine V_sload dL_law_2430 (ib_in g359) ?_
  refine V_aloadS_n dL_law_2431 rfl ?_
  refine V_iload dL_law_2432 rfl ?_
  refine V_iconst (v := 5) dL_law_2434 rfl ?_
  refine V_iadd dL_law_2435 ?_
  obtain ⟨g360, h⟩ := gu_o h
  refine V_sload dL_law_2436 (ib_in g360) ?_
  obtain ⟨x361, y362, h⟩ := bi_o h
  refine V_callV (as := [.int (gx G (Int32.toNatClampNeg (v4 + 1))), .int (gx G (Int32.toNatClampNeg (v4 + 2))), .int (gx G (Int32.toNatClampNeg (v4 + 3))), .int (gx G (Int32.toNatClampNeg (v4 + 4))), .int (gx G (Int32.toNatClampNeg (v4 + 5)))]) (q := 85) (rest := []) dL_law_2437 ov_mX7_share lk_RL_273 (by decide) (by decide) rfl rfl (Nat.le_of_ble_eq_true rfl) (tq_85 hG) rfl (VM_X7_share G fu hG (gx G (Int32.toNatClampNeg (v4 + 1))) (gx G (Int32.toNatClampNeg (v4 + 2))) (gx G (Int32.toNatClampNeg (v4 + 3))) (gx G (Int32.toNatClampNeg (v4 + 4))) (gx G (Int32.toNatClampNeg (v4 + 5))) x354.2 _ y362) ?_
  refine V_lstore (lv2 := [some (.null), some (.ref 0), some (.ref 85), some (.ref 128), some (.int v4), some (.int x354.1), some (.long x361.1), none]) dL_law_2440 (by decide) rfl ?_
  refine V_aload_n dL_law_2442 rfl ?_
  obtain ⟨x363, y364, h⟩ := bi_o h
  refine V_callV (as := []) (q := 85) (rest := []) dL_law_2443 ov_mX7_thrown lk_RL_175 (by decide) (by decide) rfl rfl (Nat.le_of_ble_eq_true rfl) (tq_85 hG) rfl (VM_X7_thrown G x361.2 hG _ y364) ?_
  refine V_iload dL_law_2446 rfl ?_
  by_cases c2448 : x363 = x354.1
  · rw [if_pos c2448] at h
    refine V_icmpeq_t (tgt := 2453) dL_law_2448 (by decide) c2448 ?_
    refine V_iload dL_law_2453 rfl ?_
    by_cases c2455 : x354.1 = 0
    · rw [if_pos c2455] at h
      refine V_ifne_f (tgt := 2469) dL_law_2455 (by decide) c2455 ?_
      refine V_aload_n dL_law_2458 rfl ?_
      refine V_iconst (v := 0) dL_law_2459 rfl ?_
      obtain ⟨g365, h⟩ := gu_o h
      refine V_laload dL_law_2460 (tq_128 hG) (ib_in g365) ?_
      refine V_lload dL_law_2461 rfl ?_
      refine V_lcmp dL_law_2463 ?_
      by_cases c2464 : (x361.2.2.1 128 (Int32.toNatClampNeg 0)) = x361.1
      · rw [if_pos c2464] at h
        refine V_ifeq_t (tgt := 2469) dL_law_2464 (by decide) ((lc_eq (x361.2.2.1 128 (Int32.toNatClampNeg 0)) x361.1).mpr c2464) ?_
        exact V_wk [true, true, true, true, true, false, false, false] rfl (T_L_law_2469 G fu hG k23 hk23 _ _ _ h)
      · rw [if_neg c2464] at h
        refine V_ifeq_f (tgt := 2469) dL_law_2464 (by decide) (fun z => c2464 ((lc_eq (x361.2.2.1 128 (Int32.toNatClampNeg 0)) x361.1).mp z)) ?_
        refine V_iconst (v := 0) dL_law_2467 rfl ?_
        cases h
        exact V_zret rfl (by decide) dL_law_2468
    · rw [if_neg c2455] at h
      refine V_ifne_t (tgt := 2469) dL_law_2455 (by decide) c2455 ?_
      exact V_wk [true, true, true, true, true, false, false, false] rfl (T_L_law_2469 G fu hG k23 hk23 _ _ _ h)
  · rw [if_neg c2448] at h
    refine V_icmpeq_f (tgt := 2453) dL_law_2448 (by decide) c2448 ?_
    refine V_iconst (v := 0) dL_law_2451 rfl ?_
    cases h
    exact V_zret rfl (by decide) dL_law_2452
def D_L_law_2560 (G : GX) (fu : Nat)  (k23 : Int32 → Mem → Option (Bool × Mem)) (v4 : Int32) (μ : Mem) : Option (Bool × Mem) :=
  D_L_law_3740 G fu k23 v4 μ
set_option maxRecDepth 20000 in
theorem T_L_law_2560 (G : GX) (fu : Nat)  (hG : gt G = tbl) (k23 : Int32 → Mem → Option (Bool × Mem)) (hk23 : ∀ (v4 : Int32) (μ : Mem) (r : (Bool × Mem)), k23 v4 μ = some r → V G mL_law 23 [some (.null), some (.ref 0), some (.ref 85), some (.ref 128), some (.int v4), none, none, none] [] μ (.inl (some (.int (b2i r.1)))) (r.2)) : ∀ (v4 : Int32) (μ : Mem) (r : (Bool × Mem)) , D_L_law_2560 G fu k23 v4 μ = some r → V G mL_law 2560 [some (.null), some (.ref 0), some (.ref 85), some (.ref 128), some (.int v4), none, none, none] [] μ (.inl (some (.int (b2i r.1)))) (r.2) := by
  intro v4 μ r h
  unfold D_L_law_2560 at h
  refine V_goto (tgt := 3740) dL_law_2560 (by decide) ?_
  exact V_wk [true, true, true, true, true, false, false, false] rfl (T_L_law_3740 G fu hG k23 hk23 _ _ _ h)
def D_L_law_2472 (G : GX) (fu : Nat)  (k23 : Int32 → Mem → Option (Bool × Mem)) (v4 : Int32) (μ : Mem) : Option (Bool × Mem) :=
  gu (ib (v4 + 1) (gn G)) <|
  gu (ib (v4 + 2) (gn G)) <|
  gu (ib (v4 + 3) (gn G)) <|
  gu (ib (v4 + 4) (gn G)) <|
  (D_L_weight_0 fu (gx G (Int32.toNatClampNeg (v4 + 1))) (gx G (Int32.toNatClampNeg (v4 + 2))) (gx G (Int32.toNatClampNeg (v4 + 3))) (gx G (Int32.toNatClampNeg (v4 + 4))) μ).bind fun x370 =>
  gu (ib (v4 + 1) (gn G)) <|
  gu (ib (v4 + 2) (gn G)) <|
  gu (ib (v4 + 3) (gn G)) <|
  gu (ib (v4 + 4) (gn G)) <|
  (D_X7_weight_0 fu (gx G (Int32.toNatClampNeg (v4 + 1))) (gx G (Int32.toNatClampNeg (v4 + 2))) (gx G (Int32.toNatClampNeg (v4 + 3))) (gx G (Int32.toNatClampNeg (v4 + 4))) x370.2).bind fun x376 =>
  (D_X7_thrown_0 x376.2).bind fun x378 =>
  if x378 = x370.1 then
    if x370.1 = 0 then
      gu (ib 0 1) <|
      if (x376.2.2.1 128 (Int32.toNatClampNeg 0)) = x376.1 then
        D_L_law_2560 G fu k23 v4 x376.2
      else
        some (false, x376.2)
    else
      D_L_law_2560 G fu k23 v4 x376.2
  else
    some (false, x376.2)
set_option maxRecDepth 20000 in
theorem T_L_law_2472 (G : GX) (fu : Nat)  (hG : gt G = tbl) (k23 : Int32 → Mem → Option (Bool × Mem)) (hk23 : ∀ (v4 : Int32) (μ : Mem) (r : (Bool × Mem)), k23 v4 μ = some r → V G mL_law 23 [some (.null), some (.ref 0), some (.ref 85), some (.ref 128), some (.int v4), none, none, none] [] μ (.inl (some (.int (b2i r.1)))) (r.2)) : ∀ (v4 : Int32) (μ : Mem) (r : (Bool × Mem)) , D_L_law_2472 G fu k23 v4 μ = some r → V G mL_law 2472 [some (.null), some (.ref 0), some (.ref 85), some (.ref 128), some (.int v4), none, none, none] [] μ (.inl (some (.int (b2i r.1)))) (r.2) := by
  intro v4 μ r h
  unfold D_L_law_2472 at h
  refine V_aload_n dL_law_2472 rfl ?_
  refine V_aloadS_n dL_law_2473 rfl ?_
  refine V_iload dL_law_2474 rfl ?_
  refine V_iconst (v := 1) dL_law_2476 rfl ?_
  refine V_iadd dL_law_2477 ?_
  obtain ⟨g366, h⟩ := gu_o h
  refine V_sload dL_law_2478 (ib_in g366) ?_
  refine V_aloadS_n dL_law_2479 rfl ?_
  refine V_iload dL_law_2480 rfl ?_
  refine V_iconst (v := 2) dL_law_2482 rfl ?_
  refine V_iadd dL_law_2483 ?_
  obtain ⟨g367, h⟩ := gu_o h
  refine V_sload dL_law_2484 (ib_in g367) ?_
  refine V_aloadS_n dL_law_2485 rfl ?_
  refine V_iload dL_law_2486 rfl ?_
  refine V_iconst (v := 3) dL_law_2488 rfl ?_
  refine V_iadd dL_law_2489 ?_
  obtain ⟨g368, h⟩ := gu_o h
  refine V_sload dL_law_2490 (ib_in g368) ?_
  refine V_aloadS_n dL_law_2491 rfl ?_
  refine V_iload dL_law_2492 rfl ?_
  refine V_iconst (v := 4) dL_law_2494 rfl ?_
  refine V_iadd dL_law_2495 ?_
  obtain ⟨g369, h⟩ := gu_o h
  refine V_sload dL_law_2496 (ib_in g369) ?_
  refine V_aload_n dL_law_2497 rfl ?_
  obtain ⟨x370, y371, h⟩ := bi_o h
  refine V_callSX (as := [.ref 0, .int (gx G (Int32.toNatClampNeg (v4 + 1))), .int (gx G (Int32.toNatClampNeg (v4 + 2))), .int (gx G (Int32.toNatClampNeg (v4 + 3))), .int (gx G (Int32.toNatClampNeg (v4 + 4))), .ref 128]) (rest := []) dL_law_2498 os_mL_weight rfl lk_RL_274 (by decide) (by decide) rfl rfl (Nat.le_of_ble_eq_true rfl) (VM_L_weight G fu hG (gx G (Int32.toNatClampNeg (v4 + 1))) (gx G (Int32.toNatClampNeg (v4 + 2))) (gx G (Int32.toNatClampNeg (v4 + 3))) (gx G (Int32.toNatClampNeg (v4 + 4))) μ _ y371) ?_
  refine V_istore (lv2 := [some (.null), some (.ref 0), some (.ref 85), some (.ref 128), some (.int v4), some (.int x370.1), none, none]) dL_law_2501 (by decide) rfl ?_
  refine V_aload_n dL_law_2503 rfl ?_
  refine V_aloadS_n dL_law_2504 rfl ?_
  refine V_iload dL_law_2505 rfl ?_
  refine V_iconst (v := 1) dL_law_2507 rfl ?_
  refine V_iadd dL_law_2508 ?_
  obtain ⟨g372, h⟩ := gu_o h
  refine V_sload dL_law_2509 (ib_in g372) ?_
  refine V_aloadS_n dL_law_2510 rfl ?_
  refine V_iload dL_law_2511 rfl ?_
  refine V_iconst (v := 2) dL_law_2513 rfl ?_
  refine V_iadd dL_law_2514 ?_
  obtain ⟨g373, h⟩ := gu_o h
  refine V_sload dL_law_2515 (ib_in g373) ?_
  refine V_aloadS_n dL_law_2516 rfl ?_
  refine V_iload dL_law_2517 rfl ?_
  refine V_iconst (v := 3) dL_law_2519 rfl ?_
  refine V_iadd dL_law_2520 ?_
  obtain ⟨g374, h⟩ := gu_o h
  refine V_sload dL_law_2521 (ib_in g374) ?_
  refine V_aloadS_n dL_law_2522 rfl ?_
  refine V_iload dL_law_2523 rfl ?_
  refine V_iconst (v := 4) dL_law_2525 rfl ?_
  refine V_iadd dL_law_2526 ?_
  obtain ⟨g375, h⟩ := gu_o h
  refine V_sload dL_law_2527 (ib_in g375) ?_
  obtain ⟨x376, y377, h⟩ := bi_o h
  refine V_callV (as := [.int (gx G (Int32.toNatClampNeg (v4 + 1))), .int (gx G (Int32.toNatClampNeg (v4 + 2))), .int (gx G (Int32.toNatClampNeg (v4 + 3))), .int (gx G (Int32.toNatClampNeg (v4 + 4)))]) (q := 85) (rest := []) dL_law_2528 ov_mX7_weight lk_RL_276 (by decide) (by decide) rfl rfl (Nat.le_of_ble_eq_true rfl) (tq_85 hG) rfl (VM_X7_weight G fu hG (gx G (Int32.toNatClampNeg (v4 + 1))) (gx G (Int32.toNatClampNeg (v4 + 2))) (gx G (Int32.toNatClampNeg (v4 + 3))) (gx G (Int32.toNatClampNeg (v4 + 4))) x370.2 _ y377) ?_
  refine V_lstore (lv2 := [some (.null), some (.ref 0), some (.ref 85), some (.ref 128), some (.int v4), some (.int x370.1), some (.long x376.1), none]) dL_law_2531 (by decide) rfl ?_
  refine V_aload_n dL_law_2533 rfl ?_
  obtain ⟨x378, y379, h⟩ := bi_o h
  refine V_callV (as := []) (q := 85) (rest := []) dL_law_2534 ov_mX7_thrown lk_RL_175 (by decide) (by decide) rfl rfl (Nat.le_of_ble_eq_true rfl) (tq_85 hG) rfl (VM_X7_thrown G x376.2 hG _ y379) ?_
  refine V_iload dL_law_2537 rfl ?_
  by_cases c2539 : x378 = x370.1
  · rw [if_pos c2539] at h
    refine V_icmpeq_t (tgt := 2544) dL_law_2539 (by decide) c2539 ?_
    refine V_iload dL_law_2544 rfl ?_
    by_cases c2546 : x370.1 = 0
    · rw [if_pos c2546] at h
      refine V_ifne_f (tgt := 2560) dL_law_2546 (by decide) c2546 ?_
      refine V_aload_n dL_law_2549 rfl ?_
      refine V_iconst (v := 0) dL_law_2550 rfl ?_
      obtain ⟨g380, h⟩ := gu_o h
      refine V_laload dL_law_2551 (tq_128 hG) (ib_in g380) ?_
      refine V_lload dL_law_2552 rfl ?_
      refine V_lcmp dL_law_2554 ?_
      by_cases c2555 : (x376.2.2.1 128 (Int32.toNatClampNeg 0)) = x376.1
      · rw [if_pos c2555] at h
        refine V_ifeq_t (tgt := 2560) dL_law_2555 (by decide) ((lc_eq (x376.2.2.1 128 (Int32.toNatClampNeg 0)) x376.1).mpr c2555) ?_
        exact V_wk [true, true, true, true, true, false, false, false] rfl (T_L_law_2560 G fu hG k23 hk23 _ _ _ h)
      · rw [if_neg c2555] at h
        refine V_ifeq_f (tgt := 2560) dL_law_2555 (by decide) (fun z => c2555 ((lc_eq (x376.2.2.1 128 (Int32.toNatClampNeg 0)) x376.1).mp z)) ?_
        refine V_iconst (v := 0) dL_law_2558 rfl ?_
        cases h
        exact V_zret rfl (by decide) dL_law_2559
    · rw [if_neg c2546] at h
      refine V_ifne_t (tgt := 2560) dL_law_2546 (by decide) c2546 ?_
      exact V_wk [true, true, true, true, true, false, false, false] rfl (T_L_law_2560 G fu hG k23 hk23 _ _ _ h)
  · rw [if_neg c2539] at h
    refine V_icmpeq_f (tgt := 2544) dL_law_2539 (by decide) c2539 ?_
    refine V_iconst (v := 0) dL_law_2542 rfl ?_
    cases h
    exact V_zret rfl (by decide) dL_law_2543
def D_L_law_2652 (G : GX) (fu : Nat)  (k23 : Int32 → Mem → Option (Bool × Mem)) (v4 : Int32) (μ : Mem) : Option (Bool × Mem) :=
  D_L_law_3740 G fu k23 v4 μ
set_option maxRecDepth 20000 in
theorem T_L_law_2652 (G : GX) (fu : Nat)  (hG : gt G = tbl) (k23 : Int32 → Mem → Option (Bool × Mem)) (hk23 : ∀ (v4 : Int32) (μ : Mem) (r : (Bool × Mem)), k23 v4 μ = some r → V G mL_law 23 [some (.null), some (.ref 0), some (.ref 85), some (.ref 128), some (.int v4), none, none, none] [] μ (.inl (some (.int (b2i r.1)))) (r.2)) : ∀ (v4 : Int32) (μ : Mem) (r : (Bool × Mem)) , D_L_law_2652 G fu k23 v4 μ = some r → V G mL_law 2652 [some (.null), some (.ref 0), some (.ref 85), some (.ref 128), some (.int v4), none, none, none] [] μ (.inl (some (.int (b2i r.1)))) (r.2) := by
  intro v4 μ r h
  unfold D_L_law_2652 at h
  refine V_goto (tgt := 3740) dL_law_2652 (by decide) ?_
  exact V_wk [true, true, true, true, true, false, false, false] rfl (T_L_law_3740 G fu hG k23 hk23 _ _ _ h)
def D_L_law_2563 (G : GX) (fu : Nat)  (k23 : Int32 → Mem → Option (Bool × Mem)) (v4 : Int32) (μ : Mem) : Option (Bool × Mem) :=
  gu (ib (v4 + 1) (gn G)) <|
  gu (ib (v4 + 2) (gn G)) <|
  gu (ib (v4 + 3) (gn G)) <|
  gu (ib (v4 + 4) (gn G)) <|
  (D_L_picks_0 fu (gx G (Int32.toNatClampNeg (v4 + 1))) (gx G (Int32.toNatClampNeg (v4 + 2))) (gx G (Int32.toNatClampNeg (v4 + 3))) (gx G (Int32.toNatClampNeg (v4 + 4))) μ).bind fun x385 =>
  gu (ib (v4 + 1) (gn G)) <|
  gu (ib (v4 + 2) (gn G)) <|
  gu (ib (v4 + 3) (gn G)) <|
  gu (ib (v4 + 4) (gn G)) <|
  (D_X7_picks_0 fu (gx G (Int32.toNatClampNeg (v4 + 1))) (gx G (Int32.toNatClampNeg (v4 + 2))) (gx G (Int32.toNatClampNeg (v4 + 3))) (gx G (Int32.toNatClampNeg (v4 + 4))) x385.2).bind fun x391 =>
  (D_X7_thrown_0 x391.2).bind fun x393 =>
  if x393 = x385.1 then
    if x385.1 = 0 then
      gu (ib 0 1) <|
      if (x391.2.2.1 128 (Int32.toNatClampNeg 0)) = ((x391.1 : Int32).toInt64) then
        D_L_law_2652 G fu k23 v4 x391.2
      else
        some (false, x391.2)
    else
      D_L_law_2652 G fu k23 v4 x391.2
  else
    some (false, x391.2)
set_option maxRecDepth 20000 in
theorem T_L_law_2563 (G : GX) (fu : Nat)  (hG : gt G = tbl) (k23 : Int32 → Mem → Option (Bool × Mem)) (hk23 : ∀ (v4 : Int32) (μ : Mem) (r : (Bool × Mem)), k23 v4 μ = some r → V G mL_law 23 [some (.null), some (.ref 0), some (.ref 85), some (.ref 128), some (.int v4), none, none, none] [] μ (.inl (some (.int (b2i r.1)))) (r.2)) : ∀ (v4 : Int32) (μ : Mem) (r : (Bool × Mem)) , D_L_law_2563 G fu k23 v4 μ = some r → V G mL_law 2563 [some (.null), some (.ref 0), some (.ref 85), some (.ref 128), some (.int v4), none, none, none] [] μ (.inl (some (.int (b2i r.1)))) (r.2) := by
  intro v4 μ r h
  unfold D_L_law_2563 at h
  refine V_aload_n dL_law_2563 rfl ?_
  refine V_aloadS_n dL_law_2564 rfl ?_
  refine V_iload dL_law_2565 rfl ?_
  refine V_iconst (v := 1) dL_law_2567 rfl ?_
  refine V_iadd dL_law_2568 ?_
  obtain ⟨g381, h⟩ := gu_o h
  refine V_sload dL_law_2569 (ib_in g381) ?_
  refine V_aloadS_n dL_law_2570 rfl ?_
  refine V_iload dL_law_2571 rfl ?_
  refine V_iconst (v := 2) dL_law_2573 rfl ?_
  refine V_iadd dL_law_2574 ?_
  obtain ⟨g382, h⟩ := gu_o h
  refine V_sload dL_law_2575 (ib_in g382) ?_
  refine V_aloadS_n dL_law_2576 rfl ?_
  refine V_iload dL_law_2577 rfl ?_
  refine V_iconst (v := 3) dL_law_2579 rfl ?_
  refine V_iadd dL_law_2580 ?_
  obtain ⟨g383, h⟩ := gu_o h
  refine V_sload dL_law_2581 (ib_in g383) ?_
  refine V_aloadS_n dL_law_2582 rfl ?_
  refine V_iload dL_law_2583 rfl ?_
  refine V_iconst (v := 4) dL_law_2585 rfl ?_
  refine V_iadd dL_law_2586 ?_
  obtain ⟨g384, h⟩ := gu_o h
  refine V_sload dL_law_2587 (ib_in g384) ?_
  refine V_aload_n dL_law_2588 rfl ?_
  obtain ⟨x385, y386, h⟩ := bi_o h
  refine V_callSX (as := [.ref 0, .int (gx G (Int32.toNatClampNeg (v4 + 1))), .int (gx G (Int32.toNatClampNeg (v4 + 2))), .int (gx G (Int32.toNatClampNeg (v4 + 3))), .int (gx G (Int32.toNatClampNeg (v4 + 4))), .ref 128]) (rest := []) dL_law_2589 os_mL_picks rfl lk_RL_277 (by decide) (by decide) rfl rfl (Nat.le_of_ble_eq_true rfl) (VM_L_picks G fu hG (gx G (Int32.toNatClampNeg (v4 + 1))) (gx G (Int32.toNatClampNeg (v4 + 2))) (gx G (Int32.toNatClampNeg (v4 + 3))) (gx G (Int32.toNatClampNeg (v4 + 4))) μ _ y386) ?_
  refine V_istore (lv2 := [some (.null), some (.ref 0), some (.ref 85), some (.ref 128), some (.int v4), some (.int x385.1), none, none]) dL_law_2592 (by decide) rfl ?_
  refine V_aload_n dL_law_2594 rfl ?_
  refine V_aloadS_n dL_law_2595 rfl ?_
  refine V_iload dL_law_2596 rfl ?_
  refine V_iconst (v := 1) dL_law_2598 rfl ?_
  refine V_iadd dL_law_2599 ?_
  obtain ⟨g387, h⟩ := gu_o h
  refine V_sload dL_law_2600 (ib_in g387) ?_
  refine V_aloadS_n dL_law_2601 rfl ?_
  refine V_iload dL_law_2602 rfl ?_
  refine V_iconst (v := 2) dL_law_2604 rfl ?_
  refine V_iadd dL_law_2605 ?_
  obtain ⟨g388, h⟩ := gu_o h
  refine V_sload dL_law_2606 (ib_in g388) ?_
  refine V_aloadS_n dL_law_2607 rfl ?_
  refine V_iload dL_law_2608 rfl ?_
  refine V_iconst (v := 3) dL_law_2610 rfl ?_
  refine V_iadd dL_law_2611 ?_
  obtain ⟨g389, h⟩ := gu_o h
  refine V_sload dL_law_2612 (ib_in g389) ?_
  refine V_aloadS_n dL_law_2613 rfl ?_
  refine V_iload dL_law_2614 rfl ?_
  refine V_iconst (v := 4) dL_law_2616 rfl ?_
  refine V_iadd dL_law_2617 ?_
  obtain ⟨g390, h⟩ := gu_o h
  refine V_sload dL_law_2618 (ib_in g390) ?_
  obtain ⟨x391, y392, h⟩ := bi_o h
  refine V_callV (as := [.int (gx G (Int32.toNatClampNeg (v4 + 1))), .int (gx G (Int32.toNatClampNeg (v4 + 2))), .int (gx G (Int32.toNatClampNeg (v4 + 3))), .int (gx G (Int32.toNatClampNeg (v4 + 4)))]) (q := 85) (rest := []) dL_law_2619 ov_mX7_picks lk_RL_279 (by decide) (by decide) rfl rfl (Nat.le_of_ble_eq_true rfl) (tq_85 hG) rfl (VM_X7_picks G fu hG (gx G (Int32.toNatClampNeg (v4 + 1))) (gx G (Int32.toNatClampNeg (v4 + 2))) (gx G (Int32.toNatClampNeg (v4 + 3))) (gx G (Int32.toNatClampNeg (v4 + 4))) x385.2 _ y392) ?_
  refine V_istore (lv2 := [some (.null), some (.ref 0), some (.ref 85), some (.ref 128), some (.int v4), some (.int x385.1), some (.int x391.1), none]) dL_law_2622 (by decide) rfl ?_
  refine V_aload_n dL_law_2624 rfl ?_
  obtain ⟨x393, y394, h⟩ := bi_o h
  refine V_callV (as := []) (q := 85) (rest := []) dL_law_2625 ov_mX7_thrown lk_RL_175 (by decide) (by decide) rfl rfl (Nat.le_of_ble_eq_true rfl) (tq_85 hG) rfl (VM_X7_thrown G x391.2 hG _ y394) ?_
  refine V_iload dL_law_2628 rfl ?_
  by_cases c2630 : x393 = x385.1
  · rw [if_pos c2630] at h
    refine V_icmpeq_t (tgt := 2635) dL_law_2630 (by decide) c2630 ?_
    refine V_iload dL_law_2635 rfl ?_
    by_cases c2637 : x385.1 = 0
    · rw [if_pos c2637] at h
      refine V_ifne_f (tgt := 2652) dL_law_2637 (by decide) c2637 ?_
      refine V_aload_n dL_law_2640 rfl ?_
      refine V_iconst (v := 0) dL_law_2641 rfl ?_
      obtain ⟨g395, h⟩ := gu_o h
      refine V_laload dL_law_2642 (tq_128 hG) (ib_in g395) ?_
      refine V_iload dL_law_2643 rfl ?_
      refine V_i2l dL_law_2645 ?_
      refine V_lcmp dL_law_2646 ?_
      by_cases c2647 : (x391.2.2.1 128 (Int32.toNatClampNeg 0)) = ((x391.1 : Int32).toInt64)
      · rw [if_pos c2647] at h
        refine V_ifeq_t (tgt := 2652) dL_law_2647 (by decide) ((lc_eq (x391.2.2.1 128 (Int32.toNatClampNeg 0)) ((x391.1 : Int32).toInt64)).mpr c2647) ?_
        exact V_wk [true, true, true, true, true, false, false, false] rfl (T_L_law_2652 G fu hG k23 hk23 _ _ _ h)
      · rw [if_neg c2647] at h
        refine V_ifeq_f (tgt := 2652) dL_law_2647 (by decide) (fun z => c2647 ((lc_eq (x391.2.2.1 128 (Int32.toNatClampNeg 0)) ((x391.1 : Int32).toInt64)).mp z)) ?_
        refine V_iconst (v := 0) dL_law_2650 rfl ?_
        cases h
        exact V_zret rfl (by decide) dL_law_2651
    · rw [if_neg c2637] at h
      refine V_ifne_t (tgt := 2652) dL_law_2637 (by decide) c2637 ?_
      exact V_wk [true, true, true, true, true, false, false, false] rfl (T_L_law_2652 G fu hG k23 hk23 _ _ _ h)
  · rw [if_neg c2630] at h
    refine V_icmpeq_f (tgt := 2635) dL_law_2630 (by decide) c2630 ?_
    refine V_iconst (v := 0) dL_law_2633 rfl ?_
    cases h
    exact V_zret rfl (by decide) dL_law_2634
def D_L_law_2743 (G : GX) (fu : Nat)  (k23 : Int32 → Mem → Option (Bool × Mem)) (v4 : Int32) (μ : Mem) : Option (Bool × Mem) :=
  D_L_law_3740 G fu k23 v4 μ
set_option maxRecDepth 20000 in
theorem T_L_law_2743 (G : GX) (fu : Nat)  (hG : gt G = tbl) (k23 : Int32 → Mem → Option (Bool × Mem)) (hk23 : ∀ (v4 : Int32) (μ : Mem) (r : (Bool × Mem)), k23 v4 μ = some r → V G mL_law 23 [some (.null), some (.ref 0), some (.ref 85), some (.ref 128), some (.int v4), none, none, none] [] μ (.inl (some (.int (b2i r.1)))) (r.2)) : ∀ (v4 : Int32) (μ : Mem) (r : (Bool × Mem)) , D_L_law_2743 G fu k23 v4 μ = some r → V G mL_law 2743 [some (.null), some (.ref 0), some (.ref 85), some (.ref 128), some (.int v4), none, none, none] [] μ (.inl (some (.int (b2i r.1)))) (r.2) := by
  intro v4 μ r h
  unfold D_L_law_2743 at h
  refine V_goto (tgt := 3740) dL_law_2743 (by decide) ?_
  exact V_wk [true, true, true, true, true, false, false, false] rfl (T_L_law_3740 G fu hG k23 hk23 _ _ _ h)
def D_L_law_2655 (G : GX) (fu : Nat)  (k23 : Int32 → Mem → Option (Bool × Mem)) (v4 : Int32) (μ : Mem) : Option (Bool × Mem) :=
  gu (ib (v4 + 1) (gn G)) <|
  gu (ib (v4 + 2) (gn G)) <|
  gu (ib (v4 + 3) (gn G)) <|
  gu (ib (v4 + 4) (gn G)) <|
  (D_L_other_0 fu (gx G (Int32.toNatClampNeg (v4 + 1))) (gx G (Int32.toNatClampNeg (v4 + 2))) (gx G (Int32.toNatClampNeg (v4 + 3))) (gx G (Int32.toNatClampNeg (v4 + 4))) μ).bind fun x400 =>
  gu (ib (v4 + 1) (gn G)) <|
  gu (ib (v4 + 2) (gn G)) <|
  gu (ib (v4 + 3) (gn G)) <|
  gu (ib (v4 + 4) (gn G)) <|
  (D_X7_other_0 fu (gx G (Int32.toNatClampNeg (v4 + 1))) (gx G (Int32.toNatClampNeg (v4 + 2))) (gx G (Int32.toNatClampNeg (v4 + 3))) (gx G (Int32.toNatClampNeg (v4 + 4))) x400.2).bind fun x406 =>
  (D_X7_thrown_0 x406.2).bind fun x408 =>
  if x408 = x400.1 then
    if x400.1 = 0 then
      gu (ib 0 1) <|
      if (x406.2.2.1 128 (Int32.toNatClampNeg 0)) = x406.1 then
        D_L_law_2743 G fu k23 v4 x406.2
      else
        some (false, x406.2)
    else
      D_L_law_2743 G fu k23 v4 x406.2
  else
    some (false, x406.2)
set_option maxRecDepth 20000 in
theorem T_L_law_2655 (G : GX) (fu : Nat)  (hG : gt G = tbl) (k23 : Int32 → Mem → Option (Bool × Mem)) (hk23 : ∀ (v4 : Int32) (μ : Mem) (r : (Bool × Mem)), k23 v4 μ = some r → V G mL_law 23 [some (.null), some (.ref 0), some (.ref 85), some (.ref 128), some (.int v4), none, none, none] [] μ (.inl (some (.int (b2i r.1)))) (r.2)) : ∀ (v4 : Int32) (μ : Mem) (r : (Bool × Mem)) , D_L_law_2655 G fu k23 v4 μ = some r → V G mL_law 2655 [some (.null), some (.ref 0), some (.ref 85), some (.ref 128), some (.int v4), none, none, none] [] μ (.inl (some (.int (b2i r.1)))) (r.2) := by
  intro v4 μ r h
  unfold D_L_law_2655 at h
  refine V_aload_n dL_law_2655 rfl ?_
  refine V_aloadS_n dL_law_2656 rfl ?_
  refine V_iload dL_law_2657 rfl ?_
  refine V_iconst (v := 1) dL_law_2659 rfl ?_
  refine V_iadd dL_law_2660 ?_
  obtain ⟨g396, h⟩ := gu_o h
  refine V_sload dL_law_2661 (ib_in g396) ?_
  refine V_aloadS_n dL_law_2662 rfl ?_
  refine V_iload dL_law_2663 rfl ?_
  refine V_iconst (v := 2) dL_law_2665 rfl ?_
  refine V_iadd dL_law_2666 ?_
  obtain ⟨g397, h⟩ := gu_o h
  refine V_sload dL_law_2667 (ib_in g397) ?_
  refine V_aloadS_n dL_law_2668 rfl ?_
  refine V_iload dL_law_2669 rfl ?_
  refine V_iconst (v := 3) dL_law_2671 rfl ?_
  refine V_iadd dL_law_2672 ?_
  obtain ⟨g398, h⟩ := gu_o h
  refine V_sload dL_law_2673 (ib_in g398) ?_
  refine V_aloadS_n dL_law_2674 rfl ?_
  refine V_iload dL_law_2675 rfl ?_
  refine V_iconst (v := 4) dL_law_2677 rfl ?_
  refine V_iadd dL_law_2678 ?_
  obtain ⟨g399, h⟩ := gu_o h
  refine V_sload dL_law_2679 (ib_in g399) ?_
  refine V_aload_n dL_law_2680 rfl ?_
  obtain ⟨x400, y401, h⟩ := bi_o h
  refine V_callSX (as := [.ref 0, .int (gx G (Int32.toNatClampNeg (v4 + 1))), .int (gx G (Int32.toNatClampNeg (v4 + 2))), .int (gx G (Int32.toNatClampNeg (v4 + 3))), .int (gx G (Int32.toNatClampNeg (v4 + 4))), .ref 128]) (rest := []) dL_law_2681 os_mL_other rfl lk_RL_280 (by decide) (by decide) rfl rfl (Nat.le_of_ble_eq_true rfl) (VM_L_other G fu hG (gx G (Int32.toNatClampNeg (v4 + 1))) (gx G (Int32.toNatClampNeg (v4 + 2))) (gx G (Int32.toNatClampNeg (v4 + 3))) (gx G (Int32.toNatClampNeg (v4 + 4))) μ _ y401) ?_
  refine V_istore (lv2 := [some (.null), some (.ref 0), some (.ref 85), some (.ref 128), some (.int v4), some (.int x400.1), none, none]) dL_law_2684 (by decide) rfl ?_
  refine V_aload_n dL_law_2686 rfl ?_
  refine V_aloadS_n dL_law_2687 rfl ?_
  refine V_iload dL_law_2688 rfl ?_
  refine V_iconst (v := 1) dL_law_2690 rfl ?_
  refine V_iadd dL_law_2691 ?_
  obtain ⟨g402, h⟩ := gu_o h
  refine V_sload dL_law_2692 (ib_in g402) ?_
  refine V_aloadS_n dL_law_2693 rfl ?_
  refine V_iload dL_law_2694 rfl ?_
  refine V_iconst (v := 2) dL_law_2696 rfl ?_
  refine V_iadd dL_law_2697 ?_
  obtain ⟨g403, h⟩ := gu_o h
  refine V_sload dL_law_2698 (ib_in g403) ?_
  refine V_aloadS_n dL_law_2699 rfl ?_
  refine V_iload dL_law_2700 rfl ?_
  refine V_iconst (v := 3) dL_law_2702 rfl ?_
  refine V_iadd dL_law_2703 ?_
  obtain ⟨g404, h⟩ := gu_o h
  refine V_sload dL_law_2704 (ib_in g404) ?_
  refine V_aloadS_n dL_law_2705 rfl ?_
  refine V_iload dL_law_2706 rfl ?_
  refine V_iconst (v := 4) dL_law_2708 rfl ?_
  refine V_iadd dL_law_2709 ?_
  obtain ⟨g405, h⟩ := gu_o h
  refine V_sload dL_law_2710 (ib_in g405) ?_
  obtain ⟨x406, y407, h⟩ := bi_o h
  refine V_callV (as := [.int (gx G (Int32.toNatClampNeg (v4 + 1))), .int (gx G (Int32.toNatClampNeg (v4 + 2))), .int (gx G (Int32.toNatClampNeg (v4 + 3))), .int (gx G (Int32.toNatClampNeg (v4 + 4)))]) (q := 85) (rest := []) dL_law_2711 ov_mX7_other lk_RL_282 (by decide) (by decide) rfl rfl (Nat.le_of_ble_eq_true rfl) (tq_85 hG) rfl (VM_X7_other G fu hG (gx G (Int32.toNatClampNeg (v4 + 1))) (gx G (Int32.toNatClampNeg (v4 + 2))) (gx G (Int32.toNatClampNeg (v4 + 3))) (gx G (Int32.toNatClampNeg (v4 + 4))) x400.2 _ y407) ?_
  refine V_lstore (lv2 := [some (.null), some (.ref 0), some (.ref 85), some (.ref 128), some (.int v4), some (.int x400.1), some (.long x406.1), none]) dL_law_2714 (by decide) rfl ?_
  refine V_aload_n dL_law_2716 rfl ?_
  obtain ⟨x408, y409, h⟩ := bi_o h
  refine V_callV (as := []) (q := 85) (rest := []) dL_law_2717 ov_mX7_thrown lk_RL_175 (by decide) (by decide) rfl rfl (Nat.le_of_ble_eq_true rfl) (tq_85 hG) rfl (VM_X7_thrown G x406.2 hG _ y409) ?_
  refine V_iload dL_law_2720 rfl ?_
  by_cases c2722 : x408 = x400.1
  · rw [if_pos c2722] at h
    refine V_icmpeq_t (tgt := 2727) dL_law_2722 (by decide) c2722 ?_
    refine V_iload dL_law_2727 rfl ?_
    by_cases c2729 : x400.1 = 0
    · rw [if_pos c2729] at h
      refine V_ifne_f (tgt := 2743) dL_law_2729 (by decide) c2729 ?_
      refine V_aload_n dL_law_2732 rfl ?_
      refine V_iconst (v := 0) dL_law_2733 rfl ?_
      obtain ⟨g410, h⟩ := gu_o h
      refine V_laload dL_law_2734 (tq_128 hG) (ib_in g410) ?_
      refine V_lload dL_law_2735 rfl ?_
      refine V_lcmp dL_law_2737 ?_
      by_cases c2738 : (x406.2.2.1 128 (Int32.toNatClampNeg 0)) = x406.1
      · rw [if_pos c2738] at h
        refine V_ifeq_t (tgt := 2743) dL_law_2738 (by decide) ((lc_eq (x406.2.2.1 128 (Int32.toNatClampNeg 0)) x406.1).mpr c2738) ?_
        exact V_wk [true, true, true, true, true, false, false, false] rfl (T_L_law_2743 G fu hG k23 hk23 _ _ _ h)
      · rw [if_neg c2738] at h
        refine V_ifeq_f (tgt := 2743) dL_law_2738 (by decide) (fun z => c2738 ((lc_eq (x406.2.2.1 128 (Int32.toNatClampNeg 0)) x406.1).mp z)) ?_
        refine V_iconst (v := 0) dL_law_2741 rfl ?_
        cases h
        exact V_zret rfl (by decide) dL_law_2742
    · rw [if_neg c2729] at h
      refine V_ifne_t (tgt := 2743) dL_law_2729 (by decide) c2729 ?_
      exact V_wk [true, true, true, true, true, false, false, false] rfl (T_L_law_2743 G fu hG k23 hk23 _ _ _ h)
  · rw [if_neg c2722] at h
    refine V_icmpeq_f (tgt := 2727) dL_law_2722 (by decide) c2722 ?_
    refine V_iconst (v := 0) dL_law_2725 rfl ?_
    cases h
    exact V_zret rfl (by decide) dL_law_2726
def D_L_law_2810 (G : GX) (fu : Nat)  (k23 : Int32 → Mem → Option (Bool × Mem)) (v4 : Int32) (μ : Mem) : Option (Bool × Mem) :=
  D_L_law_3740 G fu k23 v4 μ
set_option maxRecDepth 20000 in
theorem T_L_law_2810 (G : GX) (fu : Nat)  (hG : gt G = tbl) (k23 : Int32 → Mem → Option (Bool × Mem)) (hk23 : ∀ (v4 : Int32) (μ : Mem) (r : (Bool × Mem)), k23 v4 μ = some r → V G mL_law 23 [some (.null), some (.ref 0), some (.ref 85), some (.ref 128), some (.int v4), none, none, none] [] μ (.inl (some (.int (b2i r.1)))) (r.2)) : ∀ (v4 : Int32) (μ : Mem) (r : (Bool × Mem)) , D_L_law_2810 G fu k23 v4 μ = some r → V G mL_law 2810 [some (.null), some (.ref 0), some (.ref 85), some (.ref 128), some (.int v4), none, none, none] [] μ (.inl (some (.int (b2i r.1)))) (r.2) := by
  intro v4 μ r h
  unfold D_L_law_2810 at h
  refine V_goto (tgt := 3740) dL_law_2810 (by decide) ?_
  exact V_wk [true, true, true, true, true, false, false, false] rfl (T_L_law_3740 G fu hG k23 hk23 _ _ _ h)
def D_L_law_2746 (G : GX) (fu : Nat)  (k23 : Int32 → Mem → Option (Bool × Mem)) (v4 : Int32) (μ : Mem) : Option (Bool × Mem) :=
  gu (ib (v4 + 1) (gn G)) <|
  gu (ib (v4 + 2) (gn G)) <|
  (D_L_best_0 fu (gx G (Int32.toNatClampNeg (v4 + 1))) (gx G (Int32.toNatClampNeg (v4 + 2))) μ).bind fun x413 =>
  gu (ib (v4 + 1) (gn G)) <|
  gu (ib (v4 + 2) (gn G)) <|
  (D_X7_best_0 fu (gx G (Int32.toNatClampNeg (v4 + 1))) (gx G (Int32.toNatClampNeg (v4 + 2))) x413.2).bind fun x417 =>
  (D_X7_thrown_0 x417.2).bind fun x419 =>
  if x419 = x413.1 then
    if x413.1 = 0 then
      gu (ib 0 1) <|
      if (x417.2.2.1 128 (Int32.toNatClampNeg 0)) = x417.1 then
        D_L_law_2810 G fu k23 v4 x417.2
      else
        some (false, x417.2)
    else
      D_L_law_2810 G fu k23 v4 x417.2
  else
    some (false, x417.2)
set_option maxRecDepth 20000 in
theorem T_L_law_2746 (G : GX) (fu : Nat)  (hG : gt G = tbl) (k23 : Int32 → Mem → Option (Bool × Mem)) (hk23 : ∀ (v4 : Int32) (μ : Mem) (r : (Bool × Mem)), k23 v4 μ = some r → V G mL_law 23 [some (.null), some (.ref 0), some (.ref 85), some (.ref 128), some (.int v4), none, none, none] [] μ (.inl (some (.int (b2i r.1)))) (r.2)) : ∀ (v4 : Int32) (μ : Mem) (r : (Bool × Mem)) , D_L_law_2746 G fu k23 v4 μ = some r → V G mL_law 2746 [some (.null), some (.ref 0), some (.ref 85), some (.ref 128), some (.int v4), none, none, none] [] μ (.inl (some (.int (b2i r.1)))) (r.2) := by
  intro v4 μ r h
  unfold D_L_law_2746 at h
  refine V_aload_n dL_law_2746 rfl ?_
  refine V_aloadS_n dL_law_2747 rfl ?_
  refine V_iload dL_law_2748 rfl ?_
  refine V_iconst (v := 1) dL_law_2750 rfl ?_
  refine V_iadd dL_law_2751 ?_
  obtain ⟨g411, h⟩ := gu_o h
  refine V_sload dL_law_2752 (ib_in g411) ?_
  refine V_aloadS_n dL_law_2753 rfl ?_
  refine V_iload dL_law_2754 rfl ?_
  refine V_iconst (v := 2) dL_law_2756 rfl ?_
  refine V_iadd dL_law_2757 ?_
  obtain ⟨g412, h⟩ := gu_o h
  refine V_sload dL_law_2758 (ib_in g412) ?_
  refine V_aload_n dL_law_2759 rfl ?_
  obtain ⟨x413, y414, h⟩ := bi_o h
  refine V_callSX (as := [.ref 0, .int (gx G (Int32.toNatClampNeg (v4 + 1))), .int (gx G (Int32.toNatClampNeg (v4 + 2))), .ref 128]) (rest := []) dL_law_2760 os_mL_best rfl lk_RL_283 (by decide) (by decide) rfl rfl (Nat.le_of_ble_eq_true rfl) (VM_L_best G fu hG (gx G (Int32.toNatClampNeg (v4 + 1))) (gx G (Int32.toNatClampNeg (v4 + 2))) μ _ y414) ?_
  refine V_istore (lv2 := [some (.null), some (.ref 0), some (.ref 85), some (.ref 128), some (.int v4), some (.int x413.1), none, none]) dL_law_2763 (by decide) rfl ?_
  refine V_aload_n dL_law_2765 rfl ?_
  refine V_aloadS_n dL_law_2766 rfl ?_
  refine V_iload dL_law_2767 rfl ?_
  refine V_iconst (v := 1) dL_law_2769 rfl ?_
  refine V_iadd dL_law_2770 ?_
  obtain ⟨g415, h⟩ := gu_o h
  refine V_sload dL_law_2771 (ib_in g415) ?_
  refine V_aloadS_n dL_law_2772 rfl ?_
  refine V_iload dL_law_2773 rfl ?_
  refine V_iconst (v := 2) dL_law_2775 rfl ?_
  refine V_iadd dL_law_2776 ?_
  obtain ⟨g416, h⟩ := gu_o h
  refine V_sload dL_law_2777 (ib_in g416) ?_
  obtain ⟨x417, y418, h⟩ := bi_o h
  refine V_callV (as := [.int (gx G (Int32.toNatClampNeg (v4 + 1))), .int (gx G (Int32.toNatClampNeg (v4 + 2)))]) (q := 85) (rest := []) dL_law_2778 ov_mX7_best lk_RL_285 (by decide) (by decide) rfl rfl (Nat.le_of_ble_eq_true rfl) (tq_85 hG) rfl (VM_X7_best G fu hG (gx G (Int32.toNatClampNeg (v4 + 1))) (gx G (Int32.toNatClampNeg (v4 + 2))) x413.2 _ y418) ?_
  refine V_lstore (lv2 := [some (.null), some (.ref 0), some (.ref 85), some (.ref 128), some (.int v4), some (.int x413.1), some (.long x417.1), none]) dL_law_2781 (by decide) rfl ?_
  refine V_aload_n dL_law_2783 rfl ?_
  obtain ⟨x419, y420, h⟩ := bi_o h
  refine V_callV (as := []) (q := 85) (rest := []) dL_law_2784 ov_mX7_thrown lk_RL_175 (by decide) (by decide) rfl rfl (Nat.le_of_ble_eq_true rfl) (tq_85 hG) rfl (VM_X7_thrown G x417.2 hG _ y420) ?_
  refine V_iload dL_law_2787 rfl ?_
  by_cases c2789 : x419 = x413.1
  · rw [if_pos c2789] at h
    refine V_icmpeq_t (tgt := 2794) dL_law_2789 (by decide) c2789 ?_
    refine V_iload dL_law_2794 rfl ?_
    by_cases c2796 : x413.1 = 0
    · rw [if_pos c2796] at h
      refine V_ifne_f (tgt := 2810) dL_law_2796 (by decide) c2796 ?_
      refine V_aload_n dL_law_2799 rfl ?_
      refine V_iconst (v := 0) dL_law_2800 rfl ?_
      obtain ⟨g421, h⟩ := gu_o h
      refine V_laload dL_law_2801 (tq_128 hG) (ib_in g421) ?_
      refine V_lload dL_law_2802 rfl ?_
      refine V_lcmp dL_law_2804 ?_
      by_cases c2805 : (x417.2.2.1 128 (Int32.toNatClampNeg 0)) = x417.1
      · rw [if_pos c2805] at h
        refine V_ifeq_t (tgt := 2810) dL_law_2805 (by decide) ((lc_eq (x417.2.2.1 128 (Int32.toNatClampNeg 0)) x417.1).mpr c2805) ?_
        exact V_wk [true, true, true, true, true, false, false, false] rfl (T_L_law_2810 G fu hG k23 hk23 _ _ _ h)
      · rw [if_neg c2805] at h
        refine V_ifeq_f (tgt := 2810) dL_law_2805 (by decide) (fun z => c2805 ((lc_eq (x417.2.2.1 128 (Int32.toNatClampNeg 0)) x417.1).mp z)) ?_
        refine V_iconst (v := 0) dL_law_2808 rfl ?_
        cases h
        exact V_zret rfl (by decide) dL_law_2809
    · rw [if_neg c2796] at h
      refine V_ifne_t (tgt := 2810) dL_law_2796 (by decide) c2796 ?_
      exact V_wk [true, true, true, true, true, false, false, false] rfl (T_L_law_2810 G fu hG k23 hk23 _ _ _ h)
  · rw [if_neg c2789] at h
    refine V_icmpeq_f (tgt := 2794) dL_law_2789 (by decide) c2789 ?_
    refine V_iconst (v := 0) dL_law_2792 rfl ?_
    cases h
    exact V_zret rfl (by decide) dL_law_2793
def D_L_law_2877 (G : GX) (fu : Nat)  (k23 : Int32 → Mem → Option (Bool × Mem)) (v4 : Int32) (μ : Mem) : Option (Bool × Mem) :=
  D_L_law_3740 G fu k23 v4 μ
set_option maxRecDepth 20000 in
theorem T_L_law_2877 (G : GX) (fu : Nat)  (hG : gt G = tbl) (k23 : Int32 → Mem → Option (Bool × Mem)) (hk23 : ∀ (v4 : Int32) (μ : Mem) (r : (Bool × Mem)), k23 v4 μ = some r → V G mL_law 23 [some (.null), some (.ref 0), some (.ref 85), some (.ref 128), some (.int v4), none, none, none] [] μ (.inl (some (.int (b2i r.1)))) (r.2)) : ∀ (v4 : Int32) (μ : Mem) (r : (Bool × Mem)) , D_L_law_2877 G fu k23 v4 μ = some r → V G mL_law 2877 [some (.null), some (.ref 0), some (.ref 85), some (.ref 128), some (.int v4), none, none, none] [] μ (.inl (some (.int (b2i r.1)))) (r.2) := by
  intro v4 μ r h
  unfold D_L_law_2877 at h
  refine V_goto (tgt := 3740) dL_law_2877 (by decide) ?_
  exact V_wk [true, true, true, true, true, false, false, false] rfl (T_L_law_3740 G fu hG k23 hk23 _ _ _ h)
def D_L_law_2813 (G : GX) (fu : Nat)  (k23 : Int32 → Mem → Option (Bool × Mem)) (v4 : Int32) (μ : Mem) : Option (Bool × Mem) :=
  gu (ib (v4 + 1) (gn G)) <|
  gu (ib (v4 + 2) (gn G)) <|
  (D_L_without_0 fu (gx G (Int32.toNatClampNeg (v4 + 1))) (gx G (Int32.toNatClampNeg (v4 + 2))) μ).bind fun x424 =>
  gu (ib (v4 + 1) (gn G)) <|
  gu (ib (v4 + 2) (gn G)) <|
  (D_X7_without_0 fu (gx G (Int32.toNatClampNeg (v4 + 1))) (gx G (Int32.toNatClampNeg (v4 + 2))) x424.2).bind fun x428 =>
  (D_X7_thrown_0 x428.2).bind fun x430 =>
  if x430 = x424.1 then
    if x424.1 = 0 then
      gu (ib 0 1) <|
      if (x428.2.2.1 128 (Int32.toNatClampNeg 0)) = x428.1 then
        D_L_law_2877 G fu k23 v4 x428.2
      else
        some (false, x428.2)
    else
      D_L_law_2877 G fu k23 v4 x428.2
  else
    some (false, x428.2)
set_option maxRecDepth 20000 in
theorem T_L_law_2813 (G : GX) (fu : Nat)  (hG : gt G = tbl) (k23 : Int32 → Mem → Option (Bool × Mem)) (hk23 : ∀ (v4 : Int32) (μ : Mem) (r : (Bool × Mem)), k23 v4 μ = some r → V G mL_law 23 [some (.null), some (.ref 0), some (.ref 85), some (.ref 128), some (.int v4), none, none, none] [] μ (.inl (some (.int (b2i r.1)))) (r.2)) : ∀ (v4 : Int32) (μ : Mem) (r : (Bool × Mem)) , D_L_law_2813 G fu k23 v4 μ = some r → V G mL_law 2813 [some (.null), some (.ref 0), some (.ref 85), some (.ref 128), some (.int v4), none, none, none] [] μ (.inl (some (.int (b2i r.1)))) (r.2) := by
  intro v4 μ r h
  unfold D_L_law_2813 at h
  refine V_aload_n dL_law_2813 rfl ?_
  refine V_aloadS_n dL_law_2814 rfl ?_
  refine V_iload dL_law_2815 rfl ?_
  refine V_iconst (v := 1) dL_law_2817 rfl ?_
  refine V_iadd dL_law_2818 ?_
  obtain ⟨g422, h⟩ := gu_o h
  refine V_sload dL_law_2819 (ib_in g422) ?_
  refine V_aloadS_n dL_law_2820 rfl ?_
  refine V_iload dL_law_2821 rfl ?_
  refine V_iconst (v := 2) dL_law_2823 rfl ?_
  refine V_iadd dL_law_2824 ?_
  obtain ⟨g423, h⟩ := gu_o h
  refine V_sload dL_law_2825 (ib_in g423) ?_
  refine V_aload_n dL_law_2826 rfl ?_
  obtain ⟨x424, y425, h⟩ := bi_o h
  refine V_callSX (as := [.ref 0, .int (gx G (Int32.toNatClampNeg (v4 + 1))), .int (gx G (Int32.toNatClampNeg (v4 + 2))), .ref 128]) (rest := []) dL_law_2827 os_mL_without rfl lk_RL_286 (by decide) (by decide) rfl rfl (Nat.le_of_ble_eq_true rfl) (VM_L_without G fu hG (gx G (Int32.toNatClampNeg (v4 + 1))) (gx G (Int32.toNatClampNeg (v4 + 2))) μ _ y425) ?_
  refine V_istore (lv2 := [some (.null), some (.ref 0), some (.ref 85), some (.ref 128), some (.int v4), some (.int x424.1), none, none]) dL_law_2830 (by decide) rfl ?_
  refine V_aload_n dL_law_2832 rfl ?_
  refine V_aloadS_n dL_law_2833 rfl ?_
  refine V_iload dL_law_2834 rfl ?_
  refine V_iconst (v := 1) dL_law_2836 rfl ?_
  refine V_iadd dL_law_2837 ?_
  obtain ⟨g426, h⟩ := gu_o h
  refine V_sload dL_law_2838 (ib_in g426) ?_
  refine V_aloadS_n dL_law_2839 rfl ?_
  refine V_iload dL_law_2840 rfl ?_
  refine V_iconst (v := 2) dL_law_2842 rfl ?_
  refine V_iadd dL_law_2843 ?_
  obtain ⟨g427, h⟩ := gu_o h
  refine V_sload dL_law_2844 (ib_in g427) ?_
  obtain ⟨x428, y429, h⟩ := bi_o h
  refine V_callV (as := [.int (gx G (Int32.toNatClampNeg (v4 + 1))), .int (gx G (Int32.toNatClampNeg (v4 + 2)))]) (q := 85) (rest := []) dL_law_2845 ov_mX7_without lk_RL_288 (by decide) (by decide) rfl rfl (Nat.le_of_ble_eq_true rfl) (tq_85 hG) rfl (VM_X7_without G fu hG (gx G (Int32.toNatClampNeg (v4 + 1))) (gx G (Int32.toNatClampNeg (v4 + 2))) x424.2 _ y429) ?_
  refine V_lstore (lv2 := [some (.null), some (.ref 0), some (.ref 85), some (.ref 128), some (.int v4), some (.int x424.1), some (.long x428.1), none]) dL_law_2848 (by decide) rfl ?_
  refine V_aload_n dL_law_2850 rfl ?_
  obtain ⟨x430, y431, h⟩ := bi_o h
  refine V_callV (as := []) (q := 85) (rest := []) dL_law_2851 ov_mX7_thrown lk_RL_175 (by decide) (by decide) rfl rfl (Nat.le_of_ble_eq_true rfl) (tq_85 hG) rfl (VM_X7_thrown G x428.2 hG _ y431) ?_
  refine V_iload dL_law_2854 rfl ?_
  by_cases c2856 : x430 = x424.1
  · rw [if_pos c2856] at h
    refine V_icmpeq_t (tgt := 2861) dL_law_2856 (by decide) c2856 ?_
    refine V_iload dL_law_2861 rfl ?_
    by_cases c2863 : x424.1 = 0
    · rw [if_pos c2863] at h
      refine V_ifne_f (tgt := 2877) dL_law_2863 (by decide) c2863 ?_
      refine V_aload_n dL_law_2866 rfl ?_
      refine V_iconst (v := 0) dL_law_2867 rfl ?_
      obtain ⟨g432, h⟩ := gu_o h
      refine V_laload dL_law_2868 (tq_128 hG) (ib_in g432) ?_
      refine V_lload dL_law_2869 rfl ?_
      refine V_lcmp dL_law_2871 ?_
      by_cases c2872 : (x428.2.2.1 128 (Int32.toNatClampNeg 0)) = x428.1
      · rw [if_pos c2872] at h
        refine V_ifeq_t (tgt := 2877) dL_law_2872 (by decide) ((lc_eq (x428.2.2.1 128 (Int32.toNatClampNeg 0)) x428.1).mpr c2872) ?_
        exact V_wk [true, true, true, true, true, false, false, false] rfl (T_L_law_2877 G fu hG k23 hk23 _ _ _ h)
      · rw [if_neg c2872] at h
        refine V_ifeq_f (tgt := 2877) dL_law_2872 (by decide) (fun z => c2872 ((lc_eq (x428.2.2.1 128 (Int32.toNatClampNeg 0)) x428.1).mp z)) ?_
        refine V_iconst (v := 0) dL_law_2875 rfl ?_
        cases h
        exact V_zret rfl (by decide) dL_law_2876
    · rw [if_neg c2863] at h
      refine V_ifne_t (tgt := 2877) dL_law_2863 (by decide) c2863 ?_
      exact V_wk [true, true, true, true, true, false, false, false] rfl (T_L_law_2877 G fu hG k23 hk23 _ _ _ h)
  · rw [if_neg c2856] at h
    refine V_icmpeq_f (tgt := 2861) dL_law_2856 (by decide) c2856 ?_
    refine V_iconst (v := 0) dL_law_2859 rfl ?_
    cases h
    exact V_zret rfl (by decide) dL_law_2860
def D_L_law_2933 (G : GX) (fu : Nat)  (k23 : Int32 → Mem → Option (Bool × Mem)) (v4 : Int32) (μ : Mem) : Option (Bool × Mem) :=
  D_L_law_3740 G fu k23 v4 μ
set_option maxRecDepth 20000 in
theorem T_L_law_2933 (G : GX) (fu : Nat)  (hG : gt G = tbl) (k23 : Int32 → Mem → Option (Bool × Mem)) (hk23 : ∀ (v4 : Int32) (μ : Mem) (r : (Bool × Mem)), k23 v4 μ = some r → V G mL_law 23 [some (.null), some (.ref 0), some (.ref 85), some (.ref 128), some (.int v4), none, none, none] [] μ (.inl (some (.int (b2i r.1)))) (r.2)) : ∀ (v4 : Int32) (μ : Mem) (r : (Bool × Mem)) , D_L_law_2933 G fu k23 v4 μ = some r → V G mL_law 2933 [some (.null), some (.ref 0), some (.ref 85), some (.ref 128), some (.int v4), none, none, none] [] μ (.inl (some (.int (b2i r.1)))) (r.2) := by
  intro v4 μ r h
  unfold D_L_law_2933 at h
  refine V_goto (tgt := 3740) dL_law_2933 (by decide) ?_
  exact V_wk [true, true, true, true, true, false, false, false] rfl (T_L_law_3740 G fu hG k23 hk23 _ _ _ h)
def D_L_law_2880 (G : GX) (fu : Nat)  (k23 : Int32 → Mem → Option (Bool × Mem)) (v4 : Int32) (μ : Mem) : Option (Bool × Mem) :=
  gu (ib (v4 + 1) (gn G)) <|
  (D_L_undone_0 fu (gx G (Int32.toNatClampNeg (v4 + 1))) μ).bind fun x434 =>
  gu (ib (v4 + 1) (gn G)) <|
  (D_X7_undone_0 fu (gx G (Int32.toNatClampNeg (v4 + 1))) x434.2).bind fun x437 =>
  (D_X7_thrown_0 x437.2).bind fun x439 =>
  if x439 = x434.1 then
    if x434.1 = 0 then
      gu (ib 0 1) <|
      if (x437.2.2.1 128 (Int32.toNatClampNeg 0)) = ((x437.1 : Int32).toInt64) then
        D_L_law_2933 G fu k23 v4 x437.2
      else
        some (false, x437.2)
    else
      D_L_law_2933 G fu k23 v4 x437.2
  else
    some (false, x437.2)
set_option maxRecDepth 20000 in
theorem T_L_law_2880 (G : GX) (fu : Nat)  (hG : gt G = tbl) (k23 : Int32 → Mem → Option (Bool × Mem)) (hk23 : ∀ (v4 : Int32) (μ : Mem) (r : (Bool × Mem)), k23 v4 μ = some r → V G mL_law 23 [some (.null), some (.ref 0), some (.ref 85), some (.ref 128), some (.int v4), none, none, none] [] μ (.inl (some (.int (b2i r.1)))) (r.2)) : ∀ (v4 : Int32) (μ : Mem) (r : (Bool × Mem)) , D_L_law_2880 G fu k23 v4 μ = some r → V G mL_law 2880 [some (.null), some (.ref 0), some (.ref 85), some (.ref 128), some (.int v4), none, none, none] [] μ (.inl (some (.int (b2i r.1)))) (r.2) := by
  intro v4 μ r h
  unfold D_L_law_2880 at h
  refine V_aload_n dL_law_2880 rfl ?_
  refine V_aloadS_n dL_law_2881 rfl ?_
  refine V_iload dL_law_2882 rfl ?_
  refine V_iconst (v := 1) dL_law_2884 rfl ?_
  refine V_iadd dL_law_2885 ?_
  obtain ⟨g433, h⟩ := gu_o h
  refine V_sload dL_law_2886 (ib_in g433) ?_
  refine V_aload_n dL_law_2887 rfl ?_
  obtain ⟨x434, y435, h⟩ := bi_o h
  refine V_callSX (as := [.ref 0, .int (gx G (Int32.toNatClampNeg (v4 + 1))), .ref 128]) (rest := []) dL_law_2888 os_mL_undone rfl lk_RL_289 (by decide) (by decide) rfl rfl (Nat.le_of_ble_eq_true rfl) (VM_L_undone G fu hG (gx G (Int32.toNatClampNeg (v4 + 1))) μ _ y435) ?_
  refine V_istore (lv2 := [some (.null), some (.ref 0), some (.ref 85), some (.ref 128), some (.int v4), some (.int x434.1), none, none]) dL_law_2891 (by decide) rfl ?_
  refine V_aload_n dL_law_2893 rfl ?_
  refine V_aloadS_n dL_law_2894 rfl ?_
  refine V_iload dL_law_2895 rfl ?_
  refine V_iconst (v := 1) dL_law_2897 rfl ?_
  refine V_iadd dL_law_2898 ?_
  obtain ⟨g436, h⟩ := gu_o h
  refine V_sload dL_law_2899 (ib_in g436) ?_
  obtain ⟨x437, y438, h⟩ := bi_o h
  refine V_callV (as := [.int (gx G (Int32.toNatClampNeg (v4 + 1)))]) (q := 85) (rest := []) dL_law_2900 ov_mX7_undone lk_RL_291 (by decide) (by decide) rfl rfl (Nat.le_of_ble_eq_true rfl) (tq_85 hG) rfl (VM_X7_undone G fu hG (gx G (Int32.toNatClampNeg (v4 + 1))) x434.2 _ y438) ?_
  refine V_istore (lv2 := [some (.null), some (.ref 0), some (.ref 85), some (.ref 128), some (.int v4), some (.int x434.1), some (.int x437.1), none]) dL_law_2903 (by decide) rfl ?_
  refine V_aload_n dL_law_2905 rfl ?_
  obtain ⟨x439, y440, h⟩ := bi_o h
  refine V_callV (as := []) (q := 85) (rest := []) dL_law_2906 ov_mX7_thrown lk_RL_175 (by decide) (by decide) rfl rfl (Nat.le_of_ble_eq_true rfl) (tq_85 hG) rfl (VM_X7_thrown G x437.2 hG _ y440) ?_
  refine V_iload dL_law_2909 rfl ?_
  by_cases c2911 : x439 = x434.1
  · rw [if_pos c2911] at h
    refine V_icmpeq_t (tgt := 2916) dL_law_2911 (by decide) c2911 ?_
    refine V_iload dL_law_2916 rfl ?_
    by_cases c2918 : x434.1 = 0
    · rw [if_pos c2918] at h
      refine V_ifne_f (tgt := 2933) dL_law_2918 (by decide) c2918 ?_
      refine V_aload_n dL_law_2921 rfl ?_
      refine V_iconst (v := 0) dL_law_2922 rfl ?_
      obtain ⟨g441, h⟩ := gu_o h
      refine V_laload dL_law_2923 (tq_128 hG) (ib_in g441) ?_
      refine V_iload dL_law_2924 rfl ?_
      refine V_i2l dL_law_2926 ?_
      refine V_lcmp dL_law_2927 ?_
      by_cases c2928 : (x437.2.2.1 128 (Int32.toNatClampNeg 0)) = ((x437.1 : Int32).toInt64)
      · rw [if_pos c2928] at h
        refine V_ifeq_t (tgt := 2933) dL_law_2928 (by decide) ((lc_eq (x437.2.2.1 128 (Int32.toNatClampNeg 0)) ((x437.1 : Int32).toInt64)).mpr c2928) ?_
        exact V_wk [true, true, true, true, true, false, false, false] rfl (T_L_law_2933 G fu hG k23 hk23 _ _ _ h)
      · rw [if_neg c2928] at h
        refine V_ifeq_f (tgt := 2933) dL_law_2928 (by decide) (fun z => c2928 ((lc_eq (x437.2.2.1 128 (Int32.toNatClampNeg 0)) ((x437.1 : Int32).toInt64)).mp z)) ?_
        refine V_iconst (v := 0) dL_law_2931 rfl ?_
        cases h
        exact V_zret rfl (by decide) dL_law_2932
    · rw [if_neg c2918] at h
      refine V_ifne_t (tgt := 2933) dL_law_2918 (by decide) c2918 ?_
      exact V_wk [true, true, true, true, true, false, false, false] rfl (T_L_law_2933 G fu hG k23 hk23 _ _ _ h)
  · rw [if_neg c2911] at h
    refine V_icmpeq_f (tgt := 2916) dL_law_2911 (by decide) c2911 ?_
    refine V_iconst (v := 0) dL_law_2914 rfl ?_
    cases h
    exact V_zret rfl (by decide) dL_law_2915
def D_L_law_2988 (G : GX) (fu : Nat)  (k23 : Int32 → Mem → Option (Bool × Mem)) (v4 : Int32) (μ : Mem) : Option (Bool × Mem) :=
  D_L_law_3740 G fu k23 v4 μ
set_option maxRecDepth 20000 in
theorem T_L_law_2988 (G : GX) (fu : Nat)  (hG : gt G = tbl) (k23 : Int32 → Mem → Option (Bool × Mem)) (hk23 : ∀ (v4 : Int32) (μ : Mem) (r : (Bool × Mem)), k23 v4 μ = some r → V G mL_law 23 [some (.null), some (.ref 0), some (.ref 85), some (.ref 128), some (.int v4), none, none, none] [] μ (.inl (some (.int (b2i r.1)))) (r.2)) : ∀ (v4 : Int32) (μ : Mem) (r : (Bool × Mem)) , D_L_law_2988 G fu k23 v4 μ = some r → V G mL_law 2988 [some (.null), some (.ref 0), some (.ref 85), some (.ref 128), some (.int v4), none, none, none] [] μ (.inl (some (.int (b2i r.1)))) (r.2) := by
  intro v4 μ r h
  unfold D_L_law_2988 at h
  refine V_goto (tgt := 3740) dL_law_2988 (by decide) ?_
  exact V_wk [true, true, true, true, true, false, false, false] rfl (T_L_law_3740 G fu hG k23 hk23 _ _ _ h)
def D_L_law_2936 (G : GX) (fu : Nat)  (k23 : Int32 → Mem → Option (Bool × Mem)) (v4 : Int32) (μ : Mem) : Option (Bool × Mem) :=
  gu (ib (v4 + 1) (gn G)) <|
  (D_L_spared_0 fu (gx G (Int32.toNatClampNeg (v4 + 1))) μ).bind fun x443 =>
  gu (ib (v4 + 1) (gn G)) <|
  (D_X7_spared_0 fu (gx G (Int32.toNatClampNeg (v4 + 1))) x443.2).bind fun x446 =>
  (D_X7_thrown_0 x446.2).bind fun x448 =>
  if x448 = x443.1 then
    if x443.1 = 0 then
      gu (ib 0 1) <|
      if (x446.2.2.1 128 (Int32.toNatClampNeg 0)) = x446.1 then
        D_L_law_2988 G fu k23 v4 x446.2
      else
        some (false, x446.2)
    else
      D_L_law_2988 G fu k23 v4 x446.2
  else
    some (false, x446.2)
set_option maxRecDepth 20000 in
theorem T_L_law_2936 (G : GX) (fu : Nat)  (hG : gt G = tbl) (k23 : Int32 → Mem → Option (Bool × Mem)) (hk23 : ∀ (v4 : Int32) (μ : Mem) (r : (Bool × Mem)), k23 v4 μ = some r → V G mL_law 23 [some (.null), some (.ref 0), some (.ref 85), some (.ref 128), some (.int v4), none, none, none] [] μ (.inl (some (.int (b2i r.1)))) (r.2)) : ∀ (v4 : Int32) (μ : Mem) (r : (Bool × Mem)) , D_L_law_2936 G fu k23 v4 μ = some r → V G mL_law 2936 [some (.null), some (.ref 0), some (.ref 85), some (.ref 128), some (.int v4), none, none, none] [] μ (.inl (some (.int (b2i r.1)))) (r.2) := by
  intro v4 μ r h
  unfold D_L_law_2936 at h
  refine V_aload_n dL_law_2936 rfl ?_
  refine V_aloadS_n dL_law_2937 rfl ?_
  refine V_iload dL_law_2938 rfl ?_
  refine V_iconst (v := 1) dL_law_2940 rfl ?_
  refine V_iadd dL_law_2941 ?_
  obtain ⟨g442, h⟩ := gu_o h
  refine V_sload dL_law_2942 (ib_in g442) ?_
  refine V_aload_n dL_law_2943 rfl ?_
  obtain ⟨x443, y444, h⟩ := bi_o h
  refine V_callSX (as := [.ref 0, .int (gx G (Int32.toNatClampNeg (v4 + 1))), .ref 128]) (rest := []) dL_law_2944 os_mL_spared rfl lk_RL_292 (by decide) (by decide) rfl rfl (Nat.le_of_ble_eq_true rfl) (VM_L_spared G fu hG (gx G (Int32.toNatClampNeg (v4 + 1))) μ _ y444) ?_
  refine V_istore (lv2 := [some (.null), some (.ref 0), some (.ref 85), some (.ref 128), some (.int v4), some (.int x443.1), none, none]) dL_law_2947 (by decide) rfl ?_
  refine V_aload_n dL_law_2949 rfl ?_
  refine V_aloadS_n dL_law_2950 rfl ?_
  refine V_iload dL_law_2951 rfl ?_
  refine V_iconst (v := 1) dL_law_2953 rfl ?_
  refine V_iadd dL_law_2954 ?_
  obtain ⟨g445, h⟩ := gu_o h
  refine V_sload dL_law_2955 (ib_in g445) ?_
  obtain ⟨x446, y447, h⟩ := bi_o h
  refine V_callV (as := [.int (gx G (Int32.toNatClampNeg (v4 + 1)))]) (q := 85) (rest := []) dL_law_2956 ov_mX7_spared lk_RL_294 (by decide) (by decide) rfl rfl (Nat.le_of_ble_eq_true rfl) (tq_85 hG) rfl (VM_X7_spared G fu hG (gx G (Int32.toNatClampNeg (v4 + 1))) x443.2 _ y447) ?_
  refine V_lstore (lv2 := [some (.null), some (.ref 0), some (.ref 85), some (.ref 128), some (.int v4), some (.int x443.1), some (.long x446.1), none]) dL_law_2959 (by decide) rfl ?_
  refine V_aload_n dL_law_2961 rfl ?_
  obtain ⟨x448, y449, h⟩ := bi_o h
  refine V_callV (as := []) (q := 85) (rest := []) dL_law_2962 ov_mX7_thrown lk_RL_175 (by decide) (by decide) rfl rfl (Nat.le_of_ble_eq_true rfl) (tq_85 hG) rfl (VM_X7_thrown G x446.2 hG _ y449) ?_
  refine V_iload dL_law_2965 rfl ?_
  by_cases c2967 : x448 = x443.1
  · rw [if_pos c2967] at h
    refine V_icmpeq_t (tgt := 2972) dL_law_2967 (by decide) c2967 ?_
    refine V_iload dL_law_2972 rfl ?_
    by_cases c2974 : x443.1 = 0
    · rw [if_pos c2974] at h
      refine V_ifne_f (tgt := 2988) dL_law_2974 (by decide) c2974 ?_
      refine V_aload_n dL_law_2977 rfl ?_
      refine V_iconst (v := 0) dL_law_2978 rfl ?_
      obtain ⟨g450, h⟩ := gu_o h
      refine V_laload dL_law_2979 (tq_128 hG) (ib_in g450) ?_
      refine V_lload dL_law_2980 rfl ?_
      refine V_lcmp dL_law_2982 ?_
      by_cases c2983 : (x446.2.2.1 128 (Int32.toNatClampNeg 0)) = x446.1
      · rw [if_pos c2983] at h
        refine V_ifeq_t (tgt := 2988) dL_law_2983 (by decide) ((lc_eq (x446.2.2.1 128 (Int32.toNatClampNeg 0)) x446.1).mpr c2983) ?_
        exact V_wk [true, true, true, true, true, false, false, false] rfl (T_L_law_2988 G fu hG k23 hk23 _ _ _ h)
      · rw [if_neg c2983] at h
        refine V_ifeq_f (tgt := 2988) dL_law_2983 (by decide) (fun z => c2983 ((lc_eq (x446.2.2.1 128 (Int32.toNatClampNeg 0)) x446.1).mp z)) ?_
        refine V_iconst (v := 0) dL_law_2986 rfl ?_
        cases h
        exact V_zret rfl (by decide) dL_law_2987
    · rw [if_neg c2974] at h
      refine V_ifne_t (tgt := 2988) dL_law_2974 (by decide) c2974 ?_
      exact V_wk [true, true, true, true, true, false, false, false] rfl (T_L_law_2988 G fu hG k23 hk23 _ _ _ h)
  · rw [if_neg c2967] at h
    refine V_icmpeq_f (tgt := 2972) dL_law_2967 (by decide) c2967 ?_
    refine V_iconst (v := 0) dL_law_2970 rfl ?_
    cases h
    exact V_zret rfl (by decide) dL_law_2971
def D_L_law_3067 (G : GX) (fu : Nat)  (k23 : Int32 → Mem → Option (Bool × Mem)) (v4 : Int32) (μ : Mem) : Option (Bool × Mem) :=
  D_L_law_3740 G fu k23 v4 μ
set_option maxRecDepth 20000 in
theorem T_L_law_3067 (G : GX) (fu : Nat)  (hG : gt G = tbl) (k23 : Int32 → Mem → Option (Bool × Mem)) (hk23 : ∀ (v4 : Int32) (μ : Mem) (r : (Bool × Mem)), k23 v4 μ = some r → V G mL_law 23 [some (.null), some (.ref 0), some (.ref 85), some (.ref 128), some (.int v4), none, none, none] [] μ (.inl (some (.int (b2i r.1)))) (r.2)) : ∀ (v4 : Int32) (μ : Mem) (r : (Bool × Mem)) , D_L_law_3067 G fu k23 v4 μ = some r → V G mL_law 3067 [some (.null), some (.ref 0), some (.ref 85), some (.ref 128), some (.int v4), none, none, none] [] μ (.inl (some (.int (b2i r.1)))) (r.2) := by
  intro v4 μ r h
  unfold D_L_law_3067 at h
  refine V_goto (tgt := 3740) dL_law_3067 (by decide) ?_
  exact V_wk [true, true, true, true, true, false, false, false] rfl (T_L_law_3740 G fu hG k23 hk23 _ _ _ h)
def D_L_law_2991 (G : GX) (fu : Nat)  (k23 : Int32 → Mem → Option (Bool × Mem)) (v4 : Int32) (μ : Mem) : Option (Bool × Mem) :=
  gu (ib (v4 + 1) (gn G)) <|
  gu (ib (v4 + 2) (gn G)) <|
  gu (ib (v4 + 3) (gn G)) <|
  (D_L_shift_0 fu (gx G (Int32.toNatClampNeg (v4 + 1))) (gx G (Int32.toNatClampNeg (v4 + 2))) (gx G (Int32.toNatClampNeg (v4 + 3))) μ).bind fun x454 =>
  gu (ib (v4 + 1) (gn G)) <|
  gu (ib (v4 + 2) (gn G)) <|
  gu (ib (v4 + 3) (gn G)) <|
  (D_X7_shift_0 fu (gx G (Int32.toNatClampNeg (v4 + 1))) (gx G (Int32.toNatClampNeg (v4 + 2))) (gx G (Int32.toNatClampNeg (v4 + 3))) x454.2).bind fun x459 =>
  (D_X7_thrown_0 x459.2).bind fun x461 =>
  if x461 = x454.1 then
    if x454.1 = 0 then
      gu (ib 0 1) <|
      if (x459.2.2.1 128 (Int32.toNatClampNeg 0)) = x459.1 then
        D_L_law_3067 G fu k23 v4 x459.2
      else
        some (false, x459.2)
    else
      D_L_law_3067 G fu k23 v4 x459.2
  else
    some (false, x459.2)
set_option maxRecDepth 20000 in
theorem T_L_law_2991 (G : GX) (fu : Nat)  (hG : gt G = tbl) (k23 : Int32 → Mem → Option (Bool × Mem)) (hk23 : ∀ (v4 : Int32) (μ : Mem) (r : (Bool × Mem)), k23 v4 μ = some r → V G mL_law 23 [some (.null), some (.ref 0), some (.ref 85), some (.ref 128), some (.int v4), none, none, none] [] μ (.inl (some (.int (b2i r.1)))) (r.2)) : ∀ (v4 : Int32) (μ : Mem) (r : (Bool × Mem)) , D_L_law_2991 G fu k23 v4 μ = some r → V G mL_law 2991 [some (.null), some (.ref 0), some (.ref 85), some (.ref 128), some (.int v4), none, none, none] [] μ (.inl (some (.int (b2i r.1)))) (r.2) := by
  intro v4 μ r h
  unfold D_L_law_2991 at h
  refine V_aload_n dL_law_2991 rfl ?_
  refine V_aloadS_n dL_law_2992 rfl ?_
  refine V_iload dL_law_2993 rfl ?_
  refine V_iconst (v := 1) dL_law_2995 rfl ?_
  refine V_iadd dL_law_2996 ?_
  obtain ⟨g451, h⟩ := gu_o h
  refine V_sload dL_law_2997 (ib_in g451) ?_
  refine V_aloadS_n dL_law_2998 rfl ?_
  refine V_iload dL_law_2999 rfl ?_
  refine V_iconst (v := 2) dL_law_3001 rfl ?_
  refine V_iadd dL_law_3002 ?_
  obtain ⟨g452, h⟩ := gu_o h
  refine V_sload dL_law_3003 (ib_in g452) ?_
  refine V_aloadS_n dL_law_3004 rfl ?_
  refine V_iload dL_law_3005 rfl ?_
  refine V_iconst (v := 3) dL_law_3007 rfl ?_
  refine V_iadd dL_law_3008 ?_
  obtain ⟨g453, h⟩ := gu_o h
  refine V_sload dL_law_3009 (ib_in g453) ?_
  refine V_aload_n dL_law_3010 rfl ?_
  obtain ⟨x454, y455, h⟩ := bi_o h
  refine V_callSX (as := [.ref 0, .int (gx G (Int32.toNatClampNeg (v4 + 1))), .int (gx G (Int32.toNatClampNeg (v4 + 2))), .int (gx G (Int32.toNatClampNeg (v4 + 3))), .ref 128]) (rest := []) dL_law_3011 os_mL_shift rfl lk_RL_295 (by decide) (by decide) rfl rfl (Nat.le_of_ble_eq_true rfl) (VM_L_shift G fu hG (gx G (Int32.toNatClampNeg (v4 + 1))) (gx G (Int32.toNatClampNeg (v4 + 2))) (gx G (Int32.toNatClampNeg (v4 + 3))) μ _ y455) ?_
  refine V_istore (lv2 := [some (.null), some (.ref 0), some (.ref 85), some (.ref 128), some (.int v4), some (.int x454.1), none, none]) dL_law_3014 (by decide) rfl ?_
  refine V_aload_n dL_law_3016 rfl ?_
  refine V_aloadS_n dL_law_3017 rfl ?_
  refine V_iload dL_law_3018 rfl ?_
  refine V_iconst (v := 1) dL_law_3020 rfl ?_
  refine V_iadd dL_law_3021 ?_
  obtain ⟨g456, h⟩ := gu_o h
  refine V_sload dL_law_3022 (ib_in g456) ?_
  refine V_aloadS_n dL_law_3023 rfl ?_
  refine V_iload dL_law_3024 rfl ?_
  refine V_iconst (v := 2) dL_law_3026 rfl ?_
  refine V_iadd dL_law_3027 ?_
  obtain ⟨g457, h⟩ := gu_o h
  refine V_sload dL_law_3028 (ib_in g457) ?_
  refine V_aloadS_n dL_law_3029 rfl ?_
  refine V_iload dL_law_3030 rfl ?_
  refine V_iconst (v := 3) dL_law_3032 rfl ?_
  refine V_iadd dL_law_3033 ?_
  obtain ⟨g458, h⟩ := gu_o h
  refine V_sload dL_law_3034 (ib_in g458) ?_
  obtain ⟨x459, y460, h⟩ := bi_o h
  refine V_callV (as := [.int (gx G (Int32.toNatClampNeg (v4 + 1))), .int (gx G (Int32.toNatClampNeg (v4 + 2))), .int (gx G (Int32.toNatClampNeg (v4 + 3)))]) (q := 85) (rest := []) dL_law_3035 ov_mX7_shift lk_RL_297 (by decide) (by decide) rfl rfl (Nat.le_of_ble_eq_true rfl) (tq_85 hG) rfl (VM_X7_shift G fu hG (gx G (Int32.toNatClampNeg (v4 + 1))) (gx G (Int32.toNatClampNeg (v4 + 2))) (gx G (Int32.toNatClampNeg (v4 + 3))) x454.2 _ y460) ?_
  refine V_lstore (lv2 := [some (.null), some (.ref 0), some (.ref 85), some (.ref 128), some (.int v4), some (.int x454.1), some (.long x459.1), none]) dL_law_3038 (by decide) rfl ?_
  refine V_aload_n dL_law_3040 rfl ?_
  obtain ⟨x461, y462, h⟩ := bi_o h
  refine V_callV (as := []) (q := 85) (rest := []) dL_law_3041 ov_mX7_thrown lk_RL_175 (by decide) (by decide) rfl rfl (Nat.le_of_ble_eq_true rfl) (tq_85 hG) rfl (VM_X7_thrown G x459.2 hG _ y462) ?_
  refine V_iload dL_law_3044 rfl ?_
  by_cases c3046 : x461 = x454.1
  · rw [if_pos c3046] at h
    refine V_icmpeq_t (tgt := 3051) dL_law_3046 (by decide) c3046 ?_
    refine V_iload dL_law_3051 rfl ?_
    by_cases c3053 : x454.1 = 0
    · rw [if_pos c3053] at h
      refine V_ifne_f (tgt := 3067) dL_law_3053 (by decide) c3053 ?_
      refine V_aload_n dL_law_3056 rfl ?_
      refine V_iconst (v := 0) dL_law_3057 rfl ?_
      obtain ⟨g463, h⟩ := gu_o h
      refine V_laload dL_law_3058 (tq_128 hG) (ib_in g463) ?_
      refine V_lload dL_law_3059 rfl ?_
      refine V_lcmp dL_law_3061 ?_
      by_cases c3062 : (x459.2.2.1 128 (Int32.toNatClampNeg 0)) = x459.1
      · rw [if_pos c3062] at h
        refine V_ifeq_t (tgt := 3067) dL_law_3062 (by decide) ((lc_eq (x459.2.2.1 128 (Int32.toNatClampNeg 0)) x459.1).mpr c3062) ?_
        exact V_wk [true, true, true, true, true, false, false, false] rfl (T_L_law_3067 G fu hG k23 hk23 _ _ _ h)
      · rw [if_neg c3062] at h
        refine V_ifeq_f (tgt := 3067) dL_law_3062 (by decide) (fun z => c3062 ((lc_eq (x459.2.2.1 128 (Int32.toNatClampNeg 0)) x459.1).mp z)) ?_
        refine V_iconst (v := 0) dL_law_3065 rfl ?_
        cases h
        exact V_zret rfl (by decide) dL_law_3066
    · rw [if_neg c3053] at h
      refine V_ifne_t (tgt := 3067) dL_law_3053 (by decide) c3053 ?_
      exact V_wk [true, true, true, true, true, false, false, false] rfl (T_L_law_3067 G fu hG k23 hk23 _ _ _ h)
  · rw [if_neg c3046] at h
    refine V_icmpeq_f (tgt := 3051) dL_law_3046 (by decide) c3046 ?_
    refine V_iconst (v := 0) dL_law_3049 rfl ?_
    cases h
    exact V_zret rfl (by decide) dL_law_3050
def D_L_law_3134 (G : GX) (fu : Nat)  (k23 : Int32 → Mem → Option (Bool × Mem)) (v4 : Int32) (μ : Mem) : Option (Bool × Mem) :=
  D_L_law_3740 G fu k23 v4 μ
set_option maxRecDepth 20000 in
theorem T_L_law_3134 (G : GX) (fu : Nat)  (hG : gt G = tbl) (k23 : Int32 → Mem → Option (Bool × Mem)) (hk23 : ∀ (v4 : Int32) (μ : Mem) (r : (Bool × Mem)), k23 v4 μ = some r → V G mL_law 23 [some (.null), some (.ref 0), some (.ref 85), some (.ref 128), some (.int v4), none, none, none] [] μ (.inl (some (.int (b2i r.1)))) (r.2)) : ∀ (v4 : Int32) (μ : Mem) (r : (Bool × Mem)) , D_L_law_3134 G fu k23 v4 μ = some r → V G mL_law 3134 [some (.null), some (.ref 0), some (.ref 85), some (.ref 128), some (.int v4), none, none, none] [] μ (.inl (some (.int (b2i r.1)))) (r.2) := by
  intro v4 μ r h
  unfold D_L_law_3134 at h
  refine V_goto (tgt := 3740) dL_law_3134 (by decide) ?_
  exact V_wk [true, true, true, true, true, false, false, false] rfl (T_L_law_3740 G fu hG k23 hk23 _ _ _ h)
def D_L_law_3070 (G : GX) (fu : Nat)  (k23 : Int32 → Mem → Option (Bool × Mem)) (v4 : Int32) (μ : Mem) : Option (Bool × Mem) :=
  gu (ib (v4 + 1) (gn G)) <|
  gu (ib (v4 + 2) (gn G)) <|
  (D_L_after_0 fu (gx G (Int32.toNatClampNeg (v4 + 1))) (gx G (Int32.toNatClampNeg (v4 + 2))) μ).bind fun x466 =>
  gu (ib (v4 + 1) (gn G)) <|
  gu (ib (v4 + 2) (gn G)) <|
  (D_X7_after_0 fu (gx G (Int32.toNatClampNeg (v4 + 1))) (gx G (Int32.toNatClampNeg (v4 + 2))) x466.2).bind fun x470 =>
  (D_X7_thrown_0 x470.2).bind fun x472 =>
  if x472 = x466.1 then
    if x466.1 = 0 then
      gu (ib 0 1) <|
      if (x470.2.2.1 128 (Int32.toNatClampNeg 0)) = x470.1 then
        D_L_law_3134 G fu k23 v4 x470.2
      else
        some (false, x470.2)
    else
      D_L_law_3134 G fu k23 v4 x470.2
  else
    some (false, x470.2)
set_option maxRecDepth 20000 in
theorem T_L_law_3070 (G : GX) (fu : Nat)  (hG : gt G = tbl) (k23 : Int32 → Mem → Option (Bool × Mem)) (hk23 : ∀ (v4 : Int32) (μ : Mem) (r : (Bool × Mem)), k23 v4 μ = some r → V G mL_law 23 [some (.null), some (.ref 0), some (.ref 85), some (.ref 128), some (.int v4), none, none, none] [] μ (.inl (some (.int (b2i r.1)))) (r.2)) : ∀ (v4 : Int32) (μ : Mem) (r : (Bool × Mem)) , D_L_law_3070 G fu k23 v4 μ = some r → V G mL_law 3070 [some (.null), some (.ref 0), some (.ref 85), some (.ref 128), some (.int v4), none, none, none] [] μ (.inl (some (.int (b2i r.1)))) (r.2) := by
  intro v4 μ r h
  unfold D_L_law_3070 at h
  refine V_aload_n dL_law_3070 rfl ?_
  refine V_aloadS_n dL_law_3071 rfl ?_
  refine V_iload dL_law_3072 rfl ?_
  refine V_iconst (v := 1) dL_law_3074 rfl ?_
  refine V_iadd dL_law_3075 ?_
  obtain ⟨g464, h⟩ := gu_o h
  refine V_sload dL_law_3076 (ib_in g464) ?_
  refine V_aloadS_n dL_law_3077 rfl ?_
  refine V_iload dL_law_3078 rfl ?_
  refine V_iconst (v := 2) dL_law_3080 rfl ?_
  refine V_iadd dL_law_3081 ?_
  obtain ⟨g465, h⟩ := gu_o h
  refine V_sload dL_law_3082 (ib_in g465) ?_
  refine V_aload_n dL_law_3083 rfl ?_
  obtain ⟨x466, y467, h⟩ := bi_o h
  refine V_callSX (as := [.ref 0, .int (gx G (Int32.toNatClampNeg (v4 + 1))), .int (gx G (Int32.toNatClampNeg (v4 + 2))), .ref 128]) (rest := []) dL_law_3084 os_mL_after rfl lk_RL_298 (by decide) (by decide) rfl rfl (Nat.le_of_ble_eq_true rfl) (VM_L_after G fu hG (gx G (Int32.toNatClampNeg (v4 + 1))) (gx G (Int32.toNatClampNeg (v4 + 2))) μ _ y467) ?_
  refine V_istore (lv2 := [some (.null), some (.ref 0), some (.ref 85), some (.ref 128), some (.int v4), some (.int x466.1), none, none]) dL_law_3087 (by decide) rfl ?_
  refine V_aload_n dL_law_3089 rfl ?_
  refine V_aloadS_n dL_law_3090 rfl ?_
  refine V_iload dL_law_3091 rfl ?_
  refine V_iconst (v := 1) dL_law_3093 rfl ?_
  refine V_iadd dL_law_3094 ?_
  obtain ⟨g468, h⟩ := gu_o h
  refine V_sload dL_law_3095 (ib_in g468) ?_
  refine V_aloadS_n dL_law_3096 rfl ?_
  refine V_iload dL_law_3097 rfl ?_
  refine V_iconst (v := 2) dL_law_3099 rfl ?_
  refine V_iadd dL_law_3100 ?_
  obtain ⟨g469, h⟩ := gu_o h
  refine V_sload dL_law_3101 (ib_in g469) ?_
  obtain ⟨x470, y471, h⟩ := bi_o h
  refine V_callV (as := [.int (gx G (Int32.toNatClampNeg (v4 + 1))), .int (gx G (Int32.toNatClampNeg (v4 + 2)))]) (q := 85) (rest := []) dL_law_3102 ov_mX7_after lk_RL_300 (by decide) (by decide) rfl rfl (Nat.le_of_ble_eq_true rfl) (tq_85 hG) rfl (VM_X7_after G fu hG (gx G (Int32.toNatClampNeg (v4 + 1))) (gx G (Int32.toNatClampNeg (v4 + 2))) x466.2 _ y471) ?_
  refine V_lstore (lv2 := [some (.null), some (.ref 0), some (.ref 85), some (.ref 128), some (.int v4), some (.int x466.1), some (.long x470.1), none]) dL_law_3105 (by decide) rfl ?_
  refine V_aload_n dL_law_3107 rfl ?_
  obtain ⟨x472, y473, h⟩ := bi_o h
  refine V_callV (as := []) (q := 85) (rest := []) dL_law_3108 ov_mX7_thrown lk_RL_175 (by decide) (by decide) rfl rfl (Nat.le_of_ble_eq_true rfl) (tq_85 hG) rfl (VM_X7_thrown G x470.2 hG _ y473) ?_
  refine V_iload dL_law_3111 rfl ?_
  by_cases c3113 : x472 = x466.1
  · rw [if_pos c3113] at h
    refine V_icmpeq_t (tgt := 3118) dL_law_3113 (by decide) c3113 ?_
    refine V_iload dL_law_3118 rfl ?_
    by_cases c3120 : x466.1 = 0
    · rw [if_pos c3120] at h
      refine V_ifne_f (tgt := 3134) dL_law_3120 (by decide) c3120 ?_
      refine V_aload_n dL_law_3123 rfl ?_
      refine V_iconst (v := 0) dL_law_3124 rfl ?_
      obtain ⟨g474, h⟩ := gu_o h
      refine V_laload dL_law_3125 (tq_128 hG) (ib_in g474) ?_
      refine V_lload dL_law_3126 rfl ?_
      refine V_lcmp dL_law_3128 ?_
      by_cases c3129 : (x470.2.2.1 128 (Int32.toNatClampNeg 0)) = x470.1
      · rw [if_pos c3129] at h
        refine V_ifeq_t (tgt := 3134) dL_law_3129 (by decide) ((lc_eq (x470.2.2.1 128 (Int32.toNatClampNeg 0)) x470.1).mpr c3129) ?_
        exact V_wk [true, true, true, true, true, false, false, false] rfl (T_L_law_3134 G fu hG k23 hk23 _ _ _ h)
      · rw [if_neg c3129] at h
        refine V_ifeq_f (tgt := 3134) dL_law_3129 (by decide) (fun z => c3129 ((lc_eq (x470.2.2.1 128 (Int32.toNatClampNeg 0)) x470.1).mp z)) ?_
        refine V_iconst (v := 0) dL_law_3132 rfl ?_
        cases h
        exact V_zret rfl (by decide) dL_law_3133
    · rw [if_neg c3120] at h
      refine V_ifne_t (tgt := 3134) dL_law_3120 (by decide) c3120 ?_
      exact V_wk [true, true, true, true, true, false, false, false] rfl (T_L_law_3134 G fu hG k23 hk23 _ _ _ h)
  · rw [if_neg c3113] at h
    refine V_icmpeq_f (tgt := 3118) dL_law_3113 (by decide) c3113 ?_
    refine V_iconst (v := 0) dL_law_3116 rfl ?_
    cases h
    exact V_zret rfl (by decide) dL_law_3117
def D_L_law_3190 (G : GX) (fu : Nat)  (k23 : Int32 → Mem → Option (Bool × Mem)) (v4 : Int32) (μ : Mem) : Option (Bool × Mem) :=
  D_L_law_3740 G fu k23 v4 μ
set_option maxRecDepth 20000 in
theorem T_L_law_3190 (G : GX) (fu : Nat)  (hG : gt G = tbl) (k23 : Int32 → Mem → Option (Bool × Mem)) (hk23 : ∀ (v4 : Int32) (μ : Mem) (r : (Bool × Mem)), k23 v4 μ = some r → V G mL_law 23 [some (.null), some (.ref 0), some (.ref 85), some (.ref 128), some (.int v4), none, none, none] [] μ (.inl (some (.int (b2i r.1)))) (r.2)) : ∀ (v4 : Int32) (μ : Mem) (r : (Bool × Mem)) , D_L_law_3190 G fu k23 v4 μ = some r → V G mL_law 3190 [some (.null), some (.ref 0), some (.ref 85), some (.ref 128), some (.int v4), none, none, none] [] μ (.inl (some (.int (b2i r.1)))) (r.2) := by
  intro v4 μ r h
  unfold D_L_law_3190 at h
  refine V_goto (tgt := 3740) dL_law_3190 (by decide) ?_
  exact V_wk [true, true, true, true, true, false, false, false] rfl (T_L_law_3740 G fu hG k23 hk23 _ _ _ h)
def D_L_law_3137 (G : GX) (fu : Nat)  (k23 : Int32 → Mem → Option (Bool × Mem)) (v4 : Int32) (μ : Mem) : Option (Bool × Mem) :=
  gu (ib (v4 + 1) (gn G)) <|
  (D_L_usedUp_0 fu (gx G (Int32.toNatClampNeg (v4 + 1))) μ).bind fun x476 =>
  gu (ib (v4 + 1) (gn G)) <|
  (D_X7_usedUp_0 fu (gx G (Int32.toNatClampNeg (v4 + 1))) x476.2).bind fun x479 =>
  (D_X7_thrown_0 x479.2).bind fun x481 =>
  if x481 = x476.1 then
    if x476.1 = 0 then
      gu (ib 0 1) <|
      if (x479.2.2.1 128 (Int32.toNatClampNeg 0)) = ((x479.1 : Int32).toInt64) then
        D_L_law_3190 G fu k23 v4 x479.2
      else
        some (false, x479.2)
    else
      D_L_law_3190 G fu k23 v4 x479.2
  else
    some (false, x479.2)
set_option maxRecDepth 20000 in
theorem T_L_law_3137 (G : GX) (fu : Nat)  (hG : gt G = tbl) (k23 : Int32 → Mem → Option (Bool × Mem)) (hk23 : ∀ (v4 : Int32) (μ : Mem) (r : (Bool × Mem)), k23 v4 μ = some r → V G mL_law 23 [some (.null), some (.ref 0), some (.ref 85), some (.ref 128), some (.int v4), none, none, none] [] μ (.inl (some (.int (b2i r.1)))) (r.2)) : ∀ (v4 : Int32) (μ : Mem) (r : (Bool × Mem)) , D_L_law_3137 G fu k23 v4 μ = some r → V G mL_law 3137 [some (.null), some (.ref 0), some (.ref 85), some (.ref 128), some (.int v4), none, none, none] [] μ (.inl (some (.int (b2i r.1)))) (r.2) := by
  intro v4 μ r h
  unfold D_L_law_3137 at h
  refine V_aload_n dL_law_3137 rfl ?_
  refine V_aloadS_n dL_law_3138 rfl ?_
  refine V_iload dL_law_3139 rfl ?_
  refine V_iconst (v := 1) dL_law_3141 rfl ?_
  refine V_iadd dL_law_3142 ?_
  obtain ⟨g475, h⟩ := gu_o h
  refine V_sload dL_law_3143 (ib_in g475) ?_
  refine V_aload_n dL_law_3144 rfl ?_
  obtain ⟨x476, y477, h⟩ := bi_o h
  refine V_callSX (as := [.ref 0, .int (gx G (Int32.toNatClampNeg (v4 + 1))), .ref 128]) (rest := []) dL_law_3145 os_mL_usedUp rfl lk_RL_301 (by decide) (by decide) rfl rfl (Nat.le_of_ble_eq_true rfl) (VM_L_usedUp G fu hG (gx G (Int32.toNatClampNeg (v4 + 1))) μ _ y477) ?_
  refine V_istore (lv2 := [some (.null), some (.ref 0), some (.ref 85), some (.ref 128), some (.int v4), some (.int x476.1), none, none]) dL_law_3148 (by decide) rfl ?_
  refine V_aload_n dL_law_3150 rfl ?_
  refine V_aloadS_n dL_law_3151 rfl ?_
  refine V_iload dL_law_3152 rfl ?_
  refine V_iconst (v := 1) dL_law_3154 rfl ?_
  refine V_iadd dL_law_3155 ?_
  obtain ⟨g478, h⟩ := gu_o h
  refine V_sload dL_law_3156 (ib_in g478) ?_
  obtain ⟨x479, y480, h⟩ := bi_o h
  refine V_callV (as := [.int (gx G (Int32.toNatClampNeg (v4 + 1)))]) (q := 85) (rest := []) dL_law_3157 ov_mX7_usedUp lk_RL_303 (by decide) (by decide) rfl rfl (Nat.le_of_ble_eq_true rfl) (tq_85 hG) rfl (VM_X7_usedUp G fu hG (gx G (Int32.toNatClampNeg (v4 + 1))) x476.2 _ y480) ?_
  refine V_istore (lv2 := [some (.null), some (.ref 0), some (.ref 85), some (.ref 128), some (.int v4), some (.int x476.1), some (.int x479.1), none]) dL_law_3160 (by decide) rfl ?_
  refine V_aload_n dL_law_3162 rfl ?_
  obtain ⟨x481, y482, h⟩ := bi_o h
  refine V_callV (as := []) (q := 85) (rest := []) dL_law_3163 ov_mX7_thrown lk_RL_175 (by decide) (by decide) rfl rfl (Nat.le_of_ble_eq_true rfl) (tq_85 hG) rfl (VM_X7_thrown G x479.2 hG _ y482) ?_
  refine V_iload dL_law_3166 rfl ?_
  by_cases c3168 : x481 = x476.1
  · rw [if_pos c3168] at h
    refine V_icmpeq_t (tgt := 3173) dL_law_3168 (by decide) c3168 ?_
    refine V_iload dL_law_3173 rfl ?_
    by_cases c3175 : x476.1 = 0
    · rw [if_pos c3175] at h
      refine V_ifne_f (tgt := 3190) dL_law_3175 (by decide) c3175 ?_
      refine V_aload_n dL_law_3178 rfl ?_
      refine V_iconst (v := 0) dL_law_3179 rfl ?_
      obtain ⟨g483, h⟩ := gu_o h
      refine V_laload dL_law_3180 (tq_128 hG) (ib_in g483) ?_
      refine V_iload dL_law_3181 rfl ?_
      refine V_i2l dL_law_3183 ?_
      refine V_lcmp dL_law_3184 ?_
      by_cases c3185 : (x479.2.2.1 128 (Int32.toNatClampNeg 0)) = ((x479.1 : Int32).toInt64)
      · rw [if_pos c3185] at h
        refine V_ifeq_t (tgt := 3190) dL_law_3185 (by decide) ((lc_eq (x479.2.2.1 128 (Int32.toNatClampNeg 0)) ((x479.1 : Int32).toInt64)).mpr c3185) ?_
        exact V_wk [true, true, true, true, true, false, false, false] rfl (T_L_law_3190 G fu hG k23 hk23 _ _ _ h)
      · rw [if_neg c3185] at h
        refine V_ifeq_f (tgt := 3190) dL_law_3185 (by decide) (fun z => c3185 ((lc_eq (x479.2.2.1 128 (Int32.toNatClampNeg 0)) ((x479.1 : Int32).toInt64)).mp z)) ?_
        refine V_iconst (v := 0) dL_law_3188 rfl ?_
        cases h
        exact V_zret rfl (by decide) dL_law_3189
    · rw [if_neg c3175] at h
      refine V_ifne_t (tgt := 3190) dL_law_3175 (by decide) c3175 ?_
      exact V_wk [true, true, true, true, true, false, false, false] rfl (T_L_law_3190 G fu hG k23 hk23 _ _ _ h)
  · rw [if_neg c3168] at h
    refine V_icmpeq_f (tgt := 3173) dL_law_3168 (by decide) c3168 ?_
    refine V_iconst (v := 0) dL_law_3171 rfl ?_
    cases h
    exact V_zret rfl (by decide) dL_law_3172
def D_L_law_3257 (G : GX) (fu : Nat)  (k23 : Int32 → Mem → Option (Bool × Mem)) (v4 : Int32) (μ : Mem) : Option (Bool × Mem) :=
  D_L_law_3740 G fu k23 v4 μ
set_option maxRecDepth 20000 in
theorem T_L_law_3257 (G : GX) (fu : Nat)  (hG : gt G = tbl) (k23 : Int32 → Mem → Option (Bool × Mem)) (hk23 : ∀ (v4 : Int32) (μ : Mem) (r : (Bool × Mem)), k23 v4 μ = some r → V G mL_law 23 [some (.null), some (.ref 0), some (.ref 85), some (.ref 128), some (.int v4), none, none, none] [] μ (.inl (some (.int (b2i r.1)))) (r.2)) : ∀ (v4 : Int32) (μ : Mem) (r : (Bool × Mem)) , D_L_law_3257 G fu k23 v4 μ = some r → V G mL_law 3257 [some (.null), some (.ref 0), some (.ref 85), some (.ref 128), some (.int v4), none, none, none] [] μ (.inl (some (.int (b2i r.1)))) (r.2) := by
  intro v4 μ r h
  unfold D_L_law_3257 at h
  refine V_goto (tgt := 3740) dL_law_3257 (by decide) ?_
  exact V_wk [true, true, true, true, true, false, false, false] rfl (T_L_law_3740 G fu hG k23 hk23 _ _ _ h)
def D_L_law_3193 (G : GX) (fu : Nat)  (k23 : Int32 → Mem → Option (Bool × Mem)) (v4 : Int32) (μ : Mem) : Option (Bool × Mem) :=
  gu (ib (v4 + 1) (gn G)) <|
  gu (ib (v4 + 2) (gn G)) <|
  (D_L_heaviest_0 fu (gx G (Int32.toNatClampNeg (v4 + 1))) (gx G (Int32.toNatClampNeg (v4 + 2))) μ).bind fun x486 =>
  gu (ib (v4 + 1) (gn G)) <|
  gu (ib (v4 + 2) (gn G)) <|
  (D_X7_heaviest_0 fu (gx G (Int32.toNatClampNeg (v4 + 1))) (gx G (Int32.toNatClampNeg (v4 + 2))) x486.2).bind fun x490 =>
  (D_X7_thrown_0 x490.2).bind fun x492 =>
  if x492 = x486.1 then
    if x486.1 = 0 then
      gu (ib 0 1) <|
      if (x490.2.2.1 128 (Int32.toNatClampNeg 0)) = x490.1 then
        D_L_law_3257 G fu k23 v4 x490.2
      else
        some (false, x490.2)
    else
      D_L_law_3257 G fu k23 v4 x490.2
  else
    some (false, x490.2)
set_option maxRecDepth 20000 in
theorem T_L_law_3193 (G : GX) (fu : Nat)  (hG : gt G = tbl) (k23 : Int32 → Mem → Option (Bool × Mem)) (hk23 : ∀ (v4 : Int32) (μ : Mem) (r : (Bool × Mem)), k23 v4 μ = some r → V G mL_law 23 [some (.null), some (.ref 0), some (.ref 85), some (.ref 128), some (.int v4), none, none, none] [] μ (.inl (some (.int (b2i r.1)))) (r.2)) : ∀ (v4 : Int32) (μ : Mem) (r : (Bool × Mem)) , D_L_law_3193 G fu k23 v4 μ = some r → V G mL_law 3193 [some (.null), some (.ref 0), some (.ref 85), some (.ref 128), some (.int v4), none, none, none] [] μ (.inl (some (.int (b2i r.1)))) (r.2) := by
  intro v4 μ r h
  unfold D_L_law_3193 at h
  refine V_aload_n dL_law_3193 rfl ?_
  refine V_aloadS_n dL_law_3194 rfl ?_
  refine V_iload dL_law_3195 rfl ?_
  refine V_iconst (v := 1) dL_law_3197 rfl ?_
  refine V_iadd dL_law_3198 ?_
  obtain ⟨g484, h⟩ := gu_o h
  refine V_sload dL_law_3199 (ib_in g484) ?_
  refine V_aloadS_n dL_law_3200 rfl ?_
  refine V_iload dL_law_3201 rfl ?_
  refine V_iconst (v := 2) dL_law_3203 rfl ?_
  refine V_iadd dL_law_3204 ?_
  obtain ⟨g485, h⟩ := gu_o h
  refine V_sload dL_law_3205 (ib_in g485) ?_
  refine V_aload_n dL_law_3206 rfl ?_
  obtain ⟨x486, y487, h⟩ := bi_o h
  refine V_callSX (as := [.ref 0, .int (gx G (Int32.toNatClampNeg (v4 + 1))), .int (gx G (Int32.toNatClampNeg (v4 + 2))), .ref 128]) (rest := []) dL_law_3207 os_mL_heaviest rfl lk_RL_304 (by decide) (by decide) rfl rfl (Nat.le_of_ble_eq_true rfl) (VM_L_heaviest G fu hG (gx G (Int32.toNatClampNeg (v4 + 1))) (gx G (Int32.toNatClampNeg (v4 + 2))) μ _ y487) ?_
  refine V_istore (lv2 := [some (.null), some (.ref 0), some (.ref 85), some (.ref 128), some (.int v4), some (.int x486.1), none, none]) dL_law_3210 (by decide) rfl ?_
  refine V_aload_n dL_law_3212 rfl ?_
  refine V_aloadS_n dL_law_3213 rfl ?_
  refine V_iload dL_law_3214 rfl ?_
  refine V_iconst (v := 1) dL_law_3216 rfl ?_
  refine V_iadd dL_law_3217 ?_
  obtain ⟨g488, h⟩ := gu_o h
  refine V_sload dL_law_3218 (ib_in g488) ?_
  refine V_aloadS_n dL_law_3219 rfl ?_
  refine V_iload dL_law_3220 rfl ?_
  refine V_iconst (v := 2) dL_law_3222 rfl ?_
  refine V_iadd dL_law_3223 ?_
  obtain ⟨g489, h⟩ := gu_o h
  refine V_sload dL_law_3224 (ib_in g489) ?_
  obtain ⟨x490, y491, h⟩ := bi_o h
  refine V_callV (as := [.int (gx G (Int32.toNatClampNeg (v4 + 1))), .int (gx G (Int32.toNatClampNeg (v4 + 2)))]) (q := 85) (rest := []) dL_law_3225 ov_mX7_heaviest lk_RL_306 (by decide) (by decide) rfl rfl (Nat.le_of_ble_eq_true rfl) (tq_85 hG) rfl (VM_X7_heaviest G fu hG (gx G (Int32.toNatClampNeg (v4 + 1))) (gx G (Int32.toNatClampNeg (v4 + 2))) x486.2 _ y491) ?_
  refine V_lstore (lv2 := [some (.null), some (.ref 0), some (.ref 85), some (.ref 128), some (.int v4), some (.int x486.1), some (.long x490.1), none]) dL_law_3228 (by decide) rfl ?_
  refine V_aload_n dL_law_3230 rfl ?_
  obtain ⟨x492, y493, h⟩ := bi_o h
  refine V_callV (as := []) (q := 85) (rest := []) dL_law_3231 ov_mX7_thrown lk_RL_175 (by decide) (by decide) rfl rfl (Nat.le_of_ble_eq_true rfl) (tq_85 hG) rfl (VM_X7_thrown G x490.2 hG _ y493) ?_
  refine V_iload dL_law_3234 rfl ?_
  by_cases c3236 : x492 = x486.1
  · rw [if_pos c3236] at h
    refine V_icmpeq_t (tgt := 3241) dL_law_3236 (by decide) c3236 ?_
    refine V_iload dL_law_3241 rfl ?_
    by_cases c3243 : x486.1 = 0
    · rw [if_pos c3243] at h
      refine V_ifne_f (tgt := 3257) dL_law_3243 (by decide) c3243 ?_
      refine V_aload_n dL_law_3246 rfl ?_
      refine V_iconst (v := 0) dL_law_3247 rfl ?_
      obtain ⟨g494, h⟩ := gu_o h
      refine V_laload dL_law_3248 (tq_128 hG) (ib_in g494) ?_
      refine V_lload dL_law_3249 rfl ?_
      refine V_lcmp dL_law_3251 ?_
      by_cases c3252 : (x490.2.2.1 128 (Int32.toNatClampNeg 0)) = x490.1
      · rw [if_pos c3252] at h
        refine V_ifeq_t (tgt := 3257) dL_law_3252 (by decide) ((lc_eq (x490.2.2.1 128 (Int32.toNatClampNeg 0)) x490.1).mpr c3252) ?_
        exact V_wk [true, true, true, true, true, false, false, false] rfl (T_L_law_3257 G fu hG k23 hk23 _ _ _ h)
      · rw [if_neg c3252] at h
        refine V_ifeq_f (tgt := 3257) dL_law_3252 (by decide) (fun z => c3252 ((lc_eq (x490.2.2.1 128 (Int32.toNatClampNeg 0)) x490.1).mp z)) ?_
        refine V_iconst (v := 0) dL_law_3255 rfl ?_
        cases h
        exact V_zret rfl (by decide) dL_law_3256
    · rw [if_neg c3243] at h
      refine V_ifne_t (tgt := 3257) dL_law_3243 (by decide) c3243 ?_
      exact V_wk [true, true, true, true, true, false, false, false] rfl (T_L_law_3257 G fu hG k23 hk23 _ _ _ h)
  · rw [if_neg c3236] at h
    refine V_icmpeq_f (tgt := 3241) dL_law_3236 (by decide) c3236 ?_
    refine V_iconst (v := 0) dL_law_3239 rfl ?_
    cases h
    exact V_zret rfl (by decide) dL_law_3240
def D_L_law_3337 (G : GX) (fu : Nat)  (k23 : Int32 → Mem → Option (Bool × Mem)) (v4 : Int32) (μ : Mem) : Option (Bool × Mem) :=
  D_L_law_3740 G fu k23 v4 μ
set_option maxRecDepth 20000 in
theorem T_L_law_3337 (G : GX) (fu : Nat)  (hG : gt G = tbl) (k23 : Int32 → Mem → Option (Bool × Mem)) (hk23 : ∀ (v4 : Int32) (μ : Mem) (r : (Bool × Mem)), k23 v4 μ = some r → V G mL_law 23 [some (.null), some (.ref 0), some (.ref 85), some (.ref 128), some (.int v4), none, none, none] [] μ (.inl (some (.int (b2i r.1)))) (r.2)) : ∀ (v4 : Int32) (μ : Mem) (r : (Bool × Mem)) , D_L_law_3337 G fu k23 v4 μ = some r → V G mL_law 3337 [some (.null), some (.ref 0), some (.ref 85), some (.ref 128), some (.int v4), none, none, none] [] μ (.inl (some (.int (b2i r.1)))) (r.2) := by
  intro v4 μ r h
  unfold D_L_law_3337 at h
  refine V_goto (tgt := 3740) dL_law_3337 (by decide) ?_
  exact V_wk [true, true, true, true, true, false, false, false] rfl (T_L_law_3740 G fu hG k23 hk23 _ _ _ h)
def D_L_law_3260 (G : GX) (fu : Nat)  (k23 : Int32 → Mem → Option (Bool × Mem)) (v4 : Int32) (μ : Mem) : Option (Bool × Mem) :=
  gu (ib (v4 + 1) (gn G)) <|
  gu (ib (v4 + 2) (gn G)) <|
  gu (ib (v4 + 3) (gn G)) <|
  (D_L_cover_0 fu (gx G (Int32.toNatClampNeg (v4 + 1))) (gx G (Int32.toNatClampNeg (v4 + 2))) (gx G (Int32.toNatClampNeg (v4 + 3))) μ).bind fun x498 =>
  gu (ib (v4 + 1) (gn G)) <|
  gu (ib (v4 + 2) (gn G)) <|
  gu (ib (v4 + 3) (gn G)) <|
  (D_X7_cover_0 fu (gx G (Int32.toNatClampNeg (v4 + 1))) (gx G (Int32.toNatClampNeg (v4 + 2))) (gx G (Int32.toNatClampNeg (v4 + 3))) x498.2).bind fun x503 =>
  (D_X7_thrown_0 x503.2).bind fun x505 =>
  if x505 = x498.1 then
    if x498.1 = 0 then
      gu (ib 0 1) <|
      if (x503.2.2.1 128 (Int32.toNatClampNeg 0)) = ((x503.1 : Int32).toInt64) then
        D_L_law_3337 G fu k23 v4 x503.2
      else
        some (false, x503.2)
    else
      D_L_law_3337 G fu k23 v4 x503.2
  else
    some (false, x503.2)
set_option maxRecDepth 20000 in
theorem T_L_law_3260 (G : GX) (fu : Nat)  (hG : gt G = tbl) (k23 : Int32 → Mem → Option (Bool × Mem)) (hk23 : ∀ (v4 : Int32) (μ : Mem) (r : (Bool × Mem)), k23 v4 μ = some r → V G mL_law 23 [some (.null), some (.ref 0), some (.ref 85), some (.ref 128), some (.int v4), none, none, none] [] μ (.inl (some (.int (b2i r.1)))) (r.2)) : ∀ (v4 : Int32) (μ : Mem) (r : (Bool × Mem)) , D_L_law_3260 G fu k23 v4 μ = some r → V G mL_law 3260 [some (.null), some (.ref 0), some (.ref 85), some (.ref 128), some (.int v4), none, none, none] [] μ (.inl (some (.int (b2i r.1)))) (r.2) := by
  intro v4 μ r h
  unfold D_L_law_3260 at h
  refine V_aload_n dL_law_3260 rfl ?_
  refine V_aloadS_n dL_law_3261 rfl ?_
  refine V_iload dL_law_3262 rfl ?_
  refine V_iconst (v := 1) dL_law_3264 rfl ?_
  refine V_iadd dL_law_3265 ?_
  obtain ⟨g495, h⟩ := gu_o h
  refine V_sload dL_law_3266 (ib_in g495) ?_
  refine V_aloadS_n dL_law_3267 rfl ?_
  refine V_iload dL_law_3268 rfl ?_
  refine V_iconst (v := 2) dL_law_3270 rfl ?_
  refine V_iadd dL_law_3271 ?_
  obtain ⟨g496, h⟩ := gu_o h
  refine V_sload dL_law_3272 (ib_in g496) ?_
  refine V_aloadS_n dL_law_3273 rfl ?_
  refine V_iload dL_law_3274 rfl ?_
  refine V_iconst (v := 3) dL_law_3276 rfl ?_
  refine V_iadd dL_law_3277 ?_
  obtain ⟨g497, h⟩ := gu_o h
  refine V_sload dL_law_3278 (ib_in g497) ?_
  refine V_aload_n dL_law_3279 rfl ?_
  obtain ⟨x498, y499, h⟩ := bi_o h
  refine V_callSX (as := [.ref 0, .int (gx G (Int32.toNatClampNeg (v4 + 1))), .int (gx G (Int32.toNatClampNeg (v4 + 2))), .int (gx G (Int32.toNatClampNeg (v4 + 3))), .ref 128]) (rest := []) dL_law_3280 os_mL_cover rfl lk_RL_307 (by decide) (by decide) rfl rfl (Nat.le_of_ble_eq_true rfl) (VM_L_cover G fu hG (gx G (Int32.toNatClampNeg (v4 + 1))) (gx G (Int32.toNatClampNeg (v4 + 2))) (gx G (Int32.toNatClampNeg (v4 + 3))) μ _ y499) ?_
  refine V_istore (lv2 := [some (.null), some (.ref 0), some (.ref 85), some (.ref 128), some (.int v4), some (.int x498.1), none, none]) dL_law_3283 (by decide) rfl ?_
  refine V_aload_n dL_law_3285 rfl ?_
  refine V_aloadS_n dL_law_3286 rfl ?_
  refine V_iload dL_law_3287 rfl ?_
  refine V_iconst (v := 1) dL_law_3289 rfl ?_
  refine V_iadd dL_law_3290 ?_
  obtain ⟨g500, h⟩ := gu_o h
  refine V_sload dL_law_3291 (ib_in g500) ?_
  refine V_aloadS_n dL_law_3292 rfl ?_
  refine V_iload dL_law_3293 rfl ?_
  refine V_iconst (v := 2) dL_law_3295 rfl ?_
  refine V_iadd dL_law_3296 ?_
  obtain ⟨g501, h⟩ := gu_o h
  refine V_sload dL_law_3297 (ib_in g501) ?_
  refine V_aloadS_n dL_law_3298 rfl ?_
  refine V_iload dL_law_3299 rfl ?_
  refine V_iconst (v := 3) dL_law_3301 rfl ?_
  refine V_iadd dL_law_3302 ?_
  obtain ⟨g502, h⟩ := gu_o h
  refine V_sload dL_law_3303 (ib_in g502) ?_
  obtain ⟨x503, y504, h⟩ := bi_o h
  refine V_callV (as := [.int (gx G (Int32.toNatClampNeg (v4 + 1))), .int (gx G (Int32.toNatClampNeg (v4 + 2))), .int (gx G (Int32.toNatClampNeg (v4 + 3)))]) (q := 85) (rest := []) dL_law_3304 ov_mX7_cover lk_RL_309 (by decide) (by decide) rfl rfl (Nat.le_of_ble_eq_true rfl) (tq_85 hG) rfl (VM_X7_cover G fu hG (gx G (Int32.toNatClampNeg (v4 + 1))) (gx G (Int32.toNatClampNeg (v4 + 2))) (gx G (Int32.toNatClampNeg (v4 + 3))) x498.2 _ y504) ?_
  refine V_istore (lv2 := [some (.null), some (.ref 0), some (.ref 85), some (.ref 128), some (.int v4), some (.int x498.1), some (.int x503.1), none]) dL_law_3307 (by decide) rfl ?_
  refine V_aload_n dL_law_3309 rfl ?_
  obtain ⟨x505, y506, h⟩ := bi_o h
  refine V_callV (as := []) (q := 85) (rest := []) dL_law_3310 ov_mX7_thrown lk_RL_175 (by decide) (by decide) rfl rfl (Nat.le_of_ble_eq_true rfl) (tq_85 hG) rfl (VM_X7_thrown G x503.2 hG _ y506) ?_
  refine V_iload dL_law_3313 rfl ?_
  by_cases c3315 : x505 = x498.1
  · rw [if_pos c3315] at h
    refine V_icmpeq_t (tgt := 3320) dL_law_3315 (by decide) c3315 ?_
    refine V_iload dL_law_3320 rfl ?_
    by_cases c3322 : x498.1 = 0
    · rw [if_pos c3322] at h
      refine V_ifne_f (tgt := 3337) dL_law_3322 (by decide) c3322 ?_
      refine V_aload_n dL_law_3325 rfl ?_
      refine V_iconst (v := 0) dL_law_3326 rfl ?_
      obtain ⟨g507, h⟩ := gu_o h
      refine V_laload dL_law_3327 (tq_128 hG) (ib_in g507) ?_
      refine V_iload dL_law_3328 rfl ?_
      refine V_i2l dL_law_3330 ?_
      refine V_lcmp dL_law_3331 ?_
      by_cases c3332 : (x503.2.2.1 128 (Int32.toNatClampNeg 0)) = ((x503.1 : Int32).toInt64)
      · rw [if_pos c3332] at h
        refine V_ifeq_t (tgt := 3337) dL_law_3332 (by decide) ((lc_eq (x503.2.2.1 128 (Int32.toNatClampNeg 0)) ((x503.1 : Int32).toInt64)).mpr c3332) ?_
        exact V_wk [true, true, true, true, true, false, false, false] rfl (T_L_law_3337 G fu hG k23 hk23 _ _ _ h)
      · rw [if_neg c3332] at h
        refine V_ifeq_f (tgt := 3337) dL_law_3332 (by decide) (fun z => c3332 ((lc_eq (x503.2.2.1 128 (Int32.toNatClampNeg 0)) ((x503.1 : Int32).toInt64)).mp z)) ?_
        refine V_iconst (v := 0) dL_law_3335 rfl ?_
        cases h
        exact V_zret rfl (by decide) dL_law_3336
    · rw [if_neg c3322] at h
      refine V_ifne_t (tgt := 3337) dL_law_3322 (by decide) c3322 ?_
      exact V_wk [true, true, true, true, true, false, false, false] rfl (T_L_law_3337 G fu hG k23 hk23 _ _ _ h)
  · rw [if_neg c3315] at h
    refine V_icmpeq_f (tgt := 3320) dL_law_3315 (by decide) c3315 ?_
    refine V_iconst (v := 0) dL_law_3318 rfl ?_
    cases h
    exact V_zret rfl (by decide) dL_law_3319
def D_L_law_3392 (G : GX) (fu : Nat)  (k23 : Int32 → Mem → Option (Bool × Mem)) (v4 : Int32) (μ : Mem) : Option (Bool × Mem) :=
  D_L_law_3740 G fu k23 v4 μ
set_option maxRecDepth 20000 in
theorem T_L_law_3392 (G : GX) (fu : Nat)  (hG : gt G = tbl) (k23 : Int32 → Mem → Option (Bool × Mem)) (hk23 : ∀ (v4 : Int32) (μ : Mem) (r : (Bool × Mem)), k23 v4 μ = some r → V G mL_law 23 [some (.null), some (.ref 0), some (.ref 85), some (.ref 128), some (.int v4), none, none, none] [] μ (.inl (some (.int (b2i r.1)))) (r.2)) : ∀ (v4 : Int32) (μ : Mem) (r : (Bool × Mem)) , D_L_law_3392 G fu k23 v4 μ = some r → V G mL_law 3392 [some (.null), some (.ref 0), some (.ref 85), some (.ref 128), some (.int v4), none, none, none] [] μ (.inl (some (.int (b2i r.1)))) (r.2) := by
  intro v4 μ r h
  unfold D_L_law_3392 at h
  refine V_goto (tgt := 3740) dL_law_3392 (by decide) ?_
  exact V_wk [true, true, true, true, true, false, false, false] rfl (T_L_law_3740 G fu hG k23 hk23 _ _ _ h)
def D_L_law_3340 (G : GX) (fu : Nat)  (k23 : Int32 → Mem → Option (Bool × Mem)) (v4 : Int32) (μ : Mem) : Option (Bool × Mem) :=
  gu (ib (v4 + 1) (gn G)) <|
  (D_L_reach_0 fu (gx G (Int32.toNatClampNeg (v4 + 1))) μ).bind fun x509 =>
  gu (ib (v4 + 1) (gn G)) <|
  (D_X7_reach_0 fu (gx G (Int32.toNatClampNeg (v4 + 1))) x509.2).bind fun x512 =>
  (D_X7_thrown_0 x512.2).bind fun x514 =>
  if x514 = x509.1 then
    if x509.1 = 0 then
      gu (ib 0 1) <|
      if (x512.2.2.1 128 (Int32.toNatClampNeg 0)) = x512.1 then
        D_L_law_3392 G fu k23 v4 x512.2
      else
        some (false, x512.2)
    else
      D_L_law_3392 G fu k23 v4 x512.2
  else
    some (false, x512.2)
set_option maxRecDepth 20000 in
theorem T_L_law_3340 (G : GX) (fu : Nat)  (hG : gt G = tbl) (k23 : Int32 → Mem → Option (Bool × Mem)) (hk23 : ∀ (v4 : Int32) (μ : Mem) (r : (Bool × Mem)), k23 v4 μ = some r → V G mL_law 23 [some (.null), some (.ref 0), some (.ref 85), some (.ref 128), some (.int v4), none, none, none] [] μ (.inl (some (.int (b2i r.1)))) (r.2)) : ∀ (v4 : Int32) (μ : Mem) (r : (Bool × Mem)) , D_L_law_3340 G fu k23 v4 μ = some r → V G mL_law 3340 [some (.null), some (.ref 0), some (.ref 85), some (.ref 128), some (.int v4), none, none, none] [] μ (.inl (some (.int (b2i r.1)))) (r.2) := by
  intro v4 μ r h
  unfold D_L_law_3340 at h
  refine V_aload_n dL_law_3340 rfl ?_
  refine V_aloadS_n dL_law_3341 rfl ?_
  refine V_iload dL_law_3342 rfl ?_
  refine V_iconst (v := 1) dL_law_3344 rfl ?_
  refine V_iadd dL_law_3345 ?_
  obtain ⟨g508, h⟩ := gu_o h
  refine V_sload dL_law_3346 (ib_in g508) ?_
  refine V_aload_n dL_law_3347 rfl ?_
  obtain ⟨x509, y510, h⟩ := bi_o h
  refine V_callSX (as := [.ref 0, .int (gx G (Int32.toNatClampNeg (v4 + 1))), .ref 128]) (rest := []) dL_law_3348 os_mL_reach rfl lk_RL_310 (by decide) (by decide) rfl rfl (Nat.le_of_ble_eq_true rfl) (VM_L_reach G fu hG (gx G (Int32.toNatClampNeg (v4 + 1))) μ _ y510) ?_
  refine V_istore (lv2 := [some (.null), some (.ref 0), some (.ref 85), some (.ref 128), some (.int v4), some (.int x509.1), none, none]) dL_law_3351 (by decide) rfl ?_
  refine V_aload_n dL_law_3353 rfl ?_
  refine V_aloadS_n dL_law_3354 rfl ?_
  refine V_iload dL_law_3355 rfl ?_
  refine V_iconst (v := 1) dL_law_3357 rfl ?_
  refine V_iadd dL_law_3358 ?_
  obtain ⟨g511, h⟩ := gu_o h
  refine V_sload dL_law_3359 (ib_in g511) ?_
  obtain ⟨x512, y513, h⟩ := bi_o h
  refine V_callV (as := [.int (gx G (Int32.toNatClampNeg (v4 + 1)))]) (q := 85) (rest := []) dL_law_3360 ov_mX7_reach lk_RL_312 (by decide) (by decide) rfl rfl (Nat.le_of_ble_eq_true rfl) (tq_85 hG) rfl (VM_X7_reach G fu hG (gx G (Int32.toNatClampNeg (v4 + 1))) x509.2 _ y513) ?_
  refine V_lstore (lv2 := [some (.null), some (.ref 0), some (.ref 85), some (.ref 128), some (.int v4), some (.int x509.1), some (.long x512.1), none]) dL_law_3363 (by decide) rfl ?_
  refine V_aload_n dL_law_3365 rfl ?_
  obtain ⟨x514, y515, h⟩ := bi_o h
  refine V_callV (as := []) (q := 85) (rest := []) dL_law_3366 ov_mX7_thrown lk_RL_175 (by decide) (by decide) rfl rfl (Nat.le_of_ble_eq_true rfl) (tq_85 hG) rfl (VM_X7_thrown G x512.2 hG _ y515) ?_
  refine V_iload dL_law_3369 rfl ?_
  by_cases c3371 : x514 = x509.1
  · rw [if_pos c3371] at h
    refine V_icmpeq_t (tgt := 3376) dL_law_3371 (by decide) c3371 ?_
    refine V_iload dL_law_3376 rfl ?_
    by_cases c3378 : x509.1 = 0
    · rw [if_pos c3378] at h
      refine V_ifne_f (tgt := 3392) dL_law_3378 (by decide) c3378 ?_
      refine V_aload_n dL_law_3381 rfl ?_
      refine V_iconst (v := 0) dL_law_3382 rfl ?_
      obtain ⟨g516, h⟩ := gu_o h
      refine V_laload dL_law_3383 (tq_128 hG) (ib_in g516) ?_
      refine V_lload dL_law_3384 rfl ?_
      refine V_lcmp dL_law_3386 ?_
      by_cases c3387 : (x512.2.2.1 128 (Int32.toNatClampNeg 0)) = x512.1
      · rw [if_pos c3387] at h
        refine V_ifeq_t (tgt := 3392) dL_law_3387 (by decide) ((lc_eq (x512.2.2.1 128 (Int32.toNatClampNeg 0)) x512.1).mpr c3387) ?_
        exact V_wk [true, true, true, true, true, false, false, false] rfl (T_L_law_3392 G fu hG k23 hk23 _ _ _ h)
      · rw [if_neg c3387] at h
        refine V_ifeq_f (tgt := 3392) dL_law_3387 (by decide) (fun z => c3387 ((lc_eq (x512.2.2.1 128 (Int32.toNatClampNeg 0)) x512.1).mp z)) ?_
        refine V_iconst (v := 0) dL_law_3390 rfl ?_
        cases h
        exact V_zret rfl (by decide) dL_law_3391
    · rw [if_neg c3378] at h
      refine V_ifne_t (tgt := 3392) dL_law_3378 (by decide) c3378 ?_
      exact V_wk [true, true, true, true, true, false, false, false] rfl (T_L_law_3392 G fu hG k23 hk23 _ _ _ h)
  · rw [if_neg c3371] at h
    refine V_icmpeq_f (tgt := 3376) dL_law_3371 (by decide) c3371 ?_
    refine V_iconst (v := 0) dL_law_3374 rfl ?_
    cases h
    exact V_zret rfl (by decide) dL_law_3375
def D_L_law_3495 (G : GX) (fu : Nat)  (k23 : Int32 → Mem → Option (Bool × Mem)) (v4 : Int32) (μ : Mem) : Option (Bool × Mem) :=
  D_L_law_3740 G fu k23 v4 μ
set_option maxRecDepth 20000 in
theorem T_L_law_3495 (G : GX) (fu : Nat)  (hG : gt G = tbl) (k23 : Int32 → Mem → Option (Bool × Mem)) (hk23 : ∀ (v4 : Int32) (μ : Mem) (r : (Bool × Mem)), k23 v4 μ = some r → V G mL_law 23 [some (.null), some (.ref 0), some (.ref 85), some (.ref 128), some (.int v4), none, none, none] [] μ (.inl (some (.int (b2i r.1)))) (r.2)) : ∀ (v4 : Int32) (μ : Mem) (r : (Bool × Mem)) , D_L_law_3495 G fu k23 v4 μ = some r → V G mL_law 3495 [some (.null), some (.ref 0), some (.ref 85), some (.ref 128), some (.int v4), none, none, none] [] μ (.inl (some (.int (b2i r.1)))) (r.2) := by
  intro v4 μ r h
  unfold D_L_law_3495 at h
  refine V_goto (tgt := 3740) dL_law_3495 (by decide) ?_
  exact V_wk [true, true, true, true, true, false, false, false] rfl (T_L_law_3740 G fu hG k23 hk23 _ _ _ h)
def D_L_law_3395 (G : GX) (fu : Nat)  (k23 : Int32 → Mem → Option (Bool × Mem)) (v4 : Int32) (μ : Mem) : Option (Bool × Mem) :=
  gu (ib (v4 + 1) (gn G)) <|
  gu (ib (v4 + 2) (gn G)) <|
  gu (ib (v4 + 3) (gn G)) <|
  gu (ib (v4 + 4) (gn G)) <|
  gu (ib (v4 + 5) (gn G)) <|
  (D_L_uneven_0 fu (gx G (Int32.toNatClampNeg (v4 + 1))) (gx G (Int32.toNatClampNeg (v4 + 2))) (gx G (Int32.toNatClampNeg (v4 + 3))) (gx G (Int32.toNatClampNeg (v4 + 4))) (gx G (Int32.toNatClampNeg (v4 + 5))) μ).bind fun x522 =>
  gu (ib (v4 + 1) (gn G)) <|
  gu (ib (v4 + 2) (gn G)) <|
  gu (ib (v4 + 3) (gn G)) <|
  gu (ib (v4 + 4) (gn G)) <|
  gu (ib (v4 + 5) (gn G)) <|
  (D_X7_uneven_0 fu (gx G (Int32.toNatClampNeg (v4 + 1))) (gx G (Int32.toNatClampNeg (v4 + 2))) (gx G (Int32.toNatClampNeg (v4 + 3))) (gx G (Int32.toNatClampNeg (v4 + 4))) (gx G (Int32.toNatClampNeg (v4 + 5))) x522.2).bind fun x529 =>
  (D_X7_thrown_0 x529.2).bind fun x531 =>
  if x531 = x522.1 then
    if x522.1 = 0 then
      gu (ib 0 1) <|
      if (x529.2.2.1 128 (Int32.toNatClampNeg 0)) = x529.1 then
        D_L_law_3495 G fu k23 v4 x529.2
      else
        some (false, x529.2)
    else
      D_L_law_3495 G fu k23 v4 x529.2
  else
    some (false, x529.2)
set_option maxRecDepth 20000 in
theorem T_L_law_3395 (G : GX) (fu : Nat)  (hG : gt G = tbl) (k23 : Int32 → Mem → Option (Bool × Mem)) (hk23 : ∀ (v4 : Int32) (μ : Mem) (r : (Bool × Mem)), k23 v4 μ = some r → V G mL_law 23 [some (.null), some (.ref 0), some (.ref 85), some (.ref 128), some (.int v4), none, none, none] [] μ (.inl (some (.int (b2i r.1)))) (r.2)) : ∀ (v4 : Int32) (μ : Mem) (r : (Bool × Mem)) , D_L_law_3395 G fu k23 v4 μ = some r → V G mL_law 3395 [some (.null), some (.ref 0), some (.ref 85), some (.ref 128), some (.int v4), none, none, none] [] μ (.inl (some (.int (b2i r.1)))) (r.2) := by
  intro v4 μ r h
  unfold D_L_law_3395 at h
  refine V_aload_n dL_law_3395 rfl ?_
  refine V_aloadS_n dL_law_3396 rfl ?_
  refine V_iload dL_law_3397 rfl ?_
  refine V_iconst (v := 1) dL_law_3399 rfl ?_
  refine V_iadd dL_law_3400 ?_
  obtain ⟨g517, h⟩ := gu_o h
  refine V_sload dL_law_3401 (ib_in g517) ?_
  refine V_aloadS_n dL_law_3402 rfl ?_
  refine V_iload dL_law_3403 rfl ?_
  refine V_iconst (v := 2) dL_law_3405 rfl ?_
  refine V_iadd dL_law_3406 ?_
  obtain ⟨g518, h⟩ := gu_o h
  refine V_sload dL_law_3407 (ib_in g518) ?_
  refine V_aloadS_n dL_law_3408 rfl ?_
  refine V_iload dL_law_3409 rfl ?_
  refine V_iconst (v := 3) dL_law_3411 rfl ?_
  refine V_iadd dL_law_3412 ?_
  obtain ⟨g519, h⟩ := gu_o h
  refine V_sload dL_law_3413 (ib_in g519) ?_
  refine V_aloadS_n dL_law_3414 rfl ?_
  refine V_iload dL_law_3415 rfl ?_
  refine V_iconst (v := 4) dL_law_3417 rfl ?_
  refine V_iadd dL_law_3418 ?_
  obtain ⟨g520, h⟩ := gu_o h
  refine V_sload dL_law_3419 (ib_in g520) ?_
  refine V_aloadS_n dL_law_3420 rfl ?_
  refine V_iload dL_law_3421 rfl ?_
  refine V_iconst (v := 5) dL_law_3423 rfl ?_
  refine V_iadd dL_law_3424 ?_
  obtain ⟨g521, h⟩ := gu_o h
  refine V_sload dL_law_3425 (ib_in g521) ?_
  refine V_aload_n dL_law_3426 rfl ?_
  obtain ⟨x522, y523, h⟩ := bi_o h
  refine V_callSX (as := [.ref 0, .int (gx G (Int32.toNatClampNeg (v4 + 1))), .int (gx G (Int32.toNatClampNeg (v4 + 2))), .int (gx G (Int32.toNatClampNeg (v4 + 3))), .int (gx G (Int32.toNatClampNeg (v4 + 4))), .int (gx G (Int32.toNatClampNeg (v4 + 5))), .ref 128]) (rest := []) dL_law_3427 os_mL_uneven rfl lk_RL_313 (by decide) (by decide) rfl rfl (Nat.le_of_ble_eq_true rfl) (VM_L_uneven G fu hG (gx G (Int32.toNatClampNeg (v4 + 1))) (gx G (Int32.toNatClampNeg (v4 + 2))) (gx G (Int32.toNatClampNeg (v4 + 3))) (gx G (Int32.toNatClampNeg (v4 + 4))) (gx G (Int32.toNatClampNeg (v4 + 5))) μ _ y523) ?_
  refine V_istore (lv2 := [some (.null), some (.ref 0), some (.ref 85), some (.ref 128), some (.int v4), some (.int x522.1), none, none]) dL_law_3430 (by decide) rfl ?_
  refine V_aload_n dL_law_3432 rfl ?_
  refine V_aloadS_n dL_law_3433 rfl ?_
  refine V_iload dL_law_3434 rfl ?_
  refine V_iconst (v := 1) dL_law_3436 rfl ?_
  refine V_iadd dL_law_3437 ?_
  obtain ⟨g524, h⟩ := gu_o h
  refine V_sload dL_law_3438 (ib_in g524) ?_
  refine V_aloadS_n dL_law_3439 rfl ?_
  refine V_iload dL_law_3440 rfl ?_
  refine V_iconst (v := 2) dL_law_3442 rfl ?_
  refine V_iadd dL_law_3443 ?_
  obtain ⟨g525, h⟩ := gu_o h
  refine V_sload dL_law_3444 (ib_in g525) ?_
  refine V_aloadS_n dL_law_3445 rfl ?_
  refine V_iload dL_law_3446 rfl ?_
  refine V_iconst (v := 3) dL_law_3448 rfl ?_
  refine V_iadd dL_law_3449 ?_
  obtain ⟨g526, h⟩ := gu_o h
  refine V_sload dL_law_3450 (ib_in g526) ?_
  refine V_aloadS_n dL_law_3451 rfl ?_
  refine V_iload dL_law_3452 rfl ?_
  refine V_iconst (v := 4) dL_law_3454 rfl ?_
  refine V_iadd dL_law_3455 ?_
  obtain ⟨g527, h⟩ := gu_o h
  refine V_sload dL_law_3456 (ib_in g527) ?_
  refine V_aloadS_n dL_law_3457 rfl ?_
  refine V_iload dL_law_3458 rfl ?_
  refine V_iconst (v := 5) dL_law_3460 rfl ?_
  refine V_iadd dL_law_3461 ?_
  obtain ⟨g528, h⟩ := gu_o h
  refine V_sload dL_law_3462 (ib_in g528) ?_
  obtain ⟨x529, y530, h⟩ := bi_o h
  refine V_callV (as := [.int (gx G (Int32.toNatClampNeg (v4 + 1))), .int (gx G (Int32.toNatClampNeg (v4 + 2))), .int (gx G (Int32.toNatClampNeg (v4 + 3))), .int (gx G (Int32.toNatClampNeg (v4 + 4))), .int (gx G (Int32.toNatClampNeg (v4 + 5)))]) (q := 85) (rest := []) dL_law_3463 ov_mX7_uneven lk_RL_315 (by decide) (by decide) rfl rfl (Nat.le_of_ble_eq_true rfl) (tq_85 hG) rfl (VM_X7_uneven G fu hG (gx G (Int32.toNatClampNeg (v4 + 1))) (gx G (Int32.toNatClampNeg (v4 + 2))) (gx G (Int32.toNatClampNeg (v4 + 3))) (gx G (Int32.toNatClampNeg (v4 + 4))) (gx G (Int32.toNatClampNeg (v4 + 5))) x522.2 _ y530) ?_
  refine V_lstore (lv2 := [some (.null), some (.ref 0), some (.ref 85), some (.ref 128), some (.int v4), some (.int x522.1), some (.long x529.1), none]) dL_law_3466 (by decide) rfl ?_
  refine V_aload_n dL_law_3468 rfl ?_
  obtain ⟨x531, y532, h⟩ := bi_o h
  refine V_callV (as := []) (q := 85) (rest := []) dL_law_3469 ov_mX7_thrown lk_RL_175 (by decide) (by decide) rfl rfl (Nat.le_of_ble_eq_true rfl) (tq_85 hG) rfl (VM_X7_thrown G x529.2 hG _ y532) ?_
  refine V_iload dL_law_3472 rfl ?_
  by_cases c3474 : x531 = x522.1
  · rw [if_pos c3474] at h
    refine V_icmpeq_t (tgt := 3479) dL_law_3474 (by decide) c3474 ?_
    refine V_iload dL_law_3479 rfl ?_
    by_cases c3481 : x522.1 = 0
    · rw [if_pos c3481] at h
      refine V_ifne_f (tgt := 3495) dL_law_3481 (by decide) c3481 ?_
      refine V_aload_n dL_law_3484 rfl ?_
      refine V_iconst (v := 0) dL_law_3485 rfl ?_
      obtain ⟨g533, h⟩ := gu_o h
      refine V_laload dL_law_3486 (tq_128 hG) (ib_in g533) ?_
      refine V_lload dL_law_3487 rfl ?_
      refine V_lcmp dL_law_3489 ?_
      by_cases c3490 : (x529.2.2.1 128 (Int32.toNatClampNeg 0)) = x529.1
      · rw [if_pos c3490] at h
        refine V_ifeq_t (tgt := 3495) dL_law_3490 (by decide) ((lc_eq (x529.2.2.1 128 (Int32.toNatClampNeg 0)) x529.1).mpr c3490) ?_
        exact V_wk [true, true, true, true, true, false, false, false] rfl (T_L_law_3495 G fu hG k23 hk23 _ _ _ h)
      · rw [if_neg c3490] at h
        refine V_ifeq_f (tgt := 3495) dL_law_3490 (by decide) (fun z => c3490 ((lc_eq (x529.2.2.1 128 (Int32.toNatClampNeg 0)) x529.1).mp z)) ?_
        refine V_iconst (v := 0) dL_law_3493 rfl ?_
        cases h
        exact V_zret rfl (by decide) dL_law_3494
    · rw [if_neg c3481] at h
      refine V_ifne_t (tgt := 3495) dL_law_3481 (by decide) c3481 ?_
      exact V_wk [true, true, true, true, true, false, false, false] rfl (T_L_law_3495 G fu hG k23 hk23 _ _ _ h)
  · rw [if_neg c3474] at h
    refine V_icmpeq_f (tgt := 3479) dL_law_3474 (by decide) c3474 ?_
    refine V_iconst (v := 0) dL_law_3477 rfl ?_
    cases h
    exact V_zret rfl (by decide) dL_law_3478
def D_L_law_3563 (G : GX) (fu : Nat)  (k23 : Int32 → Mem → Option (Bool × Mem)) (v4 : Int32) (μ : Mem) : Option (Bool × Mem) :=
  D_L_law_3740 G fu k23 v4 μ
set_option maxRecDepth 20000 in
theorem T_L_law_3563 (G : GX) (fu : Nat)  (hG : gt G = tbl) (k23 : Int32 → Mem → Option (Bool × Mem)) (hk23 : ∀ (v4 : Int32) (μ : Mem) (r : (Bool × Mem)), k23 v4 μ = some r → V G mL_law 23 [some (.null), some (.ref 0), some (.ref 85), some (.ref 128), some (.int v4), none, none, none] [] μ (.inl (some (.int (b2i r.1)))) (r.2)) : ∀ (v4 : Int32) (μ : Mem) (r : (Bool × Mem)) , D_L_law_3563 G fu k23 v4 μ = some r → V G mL_law 3563 [some (.null), some (.ref 0), some (.ref 85), some (.ref 128), some (.int v4), none, none, none] [] μ (.inl (some (.int (b2i r.1)))) (r.2) := by
  intro v4 μ r h
  unfold D_L_law_3563 at h
  refine V_goto (tgt := 3740) dL_law_3563 (by decide) ?_
  exact V_wk [true, true, true, true, true, false, false, false] rfl (T_L_law_3740 G fu hG k23 hk23 _ _ _ h)
def D_L_law_3498 (G : GX) (fu : Nat)  (k23 : Int32 → Mem → Option (Bool × Mem)) (v4 : Int32) (μ : Mem) : Option (Bool × Mem) :=
  gu (ib (v4 + 1) (gn G)) <|
  gu (ib (v4 + 2) (gn G)) <|
  (D_L_widest_0 fu (gx G (Int32.toNatClampNeg (v4 + 1))) (gx G (Int32.toNatClampNeg (v4 + 2))) μ).bind fun x536 =>
  gu (ib (v4 + 1) (gn G)) <|
  gu (ib (v4 + 2) (gn G)) <|
  (D_X7_widest_0 fu (gx G (Int32.toNatClampNeg (v4 + 1))) (gx G (Int32.toNatClampNeg (v4 + 2))) x536.2).bind fun x540 =>
  (D_X7_thrown_0 x540.2).bind fun x542 =>
  if x542 = x536.1 then
    if x536.1 = 0 then
      gu (ib 0 1) <|
      if (x540.2.2.1 128 (Int32.toNatClampNeg 0)) = ((x540.1 : Int32).toInt64) then
        D_L_law_3563 G fu k23 v4 x540.2
      else
        some (false, x540.2)
    else
      D_L_law_3563 G fu k23 v4 x540.2
  else
    some (false, x540.2)
set_option maxRecDepth 20000 in
theorem T_L_law_3498 (G : GX) (fu : Nat)  (hG : gt G = tbl) (k23 : Int32 → Mem → Option (Bool × Mem)) (hk23 : ∀ (v4 : Int32) (μ : Mem) (r : (Bool × Mem)), k23 v4 μ = some r → V G mL_law 23 [some (.null), some (.ref 0), some (.ref 85), some (.ref 128), some (.int v4), none, none, none] [] μ (.inl (some (.int (b2i r.1)))) (r.2)) : ∀ (v4 : Int32) (μ : Mem) (r : (Bool × Mem)) , D_L_law_3498 G fu k23 v4 μ = some r → V G mL_law 3498 [some (.null), some (.ref 0), some (.ref 85), some (.ref 128), some (.int v4), none, none, none] [] μ (.inl (some (.int (b2i r.1)))) (r.2) := by
  intro v4 μ r h
  unfold D_L_law_3498 at h
  refine V_aload_n dL_law_3498 rfl ?_
  refine V_aloadS_n dL_law_3499 rfl ?_
  refine V_iload dL_law_3500 rfl ?_
  refine V_iconst (v := 1) dL_law_3502 rfl ?_
  refine V_iadd dL_law_3503 ?_
  obtain ⟨g534, h⟩ := gu_o h
  refine V_sload dL_law_3504 (ib_in g534) ?_
  refine V_aloadS_n dL_law_3505 rfl ?_
  refine V_iload dL_law_3506 rfl ?_
  refine V_iconst (v := 2) dL_law_3508 rfl ?_
  refine V_iadd dL_law_3509 ?_
  obtain ⟨g535, h⟩ := gu_o h
  refine V_sload dL_law_3510 (ib_in g535) ?_
  refine V_aload_n dL_law_3511 rfl ?_
  obtain ⟨x536, y537, h⟩ := bi_o h
  refine V_callSX (as := [.ref 0, .int (gx G (Int32.toNatClampNeg (v4 + 1))), .int (gx G (Int32.toNatClampNeg (v4 + 2))), .ref 128]) (rest := []) dL_law_3512 os_mL_widest rfl lk_RL_316 (by decide) (by decide) rfl rfl (Nat.le_of_ble_eq_true rfl) (VM_L_widest G fu hG (gx G (Int32.toNatClampNeg (v4 + 1))) (gx G (Int32.toNatClampNeg (v4 + 2))) μ _ y537) ?_
  refine V_istore (lv2 := [some (.null), some (.ref 0), some (.ref 85), some (.ref 128), some (.int v4), some (.int x536.1), none, none]) dL_law_3515 (by decide) rfl ?_
  refine V_aload_n dL_law_3517 rfl ?_
  refine V_aloadS_n dL_law_3518 rfl ?_
  refine V_iload dL_law_3519 rfl ?_
  refine V_iconst (v := 1) dL_law_3521 rfl ?_
  refine V_iadd dL_law_3522 ?_
  obtain ⟨g538, h⟩ := gu_o h
  refine V_sload dL_law_3523 (ib_in g538) ?_
  refine V_aloadS_n dL_law_3524 rfl ?_
  refine V_iload dL_law_3525 rfl ?_
  refine V_iconst (v := 2) dL_law_3527 rfl ?_
  refine V_iadd dL_law_3528 ?_
  obtain ⟨g539, h⟩ := gu_o h
  refine V_sload dL_law_3529 (ib_in g539) ?_
  obtain ⟨x540, y541, h⟩ := bi_o h
  refine V_callV (as := [.int (gx G (Int32.toNatClampNeg (v4 + 1))), .int (gx G (Int32.toNatClampNeg (v4 + 2)))]) (q := 85) (rest := []) dL_law_3530 ov_mX7_widest lk_RL_318 (by decide) (by decide) rfl rfl (Nat.le_of_ble_eq_true rfl) (tq_85 hG) rfl (VM_X7_widest G fu hG (gx G (Int32.toNatClampNeg (v4 + 1))) (gx G (Int32.toNatClampNeg (v4 + 2))) x536.2 _ y541) ?_
  refine V_istore (lv2 := [some (.null), some (.ref 0), some (.ref 85), some (.ref 128), some (.int v4), some (.int x536.1), some (.int x540.1), none]) dL_law_3533 (by decide) rfl ?_
  refine V_aload_n dL_law_3535 rfl ?_
  obtain ⟨x542, y543, h⟩ := bi_o h
  refine V_callV (as := []) (q := 85) (rest := []) dL_law_3536 ov_mX7_thrown lk_RL_175 (by decide) (by decide) rfl rfl (Nat.le_of_ble_eq_true rfl) (tq_85 hG) rfl (VM_X7_thrown G x540.2 hG _ y543) ?_
  refine V_iload dL_law_3539 rfl ?_
  by_cases c3541 : x542 = x536.1
  · rw [if_pos c3541] at h
    refine V_icmpeq_t (tgt := 3546) dL_law_3541 (by decide) c3541 ?_
    refine V_iload dL_law_3546 rfl ?_
    by_cases c3548 : x536.1 = 0
    · rw [if_pos c3548] at h
      refine V_ifne_f (tgt := 3563) dL_law_3548 (by decide) c3548 ?_
      refine V_aload_n dL_law_3551 rfl ?_
      refine V_iconst (v := 0) dL_law_3552 rfl ?_
      obtain ⟨g544, h⟩ := gu_o h
      refine V_laload dL_law_3553 (tq_128 hG) (ib_in g544) ?_
      refine V_iload dL_law_3554 rfl ?_
      refine V_i2l dL_law_3556 ?_
      refine V_lcmp dL_law_3557 ?_
      by_cases c3558 : (x540.2.2.1 128 (Int32.toNatClampNeg 0)) = ((x540.1 : Int32).toInt64)
      · rw [if_pos c3558] at h
        refine V_ifeq_t (tgt := 3563) dL_law_3558 (by decide) ((lc_eq (x540.2.2.1 128 (Int32.toNatClampNeg 0)) ((x540.1 : Int32).toInt64)).mpr c3558) ?_
        exact V_wk [true, true, true, true, true, false, false, false] rfl (T_L_law_3563 G fu hG k23 hk23 _ _ _ h)
      · rw [if_neg c3558] at h
        refine V_ifeq_f (tgt := 3563) dL_law_3558 (by decide) (fun z => c3558 ((lc_eq (x540.2.2.1 128 (Int32.toNatClampNeg 0)) ((x540.1 : Int32).toInt64)).mp z)) ?_
        refine V_iconst (v := 0) dL_law_3561 rfl ?_
        cases h
        exact V_zret rfl (by decide) dL_law_3562
    · rw [if_neg c3548] at h
      refine V_ifne_t (tgt := 3563) dL_law_3548 (by decide) c3548 ?_
      exact V_wk [true, true, true, true, true, false, false, false] rfl (T_L_law_3563 G fu hG k23 hk23 _ _ _ h)
  · rw [if_neg c3541] at h
    refine V_icmpeq_f (tgt := 3546) dL_law_3541 (by decide) c3541 ?_
    refine V_iconst (v := 0) dL_law_3544 rfl ?_
    cases h
    exact V_zret rfl (by decide) dL_law_3545
def D_L_law_3618 (G : GX) (fu : Nat)  (k23 : Int32 → Mem → Option (Bool × Mem)) (v4 : Int32) (μ : Mem) : Option (Bool × Mem) :=
  D_L_law_3740 G fu k23 v4 μ
set_option maxRecDepth 20000 in
theorem T_L_law_3618 (G : GX) (fu : Nat)  (hG : gt G = tbl) (k23 : Int32 → Mem → Option (Bool × Mem)) (hk23 : ∀ (v4 : Int32) (μ : Mem) (r : (Bool × Mem)), k23 v4 μ = some r → V G mL_law 23 [some (.null), some (.ref 0), some (.ref 85), some (.ref 128), some (.int v4), none, none, none] [] μ (.inl (some (.int (b2i r.1)))) (r.2)) : ∀ (v4 : Int32) (μ : Mem) (r : (Bool × Mem)) , D_L_law_3618 G fu k23 v4 μ = some r → V G mL_law 3618 [some (.null), some (.ref 0), some (.ref 85), some (.ref 128), some (.int v4), none, none, none] [] μ (.inl (some (.int (b2i r.1)))) (r.2) := by
  intro v4 μ r h
  unfold D_L_law_3618 at h
  refine V_goto (tgt := 3740) dL_law_3618 (by decide) ?_
  exact V_wk [true, true, true, true, true, false, false, false] rfl (T_L_law_3740 G fu hG k23 hk23 _ _ _ h)
def D_L_law_3566 (G : GX) (fu : Nat)  (k23 : Int32 → Mem → Option (Bool × Mem)) (v4 : Int32) (μ : Mem) : Option (Bool × Mem) :=
  gu (ib (v4 + 1) (gn G)) <|
  (D_L_strongest_0 fu (gx G (Int32.toNatClampNeg (v4 + 1))) μ).bind fun x546 =>
  gu (ib (v4 + 1) (gn G)) <|
  (D_X7_strongest_0 fu (gx G (Int32.toNatClampNeg (v4 + 1))) x546.2).bind fun x549 =>
  (D_X7_thrown_0 x549.2).bind fun x551 =>
  if x551 = x546.1 then
    if x546.1 = 0 then
      gu (ib 0 1) <|
      if (x549.2.2.1 128 (Int32.toNatClampNeg 0)) = x549.1 then
        D_L_law_3618 G fu k23 v4 x549.2
      else
        some (false, x549.2)
    else
      D_L_law_3618 G fu k23 v4 x549.2
  else
    some (false, x549.2)
set_option maxRecDepth 20000 in
theorem T_L_law_3566 (G : GX) (fu : Nat)  (hG : gt G = tbl) (k23 : Int32 → Mem → Option (Bool × Mem)) (hk23 : ∀ (v4 : Int32) (μ : Mem) (r : (Bool × Mem)), k23 v4 μ = some r → V G mL_law 23 [some (.null), some (.ref 0), some (.ref 85), some (.ref 128), some (.int v4), none, none, none] [] μ (.inl (some (.int (b2i r.1)))) (r.2)) : ∀ (v4 : Int32) (μ : Mem) (r : (Bool × Mem)) , D_L_law_3566 G fu k23 v4 μ = some r → V G mL_law 3566 [some (.null), some (.ref 0), some (.ref 85), some (.ref 128), some (.int v4), none, none, none] [] μ (.inl (some (.int (b2i r.1)))) (r.2) := by
  intro v4 μ r h
  unfold D_L_law_3566 at h
  refine V_aload_n dL_law_3566 rfl ?_
  refine V_aloadS_n dL_law_3567 rfl ?_
  refine V_iload dL_law_3568 rfl ?_
  refine V_iconst (v := 1) dL_law_3570 rfl ?_
  refine V_iadd dL_law_3571 ?_
  obtain ⟨g545, h⟩ := gu_o h
  refine V_sload dL_law_3572 (ib_in g545) ?_
  refine V_aload_n dL_law_3573 rfl ?_
  obtain ⟨x546, y547, h⟩ := bi_o h
  refine V_callSX (as := [.ref 0, .int (gx G (Int32.toNatClampNeg (v4 + 1))), .ref 128]) (rest := []) dL_law_3574 os_mL_strongest rfl lk_RL_319 (by decide) (by decide) rfl rfl (Nat.le_of_ble_eq_true rfl) (VM_L_strongest G fu hG (gx G (Int32.toNatClampNeg (v4 + 1))) μ _ y547) ?_
  refine V_istore (lv2 := [some (.null), some (.ref 0), some (.ref 85), some (.ref 128), some (.int v4), some (.int x546.1), none, none]) dL_law_3577 (by decide) rfl ?_
  refine V_aload_n dL_law_3579 rfl ?_
  refine V_aloadS_n dL_law_3580 rfl ?_
  refine V_iload dL_law_3581 rfl ?_
  refine V_iconst (v := 1) dL_law_3583 rfl ?_
  refine V_iadd dL_law_3584 ?_
  obtain ⟨g548, h⟩ := gu_o h
  refine V_sload dL_law_3585 (ib_in g548) ?_
  obtain ⟨x549, y550, h⟩ := bi_o h
  refine V_callV (as := [.int (gx G (Int32.toNatClampNeg (v4 + 1)))]) (q := 85) (rest := []) dL_law_3586 ov_mX7_strongest lk_RL_321 (by decide) (by decide) rfl rfl (Nat.le_of_ble_eq_true rfl) (tq_85 hG) rfl (VM_X7_strongest G fu hG (gx G (Int32.toNatClampNeg (v4 + 1))) x546.2 _ y550) ?_
  refine V_lstore (lv2 := [some (.null), some (.ref 0), some (.ref 85), some (.ref 128), some (.int v4), some (.int x546.1), some (.long x549.1), none]) dL_law_3589 (by decide) rfl ?_
  refine V_aload_n dL_law_3591 rfl ?_
  obtain ⟨x551, y552, h⟩ := bi_o h
  refine V_callV (as := []) (q := 85) (rest := []) dL_law_3592 ov_mX7_thrown lk_RL_175 (by decide) (by decide) rfl rfl (Nat.le_of_ble_eq_true rfl) (tq_85 hG) rfl (VM_X7_thrown G x549.2 hG _ y552) ?_
  refine V_iload dL_law_3595 rfl ?_
  by_cases c3597 : x551 = x546.1
  · rw [if_pos c3597] at h
    refine V_icmpeq_t (tgt := 3602) dL_law_3597 (by decide) c3597 ?_
    refine V_iload dL_law_3602 rfl ?_
    by_cases c3604 : x546.1 = 0
    · rw [if_pos c3604] at h
      refine V_ifne_f (tgt := 3618) dL_law_3604 (by decide) c3604 ?_
      refine V_aload_n dL_law_3607 rfl ?_
      refine V_iconst (v := 0) dL_law_3608 rfl ?_
      obtain ⟨g553, h⟩ := gu_o h
      refine V_laload dL_law_3609 (tq_128 hG) (ib_in g553) ?_
      refine V_lload dL_law_3610 rfl ?_
      refine V_lcmp dL_law_3612 ?_
      by_cases c3613 : (x549.2.2.1 128 (Int32.toNatClampNeg 0)) = x549.1
      · rw [if_pos c3613] at h
        refine V_ifeq_t (tgt := 3618) dL_law_3613 (by decide) ((lc_eq (x549.2.2.1 128 (Int32.toNatClampNeg 0)) x549.1).mpr c3613) ?_
        exact V_wk [true, true, true, true, true, false, false, false] rfl (T_L_law_3618 G fu hG k23 hk23 _ _ _ h)
      · rw [if_neg c3613] at h
        refine V_ifeq_f (tgt := 3618) dL_law_3613 (by decide) (fun z => c3613 ((lc_eq (x549.2.2.1 128 (Int32.toNatClampNeg 0)) x549.1).mp z)) ?_
        refine V_iconst (v := 0) dL_law_3616 rfl ?_
        cases h
        exact V_zret rfl (by decide) dL_law_3617
    · rw [if_neg c3604] at h
      refine V_ifne_t (tgt := 3618) dL_law_3604 (by decide) c3604 ?_
      exact V_wk [true, true, true, true, true, false, false, false] rfl (T_L_law_3618 G fu hG k23 hk23 _ _ _ h)
  · rw [if_neg c3597] at h
    refine V_icmpeq_f (tgt := 3602) dL_law_3597 (by decide) c3597 ?_
    refine V_iconst (v := 0) dL_law_3600 rfl ?_
    cases h
    exact V_zret rfl (by decide) dL_law_3601
def D_L_law_3698 (G : GX) (fu : Nat)  (k23 : Int32 → Mem → Option (Bool × Mem)) (v4 : Int32) (μ : Mem) : Option (Bool × Mem) :=
  D_L_law_3740 G fu k23 v4 μ
set_option maxRecDepth 20000 in
theorem T_L_law_3698 (G : GX) (fu : Nat)  (hG : gt G = tbl) (k23 : Int32 → Mem → Option (Bool × Mem)) (hk23 : ∀ (v4 : Int32) (μ : Mem) (r : (Bool × Mem)), k23 v4 μ = some r → V G mL_law 23 [some (.null), some (.ref 0), some (.ref 85), some (.ref 128), some (.int v4), none, none, none] [] μ (.inl (some (.int (b2i r.1)))) (r.2)) : ∀ (v4 : Int32) (μ : Mem) (r : (Bool × Mem)) , D_L_law_3698 G fu k23 v4 μ = some r → V G mL_law 3698 [some (.null), some (.ref 0), some (.ref 85), some (.ref 128), some (.int v4), none, none, none] [] μ (.inl (some (.int (b2i r.1)))) (r.2) := by
  intro v4 μ r h
  unfold D_L_law_3698 at h
  refine V_goto (tgt := 3740) dL_law_3698 (by decide) ?_
  exact V_wk [true, true, true, true, true, false, false, false] rfl (T_L_law_3740 G fu hG k23 hk23 _ _ _ h)
def D_L_law_3621 (G : GX) (fu : Nat)  (k23 : Int32 → Mem → Option (Bool × Mem)) (v4 : Int32) (μ : Mem) : Option (Bool × Mem) :=
  gu (ib (v4 + 1) (gn G)) <|
  gu (ib (v4 + 2) (gn G)) <|
  gu (ib (v4 + 3) (gn G)) <|
  (D_L_holds_0 fu (gx G (Int32.toNatClampNeg (v4 + 1))) (gx G (Int32.toNatClampNeg (v4 + 2))) (gx G (Int32.toNatClampNeg (v4 + 3))) μ).bind fun x557 =>
  gu (ib (v4 + 1) (gn G)) <|
  gu (ib (v4 + 2) (gn G)) <|
  gu (ib (v4 + 3) (gn G)) <|
  (D_X7_holds_0 fu (gx G (Int32.toNatClampNeg (v4 + 1))) (gx G (Int32.toNatClampNeg (v4 + 2))) (gx G (Int32.toNatClampNeg (v4 + 3))) x557.2).bind fun x562 =>
  (D_X7_thrown_0 x562.2).bind fun x564 =>
  if x564 = x557.1 then
    if x557.1 = 0 then
      gu (ib 0 1) <|
      if (x562.2.2.1 128 (Int32.toNatClampNeg 0)) = ((x562.1 : Int32).toInt64) then
        D_L_law_3698 G fu k23 v4 x562.2
      else
        some (false, x562.2)
    else
      D_L_law_3698 G fu k23 v4 x562.2
  else
    some (false, x562.2)
set_option maxRecDepth 20000 in
theorem T_L_law_3621 (G : GX) (fu : Nat)  (hG : gt G = tbl) (k23 : Int32 → Mem → Option (Bool × Mem)) (hk23 : ∀ (v4 : Int32) (μ : Mem) (r : (Bool × Mem)), k23 v4 μ = some r → V G mL_law 23 [some (.null), some (.ref 0), some (.ref 85), some (.ref 128), some (.int v4), none, none, none] [] μ (.inl (some (.int (b2i r.1)))) (r.2)) : ∀ (v4 : Int32) (μ : Mem) (r : (Bool × Mem)) , D_L_law_3621 G fu k23 v4 μ = some r → V G mL_law 3621 [some (.null), some (.ref 0), some (.ref 85), some (.ref 128), some (.int v4), none, none, none] [] μ (.inl (some (.int (b2i r.1)))) (r.2) := by
  intro v4 μ r h
  unfold D_L_law_3621 at h
  refine V_aload_n dL_law_3621 rfl ?_
  refine V_aloadS_n dL_law_3622 rfl ?_
  refine V_iload dL_law_3623 rfl ?_
  refine V_iconst (v := 1) dL_law_3625 rfl ?_
  refine V_iadd dL_law_3626 ?_
  obtain ⟨g554, h⟩ := gu_o h
  refine V_sload dL_law_3627 (ib_in g554) ?_
  refine V_aloadS_n dL_law_3628 rfl ?_
  refine V_iload dL_law_3629 rfl ?_
  refine V_iconst (v := 2) dL_law_3631 rfl ?_
  refine V_iadd dL_law_3632 ?_
  obtain ⟨g555, h⟩ := gu_o h
  refine V_sload dL_law_3633 (ib_in g555) ?_
  refine V_aloadS_n dL_law_3634 rfl ?_
  refine V_iload dL_law_3635 rfl ?_
  refine V_iconst (v := 3) dL_law_3637 rfl ?_
  refine V_iadd dL_law_3638 ?_
  obtain ⟨g556, h⟩ := gu_o h
  refine V_sload dL_law_3639 (ib_in g556) ?_
  refine V_aload_n dL_law_3640 rfl ?_
  obtain ⟨x557, y558, h⟩ := bi_o h
  refine V_callSX (as := [.ref 0, .int (gx G (Int32.toNatClampNeg (v4 + 1))), .int (gx G (Int32.toNatClampNeg (v4 + 2))), .int (gx G (Int32.toNatClampNeg (v4 + 3))), .ref 128]) (rest := []) dL_law_3641 os_mL_holds rfl lk_RL_322 (by decide) (by decide) rfl rfl (Nat.le_of_ble_eq_true rfl) (VM_L_holds G fu hG (gx G (Int32.toNatClampNeg (v4 + 1))) (gx G (Int32.toNatClampNeg (v4 + 2))) (gx G (Int32.toNatClampNeg (v4 + 3))) μ _ y558) ?_
  refine V_istore (lv2 := [some (.null), some (.ref 0), some (.ref 85), some (.ref 128), some (.int v4), some (.int x557.1), none, none]) dL_law_3644 (by decide) rfl ?_
  refine V_aload_n dL_law_3646 rfl ?_
  refine V_aloadS_n dL_law_3647 rfl ?_
  refine V_iload dL_law_3648 rfl ?_
  refine V_iconst (v := 1) dL_law_3650 rfl ?_
  refine V_iadd dL_law_3651 ?_
  obtain ⟨g559, h⟩ := gu_o h
  refine V_sload dL_law_3652 (ib_in g559) ?_
  refine V_aloadS_n dL_law_3653 rfl ?_
  refine V_iload dL_law_3654 rfl ?_
  refine V_iconst (v := 2) dL_law_3656 rfl ?_
  refine V_iadd dL_law_3657 ?_
  obtain ⟨g560, h⟩ := gu_o h
  refine V_sload dL_law_3658 (ib_in g560) ?_
  refine V_aloadS_n dL_law_3659 rfl ?_
  refine V_iload dL_law_3660 rfl ?_
  refine V_iconst (v := 3) dL_law_3662 rfl ?_
  refine V_iadd dL_law_3663 ?_
  obtain ⟨g561, h⟩ := gu_o h
  refine V_sload dL_law_3664 (ib_in g561) ?_
  obtain ⟨x562, y563, h⟩ := bi_o h
  refine V_callV (as := [.int (gx G (Int32.toNatClampNeg (v4 + 1))), .int (gx G (Int32.toNatClampNeg (v4 + 2))), .int (gx G (Int32.toNatClampNeg (v4 + 3)))]) (q := 85) (rest := []) dL_law_3665 ov_mX7_holds lk_RL_324 (by decide) (by decide) rfl rfl (Nat.le_of_ble_eq_true rfl) (tq_85 hG) rfl (VM_X7_holds G fu hG (gx G (Int32.toNatClampNeg (v4 + 1))) (gx G (Int32.toNatClampNeg (v4 + 2))) (gx G (Int32.toNatClampNeg (v4 + 3))) x557.2 _ y563) ?_
  refine V_istore (lv2 := [some (.null), some (.ref 0), some (.ref 85), some (.ref 128), some (.int v4), some (.int x557.1), some (.int x562.1), none]) dL_law_3668 (by decide) rfl ?_
  refine V_aload_n dL_law_3670 rfl ?_
  obtain ⟨x564, y565, h⟩ := bi_o h
  refine V_callV (as := []) (q := 85) (rest := []) dL_law_3671 ov_mX7_thrown lk_RL_175 (by decide) (by decide) rfl rfl (Nat.le_of_ble_eq_true rfl) (tq_85 hG) rfl (VM_X7_thrown G x562.2 hG _ y565) ?_
  refine V_iload dL_law_3674 rfl ?_
  by_cases c3676 : x564 = x557.1
  · rw [if_pos c3676] at h
    refine V_icmpeq_t (tgt := 3681) dL_law_3676 (by decide) c3676 ?_
    refine V_iload dL_law_3681 rfl ?_
    by_cases c3683 : x557.1 = 0
    · rw [if_pos c3683] at h
      refine V_ifne_f (tgt := 3698) dL_law_3683 (by decide) c3683 ?_
      refine V_aload_n dL_law_3686 rfl ?_
      refine V_iconst (v := 0) dL_law_3687 rfl ?_
      obtain ⟨g566, h⟩ := gu_o h
      refine V_laload dL_law_3688 (tq_128 hG) (ib_in g566) ?_
      refine V_iload dL_law_3689 rfl ?_
      refine V_i2l dL_law_3691 ?_
      refine V_lcmp dL_law_3692 ?_
      by_cases c3693 : (x562.2.2.1 128 (Int32.toNatClampNeg 0)) = ((x562.1 : Int32).toInt64)
      · rw [if_pos c3693] at h
        refine V_ifeq_t (tgt := 3698) dL_law_3693 (by decide) ((lc_eq (x562.2.2.1 128 (Int32.toNatClampNeg 0)) ((x562.1 : Int32).toInt64)).mpr c3693) ?_
        exact V_wk [true, true, true, true, true, false, false, false] rfl (T_L_law_3698 G fu hG k23 hk23 _ _ _ h)
      · rw [if_neg c3693] at h
        refine V_ifeq_f (tgt := 3698) dL_law_3693 (by decide) (fun z => c3693 ((lc_eq (x562.2.2.1 128 (Int32.toNatClampNeg 0)) ((x562.1 : Int32).toInt64)).mp z)) ?_
        refine V_iconst (v := 0) dL_law_3696 rfl ?_
        cases h
        exact V_zret rfl (by decide) dL_law_3697
    · rw [if_neg c3683] at h
      refine V_ifne_t (tgt := 3698) dL_law_3683 (by decide) c3683 ?_
      exact V_wk [true, true, true, true, true, false, false, false] rfl (T_L_law_3698 G fu hG k23 hk23 _ _ _ h)
  · rw [if_neg c3676] at h
    refine V_icmpeq_f (tgt := 3681) dL_law_3676 (by decide) c3676 ?_
    refine V_iconst (v := 0) dL_law_3679 rfl ?_
    cases h
    exact V_zret rfl (by decide) dL_law_3680
def D_L_law_3701 (G : GX) (fu : Nat)  (k23 : Int32 → Mem → Option (Bool × Mem)) (v4 : Int32) (μ : Mem) : Option (Bool × Mem) :=
  (D_X6_spent_0 fu μ).bind fun x567 =>
  (D_X7_spent_0 fu μ).bind fun x569 =>
  if x567 = x569.1 then
    D_L_law_3740 G fu k23 v4 x569.2
  else
    some (false, x569.2)
set_option maxRecDepth 20000 in
theorem T_L_law_3701 (G : GX) (fu : Nat)  (hG : gt G = tbl) (k23 : Int32 → Mem → Option (Bool × Mem)) (hk23 : ∀ (v4 : Int32) (μ : Mem) (r : (Bool × Mem)), k23 v4 μ = some r → V G mL_law 23 [some (.null), some (.ref 0), some (.ref 85), some (.ref 128), some (.int v4), none, none, none] [] μ (.inl (some (.int (b2i r.1)))) (r.2)) : ∀ (v4 : Int32) (μ : Mem) (r : (Bool × Mem)) , D_L_law_3701 G fu k23 v4 μ = some r → V G mL_law 3701 [some (.null), some (.ref 0), some (.ref 85), some (.ref 128), some (.int v4), none, none, none] [] μ (.inl (some (.int (b2i r.1)))) (r.2) := by
  intro v4 μ r h
  unfold D_L_law_3701 at h
  refine V_aload_n dL_law_3701 rfl ?_
  obtain ⟨x567, y568, h⟩ := bi_o h
  refine V_callV (as := []) (q := 0) (rest := []) dL_law_3702 ov_mX6_spent lk_RL_325 (by decide) (by decide) rfl rfl (Nat.le_of_ble_eq_true rfl) (tq_0 hG) rfl (VM_X6_spent G fu μ hG _ y568) ?_
  refine V_aload_n dL_law_3705 rfl ?_
  obtain ⟨x569, y570, h⟩ := bi_o h
  refine V_callV (as := []) (q := 85) (rest := [.long x567]) dL_law_3706 ov_mX7_spent lk_RL_329 (by decide) (by decide) rfl rfl (Nat.le_of_ble_eq_true rfl) (tq_85 hG) rfl (VM_X7_spent G fu hG μ _ y570) ?_
  refine V_lcmp dL_law_3709 ?_
  by_cases c3710 : x567 = x569.1
  · rw [if_pos c3710] at h
    refine V_ifeq_t (tgt := 3740) dL_law_3710 (by decide) ((lc_eq x567 x569.1).mpr c3710) ?_
    exact V_wk [true, true, true, true, true, false, false, false] rfl (T_L_law_3740 G fu hG k23 hk23 _ _ _ h)
  · rw [if_neg c3710] at h
    refine V_ifeq_f (tgt := 3740) dL_law_3710 (by decide) (fun z => c3710 ((lc_eq x567 x569.1).mp z)) ?_
    refine V_iconst (v := 0) dL_law_3713 rfl ?_
    cases h
    exact V_zret rfl (by decide) dL_law_3714
def D_L_law_3715 (G : GX) (fu : Nat)  (k23 : Int32 → Mem → Option (Bool × Mem)) (v4 : Int32) (μ : Mem) : Option (Bool × Mem) :=
  gu (ib (v4 + 1) (gn G)) <|
  (D_X6_status_0 μ (gx G (Int32.toNatClampNeg (v4 + 1)))).bind fun x572 =>
  gu (ib (v4 + 1) (gn G)) <|
  (D_X7_status_0 (gx G (Int32.toNatClampNeg (v4 + 1))) μ).bind fun x575 =>
  if x572 = x575.1 then
    D_L_law_3740 G fu k23 v4 x575.2
  else
    some (false, x575.2)
set_option maxRecDepth 20000 in
theorem T_L_law_3715 (G : GX) (fu : Nat)  (hG : gt G = tbl) (k23 : Int32 → Mem → Option (Bool × Mem)) (hk23 : ∀ (v4 : Int32) (μ : Mem) (r : (Bool × Mem)), k23 v4 μ = some r → V G mL_law 23 [some (.null), some (.ref 0), some (.ref 85), some (.ref 128), some (.int v4), none, none, none] [] μ (.inl (some (.int (b2i r.1)))) (r.2)) : ∀ (v4 : Int32) (μ : Mem) (r : (Bool × Mem)) , D_L_law_3715 G fu k23 v4 μ = some r → V G mL_law 3715 [some (.null), some (.ref 0), some (.ref 85), some (.ref 128), some (.int v4), none, none, none] [] μ (.inl (some (.int (b2i r.1)))) (r.2) := by
  intro v4 μ r h
  unfold D_L_law_3715 at h
  refine V_aload_n dL_law_3715 rfl ?_
  refine V_aloadS_n dL_law_3716 rfl ?_
  refine V_iload dL_law_3717 rfl ?_
  refine V_iconst (v := 1) dL_law_3719 rfl ?_
  refine V_iadd dL_law_3720 ?_
  obtain ⟨g571, h⟩ := gu_o h
  refine V_sload dL_law_3721 (ib_in g571) ?_
  obtain ⟨x572, y573, h⟩ := bi_o h
  refine V_callV (as := [.int (gx G (Int32.toNatClampNeg (v4 + 1)))]) (q := 0) (rest := []) dL_law_3722 ov_mX6_status lk_RL_330 (by decide) (by decide) rfl rfl (Nat.le_of_ble_eq_true rfl) (tq_0 hG) rfl (VM_X6_status G μ hG (gx G (Int32.toNatClampNeg (v4 + 1))) _ y573) ?_
  refine V_aload_n dL_law_3725 rfl ?_
  refine V_aloadS_n dL_law_3726 rfl ?_
  refine V_iload dL_law_3727 rfl ?_
  refine V_iconst (v := 1) dL_law_3729 rfl ?_
  refine V_iadd dL_law_3730 ?_
  obtain ⟨g574, h⟩ := gu_o h
  refine V_sload dL_law_3731 (ib_in g574) ?_
  obtain ⟨x575, y576, h⟩ := bi_o h
  refine V_callV (as := [.int (gx G (Int32.toNatClampNeg (v4 + 1)))]) (q := 85) (rest := [.int x572]) dL_law_3732 ov_mX7_status lk_RL_333 (by decide) (by decide) rfl rfl (Nat.le_of_ble_eq_true rfl) (tq_85 hG) rfl (VM_X7_status G hG (gx G (Int32.toNatClampNeg (v4 + 1))) μ _ y576) ?_
  by_cases c3735 : x572 = x575.1
  · rw [if_pos c3735] at h
    refine V_icmpeq_t (tgt := 3740) dL_law_3735 (by decide) c3735 ?_
    exact V_wk [true, true, true, true, true, false, false, false] rfl (T_L_law_3740 G fu hG k23 hk23 _ _ _ h)
  · rw [if_neg c3735] at h
    refine V_icmpeq_f (tgt := 3740) dL_law_3735 (by decide) c3735 ?_
    refine V_iconst (v := 0) dL_law_3738 rfl ?_
    cases h
    exact V_zret rfl (by decide) dL_law_3739
def D_L_law_23 (G : GX) (fu : Nat)  : Nat → Int32 → Mem → Option (Bool × Mem)
  | 0, _, _ => none
  | n + 1, v4, μ =>
    if ((Int32.ofNat (gn G)) - 6) < v4 then
      some (true, μ)
    else
      gu (ib v4 (gn G)) <|
      if ((gx G (Int32.toNatClampNeg v4)) &&& 63) = 0 then
        D_L_law_256 G fu (D_L_law_23 G fu n) v4 μ
      else
      if ((gx G (Int32.toNatClampNeg v4)) &&& 63) = 1 then
        D_L_law_348 G fu (D_L_law_23 G fu n) v4 μ
      else
      if ((gx G (Int32.toNatClampNeg v4)) &&& 63) = 2 then
        D_L_law_428 G fu (D_L_law_23 G fu n) v4 μ
      else
      if ((gx G (Int32.toNatClampNeg v4)) &&& 63) = 3 then
        D_L_law_484 G fu (D_L_law_23 G fu n) v4 μ
      else
      if ((gx G (Int32.toNatClampNeg v4)) &&& 63) = 4 then
        D_L_law_564 G fu (D_L_law_23 G fu n) v4 μ
      else
      if ((gx G (Int32.toNatClampNeg v4)) &&& 63) = 5 then
        D_L_law_656 G fu (D_L_law_23 G fu n) v4 μ
      else
      if ((gx G (Int32.toNatClampNeg v4)) &&& 63) = 6 then
        D_L_law_723 G fu (D_L_law_23 G fu n) v4 μ
      else
      if ((gx G (Int32.toNatClampNeg v4)) &&& 63) = 7 then
        D_L_law_791 G fu (D_L_law_23 G fu n) v4 μ
      else
      if ((gx G (Int32.toNatClampNeg v4)) &&& 63) = 8 then
        D_L_law_847 G fu (D_L_law_23 G fu n) v4 μ
      else
      if ((gx G (Int32.toNatClampNeg v4)) &&& 63) = 9 then
        D_L_law_902 G fu (D_L_law_23 G fu n) v4 μ
      else
      if ((gx G (Int32.toNatClampNeg v4)) &&& 63) = 10 then
        D_L_law_915 G fu (D_L_law_23 G fu n) v4 μ
      else
      if ((gx G (Int32.toNatClampNeg v4)) &&& 63) = 11 then
        D_L_law_971 G fu (D_L_law_23 G fu n) v4 μ
      else
      if ((gx G (Int32.toNatClampNeg v4)) &&& 63) = 12 then
        D_L_law_1039 G fu (D_L_law_23 G fu n) v4 μ
      else
      if ((gx G (Int32.toNatClampNeg v4)) &&& 63) = 13 then
        D_L_law_1106 G fu (D_L_law_23 G fu n) v4 μ
      else
      if ((gx G (Int32.toNatClampNeg v4)) &&& 63) = 14 then
        D_L_law_1185 G fu (D_L_law_23 G fu n) v4 μ
      else
      if ((gx G (Int32.toNatClampNeg v4)) &&& 63) = 15 then
        D_L_law_1252 G fu (D_L_law_23 G fu n) v4 μ
      else
      if ((gx G (Int32.toNatClampNeg v4)) &&& 63) = 16 then
        D_L_law_1320 G fu (D_L_law_23 G fu n) v4 μ
      else
      if ((gx G (Int32.toNatClampNeg v4)) &&& 63) = 17 then
        D_L_law_1388 G fu (D_L_law_23 G fu n) v4 μ
      else
      if ((gx G (Int32.toNatClampNeg v4)) &&& 63) = 18 then
        D_L_law_1455 G fu (D_L_law_23 G fu n) v4 μ
      else
      if ((gx G (Int32.toNatClampNeg v4)) &&& 63) = 19 then
        D_L_law_1522 G fu (D_L_law_23 G fu n) v4 μ
      else
      if ((gx G (Int32.toNatClampNeg v4)) &&& 63) = 20 then
        D_L_law_1589 G fu (D_L_law_23 G fu n) v4 μ
      else
      if ((gx G (Int32.toNatClampNeg v4)) &&& 63) = 21 then
        D_L_law_1656 G fu (D_L_law_23 G fu n) v4 μ
      else
      if ((gx G (Int32.toNatClampNeg v4)) &&& 63) = 22 then
        D_L_law_1723 G fu (D_L_law_23 G fu n) v4 μ
      else
      if ((gx G (Int32.toNatClampNeg v4)) &&& 63) = 23 then
        D_L_law_1790 G fu (D_L_law_23 G fu n) v4 μ
      else
      if ((gx G (Int32.toNatClampNeg v4)) &&& 63) = 24 then
        D_L_law_1857 G fu (D_L_law_23 G fu n) v4 μ
      else
      if ((gx G (Int32.toNatClampNeg v4)) &&& 63) = 25 then
        D_L_law_1912 G fu (D_L_law_23 G fu n) v4 μ
      else
      if ((gx G (Int32.toNatClampNeg v4)) &&& 63) = 26 then
        D_L_law_1968 G fu (D_L_law_23 G fu n) v4 μ
      else
      if ((gx G (Int32.toNatClampNeg v4)) &&& 63) = 27 then
        D_L_law_2060 G fu (D_L_law_23 G fu n) v4 μ
      else
      if ((gx G (Int32.toNatClampNeg v4)) &&& 63) = 28 then
        D_L_law_2163 G fu (D_L_law_23 G fu n) v4 μ
      else
      if ((gx G (Int32.toNatClampNeg v4)) &&& 63) = 29 then
        D_L_law_2266 G fu (D_L_law_23 G fu n) v4 μ
      else
      if ((gx G (Int32.toNatClampNeg v4)) &&& 63) = 30 then
        D_L_law_2369 G fu (D_L_law_23 G fu n) v4 μ
      else
      if ((gx G (Int32.toNatClampNeg v4)) &&& 63) = 31 then
        D_L_law_2472 G fu (D_L_law_23 G fu n) v4 μ
      else
      if ((gx G (Int32.toNatClampNeg v4)) &&& 63) = 32 then
        D_L_law_2563 G fu (D_L_law_23 G fu n) v4 μ
      else
      if ((gx G (Int32.toNatClampNeg v4)) &&& 63) = 33 then
        D_L_law_2655 G fu (D_L_law_23 G fu n) v4 μ
      else
      if ((gx G (Int32.toNatClampNeg v4)) &&& 63) = 34 then
        D_L_law_2746 G fu (D_L_law_23 G fu n) v4 μ
      else
      if ((gx G (Int32.toNatClampNeg v4)) &&& 63) = 35 then
        D_L_law_2813 G fu (D_L_law_23 G fu n) v4 μ
      else
      if ((gx G (Int32.toNatClampNeg v4)) &&& 63) = 36 then
        D_L_law_2880 G fu (D_L_law_23 G fu n) v4 μ
      else
      if ((gx G (Int32.toNatClampNeg v4)) &&& 63) = 37 then
        D_L_law_2936 G fu (D_L_law_23 G fu n) v4 μ
      else
      if ((gx G (Int32.toNatClampNeg v4)) &&& 63) = 38 then
        D_L_law_2991 G fu (D_L_law_23 G fu n) v4 μ
      else
      if ((gx G (Int32.toNatClampNeg v4)) &&& 63) = 39 then
        D_L_law_3070 G fu (D_L_law_23 G fu n) v4 μ
      else
      if ((gx G (Int32.toNatClampNeg v4)) &&& 63) = 40 then
        D_L_law_3137 G fu (D_L_law_23 G fu n) v4 μ
      else
      if ((gx G (Int32.toNatClampNeg v4)) &&& 63) = 41 then
        D_L_law_3193 G fu (D_L_law_23 G fu n) v4 μ
      else
      if ((gx G (Int32.toNatClampNeg v4)) &&& 63) = 42 then
        D_L_law_3260 G fu (D_L_law_23 G fu n) v4 μ
      else
      if ((gx G (Int32.toNatClampNeg v4)) &&& 63) = 43 then
        D_L_law_3340 G fu (D_L_law_23 G fu n) v4 μ
      else
      if ((gx G (Int32.toNatClampNeg v4)) &&& 63) = 44 then
        D_L_law_3395 G fu (D_L_law_23 G fu n) v4 μ
      else
      if ((gx G (Int32.toNatClampNeg v4)) &&& 63) = 45 then
        D_L_law_3498 G fu (D_L_law_23 G fu n) v4 μ
      else
      if ((gx G (Int32.toNatClampNeg v4)) &&& 63) = 46 then
        D_L_law_3566 G fu (D_L_law_23 G fu n) v4 μ
      else
      if ((gx G (Int32.toNatClampNeg v4)) &&& 63) = 47 then
        D_L_law_3621 G fu (D_L_law_23 G fu n) v4 μ
      else
      if ((gx G (Int32.toNatClampNeg v4)) &&& 63) = 48 then
        D_L_law_3701 G fu (D_L_law_23 G fu n) v4 μ
      else
      if ((gx G (Int32.toNatClampNeg v4)) &&& 63) = 49 then
        D_L_law_3715 G fu (D_L_law_23 G fu n) v4 μ
      else
        D_L_law_3740 G fu (D_L_law_23 G fu n) v4 μ
set_option maxRecDepth 20000 in
theorem T_L_law_23 (G : GX) (fu : Nat)  (hG : gt G = tbl) : ∀ (n : Nat) (v4 : Int32) (μ : Mem) (r : (Bool × Mem)) , D_L_law_23 G fu n v4 μ = some r → V G mL_law 23 [some (.null), some (.ref 0), some (.ref 85), some (.ref 128), some (.int v4), none, none, none] [] μ (.inl (some (.int (b2i r.1)))) (r.2) := by
  intro n
  induction n with
  | zero =>
    intro v4 μ r h
    exact nomatch (show (none : Option (Bool × Mem)) = some r from h)
  | succ n ih =>
    intro v4 μ r h
    rw [D_L_law_23] at h
    refine V_iload dL_law_23 rfl ?_
    refine V_aloadS_n dL_law_25 rfl ?_
    refine V_slen dL_law_26 ?_
    refine V_bipush (v := 6) dL_law_27 rfl ?_
    refine V_isub dL_law_29 ?_
    by_cases c30 : ((Int32.ofNat (gn G)) - 6) < v4
    · rw [if_pos c30] at h
      refine V_icmpgt_t (tgt := 3746) dL_law_30 (by decide) c30 ?_
      refine V_iconst (v := 1) dL_law_3746 rfl ?_
      cases h
      exact V_zret rfl (by decide) dL_law_3747
    · rw [if_neg c30] at h
      refine V_icmpgt_f (tgt := 3746) dL_law_30 (by decide) c30 ?_
      refine V_aloadS_n dL_law_33 rfl ?_
      refine V_iload dL_law_34 rfl ?_
      obtain ⟨g1, h⟩ := gu_o h
      refine V_sload dL_law_36 (ib_in g1) ?_
      refine V_bipush (v := 63) dL_law_37 rfl ?_
      refine V_iand dL_law_39 ?_
      by_cases c40_0 : ((gx G (Int32.toNatClampNeg v4)) &&& 63) = 0
      · rw [if_pos c40_0] at h
        have qc40_0 : (((gx G (Int32.toNatClampNeg v4)) &&& 63) : Int32).toInt = 0 := by rw [c40_0]; decide
        refine V_tabIn (tgt := 256) dL_law_40 (by rw [qc40_0]; decide) (by rw [qc40_0]; decide) (by rw [qc40_0]; rfl) (by decide) ?_
        exact V_wk [true, true, true, true, true, false, false, false] rfl (T_L_law_256 G fu hG (D_L_law_23 G fu n) ih _ _ _ h)
      · rw [if_neg c40_0] at h
        by_cases c40_1 : ((gx G (Int32.toNatClampNeg v4)) &&& 63) = 1
        · rw [if_pos c40_1] at h
          have qc40_1 : (((gx G (Int32.toNatClampNeg v4)) &&& 63) : Int32).toInt = 1 := by rw [c40_1]; decide
          refine V_tabIn (tgt := 348) dL_law_40 (by rw [qc40_1]; decide) (by rw [qc40_1]; decide) (by rw [qc40_1]; rfl) (by decide) ?_
          exact V_wk [true, true, true, true, true, false, false, false] rfl (T_L_law_348 G fu hG (D_L_law_23 G fu n) ih _ _ _ h)
        · rw [if_neg c40_1] at h
          by_cases c40_2 : ((gx G (Int32.toNatClampNeg v4)) &&& 63) = 2
          · rw [if_pos c40_2] at h
            have qc40_2 : (((gx G (Int32.toNatClampNeg v4)) &&& 63) : Int32).toInt = 2 := by rw [c40_2]; decide
            refine V_tabIn (tgt := 428) dL_law_40 (by rw [qc40_2]; decide) (by rw [qc40_2]; decide) (by rw [qc40_2]; rfl) (by decide) ?_
            exact V_wk [true, true, true, true, true, false, false, false] rfl (T_L_law_428 G fu hG (D_L_law_23 G fu n) ih _ _ _ h)
          · rw [if_neg c40_2] at h
            by_cases c40_3 : ((gx G (Int32.toNatClampNeg v4)) &&& 63) = 3
            · rw [if_pos c40_3] at h
              have qc40_3 : (((gx G (Int32.toNatClampNeg v4)) &&& 63) : Int32).toInt = 3 := by rw [c40_3]; decide
              refine V_tabIn (tgt := 484) dL_law_40 (by rw [qc40_3]; decide) (by rw [qc40_3]; decide) (by rw [qc40_3]; rfl) (by decide) ?_
              exact V_wk [true, true, true, true, true, false, false, false] rfl (T_L_law_484 G fu hG (D_L_law_23 G fu n) ih _ _ _ h)
            · rw [if_neg c40_3] at h
              by_cases c40_4 : ((gx G (Int32.toNatClampNeg v4)) &&& 63) = 4
              · rw [if_pos c40_4] at h
                have qc40_4 : (((gx G (Int32.toNatClampNeg v4)) &&& 63) : Int32).toInt = 4 := by rw [c40_4]; decide
                refine V_tabIn (tgt := 564) dL_law_40 (by rw [qc40_4]; decide) (by rw [qc40_4]; decide) (by rw [qc40_4]; rfl) (by decide) ?_
                exact V_wk [true, true, true, true, true, false, false, false] rfl (T_L_law_564 G fu hG (D_L_law_23 G fu n) ih _ _ _ h)
              · rw [if_neg c40_4] at h
                by_cases c40_5 : ((gx G (Int32.toNatClampNeg v4)) &&& 63) = 5
                · rw [if_pos c40_5] at h
                  have qc40_5 : (((gx G (Int32.toNatClampNeg v4)) &&& 63) : Int32).toInt = 5 := by rw [c40_5]; decide
                  refine V_tabIn (tgt := 656) dL_law_40 (by rw [qc40_5]; decide) (by rw [qc40_5]; decide) (by rw [qc40_5]; rfl) (by decide) ?_
                  exact V_wk [true, true, true, true, true, false, false, false] rfl (T_L_law_656 G fu hG (D_L_law_23 G fu n) ih _ _ _ h)
                · rw [if_neg c40_5] at h
                  by_cases c40_6 : ((gx G (Int32.toNatClampNeg v4)) &&& 63) = 6
                  · rw [if_pos c40_6] at h
                    have qc40_6 : (((gx G (Int32.toNatClampNeg v4)) &&& 63) : Int32).toInt = 6 := by rw [c40_6]; decide
                    refine V_tabIn (tgt := 723) dL_law_40 (by rw [qc40_6]; decide) (by rw [qc40_6]; decide) (by rw [qc40_6]; rfl) (by decide) ?_
                    exact V_wk [true, true, true, true, true, false, false, false] rfl (T_L_law_723 G fu hG (D_L_law_23 G fu n) ih _ _ _ h)
                  · rw [if_neg c40_6] at h
                    by_cases c40_7 : ((gx G (Int32.toNatClampNeg v4)) &&& 63) = 7
                    · rw [if_pos c40_7] at h
                      have qc40_7 : (((gx G (Int32.toNatClampNeg v4)) &&& 63) : Int32).toInt = 7 := by rw [c40_7]; decide
                      refine V_tabIn (tgt := 791) dL_law_40 (by rw [qc40_7]; decide) (by rw [qc40_7]; decide) (by rw [qc40_7]; rfl) (by decide) ?_
                      exact V_wk [true, true, true, true, true, false, false, false] rfl (T_L_law_791 G fu hG (D_L_law_23 G fu n) ih _ _ _ h)
                    · rw [if_neg c40_7] at h
                      by_cases c40_8 : ((gx G (Int32.toNatClampNeg v4)) &&& 63) = 8
                      · rw [if_pos c40_8] at h
                        have qc40_8 : (((gx G (Int32.toNatClampNeg v4)) &&& 63) : Int32).toInt = 8 := by rw [c40_8]; decide
                        refine V_tabIn (tgt := 847) dL_law_40 (by rw [qc40_8]; decide) (by rw [qc40_8]; decide) (by rw [qc40_8]; rfl) (by decide) ?_
                        exact V_wk [true, true, true, true, true, false, false, false] rfl (T_L_law_847 G fu hG (D_L_law_23 G fu n) ih _ _ _ h)
                      · rw [if_neg c40_8] at h
                        by_cases c40_9 : ((gx G (Int32.toNatClampNeg v4)) &&& 63) = 9
                        · rw [if_pos c40_9] at h
                          have qc40_9 : (((gx G (Int32.toNatClampNeg v4)) &&& 63) : Int32).toInt = 9 := by rw [c40_9]; decide
                          refine V_tabIn (tgt := 902) dL_law_40 (by rw [qc40_9]; decide) (by rw [qc40_9]; decide) (by rw [qc40_9]; rfl) (by decide) ?_
                          exact V_wk [true, true, true, true, true, false, false, false] rfl (T_L_law_902 G fu hG (D_L_law_23 G fu n) ih _ _ _ h)
                        · rw [if_neg c40_9] at h
                          by_cases c40_10 : ((gx G (Int32.toNatClampNeg v4)) &&& 63) = 10
                          · rw [if_pos c40_10] at h
                            have qc40_10 : (((gx G (Int32.toNatClampNeg v4)) &&& 63) : Int32).toInt = 10 := by rw [c40_10]; decide
                            refine V_tabIn (tgt := 915) dL_law_40 (by rw [qc40_10]; decide) (by rw [qc40_10]; decide) (by rw [qc40_10]; rfl) (by decide) ?_
                            exact V_wk [true, true, true, true, true, false, false, false] rfl (T_L_law_915 G fu hG (D_L_law_23 G fu n) ih _ _ _ h)
                          · rw [if_neg c40_10] at h
                            by_cases c40_11 : ((gx G (Int32.toNatClampNeg v4)) &&& 63) = 11
                            · rw [if_pos c40_11] at h
                              have qc40_11 : (((gx G (Int32.toNatClampNeg v4)) &&& 63) : Int32).toInt = 11 := by rw [c40_11]; decide
                              refine V_tabIn (tgt := 971) dL_law_40 (by rw [qc40_11]; decide) (by rw [qc40_11]; decide) (by rw [qc40_11]; rfl) (by decide) ?_
                              exact V_wk [true, true, true, true, true, false, false, false] rfl (T_L_law_971 G fu hG (D_L_law_23 G fu n) ih _ _ _ h)
                            · rw [if_neg c40_11] at h
                              by_cases c40_12 : ((gx G (Int32.toNatClampNeg v4)) &&& 63) = 12
                              · rw [if_pos c40_12] at h
                                have qc40_12 : (((gx G (Int32.toNatClampNeg v4)) &&& 63) : Int32).toInt = 12 := by rw [c40_12]; decide
                                refine V_tabIn (tgt := 1039) dL_law_40 (by rw [qc40_12]; decide) (by rw [qc40_12]; decide) (by rw [qc40_12]; rfl) (by decide) ?_
                                exact V_wk [true, true, true, true, true, false, false, false] rfl (T_L_law_1039 G fu hG (D_L_law_23 G fu n) ih _ _ _ h)
                              · rw [if_neg c40_12] at h
                                by_cases c40_13 : ((gx G (Int32.toNatClampNeg v4)) &&& 63) = 13
                                · rw [if_pos c40_13] at h
                                  have qc40_13 : (((gx G (Int32.toNatClampNeg v4)) &&& 63) : Int32).toInt = 13 := by rw [c40_13]; decide
                                  refine V_tabIn (tgt := 1106) dL_law_40 (by rw [qc40_13]; decide) (by rw [qc40_13]; decide) (by rw [qc40_13]; rfl) (by decide) ?_
                                  exact V_wk [true, true, true, true, true, false, false, false] rfl (T_L_law_1106 G fu hG (D_L_law_23 G fu n) ih _ _ _ h)
                                · rw [if_neg c40_13] at h
                                  by_cases c40_14 : ((gx G (Int32.toNatClampNeg v4)) &&& 63) = 14
                                  · rw [if_pos c40_14] at h
                                    have qc40_14 : (((gx G (Int32.toNatClampNeg v4)) &&& 63) : Int32).toInt = 14 := by rw [c40_14]; decide
                                    refine V_tabIn (tgt := 1185) dL_law_40 (by rw [qc40_14]; decide) (by rw [qc40_14]; decide) (by rw [qc40_14]; rfl) (by decide) ?_
                                    exact V_wk [true, true, true, true, true, false, false, false] rfl (T_L_law_1185 G fu hG (D_L_law_23 G fu n) ih _ _ _ h)
                                  · rw [if_neg c40_14] at h
                                    by_cases c40_15 : ((gx G (Int32.toNatClampNeg v4)) &&& 63) = 15
                                    · rw [if_pos c40_15] at h
                                      have qc40_15 : (((gx G (Int32.toNatClampNeg v4)) &&& 63) : Int32).toInt = 15 := by rw [c40_15]; decide
                                      refine V_tabIn (tgt := 1252) dL_law_40 (by rw [qc40_15]; decide) (by rw [qc40_15]; decide) (by rw [qc40_15]; rfl) (by decide) ?_
                                      exact V_wk [true, true, true, true, true, false, false, false] rfl (T_L_law_1252 G fu hG (D_L_law_23 G fu n) ih _ _ _ h)
                                    · rw [if_neg c40_15] at h
                                      by_cases c40_16 : ((gx G (Int32.toNatClampNeg v4)) &&& 63) = 16
                                      · rw [if_pos c40_16] at h
                                        have qc40_16 : (((gx G (Int32.toNatClampNeg v4)) &&& 63) : Int32).toInt = 16 := by rw [c40_16]; decide
                                        refine V_tabIn (tgt := 1320) dL_law_40 (by rw [qc40_16]; decide) (by rw [qc40_16]; decide) (by rw [qc40_16]; rfl) (by decide) ?_
                                        exact V_wk [true, true, true, true, true, false, false, false] rfl (T_L_law_1320 G fu hG (D_L_law_23 G fu n) ih _ _ _ h)
                                      · rw [if_neg c40_16] at h
                                        by_cases c40_17 : ((gx G (Int32.toNatClampNeg v4)) &&& 63) = 17
                                        · rw [if_pos c40_17] at h
                                          have qc40_17 : (((gx G (Int32.toNatClampNeg v4)) &&& 63) : Int32).toInt = 17 := by rw [c40_17]; decide
                                          refine V_tabIn (tgt := 1388) dL_law_40 (by rw [qc40_17]; decide) (by rw [qc40_17]; decide) (by rw [qc40_17]; rfl) (by decide) ?_
                                          exact V_wk [true, true, true, true, true, false, false, false] rfl (T_L_law_1388 G fu hG (D_L_law_23 G fu n) ih _ _ _ h)
                                        · rw [if_neg c40_17] at h
                                          by_cases c40_18 : ((gx G (Int32.toNatClampNeg v4)) &&& 63) = 18
                                          · rw [if_pos c40_18] at h
                                            have qc40_18 : (((gx G (Int32.toNatClampNeg v4)) &&& 63) : Int32).toInt = 18 := by rw [c40_18]; decide
                                            refine V_tabIn (tgt := 1455) dL_law_40 (by rw [qc40_18]; decide) (by rw [qc40_18]; decide) (by rw [qc40_18]; rfl) (by decide) ?_
                                            exact V_wk [true, true, true, true, true, false, false, false] rfl (T_L_law_1455 G fu hG (D_L_law_23 G fu n) ih _ _ _ h)
                                          · rw [if_neg c40_18] at h
                                            by_cases c40_19 : ((gx G (Int32.toNatClampNeg v4)) &&& 63) = 19
                                            · rw [if_pos c40_19] at h
                                              have qc40_19 : (((gx G (Int32.toNatClampNeg v4)) &&& 63) : Int32).toInt = 19 := by rw [c40_19]; decide
                                              refine V_tabIn (tgt := 1522) dL_law_40 (by rw [qc40_19]; decide) (by rw [qc40_19]; decide) (by rw [qc40_19]; rfl) (by decide) ?_
                                              exact V_wk [true, true, true, true, true, false, false, false] rfl (T_L_law_1522 G fu hG (D_L_law_23 G fu n) ih _ _ _ h)
                                            · rw [if_neg c40_19] at h
                                              by_cases c40_20 : ((gx G (Int32.toNatClampNeg v4)) &&& 63) = 20
                                              · rw [if_pos c40_20] at h
                                                have qc40_20 : (((gx G (Int32.toNatClampNeg v4)) &&& 63) : Int32).toInt = 20 := by rw [c40_20]; decide
                                                refine V_tabIn (tgt := 1589) dL_law_40 (by rw [qc40_20]; decide) (by rw [qc40_20]; decide) (by rw [qc40_20]; rfl) (by decide) ?_
                                                exact V_wk [true, true, true, true, true, false, false, false] rfl (T_L_law_1589 G fu hG (D_L_law_23 G fu n) ih _ _ _ h)
                                              · rw [if_neg c40_20] at h
                                                by_cases c40_21 : ((gx G (Int32.toNatClampNeg v4)) &&& 63) = 21
                                                · rw [if_pos c40_21] at h
                                                  have qc40_21 : (((gx G (Int32.toNatClampNeg v4)) &&& 63) : Int32).toInt = 21 := by rw [c40_21]; decide
                                                  refine V_tabIn (tgt := 1656) dL_law_40 (by rw [qc40_21]; decide) (by rw [qc40_21]; decide) (by rw [qc40_21]; rfl) (by decide) ?_
                                                  exact V_wk [true, true, true, true, true, false, false, false] rfl (T_L_law_1656 G fu hG (D_L_law_23 G fu n) ih _ _ _ h)
                                                · rw [if_neg c40_21] at h
                                                  by_cases c40_22 : ((gx G (Int32.toNatClampNeg v4)) &&& 63) = 22
                                                  · rw [if_pos c40_22] at h
                                                    have qc40_22 : (((gx G (Int32.toNatClampNeg v4)) &&& 63) : Int32).toInt = 22 := by rw [c40_22]; decide
                                                    refine V_tabIn (tgt := 1723) dL_law_40 (by rw [qc40_22]; decide) (by rw [qc40_22]; decide) (by rw [qc40_22]; rfl) (by decide) ?_
                                                    exact V_wk [true, true, true, true, true, false, false, false] rfl (T_L_law_1723 G fu hG (D_L_law_23 G fu n) ih _ _ _ h)
                                                  · rw [if_neg c40_22] at h
                                                    by_cases c40_23 : ((gx G (Int32.toNatClampNeg v4)) &&& 63) = 23
                                                    · rw [if_pos c40_23] at h
                                                      have qc40_23 : (((gx G (Int32.toNatClampNeg v4)) &&& 63) : Int32).toInt = 23 := by rw [c40_23]; decide
                                                      refine V_tabIn (tgt := 1790) dL_law_40 (by rw [qc40_23]; decide) (by rw [qc40_23]; decide) (by rw [qc40_23]; rfl) (by decide) ?_
                                                      exact V_wk [true, true, true, true, true, false, false, false] rfl (T_L_law_1790 G fu hG (D_L_law_23 G fu n) ih _ _ _ h)
                                                    · rw [if_neg c40_23] at h
                                                      by_cases c40_24 : ((gx G (Int32.toNatClampNeg v4)) &&& 63) = 24
                                                      · rw [if_pos c40_24] at h
                                                        have qc40_24 : (((gx G (Int32.toNatClampNeg v4)) &&& 63) : Int32).toInt = 24 := by rw [c40_24]; decide
                                                        refine V_tabIn (tgt := 1857) dL_law_40 (by rw [qc40_24]; decide) (by rw [qc40_24]; decide) (by rw [qc40_24]; rfl) (by decide) ?_
                                                        exact V_wk [true, true, true, true, true, false, false, false] rfl (T_L_law_1857 G fu hG (D_L_law_23 G fu n) ih _ _ _ h)
                                                      · rw [if_neg c40_24] at h
                                                        by_cases c40_25 : ((gx G (Int32.toNatClampNeg v4)) &&& 63) = 25
                                                        · rw [if_pos c40_25] at h
                                                          have qc40_25 : (((gx G (Int32.toNatClampNeg v4)) &&& 63) : Int32).toInt = 25 := by rw [c40_25]; decide
                                                          refine V_tabIn (tgt := 1912) dL_law_40 (by rw [qc40_25]; decide) (by rw [qc40_25]; decide) (by rw [qc40_25]; rfl) (by decide) ?_
                                                          exact V_wk [true, true, true, true, true, false, false, false] rfl (T_L_law_1912 G fu hG (D_L_law_23 G fu n) ih _ _ _ h)
                                                        · rw [if_neg c40_25] at h
                                                          by_cases c40_26 : ((gx G (Int32.toNatClampNeg v4)) &&& 63) = 26
                                                          · rw [if_pos c40_26] at h
                                                            have qc40_26 : (((gx G (Int32.toNatClampNeg v4)) &&& 63) : Int32).toInt = 26 := by rw [c40_26]; decide
                                                            refine V_tabIn (tgt := 1968) dL_law_40 (by rw [qc40_26]; decide) (by rw [qc40_26]; decide) (by rw [qc40_26]; rfl) (by decide) ?_
                                                            exact V_wk [true, true, true, true, true, false, false, false] rfl (T_L_law_1968 G fu hG (D_L_law_23 G fu n) ih _ _ _ h)
                                                          · rw [if_neg c40_26] at h
                                                            by_cases c40_27 : ((gx G (Int32.toNatClampNeg v4)) &&& 63) = 27
                                                            · rw [if_pos c40_27] at h
                                                              have qc40_27 : (((gx G (Int32.toNatClampNeg v4)) &&& 63) : Int32).toInt = 27 := by rw [c40_27]; decide
                                                              refine V_tabIn (tgt := 2060) dL_law_40 (by rw [qc40_27]; decide) (by rw [qc40_27]; decide) (by rw [qc40_27]; rfl) (by decide) ?_
                                                              exact V_wk [true, true, true, true, true, false, false, false] rfl (T_L_law_2060 G fu hG (D_L_law_23 G fu n) ih _ _ _ h)
                                                            · rw [if_neg c40_27] at h
                                                              by_cases c40_28 : ((gx G (Int32.toNatClampNeg v4)) &&& 63) = 28
                                                              · rw [if_pos c40_28] at h
                                                                have qc40_28 : (((gx G (Int32.toNatClampNeg v4)) &&& 63) : Int32).toInt = 28 := by rw [c40_28]; decide
                                                                refine V_tabIn (tgt := 2163) dL_law_40 (by rw [qc40_28]; decide) (by rw [qc40_28]; decide) (by rw [qc40_28]; rfl) (by decide) ?_
                                                                exact V_wk [true, true, true, true, true, false, false, false] rfl (T_L_law_2163 G fu hG (D_L_law_23 G fu n) ih _ _ _ h)
                                                              · rw [if_neg c40_28] at h
                                                                by_cases c40_29 : ((gx G (Int32.toNatClampNeg v4)) &&& 63) = 29
                                                                · rw [if_pos c40_29] at h
                                                                  have qc40_29 : (((gx G (Int32.toNatClampNeg v4)) &&& 63) : Int32).toInt = 29 := by rw [c40_29]; decide
                                                                  refine V_tabIn (tgt := 2266) dL_law_40 (by rw [qc40_29]; decide) (by rw [qc40_29]; decide) (by rw [qc40_29]; rfl) (by decide) ?_
                                                                  exact V_wk [true, true, true, true, true, false, false, false] rfl (T_L_law_2266 G fu hG (D_L_law_23 G fu n) ih _ _ _ h)
                                                                · rw [if_neg c40_29] at h
                                                                  by_cases c40_30 : ((gx G (Int32.toNatClampNeg v4)) &&& 63) = 30
                                                                  · rw [if_pos c40_30] at h
                                                                    have qc40_30 : (((gx G (Int32.toNatClampNeg v4)) &&& 63) : Int32).toInt = 30 := by rw [c40_30]; decide
                                                                    refine V_tabIn (tgt := 2369) dL_law_40 (by rw [qc40_30]; decide) (by rw [qc40_30]; decide) (by rw [qc40_30]; rfl) (by decide) ?_
                                                                    exact V_wk [true, true, true, true, true, false, false, false] rfl (T_L_law_2369 G fu hG (D_L_law_23 G fu n) ih _ _ _ h)
                                                                  · rw [if_neg c40_30] at h
                                                                    by_cases c40_31 : ((gx G (Int32.toNatClampNeg v4)) &&& 63) = 31
                                                                    · rw [if_pos c40_31] at h
                                                                      have qc40_31 : (((gx G (Int32.toNatClampNeg v4)) &&& 63) : Int32).toInt = 31 := by rw [c40_31]; decide
                                                                      refine V_tabIn (tgt := 2472) dL_law_40 (by rw [qc40_31]; decide) (by rw [qc40_31]; decide) (by rw [qc40_31]; rfl) (by decide) ?_
                                                                      exact V_wk [true, true, true, true, true, false, false, false] rfl (T_L_law_2472 G fu hG (D_L_law_23 G fu n) ih _ _ _ h)
                                                                    · rw [if_neg c40_31] at h
                                                                      by_cases c40_32 : ((gx G (Int32.toNatClampNeg v4)) &&& 63) = 32
                                                                      · rw [if_pos c40_32] at h
                                                                        have qc40_32 : (((gx G (Int32.toNatClampNeg v4)) &&& 63) : Int32).toInt = 32 := by rw [c40_32]; decide
                                                                        refine V_tabIn (tgt := 2563) dL_law_40 (by rw [qc40_32]; decide) (by rw [qc40_32]; decide) (by rw [qc40_32]; rfl) (by decide) ?_
                                                                        exact V_wk [true, true, true, true, true, false, false, false] rfl (T_L_law_2563 G fu hG (D_L_law_23 G fu n) ih _ _ _ h)
                                                                      · rw [if_neg c40_32] at h
                                                                        by_cases c40_33 : ((gx G (Int32.toNatClampNeg v4)) &&& 63) = 33
                                                                        · rw [if_pos c40_33] at h
                                                                          have qc40_33 : (((gx G (Int32.toNatClampNeg v4)) &&& 63) : Int32).toInt = 33 := by rw [c40_33]; decide
                                                                          refine V_tabIn (tgt := 2655) dL_law_40 (by rw [qc40_33]; decide) (by rw [qc40_33]; decide) (by rw [qc40_33]; rfl) (by decide) ?_
                                                                          exact V_wk [true, true, true, true, true, false, false, false] rfl (T_L_law_2655 G fu hG (D_L_law_23 G fu n) ih _ _ _ h)
                                                                        · rw [if_neg c40_33] at h
                                                                          by_cases c40_34 : ((gx G (Int32.toNatClampNeg v4)) &&& 63) = 34
                                                                          · rw [if_pos c40_34] at h
                                                                            have qc40_34 : (((gx G (Int32.toNatClampNeg v4)) &&& 63) : Int32).toInt = 34 := by rw [c40_34]; decide
                                                                            refine V_tabIn (tgt := 2746) dL_law_40 (by rw [qc40_34]; decide) (by rw [qc40_34]; decide) (by rw [qc40_34]; rfl) (by decide) ?_
                                                                            exact V_wk [true, true, true, true, true, false, false, false] rfl (T_L_law_2746 G fu hG (D_L_law_23 G fu n) ih _ _ _ h)
                                                                          · rw [if_neg c40_34] at h
                                                                            by_cases c40_35 : ((gx G (Int32.toNatClampNeg v4)) &&& 63) = 35
                                                                            · rw [if_pos c40_35] at h
                                                                              have qc40_35 : (((gx G (Int32.toNatClampNeg v4)) &&& 63) : Int32).toInt = 35 := by rw [c40_35]; decide
                                                                              refine V_tabIn (tgt := 2813) dL_law_40 (by rw [qc40_35]; decide) (by rw [qc40_35]; decide) (by rw [qc40_35]; rfl) (by decide) ?_
                                                                              exact V_wk [true, true, true, true, true, false, false, false] rfl (T_L_law_2813 G fu hG (D_L_law_23 G fu n) ih _ _ _ h)
                                                                            · rw [if_neg c40_35] at h
                                                                              by_cases c40_36 : ((gx G (Int32.toNatClampNeg v4)) &&& 63) = 36
                                                                              · rw [if_pos c40_36] at h
                                                                                have qc40_36 : (((gx G (Int32.toNatClampNeg v4)) &&& 63) : Int32).toInt = 36 := by rw [c40_36]; decide
                                                                                refine V_tabIn (tgt := 2880) dL_law_40 (by rw [qc40_36]; decide) (by rw [qc40_36]; decide) (by rw [qc40_36]; rfl) (by decide) ?_
                                                                                exact V_wk [true, true, true, true, true, false, false, false] rfl (T_L_law_2880 G fu hG (D_L_law_23 G fu n) ih _ _ _ h)
                                                                              · rw [if_neg c40_36] at h
                                                                                by_cases c40_37 : ((gx G (Int32.toNatClampNeg v4)) &&& 63) = 37
                                                                                · rw [if_pos c40_37] at h
                                                                                  have qc40_37 : (((gx G (Int32.toNatClampNeg v4)) &&& 63) : Int32).toInt = 37 := by rw [c40_37]; decide
                                                                                  refine V_tabIn (tgt := 2936) dL_law_40 (by rw [qc40_37]; decide) (by rw [qc40_37]; decide) (by rw [qc40_37]; rfl) (by decide) ?_
                                                                                  exact V_wk [true, true, true, true, true, false, false, false] rfl (T_L_law_2936 G fu hG (D_L_law_23 G fu n) ih _ _ _ h)
                                                                                · rw [if_neg c40_37] at h
                                                                                  by_cases c40_38 : ((gx G (Int32.toNatClampNeg v4)) &&& 63) = 38
                                                                                  · rw [if_pos c40_38] at h
                                                                                    have qc40_38 : (((gx G (Int32.toNatClampNeg v4)) &&& 63) : Int32).toInt = 38 := by rw [c40_38]; decide
                                                                                    refine V_tabIn (tgt := 2991) dL_law_40 (by rw [qc40_38]; decide) (by rw [qc40_38]; decide) (by rw [qc40_38]; rfl) (by decide) ?_
                                                                                    exact V_wk [true, true, true, true, true, false, false, false] rfl (T_L_law_2991 G fu hG (D_L_law_23 G fu n) ih _ _ _ h)
                                                                                  · rw [if_neg c40_38] at h
                                                                                    by_cases c40_39 : ((gx G (Int32.toNatClampNeg v4)) &&& 63) = 39
                                                                                    · rw [if_pos c40_39] at h
                                                                                      have qc40_39 : (((gx G (Int32.toNatClampNeg v4)) &&& 63) : Int32).toInt = 39 := by rw [c40_39]; decide
                                                                                      refine V_tabIn (tgt := 3070) dL_law_40 (by rw [qc40_39]; decide) (by rw [qc40_39]; decide) (by rw [qc40_39]; rfl) (by decide) ?_
                                                                                      exact V_wk [true, true, true, true, true, false, false, false] rfl (T_L_law_3070 G fu hG (D_L_law_23 G fu n) ih _ _ _ h)
                                                                                    · rw [if_neg c40_39] at h
                                                                                      by_cases c40_40 : ((gx G (Int32.toNatClampNeg v4)) &&& 63) = 40
                                                                                      · rw [if_pos c40_40] at h
                                                                                        have qc40_40 : (((gx G (Int32.toNatClampNeg v4)) &&& 63) : Int32).toInt = 40 := by rw [c40_40]; decide
                                                                                        refine V_tabIn (tgt := 3137) dL_law_40 (by rw [qc40_40]; decide) (by rw [qc40_40]; decide) (by rw [qc40_40]; rfl) (by decide) ?_
                                                                                        exact V_wk [true, true, true, true, true, false, false, false] rfl (T_L_law_3137 G fu hG (D_L_law_23 G fu n) ih _ _ _ h)
                                                                                      · rw [if_neg c40_40] at h
                                                                                        by_cases c40_41 : ((gx G (Int32.toNatClampNeg v4)) &&& 63) = 41
                                                                                        · rw [if_pos c40_41] at h
                                                                                          have qc40_41 : (((gx G (Int32.toNatClampNeg v4)) &&& 63) : Int32).toInt = 41 := by rw [c40_41]; decide
                                                                                          refine V_tabIn (tgt := 3193) dL_law_40 (by rw [qc40_41]; decide) (by rw [qc40_41]; decide) (by rw [qc40_41]; rfl) (by decide) ?_
                                                                                          exact V_wk [true, true, true, true, true, false, false, false] rfl (T_L_law_3193 G fu hG (D_L_law_23 G fu n) ih _ _ _ h)
                                                                                        · rw [if_neg c40_41] at h
                                                                                          by_cases c40_42 : ((gx G (Int32.toNatClampNeg v4)) &&& 63) = 42
                                                                                          · rw [if_pos c40_42] at h
                                                                                            have qc40_42 : (((gx G (Int32.toNatClampNeg v4)) &&& 63) : Int32).toInt = 42 := by rw [c40_42]; decide
                                                                                            refine V_tabIn (tgt := 3260) dL_law_40 (by rw [qc40_42]; decide) (by rw [qc40_42]; decide) (by rw [qc40_42]; rfl) (by decide) ?_
                                                                                            exact V_wk [true, true, true, true, true, false, false, false] rfl (T_L_law_3260 G fu hG (D_L_law_23 G fu n) ih _ _ _ h)
                                                                                          · rw [if_neg c40_42] at h
                                                                                            by_cases c40_43 : ((gx G (Int32.toNatClampNeg v4)) &&& 63) = 43
                                                                                            · rw [if_pos c40_43] at h
                                                                                              have qc40_43 : (((gx G (Int32.toNatClampNeg v4)) &&& 63) : Int32).toInt = 43 := by rw [c40_43]; decide
                                                                                              refine V_tabIn (tgt := 3340) dL_law_40 (by rw [qc40_43]; decide) (by rw [qc40_43]; decide) (by rw [qc40_43]; rfl) (by decide) ?_
                                                                                              exact V_wk [true, true, true, true, true, false, false, false] rfl (T_L_law_3340 G fu hG (D_L_law_23 G fu n) ih _ _ _ h)
                                                                                            · rw [if_neg c40_43] at h
                                                                                              by_cases c40_44 : ((gx G (Int32.toNatClampNeg v4)) &&& 63) = 44
                                                                                              · rw [if_pos c40_44] at h
                                                                                                have qc40_44 : (((gx G (Int32.toNatClampNeg v4)) &&& 63) : Int32).toInt = 44 := by rw [c40_44]; decide
                                                                                                refine V_tabIn (tgt := 3395) dL_law_40 (by rw [qc40_44]; decide) (by rw [qc40_44]; decide) (by rw [qc40_44]; rfl) (by decide) ?_
                                                                                                exact V_wk [true, true, true, true, true, false, false, false] rfl (T_L_law_3395 G fu hG (D_L_law_23 G fu n) ih _ _ _ h)
                                                                                              · rw [if_neg c40_44] at h
                                                                                                by_cases c40_45 : ((gx G (Int32.toNatClampNeg v4)) &&& 63) = 45
                                                                                                · rw [if_pos c40_45] at h
                                                                                                  have qc40_45 : (((gx G (Int32.toNatClampNeg v4)) &&& 63) : Int32).toInt = 45 := by rw [c40_45]; decide
                                                                                                  refine V_tabIn (tgt := 3498) dL_law_40 (by rw [qc40_45]; decide) (by rw [qc40_45]; decide) (by rw [qc40_45]; rfl) (by decide) ?_
                                                                                                  exact V_wk [true, true, true, true, true, false, false, false] rfl (T_L_law_3498 G fu hG (D_L_law_23 G fu n) ih _ _ _ h)
                                                                                                · rw [if_neg c40_45] at h
                                                                                                  by_cases c40_46 : ((gx G (Int32.toNatClampNeg v4)) &&& 63) = 46
                                                                                                  · rw [if_pos c40_46] at h
                                                                                                    have qc40_46 : (((gx G (Int32.toNatClampNeg v4)) &&& 63) : Int32).toInt = 46 := by rw [c40_46]; decide
                                                                                                    refine V_tabIn (tgt := 3566) dL_law_40 (by rw [qc40_46]; decide) (by rw [qc40_46]; decide) (by rw [qc40_46]; rfl) (by decide) ?_
                                                                                                    exact V_wk [true, true, true, true, true, false, false, false] rfl (T_L_law_3566 G fu hG (D_L_law_23 G fu n) ih _ _ _ h)
                                                                                                  · rw [if_neg c40_46] at h
                                                                                                    by_cases c40_47 : ((gx G (Int32.toNatClampNeg v4)) &&& 63) = 47
                                                                                                    · rw [if_pos c40_47] at h
                                                                                                      have qc40_47 : (((gx G (Int32.toNatClampNeg v4)) &&& 63) : Int32).toInt = 47 := by rw [c40_47]; decide
                                                                                                      refine V_tabIn (tgt := 3621) dL_law_40 (by rw [qc40_47]; decide) (by rw [qc40_47]; decide) (by rw [qc40_47]; rfl) (by decide) ?_
                                                                                                      exact V_wk [true, true, true, true, true, false, false, false] rfl (T_L_law_3621 G fu hG (D_L_law_23 G fu n) ih _ _ _ h)
                                                                                                    · rw [if_neg c40_47] at h
                                                                                                      by_cases c40_48 : ((gx G (Int32.toNatClampNeg v4)) &&& 63) = 48
                                                                                                      · rw [if_pos c40_48] at h
                                                                                                        have qc40_48 : (((gx G (Int32.toNatClampNeg v4)) &&& 63) : Int32).toInt = 48 := by rw [c40_48]; decide
                                                                                                        refine V_tabIn (tgt := 3701) dL_law_40 (by rw [qc40_48]; decide) (by rw [qc40_48]; decide) (by rw [qc40_48]; rfl) (by decide) ?_
                                                                                                        exact V_wk [true, true, true, true, true, false, false, false] rfl (T_L_law_3701 G fu hG (D_L_law_23 G fu n) ih _ _ _ h)
                                                                                                      · rw [if_neg c40_48] at h
                                                                                                        by_cases c40_49 : ((gx G (Int32.toNatClampNeg v4)) &&& 63) = 49
                                                                                                        · rw [if_pos c40_49] at h
                                                                                                          have qc40_49 : (((gx G (Int32.toNatClampNeg v4)) &&& 63) : Int32).toInt = 49 := by rw [c40_49]; decide
                                                                                                          refine V_tabIn (tgt := 3715) dL_law_40 (by rw [qc40_49]; decide) (by rw [qc40_49]; decide) (by rw [qc40_49]; rfl) (by decide) ?_
                                                                                                          exact V_wk [true, true, true, true, true, false, false, false] rfl (T_L_law_3715 G fu hG (D_L_law_23 G fu n) ih _ _ _ h)
                                                                                                        · rw [if_neg c40_49] at h
                                                                                                          refine V_tabOut (tgt := 3740) dL_law_40 (tab_out 50 49 (by decide) (fun j hj => ?_)) (by decide) ?_
                                                                                                          · match j, hj with
                                                                                                            | 0, _ => exact fun z => c40_0 (Int32.toInt_inj.mp (by rw [z]; decide))
                                                                                                            | 1, _ => exact fun z => c40_1 (Int32.toInt_inj.mp (by rw [z]; decide))
                                                                                                            | 2, _ => exact fun z => c40_2 (Int32.toInt_inj.mp (by rw [z]; decide))
                                                                                                            | 3, _ => exact fun z => c40_3 (Int32.toInt_inj.mp (by rw [z]; decide))
                                                                                                            | 4, _ => exact fun z => c40_4 (Int32.toInt_inj.mp (by rw [z]; decide))
                                                                                                            | 5, _ => exact fun z => c40_5 (Int32.toInt_inj.mp (by rw [z]; decide))
                                                                                                            | 6, _ => exact fun z => c40_6 (Int32.toInt_inj.mp (by rw [z]; decide))
                                                                                                            | 7, _ => exact fun z => c40_7 (Int32.toInt_inj.mp (by rw [z]; decide))
                                                                                                            | 8, _ => exact fun z => c40_8 (Int32.toInt_inj.mp (by rw [z]; decide))
                                                                                                            | 9, _ => exact fun z => c40_9 (Int32.toInt_inj.mp (by rw [z]; decide))
                                                                                                            | 10, _ => exact fun z => c40_10 (Int32.toInt_inj.mp (by rw [z]; decide))
                                                                                                            | 11, _ => exact fun z => c40_11 (Int32.toInt_inj.mp (by rw [z]; decide))
                                                                                                            | 12, _ => exact fun z => c40_12 (Int32.toInt_inj.mp (by rw [z]; decide))
                                                                                                            | 13, _ => exact fun z => c40_13 (Int32.toInt_inj.mp (by rw [z]; decide))
                                                                                                            | 14, _ => exact fun z => c40_14 (Int32.toInt_inj.mp (by rw [z]; decide))
                                                                                                            | 15, _ => exact fun z => c40_15 (Int32.toInt_inj.mp (by rw [z]; decide))
                                                                                                            | 16, _ => exact fun z => c40_16 (Int32.toInt_inj.mp (by rw [z]; decide))
                                                                                                            | 17, _ => exact fun z => c40_17 (Int32.toInt_inj.mp (by rw [z]; decide))
                                                                                                            | 18, _ => exact fun z => c40_18 (Int32.toInt_inj.mp (by rw [z]; decide))
                                                                                                            | 19, _ => exact fun z => c40_19 (Int32.toInt_inj.mp (by rw [z]; decide))
                                                                                                            | 20, _ => exact fun z => c40_20 (Int32.toInt_inj.mp (by rw [z]; decide))
                                                                                                            | 21, _ => exact fun z => c40_21 (Int32.toInt_inj.mp (by rw [z]; decide))
                                                                                                            | 22, _ => exact fun z => c40_22 (Int32.toInt_inj.mp (by rw [z]; decide))
                                                                                                            | 23, _ => exact fun z => c40_23 (Int32.toInt_inj.mp (by rw [z]; decide))
                                                                                                            | 24, _ => exact fun z => c40_24 (Int32.toInt_inj.mp (by rw [z]; decide))
                                                                                                            | 25, _ => exact fun z => c40_25 (Int32.toInt_inj.mp (by rw [z]; decide))
                                                                                                            | 26, _ => exact fun z => c40_26 (Int32.toInt_inj.mp (by rw [z]; decide))
                                                                                                            | 27, _ => exact fun z => c40_27 (Int32.toInt_inj.mp (by rw [z]; decide))
                                                                                                            | 28, _ => exact fun z => c40_28 (Int32.toInt_inj.mp (by rw [z]; decide))
                                                                                                            | 29, _ => exact fun z => c40_29 (Int32.toInt_inj.mp (by rw [z]; decide))
                                                                                                            | 30, _ => exact fun z => c40_30 (Int32.toInt_inj.mp (by rw [z]; decide))
                                                                                                            | 31, _ => exact fun z => c40_31 (Int32.toInt_inj.mp (by rw [z]; decide))
                                                                                                            | 32, _ => exact fun z => c40_32 (Int32.toInt_inj.mp (by rw [z]; decide))
                                                                                                            | 33, _ => exact fun z => c40_33 (Int32.toInt_inj.mp (by rw [z]; decide))
                                                                                                            | 34, _ => exact fun z => c40_34 (Int32.toInt_inj.mp (by rw [z]; decide))
                                                                                                            | 35, _ => exact fun z => c40_35 (Int32.toInt_inj.mp (by rw [z]; decide))
                                                                                                            | 36, _ => exact fun z => c40_36 (Int32.toInt_inj.mp (by rw [z]; decide))
                                                                                                            | 37, _ => exact fun z => c40_37 (Int32.toInt_inj.mp (by rw [z]; decide))
                                                                                                            | 38, _ => exact fun z => c40_38 (Int32.toInt_inj.mp (by rw [z]; decide))
                                                                                                            | 39, _ => exact fun z => c40_39 (Int32.toInt_inj.mp (by rw [z]; decide))
                                                                                                            | 40, _ => exact fun z => c40_40 (Int32.toInt_inj.mp (by rw [z]; decide))
                                                                                                            | 41, _ => exact fun z => c40_41 (Int32.toInt_inj.mp (by rw [z]; decide))
                                                                                                            | 42, _ => exact fun z => c40_42 (Int32.toInt_inj.mp (by rw [z]; decide))
                                                                                                            | 43, _ => exact fun z => c40_43 (Int32.toInt_inj.mp (by rw [z]; decide))
                                                                                                            | 44, _ => exact fun z => c40_44 (Int32.toInt_inj.mp (by rw [z]; decide))
                                                                                                            | 45, _ => exact fun z => c40_45 (Int32.toInt_inj.mp (by rw [z]; decide))
                                                                                                            | 46, _ => exact fun z => c40_46 (Int32.toInt_inj.mp (by rw [z]; decide))
                                                                                                            | 47, _ => exact fun z => c40_47 (Int32.toInt_inj.mp (by rw [z]; decide))
                                                                                                            | 48, _ => exact fun z => c40_48 (Int32.toInt_inj.mp (by rw [z]; decide))
                                                                                                            | 49, _ => exact fun z => c40_49 (Int32.toInt_inj.mp (by rw [z]; decide))
                                                                                                            | j + 50, hj => exact absurd hj (by omega)
                                                                                                          exact V_wk [true, true, true, true, true, false, false, false] rfl (T_L_law_3740 G fu hG (D_L_law_23 G fu n) ih _ _ _ h)
