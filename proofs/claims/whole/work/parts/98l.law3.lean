/-! the law's loop -/
section
variable {fu n c i : Nat} {ev : Nat → Ev} {μ : Mem} {G : GX} {K : Int32 → Mem → Option (Bool × Mem)} {Q : Bool × Mem → Prop}
/-- one call, compared -/
theorem law_b {β : Type} {L : Option (Int32 × Mem)} {M : Mem → Option (β × Mem)} {cv : β → Int64} {k : Mem → Option (Bool × Mem)} (h : LQ c L M cv) (hk : ∀ m, (∃ ev n, IX ev n (c + 1) m) → Ok (k m) Q) : Ok (L.bind fun x6 => (M x6.2).bind fun x12 => (D_X7_thrown_0 x12.2).bind fun x14 => if x14 = x6.1 then if x6.1 = nI 0 then if x12.2.2.1 128 0 = cv x12.1 then k x12.2 else some (false, x12.2) else k x12.2 else some (false, x12.2)) Q := by
  obtain ⟨r, μ1, v, μ2, e1, e2, e3, e4, J⟩ := h
  rw [e1, bi_s]
  show Ok ((M μ1).bind _) Q
  rw [e2, bi_s]
  show Ok (if μ2.1 85 0 = r then if r = nI 0 then if μ2.2.1 128 0 = cv v then k μ2 else some (false, μ2) else k μ2 else some (false, μ2)) Q
  rw [if_pos e3]
  by_cases z : r = nI 0
  · rw [if_pos z, if_pos (e4 z)]; exact hk μ2 J
  · rw [if_neg z]; exact hk μ2 J
theorem l_D_L_law_256 (hi : i + 6 ≤ gn G) (hG : gn G ≤ 3072) (hf : 200 < fu) (I : IX ev n c μ) (hk : ∀ m, (∃ ev n, IX ev n (c + 1) m) → Ok (K (nI (i + 6)) m) Q) : Ok (D_L_law_256 G fu K (nI i) μ) Q := by
  unfold D_L_law_256 D_L_law_345 D_L_law_3740
  simp (disch := omega) only [li0, li1, li2, li3, li4, li5, li6, n_add, gu_ib, nI_nat]
  exact law_b (lq_place hf I _ _ _ _) hk
theorem l_D_L_law_348 (hi : i + 6 ≤ gn G) (hG : gn G ≤ 3072) (hf : 200 < fu) (I : IX ev n c μ) (hk : ∀ m, (∃ ev n, IX ev n (c + 1) m) → Ok (K (nI (i + 6)) m) Q) : Ok (D_L_law_348 G fu K (nI i) μ) Q := by
  unfold D_L_law_348 D_L_law_425 D_L_law_3740
  simp (disch := omega) only [li0, li1, li2, li3, li4, li5, li6, n_add, gu_ib, nI_nat]
  exact law_b (lq_sign hf I _ _ _) hk
theorem l_D_L_law_428 (hi : i + 6 ≤ gn G) (hG : gn G ≤ 3072) (hf : 200 < fu) (I : IX ev n c μ) (hk : ∀ m, (∃ ev n, IX ev n (c + 1) m) → Ok (K (nI (i + 6)) m) Q) : Ok (D_L_law_428 G fu K (nI i) μ) Q := by
  unfold D_L_law_428 D_L_law_481 D_L_law_3740
  simp (disch := omega) only [li0, li1, li2, li3, li4, li5, li6, n_add, gu_ib, nI_nat]
  exact law_b (lq_lack hf I _) hk
theorem l_D_L_law_484 (hi : i + 6 ≤ gn G) (hG : gn G ≤ 3072) (hf : 200 < fu) (I : IX ev n c μ) (hk : ∀ m, (∃ ev n, IX ev n (c + 1) m) → Ok (K (nI (i + 6)) m) Q) : Ok (D_L_law_484 G fu K (nI i) μ) Q := by
  unfold D_L_law_484 D_L_law_561 D_L_law_3740
  simp (disch := omega) only [li0, li1, li2, li3, li4, li5, li6, n_add, gu_ib, nI_nat]
  exact law_b (lq_rules hf I _ _ _) hk
theorem l_D_L_law_564 (hi : i + 6 ≤ gn G) (hG : gn G ≤ 3072) (hf : 200 < fu) (I : IX ev n c μ) (hk : ∀ m, (∃ ev n, IX ev n (c + 1) m) → Ok (K (nI (i + 6)) m) Q) : Ok (D_L_law_564 G fu K (nI i) μ) Q := by
  unfold D_L_law_564 D_L_law_653 D_L_law_3740
  simp (disch := omega) only [li0, li1, li2, li3, li4, li5, li6, n_add, gu_ib, nI_nat]
  exact law_b (lq_harm hf I _ _ _ _) hk
theorem l_D_L_law_656 (hi : i + 6 ≤ gn G) (hG : gn G ≤ 3072) (hf : 200 < fu) (I : IX ev n c μ) (hk : ∀ m, (∃ ev n, IX ev n (c + 1) m) → Ok (K (nI (i + 6)) m) Q) : Ok (D_L_law_656 G fu K (nI i) μ) Q := by
  unfold D_L_law_656 D_L_law_720 D_L_law_3740
  simp (disch := omega) only [li0, li1, li2, li3, li4, li5, li6, n_add, gu_ib, nI_nat]
  exact law_b (lq_grow hf I _ _) hk
theorem l_D_L_law_723 (hi : i + 6 ≤ gn G) (hG : gn G ≤ 3072) (hf : 200 < fu) (I : IX ev n c μ) (hk : ∀ m, (∃ ev n, IX ev n (c + 1) m) → Ok (K (nI (i + 6)) m) Q) : Ok (D_L_law_723 G fu K (nI i) μ) Q := by
  unfold D_L_law_723 D_L_law_788 D_L_law_3740
  simp (disch := omega) only [li0, li1, li2, li3, li4, li5, li6, n_add, gu_ib, nI_nat]
  exact law_b (lq_settle hf I _ _) hk
theorem l_D_L_law_791 (hi : i + 6 ≤ gn G) (hG : gn G ≤ 3072) (hf : 200 < fu) (I : IX ev n c μ) (hk : ∀ m, (∃ ev n, IX ev n (c + 1) m) → Ok (K (nI (i + 6)) m) Q) : Ok (D_L_law_791 G fu K (nI i) μ) Q := by
  unfold D_L_law_791 D_L_law_844 D_L_law_3740
  simp (disch := omega) only [li0, li1, li2, li3, li4, li5, li6, n_add, gu_ib, nI_nat]
  exact law_b (lq_fall hf I _) hk
theorem l_D_L_law_847 (hi : i + 6 ≤ gn G) (hG : gn G ≤ 3072) (hf : 200 < fu) (I : IX ev n c μ) (hk : ∀ m, (∃ ev n, IX ev n (c + 1) m) → Ok (K (nI (i + 6)) m) Q) : Ok (D_L_law_847 G fu K (nI i) μ) Q := by
  unfold D_L_law_847 D_L_law_899 D_L_law_3740
  simp (disch := omega) only [li0, li1, li2, li3, li4, li5, li6, n_add, gu_ib, nI_nat]
  exact law_b (lq_reopen hf I _) hk
theorem l_D_L_law_902 (hi : i + 6 ≤ gn G) (hG : gn G ≤ 3072) (hf : 200 < fu) (I : IX ev n c μ) (hk : ∀ m, (∃ ev n, IX ev n (c + 1) m) → Ok (K (nI (i + 6)) m) Q) : Ok (D_L_law_902 G fu K (nI i) μ) Q := by
  obtain ⟨v, x, m, e1, e2, J⟩ := l_back hf I
  unfold D_L_law_902 D_L_law_3740
  rw [e1, bi_s, e2, bi_s, if_pos rfl, li6, n_add]
  exact hk m J
theorem l_D_L_law_915 (hi : i + 6 ≤ gn G) (hG : gn G ≤ 3072) (hf : 200 < fu) (I : IX ev n c μ) (hk : ∀ m, (∃ ev n, IX ev n (c + 1) m) → Ok (K (nI (i + 6)) m) Q) : Ok (D_L_law_915 G fu K (nI i) μ) Q := by
  unfold D_L_law_915 D_L_law_968 D_L_law_3740
  simp (disch := omega) only [li0, li1, li2, li3, li4, li5, li6, n_add, gu_ib, nI_nat]
  exact law_b (lq_told hf I _) hk
theorem l_D_L_law_971 (hi : i + 6 ≤ gn G) (hG : gn G ≤ 3072) (hf : 200 < fu) (I : IX ev n c μ) (hk : ∀ m, (∃ ev n, IX ev n (c + 1) m) → Ok (K (nI (i + 6)) m) Q) : Ok (D_L_law_971 G fu K (nI i) μ) Q := by
  unfold D_L_law_971 D_L_law_1036 D_L_law_3740
  simp (disch := omega) only [li0, li1, li2, li3, li4, li5, li6, n_add, gu_ib, nI_nat]
  exact law_b (lq_event hf I _ _) hk
theorem l_D_L_law_1039 (hi : i + 6 ≤ gn G) (hG : gn G ≤ 3072) (hf : 200 < fu) (I : IX ev n c μ) (hk : ∀ m, (∃ ev n, IX ev n (c + 1) m) → Ok (K (nI (i + 6)) m) Q) : Ok (D_L_law_1039 G fu K (nI i) μ) Q := by
  unfold D_L_law_1039 D_L_law_1103 D_L_law_3740
  simp (disch := omega) only [li0, li1, li2, li3, li4, li5, li6, n_add, gu_ib, nI_nat]
  exact law_b (lq_layer hf I _ _) hk
theorem l_D_L_law_1106 (hi : i + 6 ≤ gn G) (hG : gn G ≤ 3072) (hf : 200 < fu) (I : IX ev n c μ) (hk : ∀ m, (∃ ev n, IX ev n (c + 1) m) → Ok (K (nI (i + 6)) m) Q) : Ok (D_L_law_1106 G fu K (nI i) μ) Q := by
  unfold D_L_law_1106 D_L_law_1182 D_L_law_3740
  simp (disch := omega) only [li0, li1, li2, li3, li4, li5, li6, n_add, gu_ib, nI_nat]
  exact law_b (lq_signed hf I _ _ _) hk
theorem l_D_L_law_1185 (hi : i + 6 ≤ gn G) (hG : gn G ≤ 3072) (hf : 200 < fu) (I : IX ev n c μ) (hk : ∀ m, (∃ ev n, IX ev n (c + 1) m) → Ok (K (nI (i + 6)) m) Q) : Ok (D_L_law_1185 G fu K (nI i) μ) Q := by
  unfold D_L_law_1185 D_L_law_1249 D_L_law_3740
  simp (disch := omega) only [li0, li1, li2, li3, li4, li5, li6, n_add, gu_ib, nI_nat]
  exact law_b (lq_year hf I _ _) hk
theorem l_D_L_law_1252 (hi : i + 6 ≤ gn G) (hG : gn G ≤ 3072) (hf : 200 < fu) (I : IX ev n c μ) (hk : ∀ m, (∃ ev n, IX ev n (c + 1) m) → Ok (K (nI (i + 6)) m) Q) : Ok (D_L_law_1252 G fu K (nI i) μ) Q := by
  unfold D_L_law_1252 D_L_law_1317 D_L_law_3740
  simp (disch := omega) only [li0, li1, li2, li3, li4, li5, li6, n_add, gu_ib, nI_nat]
  exact law_b (lq_at hf I _ _) hk
theorem l_D_L_law_1320 (hi : i + 6 ≤ gn G) (hG : gn G ≤ 3072) (hf : 200 < fu) (I : IX ev n c μ) (hk : ∀ m, (∃ ev n, IX ev n (c + 1) m) → Ok (K (nI (i + 6)) m) Q) : Ok (D_L_law_1320 G fu K (nI i) μ) Q := by
  unfold D_L_law_1320 D_L_law_1385 D_L_law_3740
  simp (disch := omega) only [li0, li1, li2, li3, li4, li5, li6, n_add, gu_ib, nI_nat]
  exact law_b (lq_rung hf I _ _) hk
theorem l_D_L_law_1388 (hi : i + 6 ≤ gn G) (hG : gn G ≤ 3072) (hf : 200 < fu) (I : IX ev n c μ) (hk : ∀ m, (∃ ev n, IX ev n (c + 1) m) → Ok (K (nI (i + 6)) m) Q) : Ok (D_L_law_1388 G fu K (nI i) μ) Q := by
  unfold D_L_law_1388 D_L_law_1452 D_L_law_3740
  simp (disch := omega) only [li0, li1, li2, li3, li4, li5, li6, n_add, gu_ib, nI_nat]
  exact law_b (lq_damage hf I _ _) hk
theorem l_D_L_law_1455 (hi : i + 6 ≤ gn G) (hG : gn G ≤ 3072) (hf : 200 < fu) (I : IX ev n c μ) (hk : ∀ m, (∃ ev n, IX ev n (c + 1) m) → Ok (K (nI (i + 6)) m) Q) : Ok (D_L_law_1455 G fu K (nI i) μ) Q := by
  unfold D_L_law_1455 D_L_law_1519 D_L_law_3740
  simp (disch := omega) only [li0, li1, li2, li3, li4, li5, li6, n_add, gu_ib, nI_nat]
  exact law_b (lq_took hf I _ _) hk
theorem l_D_L_law_1522 (hi : i + 6 ≤ gn G) (hG : gn G ≤ 3072) (hf : 200 < fu) (I : IX ev n c μ) (hk : ∀ m, (∃ ev n, IX ev n (c + 1) m) → Ok (K (nI (i + 6)) m) Q) : Ok (D_L_law_1522 G fu K (nI i) μ) Q := by
  unfold D_L_law_1522 D_L_law_1586 D_L_law_3740
  simp (disch := omega) only [li0, li1, li2, li3, li4, li5, li6, n_add, gu_ib, nI_nat]
  exact law_b (lq_hole hf I _ _) hk
theorem l_D_L_law_1589 (hi : i + 6 ≤ gn G) (hG : gn G ≤ 3072) (hf : 200 < fu) (I : IX ev n c μ) (hk : ∀ m, (∃ ev n, IX ev n (c + 1) m) → Ok (K (nI (i + 6)) m) Q) : Ok (D_L_law_1589 G fu K (nI i) μ) Q := by
  unfold D_L_law_1589 D_L_law_1653 D_L_law_3740
  simp (disch := omega) only [li0, li1, li2, li3, li4, li5, li6, n_add, gu_ib, nI_nat]
  exact law_b (lq_moved hf I _ _) hk
theorem l_D_L_law_1656 (hi : i + 6 ≤ gn G) (hG : gn G ≤ 3072) (hf : 200 < fu) (I : IX ev n c μ) (hk : ∀ m, (∃ ev n, IX ev n (c + 1) m) → Ok (K (nI (i + 6)) m) Q) : Ok (D_L_law_1656 G fu K (nI i) μ) Q := by
  unfold D_L_law_1656 D_L_law_1720 D_L_law_3740
  simp (disch := omega) only [li0, li1, li2, li3, li4, li5, li6, n_add, gu_ib, nI_nat]
  exact law_b (lq_bears hf I _ _) hk
theorem l_D_L_law_1723 (hi : i + 6 ≤ gn G) (hG : gn G ≤ 3072) (hf : 200 < fu) (I : IX ev n c μ) (hk : ∀ m, (∃ ev n, IX ev n (c + 1) m) → Ok (K (nI (i + 6)) m) Q) : Ok (D_L_law_1723 G fu K (nI i) μ) Q := by
  unfold D_L_law_1723 D_L_law_1787 D_L_law_3740
  simp (disch := omega) only [li0, li1, li2, li3, li4, li5, li6, n_add, gu_ib, nI_nat]
  exact law_b (lq_falls hf I _ _) hk
theorem l_D_L_law_1790 (hi : i + 6 ≤ gn G) (hG : gn G ≤ 3072) (hf : 200 < fu) (I : IX ev n c μ) (hk : ∀ m, (∃ ev n, IX ev n (c + 1) m) → Ok (K (nI (i + 6)) m) Q) : Ok (D_L_law_1790 G fu K (nI i) μ) Q := by
  unfold D_L_law_1790 D_L_law_1854 D_L_law_3740
  simp (disch := omega) only [li0, li1, li2, li3, li4, li5, li6, n_add, gu_ib, nI_nat]
  exact law_b (lq_insurer hf I _ _) hk
theorem l_D_L_law_1857 (hi : i + 6 ≤ gn G) (hG : gn G ≤ 3072) (hf : 200 < fu) (I : IX ev n c μ) (hk : ∀ m, (∃ ev n, IX ev n (c + 1) m) → Ok (K (nI (i + 6)) m) Q) : Ok (D_L_law_1857 G fu K (nI i) μ) Q := by
  unfold D_L_law_1857 D_L_law_1909 D_L_law_3740
  simp (disch := omega) only [li0, li1, li2, li3, li4, li5, li6, n_add, gu_ib, nI_nat]
  exact law_b (lq_burden hf I _) hk
theorem l_D_L_law_1912 (hi : i + 6 ≤ gn G) (hG : gn G ≤ 3072) (hf : 200 < fu) (I : IX ev n c μ) (hk : ∀ m, (∃ ev n, IX ev n (c + 1) m) → Ok (K (nI (i + 6)) m) Q) : Ok (D_L_law_1912 G fu K (nI i) μ) Q := by
  unfold D_L_law_1912 D_L_law_1965 D_L_law_3740
  simp (disch := omega) only [li0, li1, li2, li3, li4, li5, li6, n_add, gu_ib, nI_nat]
  exact law_b (lq_rank hf I _) hk
theorem l_D_L_law_1968 (hi : i + 6 ≤ gn G) (hG : gn G ≤ 3072) (hf : 200 < fu) (I : IX ev n c μ) (hk : ∀ m, (∃ ev n, IX ev n (c + 1) m) → Ok (K (nI (i + 6)) m) Q) : Ok (D_L_law_1968 G fu K (nI i) μ) Q := by
  unfold D_L_law_1968 D_L_law_2057 D_L_law_3740
  simp (disch := omega) only [li0, li1, li2, li3, li4, li5, li6, n_add, gu_ib, nI_nat]
  exact law_b (lq_offs hf I _ _ _ _) hk
theorem l_D_L_law_2060 (hi : i + 6 ≤ gn G) (hG : gn G ≤ 3072) (hf : 200 < fu) (I : IX ev n c μ) (hk : ∀ m, (∃ ev n, IX ev n (c + 1) m) → Ok (K (nI (i + 6)) m) Q) : Ok (D_L_law_2060 G fu K (nI i) μ) Q := by
  unfold D_L_law_2060 D_L_law_2160 D_L_law_3740
  simp (disch := omega) only [li0, li1, li2, li3, li4, li5, li6, n_add, gu_ib, nI_nat]
  exact law_b (lq_would hf I _ _ _ _ _) hk
theorem l_D_L_law_2163 (hi : i + 6 ≤ gn G) (hG : gn G ≤ 3072) (hf : 200 < fu) (I : IX ev n c μ) (hk : ∀ m, (∃ ev n, IX ev n (c + 1) m) → Ok (K (nI (i + 6)) m) Q) : Ok (D_L_law_2163 G fu K (nI i) μ) Q := by
  unfold D_L_law_2163 D_L_law_2263 D_L_law_3740
  simp (disch := omega) only [li0, li1, li2, li3, li4, li5, li6, n_add, gu_ib, nI_nat]
  exact law_b (lq_takes hf I _ _ _ _ _) hk
theorem l_D_L_law_2266 (hi : i + 6 ≤ gn G) (hG : gn G ≤ 3072) (hf : 200 < fu) (I : IX ev n c μ) (hk : ∀ m, (∃ ev n, IX ev n (c + 1) m) → Ok (K (nI (i + 6)) m) Q) : Ok (D_L_law_2266 G fu K (nI i) μ) Q := by
  unfold D_L_law_2266 D_L_law_2366 D_L_law_3740
  simp (disch := omega) only [li0, li1, li2, li3, li4, li5, li6, n_add, gu_ib, nI_nat]
  exact law_b (lq_drops hf I _ _ _ _ _) hk
theorem l_D_L_law_2369 (hi : i + 6 ≤ gn G) (hG : gn G ≤ 3072) (hf : 200 < fu) (I : IX ev n c μ) (hk : ∀ m, (∃ ev n, IX ev n (c + 1) m) → Ok (K (nI (i + 6)) m) Q) : Ok (D_L_law_2369 G fu K (nI i) μ) Q := by
  unfold D_L_law_2369 D_L_law_2469 D_L_law_3740
  simp (disch := omega) only [li0, li1, li2, li3, li4, li5, li6, n_add, gu_ib, nI_nat]
  exact law_b (lq_share hf I _ _ _ _ _) hk
theorem l_D_L_law_2472 (hi : i + 6 ≤ gn G) (hG : gn G ≤ 3072) (hf : 200 < fu) (I : IX ev n c μ) (hk : ∀ m, (∃ ev n, IX ev n (c + 1) m) → Ok (K (nI (i + 6)) m) Q) : Ok (D_L_law_2472 G fu K (nI i) μ) Q := by
  unfold D_L_law_2472 D_L_law_2560 D_L_law_3740
  simp (disch := omega) only [li0, li1, li2, li3, li4, li5, li6, n_add, gu_ib, nI_nat]
  exact law_b (lq_weight hf I _ _ _ _) hk
theorem l_D_L_law_2563 (hi : i + 6 ≤ gn G) (hG : gn G ≤ 3072) (hf : 200 < fu) (I : IX ev n c μ) (hk : ∀ m, (∃ ev n, IX ev n (c + 1) m) → Ok (K (nI (i + 6)) m) Q) : Ok (D_L_law_2563 G fu K (nI i) μ) Q := by
  unfold D_L_law_2563 D_L_law_2652 D_L_law_3740
  simp (disch := omega) only [li0, li1, li2, li3, li4, li5, li6, n_add, gu_ib, nI_nat]
  exact law_b (lq_picks hf I _ _ _ _) hk
theorem l_D_L_law_2655 (hi : i + 6 ≤ gn G) (hG : gn G ≤ 3072) (hf : 200 < fu) (I : IX ev n c μ) (hk : ∀ m, (∃ ev n, IX ev n (c + 1) m) → Ok (K (nI (i + 6)) m) Q) : Ok (D_L_law_2655 G fu K (nI i) μ) Q := by
  unfold D_L_law_2655 D_L_law_2743 D_L_law_3740
  simp (disch := omega) only [li0, li1, li2, li3, li4, li5, li6, n_add, gu_ib, nI_nat]
  exact law_b (lq_other hf I _ _ _ _) hk
theorem l_D_L_law_2746 (hi : i + 6 ≤ gn G) (hG : gn G ≤ 3072) (hf : 200 < fu) (I : IX ev n c μ) (hk : ∀ m, (∃ ev n, IX ev n (c + 1) m) → Ok (K (nI (i + 6)) m) Q) : Ok (D_L_law_2746 G fu K (nI i) μ) Q := by
  unfold D_L_law_2746 D_L_law_2810 D_L_law_3740
  simp (disch := omega) only [li0, li1, li2, li3, li4, li5, li6, n_add, gu_ib, nI_nat]
  exact law_b (lq_best hf I _ _) hk
theorem l_D_L_law_2813 (hi : i + 6 ≤ gn G) (hG : gn G ≤ 3072) (hf : 200 < fu) (I : IX ev n c μ) (hk : ∀ m, (∃ ev n, IX ev n (c + 1) m) → Ok (K (nI (i + 6)) m) Q) : Ok (D_L_law_2813 G fu K (nI i) μ) Q := by
  unfold D_L_law_2813 D_L_law_2877 D_L_law_3740
  simp (disch := omega) only [li0, li1, li2, li3, li4, li5, li6, n_add, gu_ib, nI_nat]
  exact law_b (lq_without hf I _ _) hk
theorem l_D_L_law_2880 (hi : i + 6 ≤ gn G) (hG : gn G ≤ 3072) (hf : 200 < fu) (I : IX ev n c μ) (hk : ∀ m, (∃ ev n, IX ev n (c + 1) m) → Ok (K (nI (i + 6)) m) Q) : Ok (D_L_law_2880 G fu K (nI i) μ) Q := by
  unfold D_L_law_2880 D_L_law_2933 D_L_law_3740
  simp (disch := omega) only [li0, li1, li2, li3, li4, li5, li6, n_add, gu_ib, nI_nat]
  exact law_b (lq_undone hf I _) hk
theorem l_D_L_law_2936 (hi : i + 6 ≤ gn G) (hG : gn G ≤ 3072) (hf : 200 < fu) (I : IX ev n c μ) (hk : ∀ m, (∃ ev n, IX ev n (c + 1) m) → Ok (K (nI (i + 6)) m) Q) : Ok (D_L_law_2936 G fu K (nI i) μ) Q := by
  unfold D_L_law_2936 D_L_law_2988 D_L_law_3740
  simp (disch := omega) only [li0, li1, li2, li3, li4, li5, li6, n_add, gu_ib, nI_nat]
  exact law_b (lq_spared hf I _) hk
theorem l_D_L_law_2991 (hi : i + 6 ≤ gn G) (hG : gn G ≤ 3072) (hf : 200 < fu) (I : IX ev n c μ) (hk : ∀ m, (∃ ev n, IX ev n (c + 1) m) → Ok (K (nI (i + 6)) m) Q) : Ok (D_L_law_2991 G fu K (nI i) μ) Q := by
  unfold D_L_law_2991 D_L_law_3067 D_L_law_3740
  simp (disch := omega) only [li0, li1, li2, li3, li4, li5, li6, n_add, gu_ib, nI_nat]
  exact law_b (lq_shift hf I _ _ _) hk
theorem l_D_L_law_3070 (hi : i + 6 ≤ gn G) (hG : gn G ≤ 3072) (hf : 200 < fu) (I : IX ev n c μ) (hk : ∀ m, (∃ ev n, IX ev n (c + 1) m) → Ok (K (nI (i + 6)) m) Q) : Ok (D_L_law_3070 G fu K (nI i) μ) Q := by
  unfold D_L_law_3070 D_L_law_3134 D_L_law_3740
  simp (disch := omega) only [li0, li1, li2, li3, li4, li5, li6, n_add, gu_ib, nI_nat]
  exact law_b (lq_after hf I _ _) hk
theorem l_D_L_law_3137 (hi : i + 6 ≤ gn G) (hG : gn G ≤ 3072) (hf : 200 < fu) (I : IX ev n c μ) (hk : ∀ m, (∃ ev n, IX ev n (c + 1) m) → Ok (K (nI (i + 6)) m) Q) : Ok (D_L_law_3137 G fu K (nI i) μ) Q := by
  unfold D_L_law_3137 D_L_law_3190 D_L_law_3740
  simp (disch := omega) only [li0, li1, li2, li3, li4, li5, li6, n_add, gu_ib, nI_nat]
  exact law_b (lq_usedUp hf I _) hk
theorem l_D_L_law_3193 (hi : i + 6 ≤ gn G) (hG : gn G ≤ 3072) (hf : 200 < fu) (I : IX ev n c μ) (hk : ∀ m, (∃ ev n, IX ev n (c + 1) m) → Ok (K (nI (i + 6)) m) Q) : Ok (D_L_law_3193 G fu K (nI i) μ) Q := by
  unfold D_L_law_3193 D_L_law_3257 D_L_law_3740
  simp (disch := omega) only [li0, li1, li2, li3, li4, li5, li6, n_add, gu_ib, nI_nat]
  exact law_b (lq_heaviest hf I _ _) hk
theorem l_D_L_law_3260 (hi : i + 6 ≤ gn G) (hG : gn G ≤ 3072) (hf : 200 < fu) (I : IX ev n c μ) (hk : ∀ m, (∃ ev n, IX ev n (c + 1) m) → Ok (K (nI (i + 6)) m) Q) : Ok (D_L_law_3260 G fu K (nI i) μ) Q := by
  unfold D_L_law_3260 D_L_law_3337 D_L_law_3740
  simp (disch := omega) only [li0, li1, li2, li3, li4, li5, li6, n_add, gu_ib, nI_nat]
  exact law_b (lq_cover hf I _ _ _) hk
theorem l_D_L_law_3340 (hi : i + 6 ≤ gn G) (hG : gn G ≤ 3072) (hf : 200 < fu) (I : IX ev n c μ) (hk : ∀ m, (∃ ev n, IX ev n (c + 1) m) → Ok (K (nI (i + 6)) m) Q) : Ok (D_L_law_3340 G fu K (nI i) μ) Q := by
  unfold D_L_law_3340 D_L_law_3392 D_L_law_3740
  simp (disch := omega) only [li0, li1, li2, li3, li4, li5, li6, n_add, gu_ib, nI_nat]
  exact law_b (lq_reach hf I _) hk
theorem l_D_L_law_3395 (hi : i + 6 ≤ gn G) (hG : gn G ≤ 3072) (hf : 200 < fu) (I : IX ev n c μ) (hk : ∀ m, (∃ ev n, IX ev n (c + 1) m) → Ok (K (nI (i + 6)) m) Q) : Ok (D_L_law_3395 G fu K (nI i) μ) Q := by
  unfold D_L_law_3395 D_L_law_3495 D_L_law_3740
  simp (disch := omega) only [li0, li1, li2, li3, li4, li5, li6, n_add, gu_ib, nI_nat]
  exact law_b (lq_uneven hf I _ _ _ _ _) hk
theorem l_D_L_law_3498 (hi : i + 6 ≤ gn G) (hG : gn G ≤ 3072) (hf : 200 < fu) (I : IX ev n c μ) (hk : ∀ m, (∃ ev n, IX ev n (c + 1) m) → Ok (K (nI (i + 6)) m) Q) : Ok (D_L_law_3498 G fu K (nI i) μ) Q := by
  unfold D_L_law_3498 D_L_law_3563 D_L_law_3740
  simp (disch := omega) only [li0, li1, li2, li3, li4, li5, li6, n_add, gu_ib, nI_nat]
  exact law_b (lq_widest hf I _ _) hk
theorem l_D_L_law_3566 (hi : i + 6 ≤ gn G) (hG : gn G ≤ 3072) (hf : 200 < fu) (I : IX ev n c μ) (hk : ∀ m, (∃ ev n, IX ev n (c + 1) m) → Ok (K (nI (i + 6)) m) Q) : Ok (D_L_law_3566 G fu K (nI i) μ) Q := by
  unfold D_L_law_3566 D_L_law_3618 D_L_law_3740
  simp (disch := omega) only [li0, li1, li2, li3, li4, li5, li6, n_add, gu_ib, nI_nat]
  exact law_b (lq_strongest hf I _) hk
theorem l_D_L_law_3621 (hi : i + 6 ≤ gn G) (hG : gn G ≤ 3072) (hf : 200 < fu) (I : IX ev n c μ) (hk : ∀ m, (∃ ev n, IX ev n (c + 1) m) → Ok (K (nI (i + 6)) m) Q) : Ok (D_L_law_3621 G fu K (nI i) μ) Q := by
  unfold D_L_law_3621 D_L_law_3698 D_L_law_3740
  simp (disch := omega) only [li0, li1, li2, li3, li4, li5, li6, n_add, gu_ib, nI_nat]
  exact law_b (lq_holds hf I _ _ _) hk
theorem l_D_L_law_3701 (hi : i + 6 ≤ gn G) (hG : gn G ≤ 3072) (hf : 200 < fu) (I : IX ev n c μ) (hk : ∀ m, (∃ ev n, IX ev n (c + 1) m) → Ok (K (nI (i + 6)) m) Q) : Ok (D_L_law_3701 G fu K (nI i) μ) Q := by
  obtain ⟨v, m, e1, e2, J⟩ := l_spent hf I
  unfold D_L_law_3701 D_L_law_3740
  rw [e1, bi_s, e2, bi_s, if_pos rfl, li6, n_add]
  exact hk m ⟨_, _, J⟩
theorem l_D_L_law_3715 (hi : i + 6 ≤ gn G) (hG : gn G ≤ 3072) (hf : 200 < fu) (I : IX ev n c μ) (hk : ∀ m, (∃ ev n, IX ev n (c + 1) m) → Ok (K (nI (i + 6)) m) Q) : Ok (D_L_law_3715 G fu K (nI i) μ) Q := by
  obtain ⟨v, m, e1, e2, J⟩ := l_status I (gx G (i + 1))
  unfold D_L_law_3715 D_L_law_3740
  simp (disch := omega) only [li0, li1, li2, li3, li4, li5, li6, n_add, gu_ib, nI_nat]
  rw [e1, bi_s, e2, bi_s, if_pos rfl]
  exact hk m ⟨_, _, J⟩
end
