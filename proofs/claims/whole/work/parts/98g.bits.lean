/-! numbers of bits -/
def bcV (a0 : Int32) : Int32 :=
  let x1 := a0 - (((a0.toUInt32 >>> (Int32.toUInt32 1 &&& Int32.toUInt32 31)).toInt32) &&& 1431655765)
  let x3 := (x1 &&& 858993459) + (((x1.toUInt32 >>> (Int32.toUInt32 2 &&& Int32.toUInt32 31)).toInt32) &&& 858993459)
  let x5 := (x3 + ((x3.toUInt32 >>> (Int32.toUInt32 4 &&& Int32.toUInt32 31)).toInt32)) &&& 252645135
  let x7 := x5 + ((x5.toUInt32 >>> (Int32.toUInt32 8 &&& Int32.toUInt32 31)).toInt32)
  let x9 := x7 + ((x7.toUInt32 >>> (Int32.toUInt32 16 &&& Int32.toUInt32 31)).toInt32)
  x9 &&& 63
theorem c_bc (μ : Mem) (a : Int32) : D_J6_bitCount_0f7a4_0 μ a = some (bcV a) := rfl
/-- the model's loop -/
def btV : Nat → Int32 → Int32 → Option Int32
  | 0, _, _ => none
  | n + 1, v1, v2 => if v2 = 0 then some v1 else btV n (v1 + 1) (v2 &&& (v2 - 1))
theorem bt_e (fu : Nat) (μ : Mem) : ∀ q v w, D_X7_bits_4 fu μ q v w = btV q v w
  | 0, _, _ => rfl
  | q + 1, v, w => by
    show (if w = 0 then some v else D_X7_bits_4 fu μ q (v + 1) (w &&& (w - 1))) = if w = 0 then some v else btV q (v + 1) (w &&& (w - 1))
    rw [bt_e fu μ q]
theorem bt_mo : ∀ q d v w r, btV q v w = some r → btV (q + d) v w = some r
  | 0, _, _, _, _, h => by cases h
  | q + 1, d, v, w, r, h => by
    rw [show q + 1 + d = (q + d) + 1 by omega]
    unfold btV at h ⊢
    by_cases c : w = 0
    · rw [if_pos c] at h ⊢; exact h
    · rw [if_neg c] at h ⊢; exact bt_mo q d _ _ _ h
def b12 : Nat → Bool
  | 0 => true
  | n + 1 => b12 n && (btV 13 0 (Int32.ofNat n) == some (bcV (Int32.ofNat n)))
set_option maxRecDepth 100000 in
theorem b12_t : b12 4096 = true := by decide +kernel
theorem b12_s : ∀ n, b12 n = true → ∀ k, k < n → btV 13 0 (nI k) = some (bcV (nI k))
  | 0, _, k, h => absurd h (Nat.not_lt_zero k)
  | n + 1, h, k, hk => by
    unfold b12 at h
    rw [Bool.and_eq_true] at h
    by_cases e : k = n
    · subst e; exact eq_of_beq h.2
    · exact b12_s n h.1 k (by omega)
theorem m_bits {fu : Nat} (hf : 200 < fu) (μ : Mem) {v : Nat} (hv : v < 4096) : D_X7_bits_0 fu μ (nI v) = some (bcV (nI v)) := by
  unfold D_X7_bits_0
  rw [bt_e, show fu = 13 + (fu - 13) by omega]
  exact bt_mo 13 _ 0 (nI v) _ (b12_s 4096 b12_t v hv)
/-- those of ten who stand so -/
def ct10 (f : Nat → Bool) : Nat → Nat
  | 0 => 0
  | n + 1 => ct10 f n + if f n then 1 else 0
set_option maxRecDepth 100000 in
theorem b9 : ∀ b1 b2 b3 b4 b5 b6 b7 b8 b9 : Bool, bcV (nI (((((((((0 ||| (if b1 then 2 else 0)) ||| (if b2 then 4 else 0)) ||| (if b3 then 8 else 0)) ||| (if b4 then 16 else 0)) ||| (if b5 then 32 else 0)) ||| (if b6 then 64 else 0)) ||| (if b7 then 128 else 0)) ||| (if b8 then 256 else 0)) ||| (if b9 then 512 else 0))) = nI ((((((((((0 + (if b1 then 1 else 0)) + (if b2 then 1 else 0)) + (if b3 then 1 else 0)) + (if b4 then 1 else 0)) + (if b5 then 1 else 0)) + (if b6 then 1 else 0)) + (if b7 then 1 else 0)) + (if b8 then 1 else 0)) + (if b9 then 1 else 0))) := by decide +kernel
theorem bc_10 (f : Nat → Bool) (h0 : f 0 = false) : bcV (nI (orb f 10)) = nI (ct10 f 10) := by
  have e1 : orb f 10 = ((((((((0 ||| (if f 1 then 2 else 0)) ||| (if f 2 then 4 else 0)) ||| (if f 3 then 8 else 0)) ||| (if f 4 then 16 else 0)) ||| (if f 5 then 32 else 0)) ||| (if f 6 then 64 else 0)) ||| (if f 7 then 128 else 0)) ||| (if f 8 then 256 else 0)) ||| (if f 9 then 512 else 0) := by
    show ((((((((((0 ||| (if f 0 then 2 ^ 0 else 0)) ||| (if f 1 then 2 ^ 1 else 0)) ||| (if f 2 then 2 ^ 2 else 0)) ||| (if f 3 then 2 ^ 3 else 0)) ||| (if f 4 then 2 ^ 4 else 0)) ||| (if f 5 then 2 ^ 5 else 0)) ||| (if f 6 then 2 ^ 6 else 0)) ||| (if f 7 then 2 ^ 7 else 0)) ||| (if f 8 then 2 ^ 8 else 0)) ||| (if f 9 then 2 ^ 9 else 0)) = _
    rw [h0]; rfl
  have e2 : ct10 f 10 = ((((((((0 + (if f 1 then 1 else 0)) + (if f 2 then 1 else 0)) + (if f 3 then 1 else 0)) + (if f 4 then 1 else 0)) + (if f 5 then 1 else 0)) + (if f 6 then 1 else 0)) + (if f 7 then 1 else 0)) + (if f 8 then 1 else 0)) + (if f 9 then 1 else 0) := by
    show ((((((((((0 + (if f 0 then 1 else 0)) + (if f 1 then 1 else 0)) + (if f 2 then 1 else 0)) + (if f 3 then 1 else 0)) + (if f 4 then 1 else 0)) + (if f 5 then 1 else 0)) + (if f 6 then 1 else 0)) + (if f 7 then 1 else 0)) + (if f 8 then 1 else 0)) + (if f 9 then 1 else 0)) = _
    rw [h0]; rfl
  rw [e1, e2]
  exact b9 _ _ _ _ _ _ _ _ _
theorem ct_le (f : Nat → Bool) : ∀ n, ct10 f n ≤ n
  | 0 => Nat.le_refl _
  | n + 1 => by
    have := ct_le f n
    show ct10 f n + _ ≤ _
    split <;> omega
theorem m_standing {fu N v : Nat} {m : Mem} {s : Sp} (hf : 200 < fu) (hv : v < 3) (R : RM m s) (H : Iv N s) : D_X7_standing_0 fu m (nI v) = some (nI (ct10 (fun i => decide (i ≠ 0 ∧ sd s i = v)) 10)) := by
  unfold D_X7_standing_0
  have K := eq_for (fun q i => D_X7_standing_4 fu m q (nI v) (nI (ct10 (fun i => decide (i ≠ 0 ∧ sd s i = v)) (i + 1))) (nI (i + 1))) 9 (some (nI (ct10 (fun i => decide (i ≠ 0 ∧ sd s i = v)) 10))) ?_ ?_ fu 0 (by omega) (by omega)
  · exact K
  · intro q i hi
    have s3 := IvR_sd H.R (show i + 1 < 10 by omega)
    have l := ct_le (fun i => decide (i ≠ 0 ∧ sd s i = v)) (i + 1)
    show D_X7_standing_4 fu m (q + 1) (nI v) (nI (ct10 (fun i => decide (i ≠ 0 ∧ sd s i = v)) (i + 1))) (nI (i + 1)) = D_X7_standing_4 fu m q (nI v) (nI (ct10 (fun i => decide (i ≠ 0 ∧ sd s i = v)) (i + 1) + if (decide (i + 1 ≠ 0 ∧ sd s (i + 1) = v)) = true then 1 else 0)) (nI (i + 1 + 1))
    simp (disch := omega) only [D_X7_standing_4, D_X7_standing_26, li0, li1, li2, li3, li4, li5, li6, li7, li8, li9, li10, li12, li24, li31, li40, li160, n_le, n_lt, n_eq, n_m1, n_add, mr4, mr6, mr7, mr10, mr40, mr160, ml4, ml6, ml7, ml10, ml40, ml160, gu_ib, nI_nat, bi_s, vl_e, gu_t, if_true, if_false, reduceIte, bt1_1, bt1_2, bt1_3, bt1_4, bt1_5, bt1_6, bt1_7, bt1_8, bt1_9, bt1_10, bt1_11, bt1_12, bt14_1, bt14_2, bt14_3, bt14_4, bt14_5, bt14_6, bt14_7, bt14_8, bt14_9, bt14_10, bt14_11, bt14_12, M_sd R (show i + 1 < 10 by omega)]
    rw [if_neg (by omega)]
    by_cases c : sd s (i + 1) = v
    · rw [if_pos c, if_pos (decide_eq_true ⟨by omega, c⟩)]
    · rw [if_neg c, if_neg (by simp [c])]
  · intro q
    show D_X7_standing_4 fu m (q + 1) (nI v) (nI (ct10 (fun i => decide (i ≠ 0 ∧ sd s i = v)) 10)) (nI 10) = _
    rw [D_X7_standing_4, if_pos (by decide)]
