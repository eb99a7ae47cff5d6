/-! the law's loop, all calls -/
section
variable {fu : Nat} {G : GX}
def lE (r : Bool × Mem) : Prop := r.1 = true ∧ r.2.2.2.1 ≤ 1156 ∧ r.2.2.2.2 ≤ 36173
theorem IX_c {ev : Nat → Ev} {n c : Nat} {μ : Mem} (I : IX ev n c μ) : IX ev n (c + 1) μ := by
  obtain ⟨G, V, C, D, R, b1, b2⟩ := I
  exact ⟨G, V, C, D, R, by omega, by omega⟩
theorem law_loop (hG : gn G ≤ 3072) (hf : 200 < fu) : ∀ (q c : Nat) (ev : Nat → Ev) (n : Nat) (μ : Mem), IX ev n c μ → 6 * c ≤ gn G → gn G / 6 - c < q → Ok (D_L_law_23 G fu q (nI (6 * c)) μ) lE
  | 0, c, _, _, _, _, _, h => absurd h (Nat.not_lt_zero _)
  | q + 1, c, ev, n, μ, I, hc, hq => by
    have s6 : (Int32.ofNat (gn G) - 6).toInt = (gn G : Int) - 6 := n_subi (a := gn G) (b := 6) (by omega) (by omega)
    have c6 : (nI (6 * c)).toInt = ((6 * c : Nat) : Int) := nI_toInt (by omega)
    rw [D_L_law_23]
    by_cases z : gn G < 6 * c + 6
    · rw [if_pos (by rw [Int32.lt_iff_toInt_lt, s6, c6]; omega)]
      obtain ⟨-, -, -, -, -, b1, b2⟩ := I
      exact Ok.s ⟨rfl, by show μ.2.2.1 ≤ 1156; omega, by show μ.2.2.2 ≤ 36173; omega⟩
    · rw [if_neg (by rw [Int32.lt_iff_toInt_lt, s6, c6]; omega), gu_ib (show 6 * c < gn G by omega) (by omega), nI_nat (by omega)]
      have hi : 6 * c + 6 ≤ gn G := by omega
      have hk : ∀ m, (∃ ev n, IX ev n (c + 1) m) → Ok (D_L_law_23 G fu q (nI (6 * c + 6)) m) lE := fun m ⟨ev', n', J⟩ => law_loop hG hf q (c + 1) ev' n' m J (by omega) (by omega)
      generalize gx G (6 * c) &&& 63 = w
      by_cases w0 : w = 0
      · rw [if_pos w0]; exact l_D_L_law_256 hi hG hf I hk
      rw [if_neg w0]
      by_cases w1 : w = 1
      · rw [if_pos w1]; exact l_D_L_law_348 hi hG hf I hk
      rw [if_neg w1]
      by_cases w2 : w = 2
      · rw [if_pos w2]; exact l_D_L_law_428 hi hG hf I hk
      rw [if_neg w2]
      by_cases w3 : w = 3
      · rw [if_pos w3]; exact l_D_L_law_484 hi hG hf I hk
      rw [if_neg w3]
      by_cases w4 : w = 4
      · rw [if_pos w4]; exact l_D_L_law_564 hi hG hf I hk
      rw [if_neg w4]
      by_cases w5 : w = 5
      · rw [if_pos w5]; exact l_D_L_law_656 hi hG hf I hk
      rw [if_neg w5]
      by_cases w6 : w = 6
      · rw [if_pos w6]; exact l_D_L_law_723 hi hG hf I hk
      rw [if_neg w6]
      by_cases w7 : w = 7
      · rw [if_pos w7]; exact l_D_L_law_791 hi hG hf I hk
      rw [if_neg w7]
      by_cases w8 : w = 8
      · rw [if_pos w8]; exact l_D_L_law_847 hi hG hf I hk
      rw [if_neg w8]
      by_cases w9 : w = 9
      · rw [if_pos w9]; exact l_D_L_law_902 hi hG hf I hk
      rw [if_neg w9]
      by_cases w10 : w = 10
      · rw [if_pos w10]; exact l_D_L_law_915 hi hG hf I hk
      rw [if_neg w10]
      by_cases w11 : w = 11
      · rw [if_pos w11]; exact l_D_L_law_971 hi hG hf I hk
      rw [if_neg w11]
      by_cases w12 : w = 12
      · rw [if_pos w12]; exact l_D_L_law_1039 hi hG hf I hk
      rw [if_neg w12]
      by_cases w13 : w = 13
      · rw [if_pos w13]; exact l_D_L_law_1106 hi hG hf I hk
      rw [if_neg w13]
      by_cases w14 : w = 14
      · rw [if_pos w14]; exact l_D_L_law_1185 hi hG hf I hk
      rw [if_neg w14]
      by_cases w15 : w = 15
      · rw [if_pos w15]; exact l_D_L_law_1252 hi hG hf I hk
      rw [if_neg w15]
      by_cases w16 : w = 16
      · rw [if_pos w16]; exact l_D_L_law_1320 hi hG hf I hk
      rw [if_neg w16]
      by_cases w17 : w = 17
      · rw [if_pos w17]; exact l_D_L_law_1388 hi hG hf I hk
      rw [if_neg w17]
      by_cases w18 : w = 18
      · rw [if_pos w18]; exact l_D_L_law_1455 hi hG hf I hk
      rw [if_neg w18]
      by_cases w19 : w = 19
      · rw [if_pos w19]; exact l_D_L_law_1522 hi hG hf I hk
      rw [if_neg w19]
      by_cases w20 : w = 20
      · rw [if_pos w20]; exact l_D_L_law_1589 hi hG hf I hk
      rw [if_neg w20]
      by_cases w21 : w = 21
      · rw [if_pos w21]; exact l_D_L_law_1656 hi hG hf I hk
      rw [if_neg w21]
      by_cases w22 : w = 22
      · rw [if_pos w22]; exact l_D_L_law_1723 hi hG hf I hk
      rw [if_neg w22]
      by_cases w23 : w = 23
      · rw [if_pos w23]; exact l_D_L_law_1790 hi hG hf I hk
      rw [if_neg w23]
      by_cases w24 : w = 24
      · rw [if_pos w24]; exact l_D_L_law_1857 hi hG hf I hk
      rw [if_neg w24]
      by_cases w25 : w = 25
      · rw [if_pos w25]; exact l_D_L_law_1912 hi hG hf I hk
      rw [if_neg w25]
      by_cases w26 : w = 26
      · rw [if_pos w26]; exact l_D_L_law_1968 hi hG hf I hk
      rw [if_neg w26]
      by_cases w27 : w = 27
      · rw [if_pos w27]; exact l_D_L_law_2060 hi hG hf I hk
      rw [if_neg w27]
      by_cases w28 : w = 28
      · rw [if_pos w28]; exact l_D_L_law_2163 hi hG hf I hk
      rw [if_neg w28]
      by_cases w29 : w = 29
      · rw [if_pos w29]; exact l_D_L_law_2266 hi hG hf I hk
      rw [if_neg w29]
      by_cases w30 : w = 30
      · rw [if_pos w30]; exact l_D_L_law_2369 hi hG hf I hk
      rw [if_neg w30]
      by_cases w31 : w = 31
      · rw [if_pos w31]; exact l_D_L_law_2472 hi hG hf I hk
      rw [if_neg w31]
      by_cases w32 : w = 32
      · rw [if_pos w32]; exact l_D_L_law_2563 hi hG hf I hk
      rw [if_neg w32]
      by_cases w33 : w = 33
      · rw [if_pos w33]; exact l_D_L_law_2655 hi hG hf I hk
      rw [if_neg w33]
      by_cases w34 : w = 34
      · rw [if_pos w34]; exact l_D_L_law_2746 hi hG hf I hk
      rw [if_neg w34]
      by_cases w35 : w = 35
      · rw [if_pos w35]; exact l_D_L_law_2813 hi hG hf I hk
      rw [if_neg w35]
      by_cases w36 : w = 36
      · rw [if_pos w36]; exact l_D_L_law_2880 hi hG hf I hk
      rw [if_neg w36]
      by_cases w37 : w = 37
      · rw [if_pos w37]; exact l_D_L_law_2936 hi hG hf I hk
      rw [if_neg w37]
      by_cases w38 : w = 38
      · rw [if_pos w38]; exact l_D_L_law_2991 hi hG hf I hk
      rw [if_neg w38]
      by_cases w39 : w = 39
      · rw [if_pos w39]; exact l_D_L_law_3070 hi hG hf I hk
      rw [if_neg w39]
      by_cases w40 : w = 40
      · rw [if_pos w40]; exact l_D_L_law_3137 hi hG hf I hk
      rw [if_neg w40]
      by_cases w41 : w = 41
      · rw [if_pos w41]; exact l_D_L_law_3193 hi hG hf I hk
      rw [if_neg w41]
      by_cases w42 : w = 42
      · rw [if_pos w42]; exact l_D_L_law_3260 hi hG hf I hk
      rw [if_neg w42]
      by_cases w43 : w = 43
      · rw [if_pos w43]; exact l_D_L_law_3340 hi hG hf I hk
      rw [if_neg w43]
      by_cases w44 : w = 44
      · rw [if_pos w44]; exact l_D_L_law_3395 hi hG hf I hk
      rw [if_neg w44]
      by_cases w45 : w = 45
      · rw [if_pos w45]; exact l_D_L_law_3498 hi hG hf I hk
      rw [if_neg w45]
      by_cases w46 : w = 46
      · rw [if_pos w46]; exact l_D_L_law_3566 hi hG hf I hk
      rw [if_neg w46]
      by_cases w47 : w = 47
      · rw [if_pos w47]; exact l_D_L_law_3621 hi hG hf I hk
      rw [if_neg w47]
      by_cases w48 : w = 48
      · rw [if_pos w48]; exact l_D_L_law_3701 hi hG hf I hk
      rw [if_neg w48]
      by_cases w49 : w = 49
      · rw [if_pos w49]; exact l_D_L_law_3715 hi hG hf I hk
      rw [if_neg w49]
      unfold D_L_law_3740
      rw [li6, n_add]
      exact hk μ ⟨ev, n, IX_c I⟩
end
