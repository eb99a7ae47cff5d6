/-! rooms; rows that are filled; shares -/
/-- where the hole of a layer begins -/
def flo (s : Sp) (y : Nat) : Nat → Nat
  | 0 => 0
  | k + 1 => tp s (rg s (6 * y + k))
theorem flo_b {s : Sp} (H : IvT s) {y k : Nat} (hy : y < 12) (hk : k < hg s y) : flo s y k ≤ fr s (rg s (6 * y + k)) ∧ hl s (rg s (6 * y + k)) = fr s (rg s (6 * y + k)) - flo s y k := by
  cases k with
  | zero =>
    have := IvT_h0 H hy hk
    refine ⟨Nat.zero_le _, ?_⟩
    show hl s (rg s (6 * y)) = fr s (rg s (6 * y)) - 0
    omega
  | succ k => exact ⟨IvT_st H hy hk, IvT_hk H hy hk⟩
theorem flo_le {s : Sp} (H : IvT s) {y k : Nat} (hy : y < 12) (hk : k ≤ hg s y) : flo s y k ≤ 1000000000 := by
  cases k with
  | zero => exact Nat.zero_le _
  | succ k => exact tp_le H (IvT_rg H hy hk) (IvT_ri H hy hk)
theorem z_min {a b : Int} : (if b ≤ a then zL b else zL a) = zL (min b a) := by
  rw [Int.min_def]; split <;> rfl
theorem z_max0 {a : Int} : (if a ≤ 0 then zL 0 else zL a) = zL (max a 0) := by
  rw [Int.max_def]; split
  · rfl
  · rw [show a = a from rfl]
section
variable {b N fu h : Nat} {μ : Mem} {s : Sp}
theorem c_canTake {l : Nat} (hh : h < 25) (hq : isH s h = 1 ∨ h = 24) (hl : l < 40) (h1 : isL s l = 1) (C : RC b μ s) (H : Iv N s) : D_X0_canTake_0 μ b (nI h) (nI l) = some (zL (cT s h l)) := by
  have a := IvH_tk H.H hh hl
  have z := IvT_sz H.T hl h1
  have t := IvT_tm H.T hl h1
  have lb := lf_b hl h1 H
  have tb : (sz s l : Int) - tk s (40 * h + l) ≤ 100000000 := by omega
  simp (disch := omega) only [D_X0_canTake_0, li0, li1, li2, li3, li4, li5, li6, li7, li8, li9, li10, li12, li24, li31, li40, li160, n_le, n_lt, n_eq, n_m1, n_add, mr4, mr6, mr7, mr10, mr40, mr160, ml4, ml6, ml7, ml10, ml40, ml160, gu_ib, nI_nat, bi_s, vl_e, gu_t, if_true, if_false, reduceIte, bt1_1, bt1_2, bt1_3, bt1_4, bt1_5, bt1_6, bt1_7, bt1_8, bt1_9, bt1_10, bt1_11, bt1_12, bt14_1, bt14_2, bt14_3, bt14_4, bt14_5, bt14_6, bt14_7, bt14_8, bt14_9, bt14_10, bt14_11, bt14_12, C_sz C hl h1, C_tm C hl h1, C_us C hl h1, C_tk C hh hq hl, n_L, z_add, z_sub, z_mul, z_neg]
  have e : (sz s l : Int) * (tm s l : Int) - us s l = lf s l := rfl
  rw [e]
  unfold cT
  simp (disch := omega) only [z_le]
  rw [Int.min_def]
  split <;> rfl
theorem c_hole {y k : Nat} (hh : h < 25) (hq : isH s h = 1 ∨ h = 24) (hy : y < 12) (hk : k < hg s y) (C : RC b μ s) (H : Iv N s) : D_X0_holeCanTake_0 μ b (nI h) (nI (rg s (6 * y + k))) (nI (flo s y k)) = some (zL (hL s h (rg s (6 * y + k)))) := by
  have r4 := IvT_rg H.T hy hk
  have r1 := IvT_ri H.T hy hk
  have f9 := IvT_fr H.T r4 r1
  have fb := flo_b H.T hy hk
  have t := IvH_th H.H hh r4
  have h9 : hl s (rg s (6 * y + k)) ≤ 900000000 := by omega
  have fs := n_sub fb.1
  rw [← fb.2] at fs
  simp (disch := omega) only [D_X0_holeCanTake_0, li0, li1, li2, li3, li4, li5, li6, li7, li8, li9, li10, li12, li24, li31, li40, li160, n_le, n_lt, n_eq, n_m1, n_add, mr4, mr6, mr7, mr10, mr40, mr160, ml4, ml6, ml7, ml10, ml40, ml160, gu_ib, nI_nat, bi_s, vl_e, gu_t, if_true, if_false, reduceIte, bt1_1, bt1_2, bt1_3, bt1_4, bt1_5, bt1_6, bt1_7, bt1_8, bt1_9, bt1_10, bt1_11, bt1_12, bt14_1, bt14_2, bt14_3, bt14_4, bt14_5, bt14_6, bt14_7, bt14_8, bt14_9, bt14_10, bt14_11, bt14_12, C_fr C r4 r1, C_th C hh hq r4, fs, n_L, z_add, z_sub, z_mul, z_neg, ll0, ll1, ll2, ll10, ll2e9, z_le]
  unfold hL
  rw [Int.max_def]
  split <;> rfl
theorem c_room {y : Nat} (hf : 200 < fu) (hh : h < 25) (hq : isH s h = 1 ∨ h = 24) (hy : y < 12) (C : RC b μ s) (H : Iv N s) : D_X0_roomOf_0 fu μ b (nI h) (nI y) = some (zL (rmS s h y)) := by
  have h6 := IvT_hg H.T hy
  unfold D_X0_roomOf_0
  refine eq_for (fun n k => D_X0_roomOf_8 fu μ b n (nI h) (nI y) (zL (sm (fun k => cT s h (rg s (6 * y + k)) + hL s h (rg s (6 * y + k))) k)) (nI (flo s y k)) (nI k)) (hg s y) _ ?_ ?_ fu 0 (by omega) (by omega)
  · intro n k hk
    have r4 := IvT_rg H.T hy hk
    have r1 := IvT_ri H.T hy hk
    simp (disch := omega) only [D_X0_roomOf_8, li0, li1, li2, li3, li4, li5, li6, li7, li8, li9, li10, li12, li24, li31, li40, li160, n_le, n_lt, n_eq, n_m1, n_add, mr4, mr6, mr7, mr10, mr40, mr160, ml4, ml6, ml7, ml10, ml40, ml160, gu_ib, nI_nat, bi_s, vl_e, gu_t, if_true, if_false, reduceIte, bt1_1, bt1_2, bt1_3, bt1_4, bt1_5, bt1_6, bt1_7, bt1_8, bt1_9, bt1_10, bt1_11, bt1_12, bt14_1, bt14_2, bt14_3, bt14_4, bt14_5, bt14_6, bt14_7, bt14_8, bt14_9, bt14_10, bt14_11, bt14_12, C_hg C hy, C_rg C hy hk, c_hole hh hq hy hk C H, c_canTake hh hq r4 r1 C H, C_fr C r4 r1, C_sz C r4 r1, z_add, z_sub, z_mul, z_neg]
    rw [if_neg (by omega), sm_s, Int.add_comm (cT s h (rg s (6 * y + k)))]; rfl
  · intro n
    simp (disch := omega) only [D_X0_roomOf_8, li0, li1, li2, li3, li4, li5, li6, li7, li8, li9, li10, li12, li24, li31, li40, li160, n_le, n_lt, n_eq, n_m1, n_add, mr4, mr6, mr7, mr10, mr40, mr160, ml4, ml6, ml7, ml10, ml40, ml160, gu_ib, nI_nat, bi_s, vl_e, gu_t, if_true, if_false, reduceIte, bt1_1, bt1_2, bt1_3, bt1_4, bt1_5, bt1_6, bt1_7, bt1_8, bt1_9, bt1_10, bt1_11, bt1_12, bt14_1, bt14_2, bt14_3, bt14_4, bt14_5, bt14_6, bt14_7, bt14_8, bt14_9, bt14_10, bt14_11, bt14_12, C_hg C hy]
    rw [if_pos (by omega)]; rfl
end
theorem gu_dd {β : Type} {P : Prop} {i : Decidable P} {x : Option β} (h : P) : gu (@decide P i) x = x := by rw [decide_eq_true h]; rfl
theorem c_fillL {fu r n : Nat} (hf : 200 < fu) (hn : n ≤ 160) (a : Int64) (μ : Mem) : Ok (D_J7_fill_d0a16_0 fu r n a μ) (fun μ' => Fr (fun q => q = r) μ μ' ∧ ∀ j, j < n → μ'.2.1 r j = a) := by
  unfold D_J7_fill_d0a16_0
  refine Ok.for (fun m i x => D_J7_fill_d0a16_6 fu r n m a (nI i) (nI n) x) n (fun i x => Fr (fun q => q = r) μ x ∧ ∀ j, j < i → x.2.1 r j = a) ?_ ?_ fu 0 μ (by omega) (by omega) ⟨Fr.rfl', fun j h => absurd h (Nat.not_lt_zero j)⟩
  · intro m i x hi P k
    simp (disch := omega) only [D_J7_fill_d0a16_6, li0, li1, li2, li3, li4, li5, li6, li7, li8, li9, li10, li12, li24, li31, li40, li160, n_le, n_lt, n_eq, n_m1, n_add, mr4, mr6, mr7, mr10, mr40, mr160, ml4, ml6, ml7, ml10, ml40, ml160, gu_ib, nI_nat, bi_s, vl_e, gu_t, if_true, if_false, reduceIte, bt1_1, bt1_2, bt1_3, bt1_4, bt1_5, bt1_6, bt1_7, bt1_8, bt1_9, bt1_10, bt1_11, bt1_12, bt14_1, bt14_2, bt14_3, bt14_4, bt14_5, bt14_6, bt14_7, bt14_8, bt14_9, bt14_10, bt14_11, bt14_12]
    rw [if_neg (by omega)]
    refine k _ ⟨Fr.wL P.1 rfl, fun j hj => ?_⟩
    rw [wL_2]
    by_cases e : j = i
    · rw [if_pos ⟨rfl, e⟩]
    · rw [if_neg (fun z => e z.2)]; exact P.2 j (by omega)
  · intro m x P
    simp (disch := omega) only [D_J7_fill_d0a16_6, li0, li1, li2, li3, li4, li5, li6, li7, li8, li9, li10, li12, li24, li31, li40, li160, n_le, n_lt, n_eq, n_m1, n_add, mr4, mr6, mr7, mr10, mr40, mr160, ml4, ml6, ml7, ml10, ml40, ml160, gu_ib, nI_nat, bi_s, vl_e, gu_t, if_true, if_false, reduceIte, bt1_1, bt1_2, bt1_3, bt1_4, bt1_5, bt1_6, bt1_7, bt1_8, bt1_9, bt1_10, bt1_11, bt1_12, bt14_1, bt14_2, bt14_3, bt14_4, bt14_5, bt14_6, bt14_7, bt14_8, bt14_9, bt14_10, bt14_11, bt14_12]
    rw [if_pos (by omega)]
    exact Ok.s P
theorem c_fillI {fu r n : Nat} (hf : 200 < fu) (hn : n ≤ 160) (a : Int32) (μ : Mem) : Ok (D_J7_fill_53178_0 fu r n a μ) (fun μ' => Fr (fun q => q = r) μ μ' ∧ ∀ j, j < n → μ'.1 r j = a) := by
  unfold D_J7_fill_53178_0
  refine Ok.for (fun m i x => D_J7_fill_53178_5 fu r n m a (nI i) (nI n) x) n (fun i x => Fr (fun q => q = r) μ x ∧ ∀ j, j < i → x.1 r j = a) ?_ ?_ fu 0 μ (by omega) (by omega) ⟨Fr.rfl', fun j h => absurd h (Nat.not_lt_zero j)⟩
  · intro m i x hi P k
    simp (disch := omega) only [D_J7_fill_53178_5, li0, li1, li2, li3, li4, li5, li6, li7, li8, li9, li10, li12, li24, li31, li40, li160, n_le, n_lt, n_eq, n_m1, n_add, mr4, mr6, mr7, mr10, mr40, mr160, ml4, ml6, ml7, ml10, ml40, ml160, gu_ib, nI_nat, bi_s, vl_e, gu_t, if_true, if_false, reduceIte, bt1_1, bt1_2, bt1_3, bt1_4, bt1_5, bt1_6, bt1_7, bt1_8, bt1_9, bt1_10, bt1_11, bt1_12, bt14_1, bt14_2, bt14_3, bt14_4, bt14_5, bt14_6, bt14_7, bt14_8, bt14_9, bt14_10, bt14_11, bt14_12]
    rw [if_neg (by omega)]
    refine k _ ⟨Fr.wI P.1 rfl, fun j hj => ?_⟩
    rw [wI_1]
    by_cases e : j = i
    · rw [if_pos ⟨rfl, e⟩]
    · rw [if_neg (fun z => e z.2)]; exact P.2 j (by omega)
  · intro m x P
    simp (disch := omega) only [D_J7_fill_53178_5, li0, li1, li2, li3, li4, li5, li6, li7, li8, li9, li10, li12, li24, li31, li40, li160, n_le, n_lt, n_eq, n_m1, n_add, mr4, mr6, mr7, mr10, mr40, mr160, ml4, ml6, ml7, ml10, ml40, ml160, gu_ib, nI_nat, bi_s, vl_e, gu_t, if_true, if_false, reduceIte, bt1_1, bt1_2, bt1_3, bt1_4, bt1_5, bt1_6, bt1_7, bt1_8, bt1_9, bt1_10, bt1_11, bt1_12, bt14_1, bt14_2, bt14_3, bt14_4, bt14_5, bt14_6, bt14_7, bt14_8, bt14_9, bt14_10, bt14_11, bt14_12]
    rw [if_pos (by omega)]
    exact Ok.s P
/-! shares -/
def WB (n : Nat) (w : Nat → Int) (W : Int) : Prop := (∀ k, k < n → 0 ≤ w k ∧ w k ≤ W) ∧ sm w n * W < 9223372036854775808 ∧ sm w n < 9223372036854775808
theorem wb_q {n : Nat} {w : Nat → Int} {W a : Int} (B : WB n w W) (hS : 0 < sm w n) (ha : 0 ≤ a) {k : Nat} (hk : k < n) : 0 ≤ (a - a / sm w n * sm w n) * w k ∧ (a - a / sm w n * sm w n) * w k < 9223372036854775808 := by
  have h1 := Int.ediv_mul_le a (b := sm w n) (by omega)
  have h2 := Int.lt_ediv_add_one_mul_self a hS
  rw [Int.add_mul, Int.one_mul] at h2
  have b := B.1 k hk
  have q : 0 ≤ a - a / sm w n * sm w n := by omega
  refine ⟨Int.mul_nonneg q b.1, ?_⟩
  have m : (a - a / sm w n * sm w n) * w k ≤ sm w n * W := Int.mul_le_mul (by omega) b.2 b.1 (by omega)
  have := B.2.1
  omega
theorem sh0_b {n : Nat} {w : Nat → Int} {a : Int} (hw : ∀ k, k < n → 0 ≤ w k) (hS : 0 < sm w n) (ha : 0 ≤ a) : ∀ {m : Nat}, m ≤ n → 0 ≤ sm (sh0 n a w) m ∧ sm (sh0 n a w) m ≤ a := by
  intro m hm
  have up : sm (sh0 n a w) m ≤ sm (sh0 n a w) n := by
    have : ∀ p, m + p ≤ n → sm (sh0 n a w) m ≤ sm (sh0 n a w) (m + p) := fun p => by
      induction p with
      | zero => intro _; exact Int.le_refl _
      | succ p ih =>
        intro hp
        have i := ih (by omega)
        have z := sh0_nn (n := n) (a := a) (w := w) (k := m + p) (hw _ (by omega)) hS ha
        have e : sm (sh0 n a w) (m + (p + 1)) = sm (sh0 n a w) (m + p) + sh0 n a w (m + p) := rfl
        omega
    have := this (n - m) (by omega)
    rwa [show m + (n - m) = n by omega] at this
  have r := (sh_R hw hS ha).1
  unfold shR at r
  exact ⟨sm_nn fun i hi => sh0_nn (hw i (by omega)) hS ha, by omega⟩
theorem sm_pm {f : Nat → Int} {m n : Nat} (h : m ≤ n) (hf : ∀ i, i < n → 0 ≤ f i) : sm f m ≤ sm f n := by
  have : ∀ p, m + p ≤ n → sm f m ≤ sm f (m + p) := fun p => by
    induction p with
    | zero => intro _; exact Int.le_refl _
    | succ p ih =>
      intro hp
      have i := ih (by omega)
      have z := hf (m + p) (by omega)
      have e : sm f (m + (p + 1)) = sm f (m + p) + f (m + p) := rfl
      omega
  have := this (n - m) (by omega)
  rwa [show m + (n - m) = n by omega] at this
theorem c_share {fu r2 n2 r4 n4 n : Nat} {w : Nat → Int} {W a : Int} {μ : Mem} (hf : 200 < fu) (hr : r2 ≠ r4) (h2 : n ≤ n2) (h4 : n ≤ n4) (hn : n ≤ 40) (g2 : n2 ≤ 40) (g4 : n4 ≤ 40) (B : WB n w W) (ha : 0 ≤ a) (ha2 : a < 4611686018427387904) (hw : ∀ k, k < n → μ.2.1 r2 k = zL (w k)) : Ok (D_X6_shareOut_0 fu r2 n2 r4 n4 (zL a) (nI n) μ) (fun μ' => Fr (fun q => q = r4) μ μ' ∧ ∀ k, k < n → μ'.2.1 r4 k = zL (shF n a w k)) := by
  have wn : ∀ k, k < n → 0 ≤ w k := fun k hk => (B.1 k hk).1
  have Sn := sm_nn wn
  have Sb := B.2.2
  have rd : ∀ x : Mem, Fr (fun q => q = r4) μ x → ∀ k, k < n → x.2.1 r2 k = zL (w k) := fun x F k hk => by rw [F.L hr]; exact hw k hk
  unfold D_X6_shareOut_0
  refine Ok.for (fun m i x => D_X6_shareOut_6 fu r2 n2 r4 n4 m (zL a) (nI n) (zL (sm w i)) (nI i) x) n (fun i x => Fr (fun q => q = r4) μ x ∧ ∀ j, j < i → x.2.1 r4 j = zL 0) ?_ ?_ fu 0 μ (by omega) (by omega) ⟨Fr.rfl', fun j h => absurd h (Nat.not_lt_zero j)⟩
  · intro m i x hi P k
    simp (disch := omega) only [D_X6_shareOut_6, li0, li1, li2, li3, li4, li5, li6, li7, li8, li9, li10, li12, li24, li31, li40, li160, n_le, n_lt, n_eq, n_m1, n_add, mr4, mr6, mr7, mr10, mr40, mr160, ml4, ml6, ml7, ml10, ml40, ml160, gu_ib, nI_nat, bi_s, vl_e, gu_t, if_true, if_false, reduceIte, bt1_1, bt1_2, bt1_3, bt1_4, bt1_5, bt1_6, bt1_7, bt1_8, bt1_9, bt1_10, bt1_11, bt1_12, bt14_1, bt14_2, bt14_3, bt14_4, bt14_5, bt14_6, bt14_7, bt14_8, bt14_9, bt14_10, bt14_11, bt14_12, ll0, ll1, ll2, ll10, ll2e9, rd x P.1 i hi, z_add, z_sub, z_mul, z_neg]
    rw [if_neg (by omega), ← sm_s]
    refine k _ ⟨Fr.wL P.1 rfl, fun j hj => ?_⟩
    rw [wL_2]
    by_cases e : j = i
    · rw [if_pos ⟨rfl, e⟩]
    · rw [if_neg (fun z => e z.2)]; exact P.2 j (by omega)
  · intro m x P
    by_cases hS : 0 < sm w n
    · have hS0 : ¬ (zL (sm w n) = 0) := by rw [ll0, z_eq (by omega) (by omega) (by omega) (by omega)]; omega
      have dd := z_div ha (show a < 9223372036854775808 by omega) hS Sb
      simp (disch := omega) only [D_X6_shareOut_6, li0, li1, li2, li3, li4, li5, li6, li7, li8, li9, li10, li12, li24, li31, li40, li160, n_le, n_lt, n_eq, n_m1, n_add, mr4, mr6, mr7, mr10, mr40, mr160, ml4, ml6, ml7, ml10, ml40, ml160, gu_ib, nI_nat, bi_s, vl_e, gu_t, if_true, if_false, reduceIte, bt1_1, bt1_2, bt1_3, bt1_4, bt1_5, bt1_6, bt1_7, bt1_8, bt1_9, bt1_10, bt1_11, bt1_12, bt14_1, bt14_2, bt14_3, bt14_4, bt14_5, bt14_6, bt14_7, bt14_8, bt14_9, bt14_10, bt14_11, bt14_12, ll0, ll1, ll2, ll10, ll2e9, z_lt, ↓gu_dd hS0, dd, z_add, z_sub, z_mul, z_neg]
      rw [if_pos (by omega), if_pos hS]
      refine Ok.e (congrArg (fun v => D_X6_shareOut_59 fu r2 n2 r4 n4 fu (nI n) (zL (sm w n)) (zL (a / sm w n)) (zL (a - a / sm w n * sm w n)) v (nI 0) x) (show zL a = zL (a - sm (sh0 n a w) 0) from congrArg zL (Int.sub_zero a).symm)) ?_
      refine Ok.for (fun m i x => D_X6_shareOut_59 fu r2 n2 r4 n4 m (nI n) (zL (sm w n)) (zL (a / sm w n)) (zL (a - a / sm w n * sm w n)) (zL (a - sm (sh0 n a w) i)) (nI i) x) n (fun i x => Fr (fun q => q = r4) μ x ∧ ∀ j, j < i → x.2.1 r4 j = zL (sh0 n a w j)) ?_ ?_ fu 0 x (by omega) (by omega) ⟨P.1, fun j h => absurd h (Nat.not_lt_zero j)⟩
      · intro m i x hi P k
        have wq := wb_q B hS ha hi
        have vd := z_div wq.1 wq.2 hS Sb
        have r4' : ∀ v, (wL x r4 i v).2.1 r4 i = v := fun v => by rw [wL_2, if_pos ⟨rfl, rfl⟩]
        simp (disch := omega) only [D_X6_shareOut_59, li0, li1, li2, li3, li4, li5, li6, li7, li8, li9, li10, li12, li24, li31, li40, li160, n_le, n_lt, n_eq, n_m1, n_add, mr4, mr6, mr7, mr10, mr40, mr160, ml4, ml6, ml7, ml10, ml40, ml160, gu_ib, nI_nat, bi_s, vl_e, gu_t, if_true, if_false, reduceIte, bt1_1, bt1_2, bt1_3, bt1_4, bt1_5, bt1_6, bt1_7, bt1_8, bt1_9, bt1_10, bt1_11, bt1_12, bt14_1, bt14_2, bt14_3, bt14_4, bt14_5, bt14_6, bt14_7, bt14_8, bt14_9, bt14_10, bt14_11, bt14_12, ll0, ll1, ll2, ll10, ll2e9, rd x P.1 i hi, ↓gu_dd hS0, z_add, z_sub, z_mul, z_neg, vd, r4']
        rw [if_neg (by omega)]
        have e : a - sm (sh0 n a w) i - (a / sm w n * w i + (a - a / sm w n * sm w n) * w i / sm w n) = a - sm (sh0 n a w) (i + 1) := by
          rw [sm_s]; unfold sh0; omega
        rw [e]
        refine k _ ⟨Fr.wL P.1 rfl, fun j hj => ?_⟩
        rw [wL_2]
        by_cases e : j = i
        · rw [if_pos ⟨rfl, e⟩, e]; rfl
        · rw [if_neg (fun z => e z.2)]; exact P.2 j (by omega)
      · intro m x P
        simp (disch := omega) only [D_X6_shareOut_59, li0, li1, li2, li3, li4, li5, li6, li7, li8, li9, li10, li12, li24, li31, li40, li160, n_le, n_lt, n_eq, n_m1, n_add, mr4, mr6, mr7, mr10, mr40, mr160, ml4, ml6, ml7, ml10, ml40, ml160, gu_ib, nI_nat, bi_s, vl_e, gu_t, if_true, if_false, reduceIte, bt1_1, bt1_2, bt1_3, bt1_4, bt1_5, bt1_6, bt1_7, bt1_8, bt1_9, bt1_10, bt1_11, bt1_12, bt14_1, bt14_2, bt14_3, bt14_4, bt14_5, bt14_6, bt14_7, bt14_8, bt14_9, bt14_10, bt14_11, bt14_12]
        rw [if_pos (by omega)]
        have R := sh_R wn hS ha
        have Rb : shR n a w ≤ a := by have := (sh0_b wn hS ha (Nat.le_refl n)).1; unfold shR; omega
        have eR : a - sm (sh0 n a w) n = max (shR n a w - cp w 0) 0 := by
          have : cp w 0 = 0 := rfl
          rw [this, Int.max_eq_left (by omega)]; unfold shR; omega
        rw [eR]
        have en : ∀ i, i ≤ n → (shR n a w ≤ cp w i ∨ i = n) → ∀ x : Mem, (∀ j, j < n → x.2.1 r4 j = zL (sh0 n a w j + if j < i ∧ 0 < w j ∧ cp w j < shR n a w then 1 else 0)) → ∀ k, k < n → x.2.1 r4 k = zL (shF n a w k) := fun i hi hq x hx k hk => by
          rw [hx k hk]
          unfold shF
          rw [if_neg (show ¬ sm w n ≤ 0 by omega)]
          by_cases q : k < i
          · by_cases q2 : 0 < w k ∧ cp w k < shR n a w
            · rw [if_pos ⟨q, q2⟩, if_pos q2]
            · rw [if_neg (fun z => q2 z.2), if_neg q2]
          · rw [if_neg (fun z => q z.1), if_neg]
            intro z
            have := cp_mo w (show i ≤ k by omega)
            omega
        refine Ok.for (fun m i x => D_X6_shareOut_107 fu r2 n2 r4 n4 m (nI n) (zL (max (shR n a w - cp w i) 0)) (nI i) x) n (fun i x => Fr (fun q => q = r4) μ x ∧ ∀ j, j < n → x.2.1 r4 j = zL (sh0 n a w j + if j < i ∧ 0 < w j ∧ cp w j < shR n a w then 1 else 0)) ?_ ?_ fu 0 x (by omega) (by omega) ⟨P.1, fun j hj => by rw [P.2 j hj, if_neg (by omega), Int.add_zero]⟩
        · intro m i x hi P k
          have wi := B.1 i hi
          have c0 := cp_nn w i
          have wW : w i < 9223372036854775808 := by have := sm_at (f := w) hi wn; omega
          simp (disch := omega) only [D_X6_shareOut_107, D_X6_shareOut_144, li0, li1, li2, li3, li4, li5, li6, li7, li8, li9, li10, li12, li24, li31, li40, li160, n_le, n_lt, n_eq, n_m1, n_add, mr4, mr6, mr7, mr10, mr40, mr160, ml4, ml6, ml7, ml10, ml40, ml160, gu_ib, nI_nat, bi_s, vl_e, gu_t, if_true, if_false, reduceIte, bt1_1, bt1_2, bt1_3, bt1_4, bt1_5, bt1_6, bt1_7, bt1_8, bt1_9, bt1_10, bt1_11, bt1_12, bt14_1, bt14_2, bt14_3, bt14_4, bt14_5, bt14_6, bt14_7, bt14_8, bt14_9, bt14_10, bt14_11, bt14_12, ll0, ll1, ll2, ll10, ll2e9, z_le, rd x P.1 i hi]
          rw [if_neg (by omega)]
          by_cases q : max (shR n a w - cp w i) 0 ≤ 0
          · rw [if_pos q]
            exact Ok.s ⟨P.1, en i (by omega) (by omega) x P.2⟩
          · rw [if_neg q]
            by_cases q2 : w i ≤ 0
            · rw [if_pos q2]
              have e : max (shR n a w - cp w i) 0 = max (shR n a w - cp w (i + 1)) 0 := by rw [cp_s, if_neg (by omega), Int.add_zero]
              rw [e]
              refine k _ ⟨P.1, fun j hj => ?_⟩
              rw [P.2 j hj]
              by_cases ej : j = i
              · rw [if_neg (by omega), if_neg (by rw [ej]; omega)]
              · by_cases q3 : j < i ∧ 0 < w j ∧ cp w j < shR n a w
                · rw [if_pos q3, if_pos ⟨by omega, q3.2⟩]
                · rw [if_neg q3, if_neg (fun z => q3 ⟨by omega, z.2⟩)]
            · rw [if_neg q2]
              have e : max (shR n a w - cp w i) 0 - 1 = max (shR n a w - cp w (i + 1)) 0 := by rw [cp_s, if_pos (by omega)]; omega
              simp only [z_add, z_sub, z_mul, z_neg, P.2 i hi]
              rw [e]
              refine k _ ⟨Fr.wL P.1 rfl, fun j hj => ?_⟩
              rw [wL_2]
              by_cases ej : j = i
              · rw [if_pos ⟨rfl, ej⟩, ej, if_neg (by omega), if_pos ⟨by omega, by omega, by omega⟩, Int.add_zero]
              · rw [if_neg (fun z => ej z.2), P.2 j hj]
                by_cases q3 : j < i ∧ 0 < w j ∧ cp w j < shR n a w
                · rw [if_pos q3, if_pos ⟨by omega, q3.2⟩]
                · rw [if_neg q3, if_neg (fun z => q3 ⟨by omega, z.2⟩)]
        · intro m x P
          simp (disch := omega) only [D_X6_shareOut_107, li0, li1, li2, li3, li4, li5, li6, li7, li8, li9, li10, li12, li24, li31, li40, li160, n_le, n_lt, n_eq, n_m1, n_add, mr4, mr6, mr7, mr10, mr40, mr160, ml4, ml6, ml7, ml10, ml40, ml160, gu_ib, nI_nat, bi_s, vl_e, gu_t, if_true, if_false, reduceIte, bt1_1, bt1_2, bt1_3, bt1_4, bt1_5, bt1_6, bt1_7, bt1_8, bt1_9, bt1_10, bt1_11, bt1_12, bt14_1, bt14_2, bt14_3, bt14_4, bt14_5, bt14_6, bt14_7, bt14_8, bt14_9, bt14_10, bt14_11, bt14_12]
          rw [if_pos (by omega)]
          exact Ok.s ⟨P.1, en n (Nat.le_refl n) (Or.inr rfl) x P.2⟩
    · simp (disch := omega) only [D_X6_shareOut_6, li0, li1, li2, li3, li4, li5, li6, li7, li8, li9, li10, li12, li24, li31, li40, li160, n_le, n_lt, n_eq, n_m1, n_add, mr4, mr6, mr7, mr10, mr40, mr160, ml4, ml6, ml7, ml10, ml40, ml160, gu_ib, nI_nat, bi_s, vl_e, gu_t, if_true, if_false, reduceIte, bt1_1, bt1_2, bt1_3, bt1_4, bt1_5, bt1_6, bt1_7, bt1_8, bt1_9, bt1_10, bt1_11, bt1_12, bt14_1, bt14_2, bt14_3, bt14_4, bt14_5, bt14_6, bt14_7, bt14_8, bt14_9, bt14_10, bt14_11, bt14_12, ll0, ll1, ll2, ll10, ll2e9, z_lt]
      rw [if_pos (by omega), if_neg hS]
      refine Ok.s ⟨P.1, fun k hk => ?_⟩
      rw [P.2 k hk]; unfold shF; rw [if_pos (by omega)]
