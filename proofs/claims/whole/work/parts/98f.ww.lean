/-! calls that write, both sides -/
/-- a call: both answer alike, both books say the same again -/
def WW {β : Type} (ev : Nat → Ev) (n : Nat) (cd : Nat → Nat) (μ : Mem) (r : Option ((β ⊕ String) × Mem)) (M : Mem → Option (β × Mem)) : Prop := ∃ ev' n' o μ', EG ev' n' ∧ LV ev' n' ∧ (∀ j, o = .inr j → j < 3 ∧ cd j ≠ 0 ∧ cd j ≤ 3) ∧ r = some (cAn μ' o) ∧ CI ev' n' μ' ∧ Fr (fun q => q ≤ 83) μ μ' ∧ ∀ x m, wI x 85 0 (nI 0) = m → MI ev n m → m.1 85 0 = nI 0 → ∃ z m', M x = some (mAn (fun j => nI (cd j)) z m' o) ∧ MI ev' n' m' ∧ m'.1 85 0 = nI 0 ∧ Fr (fun q => q = 85 ∨ 87 ≤ q ∧ q ≤ 127) m m'
theorem w_step {β : Type} {ev : Nat → Ev} {n c : Nat} {cd : Nat → Nat} {μ : Mem} {r : Option ((β ⊕ String) × Mem)} {M : Mem → Option (β × Mem)} {L : Option (Int32 × Mem)} {cv : β → Int64} (I : IX ev n c μ) (Q : WW ev n cd μ r M) (h1 : ∀ v x, r = some (.inl v, x) → L = some (0, wL x 128 0 (cv v))) (h2 : ∀ j x, j < 3 → cd j ≠ 0 → r = some (.inr (exn j), x) → L = some (nI (cd j), x)) : LQ c L M cv := by
  obtain ⟨-, -, C, D, R, b1, b2⟩ := I
  obtain ⟨ev', n', o, μ', G, V, ho, hr, C', F, hM⟩ := Q
  have e84 : ∀ q, 84 ≤ q → μ'.1 q = μ.1 q ∧ μ'.2.1 q = μ.2.1 q := fun q hq => F.1 q (by omega)
  have cn : μ'.2.2 = μ.2.2 := F.2
  rcases o with v | j
  · have hL := h1 v μ' hr
    obtain ⟨z, m', hm, I', z0, F'⟩ := hM (wL μ' 128 0 (cv v)) _ rfl (MI_x (μ := μ) ⟨fun q p1 p2 => ⟨by rw [wI_n (by omega), wL_1]; exact (e84 q (by omega)).1, by rw [wI_L, wL_n (by omega)]; exact (e84 q (by omega)).2⟩, fun j p1 p2 => by rw [wI_s, if_neg (by omega), wL_1, (e84 85 (by omega)).1]⟩ D) wI_e
    have cn' : m'.2.2 = μ.2.2 := F'.2.trans cn
    refine ⟨0, _, v, m', hL, hm, z0, fun _ => ?_, ev', n', G, V, ?_, I', fun j hj => ?_, ?_, ?_⟩
    · rw [F'.L (by omega), wI_L, wL_e]
    · exact CI_x (μ := μ') (fun q p1 p2 => ⟨by rw [F'.I (by omega), wI_n (by omega), wL_1], by rw [F'.L (by omega), wI_L, wL_n (by omega)]⟩) C'
    · rw [F'.I (by omega), F'.I (by omega), wI_n (by omega), wI_n (by omega), wL_1, (e84 84 (by omega)).1, (e84 86 (by omega)).1]; exact R j hj
    · rw [cn']; omega
    · rw [cn']; omega
  · obtain ⟨j3, k0, k3⟩ := ho j rfl
    have hL := h2 j _ j3 k0 hr
    have t1 : (thr μ' j).1 84 = (wI μ' 84 j (μ'.1 84 j + 1)).1 84 := rfl
    have t2 : ∀ q, q ≠ 84 → (thr μ' j).1 q = μ'.1 q := fun q hq => by show (wI μ' 84 j (μ'.1 84 j + 1)).1 q = _; rw [wI_n hq]
    have t3 : (thr μ' j).2.1 = μ'.2.1 := rfl
    obtain ⟨z, m', hm, I', z0, F'⟩ := hM (thr μ' j) _ rfl (MI_x (μ := μ) ⟨fun q p1 p2 => ⟨by rw [wI_n (by omega)]; rw [t2 q (by omega)]; exact (e84 q (by omega)).1, by rw [wI_L]; exact (e84 q (by omega)).2⟩, fun i p1 p2 => by rw [wI_s, if_neg (by omega)]; rw [t2 85 (by omega), (e84 85 (by omega)).1]⟩ D) wI_e
    refine ⟨nI (cd j), _, z, mth m' (nI (cd j)) j, hL, hm, ?_, fun k => ?_, ev', n', G, V, ?_, ?_, fun i hi => ?_, ?_, ?_⟩
    · unfold mth; rw [wI_n (by omega), wI_e]
    · exact absurd k (by show ¬ nI (cd j) = nI 0; rw [n_eq (by omega) (by omega)]; exact k0)
    · refine CI_x (μ := μ') (fun q p1 p2 => ⟨?_, ?_⟩) C'
      · unfold mth; rw [wI_n (by omega), wI_n (by omega), F'.I (by omega), wI_n (by omega), t2 q (by omega)]
      · unfold mth; rw [wI_L, wI_L, F'.L (by omega), wI_L, t3]
    · exact MI_x (μ := m') ⟨fun q p1 p2 => ⟨by unfold mth; rw [wI_n (by omega), wI_n (by omega)], by unfold mth; rw [wI_L, wI_L]⟩, fun i p1 p2 => by unfold mth; rw [wI_n (by omega), wI_s, if_neg (by omega)]⟩ I'
    · have a1 : m'.1 84 = (wI μ' 84 j (μ'.1 84 j + 1)).1 84 := by rw [F'.I (by omega), wI_n (by omega)]; rfl
      have a2 : m'.1 86 = μ'.1 86 := by rw [F'.I (by omega), wI_n (by omega), t2 86 (by omega)]
      have r1 : ∀ i, i < 3 → μ'.1 84 i = μ'.1 86 i := fun i hi => by rw [(e84 84 (by omega)).1, (e84 86 (by omega)).1]; exact R i hi
      unfold mth
      rw [wI_n (by omega), wI_n (by omega), a1, wI_s, wI_s, wI_n (by omega), a2]
      by_cases q : i = j
      · rw [if_pos q, if_pos q, r1 j j3]
      · rw [if_neg q, if_neg q, r1 i hi]
    · show m'.2.2.1 ≤ _
      rw [F'.2]; show μ'.2.2.1 + 1 ≤ _; rw [cn]; omega
    · show m'.2.2.2 ≤ _
      rw [F'.2]; show μ'.2.2.2 + 6 ≤ _; rw [cn]; omega
theorem WW_q {β : Type} {ev : Nat → Ev} {n : Nat} {cd : Nat → Nat} {μ : Mem} {r : Option ((β ⊕ String) × Mem)} {M : Mem → Option (β × Mem)} (G : EG ev n) (V : LV ev n) (Q : QQ ev n cd μ r M) : WW ev n cd μ r M := by
  obtain ⟨o, μ', ho, hr, C', F, hM⟩ := Q
  exact ⟨ev, n, o, μ', G, V, ho, hr, C', F, hM⟩
/-- refused: it can't be done now -/
theorem QQ_n {β : Type} {ev : Nat → Ev} {n : Nat} {cd : Nat → Nat} {μ : Mem} {r : Option ((β ⊕ String) × Mem)} {M : Mem → Option (β × Mem)} (y : Mem) (z : β) (h2 : cd 2 ≠ 0 ∧ cd 2 ≤ 3) (hr : r = some (.inr (exn 2), thr y 2)) (hC : CI ev n y) (F : Fr (fun q => q ≤ 83) μ y) (hM : ∀ x m, wI x 85 0 (nI 0) = m → MI ev n m → m.1 85 0 = nI 0 → M x = some (z, mth m (nI (cd 2)) 2)) : QQ ev n cd μ r M := ⟨.inr 2, y, ho_r ⟨by decide, h2⟩, hr, hC, F, fun x m e D h0 => ⟨z, m, hM x m e D h0, D, h0, Fr.rfl'⟩⟩
/-- done -/
theorem WW_s {β : Type} {ev ev' : Nat → Ev} {n n' : Nat} {cd : Nat → Nat} {μ : Mem} {r : Option ((β ⊕ String) × Mem)} {M : Mem → Option (β × Mem)} (y : Mem) (v : β) (G : EG ev' n') (V : LV ev' n') (hr : r = some (.inl v, y)) (hC : CI ev' n' y) (F : Fr (fun q => q ≤ 83) μ y) (hM : ∀ x m, wI x 85 0 (nI 0) = m → MI ev n m → m.1 85 0 = nI 0 → ∃ m', M x = some (v, m') ∧ MI ev' n' m' ∧ m'.1 85 0 = nI 0 ∧ Fr (fun q => q = 85 ∨ 87 ≤ q ∧ q ≤ 127) m m') : WW ev n cd μ r M := ⟨ev', n', .inl v, y, G, V, ho_l, hr, hC, F, fun x m e D h0 => by
  obtain ⟨m', a, b⟩ := hM x m e D h0
  exact ⟨v, m', a, b⟩⟩
def mkE (k a b c d f : Nat) : Ev := fun j => if j = 0 then k else if j = 1 then a else if j = 2 then b else if j = 3 then c else if j = 4 then d else f
