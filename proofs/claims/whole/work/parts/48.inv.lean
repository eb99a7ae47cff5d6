/-! events keep what always holds -/
/-- numbers of an event -/
def EvOK (e : Ev) : Prop := e 0 ≤ 8 ∧
  (e 0 = 0 → e 1 < 40 ∧ e 2 < 12 ∧ e 3 ≤ 900000000 ∧ 1 ≤ e 4 ∧ e 4 ≤ 100000000 ∧ 1 ≤ e 5 ∧ e 5 ≤ 4) ∧
  (e 0 = 1 → e 1 < 40 ∧ e 2 < 10 ∧ 1 ≤ e 3 ∧ e 3 ≤ 10) ∧
  (e 0 = 2 → e 1 < 12) ∧
  (e 0 = 3 → e 1 ≤ 3 ∧ e 2 ≤ 3 ∧ e 3 ≤ 3) ∧
  (e 0 = 4 → e 1 < 24 ∧ e 2 ≤ e 3 ∧ e 3 ≤ e 4 ∧ e 4 < 12 ∧ 1 ≤ e 5 ∧ e 5 ≤ 1000000000) ∧
  (e 0 = 5 → e 1 < 24 ∧ 1 ≤ e 2 ∧ e 2 ≤ 1000000000) ∧
  (e 0 = 6 → 1 ≤ e 1 ∧ e 1 < 10 ∧ e 2 ≤ 1000000000) ∧
  (e 0 = 7 → 1 ≤ e 1 ∧ e 1 < 10) ∧
  (e 0 = 8 → e 1 < 24)
theorem EvOK.k {e : Ev} (H : EvOK e) : e 0 ≤ 8 := H.1
theorem EvOK.k0 {e : Ev} (H : EvOK e) (h : e 0 = 0) : e 1 < 40 ∧ e 2 < 12 ∧ e 3 ≤ 900000000 ∧ 1 ≤ e 4 ∧ e 4 ≤ 100000000 ∧ 1 ≤ e 5 ∧ e 5 ≤ 4 := H.2.1 h
theorem EvOK.k1 {e : Ev} (H : EvOK e) (h : e 0 = 1) : e 1 < 40 ∧ e 2 < 10 ∧ 1 ≤ e 3 ∧ e 3 ≤ 10 := H.2.2.1 h
theorem EvOK.k2 {e : Ev} (H : EvOK e) (h : e 0 = 2) : e 1 < 12 := H.2.2.2.1 h
theorem EvOK.k3 {e : Ev} (H : EvOK e) (h : e 0 = 3) : e 1 ≤ 3 ∧ e 2 ≤ 3 ∧ e 3 ≤ 3 := H.2.2.2.2.1 h
theorem EvOK.k4 {e : Ev} (H : EvOK e) (h : e 0 = 4) : e 1 < 24 ∧ e 2 ≤ e 3 ∧ e 3 ≤ e 4 ∧ e 4 < 12 ∧ 1 ≤ e 5 ∧ e 5 ≤ 1000000000 := H.2.2.2.2.2.1 h
theorem EvOK.k5 {e : Ev} (H : EvOK e) (h : e 0 = 5) : e 1 < 24 ∧ 1 ≤ e 2 ∧ e 2 ≤ 1000000000 := H.2.2.2.2.2.2.1 h
theorem EvOK.k6 {e : Ev} (H : EvOK e) (h : e 0 = 6) : 1 ≤ e 1 ∧ e 1 < 10 ∧ e 2 ≤ 1000000000 := H.2.2.2.2.2.2.2.1 h
theorem EvOK.k7 {e : Ev} (H : EvOK e) (h : e 0 = 7) : 1 ≤ e 1 ∧ e 1 < 10 := H.2.2.2.2.2.2.2.2.1 h
theorem EvOK.k8 {e : Ev} (H : EvOK e) (h : e 0 = 8) : e 1 < 24 := H.2.2.2.2.2.2.2.2.2 h
/-- its number is free -/
def EvF (s : Sp) (e : Ev) : Prop := (e 0 = 0 → isL s (e 1) = 0) ∧ (e 0 = 4 → isH s (e 1) = 0)
/-! a layer more -/
theorem pt_is (s : Sp) (l y f z t j : Nat) : isL (ptL s l y f z t) j = if j = l then 1 else isL s j := rfl
theorem pt_yr (s : Sp) (l y f z t j : Nat) : yr (ptL s l y f z t) j = if j = l then y else yr s j := rfl
theorem pt_fr (s : Sp) (l y f z t j : Nat) : fr (ptL s l y f z t) j = if j = l then f else fr s j := rfl
theorem pt_sz (s : Sp) (l y f z t j : Nat) : sz (ptL s l y f z t) j = if j = l then z else sz s j := rfl
theorem pt_tm (s : Sp) (l y f z t j : Nat) : tm (ptL s l y f z t) j = if j = l then t else tm s j := rfl
theorem pt_ng (s : Sp) (l y f z t j : Nat) : ng (ptL s l y f z t) j = ng s j := rfl
theorem pt_sg (s : Sp) (l y f z t j : Nat) : sg (ptL s l y f z t) j = sg s j := rfl
theorem pt_tn (s : Sp) (l y f z t j : Nat) : tn (ptL s l y f z t) j = tn s j := rfl
theorem pt_hg (s : Sp) (l y f z t j : Nat) : hg (ptL s l y f z t) j = if j = y then hg s j + 1 else hg s j := rfl
theorem pt_rg (s : Sp) (l y f z t j : Nat) : rg (ptL s l y f z t) j = if 6 * y ≤ j ∧ j < 6 * y + (hg s y + 1) then rgI s y l (insP s y f (hg s y)) (j - 6 * y) else rg s j := rfl
theorem pt_hl (s : Sp) (l y f z t j : Nat) : hl (ptL s l y f z t) j = if j = l then f - (if insP s y f (hg s y) = 0 then 0 else tp s (rg s (6 * y + (insP s y f (hg s y) - 1)))) else if insP s y f (hg s y) < hg s y ∧ j = rg s (6 * y + insP s y f (hg s y)) then fr s j - (f + z) else hl s j := rfl
theorem pt_lk (s : Sp) (l y f z t : Nat) : lk (ptL s l y f z t) = lk s := rfl
theorem pt_cL (s : Sp) (l y f z t : Nat) : cL (ptL s l y f z t) = max (cL s) (l + 1) := rfl
theorem pt_rgy (s : Sp) (l y f z t : Nat) {k : Nat} (hk : k ≤ hg s y) : rg (ptL s l y f z t) (6 * y + k) = rgI s y l (insP s y f (hg s y)) k := by
  rw [pt_rg, if_pos (by omega), Nat.add_sub_cancel_left]
theorem pt_rgo (s : Sp) (l f z t : Nat) {y x k : Nat} (hq : x ≠ y) (hk : k < 6) (h6 : hg s y < 6) : rg (ptL s l y f z t) (6 * x + k) = rg s (6 * x + k) := by
  rw [pt_rg, if_neg (by omega)]
theorem insP_b (s : Sp) (y f : Nat) : ∀ c, insP s y f c ≤ c ∧ (∀ k, insP s y f c ≤ k → k < c → f < fr s (rg s (6 * y + k))) ∧ (0 < insP s y f c → fr s (rg s (6 * y + (insP s y f c - 1))) ≤ f)
  | 0 => ⟨Nat.le_refl _, fun k _ h => absurd h (Nat.not_lt_zero k), fun h => absurd h (Nat.not_lt_zero _)⟩
  | c + 1 => by
    obtain ⟨h1, h2, h3⟩ := insP_b s y f c
    unfold insP
    by_cases q : f < fr s (rg s (6 * y + c))
    · rw [if_pos q]
      refine ⟨by omega, fun k hk hc => ?_, h3⟩
      by_cases e : k = c
      · rw [e]; exact q
      · exact h2 k hk (by omega)
    · rw [if_neg q]
      exact ⟨Nat.le_refl _, fun k h1 h2 => by omega, fun _ => by rw [Nat.add_sub_cancel]; omega⟩
theorem insP_s {s : Sp} (H : IvT s) {y f z : Nat} (hy : y < 12) (hz : 1 ≤ z) (hf : fre s y f z) : insP s y f (hg s y) ≤ hg s y ∧ (∀ k, k < insP s y f (hg s y) → tp s (rg s (6 * y + k)) ≤ f) ∧ (∀ k, insP s y f (hg s y) ≤ k → k < hg s y → f + z ≤ fr s (rg s (6 * y + k))) := by
  obtain ⟨h1, h2, h3⟩ := insP_b s y f (hg s y)
  refine ⟨h1, fun k hk => ?_, fun k hk hc => ?_⟩
  · have a := hf k (by omega)
    have b := h3 (by omega)
    have c : fr s (rg s (6 * y + k)) ≤ fr s (rg s (6 * y + (insP s y f (hg s y) - 1))) := by
      by_cases e : k = insP s y f (hg s y) - 1
      · rw [← e]; exact Nat.le_refl _
      · exact Nat.le_of_lt (st_fr H hy (by omega) (by omega))
    omega
  · have a := hf k hc
    have b := h2 k hk hc
    have c := fr_tp H (IvT_rg H hy hc) (IvT_ri H hy hc)
    omega
theorem rgI_l {s : Sp} {y l p k : Nat} (h : k < p) : rgI s y l p k = rg s (6 * y + k) := by unfold rgI; rw [if_pos h]
theorem rgI_e {s : Sp} {y l p : Nat} : rgI s y l p p = l := by unfold rgI; rw [if_neg (by omega), if_pos rfl]
theorem rgI_g {s : Sp} {y l p k : Nat} (h : p < k) : rgI s y l p k = rg s (6 * y + (k - 1)) := by unfold rgI; rw [if_neg (by omega), if_neg (by omega)]
theorem rgI_c {s : Sp} {y l p k : Nat} (P : Nat → Prop) (hl : k = p → P l) (ho : ∀ i, (i = k ∧ k < p ∨ i + 1 = k ∧ p < k) → P (rg s (6 * y + i))) : P (rgI s y l p k) := by
  rcases Nat.lt_trichotomy k p with h | h | h
  · rw [rgI_l h]; exact ho k (Or.inl ⟨rfl, h⟩)
  · subst h; rw [rgI_e]; exact hl rfl
  · rw [rgI_g h]; exact ho (k - 1) (Or.inr ⟨by omega, h⟩)
theorem IvT_pt {s : Sp} (H : IvT s) {l y f z t : Nat} (hl' : l < 40) (hy : y < 12) (hf : f ≤ 900000000) (hz : 1 ≤ z ∧ z ≤ 100000000) (ht : 1 ≤ t ∧ t ≤ 4) (h0 : isL s l = 0) (hk : lkb s y = false) (h6 : hg s y < 6) (hr : fre s y f z) : IvT (ptL s l y f z t) := by
  obtain ⟨p1, p2, p3⟩ := insP_s H hy hz.1 hr
  have nl : ∀ x k, x < 12 → k < hg s x → rg s (6 * x + k) ≠ l := fun x k h1 h2 e => by
    have := IvT_ri H h1 h2
    rw [e] at this; omega
  have fo : ∀ x k, x < 12 → k < hg s x → fr (ptL s l y f z t) (rg s (6 * x + k)) = fr s (rg s (6 * x + k)) := fun x k h1 h2 => by rw [pt_fr, if_neg (nl x k h1 h2)]
  have so : ∀ x k, x < 12 → k < hg s x → sz (ptL s l y f z t) (rg s (6 * x + k)) = sz s (rg s (6 * x + k)) := fun x k h1 h2 => by rw [pt_sz, if_neg (nl x k h1 h2)]
  have to' : ∀ x k, x < 12 → k < hg s x → tp (ptL s l y f z t) (rg s (6 * x + k)) = tp s (rg s (6 * x + k)) := fun x k h1 h2 => by unfold tp; rw [fo x k h1 h2, so x k h1 h2]
  have tl : tp (ptL s l y f z t) l = f + z := by unfold tp; rw [pt_fr, pt_sz, if_pos rfl, if_pos rfl]
  have fl' : fr (ptL s l y f z t) l = f := by rw [pt_fr, if_pos rfl]
  have hgo : ∀ x, x ≠ y → hg (ptL s l y f z t) x = hg s x := fun x hx => by rw [pt_hg, if_neg hx]
  have hgy : hg (ptL s l y f z t) y = hg s y + 1 := by rw [pt_hg, if_pos rfl]
  have ok : ∀ x, x ≠ y → ∀ k, x < 12 → k < hg s x → rg (ptL s l y f z t) (6 * x + k) = rg s (6 * x + k) := fun x hx k h1 h2 => pt_rgo s l f z t hx (by have := IvT_hg H h1; omega) h6
  have tt : ∀ q n, tnI (ptL s l y f z t) q n = tnI s q n := fun q n => tnI_c (s := s) (t := ptL s l y f z t) rfl q n
  have each : ∀ x k (P : Nat → Prop), x < 12 → k < hg (ptL s l y f z t) x → (x = y → P l) → (∀ i, i < hg s x → P (rg s (6 * x + i))) → P (rg (ptL s l y f z t) (6 * x + k)) := fun x k P h1 h2 h3 h4 => by
    by_cases e : x = y
    · subst e
      rw [hgy] at h2
      rw [pt_rgy s l x f z t (by omega)]
      exact rgI_c P (fun _ => h3 rfl) (fun i hi => h4 i (by omega))
    · rw [hgo x e] at h2
      rw [ok x e k h1 h2]; exact h4 k h2
  refine ⟨fun q hq => ?_, fun q hq e => ?_, fun q hq e => ?_, fun q hq e => ?_, fun q hq e => ?_, fun q hq e => ?_, fun q hq e => ?_, fun q hq => IvT_ng H hq, fun q hq e => ?_, fun q k hq e => IvT_sg H hq e, fun q k hq e => IvT_tn H hq e, fun q hq => ?_, fun q k j hq a b c => IvT_sd H hq a b c, fun x hx => ?_, fun x k hx hk2 => ?_, fun x k hx hk2 => ?_, fun x k hx hk2 => ?_, fun x k hx hk2 => ?_, fun x hx h2 => ?_, fun x k hx hk2 => ?_, show lk s < 4096 from IvT_lk H, fun x hx h2 => ?_, ?_⟩
  · rw [pt_is]; split
    · exact Or.inr rfl
    · exact IvT_is H hq
  · rw [pt_is] at e; rw [pt_yr]; split
    · exact hy
    · rename_i n; rw [if_neg n] at e; exact IvT_yr H hq e
  · rw [pt_is] at e; rw [pt_fr]; split
    · exact hf
    · rename_i n; rw [if_neg n] at e; exact IvT_fr H hq e
  · rw [pt_is] at e; rw [pt_sz]; split
    · exact hz
    · rename_i n; rw [if_neg n] at e; exact IvT_sz H hq e
  · rw [pt_is] at e; rw [pt_tm]; split
    · exact ht
    · rename_i n; rw [if_neg n] at e; exact IvT_tm H hq e
  · rw [pt_is] at e; rw [pt_cL]
    by_cases n : q = l
    · omega
    · rw [if_neg n] at e; have := IvT_cL H hq e; omega
  · rw [pt_is] at e; rw [pt_yr]
    by_cases n : q = l
    · rw [if_pos n, hgy]
      exact ⟨insP s y f (hg s y), by omega, by rw [pt_rgy s l y f z t p1, rgI_e, n]⟩
    · rw [if_neg n] at e ⊢
      obtain ⟨k, h1, h2⟩ := IvT_in H hq e
      have hx := IvT_yr H hq e
      by_cases ey : yr s q = y
      · rw [ey] at h1 h2 ⊢
        rw [hgy]
        by_cases c : k < insP s y f (hg s y)
        · exact ⟨k, by omega, by rw [pt_rgy s l y f z t (by omega), rgI_l c, h2]⟩
        · exact ⟨k + 1, by omega, by rw [pt_rgy s l y f z t (by omega), rgI_g (by omega), Nat.add_sub_cancel, h2]⟩
      · rw [hgo _ ey]
        exact ⟨k, h1, by rw [ok _ ey k hx h1, h2]⟩
  · rw [pt_is] at e
    by_cases n : q = l
    · rw [if_pos n] at e; omega
    · rw [if_neg n] at e; exact IvT_n0 H hq e
  · rw [tt]; exact IvT_tt H hq
  · rw [pt_hg]; split
    · rename_i e; rw [e]; omega
    · exact IvT_hg H hx
  · exact each x k (fun q => q < 40) hx hk2 (fun _ => hl') (fun i hi => IvT_rg H hx hi)
  · refine each x k (fun q => isL (ptL s l y f z t) q = 1) hx hk2 (fun _ => by rw [pt_is, if_pos rfl]) (fun i hi => ?_)
    show isL (ptL s l y f z t) (rg s (6 * x + i)) = 1
    rw [pt_is, if_neg (nl x i hx hi)]; exact IvT_ri H hx hi
  · refine each x k (fun q => yr (ptL s l y f z t) q = x) hx hk2 (fun e => by rw [pt_yr, if_pos rfl, e]) (fun i hi => ?_)
    show yr (ptL s l y f z t) (rg s (6 * x + i)) = x
    rw [pt_yr, if_neg (nl x i hx hi)]; exact IvT_ry H hx hi
  · by_cases e : x = y
    · subst e
      rw [hgy] at hk2
      rw [pt_rgy s l x f z t (by omega), pt_rgy s l x f z t (by omega)]
      rcases Nat.lt_trichotomy (k + 1) (insP s x f (hg s x)) with c | c | c
      · rw [rgI_l (k := k) (by omega), rgI_l (k := k + 1) c, to' x k hx (by omega), fo x (k + 1) hx (by omega)]
        exact IvT_st H hx (by omega)
      · rw [rgI_l (k := k) (by omega), to' x k hx (by omega), c, rgI_e, fl']
        exact p2 k (by omega)
      · by_cases d : k = insP s x f (hg s x)
        · rw [rgI_g c, Nat.add_sub_cancel, fo x k hx (by omega)]
          rw [show rgI s x l (insP s x f (hg s x)) k = l by rw [d, rgI_e], tl]
          exact p3 k (by omega) (by omega)
        · rw [rgI_g (k := k + 1) c, Nat.add_sub_cancel, rgI_g (k := k) (by omega), to' x (k - 1) hx (by omega), fo x k hx (by omega)]
          have := IvT_st H hx (k := k - 1) (by omega)
          rwa [show k - 1 + 1 = k by omega] at this
    · rw [hgo x e] at hk2
      rw [ok x e k hx (by omega), ok x e (k + 1) hx hk2, to' x k hx (by omega), fo x (k + 1) hx hk2]
      exact IvT_st H hx hk2
  · by_cases e : x = y
    · subst e
      have r0 := pt_rgy s l x f z t (Nat.zero_le (hg s x))
      rw [Nat.add_zero] at r0
      rw [r0]
      by_cases c : insP s x f (hg s x) = 0
      · rw [show rgI s x l (insP s x f (hg s x)) 0 = l by rw [c, rgI_e], fl', pt_hl, if_pos rfl, if_pos c]; omega
      · rw [rgI_l (by omega), fo x 0 hx (by omega), pt_hl, if_neg (nl x 0 hx (by omega)), if_neg (fun q => c (rg_inj H hx (by omega) q.1 q.2).symm)]
        have := IvT_h0 H hx (by omega)
        rwa [Nat.add_zero]
    · rw [hgo x e] at h2
      have r0 := ok x e 0 hx h2
      rw [Nat.add_zero] at r0
      rw [r0]
      have n0 := nl x 0 hx h2
      have f0 := fo x 0 hx h2
      rw [Nat.add_zero] at n0 f0
      rw [f0, pt_hl, if_neg n0, if_neg (fun q => e (by
        have := q.2
        rw [← Nat.add_zero (6 * x)] at this
        exact rg_yr H hx hy h2 q.1 this))]
      exact IvT_h0 H hx h2
  · by_cases e : x = y
    · subst e
      rw [hgy] at hk2
      rw [pt_rgy s l x f z t (by omega), pt_rgy s l x f z t (by omega)]
      rcases Nat.lt_trichotomy (k + 1) (insP s x f (hg s x)) with c | c | c
      · rw [rgI_l (k := k) (by omega), rgI_l (k := k + 1) c, to' x k hx (by omega), fo x (k + 1) hx (by omega), pt_hl, if_neg (nl x (k + 1) hx (by omega)), if_neg (fun q => by have := rg_inj H hx (by omega) q.1 q.2; omega)]
        exact IvT_hk H hx (by omega)
      · rw [rgI_l (k := k) (by omega), to' x k hx (by omega), c, rgI_e, fl', pt_hl, if_pos rfl, if_neg (by omega), show insP s x f (hg s x) - 1 = k by omega]
      · by_cases d : k = insP s x f (hg s x)
        · rw [rgI_g c, Nat.add_sub_cancel, fo x k hx (by omega), show rgI s x l (insP s x f (hg s x)) k = l by rw [d, rgI_e], tl, pt_hl, if_neg (nl x k hx (by omega)), if_pos ⟨by omega, by rw [← d]⟩]
        · rw [rgI_g (k := k + 1) c, Nat.add_sub_cancel, rgI_g (k := k) (by omega), to' x (k - 1) hx (by omega), fo x k hx (by omega), pt_hl, if_neg (nl x k hx (by omega)), if_neg (fun q => by have := rg_inj H hx (by omega) q.1 q.2; omega)]
          have := IvT_hk H hx (k := k - 1) (by omega)
          rwa [show k - 1 + 1 = k by omega] at this
    · rw [hgo x e] at hk2
      rw [ok x e k hx (by omega), ok x e (k + 1) hx hk2, to' x k hx (by omega), fo x (k + 1) hx hk2, pt_hl, if_neg (nl x (k + 1) hx hk2), if_neg (fun q => e (rg_yr H hx hy hk2 q.1 q.2))]
      exact IvT_hk H hx hk2
  · have ne : x ≠ y := fun e => by
      have h3 : lkb s x = true := h2
      rw [e, hk] at h3
      exact absurd h3 (by decide)
    rw [hgo x ne]; exact IvT_lg H hx h2
  · rw [pt_cL]
    have := IvT_c40 H
    omega
theorem Iv_pt {N : Nat} {s : Sp} (H : Iv N s) {l y f z t : Nat} (hl' : l < 40) (hy : y < 12) (hf : f ≤ 900000000) (hz : 1 ≤ z ∧ z ≤ 100000000) (ht : 1 ≤ t ∧ t ≤ 4) (h0 : isL s l = 0) (hk : lkb s y = false) (h6 : hg s y < 6) (hr : fre s y f z) : Iv N (ptL s l y f z t) := by
  have HH := H.H
  refine ⟨IvT_pt H.T hl' hy hf hz ht h0 hk h6 hr, ?_, IvR_c (s := s) (fun g h1 h2 => by
    have : g = 19 ∨ g = 20 ∨ g = 21 := by omega
    rcases this with e | e | e <;> subst e <;> rfl) H.R⟩
  refine ⟨HH.1, HH.2.1, HH.2.2.1, HH.2.2.2.1, HH.2.2.2.2.1, HH.2.2.2.2.2.1, HH.2.2.2.2.2.2.1, fun g q hg hq => ?_, fun g q hg hq e => ?_, HH.2.2.2.2.2.2.2.2.2.1, HH.2.2.2.2.2.2.2.2.2.2.1, HH.2.2.2.2.2.2.2.2.2.2.2.1, fun q hq e => ?_, HH.2.2.2.2.2.2.2.2.2.2.2.2.2⟩
  · have a := IvH_tk HH hg hq
    rw [pt_sz]
    by_cases n : q = l
    · rw [if_pos n]
      have b := IvH_t0 HH hg hq (by rw [n]; exact h0)
      have c : tk (ptL s l y f z t) (40 * g + q) = tk s (40 * g + q) := rfl
      rw [c]; omega
    · rw [if_neg n]; exact a
  · rw [pt_is] at e
    by_cases n : q = l
    · rw [if_pos n] at e; omega
    · rw [if_neg n] at e; exact IvH_t0 HH hg hq e
  · rw [pt_is] at e
    rw [pt_sz, pt_tm]
    by_cases n : q = l
    · rw [if_pos n, if_pos n]
      have u : us (ptL s l y f z t) q = 0 := by
        show us s q = 0
        rw [IvH_us HH hq]
        exact sm_z fun i hi => IvH_t0 HH (by omega) hq (by rw [n]; exact h0)
      rw [u]
      exact Int.mul_nonneg (by omega) (by omega)
    · rw [if_neg n] at e
      rw [if_neg n, if_neg n]; exact IvH_ul HH hq e
