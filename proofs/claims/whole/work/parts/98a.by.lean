/-! gone over by other rules: the model -/
section
variable {fu n N M b : Nat} {ev : Nat → Ev} {μ m : Mem} {s t : Sp} {P : Nat → Prop}
theorem m_skip {k : Nat} {x : Mem} (hf : 200 < fu) (hk : k < 160) (g : MG x k (ev k)) (E : EvOK (ev k)) (h3 : ev k 0 = 3) (h1 : x.1 85 48 = nI 1) (R : RM x t) (H : Iv N t) : D_X7_goes_0 fu (nI k) x = some x := by
  have cb : canB t (ev k) = true := canB_t.mpr ((can_3 (Or.inl h3)).mpr trivial)
  unfold D_X7_goes_0
  rw [m_can hf hk g E R H, bi_s, if_pos cb]
  unfold D_X7_does_0
  have ne : ¬ (ev k 0 = 0 ∨ ev k 0 = 4) := by omega
  simp only [gu_ib hk (show 160 < 2147483648 by decide), nI_nat (show k < 2147483648 by omega), g.1, h3]
  rw [show D_X7_tell_0 x (nI k) 0 = some (nI (ev k 1)) from m_tell1 hk (by decide) ne g, bi_s, if_neg (by decide), if_neg (by decide), if_neg (by decide), if_pos (show nI 3 = 3 from rfl), h1, if_neg (by decide)]
  rfl
end
