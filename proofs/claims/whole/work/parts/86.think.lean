/-! thinking of a harm -/
section
variable {fu n N : Nat} {ev : Nat → Ev} {μ m : Mem} {s : Sp}
theorem m_clr24 (hf : 200 < fu) (R : RM m s) (H : Iv N s) : Ok (D_X7_clearsHarm_0 fu (nI 24) m) (fun x => Fr (fun q => 105 ≤ q ∧ q ≤ 110) m x ∧ RM x s) := by
  have h24 := IvH_24 H.H
  refine (m_clrH hf (by decide)).mo fun x p => ⟨p.1, ?_, ?_, ?_⟩
  · exact RMa_F p.1 (fun q z => by omega) R.a
  · exact RMb_F p.1 (fun q z => by omega) R.b
  · obtain ⟨F, c1, c2, c3, c4⟩ := p
    refine ⟨fun l hl => ?_, fun h hh => ?_, fun j hj => ?_, fun j hj => ?_, fun j hj => ?_, fun j hj => ?_, fun j hj => ?_, fun j hj => ?_⟩
    · rw [F.L (by omega)]; exact M_us R hl
    · rw [F.L (by omega)]; exact M_lo R hh
    · rw [c1 105 (by decide) (by decide)]
      split
      · have z := IvH_z2 H.H (h := 24) (l := j - 960) (by decide) h24 (by omega)
        rw [show 40 * 24 + (j - 960) = j by omega] at z
        show _ = zL (tk s j); rw [z.1]
      · exact M_tk R hj
    · rw [c1 106 (by decide) (by decide)]
      split
      · have z := IvH_z2 H.H (h := 24) (l := j - 960) (by decide) h24 (by omega)
        rw [show 40 * 24 + (j - 960) = j by omega] at z
        show _ = zL (th s j); rw [z.2.1]
      · exact M_th R hj
    · rw [c1 107 (by decide) (by decide)]
      split
      · have z := IvH_z2 H.H (h := 24) (l := j - 960) (by decide) h24 (by omega)
        rw [show 40 * 24 + (j - 960) = j by omega] at z
        show _ = zL (mv s j); rw [z.2.2]
      · exact M_mv R hj
    · rw [c2]
      split
      · have z := IvH_z5 H.H (h := 24) (j := j - 3840) (by decide) h24 (by omega)
        rw [show 160 * 24 + (j - 3840) = j by omega] at z
        show _ = zI (hd s j); rw [z]; rfl
      · exact M_hd R hj
    · rw [c3]
      split
      · have z := IvH_z6 H.H (h := 24) (i := j - 240) (by decide) h24 (by omega)
        rw [show 10 * 24 + (j - 240) = j by omega] at z
        show _ = zL (br s j); rw [z]
      · exact M_br R hj
    · rw [c4]
      split
      · have z := IvH_z7 H.H (h := 24) (r := j - 168) (by decide) h24 (by omega)
        rw [show 7 * 24 + (j - 168) = j by omega] at z
        show _ = zL (fl s j); rw [z]
      · exact M_fl R hj
theorem m_thinks {a b c : Nat} (hf : 200 < fu) (h1 : a ≤ b) (h2 : b ≤ c) (h3 : c < 12) (R : RM m s) (H : Iv N s) : Ok (D_X7_thinks_0 fu (nI a) (nI b) (nI c) m) (fun x => Fr (fun q => 100 ≤ q ∧ q ≤ 102 ∨ 105 ≤ q ∧ q ≤ 110) m x ∧ RM x s ∧ MY x 24 a b c) := by
  have h24 := IvH_24 H.H
  unfold D_X7_thinks_0
  simp (disch := omega) only [li0, li1, li2, li3, li4, li5, li6, li7, li8, li9, li10, li12, li24, li31, li40, li160, n_le, n_lt, n_eq, n_m1, n_add, mr4, mr6, mr7, mr10, mr40, mr160, ml4, ml6, ml7, ml10, ml40, ml160, gu_ib, nI_nat, bi_s, vl_e, gu_t, if_true, if_false, reduceIte, bt1_1, bt1_2, bt1_3, bt1_4, bt1_5, bt1_6, bt1_7, bt1_8, bt1_9, bt1_10, bt1_11, bt1_12, bt14_1, bt14_2, bt14_3, bt14_4, bt14_5, bt14_6, bt14_7, bt14_8, bt14_9, bt14_10, bt14_11, bt14_12]
  generalize ex : wI (wI (wI m 100 24 (nI a)) 101 24 (nI b)) 102 24 (nI c) = x
  have e100 : ∀ j, x.1 100 j = if j = 24 then nI a else m.1 100 j := fun j => by rw [← ex, wI_n (by decide), wI_n (by decide), wI_s]
  have e101 : ∀ j, x.1 101 j = if j = 24 then nI b else m.1 101 j := fun j => by rw [← ex, wI_n (by decide), wI_s, wI_n (by decide)]
  have e102 : ∀ j, x.1 102 j = if j = 24 then nI c else m.1 102 j := fun j => by rw [← ex, wI_s, wI_n (by decide), wI_n (by decide)]
  have F0 : Fr (fun q => 100 ≤ q ∧ q ≤ 102) m x := by rw [← ex]; exact Fr.wI (Fr.wI (Fr.wI Fr.rfl' (by omega)) (by omega)) (by omega)
  have Rx : RM x s := by
    refine ⟨RMa_F F0 (fun q z => by omega) R.a, ?_, RMz_F F0 (fun q z => by omega) R.z⟩
    obtain ⟨r1, r2, r3, r4, r5, r6, r7, r8, r9, r10⟩ := R.b
    refine ⟨fun h hh => by rw [F0.I (by omega)]; exact r1 h hh, fun h hh q => ?_, fun h hh q => ?_, fun h hh q => ?_, fun h hh => by rw [F0.I (by omega)]; exact r5 h hh, fun i hi => by rw [F0.I (by omega)]; exact r6 i hi, fun i hi => by rw [F0.I (by omega)]; exact r7 i hi, by rw [F0.I (by omega)]; exact r8, by rw [F0.I (by omega)]; exact r9, by rw [F0.I (by omega)]; exact r10⟩
    · rw [e100, if_neg (fun z => by rw [z] at q; exact absurd (h24.symm.trans q) n01)]; exact r2 h hh q
    · rw [e101, if_neg (fun z => by rw [z] at q; exact absurd (h24.symm.trans q) n01)]; exact r3 h hh q
    · rw [e102, if_neg (fun z => by rw [z] at q; exact absurd (h24.symm.trans q) n01)]; exact r4 h hh q
  have Yx : MY x 24 a b c := ⟨by rw [e100, if_pos rfl], by rw [e101, if_pos rfl], by rw [e102, if_pos rfl], h1, h2, h3⟩
  refine Ok.b (m_clr24 hf Rx H) fun y p => Ok.s ⟨Fr.tr (F0.mo fun q z => Or.inl z) (p.1.mo fun q z => Or.inr z), p.2, MY_F p.1 (fun q z => by omega) Yx⟩
end
