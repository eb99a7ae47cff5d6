/-! the law's own code, read by bytes: a part of 64 bytes at a time -/
def rd (A : ByteArray) (p b : Nat) : Prop := ∃ x : UInt8, A.data.toList[p]? = some x ∧ x.toNat = b
theorem u1_at {A : ByteArray} {p b : Nat} (h : rd A p b) : (Reader.u1 : Reader DecodeError Nat) A p = .ok (b, p + 1) := by
  obtain ⟨x, hx, hb⟩ := h
  have hp : p < A.size := by
    have h1 := (List.getElem?_eq_some_iff.mp hx).1
    rw [Array.length_toList] at h1
    exact h1
  have hv : A[p] = x := by
    obtain ⟨h1, h2⟩ := List.getElem?_eq_some_iff.mp hx
    rw [← h2]
    simp [ByteArray.getElem_eq_getElem_data]
  have e : (Reader.u1 : Reader DecodeError Nat) A p = (dite (p < A.size) (fun h => (do set (p + 1); pure A[p].toNat : Reader DecodeError Nat)) (fun _ => throw (HasTruncated.truncated p))) A p := rfl
  rw [e, dif_pos hp]
  show Except.ok (A[p].toNat, p + 1) = _
  rw [hv, hb]
theorem u2_at {A : ByteArray} {p b c : Nat} (h : rd A p b) (h1 : rd A (p + 1) c) : (Reader.u2 : Reader DecodeError Nat) A p = .ok (b * 256 + c, p + 2) := by
  have e : (Reader.u2 : Reader DecodeError Nat) A p = ((Reader.u1 : Reader DecodeError Nat) A p).bind (fun q => ((Reader.u1 : Reader DecodeError Nat) A q.2).bind (fun r => .ok (q.1 * 256 + r.1, r.2))) := rfl
  rw [e, u1_at h]
  show ((Reader.u1 : Reader DecodeError Nat) A (p + 1)).bind _ = _
  rw [u1_at h1]
  rfl
theorem s2_at {A : ByteArray} {p b c : Nat} (h : rd A p b) (h1 : rd A (p + 1) c) : (Reader.s2 : Reader DecodeError Int) A p = .ok (Reader.signed 16 (b * 256 + c), p + 2) := by
  have e : (Reader.s2 : Reader DecodeError Int) A p = ((Reader.u2 : Reader DecodeError Nat) A p).bind (fun q => .ok (Reader.signed 16 q.1, q.2)) := rfl
  rw [e, u2_at h h1]
  rfl
theorem de_at {A : ByteArray} {pc b : Nat} (h : rd A pc b) (k : Nat → Reader DecodeError Instr) (hk : Decoder.instr pc = Reader.u1 >>= k) : decode A pc = ((k b) A (pc + 1)).bind (fun q => .ok (q.1, q.2 - pc)) := by
  have e : decode A pc = ((Decoder.instr pc) A pc).bind (fun q => .ok (q.1, q.2 - pc)) := rfl
  rw [e, hk]
  have e2 : (Reader.u1 >>= k) A pc = ((Reader.u1 : Reader DecodeError Nat) A pc).bind (fun q => k q.1 A q.2) := rfl
  rw [e2, u1_at h]
  rfl
theorem de_aload_0 {A : ByteArray} {pc : Nat} (h : rd A pc 42) : decode A pc = .ok (.aload_n 0, 1) := by
  rw [de_at h _ rfl]
  show (Except.ok ((.aload_n 0 : Instr), pc + 1 - pc) : Except DecodeError (Instr × Nat)) = _
  rw [Nat.add_sub_cancel_left]
theorem de_aload_1 {A : ByteArray} {pc : Nat} (h : rd A pc 43) : decode A pc = .ok (.aload_n 1, 1) := by
  rw [de_at h _ rfl]
  show (Except.ok ((.aload_n 1 : Instr), pc + 1 - pc) : Except DecodeError (Instr × Nat)) = _
  rw [Nat.add_sub_cancel_left]
theorem de_aload_2 {A : ByteArray} {pc : Nat} (h : rd A pc 44) : decode A pc = .ok (.aload_n 2, 1) := by
  rw [de_at h _ rfl]
  show (Except.ok ((.aload_n 2 : Instr), pc + 1 - pc) : Except DecodeError (Instr × Nat)) = _
  rw [Nat.add_sub_cancel_left]
theorem de_aload_3 {A : ByteArray} {pc : Nat} (h : rd A pc 45) : decode A pc = .ok (.aload_n 3, 1) := by
  rw [de_at h _ rfl]
  show (Except.ok ((.aload_n 3 : Instr), pc + 1 - pc) : Except DecodeError (Instr × Nat)) = _
  rw [Nat.add_sub_cancel_left]
theorem de_iaload {A : ByteArray} {pc : Nat} (h : rd A pc 46) : decode A pc = .ok (.iaload, 1) := by
  rw [de_at h _ rfl]
  show (Except.ok ((.iaload : Instr), pc + 1 - pc) : Except DecodeError (Instr × Nat)) = _
  rw [Nat.add_sub_cancel_left]
theorem de_laload {A : ByteArray} {pc : Nat} (h : rd A pc 47) : decode A pc = .ok (.laload, 1) := by
  rw [de_at h _ rfl]
  show (Except.ok ((.laload : Instr), pc + 1 - pc) : Except DecodeError (Instr × Nat)) = _
  rw [Nat.add_sub_cancel_left]
theorem de_iadd {A : ByteArray} {pc : Nat} (h : rd A pc 96) : decode A pc = .ok (.iadd, 1) := by
  rw [de_at h _ rfl]
  show (Except.ok ((.iadd : Instr), pc + 1 - pc) : Except DecodeError (Instr × Nat)) = _
  rw [Nat.add_sub_cancel_left]
theorem de_i2l {A : ByteArray} {pc : Nat} (h : rd A pc 133) : decode A pc = .ok (.i2l, 1) := by
  rw [de_at h _ rfl]
  show (Except.ok ((.i2l : Instr), pc + 1 - pc) : Except DecodeError (Instr × Nat)) = _
  rw [Nat.add_sub_cancel_left]
theorem de_lcmp {A : ByteArray} {pc : Nat} (h : rd A pc 148) : decode A pc = .ok (.lcmp, 1) := by
  rw [de_at h _ rfl]
  show (Except.ok ((.lcmp : Instr), pc + 1 - pc) : Except DecodeError (Instr × Nat)) = _
  rw [Nat.add_sub_cancel_left]
theorem de_ireturn {A : ByteArray} {pc : Nat} (h : rd A pc 172) : decode A pc = .ok (.ireturn, 1) := by
  rw [de_at h _ rfl]
  show (Except.ok ((.ireturn : Instr), pc + 1 - pc) : Except DecodeError (Instr × Nat)) = _
  rw [Nat.add_sub_cancel_left]
theorem de_iconst_m1 {A : ByteArray} {pc : Nat} (h : rd A pc 2) : decode A pc = .ok (.iconst (-1), 1) := by
  rw [de_at h _ rfl]
  show (Except.ok ((.iconst (-1) : Instr), pc + 1 - pc) : Except DecodeError (Instr × Nat)) = _
  rw [Nat.add_sub_cancel_left]
theorem de_iconst_0 {A : ByteArray} {pc : Nat} (h : rd A pc 3) : decode A pc = .ok (.iconst 0, 1) := by
  rw [de_at h _ rfl]
  show (Except.ok ((.iconst 0 : Instr), pc + 1 - pc) : Except DecodeError (Instr × Nat)) = _
  rw [Nat.add_sub_cancel_left]
theorem de_iconst_1 {A : ByteArray} {pc : Nat} (h : rd A pc 4) : decode A pc = .ok (.iconst 1, 1) := by
  rw [de_at h _ rfl]
  show (Except.ok ((.iconst 1 : Instr), pc + 1 - pc) : Except DecodeError (Instr × Nat)) = _
  rw [Nat.add_sub_cancel_left]
theorem de_iconst_2 {A : ByteArray} {pc : Nat} (h : rd A pc 5) : decode A pc = .ok (.iconst 2, 1) := by
  rw [de_at h _ rfl]
  show (Except.ok ((.iconst 2 : Instr), pc + 1 - pc) : Except DecodeError (Instr × Nat)) = _
  rw [Nat.add_sub_cancel_left]
theorem de_iconst_3 {A : ByteArray} {pc : Nat} (h : rd A pc 6) : decode A pc = .ok (.iconst 3, 1) := by
  rw [de_at h _ rfl]
  show (Except.ok ((.iconst 3 : Instr), pc + 1 - pc) : Except DecodeError (Instr × Nat)) = _
  rw [Nat.add_sub_cancel_left]
theorem de_iconst_4 {A : ByteArray} {pc : Nat} (h : rd A pc 7) : decode A pc = .ok (.iconst 4, 1) := by
  rw [de_at h _ rfl]
  show (Except.ok ((.iconst 4 : Instr), pc + 1 - pc) : Except DecodeError (Instr × Nat)) = _
  rw [Nat.add_sub_cancel_left]
theorem de_iconst_5 {A : ByteArray} {pc : Nat} (h : rd A pc 8) : decode A pc = .ok (.iconst 5, 1) := by
  rw [de_at h _ rfl]
  show (Except.ok ((.iconst 5 : Instr), pc + 1 - pc) : Except DecodeError (Instr × Nat)) = _
  rw [Nat.add_sub_cancel_left]
theorem de_iload {A : ByteArray} {pc b : Nat} (h : rd A pc 21) (h1 : rd A (pc + 1) b) : decode A pc = .ok (.iload b, 2) := by
  rw [de_at h _ rfl]
  have e : ∀ k : Nat → Instr, ((do pure (k (← Reader.u1)) : Reader DecodeError Instr) A (pc + 1)) = ((Reader.u1 : Reader DecodeError Nat) A (pc + 1)).bind (fun q => .ok (k q.1, q.2)) := fun _ => rfl
  show ((do pure (.iload (← Reader.u1)) : Reader DecodeError Instr) A (pc + 1)).bind _ = _
  rw [e, u1_at h1]
  show Except.ok (_, pc + 1 + 1 - pc) = _
  rw [show pc + 1 + 1 - pc = 2 by omega]
theorem de_lload {A : ByteArray} {pc b : Nat} (h : rd A pc 22) (h1 : rd A (pc + 1) b) : decode A pc = .ok (.lload b, 2) := by
  rw [de_at h _ rfl]
  have e : ∀ k : Nat → Instr, ((do pure (k (← Reader.u1)) : Reader DecodeError Instr) A (pc + 1)) = ((Reader.u1 : Reader DecodeError Nat) A (pc + 1)).bind (fun q => .ok (k q.1, q.2)) := fun _ => rfl
  show ((do pure (.lload (← Reader.u1)) : Reader DecodeError Instr) A (pc + 1)).bind _ = _
  rw [e, u1_at h1]
  show Except.ok (_, pc + 1 + 1 - pc) = _
  rw [show pc + 1 + 1 - pc = 2 by omega]
theorem de_istore {A : ByteArray} {pc b : Nat} (h : rd A pc 54) (h1 : rd A (pc + 1) b) : decode A pc = .ok (.istore b, 2) := by
  rw [de_at h _ rfl]
  have e : ∀ k : Nat → Instr, ((do pure (k (← Reader.u1)) : Reader DecodeError Instr) A (pc + 1)) = ((Reader.u1 : Reader DecodeError Nat) A (pc + 1)).bind (fun q => .ok (k q.1, q.2)) := fun _ => rfl
  show ((do pure (.istore (← Reader.u1)) : Reader DecodeError Instr) A (pc + 1)).bind _ = _
  rw [e, u1_at h1]
  show Except.ok (_, pc + 1 + 1 - pc) = _
  rw [show pc + 1 + 1 - pc = 2 by omega]
theorem de_lstore {A : ByteArray} {pc b : Nat} (h : rd A pc 55) (h1 : rd A (pc + 1) b) : decode A pc = .ok (.lstore b, 2) := by
  rw [de_at h _ rfl]
  have e : ∀ k : Nat → Instr, ((do pure (k (← Reader.u1)) : Reader DecodeError Instr) A (pc + 1)) = ((Reader.u1 : Reader DecodeError Nat) A (pc + 1)).bind (fun q => .ok (k q.1, q.2)) := fun _ => rfl
  show ((do pure (.lstore (← Reader.u1)) : Reader DecodeError Instr) A (pc + 1)).bind _ = _
  rw [e, u1_at h1]
  show Except.ok (_, pc + 1 + 1 - pc) = _
  rw [show pc + 1 + 1 - pc = 2 by omega]
theorem de_aload {A : ByteArray} {pc b : Nat} (h : rd A pc 25) (h1 : rd A (pc + 1) b) : decode A pc = .ok (.aload b, 2) := by
  rw [de_at h _ rfl]
  have e : ∀ k : Nat → Instr, ((do pure (k (← Reader.u1)) : Reader DecodeError Instr) A (pc + 1)) = ((Reader.u1 : Reader DecodeError Nat) A (pc + 1)).bind (fun q => .ok (k q.1, q.2)) := fun _ => rfl
  show ((do pure (.aload (← Reader.u1)) : Reader DecodeError Instr) A (pc + 1)).bind _ = _
  rw [e, u1_at h1]
  show Except.ok (_, pc + 1 + 1 - pc) = _
  rw [show pc + 1 + 1 - pc = 2 by omega]
theorem de_invokestatic {A : ByteArray} {pc b c n : Nat} (h : rd A pc 184) (h1 : rd A (pc + 1) b) (h2 : rd A (pc + 2) c) (hn : b * 256 + c = n) : decode A pc = .ok (.invokestatic n, 3) := by
  subst hn
  rw [de_at h _ rfl]
  have e : ∀ k : Nat → Instr, ((do pure (k (← Reader.u2)) : Reader DecodeError Instr) A (pc + 1)) = ((Reader.u2 : Reader DecodeError Nat) A (pc + 1)).bind (fun q => .ok (k q.1, q.2)) := fun _ => rfl
  show ((do pure (.invokestatic (← Reader.u2)) : Reader DecodeError Instr) A (pc + 1)).bind _ = _
  rw [e, u2_at h1 h2]
  show Except.ok (_, pc + 1 + 2 - pc) = _
  rw [show pc + 1 + 2 - pc = 3 by omega]
theorem de_invokevirtual {A : ByteArray} {pc b c n : Nat} (h : rd A pc 182) (h1 : rd A (pc + 1) b) (h2 : rd A (pc + 2) c) (hn : b * 256 + c = n) : decode A pc = .ok (.invokevirtual n, 3) := by
  subst hn
  rw [de_at h _ rfl]
  have e : ∀ k : Nat → Instr, ((do pure (k (← Reader.u2)) : Reader DecodeError Instr) A (pc + 1)) = ((Reader.u2 : Reader DecodeError Nat) A (pc + 1)).bind (fun q => .ok (k q.1, q.2)) := fun _ => rfl
  show ((do pure (.invokevirtual (← Reader.u2)) : Reader DecodeError Instr) A (pc + 1)).bind _ = _
  rw [e, u2_at h1 h2]
  show Except.ok (_, pc + 1 + 2 - pc) = _
  rw [show pc + 1 + 2 - pc = 3 by omega]
theorem de_goto {A : ByteArray} {pc b c : Nat} {n : Int} (h : rd A pc 167) (h1 : rd A (pc + 1) b) (h2 : rd A (pc + 2) c) (hn : Reader.signed 16 (b * 256 + c) = n) : decode A pc = .ok (.goto n, 3) := by
  subst hn
  rw [de_at h _ rfl]
  have e : ∀ k : Int → Instr, ((do pure (k (← Reader.s2)) : Reader DecodeError Instr) A (pc + 1)) = ((Reader.s2 : Reader DecodeError Int) A (pc + 1)).bind (fun q => .ok (k q.1, q.2)) := fun _ => rfl
  show ((do pure (.goto (← Reader.s2)) : Reader DecodeError Instr) A (pc + 1)).bind _ = _
  rw [e, s2_at h1 h2]
  show Except.ok (_, pc + 1 + 2 - pc) = _
  rw [show pc + 1 + 2 - pc = 3 by omega]
theorem de_ifeq {A : ByteArray} {pc b c : Nat} {n : Int} (h : rd A pc 153) (h1 : rd A (pc + 1) b) (h2 : rd A (pc + 2) c) (hn : Reader.signed 16 (b * 256 + c) = n) : decode A pc = .ok (.ifCond .eq n, 3) := by
  subst hn
  rw [de_at h _ rfl]
  have e : ∀ k : Int → Instr, ((do pure (k (← Reader.s2)) : Reader DecodeError Instr) A (pc + 1)) = ((Reader.s2 : Reader DecodeError Int) A (pc + 1)).bind (fun q => .ok (k q.1, q.2)) := fun _ => rfl
  show ((do pure (.ifCond .eq (← Reader.s2)) : Reader DecodeError Instr) A (pc + 1)).bind _ = _
  rw [e, s2_at h1 h2]
  show Except.ok (_, pc + 1 + 2 - pc) = _
  rw [show pc + 1 + 2 - pc = 3 by omega]
theorem de_ifne {A : ByteArray} {pc b c : Nat} {n : Int} (h : rd A pc 154) (h1 : rd A (pc + 1) b) (h2 : rd A (pc + 2) c) (hn : Reader.signed 16 (b * 256 + c) = n) : decode A pc = .ok (.ifCond .ne n, 3) := by
  subst hn
  rw [de_at h _ rfl]
  have e : ∀ k : Int → Instr, ((do pure (k (← Reader.s2)) : Reader DecodeError Instr) A (pc + 1)) = ((Reader.s2 : Reader DecodeError Int) A (pc + 1)).bind (fun q => .ok (k q.1, q.2)) := fun _ => rfl
  show ((do pure (.ifCond .ne (← Reader.s2)) : Reader DecodeError Instr) A (pc + 1)).bind _ = _
  rw [e, s2_at h1 h2]
  show Except.ok (_, pc + 1 + 2 - pc) = _
  rw [show pc + 1 + 2 - pc = 3 by omega]
theorem de_if_icmpeq {A : ByteArray} {pc b c : Nat} {n : Int} (h : rd A pc 159) (h1 : rd A (pc + 1) b) (h2 : rd A (pc + 2) c) (hn : Reader.signed 16 (b * 256 + c) = n) : decode A pc = .ok (.if_icmp .eq n, 3) := by
  subst hn
  rw [de_at h _ rfl]
  have e : ∀ k : Int → Instr, ((do pure (k (← Reader.s2)) : Reader DecodeError Instr) A (pc + 1)) = ((Reader.s2 : Reader DecodeError Int) A (pc + 1)).bind (fun q => .ok (k q.1, q.2)) := fun _ => rfl
  show ((do pure (.if_icmp .eq (← Reader.s2)) : Reader DecodeError Instr) A (pc + 1)).bind _ = _
  rw [e, s2_at h1 h2]
  show Except.ok (_, pc + 1 + 2 - pc) = _
  rw [show pc + 1 + 2 - pc = 3 by omega]
