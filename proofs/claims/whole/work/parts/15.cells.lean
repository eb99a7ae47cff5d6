def gu {β : Type} (b : Bool) (k : Option β) : Option β := if b then k else none
theorem gu_o {β : Type} {b : Bool} {k : Option β} {r : β} (h : gu b k = some r) : b = true ∧ k = some r := if_o h
def tx {α β : Type} (r : (α ⊕ String) × Mem) (k : α → Mem → Option ((β ⊕ String) × Mem)) : Option ((β ⊕ String) × Mem) := match r.1 with
  | .inl v => k v r.2
  | .inr E => some (.inr E, r.2)
theorem tx_o {α β : Type} {r : (α ⊕ String) × Mem} {k : α → Mem → Option ((β ⊕ String) × Mem)} {z : (β ⊕ String) × Mem} (h : tx r k = some z) : (∃ v, r.1 = .inl v ∧ k v r.2 = some z) ∨ ∃ E, r.1 = .inr E ∧ ((.inr E, r.2) : (β ⊕ String) × Mem) = z := by
  obtain ⟨u, m⟩ := r
  cases u with
  | inl v => exact Or.inl ⟨v, rfl, h⟩
  | inr E => exact Or.inr ⟨E, rfl, Option.some.inj h⟩
def b01 (x : Int32) : Bool := decide (x = 0 ∨ x = 1)
def i2b (x : Int32) : Bool := decide (x = 1)
theorem b2i_i2b {x : Int32} (h : b01 x = true) : b2i (i2b x) = x := by
  rcases (of_decide_eq_true h : x = 0 ∨ x = 1) with rfl | rfl <;> decide
theorem V_alen {G : GX} {M : MT} {pc : Nat} {lv : List (Option Value)} {st : List Value} {μ μ1 : Mem} {o : Ou} {q n kd : Nat} (d : decode (mC M) pc = .ok (.arraylength, 1)) (hq : (gt G)[q]? = some (.inl (kd, n))) (hkd : kd < 3) (k : V G M (pc + 1) lv (.int (Int32.ofNat n) :: st) μ o μ1) : V G M pc lv (.ref q :: st) μ o μ1 := ⟨k.1, fun p e R s m args below meth c H locs cells slots ls F hl hP hS h1 h2 => by
  have hw : (wd G μ)[q]? = some (gb G + q, .inl (gc G kd, n, if kd = 1 then .inr (.inl (μ.2.1 q)) else .inl (μ.1 q))) := wd_at hq
  match kd, hkd, hw with
  | 0, _, hw => exact va_alen F.1 F.2.1 F.2.2.2.2.2.2.2.2.2.2.1.1 hP q 0 hw (ty := .int) rfl rfl d (k.2 p e R s m args below meth c H locs cells slots ls F hl hP hS h1 h2)
  | 1, _, hw => exact va_alen F.1 F.2.1 F.2.2.2.2.2.2.2.2.2.2.1.1 hP q 1 hw (ty := .long) rfl rfl d (k.2 p e R s m args below meth c H locs cells slots ls F hl hP hS h1 h2)
  | 2, _, hw => exact va_alen F.1 F.2.1 F.2.2.2.2.2.2.2.2.2.2.1.1 hP q 2 hw (ty := .boolean) rfl rfl d (k.2 p e R s m args below meth c H locs cells slots ls F hl hP hS h1 h2)⟩
def IsX0 (t : Nat) : Prop := t = 3 ∨ t = 32
def IsX1 (t : Nat) : Prop := t = 17 ∨ t = 46
def IsX3 (t : Nat) : Prop := t = 62 ∨ t = 69
def IsX5 (t : Nat) : Prop := t = 4 ∨ t = 33
theorem tq_0 {G : GX} (hG : gt G = tbl) : (gt G)[0]? = some (.inr (6, [some (some 1), some (some 3), some (some 32), some (some 61), some (some 84)])) := by rw [hG]; rfl
theorem tq_1 {G : GX} (hG : gt G = tbl) : (gt G)[1]? = some (.inr (2, [some (some 2), none])) := by rw [hG]; rfl
theorem tq_2 {G : GX} (hG : gt G = tbl) : (gt G)[2]? = some (.inl (0, 960)) := by rw [hG]; rfl
theorem tq_3 {G : GX} (hG : gt G = tbl) : (gt G)[3]? = some (.inr (0, [some (some 4), some (some 17), some (some 30), some (some 31), none, none, none])) := by rw [hG]; rfl
theorem tq_4 {G : GX} (hG : gt G = tbl) : (gt G)[4]? = some (.inr (5, [some (some 5), some (some 6), some (some 7), some (some 8), some (some 9), some (some 10), some (some 11), some (some 12), some (some 13), some (some 14), some (some 15), some (some 16), none, none])) := by rw [hG]; rfl
theorem tq_5 {G : GX} (hG : gt G = tbl) : (gt G)[5]? = some (.inl (0, 40)) := by rw [hG]; rfl
theorem tq_6 {G : GX} (hG : gt G = tbl) : (gt G)[6]? = some (.inl (0, 40)) := by rw [hG]; rfl
theorem tq_7 {G : GX} (hG : gt G = tbl) : (gt G)[7]? = some (.inl (0, 40)) := by rw [hG]; rfl
theorem tq_8 {G : GX} (hG : gt G = tbl) : (gt G)[8]? = some (.inl (0, 40)) := by rw [hG]; rfl
theorem tq_9 {G : GX} (hG : gt G = tbl) : (gt G)[9]? = some (.inl (1, 40)) := by rw [hG]; rfl
theorem tq_10 {G : GX} (hG : gt G = tbl) : (gt G)[10]? = some (.inl (0, 40)) := by rw [hG]; rfl
theorem tq_11 {G : GX} (hG : gt G = tbl) : (gt G)[11]? = some (.inl (0, 40)) := by rw [hG]; rfl
theorem tq_12 {G : GX} (hG : gt G = tbl) : (gt G)[12]? = some (.inl (0, 160)) := by rw [hG]; rfl
theorem tq_13 {G : GX} (hG : gt G = tbl) : (gt G)[13]? = some (.inl (0, 160)) := by rw [hG]; rfl
theorem tq_14 {G : GX} (hG : gt G = tbl) : (gt G)[14]? = some (.inl (1, 160)) := by rw [hG]; rfl
theorem tq_15 {G : GX} (hG : gt G = tbl) : (gt G)[15]? = some (.inl (0, 72)) := by rw [hG]; rfl
theorem tq_16 {G : GX} (hG : gt G = tbl) : (gt G)[16]? = some (.inl (0, 12)) := by rw [hG]; rfl
theorem tq_17 {G : GX} (hG : gt G = tbl) : (gt G)[17]? = some (.inr (1, [some (some 18), some (some 19), some (some 20), some (some 21), some (some 22), some (some 23), some (some 24), some (some 25), some (some 26), some (some 27), some (some 28), some (some 29), none])) := by rw [hG]; rfl
theorem tq_18 {G : GX} (hG : gt G = tbl) : (gt G)[18]? = some (.inl (2, 24)) := by rw [hG]; rfl
theorem tq_19 {G : GX} (hG : gt G = tbl) : (gt G)[19]? = some (.inl (0, 24)) := by rw [hG]; rfl
theorem tq_20 {G : GX} (hG : gt G = tbl) : (gt G)[20]? = some (.inl (0, 24)) := by rw [hG]; rfl
theorem tq_21 {G : GX} (hG : gt G = tbl) : (gt G)[21]? = some (.inl (0, 24)) := by rw [hG]; rfl
theorem tq_22 {G : GX} (hG : gt G = tbl) : (gt G)[22]? = some (.inl (1, 24)) := by rw [hG]; rfl
theorem tq_23 {G : GX} (hG : gt G = tbl) : (gt G)[23]? = some (.inl (0, 24)) := by rw [hG]; rfl
theorem tq_24 {G : GX} (hG : gt G = tbl) : (gt G)[24]? = some (.inl (1, 1000)) := by rw [hG]; rfl
theorem tq_25 {G : GX} (hG : gt G = tbl) : (gt G)[25]? = some (.inl (1, 1000)) := by rw [hG]; rfl
theorem tq_26 {G : GX} (hG : gt G = tbl) : (gt G)[26]? = some (.inl (1, 960)) := by rw [hG]; rfl
theorem tq_27 {G : GX} (hG : gt G = tbl) : (gt G)[27]? = some (.inl (1, 3840)) := by rw [hG]; rfl
theorem tq_28 {G : GX} (hG : gt G = tbl) : (gt G)[28]? = some (.inl (1, 240)) := by rw [hG]; rfl
theorem tq_29 {G : GX} (hG : gt G = tbl) : (gt G)[29]? = some (.inl (1, 168)) := by rw [hG]; rfl
theorem tq_30 {G : GX} (hG : gt G = tbl) : (gt G)[30]? = some (.inl (0, 10)) := by rw [hG]; rfl
theorem tq_31 {G : GX} (hG : gt G = tbl) : (gt G)[31]? = some (.inl (0, 10)) := by rw [hG]; rfl
theorem tq_32 {G : GX} (hG : gt G = tbl) : (gt G)[32]? = some (.inr (0, [some (some 33), some (some 46), some (some 59), some (some 60), none, none, none])) := by rw [hG]; rfl
theorem tq_33 {G : GX} (hG : gt G = tbl) : (gt G)[33]? = some (.inr (5, [some (some 34), some (some 35), some (some 36), some (some 37), some (some 38), some (some 39), some (some 40), some (some 41), some (some 42), some (some 43), some (some 44), some (some 45), none, none])) := by rw [hG]; rfl
theorem tq_34 {G : GX} (hG : gt G = tbl) : (gt G)[34]? = some (.inl (0, 40)) := by rw [hG]; rfl
theorem tq_35 {G : GX} (hG : gt G = tbl) : (gt G)[35]? = some (.inl (0, 40)) := by rw [hG]; rfl
theorem tq_36 {G : GX} (hG : gt G = tbl) : (gt G)[36]? = some (.inl (0, 40)) := by rw [hG]; rfl
theorem tq_37 {G : GX} (hG : gt G = tbl) : (gt G)[37]? = some (.inl (0, 40)) := by rw [hG]; rfl
theorem tq_38 {G : GX} (hG : gt G = tbl) : (gt G)[38]? = some (.inl (1, 40)) := by rw [hG]; rfl
theorem tq_39 {G : GX} (hG : gt G = tbl) : (gt G)[39]? = some (.inl (0, 40)) := by rw [hG]; rfl
theorem tq_40 {G : GX} (hG : gt G = tbl) : (gt G)[40]? = some (.inl (0, 40)) := by rw [hG]; rfl
theorem tq_41 {G : GX} (hG : gt G = tbl) : (gt G)[41]? = some (.inl (0, 160)) := by rw [hG]; rfl
theorem tq_42 {G : GX} (hG : gt G = tbl) : (gt G)[42]? = some (.inl (0, 160)) := by rw [hG]; rfl
theorem tq_43 {G : GX} (hG : gt G = tbl) : (gt G)[43]? = some (.inl (1, 160)) := by rw [hG]; rfl
theorem tq_44 {G : GX} (hG : gt G = tbl) : (gt G)[44]? = some (.inl (0, 72)) := by rw [hG]; rfl
theorem tq_45 {G : GX} (hG : gt G = tbl) : (gt G)[45]? = some (.inl (0, 12)) := by rw [hG]; rfl
theorem tq_46 {G : GX} (hG : gt G = tbl) : (gt G)[46]? = some (.inr (1, [some (some 47), some (some 48), some (some 49), some (some 50), some (some 51), some (some 52), some (some 53), some (some 54), some (some 55), some (some 56), some (some 57), some (some 58), none])) := by rw [hG]; rfl
theorem tq_47 {G : GX} (hG : gt G = tbl) : (gt G)[47]? = some (.inl (2, 24)) := by rw [hG]; rfl
theorem tq_48 {G : GX} (hG : gt G = tbl) : (gt G)[48]? = some (.inl (0, 24)) := by rw [hG]; rfl
theorem tq_49 {G : GX} (hG : gt G = tbl) : (gt G)[49]? = some (.inl (0, 24)) := by rw [hG]; rfl
theorem tq_50 {G : GX} (hG : gt G = tbl) : (gt G)[50]? = some (.inl (0, 24)) := by rw [hG]; rfl
theorem tq_51 {G : GX} (hG : gt G = tbl) : (gt G)[51]? = some (.inl (1, 24)) := by rw [hG]; rfl
theorem tq_52 {G : GX} (hG : gt G = tbl) : (gt G)[52]? = some (.inl (0, 24)) := by rw [hG]; rfl
theorem tq_53 {G : GX} (hG : gt G = tbl) : (gt G)[53]? = some (.inl (1, 1000)) := by rw [hG]; rfl
theorem tq_54 {G : GX} (hG : gt G = tbl) : (gt G)[54]? = some (.inl (1, 1000)) := by rw [hG]; rfl
theorem tq_55 {G : GX} (hG : gt G = tbl) : (gt G)[55]? = some (.inl (1, 960)) := by rw [hG]; rfl
theorem tq_56 {G : GX} (hG : gt G = tbl) : (gt G)[56]? = some (.inl (1, 3840)) := by rw [hG]; rfl
theorem tq_57 {G : GX} (hG : gt G = tbl) : (gt G)[57]? = some (.inl (1, 240)) := by rw [hG]; rfl
theorem tq_58 {G : GX} (hG : gt G = tbl) : (gt G)[58]? = some (.inl (1, 168)) := by rw [hG]; rfl
theorem tq_59 {G : GX} (hG : gt G = tbl) : (gt G)[59]? = some (.inl (0, 10)) := by rw [hG]; rfl
theorem tq_60 {G : GX} (hG : gt G = tbl) : (gt G)[60]? = some (.inl (0, 10)) := by rw [hG]; rfl
theorem tq_61 {G : GX} (hG : gt G = tbl) : (gt G)[61]? = some (.inr (4, [some (some 62), some (some 69), some (some 76), some (some 77), some (some 78), some (some 79), some (some 80), none, some (some 81), some (some 82), some (some 83)])) := by rw [hG]; rfl
theorem tq_62 {G : GX} (hG : gt G = tbl) : (gt G)[62]? = some (.inr (3, [some (some 63), some (some 64), some (some 65), some (some 66), some (some 67), some (some 68)])) := by rw [hG]; rfl
theorem tq_63 {G : GX} (hG : gt G = tbl) : (gt G)[63]? = some (.inl (1, 40)) := by rw [hG]; rfl
theorem tq_64 {G : GX} (hG : gt G = tbl) : (gt G)[64]? = some (.inl (1, 40)) := by rw [hG]; rfl
theorem tq_65 {G : GX} (hG : gt G = tbl) : (gt G)[65]? = some (.inl (1, 40)) := by rw [hG]; rfl
theorem tq_66 {G : GX} (hG : gt G = tbl) : (gt G)[66]? = some (.inl (1, 160)) := by rw [hG]; rfl
theorem tq_67 {G : GX} (hG : gt G = tbl) : (gt G)[67]? = some (.inl (1, 10)) := by rw [hG]; rfl
theorem tq_68 {G : GX} (hG : gt G = tbl) : (gt G)[68]? = some (.inl (1, 7)) := by rw [hG]; rfl
theorem tq_69 {G : GX} (hG : gt G = tbl) : (gt G)[69]? = some (.inr (3, [some (some 70), some (some 71), some (some 72), some (some 73), some (some 74), some (some 75)])) := by rw [hG]; rfl
theorem tq_70 {G : GX} (hG : gt G = tbl) : (gt G)[70]? = some (.inl (1, 40)) := by rw [hG]; rfl
theorem tq_71 {G : GX} (hG : gt G = tbl) : (gt G)[71]? = some (.inl (1, 40)) := by rw [hG]; rfl
theorem tq_72 {G : GX} (hG : gt G = tbl) : (gt G)[72]? = some (.inl (1, 40)) := by rw [hG]; rfl
theorem tq_73 {G : GX} (hG : gt G = tbl) : (gt G)[73]? = some (.inl (1, 160)) := by rw [hG]; rfl
theorem tq_74 {G : GX} (hG : gt G = tbl) : (gt G)[74]? = some (.inl (1, 10)) := by rw [hG]; rfl
theorem tq_75 {G : GX} (hG : gt G = tbl) : (gt G)[75]? = some (.inl (1, 7)) := by rw [hG]; rfl
theorem tq_76 {G : GX} (hG : gt G = tbl) : (gt G)[76]? = some (.inl (1, 12)) := by rw [hG]; rfl
theorem tq_77 {G : GX} (hG : gt G = tbl) : (gt G)[77]? = some (.inl (1, 12)) := by rw [hG]; rfl
theorem tq_78 {G : GX} (hG : gt G = tbl) : (gt G)[78]? = some (.inl (1, 12)) := by rw [hG]; rfl
theorem tq_79 {G : GX} (hG : gt G = tbl) : (gt G)[79]? = some (.inl (1, 12)) := by rw [hG]; rfl
theorem tq_80 {G : GX} (hG : gt G = tbl) : (gt G)[80]? = some (.inl (0, 12)) := by rw [hG]; rfl
theorem tq_81 {G : GX} (hG : gt G = tbl) : (gt G)[81]? = some (.inl (1, 40)) := by rw [hG]; rfl
theorem tq_82 {G : GX} (hG : gt G = tbl) : (gt G)[82]? = some (.inl (1, 40)) := by rw [hG]; rfl
theorem tq_83 {G : GX} (hG : gt G = tbl) : (gt G)[83]? = some (.inl (1, 40)) := by rw [hG]; rfl
theorem tq_84 {G : GX} (hG : gt G = tbl) : (gt G)[84]? = some (.inl (0, 3)) := by rw [hG]; rfl
theorem tq_85 {G : GX} (hG : gt G = tbl) : (gt G)[85]? = some (.inr (7, [none, some (some 86), some (some 87), some (some 88), some (some 89), none, some (some 90), some (some 91), some (some 92), some (some 93), some (some 94), some (some 95), some (some 96), some (some 97), some (some 98), some (some 99), some (some 100), some (some 101), some (some 102), some (some 103), some (some 104), some (some 105), some (some 106), some (some 107), some (some 108), some (some 109), some (some 110), some (some 111), some (some 112), none, none, none, none, some (some 113), some (some 114), some (some 115), some (some 116), some (some 117), some (some 118), some (some 119), some (some 120), some (some 121), some (some 122), some (some 123), some (some 124), some (some 125), some (some 126), some (some 127), none, none])) := by rw [hG]; rfl
theorem tq_86 {G : GX} (hG : gt G = tbl) : (gt G)[86]? = some (.inl (0, 3)) := by rw [hG]; rfl
theorem tq_87 {G : GX} (hG : gt G = tbl) : (gt G)[87]? = some (.inl (0, 160)) := by rw [hG]; rfl
theorem tq_88 {G : GX} (hG : gt G = tbl) : (gt G)[88]? = some (.inl (0, 160)) := by rw [hG]; rfl
theorem tq_89 {G : GX} (hG : gt G = tbl) : (gt G)[89]? = some (.inl (0, 640)) := by rw [hG]; rfl
theorem tq_90 {G : GX} (hG : gt G = tbl) : (gt G)[90]? = some (.inl (2, 40)) := by rw [hG]; rfl
theorem tq_91 {G : GX} (hG : gt G = tbl) : (gt G)[91]? = some (.inl (2, 25)) := by rw [hG]; rfl
theorem tq_92 {G : GX} (hG : gt G = tbl) : (gt G)[92]? = some (.inl (0, 40)) := by rw [hG]; rfl
theorem tq_93 {G : GX} (hG : gt G = tbl) : (gt G)[93]? = some (.inl (0, 40)) := by rw [hG]; rfl
theorem tq_94 {G : GX} (hG : gt G = tbl) : (gt G)[94]? = some (.inl (0, 40)) := by rw [hG]; rfl
theorem tq_95 {G : GX} (hG : gt G = tbl) : (gt G)[95]? = some (.inl (0, 40)) := by rw [hG]; rfl
theorem tq_96 {G : GX} (hG : gt G = tbl) : (gt G)[96]? = some (.inl (0, 40)) := by rw [hG]; rfl
theorem tq_97 {G : GX} (hG : gt G = tbl) : (gt G)[97]? = some (.inl (0, 160)) := by rw [hG]; rfl
theorem tq_98 {G : GX} (hG : gt G = tbl) : (gt G)[98]? = some (.inl (0, 160)) := by rw [hG]; rfl
theorem tq_99 {G : GX} (hG : gt G = tbl) : (gt G)[99]? = some (.inl (1, 40)) := by rw [hG]; rfl
theorem tq_100 {G : GX} (hG : gt G = tbl) : (gt G)[100]? = some (.inl (0, 25)) := by rw [hG]; rfl
theorem tq_101 {G : GX} (hG : gt G = tbl) : (gt G)[101]? = some (.inl (0, 25)) := by rw [hG]; rfl
theorem tq_102 {G : GX} (hG : gt G = tbl) : (gt G)[102]? = some (.inl (0, 25)) := by rw [hG]; rfl
theorem tq_103 {G : GX} (hG : gt G = tbl) : (gt G)[103]? = some (.inl (0, 25)) := by rw [hG]; rfl
theorem tq_104 {G : GX} (hG : gt G = tbl) : (gt G)[104]? = some (.inl (1, 25)) := by rw [hG]; rfl
theorem tq_105 {G : GX} (hG : gt G = tbl) : (gt G)[105]? = some (.inl (1, 1000)) := by rw [hG]; rfl
theorem tq_106 {G : GX} (hG : gt G = tbl) : (gt G)[106]? = some (.inl (1, 1000)) := by rw [hG]; rfl
theorem tq_107 {G : GX} (hG : gt G = tbl) : (gt G)[107]? = some (.inl (1, 1000)) := by rw [hG]; rfl
theorem tq_108 {G : GX} (hG : gt G = tbl) : (gt G)[108]? = some (.inl (0, 4000)) := by rw [hG]; rfl
theorem tq_109 {G : GX} (hG : gt G = tbl) : (gt G)[109]? = some (.inl (1, 250)) := by rw [hG]; rfl
theorem tq_110 {G : GX} (hG : gt G = tbl) : (gt G)[110]? = some (.inl (1, 175)) := by rw [hG]; rfl
theorem tq_111 {G : GX} (hG : gt G = tbl) : (gt G)[111]? = some (.inl (0, 10)) := by rw [hG]; rfl
theorem tq_112 {G : GX} (hG : gt G = tbl) : (gt G)[112]? = some (.inl (0, 10)) := by rw [hG]; rfl
theorem tq_113 {G : GX} (hG : gt G = tbl) : (gt G)[113]? = some (.inl (0, 72)) := by rw [hG]; rfl
theorem tq_114 {G : GX} (hG : gt G = tbl) : (gt G)[114]? = some (.inl (0, 12)) := by rw [hG]; rfl
theorem tq_115 {G : GX} (hG : gt G = tbl) : (gt G)[115]? = some (.inl (0, 40)) := by rw [hG]; rfl
theorem tq_116 {G : GX} (hG : gt G = tbl) : (gt G)[116]? = some (.inl (1, 40)) := by rw [hG]; rfl
theorem tq_117 {G : GX} (hG : gt G = tbl) : (gt G)[117]? = some (.inl (1, 40)) := by rw [hG]; rfl
theorem tq_118 {G : GX} (hG : gt G = tbl) : (gt G)[118]? = some (.inl (1, 40)) := by rw [hG]; rfl
theorem tq_119 {G : GX} (hG : gt G = tbl) : (gt G)[119]? = some (.inl (1, 40)) := by rw [hG]; rfl
theorem tq_120 {G : GX} (hG : gt G = tbl) : (gt G)[120]? = some (.inl (1, 12)) := by rw [hG]; rfl
theorem tq_121 {G : GX} (hG : gt G = tbl) : (gt G)[121]? = some (.inl (0, 12)) := by rw [hG]; rfl
theorem tq_122 {G : GX} (hG : gt G = tbl) : (gt G)[122]? = some (.inl (1, 40)) := by rw [hG]; rfl
theorem tq_123 {G : GX} (hG : gt G = tbl) : (gt G)[123]? = some (.inl (1, 40)) := by rw [hG]; rfl
theorem tq_124 {G : GX} (hG : gt G = tbl) : (gt G)[124]? = some (.inl (1, 40)) := by rw [hG]; rfl
theorem tq_125 {G : GX} (hG : gt G = tbl) : (gt G)[125]? = some (.inl (1, 7)) := by rw [hG]; rfl
theorem tq_126 {G : GX} (hG : gt G = tbl) : (gt G)[126]? = some (.inl (1, 40)) := by rw [hG]; rfl
theorem tq_127 {G : GX} (hG : gt G = tbl) : (gt G)[127]? = some (.inl (1, 12)) := by rw [hG]; rfl
theorem tq_128 {G : GX} (hG : gt G = tbl) : (gt G)[128]? = some (.inl (1, 1)) := by rw [hG]; rfl
theorem tq_X0_0 {G : GX} {t : Nat} (hG : gt G = tbl) (h : IsX0 t) : (gt G)[t]? = some (.inr (0, [some (some (t + 1)), some (some (t + 14)), some (some (t + 27)), some (some (t + 28)), none, none, none])) := by rw [hG]; rcases h with rfl | rfl <;> rfl
theorem tq_X0_1 {G : GX} {t : Nat} (hG : gt G = tbl) (h : IsX0 t) : (gt G)[t + 1]? = some (.inr (5, [some (some (t + 2)), some (some (t + 3)), some (some (t + 4)), some (some (t + 5)), some (some (t + 6)), some (some (t + 7)), some (some (t + 8)), some (some (t + 9)), some (some (t + 10)), some (some (t + 11)), some (some (t + 12)), some (some (t + 13)), none, none])) := by rw [hG]; rcases h with rfl | rfl <;> rfl
theorem is_X0_1 {t : Nat} (h : IsX0 t) : IsX5 (t + 1) := by rcases h with rfl | rfl <;> first | exact Or.inl rfl | exact Or.inr rfl
theorem tq_X0_2 {G : GX} {t : Nat} (hG : gt G = tbl) (h : IsX0 t) : (gt G)[t + 2]? = some (.inl (0, 40)) := by rw [hG]; rcases h with rfl | rfl <;> rfl
theorem tq_X0_3 {G : GX} {t : Nat} (hG : gt G = tbl) (h : IsX0 t) : (gt G)[t + 3]? = some (.inl (0, 40)) := by rw [hG]; rcases h with rfl | rfl <;> rfl
theorem tq_X0_4 {G : GX} {t : Nat} (hG : gt G = tbl) (h : IsX0 t) : (gt G)[t + 4]? = some (.inl (0, 40)) := by rw [hG]; rcases h with rfl | rfl <;> rfl
theorem tq_X0_5 {G : GX} {t : Nat} (hG : gt G = tbl) (h : IsX0 t) : (gt G)[t + 5]? = some (.inl (0, 40)) := by rw [hG]; rcases h with rfl | rfl <;> rfl
theorem tq_X0_6 {G : GX} {t : Nat} (hG : gt G = tbl) (h : IsX0 t) : (gt G)[t + 6]? = some (.inl (1, 40)) := by rw [hG]; rcases h with rfl | rfl <;> rfl
theorem tq_X0_7 {G : GX} {t : Nat} (hG : gt G = tbl) (h : IsX0 t) : (gt G)[t + 7]? = some (.inl (0, 40)) := by rw [hG]; rcases h with rfl | rfl <;> rfl
theorem tq_X0_8 {G : GX} {t : Nat} (hG : gt G = tbl) (h : IsX0 t) : (gt G)[t + 8]? = some (.inl (0, 40)) := by rw [hG]; rcases h with rfl | rfl <;> rfl
theorem tq_X0_9 {G : GX} {t : Nat} (hG : gt G = tbl) (h : IsX0 t) : (gt G)[t + 9]? = some (.inl (0, 160)) := by rw [hG]; rcases h with rfl | rfl <;> rfl
theorem tq_X0_10 {G : GX} {t : Nat} (hG : gt G = tbl) (h : IsX0 t) : (gt G)[t + 10]? = some (.inl (0, 160)) := by rw [hG]; rcases h with rfl | rfl <;> rfl
theorem tq_X0_11 {G : GX} {t : Nat} (hG : gt G = tbl) (h : IsX0 t) : (gt G)[t + 11]? = some (.inl (1, 160)) := by rw [hG]; rcases h with rfl | rfl <;> rfl
theorem tq_X0_12 {G : GX} {t : Nat} (hG : gt G = tbl) (h : IsX0 t) : (gt G)[t + 12]? = some (.inl (0, 72)) := by rw [hG]; rcases h with rfl | rfl <;> rfl
theorem tq_X0_13 {G : GX} {t : Nat} (hG : gt G = tbl) (h : IsX0 t) : (gt G)[t + 13]? = some (.inl (0, 12)) := by rw [hG]; rcases h with rfl | rfl <;> rfl
theorem tq_X0_14 {G : GX} {t : Nat} (hG : gt G = tbl) (h : IsX0 t) : (gt G)[t + 14]? = some (.inr (1, [some (some (t + 15)), some (some (t + 16)), some (some (t + 17)), some (some (t + 18)), some (some (t + 19)), some (some (t + 20)), some (some (t + 21)), some (some (t + 22)), some (some (t + 23)), some (some (t + 24)), some (some (t + 25)), some (some (t + 26)), none])) := by rw [hG]; rcases h with rfl | rfl <;> rfl
theorem is_X0_14 {t : Nat} (h : IsX0 t) : IsX1 (t + 14) := by rcases h with rfl | rfl <;> first | exact Or.inl rfl | exact Or.inr rfl
theorem tq_X0_15 {G : GX} {t : Nat} (hG : gt G = tbl) (h : IsX0 t) : (gt G)[t + 15]? = some (.inl (2, 24)) := by rw [hG]; rcases h with rfl | rfl <;> rfl
theorem tq_X0_16 {G : GX} {t : Nat} (hG : gt G = tbl) (h : IsX0 t) : (gt G)[t + 16]? = some (.inl (0, 24)) := by rw [hG]; rcases h with rfl | rfl <;> rfl
theorem tq_X0_17 {G : GX} {t : Nat} (hG : gt G = tbl) (h : IsX0 t) : (gt G)[t + 17]? = some (.inl (0, 24)) := by rw [hG]; rcases h with rfl | rfl <;> rfl
theorem tq_X0_18 {G : GX} {t : Nat} (hG : gt G = tbl) (h : IsX0 t) : (gt G)[t + 18]? = some (.inl (0, 24)) := by rw [hG]; rcases h with rfl | rfl <;> rfl
theorem tq_X0_19 {G : GX} {t : Nat} (hG : gt G = tbl) (h : IsX0 t) : (gt G)[t + 19]? = some (.inl (1, 24)) := by rw [hG]; rcases h with rfl | rfl <;> rfl
theorem tq_X0_20 {G : GX} {t : Nat} (hG : gt G = tbl) (h : IsX0 t) : (gt G)[t + 20]? = some (.inl (0, 24)) := by rw [hG]; rcases h with rfl | rfl <;> rfl
theorem tq_X0_21 {G : GX} {t : Nat} (hG : gt G = tbl) (h : IsX0 t) : (gt G)[t + 21]? = some (.inl (1, 1000)) := by rw [hG]; rcases h with rfl | rfl <;> rfl
theorem tq_X0_22 {G : GX} {t : Nat} (hG : gt G = tbl) (h : IsX0 t) : (gt G)[t + 22]? = some (.inl (1, 1000)) := by rw [hG]; rcases h with rfl | rfl <;> rfl
theorem tq_X0_23 {G : GX} {t : Nat} (hG : gt G = tbl) (h : IsX0 t) : (gt G)[t + 23]? = some (.inl (1, 960)) := by rw [hG]; rcases h with rfl | rfl <;> rfl
theorem tq_X0_24 {G : GX} {t : Nat} (hG : gt G = tbl) (h : IsX0 t) : (gt G)[t + 24]? = some (.inl (1, 3840)) := by rw [hG]; rcases h with rfl | rfl <;> rfl
theorem tq_X0_25 {G : GX} {t : Nat} (hG : gt G = tbl) (h : IsX0 t) : (gt G)[t + 25]? = some (.inl (1, 240)) := by rw [hG]; rcases h with rfl | rfl <;> rfl
theorem tq_X0_26 {G : GX} {t : Nat} (hG : gt G = tbl) (h : IsX0 t) : (gt G)[t + 26]? = some (.inl (1, 168)) := by rw [hG]; rcases h with rfl | rfl <;> rfl
theorem tq_X0_27 {G : GX} {t : Nat} (hG : gt G = tbl) (h : IsX0 t) : (gt G)[t + 27]? = some (.inl (0, 10)) := by rw [hG]; rcases h with rfl | rfl <;> rfl
theorem tq_X0_28 {G : GX} {t : Nat} (hG : gt G = tbl) (h : IsX0 t) : (gt G)[t + 28]? = some (.inl (0, 10)) := by rw [hG]; rcases h with rfl | rfl <;> rfl
theorem tq_X1_0 {G : GX} {t : Nat} (hG : gt G = tbl) (h : IsX1 t) : (gt G)[t]? = some (.inr (1, [some (some (t + 1)), some (some (t + 2)), some (some (t + 3)), some (some (t + 4)), some (some (t + 5)), some (some (t + 6)), some (some (t + 7)), some (some (t + 8)), some (some (t + 9)), some (some (t + 10)), some (some (t + 11)), some (some (t + 12)), none])) := by rw [hG]; rcases h with rfl | rfl <;> rfl
theorem tq_X1_1 {G : GX} {t : Nat} (hG : gt G = tbl) (h : IsX1 t) : (gt G)[t + 1]? = some (.inl (2, 24)) := by rw [hG]; rcases h with rfl | rfl <;> rfl
theorem tq_X1_2 {G : GX} {t : Nat} (hG : gt G = tbl) (h : IsX1 t) : (gt G)[t + 2]? = some (.inl (0, 24)) := by rw [hG]; rcases h with rfl | rfl <;> rfl
theorem tq_X1_3 {G : GX} {t : Nat} (hG : gt G = tbl) (h : IsX1 t) : (gt G)[t + 3]? = some (.inl (0, 24)) := by rw [hG]; rcases h with rfl | rfl <;> rfl
theorem tq_X1_4 {G : GX} {t : Nat} (hG : gt G = tbl) (h : IsX1 t) : (gt G)[t + 4]? = some (.inl (0, 24)) := by rw [hG]; rcases h with rfl | rfl <;> rfl
theorem tq_X1_5 {G : GX} {t : Nat} (hG : gt G = tbl) (h : IsX1 t) : (gt G)[t + 5]? = some (.inl (1, 24)) := by rw [hG]; rcases h with rfl | rfl <;> rfl
theorem tq_X1_6 {G : GX} {t : Nat} (hG : gt G = tbl) (h : IsX1 t) : (gt G)[t + 6]? = some (.inl (0, 24)) := by rw [hG]; rcases h with rfl | rfl <;> rfl
theorem tq_X1_7 {G : GX} {t : Nat} (hG : gt G = tbl) (h : IsX1 t) : (gt G)[t + 7]? = some (.inl (1, 1000)) := by rw [hG]; rcases h with rfl | rfl <;> rfl
theorem tq_X1_8 {G : GX} {t : Nat} (hG : gt G = tbl) (h : IsX1 t) : (gt G)[t + 8]? = some (.inl (1, 1000)) := by rw [hG]; rcases h with rfl | rfl <;> rfl
theorem tq_X1_9 {G : GX} {t : Nat} (hG : gt G = tbl) (h : IsX1 t) : (gt G)[t + 9]? = some (.inl (1, 960)) := by rw [hG]; rcases h with rfl | rfl <;> rfl
theorem tq_X1_10 {G : GX} {t : Nat} (hG : gt G = tbl) (h : IsX1 t) : (gt G)[t + 10]? = some (.inl (1, 3840)) := by rw [hG]; rcases h with rfl | rfl <;> rfl
theorem tq_X1_11 {G : GX} {t : Nat} (hG : gt G = tbl) (h : IsX1 t) : (gt G)[t + 11]? = some (.inl (1, 240)) := by rw [hG]; rcases h with rfl | rfl <;> rfl
theorem tq_X1_12 {G : GX} {t : Nat} (hG : gt G = tbl) (h : IsX1 t) : (gt G)[t + 12]? = some (.inl (1, 168)) := by rw [hG]; rcases h with rfl | rfl <;> rfl
theorem tq_X3_0 {G : GX} {t : Nat} (hG : gt G = tbl) (h : IsX3 t) : (gt G)[t]? = some (.inr (3, [some (some (t + 1)), some (some (t + 2)), some (some (t + 3)), some (some (t + 4)), some (some (t + 5)), some (some (t + 6))])) := by rw [hG]; rcases h with rfl | rfl <;> rfl
theorem tq_X3_1 {G : GX} {t : Nat} (hG : gt G = tbl) (h : IsX3 t) : (gt G)[t + 1]? = some (.inl (1, 40)) := by rw [hG]; rcases h with rfl | rfl <;> rfl
theorem tq_X3_2 {G : GX} {t : Nat} (hG : gt G = tbl) (h : IsX3 t) : (gt G)[t + 2]? = some (.inl (1, 40)) := by rw [hG]; rcases h with rfl | rfl <;> rfl
theorem tq_X3_3 {G : GX} {t : Nat} (hG : gt G = tbl) (h : IsX3 t) : (gt G)[t + 3]? = some (.inl (1, 40)) := by rw [hG]; rcases h with rfl | rfl <;> rfl
theorem tq_X3_4 {G : GX} {t : Nat} (hG : gt G = tbl) (h : IsX3 t) : (gt G)[t + 4]? = some (.inl (1, 160)) := by rw [hG]; rcases h with rfl | rfl <;> rfl
theorem tq_X3_5 {G : GX} {t : Nat} (hG : gt G = tbl) (h : IsX3 t) : (gt G)[t + 5]? = some (.inl (1, 10)) := by rw [hG]; rcases h with rfl | rfl <;> rfl
theorem tq_X3_6 {G : GX} {t : Nat} (hG : gt G = tbl) (h : IsX3 t) : (gt G)[t + 6]? = some (.inl (1, 7)) := by rw [hG]; rcases h with rfl | rfl <;> rfl
theorem tq_X5_0 {G : GX} {t : Nat} (hG : gt G = tbl) (h : IsX5 t) : (gt G)[t]? = some (.inr (5, [some (some (t + 1)), some (some (t + 2)), some (some (t + 3)), some (some (t + 4)), some (some (t + 5)), some (some (t + 6)), some (some (t + 7)), some (some (t + 8)), some (some (t + 9)), some (some (t + 10)), some (some (t + 11)), some (some (t + 12)), none, none])) := by rw [hG]; rcases h with rfl | rfl <;> rfl
theorem tq_X5_1 {G : GX} {t : Nat} (hG : gt G = tbl) (h : IsX5 t) : (gt G)[t + 1]? = some (.inl (0, 40)) := by rw [hG]; rcases h with rfl | rfl <;> rfl
theorem tq_X5_2 {G : GX} {t : Nat} (hG : gt G = tbl) (h : IsX5 t) : (gt G)[t + 2]? = some (.inl (0, 40)) := by rw [hG]; rcases h with rfl | rfl <;> rfl
theorem tq_X5_3 {G : GX} {t : Nat} (hG : gt G = tbl) (h : IsX5 t) : (gt G)[t + 3]? = some (.inl (0, 40)) := by rw [hG]; rcases h with rfl | rfl <;> rfl
theorem tq_X5_4 {G : GX} {t : Nat} (hG : gt G = tbl) (h : IsX5 t) : (gt G)[t + 4]? = some (.inl (0, 40)) := by rw [hG]; rcases h with rfl | rfl <;> rfl
theorem tq_X5_5 {G : GX} {t : Nat} (hG : gt G = tbl) (h : IsX5 t) : (gt G)[t + 5]? = some (.inl (1, 40)) := by rw [hG]; rcases h with rfl | rfl <;> rfl
theorem tq_X5_6 {G : GX} {t : Nat} (hG : gt G = tbl) (h : IsX5 t) : (gt G)[t + 6]? = some (.inl (0, 40)) := by rw [hG]; rcases h with rfl | rfl <;> rfl
theorem tq_X5_7 {G : GX} {t : Nat} (hG : gt G = tbl) (h : IsX5 t) : (gt G)[t + 7]? = some (.inl (0, 40)) := by rw [hG]; rcases h with rfl | rfl <;> rfl
theorem tq_X5_8 {G : GX} {t : Nat} (hG : gt G = tbl) (h : IsX5 t) : (gt G)[t + 8]? = some (.inl (0, 160)) := by rw [hG]; rcases h with rfl | rfl <;> rfl
theorem tq_X5_9 {G : GX} {t : Nat} (hG : gt G = tbl) (h : IsX5 t) : (gt G)[t + 9]? = some (.inl (0, 160)) := by rw [hG]; rcases h with rfl | rfl <;> rfl
theorem tq_X5_10 {G : GX} {t : Nat} (hG : gt G = tbl) (h : IsX5 t) : (gt G)[t + 10]? = some (.inl (1, 160)) := by rw [hG]; rcases h with rfl | rfl <;> rfl
theorem tq_X5_11 {G : GX} {t : Nat} (hG : gt G = tbl) (h : IsX5 t) : (gt G)[t + 11]? = some (.inl (0, 72)) := by rw [hG]; rcases h with rfl | rfl <;> rfl
theorem tq_X5_12 {G : GX} {t : Nat} (hG : gt G = tbl) (h : IsX5 t) : (gt G)[t + 12]? = some (.inl (0, 12)) := by rw [hG]; rcases h with rfl | rfl <;> rfl
theorem xg_IllegalArgumentException : ∀ w ∈ (vx_atS "TallTowers" 371 "java/lang/IllegalArgumentException" ["java/lang/RuntimeException", "java/lang/Exception"]).filter goodWord, w ∈ lw_tbl := by decide +kernel
theorem xn_IllegalArgumentException : ∀ w ∈ (vx_atS "TallTowers" 371 "java/lang/IllegalArgumentException" ["java/lang/RuntimeException", "java/lang/Exception"]).filter (fun w => !goodWord w), w ∈ xw := by decide +kernel
theorem xo_IllegalArgumentException : ∀ w ∈ Cond.classLink "TallTowers" 367 "java/lang/IllegalArgumentException" :: Cond.initialized "java/lang/IllegalArgumentException" :: vx_atS "TallTowers" 371 "java/lang/IllegalArgumentException" ["java/lang/RuntimeException", "java/lang/Exception"], vx_ot w = true := by decide +kernel
theorem thr_IllegalArgumentException {G : GX} {M : MT} {pc : Nat} {lv : List (Option Value)} {μ : Mem} (hM : mH M = none) (hO : mO M = "TallTowers") (hf : 5 < mF M) (hw : 82 ≤ mW M) (d0 : decode (mC M) pc = .ok (.new 367, 3)) (d3 : decode (mC M) (pc + 3) = .ok (.dup, 1)) (d4 : decode (mC M) (pc + 4) = .ok (.ldc_w 369, 3)) (d7 : decode (mC M) (pc + 7) = .ok (.invokespecial 371, 3)) (d10 : decode (mC M) (pc + 10) = .ok (.athrow, 1)) : V G M pc lv [] μ (.inr "java/lang/IllegalArgumentException") (μ.1, μ.2.1, μ.2.2.1 + 1, μ.2.2.2 + 6) := V_throw hM hO (by decide +kernel) (by rw [hO]; exact cl_RX6_367) in_IllegalArgumentException (fun U h => h.2.2.2.1) (fun w hw => List.mem_filter.mpr ⟨xg_IllegalArgumentException w hw, (List.mem_filter.mp hw).2⟩) xn_IllegalArgumentException xo_IllegalArgumentException hf hw d0 d3 d4 d7 d10
theorem xg_IllegalStateException : ∀ w ∈ (vx_atS "TallTowers" 376 "java/lang/IllegalStateException" ["java/lang/RuntimeException", "java/lang/Exception"]).filter goodWord, w ∈ lw_tbl := by decide +kernel
theorem xn_IllegalStateException : ∀ w ∈ (vx_atS "TallTowers" 376 "java/lang/IllegalStateException" ["java/lang/RuntimeException", "java/lang/Exception"]).filter (fun w => !goodWord w), w ∈ xw := by decide +kernel
theorem xo_IllegalStateException : ∀ w ∈ Cond.classLink "TallTowers" 372 "java/lang/IllegalStateException" :: Cond.initialized "java/lang/IllegalStateException" :: vx_atS "TallTowers" 376 "java/lang/IllegalStateException" ["java/lang/RuntimeException", "java/lang/Exception"], vx_ot w = true := by decide +kernel
theorem thr_IllegalStateException {G : GX} {M : MT} {pc : Nat} {lv : List (Option Value)} {μ : Mem} (hM : mH M = none) (hO : mO M = "TallTowers") (hf : 5 < mF M) (hw : 82 ≤ mW M) (d0 : decode (mC M) pc = .ok (.new 372, 3)) (d3 : decode (mC M) (pc + 3) = .ok (.dup, 1)) (d4 : decode (mC M) (pc + 4) = .ok (.ldc_w 374, 3)) (d7 : decode (mC M) (pc + 7) = .ok (.invokespecial 376, 3)) (d10 : decode (mC M) (pc + 10) = .ok (.athrow, 1)) : V G M pc lv [] μ (.inr "java/lang/IllegalStateException") (μ.1, μ.2.1, μ.2.2.1 + 1, μ.2.2.2 + 6) := V_throw hM hO (by decide +kernel) (by rw [hO]; exact cl_RX6_372) in_IllegalStateException (fun U h => h.2.2.2.2) (fun w hw => List.mem_filter.mpr ⟨xg_IllegalStateException w hw, (List.mem_filter.mp hw).2⟩) xn_IllegalStateException xo_IllegalStateException hf hw d0 d3 d4 d7 d10
