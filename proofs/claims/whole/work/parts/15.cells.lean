def gu {β : Type} (b : Bool) (k : Option β) : Option β := if b then k else none
theorem gu_o {β : Type} {b : Bool} {k : Option β} {r : β} (h : gu b k = some r) : b = true ∧ k = some r := if_o h
def tx {α β : Type} (r : (α ⊕ String) × Mem) (k : α → Mem → Option ((β ⊕ String) × Mem)) : Option ((β ⊕ String) × Mem) := match r.1 with
  | .inl v => k v r.2
  | .inr E => some (.inr E, r.2)
theorem tx_o {α β : Type} {r : (α ⊕ String) × Mem} {k : α → Mem → Option ((β ⊕ String) × Mem)} {z : (β ⊕ String) × Mem} (h : tx r k = some z) : (∃ v, r.1 = .inl v ∧ k v r.2 = some z) ∨ ∃ E, r.1 = .inr E ∧ ((.inr E, r.2) : (β ⊕ String) × Mem) = z := by
  obtain ⟨u, m⟩ := r
  cases u with
  | inl v => exact Or.inl ⟨v, rfl, h⟩
  | inr E => exact Or.inr ⟨E, rfl, Option.some.inj h⟩
def b01 (x : Int32) : Bool := decide (x = 0 ∨ x = 1)
def i2b (x : Int32) : Bool := decide (x = 1)
theorem b2i_i2b {x : Int32} (h : b01 x = true) : b2i (i2b x) = x := by
  rcases (of_decide_eq_true h : x = 0 ∨ x = 1) with rfl | rfl <;> decide
theorem V_alen {G : GX} {M : MT} {pc : Nat} {lv : List (Option Value)} {st : List Value} {μ μ1 : Mem} {o : Ou} {q n kd : Nat} (d : decode (mC M) pc = .ok (.arraylength, 1)) (hq : tbl[q]? = some (.inl (kd, n))) (hkd : kd < 3) (k : V G M (pc + 1) lv (.int (Int32.ofNat n) :: st) μ o μ1) : V G M pc lv (.ref q :: st) μ o μ1 := ⟨k.1, fun p e R s m args below meth c H locs cells slots ls F hl hP hS h1 h2 => by
  have hw : (wd G μ)[q]? = some (gb G + q, .inl (gc G kd, n, if kd = 1 then .inr (.inl (μ.2.1 q)) else .inl (μ.1 q))) := wd_at hq
  match kd, hkd, hw with
  | 0, _, hw => exact va_alen F.1 F.2.1 F.2.2.2.2.2.2.2.2.2.2.1.1 hP q 0 hw (ty := .int) rfl rfl d (k.2 p e R s m args below meth c H locs cells slots ls F hl hP hS h1 h2)
  | 1, _, hw => exact va_alen F.1 F.2.1 F.2.2.2.2.2.2.2.2.2.2.1.1 hP q 1 hw (ty := .long) rfl rfl d (k.2 p e R s m args below meth c H locs cells slots ls F hl hP hS h1 h2)
  | 2, _, hw => exact va_alen F.1 F.2.1 F.2.2.2.2.2.2.2.2.2.2.1.1 hP q 2 hw (ty := .boolean) rfl rfl d (k.2 p e R s m args below meth c H locs cells slots ls F hl hP hS h1 h2)⟩
def IsX0 (t : Nat) : Prop := t = 3 ∨ t = 32
def IsX1 (t : Nat) : Prop := t = 17 ∨ t = 46
def IsX3 (t : Nat) : Prop := t = 62 ∨ t = 69
def IsX5 (t : Nat) : Prop := t = 4 ∨ t = 33
theorem tq_0 : tbl[0]? = some (.inr (6, [some 1, some 3, some 32, some 61, some 84])) := rfl
theorem tq_1 : tbl[1]? = some (.inr (2, [some 2, none])) := rfl
theorem tq_2 : tbl[2]? = some (.inl (0, 960)) := rfl
theorem tq_3 : tbl[3]? = some (.inr (0, [some 4, some 17, some 30, some 31, none, none, none])) := rfl
theorem tq_4 : tbl[4]? = some (.inr (5, [some 5, some 6, some 7, some 8, some 9, some 10, some 11, some 12, some 13, some 14, some 15, some 16, none, none])) := rfl
theorem tq_5 : tbl[5]? = some (.inl (0, 40)) := rfl
theorem tq_6 : tbl[6]? = some (.inl (0, 40)) := rfl
theorem tq_7 : tbl[7]? = some (.inl (0, 40)) := rfl
theorem tq_8 : tbl[8]? = some (.inl (0, 40)) := rfl
theorem tq_9 : tbl[9]? = some (.inl (1, 40)) := rfl
theorem tq_10 : tbl[10]? = some (.inl (0, 40)) := rfl
theorem tq_11 : tbl[11]? = some (.inl (0, 40)) := rfl
theorem tq_12 : tbl[12]? = some (.inl (0, 160)) := rfl
theorem tq_13 : tbl[13]? = some (.inl (0, 160)) := rfl
theorem tq_14 : tbl[14]? = some (.inl (1, 160)) := rfl
theorem tq_15 : tbl[15]? = some (.inl (0, 72)) := rfl
theorem tq_16 : tbl[16]? = some (.inl (0, 12)) := rfl
theorem tq_17 : tbl[17]? = some (.inr (1, [some 18, some 19, some 20, some 21, some 22, some 23, some 24, some 25, some 26, some 27, some 28, some 29, none])) := rfl
theorem tq_18 : tbl[18]? = some (.inl (2, 24)) := rfl
theorem tq_19 : tbl[19]? = some (.inl (0, 24)) := rfl
theorem tq_20 : tbl[20]? = some (.inl (0, 24)) := rfl
theorem tq_21 : tbl[21]? = some (.inl (0, 24)) := rfl
theorem tq_22 : tbl[22]? = some (.inl (1, 24)) := rfl
theorem tq_23 : tbl[23]? = some (.inl (0, 24)) := rfl
theorem tq_24 : tbl[24]? = some (.inl (1, 1000)) := rfl
theorem tq_25 : tbl[25]? = some (.inl (1, 1000)) := rfl
theorem tq_26 : tbl[26]? = some (.inl (1, 960)) := rfl
theorem tq_27 : tbl[27]? = some (.inl (1, 3840)) := rfl
theorem tq_28 : tbl[28]? = some (.inl (1, 240)) := rfl
theorem tq_29 : tbl[29]? = some (.inl (1, 168)) := rfl
theorem tq_30 : tbl[30]? = some (.inl (0, 10)) := rfl
theorem tq_31 : tbl[31]? = some (.inl (0, 10)) := rfl
theorem tq_32 : tbl[32]? = some (.inr (0, [some 33, some 46, some 59, some 60, none, none, none])) := rfl
theorem tq_33 : tbl[33]? = some (.inr (5, [some 34, some 35, some 36, some 37, some 38, some 39, some 40, some 41, some 42, some 43, some 44, some 45, none, none])) := rfl
theorem tq_34 : tbl[34]? = some (.inl (0, 40)) := rfl
theorem tq_35 : tbl[35]? = some (.inl (0, 40)) := rfl
theorem tq_36 : tbl[36]? = some (.inl (0, 40)) := rfl
theorem tq_37 : tbl[37]? = some (.inl (0, 40)) := rfl
theorem tq_38 : tbl[38]? = some (.inl (1, 40)) := rfl
theorem tq_39 : tbl[39]? = some (.inl (0, 40)) := rfl
theorem tq_40 : tbl[40]? = some (.inl (0, 40)) := rfl
theorem tq_41 : tbl[41]? = some (.inl (0, 160)) := rfl
theorem tq_42 : tbl[42]? = some (.inl (0, 160)) := rfl
theorem tq_43 : tbl[43]? = some (.inl (1, 160)) := rfl
theorem tq_44 : tbl[44]? = some (.inl (0, 72)) := rfl
theorem tq_45 : tbl[45]? = some (.inl (0, 12)) := rfl
theorem tq_46 : tbl[46]? = some (.inr (1, [some 47, some 48, some 49, some 50, some 51, some 52, some 53, some 54, some 55, some 56, some 57, some 58, none])) := rfl
theorem tq_47 : tbl[47]? = some (.inl (2, 24)) := rfl
theorem tq_48 : tbl[48]? = some (.inl (0, 24)) := rfl
theorem tq_49 : tbl[49]? = some (.inl (0, 24)) := rfl
theorem tq_50 : tbl[50]? = some (.inl (0, 24)) := rfl
theorem tq_51 : tbl[51]? = some (.inl (1, 24)) := rfl
theorem tq_52 : tbl[52]? = some (.inl (0, 24)) := rfl
theorem tq_53 : tbl[53]? = some (.inl (1, 1000)) := rfl
theorem tq_54 : tbl[54]? = some (.inl (1, 1000)) := rfl
theorem tq_55 : tbl[55]? = some (.inl (1, 960)) := rfl
theorem tq_56 : tbl[56]? = some (.inl (1, 3840)) := rfl
theorem tq_57 : tbl[57]? = some (.inl (1, 240)) := rfl
theorem tq_58 : tbl[58]? = some (.inl (1, 168)) := rfl
theorem tq_59 : tbl[59]? = some (.inl (0, 10)) := rfl
theorem tq_60 : tbl[60]? = some (.inl (0, 10)) := rfl
theorem tq_61 : tbl[61]? = some (.inr (4, [some 62, some 69, some 76, some 77, some 78, some 79, some 80, none, some 81, some 82, some 83])) := rfl
theorem tq_62 : tbl[62]? = some (.inr (3, [some 63, some 64, some 65, some 66, some 67, some 68])) := rfl
theorem tq_63 : tbl[63]? = some (.inl (1, 40)) := rfl
theorem tq_64 : tbl[64]? = some (.inl (1, 40)) := rfl
theorem tq_65 : tbl[65]? = some (.inl (1, 40)) := rfl
theorem tq_66 : tbl[66]? = some (.inl (1, 160)) := rfl
theorem tq_67 : tbl[67]? = some (.inl (1, 10)) := rfl
theorem tq_68 : tbl[68]? = some (.inl (1, 7)) := rfl
theorem tq_69 : tbl[69]? = some (.inr (3, [some 70, some 71, some 72, some 73, some 74, some 75])) := rfl
theorem tq_70 : tbl[70]? = some (.inl (1, 40)) := rfl
theorem tq_71 : tbl[71]? = some (.inl (1, 40)) := rfl
theorem tq_72 : tbl[72]? = some (.inl (1, 40)) := rfl
theorem tq_73 : tbl[73]? = some (.inl (1, 160)) := rfl
theorem tq_74 : tbl[74]? = some (.inl (1, 10)) := rfl
theorem tq_75 : tbl[75]? = some (.inl (1, 7)) := rfl
theorem tq_76 : tbl[76]? = some (.inl (1, 12)) := rfl
theorem tq_77 : tbl[77]? = some (.inl (1, 12)) := rfl
theorem tq_78 : tbl[78]? = some (.inl (1, 12)) := rfl
theorem tq_79 : tbl[79]? = some (.inl (1, 12)) := rfl
theorem tq_80 : tbl[80]? = some (.inl (0, 12)) := rfl
theorem tq_81 : tbl[81]? = some (.inl (1, 40)) := rfl
theorem tq_82 : tbl[82]? = some (.inl (1, 40)) := rfl
theorem tq_83 : tbl[83]? = some (.inl (1, 40)) := rfl
theorem tq_84 : tbl[84]? = some (.inl (0, 3)) := rfl
theorem tq_85 : tbl[85]? = some (.inr (7, [none, some 86, some 87, some 88, some 89, none, some 90, some 91, some 92, some 93, some 94, some 95, some 96, some 97, some 98, some 99, some 100, some 101, some 102, some 103, some 104, some 105, some 106, some 107, some 108, some 109, some 110, some 111, some 112, none, none, none, none, some 113, some 114, some 115, some 116, some 117, some 118, some 119, some 120, some 121, some 122, some 123, some 124, some 125, some 126, some 127, none, none])) := rfl
theorem tq_86 : tbl[86]? = some (.inl (0, 3)) := rfl
theorem tq_87 : tbl[87]? = some (.inl (0, 160)) := rfl
theorem tq_88 : tbl[88]? = some (.inl (0, 160)) := rfl
theorem tq_89 : tbl[89]? = some (.inl (0, 640)) := rfl
theorem tq_90 : tbl[90]? = some (.inl (2, 40)) := rfl
theorem tq_91 : tbl[91]? = some (.inl (2, 25)) := rfl
theorem tq_92 : tbl[92]? = some (.inl (0, 40)) := rfl
theorem tq_93 : tbl[93]? = some (.inl (0, 40)) := rfl
theorem tq_94 : tbl[94]? = some (.inl (0, 40)) := rfl
theorem tq_95 : tbl[95]? = some (.inl (0, 40)) := rfl
theorem tq_96 : tbl[96]? = some (.inl (0, 40)) := rfl
theorem tq_97 : tbl[97]? = some (.inl (0, 160)) := rfl
theorem tq_98 : tbl[98]? = some (.inl (0, 160)) := rfl
theorem tq_99 : tbl[99]? = some (.inl (1, 40)) := rfl
theorem tq_100 : tbl[100]? = some (.inl (0, 25)) := rfl
theorem tq_101 : tbl[101]? = some (.inl (0, 25)) := rfl
theorem tq_102 : tbl[102]? = some (.inl (0, 25)) := rfl
theorem tq_103 : tbl[103]? = some (.inl (0, 25)) := rfl
theorem tq_104 : tbl[104]? = some (.inl (1, 25)) := rfl
theorem tq_105 : tbl[105]? = some (.inl (1, 1000)) := rfl
theorem tq_106 : tbl[106]? = some (.inl (1, 1000)) := rfl
theorem tq_107 : tbl[107]? = some (.inl (1, 1000)) := rfl
theorem tq_108 : tbl[108]? = some (.inl (0, 4000)) := rfl
theorem tq_109 : tbl[109]? = some (.inl (1, 250)) := rfl
theorem tq_110 : tbl[110]? = some (.inl (1, 175)) := rfl
theorem tq_111 : tbl[111]? = some (.inl (0, 10)) := rfl
theorem tq_112 : tbl[112]? = some (.inl (0, 10)) := rfl
theorem tq_113 : tbl[113]? = some (.inl (0, 72)) := rfl
theorem tq_114 : tbl[114]? = some (.inl (0, 12)) := rfl
theorem tq_115 : tbl[115]? = some (.inl (0, 40)) := rfl
theorem tq_116 : tbl[116]? = some (.inl (1, 40)) := rfl
theorem tq_117 : tbl[117]? = some (.inl (1, 40)) := rfl
theorem tq_118 : tbl[118]? = some (.inl (1, 40)) := rfl
theorem tq_119 : tbl[119]? = some (.inl (1, 40)) := rfl
theorem tq_120 : tbl[120]? = some (.inl (1, 12)) := rfl
theorem tq_121 : tbl[121]? = some (.inl (0, 12)) := rfl
theorem tq_122 : tbl[122]? = some (.inl (1, 40)) := rfl
theorem tq_123 : tbl[123]? = some (.inl (1, 40)) := rfl
theorem tq_124 : tbl[124]? = some (.inl (1, 40)) := rfl
theorem tq_125 : tbl[125]? = some (.inl (1, 7)) := rfl
theorem tq_126 : tbl[126]? = some (.inl (1, 40)) := rfl
theorem tq_127 : tbl[127]? = some (.inl (1, 12)) := rfl
theorem tq_128 : tbl[128]? = some (.inl (1, 1)) := rfl
theorem tq_X0_0 {t : Nat} (h : IsX0 t) : tbl[t]? = some (.inr (0, [some (t + 1), some (t + 14), some (t + 27), some (t + 28), none, none, none])) := by rcases h with rfl | rfl <;> rfl
theorem tq_X0_1 {t : Nat} (h : IsX0 t) : tbl[t + 1]? = some (.inr (5, [some (t + 2), some (t + 3), some (t + 4), some (t + 5), some (t + 6), some (t + 7), some (t + 8), some (t + 9), some (t + 10), some (t + 11), some (t + 12), some (t + 13), none, none])) := by rcases h with rfl | rfl <;> rfl
theorem is_X0_1 {t : Nat} (h : IsX0 t) : IsX5 (t + 1) := by rcases h with rfl | rfl <;> first | exact Or.inl rfl | exact Or.inr rfl
theorem tq_X0_2 {t : Nat} (h : IsX0 t) : tbl[t + 2]? = some (.inl (0, 40)) := by rcases h with rfl | rfl <;> rfl
theorem tq_X0_3 {t : Nat} (h : IsX0 t) : tbl[t + 3]? = some (.inl (0, 40)) := by rcases h with rfl | rfl <;> rfl
theorem tq_X0_4 {t : Nat} (h : IsX0 t) : tbl[t + 4]? = some (.inl (0, 40)) := by rcases h with rfl | rfl <;> rfl
theorem tq_X0_5 {t : Nat} (h : IsX0 t) : tbl[t + 5]? = some (.inl (0, 40)) := by rcases h with rfl | rfl <;> rfl
theorem tq_X0_6 {t : Nat} (h : IsX0 t) : tbl[t + 6]? = some (.inl (1, 40)) := by rcases h with rfl | rfl <;> rfl
theorem tq_X0_7 {t : Nat} (h : IsX0 t) : tbl[t + 7]? = some (.inl (0, 40)) := by rcases h with rfl | rfl <;> rfl
theorem tq_X0_8 {t : Nat} (h : IsX0 t) : tbl[t + 8]? = some (.inl (0, 40)) := by rcases h with rfl | rfl <;> rfl
theorem tq_X0_9 {t : Nat} (h : IsX0 t) : tbl[t + 9]? = some (.inl (0, 160)) := by rcases h with rfl | rfl <;> rfl
theorem tq_X0_10 {t : Nat} (h : IsX0 t) : tbl[t + 10]? = some (.inl (0, 160)) := by rcases h with rfl | rfl <;> rfl
theorem tq_X0_11 {t : Nat} (h : IsX0 t) : tbl[t + 11]? = some (.inl (1, 160)) := by rcases h with rfl | rfl <;> rfl
theorem tq_X0_12 {t : Nat} (h : IsX0 t) : tbl[t + 12]? = some (.inl (0, 72)) := by rcases h with rfl | rfl <;> rfl
theorem tq_X0_13 {t : Nat} (h : IsX0 t) : tbl[t + 13]? = some (.inl (0, 12)) := by rcases h with rfl | rfl <;> rfl
theorem tq_X0_14 {t : Nat} (h : IsX0 t) : tbl[t + 14]? = some (.inr (1, [some (t + 15), some (t + 16), some (t + 17), some (t + 18), some (t + 19), some (t + 20), some (t + 21), some (t + 22), some (t + 23), some (t + 24), some (t + 25), some (t + 26), none])) := by rcases h with rfl | rfl <;> rfl
theorem is_X0_14 {t : Nat} (h : IsX0 t) : IsX1 (t + 14) := by rcases h with rfl | rfl <;> first | exact Or.inl rfl | exact Or.inr rfl
theorem tq_X0_15 {t : Nat} (h : IsX0 t) : tbl[t + 15]? = some (.inl (2, 24)) := by rcases h with rfl | rfl <;> rfl
theorem tq_X0_16 {t : Nat} (h : IsX0 t) : tbl[t + 16]? = some (.inl (0, 24)) := by rcases h with rfl | rfl <;> rfl
theorem tq_X0_17 {t : Nat} (h : IsX0 t) : tbl[t + 17]? = some (.inl (0, 24)) := by rcases h with rfl | rfl <;> rfl
theorem tq_X0_18 {t : Nat} (h : IsX0 t) : tbl[t + 18]? = some (.inl (0, 24)) := by rcases h with rfl | rfl <;> rfl
theorem tq_X0_19 {t : Nat} (h : IsX0 t) : tbl[t + 19]? = some (.inl (1, 24)) := by rcases h with rfl | rfl <;> rfl
theorem tq_X0_20 {t : Nat} (h : IsX0 t) : tbl[t + 20]? = some (.inl (0, 24)) := by rcases h with rfl | rfl <;> rfl
theorem tq_X0_21 {t : Nat} (h : IsX0 t) : tbl[t + 21]? = some (.inl (1, 1000)) := by rcases h with rfl | rfl <;> rfl
theorem tq_X0_22 {t : Nat} (h : IsX0 t) : tbl[t + 22]? = some (.inl (1, 1000)) := by rcases h with rfl | rfl <;> rfl
theorem tq_X0_23 {t : Nat} (h : IsX0 t) : tbl[t + 23]? = some (.inl (1, 960)) := by rcases h with rfl | rfl <;> rfl
theorem tq_X0_24 {t : Nat} (h : IsX0 t) : tbl[t + 24]? = some (.inl (1, 3840)) := by rcases h with rfl | rfl <;> rfl
theorem tq_X0_25 {t : Nat} (h : IsX0 t) : tbl[t + 25]? = some (.inl (1, 240)) := by rcases h with rfl | rfl <;> rfl
theorem tq_X0_26 {t : Nat} (h : IsX0 t) : tbl[t + 26]? = some (.inl (1, 168)) := by rcases h with rfl | rfl <;> rfl
theorem tq_X0_27 {t : Nat} (h : IsX0 t) : tbl[t + 27]? = some (.inl (0, 10)) := by rcases h with rfl | rfl <;> rfl
theorem tq_X0_28 {t : Nat} (h : IsX0 t) : tbl[t + 28]? = some (.inl (0, 10)) := by rcases h with rfl | rfl <;> rfl
theorem tq_X1_0 {t : Nat} (h : IsX1 t) : tbl[t]? = some (.inr (1, [some (t + 1), some (t + 2), some (t + 3), some (t + 4), some (t + 5), some (t + 6), some (t + 7), some (t + 8), some (t + 9), some (t + 10), some (t + 11), some (t + 12), none])) := by rcases h with rfl | rfl <;> rfl
theorem tq_X1_1 {t : Nat} (h : IsX1 t) : tbl[t + 1]? = some (.inl (2, 24)) := by rcases h with rfl | rfl <;> rfl
theorem tq_X1_2 {t : Nat} (h : IsX1 t) : tbl[t + 2]? = some (.inl (0, 24)) := by rcases h with rfl | rfl <;> rfl
theorem tq_X1_3 {t : Nat} (h : IsX1 t) : tbl[t + 3]? = some (.inl (0, 24)) := by rcases h with rfl | rfl <;> rfl
theorem tq_X1_4 {t : Nat} (h : IsX1 t) : tbl[t + 4]? = some (.inl (0, 24)) := by rcases h with rfl | rfl <;> rfl
theorem tq_X1_5 {t : Nat} (h : IsX1 t) : tbl[t + 5]? = some (.inl (1, 24)) := by rcases h with rfl | rfl <;> rfl
theorem tq_X1_6 {t : Nat} (h : IsX1 t) : tbl[t + 6]? = some (.inl (0, 24)) := by rcases h with rfl | rfl <;> rfl
theorem tq_X1_7 {t : Nat} (h : IsX1 t) : tbl[t + 7]? = some (.inl (1, 1000)) := by rcases h with rfl | rfl <;> rfl
theorem tq_X1_8 {t : Nat} (h : IsX1 t) : tbl[t + 8]? = some (.inl (1, 1000)) := by rcases h with rfl | rfl <;> rfl
theorem tq_X1_9 {t : Nat} (h : IsX1 t) : tbl[t + 9]? = some (.inl (1, 960)) := by rcases h with rfl | rfl <;> rfl
theorem tq_X1_10 {t : Nat} (h : IsX1 t) : tbl[t + 10]? = some (.inl (1, 3840)) := by rcases h with rfl | rfl <;> rfl
theorem tq_X1_11 {t : Nat} (h : IsX1 t) : tbl[t + 11]? = some (.inl (1, 240)) := by rcases h with rfl | rfl <;> rfl
theorem tq_X1_12 {t : Nat} (h : IsX1 t) : tbl[t + 12]? = some (.inl (1, 168)) := by rcases h with rfl | rfl <;> rfl
theorem tq_X3_0 {t : Nat} (h : IsX3 t) : tbl[t]? = some (.inr (3, [some (t + 1), some (t + 2), some (t + 3), some (t + 4), some (t + 5), some (t + 6)])) := by rcases h with rfl | rfl <;> rfl
theorem tq_X3_1 {t : Nat} (h : IsX3 t) : tbl[t + 1]? = some (.inl (1, 40)) := by rcases h with rfl | rfl <;> rfl
theorem tq_X3_2 {t : Nat} (h : IsX3 t) : tbl[t + 2]? = some (.inl (1, 40)) := by rcases h with rfl | rfl <;> rfl
theorem tq_X3_3 {t : Nat} (h : IsX3 t) : tbl[t + 3]? = some (.inl (1, 40)) := by rcases h with rfl | rfl <;> rfl
theorem tq_X3_4 {t : Nat} (h : IsX3 t) : tbl[t + 4]? = some (.inl (1, 160)) := by rcases h with rfl | rfl <;> rfl
theorem tq_X3_5 {t : Nat} (h : IsX3 t) : tbl[t + 5]? = some (.inl (1, 10)) := by rcases h with rfl | rfl <;> rfl
theorem tq_X3_6 {t : Nat} (h : IsX3 t) : tbl[t + 6]? = some (.inl (1, 7)) := by rcases h with rfl | rfl <;> rfl
theorem tq_X5_0 {t : Nat} (h : IsX5 t) : tbl[t]? = some (.inr (5, [some (t + 1), some (t + 2), some (t + 3), some (t + 4), some (t + 5), some (t + 6), some (t + 7), some (t + 8), some (t + 9), some (t + 10), some (t + 11), some (t + 12), none, none])) := by rcases h with rfl | rfl <;> rfl
theorem tq_X5_1 {t : Nat} (h : IsX5 t) : tbl[t + 1]? = some (.inl (0, 40)) := by rcases h with rfl | rfl <;> rfl
theorem tq_X5_2 {t : Nat} (h : IsX5 t) : tbl[t + 2]? = some (.inl (0, 40)) := by rcases h with rfl | rfl <;> rfl
theorem tq_X5_3 {t : Nat} (h : IsX5 t) : tbl[t + 3]? = some (.inl (0, 40)) := by rcases h with rfl | rfl <;> rfl
theorem tq_X5_4 {t : Nat} (h : IsX5 t) : tbl[t + 4]? = some (.inl (0, 40)) := by rcases h with rfl | rfl <;> rfl
theorem tq_X5_5 {t : Nat} (h : IsX5 t) : tbl[t + 5]? = some (.inl (1, 40)) := by rcases h with rfl | rfl <;> rfl
theorem tq_X5_6 {t : Nat} (h : IsX5 t) : tbl[t + 6]? = some (.inl (0, 40)) := by rcases h with rfl | rfl <;> rfl
theorem tq_X5_7 {t : Nat} (h : IsX5 t) : tbl[t + 7]? = some (.inl (0, 40)) := by rcases h with rfl | rfl <;> rfl
theorem tq_X5_8 {t : Nat} (h : IsX5 t) : tbl[t + 8]? = some (.inl (0, 160)) := by rcases h with rfl | rfl <;> rfl
theorem tq_X5_9 {t : Nat} (h : IsX5 t) : tbl[t + 9]? = some (.inl (0, 160)) := by rcases h with rfl | rfl <;> rfl
theorem tq_X5_10 {t : Nat} (h : IsX5 t) : tbl[t + 10]? = some (.inl (1, 160)) := by rcases h with rfl | rfl <;> rfl
theorem tq_X5_11 {t : Nat} (h : IsX5 t) : tbl[t + 11]? = some (.inl (0, 72)) := by rcases h with rfl | rfl <;> rfl
theorem tq_X5_12 {t : Nat} (h : IsX5 t) : tbl[t + 12]? = some (.inl (0, 12)) := by rcases h with rfl | rfl <;> rfl
theorem xg_IllegalArgumentException : ∀ w ∈ (vx_atS "TallTowers" 371 "java/lang/IllegalArgumentException" ["java/lang/RuntimeException", "java/lang/Exception"]).filter goodWord, w ∈ lw_tbl := by decide +kernel
theorem xn_IllegalArgumentException : ∀ w ∈ (vx_atS "TallTowers" 371 "java/lang/IllegalArgumentException" ["java/lang/RuntimeException", "java/lang/Exception"]).filter (fun w => !goodWord w), w ∈ xw := by decide +kernel
theorem xo_IllegalArgumentException : ∀ w ∈ Cond.classLink "TallTowers" 367 "java/lang/IllegalArgumentException" :: Cond.initialized "java/lang/IllegalArgumentException" :: vx_atS "TallTowers" 371 "java/lang/IllegalArgumentException" ["java/lang/RuntimeException", "java/lang/Exception"], vx_ot w = true := by decide +kernel
theorem thr_IllegalArgumentException {G : GX} {M : MT} {pc : Nat} {lv : List (Option Value)} {μ : Mem} (hM : mH M = none) (hO : mO M = "TallTowers") (hf : 5 < mF M) (hw : 82 ≤ mW M) (d0 : decode (mC M) pc = .ok (.new 367, 3)) (d3 : decode (mC M) (pc + 3) = .ok (.dup, 1)) (d4 : decode (mC M) (pc + 4) = .ok (.ldc_w 369, 3)) (d7 : decode (mC M) (pc + 7) = .ok (.invokespecial 371, 3)) (d10 : decode (mC M) (pc + 10) = .ok (.athrow, 1)) : V G M pc lv [] μ (.inr "java/lang/IllegalArgumentException") (μ.1, μ.2.1, μ.2.2.1 + 1, μ.2.2.2 + 6) := V_throw hM hO (by decide +kernel) (by rw [hO]; exact cl_RX6_367) in_IllegalArgumentException (fun U h => h.2.2.2.1) (fun w hw => List.mem_filter.mpr ⟨xg_IllegalArgumentException w hw, (List.mem_filter.mp hw).2⟩) xn_IllegalArgumentException xo_IllegalArgumentException hf hw d0 d3 d4 d7 d10
theorem xg_IllegalStateException : ∀ w ∈ (vx_atS "TallTowers" 376 "java/lang/IllegalStateException" ["java/lang/RuntimeException", "java/lang/Exception"]).filter goodWord, w ∈ lw_tbl := by decide +kernel
theorem xn_IllegalStateException : ∀ w ∈ (vx_atS "TallTowers" 376 "java/lang/IllegalStateException" ["java/lang/RuntimeException", "java/lang/Exception"]).filter (fun w => !goodWord w), w ∈ xw := by decide +kernel
theorem xo_IllegalStateException : ∀ w ∈ Cond.classLink "TallTowers" 372 "java/lang/IllegalStateException" :: Cond.initialized "java/lang/IllegalStateException" :: vx_atS "TallTowers" 376 "java/lang/IllegalStateException" ["java/lang/RuntimeException", "java/lang/Exception"], vx_ot w = true := by decide +kernel
theorem thr_IllegalStateException {G : GX} {M : MT} {pc : Nat} {lv : List (Option Value)} {μ : Mem} (hM : mH M = none) (hO : mO M = "TallTowers") (hf : 5 < mF M) (hw : 82 ≤ mW M) (d0 : decode (mC M) pc = .ok (.new 372, 3)) (d3 : decode (mC M) (pc + 3) = .ok (.dup, 1)) (d4 : decode (mC M) (pc + 4) = .ok (.ldc_w 374, 3)) (d7 : decode (mC M) (pc + 7) = .ok (.invokespecial 376, 3)) (d10 : decode (mC M) (pc + 10) = .ok (.athrow, 1)) : V G M pc lv [] μ (.inr "java/lang/IllegalStateException") (μ.1, μ.2.1, μ.2.2.1 + 1, μ.2.2.2 + 6) := V_throw hM hO (by decide +kernel) (by rw [hO]; exact cl_RX6_372) in_IllegalStateException (fun U h => h.2.2.2.2) (fun w hw => List.mem_filter.mpr ⟨xg_IllegalStateException w hw, (List.mem_filter.mp hw).2⟩) xn_IllegalStateException xo_IllegalStateException hf hw d0 d3 d4 d7 d10
