/-! memories and what stands (printed by gen42.py) -/
def RMa (μ : Mem) (n : Nat → Nat → Nat) : Prop :=
  (∀ l : Nat, l < 40 → μ.1 90 l = nI (n 0 l)) ∧
  (∀ l : Nat, l < 40 → μ.1 96 l = nI (n 5 l)) ∧
  (∀ l : Nat, l < 40 → n 0 l = 1 → μ.1 92 l = nI (n 1 l)) ∧
  (∀ l : Nat, l < 40 → n 0 l = 1 → μ.1 93 l = nI (n 2 l)) ∧
  (∀ l : Nat, l < 40 → n 0 l = 1 → μ.1 94 l = nI (n 3 l)) ∧
  (∀ l : Nat, l < 40 → n 0 l = 1 → μ.1 95 l = nI (n 4 l)) ∧
  (∀ l : Nat, l < 40 → n 0 l = 1 → μ.1 115 l = nI (n 10 l)) ∧
  (∀ l : Nat, ∀ k : Nat, l < 40 → k < n 5 l → μ.1 97 (4 * l + k) = nI (n 6 (4 * l + k))) ∧
  (∀ l : Nat, ∀ k : Nat, l < 40 → k < n 5 l → μ.1 98 (4 * l + k) = nI (n 7 (4 * l + k))) ∧
  (∀ y : Nat, y < 12 → μ.1 114 y = nI (n 8 y)) ∧
  (∀ y : Nat, ∀ k : Nat, y < 12 → k < n 8 y → μ.1 113 (6 * y + k) = nI (n 9 (6 * y + k))) ∧
  (μ.1 85 29 = nI (n 11 0))
theorem RMa_is {μ : Mem} {n : Nat → Nat → Nat} (H : RMa μ n) {l : Nat} (h0 : l < 40) : μ.1 90 l = nI (n 0 l) := H.1 l h0
theorem RMa_ng {μ : Mem} {n : Nat → Nat → Nat} (H : RMa μ n) {l : Nat} (h0 : l < 40) : μ.1 96 l = nI (n 5 l) := H.2.1 l h0
theorem RMa_yr {μ : Mem} {n : Nat → Nat → Nat} (H : RMa μ n) {l : Nat} (h0 : l < 40) (h1 : n 0 l = 1) : μ.1 92 l = nI (n 1 l) := H.2.2.1 l h0 h1
theorem RMa_fr {μ : Mem} {n : Nat → Nat → Nat} (H : RMa μ n) {l : Nat} (h0 : l < 40) (h1 : n 0 l = 1) : μ.1 93 l = nI (n 2 l) := H.2.2.2.1 l h0 h1
theorem RMa_sz {μ : Mem} {n : Nat → Nat → Nat} (H : RMa μ n) {l : Nat} (h0 : l < 40) (h1 : n 0 l = 1) : μ.1 94 l = nI (n 3 l) := H.2.2.2.2.1 l h0 h1
theorem RMa_tm {μ : Mem} {n : Nat → Nat → Nat} (H : RMa μ n) {l : Nat} (h0 : l < 40) (h1 : n 0 l = 1) : μ.1 95 l = nI (n 4 l) := H.2.2.2.2.2.1 l h0 h1
theorem RMa_hl {μ : Mem} {n : Nat → Nat → Nat} (H : RMa μ n) {l : Nat} (h0 : l < 40) (h1 : n 0 l = 1) : μ.1 115 l = nI (n 10 l) := H.2.2.2.2.2.2.1 l h0 h1
theorem RMa_sg {μ : Mem} {n : Nat → Nat → Nat} (H : RMa μ n) {l : Nat} {k : Nat} (h0 : l < 40) (h1 : k < n 5 l) : μ.1 97 (4 * l + k) = nI (n 6 (4 * l + k)) := H.2.2.2.2.2.2.2.1 l k h0 h1
theorem RMa_tn {μ : Mem} {n : Nat → Nat → Nat} (H : RMa μ n) {l : Nat} {k : Nat} (h0 : l < 40) (h1 : k < n 5 l) : μ.1 98 (4 * l + k) = nI (n 7 (4 * l + k)) := H.2.2.2.2.2.2.2.2.1 l k h0 h1
theorem RMa_hg {μ : Mem} {n : Nat → Nat → Nat} (H : RMa μ n) {y : Nat} (h0 : y < 12) : μ.1 114 y = nI (n 8 y) := H.2.2.2.2.2.2.2.2.2.1 y h0
theorem RMa_rg {μ : Mem} {n : Nat → Nat → Nat} (H : RMa μ n) {y : Nat} {k : Nat} (h0 : y < 12) (h1 : k < n 8 y) : μ.1 113 (6 * y + k) = nI (n 9 (6 * y + k)) := H.2.2.2.2.2.2.2.2.2.2.1 y k h0 h1
theorem RMa_lk {μ : Mem} {n : Nat → Nat → Nat} (H : RMa μ n)   : μ.1 85 29 = nI (n 11 0) := H.2.2.2.2.2.2.2.2.2.2.2  
def RMb (μ : Mem) (n : Nat → Nat → Nat) : Prop :=
  (∀ h : Nat, h < 25 → μ.1 91 h = nI (n 13 h)) ∧
  (∀ h : Nat, h < 25 → n 13 h = 1 → μ.1 100 h = nI (n 14 h)) ∧
  (∀ h : Nat, h < 25 → n 13 h = 1 → μ.1 101 h = nI (n 15 h)) ∧
  (∀ h : Nat, h < 25 → n 13 h = 1 → μ.1 102 h = nI (n 16 h)) ∧
  (∀ h : Nat, h < 25 → μ.1 103 h = nI (n 17 h)) ∧
  (∀ i : Nat, i < 10 → μ.1 111 i = nI (n 19 i)) ∧
  (∀ i : Nat, i < 10 → μ.1 112 i = nI (n 20 i)) ∧
  (μ.1 85 30 = nI (n 21 0)) ∧
  (μ.1 85 31 = nI (n 21 1)) ∧
  (μ.1 85 32 = nI (n 21 2))
theorem RMb_is {μ : Mem} {n : Nat → Nat → Nat} (H : RMb μ n) {h : Nat} (h0 : h < 25) : μ.1 91 h = nI (n 13 h) := H.1 h h0
theorem RMb_fs {μ : Mem} {n : Nat → Nat → Nat} (H : RMb μ n) {h : Nat} (h0 : h < 25) (h1 : n 13 h = 1) : μ.1 100 h = nI (n 14 h) := H.2.1 h h0 h1
theorem RMb_ls {μ : Mem} {n : Nat → Nat → Nat} (H : RMb μ n) {h : Nat} (h0 : h < 25) (h1 : n 13 h = 1) : μ.1 101 h = nI (n 15 h) := H.2.2.1 h h0 h1
theorem RMb_sh {μ : Mem} {n : Nat → Nat → Nat} (H : RMb μ n) {h : Nat} (h0 : h < 25) (h1 : n 13 h = 1) : μ.1 102 h = nI (n 16 h) := H.2.2.2.1 h h0 h1
theorem RMb_gr {μ : Mem} {n : Nat → Nat → Nat} (H : RMb μ n) {h : Nat} (h0 : h < 25) : μ.1 103 h = nI (n 17 h) := H.2.2.2.2.1 h h0
theorem RMb_sd {μ : Mem} {n : Nat → Nat → Nat} (H : RMb μ n) {i : Nat} (h0 : i < 10) : μ.1 111 i = nI (n 19 i) := H.2.2.2.2.2.1 i h0
theorem RMb_cs {μ : Mem} {n : Nat → Nat → Nat} (H : RMb μ n) {i : Nat} (h0 : i < 10) : μ.1 112 i = nI (n 20 i) := H.2.2.2.2.2.2.1 i h0
theorem RMb_r0 {μ : Mem} {n : Nat → Nat → Nat} (H : RMb μ n)   : μ.1 85 30 = nI (n 21 0) := H.2.2.2.2.2.2.2.1  
theorem RMb_r1 {μ : Mem} {n : Nat → Nat → Nat} (H : RMb μ n)   : μ.1 85 31 = nI (n 21 1) := H.2.2.2.2.2.2.2.2.1  
theorem RMb_r2 {μ : Mem} {n : Nat → Nat → Nat} (H : RMb μ n)   : μ.1 85 32 = nI (n 21 2) := H.2.2.2.2.2.2.2.2.2  
def RMz (μ : Mem) (z : Nat → Nat → Int) : Prop :=
  (∀ l : Nat, l < 40 → μ.2.1 99 l = zL (z 0 l)) ∧
  (∀ h : Nat, h < 25 → μ.2.1 104 h = zL (z 1 h)) ∧
  (∀ j : Nat, j < 1000 → μ.2.1 105 j = zL (z 2 j)) ∧
  (∀ j : Nat, j < 1000 → μ.2.1 106 j = zL (z 3 j)) ∧
  (∀ j : Nat, j < 1000 → μ.2.1 107 j = zL (z 4 j)) ∧
  (∀ j : Nat, j < 4000 → μ.1 108 j = zI (z 5 j)) ∧
  (∀ j : Nat, j < 250 → μ.2.1 109 j = zL (z 6 j)) ∧
  (∀ j : Nat, j < 175 → μ.2.1 110 j = zL (z 7 j))
theorem RMz_us {μ : Mem} {z : Nat → Nat → Int} (H : RMz μ z) {l : Nat} (h0 : l < 40) : μ.2.1 99 l = zL (z 0 l) := H.1 l h0
theorem RMz_lo {μ : Mem} {z : Nat → Nat → Int} (H : RMz μ z) {h : Nat} (h0 : h < 25) : μ.2.1 104 h = zL (z 1 h) := H.2.1 h h0
theorem RMz_tk {μ : Mem} {z : Nat → Nat → Int} (H : RMz μ z) {j : Nat} (h0 : j < 1000) : μ.2.1 105 j = zL (z 2 j) := H.2.2.1 j h0
theorem RMz_th {μ : Mem} {z : Nat → Nat → Int} (H : RMz μ z) {j : Nat} (h0 : j < 1000) : μ.2.1 106 j = zL (z 3 j) := H.2.2.2.1 j h0
theorem RMz_mv {μ : Mem} {z : Nat → Nat → Int} (H : RMz μ z) {j : Nat} (h0 : j < 1000) : μ.2.1 107 j = zL (z 4 j) := H.2.2.2.2.1 j h0
theorem RMz_hd {μ : Mem} {z : Nat → Nat → Int} (H : RMz μ z) {j : Nat} (h0 : j < 4000) : μ.1 108 j = zI (z 5 j) := H.2.2.2.2.2.1 j h0
theorem RMz_br {μ : Mem} {z : Nat → Nat → Int} (H : RMz μ z) {j : Nat} (h0 : j < 250) : μ.2.1 109 j = zL (z 6 j) := H.2.2.2.2.2.2.1 j h0
theorem RMz_fl {μ : Mem} {z : Nat → Nat → Int} (H : RMz μ z) {j : Nat} (h0 : j < 175) : μ.2.1 110 j = zL (z 7 j) := H.2.2.2.2.2.2.2 j h0
def RM (μ : Mem) (s : Sp) : Prop := RMa μ s.1 ∧ RMb μ s.1 ∧ RMz μ s.2
def RCa (b : Nat) (μ : Mem) (n : Nat → Nat → Nat) : Prop :=
  (∀ l : Nat, l < 40 → n 0 l = 0 → μ.1 (b + 2) l = -1) ∧
  (∀ l : Nat, l < 40 → n 0 l = 1 → μ.1 (b + 2) l = nI (n 1 l)) ∧
  (∀ l : Nat, l < 40 → n 0 l = 1 → μ.1 (b + 3) l = nI (n 2 l)) ∧
  (∀ l : Nat, l < 40 → n 0 l = 1 → μ.1 (b + 4) l = nI (n 3 l)) ∧
  (∀ l : Nat, l < 40 → n 0 l = 1 → μ.1 (b + 5) l = nI (n 4 l)) ∧
  (∀ l : Nat, l < 40 → n 0 l = 1 → μ.1 (b + 7) l = nI (n 5 l)) ∧
  (∀ l : Nat, l < 40 → n 0 l = 1 → μ.1 (b + 8) l = nI (tnI (n, fun _ _ => 0) l (n 5 l))) ∧
  (∀ l : Nat, ∀ k : Nat, l < 40 → n 0 l = 1 → k < n 5 l → μ.1 (b + 9) (4 * l + k) = nI (n 6 (4 * l + k))) ∧
  (∀ l : Nat, ∀ k : Nat, l < 40 → n 0 l = 1 → k < n 5 l → μ.1 (b + 10) (4 * l + k) = nI (n 7 (4 * l + k))) ∧
  (∀ y : Nat, y < 12 → μ.1 (b + 13) y = nI (n 8 y)) ∧
  (∀ y : Nat, ∀ k : Nat, y < 12 → k < n 8 y → μ.1 (b + 12) (6 * y + k) = nI (n 9 (6 * y + k))) ∧
  (μ.1 (b + 1) 12 = nI (n 11 0)) ∧
  (μ.1 (b + 1) 13 = nI (n 12 0))
theorem RCa_y0 {b : Nat} {μ : Mem} {n : Nat → Nat → Nat} (H : RCa b μ n) {l : Nat} (h0 : l < 40) (h1 : n 0 l = 0) : μ.1 (b + 2) l = -1 := H.1 l h0 h1
theorem RCa_yr {b : Nat} {μ : Mem} {n : Nat → Nat → Nat} (H : RCa b μ n) {l : Nat} (h0 : l < 40) (h1 : n 0 l = 1) : μ.1 (b + 2) l = nI (n 1 l) := H.2.1 l h0 h1
theorem RCa_fr {b : Nat} {μ : Mem} {n : Nat → Nat → Nat} (H : RCa b μ n) {l : Nat} (h0 : l < 40) (h1 : n 0 l = 1) : μ.1 (b + 3) l = nI (n 2 l) := H.2.2.1 l h0 h1
theorem RCa_sz {b : Nat} {μ : Mem} {n : Nat → Nat → Nat} (H : RCa b μ n) {l : Nat} (h0 : l < 40) (h1 : n 0 l = 1) : μ.1 (b + 4) l = nI (n 3 l) := H.2.2.2.1 l h0 h1
theorem RCa_tm {b : Nat} {μ : Mem} {n : Nat → Nat → Nat} (H : RCa b μ n) {l : Nat} (h0 : l < 40) (h1 : n 0 l = 1) : μ.1 (b + 5) l = nI (n 4 l) := H.2.2.2.2.1 l h0 h1
theorem RCa_ng {b : Nat} {μ : Mem} {n : Nat → Nat → Nat} (H : RCa b μ n) {l : Nat} (h0 : l < 40) (h1 : n 0 l = 1) : μ.1 (b + 7) l = nI (n 5 l) := H.2.2.2.2.2.1 l h0 h1
theorem RCa_tt {b : Nat} {μ : Mem} {n : Nat → Nat → Nat} (H : RCa b μ n) {l : Nat} (h0 : l < 40) (h1 : n 0 l = 1) : μ.1 (b + 8) l = nI (tnI (n, fun _ _ => 0) l (n 5 l)) := H.2.2.2.2.2.2.1 l h0 h1
theorem RCa_sg {b : Nat} {μ : Mem} {n : Nat → Nat → Nat} (H : RCa b μ n) {l : Nat} {k : Nat} (h0 : l < 40) (h1 : n 0 l = 1) (h2 : k < n 5 l) : μ.1 (b + 9) (4 * l + k) = nI (n 6 (4 * l + k)) := H.2.2.2.2.2.2.2.1 l k h0 h1 h2
theorem RCa_tn {b : Nat} {μ : Mem} {n : Nat → Nat → Nat} (H : RCa b μ n) {l : Nat} {k : Nat} (h0 : l < 40) (h1 : n 0 l = 1) (h2 : k < n 5 l) : μ.1 (b + 10) (4 * l + k) = nI (n 7 (4 * l + k)) := H.2.2.2.2.2.2.2.2.1 l k h0 h1 h2
theorem RCa_hg {b : Nat} {μ : Mem} {n : Nat → Nat → Nat} (H : RCa b μ n) {y : Nat} (h0 : y < 12) : μ.1 (b + 13) y = nI (n 8 y) := H.2.2.2.2.2.2.2.2.2.1 y h0
theorem RCa_rg {b : Nat} {μ : Mem} {n : Nat → Nat → Nat} (H : RCa b μ n) {y : Nat} {k : Nat} (h0 : y < 12) (h1 : k < n 8 y) : μ.1 (b + 12) (6 * y + k) = nI (n 9 (6 * y + k)) := H.2.2.2.2.2.2.2.2.2.2.1 y k h0 h1
theorem RCa_lk {b : Nat} {μ : Mem} {n : Nat → Nat → Nat} (H : RCa b μ n)   : μ.1 (b + 1) 12 = nI (n 11 0) := H.2.2.2.2.2.2.2.2.2.2.2.1  
theorem RCa_cL {b : Nat} {μ : Mem} {n : Nat → Nat → Nat} (H : RCa b μ n)   : μ.1 (b + 1) 13 = nI (n 12 0) := H.2.2.2.2.2.2.2.2.2.2.2.2  
def RCb (b : Nat) (μ : Mem) (n : Nat → Nat → Nat) : Prop :=
  (∀ h : Nat, h < 24 → μ.1 (b + 15) h = nI (n 13 h)) ∧
  (∀ h : Nat, h < 24 → n 13 h = 1 → μ.1 (b + 16) h = nI (n 14 h)) ∧
  (∀ h : Nat, h < 24 → n 13 h = 1 → μ.1 (b + 17) h = nI (n 15 h)) ∧
  (∀ h : Nat, h < 24 → n 13 h = 1 → μ.1 (b + 18) h = nI (n 16 h)) ∧
  (∀ h : Nat, h < 24 → n 13 h = 1 → μ.1 (b + 20) h = nI (n 17 h)) ∧
  (μ.1 (b + 14) 12 = nI (n 18 0)) ∧
  (∀ i : Nat, i < 10 → μ.1 (b + 27) i = nI (n 19 i)) ∧
  (∀ i : Nat, i < 10 → μ.1 (b + 28) i = nI (n 20 i)) ∧
  (μ.1 b 4 = nI (n 21 0)) ∧
  (μ.1 b 5 = nI (n 21 1)) ∧
  (μ.1 b 6 = nI (n 21 2))
theorem RCb_is {b : Nat} {μ : Mem} {n : Nat → Nat → Nat} (H : RCb b μ n) {h : Nat} (h0 : h < 24) : μ.1 (b + 15) h = nI (n 13 h) := H.1 h h0
theorem RCb_fs {b : Nat} {μ : Mem} {n : Nat → Nat → Nat} (H : RCb b μ n) {h : Nat} (h0 : h < 24) (h1 : n 13 h = 1) : μ.1 (b + 16) h = nI (n 14 h) := H.2.1 h h0 h1
theorem RCb_ls {b : Nat} {μ : Mem} {n : Nat → Nat → Nat} (H : RCb b μ n) {h : Nat} (h0 : h < 24) (h1 : n 13 h = 1) : μ.1 (b + 17) h = nI (n 15 h) := H.2.2.1 h h0 h1
theorem RCb_sh {b : Nat} {μ : Mem} {n : Nat → Nat → Nat} (H : RCb b μ n) {h : Nat} (h0 : h < 24) (h1 : n 13 h = 1) : μ.1 (b + 18) h = nI (n 16 h) := H.2.2.2.1 h h0 h1
theorem RCb_gr {b : Nat} {μ : Mem} {n : Nat → Nat → Nat} (H : RCb b μ n) {h : Nat} (h0 : h < 24) (h1 : n 13 h = 1) : μ.1 (b + 20) h = nI (n 17 h) := H.2.2.2.2.1 h h0 h1
theorem RCb_cH {b : Nat} {μ : Mem} {n : Nat → Nat → Nat} (H : RCb b μ n)   : μ.1 (b + 14) 12 = nI (n 18 0) := H.2.2.2.2.2.1  
theorem RCb_sd {b : Nat} {μ : Mem} {n : Nat → Nat → Nat} (H : RCb b μ n) {i : Nat} (h0 : i < 10) : μ.1 (b + 27) i = nI (n 19 i) := H.2.2.2.2.2.2.1 i h0
theorem RCb_cs {b : Nat} {μ : Mem} {n : Nat → Nat → Nat} (H : RCb b μ n) {i : Nat} (h0 : i < 10) : μ.1 (b + 28) i = nI (n 20 i) := H.2.2.2.2.2.2.2.1 i h0
theorem RCb_r0 {b : Nat} {μ : Mem} {n : Nat → Nat → Nat} (H : RCb b μ n)   : μ.1 b 4 = nI (n 21 0) := H.2.2.2.2.2.2.2.2.1  
theorem RCb_r1 {b : Nat} {μ : Mem} {n : Nat → Nat → Nat} (H : RCb b μ n)   : μ.1 b 5 = nI (n 21 1) := H.2.2.2.2.2.2.2.2.2.1  
theorem RCb_r2 {b : Nat} {μ : Mem} {n : Nat → Nat → Nat} (H : RCb b μ n)   : μ.1 b 6 = nI (n 21 2) := H.2.2.2.2.2.2.2.2.2.2  
def RCz (b : Nat) (μ : Mem) (n : Nat → Nat → Nat) (z : Nat → Nat → Int) : Prop :=
  (∀ l : Nat, l < 40 → n 0 l = 1 → μ.2.1 (b + 6) l = zL (z 0 l)) ∧
  (∀ l : Nat, ∀ k : Nat, l < 40 → n 0 l = 1 → k < n 5 l → μ.2.1 (b + 11) (4 * l + k) = zL (sm (fun h => z 5 (160 * h + 4 * l + k)) 24)) ∧
  (∀ h : Nat, h < 24 → n 13 h = 1 → μ.2.1 (b + 19) h = zL (z 1 h)) ∧
  (∀ h : Nat, ∀ l : Nat, h < 25 → n 13 h = 1 ∨ h = 24 → l < 40 → μ.2.1 (b + 21) (40 * h + l) = zL (z 2 (40 * h + l))) ∧
  (∀ h : Nat, ∀ l : Nat, h < 25 → n 13 h = 1 ∨ h = 24 → l < 40 → μ.2.1 (b + 22) (40 * h + l) = zL (z 3 (40 * h + l))) ∧
  (∀ h : Nat, ∀ l : Nat, h < 24 → n 13 h = 1 → l < 40 → μ.2.1 (b + 23) (40 * h + l) = zL (z 4 (40 * h + l))) ∧
  (∀ h : Nat, ∀ j : Nat, h < 24 → n 13 h = 1 → j < 160 → μ.2.1 (b + 24) (160 * h + j) = zL (z 5 (160 * h + j))) ∧
  (∀ h : Nat, ∀ i : Nat, h < 24 → n 13 h = 1 → i < 10 → 0 < i → μ.2.1 (b + 25) (10 * h + i) = zL (z 6 (10 * h + i))) ∧
  (∀ h : Nat, h < 24 → n 13 h = 1 → μ.2.1 (b + 25) (10 * h) = zL (sm (fun r => z 7 (7 * h + r)) 7)) ∧
  (∀ h : Nat, ∀ r : Nat, h < 24 → n 13 h = 1 → r < 7 → μ.2.1 (b + 26) (7 * h + r) = zL (z 7 (7 * h + r)))
theorem RCz_us {b : Nat} {μ : Mem} {n : Nat → Nat → Nat} {z : Nat → Nat → Int} (H : RCz b μ n z) {l : Nat} (h0 : l < 40) (h1 : n 0 l = 1) : μ.2.1 (b + 6) l = zL (z 0 l) := H.1 l h0 h1
theorem RCz_ha {b : Nat} {μ : Mem} {n : Nat → Nat → Nat} {z : Nat → Nat → Int} (H : RCz b μ n z) {l : Nat} {k : Nat} (h0 : l < 40) (h1 : n 0 l = 1) (h2 : k < n 5 l) : μ.2.1 (b + 11) (4 * l + k) = zL (sm (fun h => z 5 (160 * h + 4 * l + k)) 24) := H.2.1 l k h0 h1 h2
theorem RCz_lo {b : Nat} {μ : Mem} {n : Nat → Nat → Nat} {z : Nat → Nat → Int} (H : RCz b μ n z) {h : Nat} (h0 : h < 24) (h1 : n 13 h = 1) : μ.2.1 (b + 19) h = zL (z 1 h) := H.2.2.1 h h0 h1
theorem RCz_tk {b : Nat} {μ : Mem} {n : Nat → Nat → Nat} {z : Nat → Nat → Int} (H : RCz b μ n z) {h : Nat} {l : Nat} (h0 : h < 25) (h1 : n 13 h = 1 ∨ h = 24) (h2 : l < 40) : μ.2.1 (b + 21) (40 * h + l) = zL (z 2 (40 * h + l)) := H.2.2.2.1 h l h0 h1 h2
theorem RCz_th {b : Nat} {μ : Mem} {n : Nat → Nat → Nat} {z : Nat → Nat → Int} (H : RCz b μ n z) {h : Nat} {l : Nat} (h0 : h < 25) (h1 : n 13 h = 1 ∨ h = 24) (h2 : l < 40) : μ.2.1 (b + 22) (40 * h + l) = zL (z 3 (40 * h + l)) := H.2.2.2.2.1 h l h0 h1 h2
theorem RCz_mv {b : Nat} {μ : Mem} {n : Nat → Nat → Nat} {z : Nat → Nat → Int} (H : RCz b μ n z) {h : Nat} {l : Nat} (h0 : h < 24) (h1 : n 13 h = 1) (h2 : l < 40) : μ.2.1 (b + 23) (40 * h + l) = zL (z 4 (40 * h + l)) := H.2.2.2.2.2.1 h l h0 h1 h2
theorem RCz_hd {b : Nat} {μ : Mem} {n : Nat → Nat → Nat} {z : Nat → Nat → Int} (H : RCz b μ n z) {h : Nat} {j : Nat} (h0 : h < 24) (h1 : n 13 h = 1) (h2 : j < 160) : μ.2.1 (b + 24) (160 * h + j) = zL (z 5 (160 * h + j)) := H.2.2.2.2.2.2.1 h j h0 h1 h2
theorem RCz_br {b : Nat} {μ : Mem} {n : Nat → Nat → Nat} {z : Nat → Nat → Int} (H : RCz b μ n z) {h : Nat} {i : Nat} (h0 : h < 24) (h1 : n 13 h = 1) (h2 : i < 10) (h3 : 0 < i) : μ.2.1 (b + 25) (10 * h + i) = zL (z 6 (10 * h + i)) := H.2.2.2.2.2.2.2.1 h i h0 h1 h2 h3
theorem RCz_b0 {b : Nat} {μ : Mem} {n : Nat → Nat → Nat} {z : Nat → Nat → Int} (H : RCz b μ n z) {h : Nat} (h0 : h < 24) (h1 : n 13 h = 1) : μ.2.1 (b + 25) (10 * h) = zL (sm (fun r => z 7 (7 * h + r)) 7) := H.2.2.2.2.2.2.2.2.1 h h0 h1
theorem RCz_fl {b : Nat} {μ : Mem} {n : Nat → Nat → Nat} {z : Nat → Nat → Int} (H : RCz b μ n z) {h : Nat} {r : Nat} (h0 : h < 24) (h1 : n 13 h = 1) (h2 : r < 7) : μ.2.1 (b + 26) (7 * h + r) = zL (z 7 (7 * h + r)) := H.2.2.2.2.2.2.2.2.2 h r h0 h1 h2
def RC (b : Nat) (μ : Mem) (s : Sp) : Prop := RCa b μ s.1 ∧ RCb b μ s.1 ∧ RCz b μ s.1 s.2
def IvT (s : Sp) : Prop :=
  (∀ l : Nat, l < 40 → isL s l = 0 ∨ isL s l = 1) ∧
  (∀ l : Nat, l < 40 → isL s l = 1 → yr s l < 12) ∧
  (∀ l : Nat, l < 40 → isL s l = 1 → fr s l ≤ 900000000) ∧
  (∀ l : Nat, l < 40 → isL s l = 1 → 1 ≤ sz s l ∧ sz s l ≤ 100000000) ∧
  (∀ l : Nat, l < 40 → isL s l = 1 → 1 ≤ tm s l ∧ tm s l ≤ 4) ∧
  (∀ l : Nat, l < 40 → isL s l = 1 → l < cL s) ∧
  (∀ l : Nat, l < 40 → isL s l = 1 → ∃ k, k < hg s (yr s l) ∧ rg s (6 * yr s l + k) = l) ∧
  (∀ l : Nat, l < 40 → ng s l ≤ 4) ∧
  (∀ l : Nat, l < 40 → isL s l = 0 → ng s l = 0) ∧
  (∀ l : Nat, ∀ k : Nat, l < 40 → k < ng s l → sg s (4 * l + k) < 10) ∧
  (∀ l : Nat, ∀ k : Nat, l < 40 → k < ng s l → 1 ≤ tn s (4 * l + k)) ∧
  (∀ l : Nat, l < 40 → tnI s l (ng s l) ≤ 10) ∧
  (∀ l : Nat, ∀ k : Nat, ∀ j : Nat, l < 40 → k < ng s l → j < ng s l → sg s (4 * l + k) = sg s (4 * l + j) → k = j) ∧
  (∀ y : Nat, y < 12 → hg s y ≤ 6) ∧
  (∀ y : Nat, ∀ k : Nat, y < 12 → k < hg s y → rg s (6 * y + k) < 40) ∧
  (∀ y : Nat, ∀ k : Nat, y < 12 → k < hg s y → isL s (rg s (6 * y + k)) = 1) ∧
  (∀ y : Nat, ∀ k : Nat, y < 12 → k < hg s y → yr s (rg s (6 * y + k)) = y) ∧
  (∀ y : Nat, ∀ k : Nat, y < 12 → k + 1 < hg s y → tp s (rg s (6 * y + k)) ≤ fr s (rg s (6 * y + (k + 1)))) ∧
  (∀ y : Nat, y < 12 → 0 < hg s y → hl s (rg s (6 * y)) = fr s (rg s (6 * y))) ∧
  (∀ y : Nat, ∀ k : Nat, y < 12 → k + 1 < hg s y → hl s (rg s (6 * y + (k + 1))) = fr s (rg s (6 * y + (k + 1))) - tp s (rg s (6 * y + k))) ∧
  (lk s < 4096) ∧
  (∀ y : Nat, y < 12 → lkb s y = true → hg s y = 0) ∧
  (cL s ≤ 40)
theorem IvT_is {s : Sp} (H : IvT s) {l : Nat} (h0 : l < 40) : isL s l = 0 ∨ isL s l = 1 := H.1 l h0
theorem IvT_yr {s : Sp} (H : IvT s) {l : Nat} (h0 : l < 40) (h1 : isL s l = 1) : yr s l < 12 := H.2.1 l h0 h1
theorem IvT_fr {s : Sp} (H : IvT s) {l : Nat} (h0 : l < 40) (h1 : isL s l = 1) : fr s l ≤ 900000000 := H.2.2.1 l h0 h1
theorem IvT_sz {s : Sp} (H : IvT s) {l : Nat} (h0 : l < 40) (h1 : isL s l = 1) : 1 ≤ sz s l ∧ sz s l ≤ 100000000 := H.2.2.2.1 l h0 h1
theorem IvT_tm {s : Sp} (H : IvT s) {l : Nat} (h0 : l < 40) (h1 : isL s l = 1) : 1 ≤ tm s l ∧ tm s l ≤ 4 := H.2.2.2.2.1 l h0 h1
theorem IvT_cL {s : Sp} (H : IvT s) {l : Nat} (h0 : l < 40) (h1 : isL s l = 1) : l < cL s := H.2.2.2.2.2.1 l h0 h1
theorem IvT_in {s : Sp} (H : IvT s) {l : Nat} (h0 : l < 40) (h1 : isL s l = 1) : ∃ k, k < hg s (yr s l) ∧ rg s (6 * yr s l + k) = l := H.2.2.2.2.2.2.1 l h0 h1
theorem IvT_ng {s : Sp} (H : IvT s) {l : Nat} (h0 : l < 40) : ng s l ≤ 4 := H.2.2.2.2.2.2.2.1 l h0
theorem IvT_n0 {s : Sp} (H : IvT s) {l : Nat} (h0 : l < 40) (h1 : isL s l = 0) : ng s l = 0 := H.2.2.2.2.2.2.2.2.1 l h0 h1
theorem IvT_sg {s : Sp} (H : IvT s) {l : Nat} {k : Nat} (h0 : l < 40) (h1 : k < ng s l) : sg s (4 * l + k) < 10 := H.2.2.2.2.2.2.2.2.2.1 l k h0 h1
theorem IvT_tn {s : Sp} (H : IvT s) {l : Nat} {k : Nat} (h0 : l < 40) (h1 : k < ng s l) : 1 ≤ tn s (4 * l + k) := H.2.2.2.2.2.2.2.2.2.2.1 l k h0 h1
theorem IvT_tt {s : Sp} (H : IvT s) {l : Nat} (h0 : l < 40) : tnI s l (ng s l) ≤ 10 := H.2.2.2.2.2.2.2.2.2.2.2.1 l h0
theorem IvT_sd {s : Sp} (H : IvT s) {l : Nat} {k : Nat} {j : Nat} (h0 : l < 40) (h1 : k < ng s l) (h2 : j < ng s l) (h3 : sg s (4 * l + k) = sg s (4 * l + j)) : k = j := H.2.2.2.2.2.2.2.2.2.2.2.2.1 l k j h0 h1 h2 h3
theorem IvT_hg {s : Sp} (H : IvT s) {y : Nat} (h0 : y < 12) : hg s y ≤ 6 := H.2.2.2.2.2.2.2.2.2.2.2.2.2.1 y h0
theorem IvT_rg {s : Sp} (H : IvT s) {y : Nat} {k : Nat} (h0 : y < 12) (h1 : k < hg s y) : rg s (6 * y + k) < 40 := H.2.2.2.2.2.2.2.2.2.2.2.2.2.2.1 y k h0 h1
theorem IvT_ri {s : Sp} (H : IvT s) {y : Nat} {k : Nat} (h0 : y < 12) (h1 : k < hg s y) : isL s (rg s (6 * y + k)) = 1 := H.2.2.2.2.2.2.2.2.2.2.2.2.2.2.2.1 y k h0 h1
theorem IvT_ry {s : Sp} (H : IvT s) {y : Nat} {k : Nat} (h0 : y < 12) (h1 : k < hg s y) : yr s (rg s (6 * y + k)) = y := H.2.2.2.2.2.2.2.2.2.2.2.2.2.2.2.2.1 y k h0 h1
theorem IvT_st {s : Sp} (H : IvT s) {y : Nat} {k : Nat} (h0 : y < 12) (h1 : k + 1 < hg s y) : tp s (rg s (6 * y + k)) ≤ fr s (rg s (6 * y + (k + 1))) := H.2.2.2.2.2.2.2.2.2.2.2.2.2.2.2.2.2.1 y k h0 h1
theorem IvT_h0 {s : Sp} (H : IvT s) {y : Nat} (h0 : y < 12) (h1 : 0 < hg s y) : hl s (rg s (6 * y)) = fr s (rg s (6 * y)) := H.2.2.2.2.2.2.2.2.2.2.2.2.2.2.2.2.2.2.1 y h0 h1
theorem IvT_hk {s : Sp} (H : IvT s) {y : Nat} {k : Nat} (h0 : y < 12) (h1 : k + 1 < hg s y) : hl s (rg s (6 * y + (k + 1))) = fr s (rg s (6 * y + (k + 1))) - tp s (rg s (6 * y + k)) := H.2.2.2.2.2.2.2.2.2.2.2.2.2.2.2.2.2.2.2.1 y k h0 h1
theorem IvT_lk {s : Sp} (H : IvT s)   : lk s < 4096 := H.2.2.2.2.2.2.2.2.2.2.2.2.2.2.2.2.2.2.2.2.1  
theorem IvT_lg {s : Sp} (H : IvT s) {y : Nat} (h0 : y < 12) (h1 : lkb s y = true) : hg s y = 0 := H.2.2.2.2.2.2.2.2.2.2.2.2.2.2.2.2.2.2.2.2.2.1 y h0 h1
theorem IvT_c40 {s : Sp} (H : IvT s)   : cL s ≤ 40 := H.2.2.2.2.2.2.2.2.2.2.2.2.2.2.2.2.2.2.2.2.2.2  
def IvH (N : Nat) (s : Sp) : Prop :=
  (∀ h : Nat, h < 25 → isH s h = 0 ∨ isH s h = 1) ∧
  (isH s 24 = 0) ∧
  (∀ h : Nat, h < 25 → isH s h = 1 → h < cH s) ∧
  (cH s ≤ 24) ∧
  (∀ h : Nat, h < 25 → isH s h = 1 → fs s h ≤ ls s h ∧ ls s h ≤ sh s h ∧ sh s h < 12) ∧
  (∀ h : Nat, h < 25 → isH s h = 1 → 1 ≤ lo s h ∧ lo s h ≤ 1000000000 * ((gr s h : Int) + 1)) ∧
  (∀ h : Nat, h < 25 → gr s h ≤ N) ∧
  (∀ h : Nat, ∀ l : Nat, h < 25 → l < 40 → 0 ≤ tk s (40 * h + l) ∧ tk s (40 * h + l) ≤ sz s l) ∧
  (∀ h : Nat, ∀ l : Nat, h < 25 → l < 40 → isL s l = 0 → tk s (40 * h + l) = 0) ∧
  (∀ h : Nat, ∀ l : Nat, h < 25 → l < 40 → 0 ≤ th s (40 * h + l) ∧ th s (40 * h + l) ≤ 900000000) ∧
  (∀ h : Nat, ∀ l : Nat, ∀ k : Nat, h < 25 → l < 40 → k < 4 → 0 ≤ hd s (160 * h + 4 * l + k) ∧ hd s (160 * h + 4 * l + k) ≤ tk s (40 * h + l)) ∧
  (∀ l : Nat, l < 40 → us s l = sm (fun h => tk s (40 * h + l)) 24) ∧
  (∀ l : Nat, l < 40 → isL s l = 1 → us s l ≤ (sz s l : Int) * (tm s l : Int)) ∧
  (∀ h : Nat, ∀ l : Nat, h < 25 → isH s h = 0 → l < 40 → tk s (40 * h + l) = 0 ∧ th s (40 * h + l) = 0 ∧ mv s (40 * h + l) = 0) ∧
  (∀ h : Nat, ∀ j : Nat, h < 25 → isH s h = 0 → j < 160 → hd s (160 * h + j) = 0) ∧
  (∀ h : Nat, ∀ i : Nat, h < 25 → isH s h = 0 → i < 10 → br s (10 * h + i) = 0) ∧
  (∀ h : Nat, ∀ r : Nat, h < 25 → isH s h = 0 → r < 7 → fl s (7 * h + r) = 0) ∧
  (∀ h : Nat, h < 25 → isH s h = 0 → lo s h = 0 ∧ gr s h = 0)
theorem IvH_is {N : Nat} {s : Sp} (H : IvH N s) {h : Nat} (h0 : h < 25) : isH s h = 0 ∨ isH s h = 1 := H.1 h h0
theorem IvH_24 {N : Nat} {s : Sp} (H : IvH N s)   : isH s 24 = 0 := H.2.1  
theorem IvH_cH {N : Nat} {s : Sp} (H : IvH N s) {h : Nat} (h0 : h < 25) (h1 : isH s h = 1) : h < cH s := H.2.2.1 h h0 h1
theorem IvH_c24 {N : Nat} {s : Sp} (H : IvH N s)   : cH s ≤ 24 := H.2.2.2.1  
theorem IvH_fs {N : Nat} {s : Sp} (H : IvH N s) {h : Nat} (h0 : h < 25) (h1 : isH s h = 1) : fs s h ≤ ls s h ∧ ls s h ≤ sh s h ∧ sh s h < 12 := H.2.2.2.2.1 h h0 h1
theorem IvH_lo {N : Nat} {s : Sp} (H : IvH N s) {h : Nat} (h0 : h < 25) (h1 : isH s h = 1) : 1 ≤ lo s h ∧ lo s h ≤ 1000000000 * ((gr s h : Int) + 1) := H.2.2.2.2.2.1 h h0 h1
theorem IvH_gr {N : Nat} {s : Sp} (H : IvH N s) {h : Nat} (h0 : h < 25) : gr s h ≤ N := H.2.2.2.2.2.2.1 h h0
theorem IvH_tk {N : Nat} {s : Sp} (H : IvH N s) {h : Nat} {l : Nat} (h0 : h < 25) (h1 : l < 40) : 0 ≤ tk s (40 * h + l) ∧ tk s (40 * h + l) ≤ sz s l := H.2.2.2.2.2.2.2.1 h l h0 h1
theorem IvH_t0 {N : Nat} {s : Sp} (H : IvH N s) {h : Nat} {l : Nat} (h0 : h < 25) (h1 : l < 40) (h2 : isL s l = 0) : tk s (40 * h + l) = 0 := H.2.2.2.2.2.2.2.2.1 h l h0 h1 h2
theorem IvH_th {N : Nat} {s : Sp} (H : IvH N s) {h : Nat} {l : Nat} (h0 : h < 25) (h1 : l < 40) : 0 ≤ th s (40 * h + l) ∧ th s (40 * h + l) ≤ 900000000 := H.2.2.2.2.2.2.2.2.2.1 h l h0 h1
theorem IvH_hd {N : Nat} {s : Sp} (H : IvH N s) {h : Nat} {l : Nat} {k : Nat} (h0 : h < 25) (h1 : l < 40) (h2 : k < 4) : 0 ≤ hd s (160 * h + 4 * l + k) ∧ hd s (160 * h + 4 * l + k) ≤ tk s (40 * h + l) := H.2.2.2.2.2.2.2.2.2.2.1 h l k h0 h1 h2
theorem IvH_us {N : Nat} {s : Sp} (H : IvH N s) {l : Nat} (h0 : l < 40) : us s l = sm (fun h => tk s (40 * h + l)) 24 := H.2.2.2.2.2.2.2.2.2.2.2.1 l h0
theorem IvH_ul {N : Nat} {s : Sp} (H : IvH N s) {l : Nat} (h0 : l < 40) (h1 : isL s l = 1) : us s l ≤ (sz s l : Int) * (tm s l : Int) := H.2.2.2.2.2.2.2.2.2.2.2.2.1 l h0 h1
theorem IvH_z2 {N : Nat} {s : Sp} (H : IvH N s) {h : Nat} {l : Nat} (h0 : h < 25) (h1 : isH s h = 0) (h2 : l < 40) : tk s (40 * h + l) = 0 ∧ th s (40 * h + l) = 0 ∧ mv s (40 * h + l) = 0 := H.2.2.2.2.2.2.2.2.2.2.2.2.2.1 h l h0 h1 h2
theorem IvH_z5 {N : Nat} {s : Sp} (H : IvH N s) {h : Nat} {j : Nat} (h0 : h < 25) (h1 : isH s h = 0) (h2 : j < 160) : hd s (160 * h + j) = 0 := H.2.2.2.2.2.2.2.2.2.2.2.2.2.2.1 h j h0 h1 h2
theorem IvH_z6 {N : Nat} {s : Sp} (H : IvH N s) {h : Nat} {i : Nat} (h0 : h < 25) (h1 : isH s h = 0) (h2 : i < 10) : br s (10 * h + i) = 0 := H.2.2.2.2.2.2.2.2.2.2.2.2.2.2.2.1 h i h0 h1 h2
theorem IvH_z7 {N : Nat} {s : Sp} (H : IvH N s) {h : Nat} {r : Nat} (h0 : h < 25) (h1 : isH s h = 0) (h2 : r < 7) : fl s (7 * h + r) = 0 := H.2.2.2.2.2.2.2.2.2.2.2.2.2.2.2.2.1 h r h0 h1 h2
theorem IvH_z1 {N : Nat} {s : Sp} (H : IvH N s) {h : Nat} (h0 : h < 25) (h1 : isH s h = 0) : lo s h = 0 ∧ gr s h = 0 := H.2.2.2.2.2.2.2.2.2.2.2.2.2.2.2.2.2 h h0 h1
def IvR (s : Sp) : Prop :=
  (∀ i : Nat, i < 10 → sd s i ≤ 2) ∧
  (sd s 0 = 0) ∧
  (∀ i : Nat, i < 10 → cs s i ≤ 1000000000) ∧
  (∀ i : Nat, i < 10 → sd s i = 0 → cs s i = 0) ∧
  (ru s 0 ≤ 3) ∧
  (ru s 1 ≤ 3) ∧
  (ru s 2 ≤ 3)
theorem IvR_sd {s : Sp} (H : IvR s) {i : Nat} (h0 : i < 10) : sd s i ≤ 2 := H.1 i h0
theorem IvR_s0 {s : Sp} (H : IvR s)   : sd s 0 = 0 := H.2.1  
theorem IvR_cs {s : Sp} (H : IvR s) {i : Nat} (h0 : i < 10) : cs s i ≤ 1000000000 := H.2.2.1 i h0
theorem IvR_c0 {s : Sp} (H : IvR s) {i : Nat} (h0 : i < 10) (h1 : sd s i = 0) : cs s i = 0 := H.2.2.2.1 i h0 h1
theorem IvR_r0 {s : Sp} (H : IvR s)   : ru s 0 ≤ 3 := H.2.2.2.2.1  
theorem IvR_r1 {s : Sp} (H : IvR s)   : ru s 1 ≤ 3 := H.2.2.2.2.2.1  
theorem IvR_r2 {s : Sp} (H : IvR s)   : ru s 2 ≤ 3 := H.2.2.2.2.2.2  
def Iv (N : Nat) (s : Sp) : Prop := IvT s ∧ IvH N s ∧ IvR s
theorem RM_frm {μ μ' : Mem} {s : Sp} (h : ∀ q, 90 ≤ q → q ≤ 115 → μ'.1 q = μ.1 q ∧ μ'.2.1 q = μ.2.1 q) (h9 : ∀ j, 29 ≤ j → j ≤ 32 → μ'.1 85 j = μ.1 85 j) (H : RM μ s) : RM μ' s := by
  have e90 := h 90 (by decide) (by decide)
  have e91 := h 91 (by decide) (by decide)
  have e92 := h 92 (by decide) (by decide)
  have e93 := h 93 (by decide) (by decide)
  have e94 := h 94 (by decide) (by decide)
  have e95 := h 95 (by decide) (by decide)
  have e96 := h 96 (by decide) (by decide)
  have e97 := h 97 (by decide) (by decide)
  have e98 := h 98 (by decide) (by decide)
  have e99 := h 99 (by decide) (by decide)
  have e100 := h 100 (by decide) (by decide)
  have e101 := h 101 (by decide) (by decide)
  have e102 := h 102 (by decide) (by decide)
  have e103 := h 103 (by decide) (by decide)
  have e104 := h 104 (by decide) (by decide)
  have e105 := h 105 (by decide) (by decide)
  have e106 := h 106 (by decide) (by decide)
  have e107 := h 107 (by decide) (by decide)
  have e108 := h 108 (by decide) (by decide)
  have e109 := h 109 (by decide) (by decide)
  have e110 := h 110 (by decide) (by decide)
  have e111 := h 111 (by decide) (by decide)
  have e112 := h 112 (by decide) (by decide)
  have e113 := h 113 (by decide) (by decide)
  have e114 := h 114 (by decide) (by decide)
  have e115 := h 115 (by decide) (by decide)
  have f29 := h9 29 (by decide) (by decide)
  have f30 := h9 30 (by decide) (by decide)
  have f31 := h9 31 (by decide) (by decide)
  have f32 := h9 32 (by decide) (by decide)
  simp only [RM, RMa, RMb, RMz, e90.1, e90.2, e91.1, e91.2, e92.1, e92.2, e93.1, e93.2, e94.1, e94.2, e95.1, e95.2, e96.1, e96.2, e97.1, e97.2, e98.1, e98.2, e99.1, e99.2, e100.1, e100.2, e101.1, e101.2, e102.1, e102.2, e103.1, e103.2, e104.1, e104.2, e105.1, e105.2, e106.1, e106.2, e107.1, e107.2, e108.1, e108.2, e109.1, e109.2, e110.1, e110.2, e111.1, e111.2, e112.1, e112.2, e113.1, e113.2, e114.1, e114.2, e115.1, e115.2, f29, f30, f31, f32] at H ⊢
  exact H
theorem RC_frm {b : Nat} {μ μ' : Mem} {s : Sp} (h : ∀ q, b ≤ q → q ≤ b + 28 → μ'.1 q = μ.1 q ∧ μ'.2.1 q = μ.2.1 q) (H : RC b μ s) : RC b μ' s := by
  have e0 := h b (by omega) (by omega)
  have e1 := h (b + 1) (by omega) (by omega)
  have e2 := h (b + 2) (by omega) (by omega)
  have e3 := h (b + 3) (by omega) (by omega)
  have e4 := h (b + 4) (by omega) (by omega)
  have e5 := h (b + 5) (by omega) (by omega)
  have e6 := h (b + 6) (by omega) (by omega)
  have e7 := h (b + 7) (by omega) (by omega)
  have e8 := h (b + 8) (by omega) (by omega)
  have e9 := h (b + 9) (by omega) (by omega)
  have e10 := h (b + 10) (by omega) (by omega)
  have e11 := h (b + 11) (by omega) (by omega)
  have e12 := h (b + 12) (by omega) (by omega)
  have e13 := h (b + 13) (by omega) (by omega)
  have e14 := h (b + 14) (by omega) (by omega)
  have e15 := h (b + 15) (by omega) (by omega)
  have e16 := h (b + 16) (by omega) (by omega)
  have e17 := h (b + 17) (by omega) (by omega)
  have e18 := h (b + 18) (by omega) (by omega)
  have e19 := h (b + 19) (by omega) (by omega)
  have e20 := h (b + 20) (by omega) (by omega)
  have e21 := h (b + 21) (by omega) (by omega)
  have e22 := h (b + 22) (by omega) (by omega)
  have e23 := h (b + 23) (by omega) (by omega)
  have e24 := h (b + 24) (by omega) (by omega)
  have e25 := h (b + 25) (by omega) (by omega)
  have e26 := h (b + 26) (by omega) (by omega)
  have e27 := h (b + 27) (by omega) (by omega)
  have e28 := h (b + 28) (by omega) (by omega)
  simp only [RC, RCa, RCb, RCz, e0.1, e0.2, e1.1, e1.2, e2.1, e2.2, e3.1, e3.2, e4.1, e4.2, e5.1, e5.2, e6.1, e6.2, e7.1, e7.2, e8.1, e8.2, e9.1, e9.2, e10.1, e10.2, e11.1, e11.2, e12.1, e12.2, e13.1, e13.2, e14.1, e14.2, e15.1, e15.2, e16.1, e16.2, e17.1, e17.2, e18.1, e18.2, e19.1, e19.2, e20.1, e20.2, e21.1, e21.2, e22.1, e22.2, e23.1, e23.2, e24.1, e24.2, e25.1, e25.2, e26.1, e26.2, e27.1, e27.2, e28.1, e28.2] at H ⊢
  exact H
theorem RMa_frm {μ μ' : Mem} {n : Nat → Nat → Nat} (h : ∀ q, (q = 90 ∨ 92 ≤ q ∧ q ≤ 98 ∨ 113 ≤ q ∧ q ≤ 115) → μ'.1 q = μ.1 q) (h9 : μ'.1 85 29 = μ.1 85 29) (H : RMa μ n) : RMa μ' n := by
  have e90 := h 90 (by decide)
  have e92 := h 92 (by decide)
  have e93 := h 93 (by decide)
  have e94 := h 94 (by decide)
  have e95 := h 95 (by decide)
  have e96 := h 96 (by decide)
  have e97 := h 97 (by decide)
  have e98 := h 98 (by decide)
  have e113 := h 113 (by decide)
  have e114 := h 114 (by decide)
  have e115 := h 115 (by decide)
  simp only [RMa, e90, e92, e93, e94, e95, e96, e97, e98, e113, e114, e115, h9] at H ⊢
  exact H
theorem RMb_frm {μ μ' : Mem} {n : Nat → Nat → Nat} (h : ∀ q, (q = 91 ∨ 100 ≤ q ∧ q ≤ 103 ∨ q = 111 ∨ q = 112) → μ'.1 q = μ.1 q) (h9 : ∀ j, 30 ≤ j → j ≤ 32 → μ'.1 85 j = μ.1 85 j) (H : RMb μ n) : RMb μ' n := by
  have e91 := h 91 (by decide)
  have e100 := h 100 (by decide)
  have e101 := h 101 (by decide)
  have e102 := h 102 (by decide)
  have e103 := h 103 (by decide)
  have e111 := h 111 (by decide)
  have e112 := h 112 (by decide)
  have f30 := h9 30 (by decide) (by decide)
  have f31 := h9 31 (by decide) (by decide)
  have f32 := h9 32 (by decide) (by decide)
  simp only [RMb, e91, e100, e101, e102, e103, e111, e112, f30, f31, f32] at H ⊢
  exact H
theorem RCa_frm {b : Nat} {μ μ' : Mem} {n : Nat → Nat → Nat} (h : ∀ q, b + 1 ≤ q → q ≤ b + 13 → μ'.1 q = μ.1 q) (H : RCa b μ n) : RCa b μ' n := by
  have e1 := h (b + 1) (by omega) (by omega)
  have e2 := h (b + 2) (by omega) (by omega)
  have e3 := h (b + 3) (by omega) (by omega)
  have e4 := h (b + 4) (by omega) (by omega)
  have e5 := h (b + 5) (by omega) (by omega)
  have e6 := h (b + 6) (by omega) (by omega)
  have e7 := h (b + 7) (by omega) (by omega)
  have e8 := h (b + 8) (by omega) (by omega)
  have e9 := h (b + 9) (by omega) (by omega)
  have e10 := h (b + 10) (by omega) (by omega)
  have e11 := h (b + 11) (by omega) (by omega)
  have e12 := h (b + 12) (by omega) (by omega)
  have e13 := h (b + 13) (by omega) (by omega)
  simp only [RCa, e1, e2, e3, e4, e5, e6, e7, e8, e9, e10, e11, e12, e13] at H ⊢
  exact H
theorem RCb_frm {b : Nat} {μ μ' : Mem} {n : Nat → Nat → Nat} (h : ∀ q, (q = b ∨ b + 14 ≤ q ∧ q ≤ b + 28) → μ'.1 q = μ.1 q) (H : RCb b μ n) : RCb b μ' n := by
  have e0 := h b (by omega)
  have e14 := h (b + 14) (by omega)
  have e15 := h (b + 15) (by omega)
  have e16 := h (b + 16) (by omega)
  have e17 := h (b + 17) (by omega)
  have e18 := h (b + 18) (by omega)
  have e19 := h (b + 19) (by omega)
  have e20 := h (b + 20) (by omega)
  have e21 := h (b + 21) (by omega)
  have e22 := h (b + 22) (by omega)
  have e23 := h (b + 23) (by omega)
  have e24 := h (b + 24) (by omega)
  have e25 := h (b + 25) (by omega)
  have e26 := h (b + 26) (by omega)
  have e27 := h (b + 27) (by omega)
  have e28 := h (b + 28) (by omega)
  simp only [RCb, e0, e14, e15, e16, e17, e18, e19, e20, e21, e22, e23, e24, e25, e26, e27, e28] at H ⊢
  exact H
theorem RCz_frm {b : Nat} {μ μ' : Mem} {n : Nat → Nat → Nat} {z : Nat → Nat → Int} (h : ∀ q, b + 6 ≤ q → q ≤ b + 26 → μ'.2.1 q = μ.2.1 q) (H : RCz b μ n z) : RCz b μ' n z := by
  have e6 := h (b + 6) (by omega) (by omega)
  have e11 := h (b + 11) (by omega) (by omega)
  have e19 := h (b + 19) (by omega) (by omega)
  have e21 := h (b + 21) (by omega) (by omega)
  have e22 := h (b + 22) (by omega) (by omega)
  have e23 := h (b + 23) (by omega) (by omega)
  have e24 := h (b + 24) (by omega) (by omega)
  have e25 := h (b + 25) (by omega) (by omega)
  have e26 := h (b + 26) (by omega) (by omega)
  simp only [RCz, e6, e11, e19, e21, e22, e23, e24, e25, e26] at H ⊢
  exact H
