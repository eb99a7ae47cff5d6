/-! what a memory holds, in the words of Sp (printed by gen50.py) -/
theorem RC.a {b : Nat} {μ : Mem} {s : Sp} (H : RC b μ s) : RCa b μ s.1 := H.1
theorem RC.b {b : Nat} {μ : Mem} {s : Sp} (H : RC b μ s) : RCb b μ s.1 := H.2.1
theorem RC.z {b : Nat} {μ : Mem} {s : Sp} (H : RC b μ s) : RCz b μ s.1 s.2 := H.2.2
theorem RM.a {μ : Mem} {s : Sp} (H : RM μ s) : RMa μ s.1 := H.1
theorem RM.b {μ : Mem} {s : Sp} (H : RM μ s) : RMb μ s.1 := H.2.1
theorem RM.z {μ : Mem} {s : Sp} (H : RM μ s) : RMz μ s.2 := H.2.2
theorem M_is {μ : Mem} {s : Sp} (H : RM μ s) {l : Nat} (h0 : l < 40) : μ.1 90 l = nI (isL s l) := RMa_is H.a h0
theorem M_ng {μ : Mem} {s : Sp} (H : RM μ s) {l : Nat} (h0 : l < 40) : μ.1 96 l = nI (ng s l) := RMa_ng H.a h0
theorem M_yr {μ : Mem} {s : Sp} (H : RM μ s) {l : Nat} (h0 : l < 40) (h1 : isL s l = 1) : μ.1 92 l = nI (yr s l) := RMa_yr H.a h0 h1
theorem M_fr {μ : Mem} {s : Sp} (H : RM μ s) {l : Nat} (h0 : l < 40) (h1 : isL s l = 1) : μ.1 93 l = nI (fr s l) := RMa_fr H.a h0 h1
theorem M_sz {μ : Mem} {s : Sp} (H : RM μ s) {l : Nat} (h0 : l < 40) (h1 : isL s l = 1) : μ.1 94 l = nI (sz s l) := RMa_sz H.a h0 h1
theorem M_tm {μ : Mem} {s : Sp} (H : RM μ s) {l : Nat} (h0 : l < 40) (h1 : isL s l = 1) : μ.1 95 l = nI (tm s l) := RMa_tm H.a h0 h1
theorem M_hl {μ : Mem} {s : Sp} (H : RM μ s) {l : Nat} (h0 : l < 40) (h1 : isL s l = 1) : μ.1 115 l = nI (hl s l) := RMa_hl H.a h0 h1
theorem M_sg {μ : Mem} {s : Sp} (H : RM μ s) {l : Nat} {k : Nat} (h0 : l < 40) (h1 : k < ng s l) : μ.1 97 (4 * l + k) = nI (sg s (4 * l + k)) := RMa_sg H.a h0 h1
theorem M_tn {μ : Mem} {s : Sp} (H : RM μ s) {l : Nat} {k : Nat} (h0 : l < 40) (h1 : k < ng s l) : μ.1 98 (4 * l + k) = nI (tn s (4 * l + k)) := RMa_tn H.a h0 h1
theorem M_hg {μ : Mem} {s : Sp} (H : RM μ s) {y : Nat} (h0 : y < 12) : μ.1 114 y = nI (hg s y) := RMa_hg H.a h0
theorem M_rg {μ : Mem} {s : Sp} (H : RM μ s) {y : Nat} {k : Nat} (h0 : y < 12) (h1 : k < hg s y) : μ.1 113 (6 * y + k) = nI (rg s (6 * y + k)) := RMa_rg H.a h0 h1
theorem M_lk {μ : Mem} {s : Sp} (H : RM μ s)  : μ.1 85 29 = nI (lk s) := RMa_lk H.a
theorem M_ish {μ : Mem} {s : Sp} (H : RM μ s) {h : Nat} (h0 : h < 25) : μ.1 91 h = nI (isH s h) := RMb_is H.b h0
theorem M_fs {μ : Mem} {s : Sp} (H : RM μ s) {h : Nat} (h0 : h < 25) (h1 : isH s h = 1) : μ.1 100 h = nI (fs s h) := RMb_fs H.b h0 h1
theorem M_ls {μ : Mem} {s : Sp} (H : RM μ s) {h : Nat} (h0 : h < 25) (h1 : isH s h = 1) : μ.1 101 h = nI (ls s h) := RMb_ls H.b h0 h1
theorem M_sh {μ : Mem} {s : Sp} (H : RM μ s) {h : Nat} (h0 : h < 25) (h1 : isH s h = 1) : μ.1 102 h = nI (sh s h) := RMb_sh H.b h0 h1
theorem M_gr {μ : Mem} {s : Sp} (H : RM μ s) {h : Nat} (h0 : h < 25) : μ.1 103 h = nI (gr s h) := RMb_gr H.b h0
theorem M_sd {μ : Mem} {s : Sp} (H : RM μ s) {i : Nat} (h0 : i < 10) : μ.1 111 i = nI (sd s i) := RMb_sd H.b h0
theorem M_cs {μ : Mem} {s : Sp} (H : RM μ s) {i : Nat} (h0 : i < 10) : μ.1 112 i = nI (cs s i) := RMb_cs H.b h0
theorem M_r0 {μ : Mem} {s : Sp} (H : RM μ s)  : μ.1 85 30 = nI (ru s 0) := RMb_r0 H.b
theorem M_r1 {μ : Mem} {s : Sp} (H : RM μ s)  : μ.1 85 31 = nI (ru s 1) := RMb_r1 H.b
theorem M_r2 {μ : Mem} {s : Sp} (H : RM μ s)  : μ.1 85 32 = nI (ru s 2) := RMb_r2 H.b
theorem M_us {μ : Mem} {s : Sp} (H : RM μ s) {l : Nat} (h0 : l < 40) : μ.2.1 99 l = zL (us s l) := RMz_us H.z h0
theorem M_lo {μ : Mem} {s : Sp} (H : RM μ s) {h : Nat} (h0 : h < 25) : μ.2.1 104 h = zL (lo s h) := RMz_lo H.z h0
theorem M_tk {μ : Mem} {s : Sp} (H : RM μ s) {j : Nat} (h0 : j < 1000) : μ.2.1 105 j = zL (tk s j) := RMz_tk H.z h0
theorem M_th {μ : Mem} {s : Sp} (H : RM μ s) {j : Nat} (h0 : j < 1000) : μ.2.1 106 j = zL (th s j) := RMz_th H.z h0
theorem M_mv {μ : Mem} {s : Sp} (H : RM μ s) {j : Nat} (h0 : j < 1000) : μ.2.1 107 j = zL (mv s j) := RMz_mv H.z h0
theorem M_hd {μ : Mem} {s : Sp} (H : RM μ s) {j : Nat} (h0 : j < 4000) : μ.1 108 j = zI (hd s j) := RMz_hd H.z h0
theorem M_br {μ : Mem} {s : Sp} (H : RM μ s) {j : Nat} (h0 : j < 250) : μ.2.1 109 j = zL (br s j) := RMz_br H.z h0
theorem M_fl {μ : Mem} {s : Sp} (H : RM μ s) {j : Nat} (h0 : j < 175) : μ.2.1 110 j = zL (fl s j) := RMz_fl H.z h0
theorem C_y0 {b : Nat} {μ : Mem} {s : Sp} (H : RC b μ s) {l : Nat} (h0 : l < 40) (h1 : isL s l = 0) : μ.1 (b + 2) l = -1 := RCa_y0 H.a h0 h1
theorem C_yr {b : Nat} {μ : Mem} {s : Sp} (H : RC b μ s) {l : Nat} (h0 : l < 40) (h1 : isL s l = 1) : μ.1 (b + 2) l = nI (yr s l) := RCa_yr H.a h0 h1
theorem C_fr {b : Nat} {μ : Mem} {s : Sp} (H : RC b μ s) {l : Nat} (h0 : l < 40) (h1 : isL s l = 1) : μ.1 (b + 3) l = nI (fr s l) := RCa_fr H.a h0 h1
theorem C_sz {b : Nat} {μ : Mem} {s : Sp} (H : RC b μ s) {l : Nat} (h0 : l < 40) (h1 : isL s l = 1) : μ.1 (b + 4) l = nI (sz s l) := RCa_sz H.a h0 h1
theorem C_tm {b : Nat} {μ : Mem} {s : Sp} (H : RC b μ s) {l : Nat} (h0 : l < 40) (h1 : isL s l = 1) : μ.1 (b + 5) l = nI (tm s l) := RCa_tm H.a h0 h1
theorem C_ng {b : Nat} {μ : Mem} {s : Sp} (H : RC b μ s) {l : Nat} (h0 : l < 40) (h1 : isL s l = 1) : μ.1 (b + 7) l = nI (ng s l) := RCa_ng H.a h0 h1
theorem C_tt {b : Nat} {μ : Mem} {s : Sp} (H : RC b μ s) {l : Nat} (h0 : l < 40) (h1 : isL s l = 1) : μ.1 (b + 8) l = nI (tnI s l (ng s l)) := (RCa_tt H.a h0 h1).trans (congrArg nI (tnI_c (s := s) (t := (s.1, fun _ _ => 0)) rfl _ _))
theorem C_sg {b : Nat} {μ : Mem} {s : Sp} (H : RC b μ s) {l : Nat} {k : Nat} (h0 : l < 40) (h1 : isL s l = 1) (h2 : k < ng s l) : μ.1 (b + 9) (4 * l + k) = nI (sg s (4 * l + k)) := RCa_sg H.a h0 h1 h2
theorem C_tn {b : Nat} {μ : Mem} {s : Sp} (H : RC b μ s) {l : Nat} {k : Nat} (h0 : l < 40) (h1 : isL s l = 1) (h2 : k < ng s l) : μ.1 (b + 10) (4 * l + k) = nI (tn s (4 * l + k)) := RCa_tn H.a h0 h1 h2
theorem C_hg {b : Nat} {μ : Mem} {s : Sp} (H : RC b μ s) {y : Nat} (h0 : y < 12) : μ.1 (b + 13) y = nI (hg s y) := RCa_hg H.a h0
theorem C_rg {b : Nat} {μ : Mem} {s : Sp} (H : RC b μ s) {y : Nat} {k : Nat} (h0 : y < 12) (h1 : k < hg s y) : μ.1 (b + 12) (6 * y + k) = nI (rg s (6 * y + k)) := RCa_rg H.a h0 h1
theorem C_lk {b : Nat} {μ : Mem} {s : Sp} (H : RC b μ s)  : μ.1 (b + 1) 12 = nI (lk s) := RCa_lk H.a
theorem C_cL {b : Nat} {μ : Mem} {s : Sp} (H : RC b μ s)  : μ.1 (b + 1) 13 = nI (cL s) := RCa_cL H.a
theorem C_ish {b : Nat} {μ : Mem} {s : Sp} (H : RC b μ s) {h : Nat} (h0 : h < 24) : μ.1 (b + 15) h = nI (isH s h) := RCb_is H.b h0
theorem C_fs {b : Nat} {μ : Mem} {s : Sp} (H : RC b μ s) {h : Nat} (h0 : h < 24) (h1 : isH s h = 1) : μ.1 (b + 16) h = nI (fs s h) := RCb_fs H.b h0 h1
theorem C_ls {b : Nat} {μ : Mem} {s : Sp} (H : RC b μ s) {h : Nat} (h0 : h < 24) (h1 : isH s h = 1) : μ.1 (b + 17) h = nI (ls s h) := RCb_ls H.b h0 h1
theorem C_sh {b : Nat} {μ : Mem} {s : Sp} (H : RC b μ s) {h : Nat} (h0 : h < 24) (h1 : isH s h = 1) : μ.1 (b + 18) h = nI (sh s h) := RCb_sh H.b h0 h1
theorem C_gr {b : Nat} {μ : Mem} {s : Sp} (H : RC b μ s) {h : Nat} (h0 : h < 24) (h1 : isH s h = 1) : μ.1 (b + 20) h = nI (gr s h) := RCb_gr H.b h0 h1
theorem C_cH {b : Nat} {μ : Mem} {s : Sp} (H : RC b μ s)  : μ.1 (b + 14) 12 = nI (cH s) := RCb_cH H.b
theorem C_sd {b : Nat} {μ : Mem} {s : Sp} (H : RC b μ s) {i : Nat} (h0 : i < 10) : μ.1 (b + 27) i = nI (sd s i) := RCb_sd H.b h0
theorem C_cs {b : Nat} {μ : Mem} {s : Sp} (H : RC b μ s) {i : Nat} (h0 : i < 10) : μ.1 (b + 28) i = nI (cs s i) := RCb_cs H.b h0
theorem C_r0 {b : Nat} {μ : Mem} {s : Sp} (H : RC b μ s)  : μ.1 b 4 = nI (ru s 0) := RCb_r0 H.b
theorem C_r1 {b : Nat} {μ : Mem} {s : Sp} (H : RC b μ s)  : μ.1 b 5 = nI (ru s 1) := RCb_r1 H.b
theorem C_r2 {b : Nat} {μ : Mem} {s : Sp} (H : RC b μ s)  : μ.1 b 6 = nI (ru s 2) := RCb_r2 H.b
theorem C_us {b : Nat} {μ : Mem} {s : Sp} (H : RC b μ s) {l : Nat} (h0 : l < 40) (h1 : isL s l = 1) : μ.2.1 (b + 6) l = zL (us s l) := RCz_us H.z h0 h1
theorem C_ha {b : Nat} {μ : Mem} {s : Sp} (H : RC b μ s) {l : Nat} {k : Nat} (h0 : l < 40) (h1 : isL s l = 1) (h2 : k < ng s l) : μ.2.1 (b + 11) (4 * l + k) = zL (sm (fun h => hd s (160 * h + 4 * l + k)) 24) := RCz_ha H.z h0 h1 h2
theorem C_lo {b : Nat} {μ : Mem} {s : Sp} (H : RC b μ s) {h : Nat} (h0 : h < 24) (h1 : isH s h = 1) : μ.2.1 (b + 19) h = zL (lo s h) := RCz_lo H.z h0 h1
theorem C_tk {b : Nat} {μ : Mem} {s : Sp} (H : RC b μ s) {h : Nat} {l : Nat} (h0 : h < 25) (h1 : isH s h = 1 ∨ h = 24) (h2 : l < 40) : μ.2.1 (b + 21) (40 * h + l) = zL (tk s (40 * h + l)) := RCz_tk H.z h0 h1 h2
theorem C_th {b : Nat} {μ : Mem} {s : Sp} (H : RC b μ s) {h : Nat} {l : Nat} (h0 : h < 25) (h1 : isH s h = 1 ∨ h = 24) (h2 : l < 40) : μ.2.1 (b + 22) (40 * h + l) = zL (th s (40 * h + l)) := RCz_th H.z h0 h1 h2
theorem C_mv {b : Nat} {μ : Mem} {s : Sp} (H : RC b μ s) {h : Nat} {l : Nat} (h0 : h < 24) (h1 : isH s h = 1) (h2 : l < 40) : μ.2.1 (b + 23) (40 * h + l) = zL (mv s (40 * h + l)) := RCz_mv H.z h0 h1 h2
theorem C_hd {b : Nat} {μ : Mem} {s : Sp} (H : RC b μ s) {h : Nat} {j : Nat} (h0 : h < 24) (h1 : isH s h = 1) (h2 : j < 160) : μ.2.1 (b + 24) (160 * h + j) = zL (hd s (160 * h + j)) := RCz_hd H.z h0 h1 h2
theorem C_br {b : Nat} {μ : Mem} {s : Sp} (H : RC b μ s) {h : Nat} {i : Nat} (h0 : h < 24) (h1 : isH s h = 1) (h2 : i < 10) (h3 : 0 < i) : μ.2.1 (b + 25) (10 * h + i) = zL (br s (10 * h + i)) := RCz_br H.z h0 h1 h2 h3
theorem C_b0 {b : Nat} {μ : Mem} {s : Sp} (H : RC b μ s) {h : Nat} (h0 : h < 24) (h1 : isH s h = 1) : μ.2.1 (b + 25) (10 * h) = zL (sm (fun r => fl s (7 * h + r)) 7) := RCz_b0 H.z h0 h1
theorem C_fl {b : Nat} {μ : Mem} {s : Sp} (H : RC b μ s) {h : Nat} {r : Nat} (h0 : h < 24) (h1 : isH s h = 1) (h2 : r < 7) : μ.2.1 (b + 26) (7 * h + r) = zL (fl s (7 * h + r)) := RCz_fl H.z h0 h1 h2
