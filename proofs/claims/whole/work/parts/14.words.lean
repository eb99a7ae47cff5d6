theorem bigW_k0 {w : Cond} (h : w ∈ k2_sels lw_privs) (hg : goodWord w = true) : w ∈ bigW := List.mem_filter.mpr ⟨List.mem_append_left _ h, hg⟩
theorem bigW_k1 {w : Cond} (h : w ∈ tables_1_1) (hg : goodWord w = true) : w ∈ bigW := List.mem_filter.mpr ⟨List.mem_append_right _ (List.mem_append_left _ h), hg⟩
theorem bigW_k2 {w : Cond} (h : w ∈ tables_1_2) (hg : goodWord w = true) : w ∈ bigW := List.mem_filter.mpr ⟨List.mem_append_right _ (List.mem_append_right _ (List.mem_append_left _ h)), hg⟩
theorem bigW_k3 {w : Cond} (h : w ∈ tables_1_3) (hg : goodWord w = true) : w ∈ bigW := List.mem_filter.mpr ⟨List.mem_append_right _ (List.mem_append_right _ (List.mem_append_right _ (List.mem_append_left _ h))), hg⟩
theorem bigW_k4 {w : Cond} (h : w ∈ tables_1_4) (hg : goodWord w = true) : w ∈ bigW := List.mem_filter.mpr ⟨List.mem_append_right _ (List.mem_append_right _ (List.mem_append_right _ (List.mem_append_right _ (List.mem_append_left _ h)))), hg⟩
theorem bigW_k5 {w : Cond} (h : w ∈ tables_1_5) (hg : goodWord w = true) : w ∈ bigW := List.mem_filter.mpr ⟨List.mem_append_right _ (List.mem_append_right _ (List.mem_append_right _ (List.mem_append_right _ (List.mem_append_right _ (List.mem_append_left _ h))))), hg⟩
theorem bigW_k6 {w : Cond} (h : w ∈ tables_1_6) (hg : goodWord w = true) : w ∈ bigW := List.mem_filter.mpr ⟨List.mem_append_right _ (List.mem_append_right _ (List.mem_append_right _ (List.mem_append_right _ (List.mem_append_right _ (List.mem_append_right _ (List.mem_append_left _ h)))))), hg⟩
theorem bigW_k7 {w : Cond} (h : w ∈ tables_1_7) (hg : goodWord w = true) : w ∈ bigW := List.mem_filter.mpr ⟨List.mem_append_right _ (List.mem_append_right _ (List.mem_append_right _ (List.mem_append_right _ (List.mem_append_right _ (List.mem_append_right _ (List.mem_append_right _ (List.mem_append_left _ h))))))), hg⟩
theorem bigW_k8 {w : Cond} (h : w ∈ tables_1_8) (hg : goodWord w = true) : w ∈ bigW := List.mem_filter.mpr ⟨List.mem_append_right _ (List.mem_append_right _ (List.mem_append_right _ (List.mem_append_right _ (List.mem_append_right _ (List.mem_append_right _ (List.mem_append_right _ (List.mem_append_right _ h))))))), hg⟩
theorem kw_X0 : u_ws RX0 TX0 7 = [324, 326, 328, 330, 332, 334, 336].filterMap (fun i => lw_tbl[i]?) := by decide +kernel
theorem k_X0 : kOK 0 RX0 TX0 7 tyX0 := ⟨rfl, fun w hw => List.mem_filter.mpr ⟨by rw [kw_X0] at hw; obtain ⟨i, -, hi⟩ := List.mem_filterMap.mp hw; exact List.mem_of_getElem? hi, (by decide +kernel : ∀ w ∈ u_ws RX0 TX0 7, goodWord w = true) w hw⟩, tyX0_ok, nmX0⟩
theorem kw_X1 : u_ws RX1 TX1 13 = [278, 280, 282, 284, 286, 288, 290, 292, 294, 296, 298, 300, 302].filterMap (fun i => lw_tbl[i]?) := by decide +kernel
theorem k_X1 : kOK 1 RX1 TX1 13 tyX1 := ⟨rfl, fun w hw => List.mem_filter.mpr ⟨by rw [kw_X1] at hw; obtain ⟨i, -, hi⟩ := List.mem_filterMap.mp hw; exact List.mem_of_getElem? hi, (by decide +kernel : ∀ w ∈ u_ws RX1 TX1 13, goodWord w = true) w hw⟩, tyX1_ok, nmX1⟩
theorem kw_X2 : u_ws RX2 TX2 2 = [139, 141].filterMap (fun i => lw_tbl[i]?) := by decide +kernel
theorem k_X2 : kOK 2 RX2 TX2 2 tyX2 := ⟨rfl, fun w hw => List.mem_filter.mpr ⟨by rw [kw_X2] at hw; obtain ⟨i, -, hi⟩ := List.mem_filterMap.mp hw; exact List.mem_of_getElem? hi, (by decide +kernel : ∀ w ∈ u_ws RX2 TX2 2, goodWord w = true) w hw⟩, tyX2_ok, nmX2⟩
theorem kw_X3 : u_ws RX3 TX3 6 = [369, 371, 373, 375, 377, 379].filterMap (fun i => lw_tbl[i]?) := by decide +kernel
theorem k_X3 : kOK 3 RX3 TX3 6 tyX3 := ⟨rfl, fun w hw => List.mem_filter.mpr ⟨by rw [kw_X3] at hw; obtain ⟨i, -, hi⟩ := List.mem_filterMap.mp hw; exact List.mem_of_getElem? hi, (by decide +kernel : ∀ w ∈ u_ws RX3 TX3 6, goodWord w = true) w hw⟩, tyX3_ok, nmX3⟩
theorem kw_X4 : u_ws RX4 TX4 11 = [401, 403, 405, 407, 409, 411, 413, 415, 417, 419, 421].filterMap (fun i => lw_tbl[i]?) := by decide +kernel
theorem k_X4 : kOK 4 RX4 TX4 11 tyX4 := ⟨rfl, fun w hw => List.mem_filter.mpr ⟨by rw [kw_X4] at hw; obtain ⟨i, -, hi⟩ := List.mem_filterMap.mp hw; exact List.mem_of_getElem? hi, (by decide +kernel : ∀ w ∈ u_ws RX4 TX4 11, goodWord w = true) w hw⟩, tyX4_ok, nmX4⟩
theorem kw_X5 : u_ws RX5 TX5 14 = [208, 210, 212, 214, 216, 218, 220, 222, 224, 226, 228, 230, 232, 234].filterMap (fun i => lw_tbl[i]?) := by decide +kernel
theorem k_X5 : kOK 5 RX5 TX5 14 tyX5 := ⟨rfl, fun w hw => List.mem_filter.mpr ⟨by rw [kw_X5] at hw; obtain ⟨i, -, hi⟩ := List.mem_filterMap.mp hw; exact List.mem_of_getElem? hi, (by decide +kernel : ∀ w ∈ u_ws RX5 TX5 14, goodWord w = true) w hw⟩, tyX5_ok, nmX5⟩
theorem kw_X6 : u_ws RX6 TX6 5 = [429, 431, 433, 435, 437].filterMap (fun i => lw_tbl[i]?) := by decide +kernel
theorem k_X6 : kOK 6 RX6 TX6 5 tyX6 := ⟨rfl, fun w hw => List.mem_filter.mpr ⟨by rw [kw_X6] at hw; obtain ⟨i, -, hi⟩ := List.mem_filterMap.mp hw; exact List.mem_of_getElem? hi, (by decide +kernel : ∀ w ∈ u_ws RX6 TX6 5, goodWord w = true) w hw⟩, tyX6_ok, nmX6⟩
theorem kw_X7 : u_ws RX7 TX7 50 = [1351, 1353, 1355, 1357, 1359, 1361, 1363, 1365, 1367, 1369, 1371, 1373, 1375, 1377, 1379, 1381, 1383, 1385, 1387, 1389, 1391, 1393, 1395, 1397, 1399, 1401, 1403, 1405, 1407, 1409, 1411, 1413, 1415, 1417, 1419, 1421, 1423, 1425, 1427, 1429, 1431, 1433, 1435, 1437, 1439, 1441, 1443, 1445, 1447, 1449].filterMap (fun i => lw_tbl[i]?) := by decide +kernel
theorem k_X7 : kOK 7 RX7 TX7 50 tyX7 := ⟨rfl, fun w hw => List.mem_filter.mpr ⟨by rw [kw_X7] at hw; obtain ⟨i, -, hi⟩ := List.mem_filterMap.mp hw; exact List.mem_of_getElem? hi, (by decide +kernel : ∀ w ∈ u_ws RX7 TX7 50, goodWord w = true) w hw⟩, tyX7_ok, nmX7⟩
theorem in_TallTowers : Cond.initialized RX6 ∈ bigW := bigW_k1 (List.mem_of_getElem? (i := 1) (by decide +kernel)) (by decide +kernel)
theorem in_TallTowersModel : Cond.initialized RX7 ∈ bigW := bigW_k1 (List.mem_of_getElem? (i := 9) (by decide +kernel)) (by decide +kernel)
theorem in_TallTowers_Book : Cond.initialized RX0 ∈ bigW := bigW_k1 (List.mem_of_getElem? (i := 3) (by decide +kernel)) (by decide +kernel)
theorem in_TallTowers_Harms : Cond.initialized RX1 ∈ bigW := bigW_k1 (List.mem_of_getElem? (i := 6) (by decide +kernel)) (by decide +kernel)
theorem in_TallTowers_Log : Cond.initialized RX2 ∈ bigW := bigW_k1 (List.mem_of_getElem? (i := 2) (by decide +kernel)) (by decide +kernel)
theorem in_TallTowers_Outcome : Cond.initialized RX3 ∈ bigW := bigW_k1 (List.mem_of_getElem? (i := 8) (by decide +kernel)) (by decide +kernel)
theorem in_TallTowers_Spreader : Cond.initialized RX4 ∈ bigW := bigW_k1 (List.mem_of_getElem? (i := 7) (by decide +kernel)) (by decide +kernel)
theorem in_TallTowers_Towers : Cond.initialized RX5 ∈ bigW := bigW_k1 (List.mem_of_getElem? (i := 4) (by decide +kernel)) (by decide +kernel)
theorem in_TallTowersLaw : Cond.initialized RL ∈ bigW := bigW_k1 (List.mem_of_getElem? (i := 0) (by decide +kernel)) (by decide +kernel)
theorem in_java_lang_Integer : Cond.initialized RJ6 ∈ bigW := bigW_k1 (List.mem_of_getElem? (i := 17) (by decide +kernel)) (by decide +kernel)
theorem in_java_lang_Math : Cond.initialized RJ9 ∈ bigW := bigW_k1 (List.mem_of_getElem? (i := 14) (by decide +kernel)) (by decide +kernel)
theorem in_java_util_Arrays : Cond.initialized RJ7 ∈ bigW := bigW_k1 (List.mem_of_getElem? (i := 5) (by decide +kernel)) (by decide +kernel)
theorem in_NoSuchElementException : Cond.initialized "java/util/NoSuchElementException" ∈ bigW := bigW_k1 (List.mem_of_getElem? (i := 16) (by decide +kernel)) (by decide +kernel)
theorem in_IllegalArgumentException : Cond.initialized "java/lang/IllegalArgumentException" ∈ bigW := bigW_k1 (List.mem_of_getElem? (i := 13) (by decide +kernel)) (by decide +kernel)
theorem in_IllegalStateException : Cond.initialized "java/lang/IllegalStateException" ∈ bigW := bigW_k1 (List.mem_of_getElem? (i := 15) (by decide +kernel)) (by decide +kernel)
def mX6_place : MT := (yX6_place, cX6_place, 6, some .int, RX6, 7, 180, none)
theorem pl_TallTowers : plainName RX6 = true ∧ RX6 ≠ "java/lang/invoke/MethodHandle" ∧ RX6 ≠ "java/lang/invoke/VarHandle" := by decide +kernel
theorem pd_0 : (parseMethodDescriptor "(IIII)I").map (fun d => d.parameters.length) = some 4 := by decide +kernel
theorem ok_mX6_place : mOK mX6_place 4 := ⟨bigW_k3 (List.mem_of_getElem? (i := 109) (by decide +kernel)) (by decide +kernel), in_TallTowers, ⟨pl_TallTowers.2.1, pl_TallTowers.2.2, pd_0⟩, pl_TallTowers.1, rfl⟩
theorem ov_mX6_place : mOKv mX6_place 4 := ⟨rfl, ok_mX6_place, bigW_k3 (List.mem_of_getElem? (i := 107) (by decide +kernel)) (by decide +kernel), bigW_k3 (List.mem_of_getElem? (i := 108) (by decide +kernel)) (by decide +kernel)⟩
def mX6_sign : MT := (yX6_sign, cX6_sign, 4, some .int, RX6, 7, 180, none)
theorem pd_1 : (parseMethodDescriptor "(III)I").map (fun d => d.parameters.length) = some 3 := by decide +kernel
theorem ok_mX6_sign : mOK mX6_sign 3 := ⟨bigW_k3 (List.mem_of_getElem? (i := 218) (by decide +kernel)) (by decide +kernel), in_TallTowers, ⟨pl_TallTowers.2.1, pl_TallTowers.2.2, pd_1⟩, pl_TallTowers.1, rfl⟩
theorem ov_mX6_sign : mOKv mX6_sign 3 := ⟨rfl, ok_mX6_sign, bigW_k3 (List.mem_of_getElem? (i := 216) (by decide +kernel)) (by decide +kernel), bigW_k3 (List.mem_of_getElem? (i := 217) (by decide +kernel)) (by decide +kernel)⟩
def mX6_lack : MT := (yX6_lack, cX6_lack, 2, some .int, RX6, 7, 180, none)
theorem pd_2 : (parseMethodDescriptor "(I)I").map (fun d => d.parameters.length) = some 1 := by decide +kernel
theorem ok_mX6_lack : mOK mX6_lack 1 := ⟨bigW_k4 (List.mem_of_getElem? (i := 12) (by decide +kernel)) (by decide +kernel), in_TallTowers, ⟨pl_TallTowers.2.1, pl_TallTowers.2.2, pd_2⟩, pl_TallTowers.1, rfl⟩
theorem ov_mX6_lack : mOKv mX6_lack 1 := ⟨rfl, ok_mX6_lack, bigW_k4 (List.mem_of_getElem? (i := 10) (by decide +kernel)) (by decide +kernel), bigW_k4 (List.mem_of_getElem? (i := 11) (by decide +kernel)) (by decide +kernel)⟩
def mX6_rules : MT := (yX6_rules, cX6_rules, 4, some .int, RX6, 7, 180, none)
theorem ok_mX6_rules : mOK mX6_rules 3 := ⟨bigW_k4 (List.mem_of_getElem? (i := 25) (by decide +kernel)) (by decide +kernel), in_TallTowers, ⟨pl_TallTowers.2.1, pl_TallTowers.2.2, pd_1⟩, pl_TallTowers.1, rfl⟩
theorem ov_mX6_rules : mOKv mX6_rules 3 := ⟨rfl, ok_mX6_rules, bigW_k4 (List.mem_of_getElem? (i := 23) (by decide +kernel)) (by decide +kernel), bigW_k4 (List.mem_of_getElem? (i := 24) (by decide +kernel)) (by decide +kernel)⟩
def mX6_harm : MT := (yX6_harm, cX6_harm, 6, some .int, RX6, 7, 180, none)
theorem ok_mX6_harm : mOK mX6_harm 4 := ⟨bigW_k4 (List.mem_of_getElem? (i := 38) (by decide +kernel)) (by decide +kernel), in_TallTowers, ⟨pl_TallTowers.2.1, pl_TallTowers.2.2, pd_0⟩, pl_TallTowers.1, rfl⟩
theorem ov_mX6_harm : mOKv mX6_harm 4 := ⟨rfl, ok_mX6_harm, bigW_k4 (List.mem_of_getElem? (i := 36) (by decide +kernel)) (by decide +kernel), bigW_k4 (List.mem_of_getElem? (i := 37) (by decide +kernel)) (by decide +kernel)⟩
def mX6_grow : MT := (yX6_grow, cX6_grow, 5, some .long, RX6, 7, 180, none)
theorem pd_3 : (parseMethodDescriptor "(II)J").map (fun d => d.parameters.length) = some 2 := by decide +kernel
theorem ok_mX6_grow : mOK mX6_grow 2 := ⟨bigW_k4 (List.mem_of_getElem? (i := 52) (by decide +kernel)) (by decide +kernel), in_TallTowers, ⟨pl_TallTowers.2.1, pl_TallTowers.2.2, pd_3⟩, pl_TallTowers.1, rfl⟩
theorem ov_mX6_grow : mOKv mX6_grow 2 := ⟨rfl, ok_mX6_grow, bigW_k4 (List.mem_of_getElem? (i := 50) (by decide +kernel)) (by decide +kernel), bigW_k4 (List.mem_of_getElem? (i := 51) (by decide +kernel)) (by decide +kernel)⟩
def mX6_settle : MT := (yX6_settle, cX6_settle, 3, some .int, RX6, 7, 180, none)
theorem pd_4 : (parseMethodDescriptor "(II)I").map (fun d => d.parameters.length) = some 2 := by decide +kernel
theorem ok_mX6_settle : mOK mX6_settle 2 := ⟨bigW_k4 (List.mem_of_getElem? (i := 67) (by decide +kernel)) (by decide +kernel), in_TallTowers, ⟨pl_TallTowers.2.1, pl_TallTowers.2.2, pd_4⟩, pl_TallTowers.1, rfl⟩
theorem ov_mX6_settle : mOKv mX6_settle 2 := ⟨rfl, ok_mX6_settle, bigW_k4 (List.mem_of_getElem? (i := 65) (by decide +kernel)) (by decide +kernel), bigW_k4 (List.mem_of_getElem? (i := 66) (by decide +kernel)) (by decide +kernel)⟩
def mX6_fall : MT := (yX6_fall, cX6_fall, 2, some .int, RX6, 7, 180, none)
theorem ok_mX6_fall : mOK mX6_fall 1 := ⟨bigW_k4 (List.mem_of_getElem? (i := 81) (by decide +kernel)) (by decide +kernel), in_TallTowers, ⟨pl_TallTowers.2.1, pl_TallTowers.2.2, pd_2⟩, pl_TallTowers.1, rfl⟩
theorem ov_mX6_fall : mOKv mX6_fall 1 := ⟨rfl, ok_mX6_fall, bigW_k4 (List.mem_of_getElem? (i := 79) (by decide +kernel)) (by decide +kernel), bigW_k4 (List.mem_of_getElem? (i := 80) (by decide +kernel)) (by decide +kernel)⟩
def mX6_reopen : MT := (yX6_reopen, cX6_reopen, 4, some .long, RX6, 7, 180, none)
theorem pd_5 : (parseMethodDescriptor "(I)J").map (fun d => d.parameters.length) = some 1 := by decide +kernel
theorem ok_mX6_reopen : mOK mX6_reopen 1 := ⟨bigW_k4 (List.mem_of_getElem? (i := 88) (by decide +kernel)) (by decide +kernel), in_TallTowers, ⟨pl_TallTowers.2.1, pl_TallTowers.2.2, pd_5⟩, pl_TallTowers.1, rfl⟩
theorem ov_mX6_reopen : mOKv mX6_reopen 1 := ⟨rfl, ok_mX6_reopen, bigW_k4 (List.mem_of_getElem? (i := 86) (by decide +kernel)) (by decide +kernel), bigW_k4 (List.mem_of_getElem? (i := 87) (by decide +kernel)) (by decide +kernel)⟩
def mX6_back : MT := (yX6_back, cX6_back, 2, some .int, RX6, 6, 160, none)
theorem pd_6 : (parseMethodDescriptor "()I").map (fun d => d.parameters.length) = some 0 := by decide +kernel
theorem ok_mX6_back : mOK mX6_back 0 := ⟨bigW_k2 (List.mem_of_getElem? (i := 99) (by decide +kernel)) (by decide +kernel), in_TallTowers, ⟨pl_TallTowers.2.1, pl_TallTowers.2.2, pd_6⟩, pl_TallTowers.1, rfl⟩
theorem ov_mX6_back : mOKv mX6_back 0 := ⟨rfl, ok_mX6_back, bigW_k2 (List.mem_of_getElem? (i := 97) (by decide +kernel)) (by decide +kernel), bigW_k2 (List.mem_of_getElem? (i := 98) (by decide +kernel)) (by decide +kernel)⟩
def mX6_told : MT := (yX6_told, cX6_told, 2, some .int, RX6, 7, 103, none)
theorem ok_mX6_told : mOK mX6_told 1 := ⟨bigW_k4 (List.mem_of_getElem? (i := 95) (by decide +kernel)) (by decide +kernel), in_TallTowers, ⟨pl_TallTowers.2.1, pl_TallTowers.2.2, pd_2⟩, pl_TallTowers.1, rfl⟩
theorem ov_mX6_told : mOKv mX6_told 1 := ⟨rfl, ok_mX6_told, bigW_k4 (List.mem_of_getElem? (i := 93) (by decide +kernel)) (by decide +kernel), bigW_k4 (List.mem_of_getElem? (i := 94) (by decide +kernel)) (by decide +kernel)⟩
def mX6_event : MT := (yX6_event, cX6_event, 3, some .int, RX6, 7, 103, none)
theorem ok_mX6_event : mOK mX6_event 2 := ⟨bigW_k4 (List.mem_of_getElem? (i := 110) (by decide +kernel)) (by decide +kernel), in_TallTowers, ⟨pl_TallTowers.2.1, pl_TallTowers.2.2, pd_4⟩, pl_TallTowers.1, rfl⟩
theorem ov_mX6_event : mOKv mX6_event 2 := ⟨rfl, ok_mX6_event, bigW_k4 (List.mem_of_getElem? (i := 108) (by decide +kernel)) (by decide +kernel), bigW_k4 (List.mem_of_getElem? (i := 109) (by decide +kernel)) (by decide +kernel)⟩
def mX6_layer : MT := (yX6_layer, cX6_layer, 4, some .long, RX6, 7, 103, none)
theorem ok_mX6_layer : mOK mX6_layer 2 := ⟨bigW_k4 (List.mem_of_getElem? (i := 122) (by decide +kernel)) (by decide +kernel), in_TallTowers, ⟨pl_TallTowers.2.1, pl_TallTowers.2.2, pd_3⟩, pl_TallTowers.1, rfl⟩
theorem ov_mX6_layer : mOKv mX6_layer 2 := ⟨rfl, ok_mX6_layer, bigW_k4 (List.mem_of_getElem? (i := 120) (by decide +kernel)) (by decide +kernel), bigW_k4 (List.mem_of_getElem? (i := 121) (by decide +kernel)) (by decide +kernel)⟩
def mX6_signed : MT := (yX6_signed, cX6_signed, 6, some .long, RX6, 7, 103, none)
theorem pd_7 : (parseMethodDescriptor "(III)J").map (fun d => d.parameters.length) = some 3 := by decide +kernel
theorem ok_mX6_signed : mOK mX6_signed 3 := ⟨bigW_k4 (List.mem_of_getElem? (i := 138) (by decide +kernel)) (by decide +kernel), in_TallTowers, ⟨pl_TallTowers.2.1, pl_TallTowers.2.2, pd_7⟩, pl_TallTowers.1, rfl⟩
theorem ov_mX6_signed : mOKv mX6_signed 3 := ⟨rfl, ok_mX6_signed, bigW_k4 (List.mem_of_getElem? (i := 136) (by decide +kernel)) (by decide +kernel), bigW_k4 (List.mem_of_getElem? (i := 137) (by decide +kernel)) (by decide +kernel)⟩
def mX6_year : MT := (yX6_year, cX6_year, 5, some .long, RX6, 7, 103, none)
theorem ok_mX6_year : mOK mX6_year 2 := ⟨bigW_k4 (List.mem_of_getElem? (i := 146) (by decide +kernel)) (by decide +kernel), in_TallTowers, ⟨pl_TallTowers.2.1, pl_TallTowers.2.2, pd_3⟩, pl_TallTowers.1, rfl⟩
theorem ov_mX6_year : mOKv mX6_year 2 := ⟨rfl, ok_mX6_year, bigW_k4 (List.mem_of_getElem? (i := 144) (by decide +kernel)) (by decide +kernel), bigW_k4 (List.mem_of_getElem? (i := 145) (by decide +kernel)) (by decide +kernel)⟩
def mX6_at : MT := (yX6_at, cX6_at, 3, some .int, RX6, 7, 103, none)
theorem ok_mX6_at : mOK mX6_at 2 := ⟨bigW_k4 (List.mem_of_getElem? (i := 165) (by decide +kernel)) (by decide +kernel), in_TallTowers, ⟨pl_TallTowers.2.1, pl_TallTowers.2.2, pd_4⟩, pl_TallTowers.1, rfl⟩
theorem ov_mX6_at : mOKv mX6_at 2 := ⟨rfl, ok_mX6_at, bigW_k4 (List.mem_of_getElem? (i := 163) (by decide +kernel)) (by decide +kernel), bigW_k4 (List.mem_of_getElem? (i := 164) (by decide +kernel)) (by decide +kernel)⟩
def mX6_rung : MT := (yX6_rung, cX6_rung, 3, some .int, RX6, 7, 103, none)
theorem ok_mX6_rung : mOK mX6_rung 2 := ⟨bigW_k4 (List.mem_of_getElem? (i := 179) (by decide +kernel)) (by decide +kernel), in_TallTowers, ⟨pl_TallTowers.2.1, pl_TallTowers.2.2, pd_4⟩, pl_TallTowers.1, rfl⟩
theorem ov_mX6_rung : mOKv mX6_rung 2 := ⟨rfl, ok_mX6_rung, bigW_k4 (List.mem_of_getElem? (i := 177) (by decide +kernel)) (by decide +kernel), bigW_k4 (List.mem_of_getElem? (i := 178) (by decide +kernel)) (by decide +kernel)⟩
def mX6_damage : MT := (yX6_damage, cX6_damage, 4, some .long, RX6, 7, 103, none)
theorem ok_mX6_damage : mOK mX6_damage 2 := ⟨bigW_k4 (List.mem_of_getElem? (i := 186) (by decide +kernel)) (by decide +kernel), in_TallTowers, ⟨pl_TallTowers.2.1, pl_TallTowers.2.2, pd_3⟩, pl_TallTowers.1, rfl⟩
theorem ov_mX6_damage : mOKv mX6_damage 2 := ⟨rfl, ok_mX6_damage, bigW_k4 (List.mem_of_getElem? (i := 184) (by decide +kernel)) (by decide +kernel), bigW_k4 (List.mem_of_getElem? (i := 185) (by decide +kernel)) (by decide +kernel)⟩
def mX6_took : MT := (yX6_took, cX6_took, 3, some .long, RX6, 7, 103, none)
theorem ok_mX6_took : mOK mX6_took 2 := ⟨bigW_k4 (List.mem_of_getElem? (i := 193) (by decide +kernel)) (by decide +kernel), in_TallTowers, ⟨pl_TallTowers.2.1, pl_TallTowers.2.2, pd_3⟩, pl_TallTowers.1, rfl⟩
theorem ov_mX6_took : mOKv mX6_took 2 := ⟨rfl, ok_mX6_took, bigW_k4 (List.mem_of_getElem? (i := 191) (by decide +kernel)) (by decide +kernel), bigW_k4 (List.mem_of_getElem? (i := 192) (by decide +kernel)) (by decide +kernel)⟩
def mX6_hole : MT := (yX6_hole, cX6_hole, 3, some .long, RX6, 7, 103, none)
theorem ok_mX6_hole : mOK mX6_hole 2 := ⟨bigW_k4 (List.mem_of_getElem? (i := 200) (by decide +kernel)) (by decide +kernel), in_TallTowers, ⟨pl_TallTowers.2.1, pl_TallTowers.2.2, pd_3⟩, pl_TallTowers.1, rfl⟩
theorem ov_mX6_hole : mOKv mX6_hole 2 := ⟨rfl, ok_mX6_hole, bigW_k4 (List.mem_of_getElem? (i := 198) (by decide +kernel)) (by decide +kernel), bigW_k4 (List.mem_of_getElem? (i := 199) (by decide +kernel)) (by decide +kernel)⟩
def mX6_moved : MT := (yX6_moved, cX6_moved, 3, some .long, RX6, 7, 103, none)
theorem ok_mX6_moved : mOK mX6_moved 2 := ⟨bigW_k4 (List.mem_of_getElem? (i := 207) (by decide +kernel)) (by decide +kernel), in_TallTowers, ⟨pl_TallTowers.2.1, pl_TallTowers.2.2, pd_3⟩, pl_TallTowers.1, rfl⟩
theorem ov_mX6_moved : mOKv mX6_moved 2 := ⟨rfl, ok_mX6_moved, bigW_k4 (List.mem_of_getElem? (i := 205) (by decide +kernel)) (by decide +kernel), bigW_k4 (List.mem_of_getElem? (i := 206) (by decide +kernel)) (by decide +kernel)⟩
def mX6_bears : MT := (yX6_bears, cX6_bears, 3, some .long, RX6, 7, 103, none)
theorem ok_mX6_bears : mOK mX6_bears 2 := ⟨bigW_k4 (List.mem_of_getElem? (i := 214) (by decide +kernel)) (by decide +kernel), in_TallTowers, ⟨pl_TallTowers.2.1, pl_TallTowers.2.2, pd_3⟩, pl_TallTowers.1, rfl⟩
theorem ov_mX6_bears : mOKv mX6_bears 2 := ⟨rfl, ok_mX6_bears, bigW_k4 (List.mem_of_getElem? (i := 212) (by decide +kernel)) (by decide +kernel), bigW_k4 (List.mem_of_getElem? (i := 213) (by decide +kernel)) (by decide +kernel)⟩
def mX6_falls : MT := (yX6_falls, cX6_falls, 3, some .long, RX6, 7, 103, none)
theorem ok_mX6_falls : mOK mX6_falls 2 := ⟨bigW_k4 (List.mem_of_getElem? (i := 221) (by decide +kernel)) (by decide +kernel), in_TallTowers, ⟨pl_TallTowers.2.1, pl_TallTowers.2.2, pd_3⟩, pl_TallTowers.1, rfl⟩
theorem ov_mX6_falls : mOKv mX6_falls 2 := ⟨rfl, ok_mX6_falls, bigW_k4 (List.mem_of_getElem? (i := 219) (by decide +kernel)) (by decide +kernel), bigW_k4 (List.mem_of_getElem? (i := 220) (by decide +kernel)) (by decide +kernel)⟩
def mX6_insurer : MT := (yX6_insurer, cX6_insurer, 3, some .long, RX6, 7, 103, none)
theorem ok_mX6_insurer : mOK mX6_insurer 2 := ⟨bigW_k4 (List.mem_of_getElem? (i := 231) (by decide +kernel)) (by decide +kernel), in_TallTowers, ⟨pl_TallTowers.2.1, pl_TallTowers.2.2, pd_3⟩, pl_TallTowers.1, rfl⟩
theorem ov_mX6_insurer : mOKv mX6_insurer 2 := ⟨rfl, ok_mX6_insurer, bigW_k4 (List.mem_of_getElem? (i := 229) (by decide +kernel)) (by decide +kernel), bigW_k4 (List.mem_of_getElem? (i := 230) (by decide +kernel)) (by decide +kernel)⟩
def mX6_burden : MT := (yX6_burden, cX6_burden, 2, some .long, RX6, 7, 103, none)
theorem ok_mX6_burden : mOK mX6_burden 1 := ⟨bigW_k5 (List.mem_of_getElem? (i := 16) (by decide +kernel)) (by decide +kernel), in_TallTowers, ⟨pl_TallTowers.2.1, pl_TallTowers.2.2, pd_5⟩, pl_TallTowers.1, rfl⟩
theorem ov_mX6_burden : mOKv mX6_burden 1 := ⟨rfl, ok_mX6_burden, bigW_k5 (List.mem_of_getElem? (i := 14) (by decide +kernel)) (by decide +kernel), bigW_k5 (List.mem_of_getElem? (i := 15) (by decide +kernel)) (by decide +kernel)⟩
def mX6_rank : MT := (yX6_rank, cX6_rank, 4, some .int, RX6, 7, 103, none)
theorem ok_mX6_rank : mOK mX6_rank 1 := ⟨bigW_k5 (List.mem_of_getElem? (i := 27) (by decide +kernel)) (by decide +kernel), in_TallTowers, ⟨pl_TallTowers.2.1, pl_TallTowers.2.2, pd_2⟩, pl_TallTowers.1, rfl⟩
theorem ov_mX6_rank : mOKv mX6_rank 1 := ⟨rfl, ok_mX6_rank, bigW_k5 (List.mem_of_getElem? (i := 25) (by decide +kernel)) (by decide +kernel), bigW_k5 (List.mem_of_getElem? (i := 26) (by decide +kernel)) (by decide +kernel)⟩
def mX6_offs : MT := (yX6_offs, cX6_offs, 5, some .int, RX6, 7, 103, none)
theorem ok_mX6_offs : mOK mX6_offs 4 := ⟨bigW_k5 (List.mem_of_getElem? (i := 39) (by decide +kernel)) (by decide +kernel), in_TallTowers, ⟨pl_TallTowers.2.1, pl_TallTowers.2.2, pd_0⟩, pl_TallTowers.1, rfl⟩
theorem ov_mX6_offs : mOKv mX6_offs 4 := ⟨rfl, ok_mX6_offs, bigW_k5 (List.mem_of_getElem? (i := 37) (by decide +kernel)) (by decide +kernel), bigW_k5 (List.mem_of_getElem? (i := 38) (by decide +kernel)) (by decide +kernel)⟩
def mX6_would : MT := (yX6_would, cX6_would, 6, some .long, RX6, 7, 133, none)
theorem pd_8 : (parseMethodDescriptor "(IIIII)J").map (fun d => d.parameters.length) = some 5 := by decide +kernel
theorem ok_mX6_would : mOK mX6_would 5 := ⟨bigW_k5 (List.mem_of_getElem? (i := 47) (by decide +kernel)) (by decide +kernel), in_TallTowers, ⟨pl_TallTowers.2.1, pl_TallTowers.2.2, pd_8⟩, pl_TallTowers.1, rfl⟩
theorem ov_mX6_would : mOKv mX6_would 5 := ⟨rfl, ok_mX6_would, bigW_k5 (List.mem_of_getElem? (i := 45) (by decide +kernel)) (by decide +kernel), bigW_k5 (List.mem_of_getElem? (i := 46) (by decide +kernel)) (by decide +kernel)⟩
def mX6_takes : MT := (yX6_takes, cX6_takes, 6, some .long, RX6, 7, 133, none)
theorem ok_mX6_takes : mOK mX6_takes 5 := ⟨bigW_k5 (List.mem_of_getElem? (i := 59) (by decide +kernel)) (by decide +kernel), in_TallTowers, ⟨pl_TallTowers.2.1, pl_TallTowers.2.2, pd_8⟩, pl_TallTowers.1, rfl⟩
theorem ov_mX6_takes : mOKv mX6_takes 5 := ⟨rfl, ok_mX6_takes, bigW_k5 (List.mem_of_getElem? (i := 57) (by decide +kernel)) (by decide +kernel), bigW_k5 (List.mem_of_getElem? (i := 58) (by decide +kernel)) (by decide +kernel)⟩
def mX6_drops : MT := (yX6_drops, cX6_drops, 6, some .long, RX6, 7, 133, none)
theorem ok_mX6_drops : mOK mX6_drops 5 := ⟨bigW_k5 (List.mem_of_getElem? (i := 66) (by decide +kernel)) (by decide +kernel), in_TallTowers, ⟨pl_TallTowers.2.1, pl_TallTowers.2.2, pd_8⟩, pl_TallTowers.1, rfl⟩
theorem ov_mX6_drops : mOKv mX6_drops 5 := ⟨rfl, ok_mX6_drops, bigW_k5 (List.mem_of_getElem? (i := 64) (by decide +kernel)) (by decide +kernel), bigW_k5 (List.mem_of_getElem? (i := 65) (by decide +kernel)) (by decide +kernel)⟩
def mX6_share : MT := (yX6_share, cX6_share, 6, some .long, RX6, 7, 103, none)
theorem ok_mX6_share : mOK mX6_share 5 := ⟨bigW_k5 (List.mem_of_getElem? (i := 73) (by decide +kernel)) (by decide +kernel), in_TallTowers, ⟨pl_TallTowers.2.1, pl_TallTowers.2.2, pd_8⟩, pl_TallTowers.1, rfl⟩
theorem ov_mX6_share : mOKv mX6_share 5 := ⟨rfl, ok_mX6_share, bigW_k5 (List.mem_of_getElem? (i := 71) (by decide +kernel)) (by decide +kernel), bigW_k5 (List.mem_of_getElem? (i := 72) (by decide +kernel)) (by decide +kernel)⟩
def mX6_weight : MT := (yX6_weight, cX6_weight, 5, some .long, RX6, 7, 103, none)
theorem pd_9 : (parseMethodDescriptor "(IIII)J").map (fun d => d.parameters.length) = some 4 := by decide +kernel
theorem ok_mX6_weight : mOK mX6_weight 4 := ⟨bigW_k5 (List.mem_of_getElem? (i := 82) (by decide +kernel)) (by decide +kernel), in_TallTowers, ⟨pl_TallTowers.2.1, pl_TallTowers.2.2, pd_9⟩, pl_TallTowers.1, rfl⟩
theorem ov_mX6_weight : mOKv mX6_weight 4 := ⟨rfl, ok_mX6_weight, bigW_k5 (List.mem_of_getElem? (i := 80) (by decide +kernel)) (by decide +kernel), bigW_k5 (List.mem_of_getElem? (i := 81) (by decide +kernel)) (by decide +kernel)⟩
def mX6_picks : MT := (yX6_picks, cX6_picks, 5, some .int, RX6, 7, 103, none)
theorem ok_mX6_picks : mOK mX6_picks 4 := ⟨bigW_k5 (List.mem_of_getElem? (i := 90) (by decide +kernel)) (by decide +kernel), in_TallTowers, ⟨pl_TallTowers.2.1, pl_TallTowers.2.2, pd_0⟩, pl_TallTowers.1, rfl⟩
theorem ov_mX6_picks : mOKv mX6_picks 4 := ⟨rfl, ok_mX6_picks, bigW_k5 (List.mem_of_getElem? (i := 88) (by decide +kernel)) (by decide +kernel), bigW_k5 (List.mem_of_getElem? (i := 89) (by decide +kernel)) (by decide +kernel)⟩
def mX6_other : MT := (yX6_other, cX6_other, 5, some .long, RX6, 7, 184, none)
theorem ok_mX6_other : mOK mX6_other 4 := ⟨bigW_k5 (List.mem_of_getElem? (i := 99) (by decide +kernel)) (by decide +kernel), in_TallTowers, ⟨pl_TallTowers.2.1, pl_TallTowers.2.2, pd_9⟩, pl_TallTowers.1, rfl⟩
theorem ov_mX6_other : mOKv mX6_other 4 := ⟨rfl, ok_mX6_other, bigW_k5 (List.mem_of_getElem? (i := 97) (by decide +kernel)) (by decide +kernel), bigW_k5 (List.mem_of_getElem? (i := 98) (by decide +kernel)) (by decide +kernel)⟩
def mX6_best : MT := (yX6_best, cX6_best, 11, some .long, RX6, 7, 184, none)
theorem ok_mX6_best : mOK mX6_best 2 := ⟨bigW_k5 (List.mem_of_getElem? (i := 111) (by decide +kernel)) (by decide +kernel), in_TallTowers, ⟨pl_TallTowers.2.1, pl_TallTowers.2.2, pd_3⟩, pl_TallTowers.1, rfl⟩
theorem ov_mX6_best : mOKv mX6_best 2 := ⟨rfl, ok_mX6_best, bigW_k5 (List.mem_of_getElem? (i := 109) (by decide +kernel)) (by decide +kernel), bigW_k5 (List.mem_of_getElem? (i := 110) (by decide +kernel)) (by decide +kernel)⟩
def mX6_without : MT := (yX6_without, cX6_without, 3, some .long, RX6, 7, 183, none)
theorem ok_mX6_without : mOK mX6_without 2 := ⟨bigW_k5 (List.mem_of_getElem? (i := 118) (by decide +kernel)) (by decide +kernel), in_TallTowers, ⟨pl_TallTowers.2.1, pl_TallTowers.2.2, pd_3⟩, pl_TallTowers.1, rfl⟩
theorem ov_mX6_without : mOKv mX6_without 2 := ⟨rfl, ok_mX6_without, bigW_k5 (List.mem_of_getElem? (i := 116) (by decide +kernel)) (by decide +kernel), bigW_k5 (List.mem_of_getElem? (i := 117) (by decide +kernel)) (by decide +kernel)⟩
def mX6_undone : MT := (yX6_undone, cX6_undone, 2, some .int, RX6, 7, 183, none)
theorem ok_mX6_undone : mOK mX6_undone 1 := ⟨bigW_k5 (List.mem_of_getElem? (i := 129) (by decide +kernel)) (by decide +kernel), in_TallTowers, ⟨pl_TallTowers.2.1, pl_TallTowers.2.2, pd_2⟩, pl_TallTowers.1, rfl⟩
theorem ov_mX6_undone : mOKv mX6_undone 1 := ⟨rfl, ok_mX6_undone, bigW_k5 (List.mem_of_getElem? (i := 127) (by decide +kernel)) (by decide +kernel), bigW_k5 (List.mem_of_getElem? (i := 128) (by decide +kernel)) (by decide +kernel)⟩
def mX6_spared : MT := (yX6_spared, cX6_spared, 3, some .long, RX6, 7, 183, none)
theorem ok_mX6_spared : mOK mX6_spared 1 := ⟨bigW_k5 (List.mem_of_getElem? (i := 136) (by decide +kernel)) (by decide +kernel), in_TallTowers, ⟨pl_TallTowers.2.1, pl_TallTowers.2.2, pd_5⟩, pl_TallTowers.1, rfl⟩
theorem ov_mX6_spared : mOKv mX6_spared 1 := ⟨rfl, ok_mX6_spared, bigW_k5 (List.mem_of_getElem? (i := 134) (by decide +kernel)) (by decide +kernel), bigW_k5 (List.mem_of_getElem? (i := 135) (by decide +kernel)) (by decide +kernel)⟩
def mX6_shift : MT := (yX6_shift, cX6_shift, 5, some .long, RX6, 7, 160, none)
theorem ok_mX6_shift : mOK mX6_shift 3 := ⟨bigW_k5 (List.mem_of_getElem? (i := 148) (by decide +kernel)) (by decide +kernel), in_TallTowers, ⟨pl_TallTowers.2.1, pl_TallTowers.2.2, pd_7⟩, pl_TallTowers.1, rfl⟩
theorem ov_mX6_shift : mOKv mX6_shift 3 := ⟨rfl, ok_mX6_shift, bigW_k5 (List.mem_of_getElem? (i := 146) (by decide +kernel)) (by decide +kernel), bigW_k5 (List.mem_of_getElem? (i := 147) (by decide +kernel)) (by decide +kernel)⟩
def mX6_after : MT := (yX6_after, cX6_after, 4, some .long, RX6, 7, 160, none)
theorem ok_mX6_after : mOK mX6_after 2 := ⟨bigW_k5 (List.mem_of_getElem? (i := 155) (by decide +kernel)) (by decide +kernel), in_TallTowers, ⟨pl_TallTowers.2.1, pl_TallTowers.2.2, pd_3⟩, pl_TallTowers.1, rfl⟩
theorem ov_mX6_after : mOKv mX6_after 2 := ⟨rfl, ok_mX6_after, bigW_k5 (List.mem_of_getElem? (i := 153) (by decide +kernel)) (by decide +kernel), bigW_k5 (List.mem_of_getElem? (i := 154) (by decide +kernel)) (by decide +kernel)⟩
def mX6_usedUp : MT := (yX6_usedUp, cX6_usedUp, 3, some .int, RX6, 7, 160, none)
theorem ok_mX6_usedUp : mOK mX6_usedUp 1 := ⟨bigW_k5 (List.mem_of_getElem? (i := 162) (by decide +kernel)) (by decide +kernel), in_TallTowers, ⟨pl_TallTowers.2.1, pl_TallTowers.2.2, pd_2⟩, pl_TallTowers.1, rfl⟩
theorem ov_mX6_usedUp : mOKv mX6_usedUp 1 := ⟨rfl, ok_mX6_usedUp, bigW_k5 (List.mem_of_getElem? (i := 160) (by decide +kernel)) (by decide +kernel), bigW_k5 (List.mem_of_getElem? (i := 161) (by decide +kernel)) (by decide +kernel)⟩
def mX6_heaviest : MT := (yX6_heaviest, cX6_heaviest, 9, some .long, RX6, 7, 183, none)
theorem ok_mX6_heaviest : mOK mX6_heaviest 2 := ⟨bigW_k5 (List.mem_of_getElem? (i := 170) (by decide +kernel)) (by decide +kernel), in_TallTowers, ⟨pl_TallTowers.2.1, pl_TallTowers.2.2, pd_3⟩, pl_TallTowers.1, rfl⟩
theorem ov_mX6_heaviest : mOKv mX6_heaviest 2 := ⟨rfl, ok_mX6_heaviest, bigW_k5 (List.mem_of_getElem? (i := 168) (by decide +kernel)) (by decide +kernel), bigW_k5 (List.mem_of_getElem? (i := 169) (by decide +kernel)) (by decide +kernel)⟩
def mX6_cover : MT := (yX6_cover, cX6_cover, 4, some .int, RX6, 7, 103, none)
theorem ok_mX6_cover : mOK mX6_cover 3 := ⟨bigW_k5 (List.mem_of_getElem? (i := 177) (by decide +kernel)) (by decide +kernel), in_TallTowers, ⟨pl_TallTowers.2.1, pl_TallTowers.2.2, pd_1⟩, pl_TallTowers.1, rfl⟩
theorem ov_mX6_cover : mOKv mX6_cover 3 := ⟨rfl, ok_mX6_cover, bigW_k5 (List.mem_of_getElem? (i := 175) (by decide +kernel)) (by decide +kernel), bigW_k5 (List.mem_of_getElem? (i := 176) (by decide +kernel)) (by decide +kernel)⟩
def mX6_reach : MT := (yX6_reach, cX6_reach, 2, some .long, RX6, 7, 103, none)
theorem ok_mX6_reach : mOK mX6_reach 1 := ⟨bigW_k5 (List.mem_of_getElem? (i := 191) (by decide +kernel)) (by decide +kernel), in_TallTowers, ⟨pl_TallTowers.2.1, pl_TallTowers.2.2, pd_5⟩, pl_TallTowers.1, rfl⟩
theorem ov_mX6_reach : mOKv mX6_reach 1 := ⟨rfl, ok_mX6_reach, bigW_k5 (List.mem_of_getElem? (i := 189) (by decide +kernel)) (by decide +kernel), bigW_k5 (List.mem_of_getElem? (i := 190) (by decide +kernel)) (by decide +kernel)⟩
def mX6_uneven : MT := (yX6_uneven, cX6_uneven, 6, some .long, RX6, 7, 133, none)
theorem ok_mX6_uneven : mOK mX6_uneven 5 := ⟨bigW_k5 (List.mem_of_getElem? (i := 204) (by decide +kernel)) (by decide +kernel), in_TallTowers, ⟨pl_TallTowers.2.1, pl_TallTowers.2.2, pd_8⟩, pl_TallTowers.1, rfl⟩
theorem ov_mX6_uneven : mOKv mX6_uneven 5 := ⟨rfl, ok_mX6_uneven, bigW_k5 (List.mem_of_getElem? (i := 202) (by decide +kernel)) (by decide +kernel), bigW_k5 (List.mem_of_getElem? (i := 203) (by decide +kernel)) (by decide +kernel)⟩
def mX6_widest : MT := (yX6_widest, cX6_widest, 7, some .int, RX6, 7, 103, none)
theorem ok_mX6_widest : mOK mX6_widest 2 := ⟨bigW_k5 (List.mem_of_getElem? (i := 211) (by decide +kernel)) (by decide +kernel), in_TallTowers, ⟨pl_TallTowers.2.1, pl_TallTowers.2.2, pd_4⟩, pl_TallTowers.1, rfl⟩
theorem ov_mX6_widest : mOKv mX6_widest 2 := ⟨rfl, ok_mX6_widest, bigW_k5 (List.mem_of_getElem? (i := 209) (by decide +kernel)) (by decide +kernel), bigW_k5 (List.mem_of_getElem? (i := 210) (by decide +kernel)) (by decide +kernel)⟩
def mX6_strongest : MT := (yX6_strongest, cX6_strongest, 8, some .long, RX6, 7, 103, none)
theorem ok_mX6_strongest : mOK mX6_strongest 1 := ⟨bigW_k5 (List.mem_of_getElem? (i := 218) (by decide +kernel)) (by decide +kernel), in_TallTowers, ⟨pl_TallTowers.2.1, pl_TallTowers.2.2, pd_5⟩, pl_TallTowers.1, rfl⟩
theorem ov_mX6_strongest : mOKv mX6_strongest 1 := ⟨rfl, ok_mX6_strongest, bigW_k5 (List.mem_of_getElem? (i := 216) (by decide +kernel)) (by decide +kernel), bigW_k5 (List.mem_of_getElem? (i := 217) (by decide +kernel)) (by decide +kernel)⟩
def mX6_holds : MT := (yX6_holds, cX6_holds, 5, some .int, RX6, 7, 103, none)
theorem ok_mX6_holds : mOK mX6_holds 3 := ⟨bigW_k5 (List.mem_of_getElem? (i := 225) (by decide +kernel)) (by decide +kernel), in_TallTowers, ⟨pl_TallTowers.2.1, pl_TallTowers.2.2, pd_1⟩, pl_TallTowers.1, rfl⟩
theorem ov_mX6_holds : mOKv mX6_holds 3 := ⟨rfl, ok_mX6_holds, bigW_k5 (List.mem_of_getElem? (i := 223) (by decide +kernel)) (by decide +kernel), bigW_k5 (List.mem_of_getElem? (i := 224) (by decide +kernel)) (by decide +kernel)⟩
def mX6_spent : MT := (yX6_spent, cX6_spent, 4, some .long, RX6, 2, 42, none)
theorem pd_10 : (parseMethodDescriptor "()J").map (fun d => d.parameters.length) = some 0 := by decide +kernel
theorem ok_mX6_spent : mOK mX6_spent 0 := ⟨bigW_k3 (List.mem_of_getElem? (i := 85) (by decide +kernel)) (by decide +kernel), in_TallTowers, ⟨pl_TallTowers.2.1, pl_TallTowers.2.2, pd_10⟩, pl_TallTowers.1, rfl⟩
theorem ov_mX6_spent : mOKv mX6_spent 0 := ⟨rfl, ok_mX6_spent, bigW_k3 (List.mem_of_getElem? (i := 83) (by decide +kernel)) (by decide +kernel), bigW_k3 (List.mem_of_getElem? (i := 84) (by decide +kernel)) (by decide +kernel)⟩
def mX6_status : MT := (yX6_status, cX6_status, 2, some .int, RX6, 1, 22, none)
theorem ok_mX6_status : mOK mX6_status 1 := ⟨bigW_k3 (List.mem_of_getElem? (i := 97) (by decide +kernel)) (by decide +kernel), in_TallTowers, ⟨pl_TallTowers.2.1, pl_TallTowers.2.2, pd_2⟩, pl_TallTowers.1, rfl⟩
theorem ov_mX6_status : mOKv mX6_status 1 := ⟨rfl, ok_mX6_status, bigW_k3 (List.mem_of_getElem? (i := 95) (by decide +kernel)) (by decide +kernel), bigW_k3 (List.mem_of_getElem? (i := 96) (by decide +kernel)) (by decide +kernel)⟩
def mX6_needThere : MT := (yX6_needThere, cX6_needThere, 2, none, RX6, 6, 82, none)
theorem pd_11 : (parseMethodDescriptor "(Z)V").map (fun d => d.parameters.length) = some 1 := by decide +kernel
theorem ok_mX6_needThere : mOK mX6_needThere 1 := ⟨bigW_k3 (List.mem_of_getElem? (i := 226) (by decide +kernel)) (by decide +kernel), in_TallTowers, ⟨pl_TallTowers.2.1, pl_TallTowers.2.2, pd_11⟩, pl_TallTowers.1, rfl⟩
theorem ov_mX6_needThere : mOKv mX6_needThere 1 := ⟨rfl, ok_mX6_needThere, bigW_k3 (List.mem_of_getElem? (i := 225) (by decide +kernel)) (by decide +kernel), bigW_k0 (List.mem_of_getElem? (i := 21) (by decide +kernel)) (by decide +kernel)⟩
def mX6_needRight : MT := (yX6_needRight, cX6_needRight, 2, none, RX6, 6, 82, none)
theorem ok_mX6_needRight : mOK mX6_needRight 1 := ⟨bigW_k3 (List.mem_of_getElem? (i := 118) (by decide +kernel)) (by decide +kernel), in_TallTowers, ⟨pl_TallTowers.2.1, pl_TallTowers.2.2, pd_11⟩, pl_TallTowers.1, rfl⟩
theorem ov_mX6_needRight : mOKv mX6_needRight 1 := ⟨rfl, ok_mX6_needRight, bigW_k3 (List.mem_of_getElem? (i := 117) (by decide +kernel)) (by decide +kernel), bigW_k0 (List.mem_of_getElem? (i := 17) (by decide +kernel)) (by decide +kernel)⟩
def mX6_enter : MT := (yX6_enter, cX6_enter, 1, none, RX6, 6, 160, none)
theorem pd_12 : (parseMethodDescriptor "()V").map (fun d => d.parameters.length) = some 0 := by decide +kernel
theorem ok_mX6_enter : mOK mX6_enter 0 := ⟨bigW_k3 (List.mem_of_getElem? (i := 194) (by decide +kernel)) (by decide +kernel), in_TallTowers, ⟨pl_TallTowers.2.1, pl_TallTowers.2.2, pd_12⟩, pl_TallTowers.1, rfl⟩
theorem ov_mX6_enter : mOKv mX6_enter 0 := ⟨rfl, ok_mX6_enter, bigW_k3 (List.mem_of_getElem? (i := 193) (by decide +kernel)) (by decide +kernel), bigW_k0 (List.mem_of_getElem? (i := 19) (by decide +kernel)) (by decide +kernel)⟩
def mX6_isLayer : MT := (yX6_isLayer, cX6_isLayer, 2, some .boolean, RX6, 0, 0, none)
theorem pd_13 : (parseMethodDescriptor "(I)Z").map (fun d => d.parameters.length) = some 1 := by decide +kernel
theorem ok_mX6_isLayer : mOK mX6_isLayer 1 := ⟨bigW_k3 (List.mem_of_getElem? (i := 222) (by decide +kernel)) (by decide +kernel), in_TallTowers, ⟨pl_TallTowers.2.1, pl_TallTowers.2.2, pd_13⟩, pl_TallTowers.1, rfl⟩
theorem ov_mX6_isLayer : mOKv mX6_isLayer 1 := ⟨rfl, ok_mX6_isLayer, bigW_k3 (List.mem_of_getElem? (i := 221) (by decide +kernel)) (by decide +kernel), bigW_k0 (List.mem_of_getElem? (i := 20) (by decide +kernel)) (by decide +kernel)⟩
def mX6_isHarm : MT := (yX6_isHarm, cX6_isHarm, 2, some .boolean, RX6, 0, 0, none)
theorem ok_mX6_isHarm : mOK mX6_isHarm 1 := ⟨bigW_k4 (List.mem_of_getElem? (i := 56) (by decide +kernel)) (by decide +kernel), in_TallTowers, ⟨pl_TallTowers.2.1, pl_TallTowers.2.2, pd_13⟩, pl_TallTowers.1, rfl⟩
theorem ov_mX6_isHarm : mOKv mX6_isHarm 1 := ⟨rfl, ok_mX6_isHarm, bigW_k4 (List.mem_of_getElem? (i := 55) (by decide +kernel)) (by decide +kernel), bigW_k0 (List.mem_of_getElem? (i := 22) (by decide +kernel)) (by decide +kernel)⟩
def mX6_isEvent : MT := (yX6_isEvent, cX6_isEvent, 2, some .boolean, RX6, 0, 0, none)
theorem ok_mX6_isEvent : mOK mX6_isEvent 1 := ⟨bigW_k4 (List.mem_of_getElem? (i := 114) (by decide +kernel)) (by decide +kernel), in_TallTowers, ⟨pl_TallTowers.2.1, pl_TallTowers.2.2, pd_13⟩, pl_TallTowers.1, rfl⟩
theorem ov_mX6_isEvent : mOKv mX6_isEvent 1 := ⟨rfl, ok_mX6_isEvent, bigW_k4 (List.mem_of_getElem? (i := 113) (by decide +kernel)) (by decide +kernel), bigW_k0 (List.mem_of_getElem? (i := 23) (by decide +kernel)) (by decide +kernel)⟩
def mX6_isWithin : MT := (yX6_isWithin, cX6_isWithin, 3, some .boolean, RX6, 0, 0, none)
theorem pd_14 : (parseMethodDescriptor "(III)Z").map (fun d => d.parameters.length) = some 3 := by decide +kernel
theorem ok_mX6_isWithin : mOK mX6_isWithin 3 := ⟨bigW_k3 (List.mem_of_getElem? (i := 100) (by decide +kernel)) (by decide +kernel), in_TallTowers, ⟨pl_TallTowers.2.1, pl_TallTowers.2.2, pd_14⟩, pl_TallTowers.1, rfl⟩
theorem os_mX6_isWithin : mOKs mX6_isWithin 3 := ⟨ok_mX6_isWithin, bigW_k3 (List.mem_of_getElem? (i := 99) (by decide +kernel)) (by decide +kernel)⟩
def mX6_isYear : MT := (yX6_isYear, cX6_isYear, 1, some .boolean, RX6, 1, 22, none)
theorem ok_mX6_isYear : mOK mX6_isYear 1 := ⟨bigW_k3 (List.mem_of_getElem? (i := 112) (by decide +kernel)) (by decide +kernel), in_TallTowers, ⟨pl_TallTowers.2.1, pl_TallTowers.2.2, pd_13⟩, pl_TallTowers.1, rfl⟩
theorem os_mX6_isYear : mOKs mX6_isYear 1 := ⟨ok_mX6_isYear, bigW_k3 (List.mem_of_getElem? (i := 111) (by decide +kernel)) (by decide +kernel)⟩
def mX6_isHeight : MT := (yX6_isHeight, cX6_isHeight, 1, some .boolean, RX6, 1, 22, none)
theorem ok_mX6_isHeight : mOK mX6_isHeight 1 := ⟨bigW_k4 (List.mem_of_getElem? (i := 168) (by decide +kernel)) (by decide +kernel), in_TallTowers, ⟨pl_TallTowers.2.1, pl_TallTowers.2.2, pd_13⟩, pl_TallTowers.1, rfl⟩
theorem os_mX6_isHeight : mOKs mX6_isHeight 1 := ⟨ok_mX6_isHeight, bigW_k4 (List.mem_of_getElem? (i := 167) (by decide +kernel)) (by decide +kernel)⟩
def mX6_isAmount : MT := (yX6_isAmount, cX6_isAmount, 1, some .boolean, RX6, 1, 22, none)
theorem ok_mX6_isAmount : mOK mX6_isAmount 1 := ⟨bigW_k4 (List.mem_of_getElem? (i := 44) (by decide +kernel)) (by decide +kernel), in_TallTowers, ⟨pl_TallTowers.2.1, pl_TallTowers.2.2, pd_13⟩, pl_TallTowers.1, rfl⟩
theorem os_mX6_isAmount : mOKs mX6_isAmount 1 := ⟨ok_mX6_isAmount, bigW_k4 (List.mem_of_getElem? (i := 43) (by decide +kernel)) (by decide +kernel)⟩
def mX6_isInsurer : MT := (yX6_isInsurer, cX6_isInsurer, 1, some .boolean, RX6, 1, 22, none)
theorem ok_mX6_isInsurer : mOK mX6_isInsurer 1 := ⟨bigW_k4 (List.mem_of_getElem? (i := 5) (by decide +kernel)) (by decide +kernel), in_TallTowers, ⟨pl_TallTowers.2.1, pl_TallTowers.2.2, pd_13⟩, pl_TallTowers.1, rfl⟩
theorem os_mX6_isInsurer : mOKs mX6_isInsurer 1 := ⟨ok_mX6_isInsurer, bigW_k4 (List.mem_of_getElem? (i := 4) (by decide +kernel)) (by decide +kernel)⟩
def mX6_isOutsider : MT := (yX6_isOutsider, cX6_isOutsider, 1, some .boolean, RX6, 1, 22, none)
theorem ok_mX6_isOutsider : mOK mX6_isOutsider 1 := ⟨bigW_k4 (List.mem_of_getElem? (i := 70) (by decide +kernel)) (by decide +kernel), in_TallTowers, ⟨pl_TallTowers.2.1, pl_TallTowers.2.2, pd_13⟩, pl_TallTowers.1, rfl⟩
theorem os_mX6_isOutsider : mOKs mX6_isOutsider 1 := ⟨ok_mX6_isOutsider, bigW_k4 (List.mem_of_getElem? (i := 69) (by decide +kernel)) (by decide +kernel)⟩
def mX6_isReason : MT := (yX6_isReason, cX6_isReason, 1, some .boolean, RX6, 1, 22, none)
theorem ok_mX6_isReason : mOK mX6_isReason 1 := ⟨bigW_k4 (List.mem_of_getElem? (i := 224) (by decide +kernel)) (by decide +kernel), in_TallTowers, ⟨pl_TallTowers.2.1, pl_TallTowers.2.2, pd_13⟩, pl_TallTowers.1, rfl⟩
theorem os_mX6_isReason : mOKs mX6_isReason 1 := ⟨ok_mX6_isReason, bigW_k4 (List.mem_of_getElem? (i := 223) (by decide +kernel)) (by decide +kernel)⟩
def mX6_isRule : MT := (yX6_isRule, cX6_isRule, 1, some .boolean, RX6, 1, 22, none)
theorem ok_mX6_isRule : mOK mX6_isRule 1 := ⟨bigW_k4 (List.mem_of_getElem? (i := 31) (by decide +kernel)) (by decide +kernel), in_TallTowers, ⟨pl_TallTowers.2.1, pl_TallTowers.2.2, pd_13⟩, pl_TallTowers.1, rfl⟩
theorem os_mX6_isRule : mOKs mX6_isRule 1 := ⟨ok_mX6_isRule, bigW_k4 (List.mem_of_getElem? (i := 30) (by decide +kernel)) (by decide +kernel)⟩
def mX6_areRules : MT := (yX6_areRules, cX6_areRules, 3, some .boolean, RX6, 2, 42, none)
theorem ok_mX6_areRules : mOK mX6_areRules 3 := ⟨bigW_k4 (List.mem_of_getElem? (i := 28) (by decide +kernel)) (by decide +kernel), in_TallTowers, ⟨pl_TallTowers.2.1, pl_TallTowers.2.2, pd_14⟩, pl_TallTowers.1, rfl⟩
theorem os_mX6_areRules : mOKs mX6_areRules 3 := ⟨ok_mX6_areRules, bigW_k4 (List.mem_of_getElem? (i := 27) (by decide +kernel)) (by decide +kernel)⟩
def mX6_areHarmYears : MT := (yX6_areHarmYears, cX6_areHarmYears, 3, some .boolean, RX6, 0, 0, none)
theorem ok_mX6_areHarmYears : mOK mX6_areHarmYears 3 := ⟨bigW_k4 (List.mem_of_getElem? (i := 41) (by decide +kernel)) (by decide +kernel), in_TallTowers, ⟨pl_TallTowers.2.1, pl_TallTowers.2.2, pd_14⟩, pl_TallTowers.1, rfl⟩
theorem os_mX6_areHarmYears : mOKs mX6_areHarmYears 3 := ⟨ok_mX6_areHarmYears, bigW_k4 (List.mem_of_getElem? (i := 40) (by decide +kernel)) (by decide +kernel)⟩
def mX6_goOverWithout : MT := (yX6_goOverWithout, cX6_goOverWithout, 4, some .int, RX6, 6, 160, none)
theorem ok_mX6_goOverWithout : mOK mX6_goOverWithout 1 := ⟨bigW_k5 (List.mem_of_getElem? (i := 122) (by decide +kernel)) (by decide +kernel), in_TallTowers, ⟨pl_TallTowers.2.1, pl_TallTowers.2.2, pd_2⟩, pl_TallTowers.1, rfl⟩
theorem ov_mX6_goOverWithout : mOKv mX6_goOverWithout 1 := ⟨rfl, ok_mX6_goOverWithout, bigW_k5 (List.mem_of_getElem? (i := 121) (by decide +kernel)) (by decide +kernel), bigW_k0 (List.mem_of_getElem? (i := 26) (by decide +kernel)) (by decide +kernel)⟩
def mX6_goOverByRules : MT := (yX6_goOverByRules, cX6_goOverByRules, 5, none, RX6, 6, 160, none)
theorem pd_15 : (parseMethodDescriptor "(III)V").map (fun d => d.parameters.length) = some 3 := by decide +kernel
theorem ok_mX6_goOverByRules : mOK mX6_goOverByRules 3 := ⟨bigW_k5 (List.mem_of_getElem? (i := 103) (by decide +kernel)) (by decide +kernel), in_TallTowers, ⟨pl_TallTowers.2.1, pl_TallTowers.2.2, pd_15⟩, pl_TallTowers.1, rfl⟩
theorem ov_mX6_goOverByRules : mOKv mX6_goOverByRules 3 := ⟨rfl, ok_mX6_goOverByRules, bigW_k5 (List.mem_of_getElem? (i := 102) (by decide +kernel)) (by decide +kernel), bigW_k0 (List.mem_of_getElem? (i := 25) (by decide +kernel)) (by decide +kernel)⟩
def mX6_setOffNow : MT := (yX6_setOffNow, cX6_setOffNow, 4, some .int, RX6, 2, 46, none)
theorem ok_mX6_setOffNow : mOK mX6_setOffNow 3 := ⟨bigW_k5 (List.mem_of_getElem? (i := 51) (by decide +kernel)) (by decide +kernel), in_TallTowers, ⟨pl_TallTowers.2.1, pl_TallTowers.2.2, pd_1⟩, pl_TallTowers.1, rfl⟩
theorem ov_mX6_setOffNow : mOKv mX6_setOffNow 3 := ⟨rfl, ok_mX6_setOffNow, bigW_k5 (List.mem_of_getElem? (i := 50) (by decide +kernel)) (by decide +kernel), bigW_k0 (List.mem_of_getElem? (i := 24) (by decide +kernel)) (by decide +kernel)⟩
def mX6_yearsSetOff : MT := (yX6_yearsSetOff, cX6_yearsSetOff, 4, some .int, RX6, 1, 23, none)
theorem ok_mX6_yearsSetOff : mOK mX6_yearsSetOff 4 := ⟨bigW_k2 (List.mem_of_getElem? (i := 207) (by decide +kernel)) (by decide +kernel), in_TallTowers, ⟨pl_TallTowers.2.1, pl_TallTowers.2.2, pd_0⟩, pl_TallTowers.1, rfl⟩
theorem os_mX6_yearsSetOff : mOKs mX6_yearsSetOff 4 := ⟨ok_mX6_yearsSetOff, bigW_k2 (List.mem_of_getElem? (i := 206) (by decide +kernel)) (by decide +kernel)⟩
def mX6_yearBits : MT := (yX6_yearBits, cX6_yearBits, 4, some .int, RX6, 0, 0, none)
theorem ok_mX6_yearBits : mOK mX6_yearBits 2 := ⟨bigW_k2 (List.mem_of_getElem? (i := 210) (by decide +kernel)) (by decide +kernel), in_TallTowers, ⟨pl_TallTowers.2.1, pl_TallTowers.2.2, pd_4⟩, pl_TallTowers.1, rfl⟩
theorem os_mX6_yearBits : mOKs mX6_yearBits 2 := ⟨ok_mX6_yearBits, bigW_k2 (List.mem_of_getElem? (i := 209) (by decide +kernel)) (by decide +kernel)⟩
def mX6_shareOut : MT := (yX6_shareOut, cX6_shareOut, 14, none, RX6, 0, 0, none)
theorem pd_16 : (parseMethodDescriptor "(J[JI[J)V").map (fun d => d.parameters.length) = some 4 := by decide +kernel
theorem ok_mX6_shareOut : mOK mX6_shareOut 4 := ⟨bigW_k2 (List.mem_of_getElem? (i := 232) (by decide +kernel)) (by decide +kernel), in_TallTowers, ⟨pl_TallTowers.2.1, pl_TallTowers.2.2, pd_16⟩, pl_TallTowers.1, rfl⟩
theorem os_mX6_shareOut : mOKs mX6_shareOut 4 := ⟨ok_mX6_shareOut, bigW_k2 (List.mem_of_getElem? (i := 231) (by decide +kernel)) (by decide +kernel)⟩
def mX7_thrown : MT := (yX7_thrown, cX7_thrown, 1, some .int, RX7, 0, 0, none)
theorem pl_TallTowersModel : plainName RX7 = true ∧ RX7 ≠ "java/lang/invoke/MethodHandle" ∧ RX7 ≠ "java/lang/invoke/VarHandle" := by decide +kernel
theorem ok_mX7_thrown : mOK mX7_thrown 0 := ⟨bigW_k5 (List.mem_of_getElem? (i := 230) (by decide +kernel)) (by decide +kernel), in_TallTowersModel, ⟨pl_TallTowersModel.2.1, pl_TallTowersModel.2.2, pd_6⟩, pl_TallTowersModel.1, rfl⟩
theorem ov_mX7_thrown : mOKv mX7_thrown 0 := ⟨rfl, ok_mX7_thrown, bigW_k5 (List.mem_of_getElem? (i := 228) (by decide +kernel)) (by decide +kernel), bigW_k5 (List.mem_of_getElem? (i := 229) (by decide +kernel)) (by decide +kernel)⟩
def mX7_needs : MT := (yX7_needs, cX7_needs, 4, some .boolean, RX7, 0, 0, none)
theorem pd_17 : (parseMethodDescriptor "(ZII)Z").map (fun d => d.parameters.length) = some 3 := by decide +kernel
theorem ok_mX7_needs : mOK mX7_needs 3 := ⟨bigW_k6 (List.mem_of_getElem? (i := 162) (by decide +kernel)) (by decide +kernel), in_TallTowersModel, ⟨pl_TallTowersModel.2.1, pl_TallTowersModel.2.2, pd_17⟩, pl_TallTowersModel.1, rfl⟩
theorem ov_mX7_needs : mOKv mX7_needs 3 := ⟨rfl, ok_mX7_needs, bigW_k6 (List.mem_of_getElem? (i := 161) (by decide +kernel)) (by decide +kernel), bigW_k0 (List.mem_of_getElem? (i := 27) (by decide +kernel)) (by decide +kernel)⟩
def mX7_within : MT := (yX7_within, cX7_within, 6, some .boolean, RX7, 0, 0, none)
theorem pd_18 : (parseMethodDescriptor "(JJJ)Z").map (fun d => d.parameters.length) = some 3 := by decide +kernel
theorem ok_mX7_within : mOK mX7_within 3 := ⟨bigW_k6 (List.mem_of_getElem? (i := 155) (by decide +kernel)) (by decide +kernel), in_TallTowersModel, ⟨pl_TallTowersModel.2.1, pl_TallTowersModel.2.2, pd_18⟩, pl_TallTowersModel.1, rfl⟩
theorem os_mX7_within : mOKs mX7_within 3 := ⟨ok_mX7_within, bigW_k6 (List.mem_of_getElem? (i := 154) (by decide +kernel)) (by decide +kernel)⟩
def mX7_least : MT := (yX7_least, cX7_least, 4, some .long, RX7, 0, 0, none)
theorem pd_19 : (parseMethodDescriptor "(JJ)J").map (fun d => d.parameters.length) = some 2 := by decide +kernel
theorem ok_mX7_least : mOK mX7_least 2 := ⟨bigW_k7 (List.mem_of_getElem? (i := 41) (by decide +kernel)) (by decide +kernel), in_TallTowersModel, ⟨pl_TallTowersModel.2.1, pl_TallTowersModel.2.2, pd_19⟩, pl_TallTowersModel.1, rfl⟩
theorem os_mX7_least : mOKs mX7_least 2 := ⟨ok_mX7_least, bigW_k7 (List.mem_of_getElem? (i := 40) (by decide +kernel)) (by decide +kernel)⟩
def mX7_tell : MT := (yX7_tell, cX7_tell, 3, some .int, RX7, 0, 0, none)
theorem ok_mX7_tell : mOK mX7_tell 2 := ⟨bigW_k6 (List.mem_of_getElem? (i := 202) (by decide +kernel)) (by decide +kernel), in_TallTowersModel, ⟨pl_TallTowersModel.2.1, pl_TallTowersModel.2.2, pd_4⟩, pl_TallTowersModel.1, rfl⟩
theorem ov_mX7_tell : mOKv mX7_tell 2 := ⟨rfl, ok_mX7_tell, bigW_k6 (List.mem_of_getElem? (i := 201) (by decide +kernel)) (by decide +kernel), bigW_k0 (List.mem_of_getElem? (i := 37) (by decide +kernel)) (by decide +kernel)⟩
def mX7_notes : MT := (yX7_notes, cX7_notes, 7, none, RX7, 0, 0, none)
theorem pd_20 : (parseMethodDescriptor "(IIIIII)V").map (fun d => d.parameters.length) = some 6 := by decide +kernel
theorem ok_mX7_notes : mOK mX7_notes 6 := ⟨bigW_k6 (List.mem_of_getElem? (i := 194) (by decide +kernel)) (by decide +kernel), in_TallTowersModel, ⟨pl_TallTowersModel.2.1, pl_TallTowersModel.2.2, pd_20⟩, pl_TallTowersModel.1, rfl⟩
theorem ov_mX7_notes : mOKv mX7_notes 6 := ⟨rfl, ok_mX7_notes, bigW_k6 (List.mem_of_getElem? (i := 193) (by decide +kernel)) (by decide +kernel), bigW_k0 (List.mem_of_getElem? (i := 35) (by decide +kernel)) (by decide +kernel)⟩
def mX7_eventsOf : MT := (yX7_eventsOf, cX7_eventsOf, 4, some .int, RX7, 0, 0, none)
theorem ok_mX7_eventsOf : mOK mX7_eventsOf 1 := ⟨bigW_k6 (List.mem_of_getElem? (i := 166) (by decide +kernel)) (by decide +kernel), in_TallTowersModel, ⟨pl_TallTowersModel.2.1, pl_TallTowersModel.2.2, pd_2⟩, pl_TallTowersModel.1, rfl⟩
theorem ov_mX7_eventsOf : mOKv mX7_eventsOf 1 := ⟨rfl, ok_mX7_eventsOf, bigW_k6 (List.mem_of_getElem? (i := 165) (by decide +kernel)) (by decide +kernel), bigW_k0 (List.mem_of_getElem? (i := 28) (by decide +kernel)) (by decide +kernel)⟩
def mX7_clearsHarm : MT := (yX7_clearsHarm, cX7_clearsHarm, 3, none, RX7, 0, 0, none)
theorem pd_21 : (parseMethodDescriptor "(I)V").map (fun d => d.parameters.length) = some 1 := by decide +kernel
theorem ok_mX7_clearsHarm : mOK mX7_clearsHarm 1 := ⟨bigW_k7 (List.mem_of_getElem? (i := 116) (by decide +kernel)) (by decide +kernel), in_TallTowersModel, ⟨pl_TallTowersModel.2.1, pl_TallTowersModel.2.2, pd_21⟩, pl_TallTowersModel.1, rfl⟩
theorem ov_mX7_clearsHarm : mOKv mX7_clearsHarm 1 := ⟨rfl, ok_mX7_clearsHarm, bigW_k7 (List.mem_of_getElem? (i := 115) (by decide +kernel)) (by decide +kernel), bigW_k0 (List.mem_of_getElem? (i := 74) (by decide +kernel)) (by decide +kernel)⟩
def mX7_clears : MT := (yX7_clears, cX7_clears, 2, none, RX7, 1, 22, none)
theorem ok_mX7_clears : mOK mX7_clears 0 := ⟨bigW_k7 (List.mem_of_getElem? (i := 205) (by decide +kernel)) (by decide +kernel), in_TallTowersModel, ⟨pl_TallTowersModel.2.1, pl_TallTowersModel.2.2, pd_12⟩, pl_TallTowersModel.1, rfl⟩
theorem ov_mX7_clears : mOKv mX7_clears 0 := ⟨rfl, ok_mX7_clears, bigW_k7 (List.mem_of_getElem? (i := 204) (by decide +kernel)) (by decide +kernel), bigW_k0 (List.mem_of_getElem? (i := 83) (by decide +kernel)) (by decide +kernel)⟩
def mX7_isIn : MT := (yX7_isIn, cX7_isIn, 3, some .boolean, RX7, 0, 0, none)
theorem pd_22 : (parseMethodDescriptor "(II)Z").map (fun d => d.parameters.length) = some 2 := by decide +kernel
theorem ok_mX7_isIn : mOK mX7_isIn 2 := ⟨bigW_k6 (List.mem_of_getElem? (i := 182) (by decide +kernel)) (by decide +kernel), in_TallTowersModel, ⟨pl_TallTowersModel.2.1, pl_TallTowersModel.2.2, pd_22⟩, pl_TallTowersModel.1, rfl⟩
theorem ov_mX7_isIn : mOKv mX7_isIn 2 := ⟨rfl, ok_mX7_isIn, bigW_k6 (List.mem_of_getElem? (i := 181) (by decide +kernel)) (by decide +kernel), bigW_k0 (List.mem_of_getElem? (i := 32) (by decide +kernel)) (by decide +kernel)⟩
def mX7_top : MT := (yX7_top, cX7_top, 2, some .int, RX7, 0, 0, none)
theorem ok_mX7_top : mOK mX7_top 1 := ⟨bigW_k6 (List.mem_of_getElem? (i := 186) (by decide +kernel)) (by decide +kernel), in_TallTowersModel, ⟨pl_TallTowersModel.2.1, pl_TallTowersModel.2.2, pd_2⟩, pl_TallTowersModel.1, rfl⟩
theorem ov_mX7_top : mOKv mX7_top 1 := ⟨rfl, ok_mX7_top, bigW_k6 (List.mem_of_getElem? (i := 185) (by decide +kernel)) (by decide +kernel), bigW_k0 (List.mem_of_getElem? (i := 33) (by decide +kernel)) (by decide +kernel)⟩
def mX7_left : MT := (yX7_left, cX7_left, 2, some .long, RX7, 0, 0, none)
theorem ok_mX7_left : mOK mX7_left 1 := ⟨bigW_k7 (List.mem_of_getElem? (i := 49) (by decide +kernel)) (by decide +kernel), in_TallTowersModel, ⟨pl_TallTowersModel.2.1, pl_TallTowersModel.2.2, pd_5⟩, pl_TallTowersModel.1, rfl⟩
theorem ov_mX7_left : mOKv mX7_left 1 := ⟨rfl, ok_mX7_left, bigW_k7 (List.mem_of_getElem? (i := 48) (by decide +kernel)) (by decide +kernel), bigW_k0 (List.mem_of_getElem? (i := 58) (by decide +kernel)) (by decide +kernel)⟩
def mX7_rungOf : MT := (yX7_rungOf, cX7_rungOf, 3, some .int, RX7, 0, 0, none)
theorem ok_mX7_rungOf : mOK mX7_rungOf 2 := ⟨bigW_k6 (List.mem_of_getElem? (i := 214) (by decide +kernel)) (by decide +kernel), in_TallTowersModel, ⟨pl_TallTowersModel.2.1, pl_TallTowersModel.2.2, pd_4⟩, pl_TallTowersModel.1, rfl⟩
theorem ov_mX7_rungOf : mOKv mX7_rungOf 2 := ⟨rfl, ok_mX7_rungOf, bigW_k6 (List.mem_of_getElem? (i := 213) (by decide +kernel)) (by decide +kernel), bigW_k0 (List.mem_of_getElem? (i := 40) (by decide +kernel)) (by decide +kernel)⟩
def mX7_layersOf : MT := (yX7_layersOf, cX7_layersOf, 2, some .int, RX7, 0, 0, none)
theorem ok_mX7_layersOf : mOK mX7_layersOf 1 := ⟨bigW_k6 (List.mem_of_getElem? (i := 178) (by decide +kernel)) (by decide +kernel), in_TallTowersModel, ⟨pl_TallTowersModel.2.1, pl_TallTowersModel.2.2, pd_2⟩, pl_TallTowersModel.1, rfl⟩
theorem ov_mX7_layersOf : mOKv mX7_layersOf 1 := ⟨rfl, ok_mX7_layersOf, bigW_k6 (List.mem_of_getElem? (i := 177) (by decide +kernel)) (by decide +kernel), bigW_k0 (List.mem_of_getElem? (i := 31) (by decide +kernel)) (by decide +kernel)⟩
def mX7_stacks : MT := (yX7_stacks, cX7_stacks, 5, none, RX7, 1, 22, none)
theorem ok_mX7_stacks : mOK mX7_stacks 1 := ⟨bigW_k6 (List.mem_of_getElem? (i := 210) (by decide +kernel)) (by decide +kernel), in_TallTowersModel, ⟨pl_TallTowersModel.2.1, pl_TallTowersModel.2.2, pd_21⟩, pl_TallTowersModel.1, rfl⟩
theorem ov_mX7_stacks : mOKv mX7_stacks 1 := ⟨rfl, ok_mX7_stacks, bigW_k6 (List.mem_of_getElem? (i := 209) (by decide +kernel)) (by decide +kernel), bigW_k0 (List.mem_of_getElem? (i := 39) (by decide +kernel)) (by decide +kernel)⟩
def mX7_isGap : MT := (yX7_isGap, cX7_isGap, 2, some .boolean, RX7, 1, 21, none)
theorem ok_mX7_isGap : mOK mX7_isGap 1 := ⟨bigW_k7 (List.mem_of_getElem? (i := 26) (by decide +kernel)) (by decide +kernel), in_TallTowersModel, ⟨pl_TallTowersModel.2.1, pl_TallTowersModel.2.2, pd_13⟩, pl_TallTowersModel.1, rfl⟩
theorem ov_mX7_isGap : mOKv mX7_isGap 1 := ⟨rfl, ok_mX7_isGap, bigW_k7 (List.mem_of_getElem? (i := 25) (by decide +kernel)) (by decide +kernel), bigW_k0 (List.mem_of_getElem? (i := 53) (by decide +kernel)) (by decide +kernel)⟩
def mX7_holeOf : MT := (yX7_holeOf, cX7_holeOf, 2, some .int, RX7, 0, 0, none)
theorem ok_mX7_holeOf : mOK mX7_holeOf 1 := ⟨bigW_k7 (List.mem_of_getElem? (i := 38) (by decide +kernel)) (by decide +kernel), in_TallTowersModel, ⟨pl_TallTowersModel.2.1, pl_TallTowersModel.2.2, pd_2⟩, pl_TallTowersModel.1, rfl⟩
theorem ov_mX7_holeOf : mOKv mX7_holeOf 1 := ⟨rfl, ok_mX7_holeOf, bigW_k7 (List.mem_of_getElem? (i := 37) (by decide +kernel)) (by decide +kernel), bigW_k0 (List.mem_of_getElem? (i := 56) (by decide +kernel)) (by decide +kernel)⟩
def mX7_holeLeft : MT := (yX7_holeLeft, cX7_holeLeft, 5, some .long, RX7, 1, 21, none)
theorem ok_mX7_holeLeft : mOK mX7_holeLeft 2 := ⟨bigW_k7 (List.mem_of_getElem? (i := 34) (by decide +kernel)) (by decide +kernel), in_TallTowersModel, ⟨pl_TallTowersModel.2.1, pl_TallTowersModel.2.2, pd_3⟩, pl_TallTowersModel.1, rfl⟩
theorem ov_mX7_holeLeft : mOKv mX7_holeLeft 2 := ⟨rfl, ok_mX7_holeLeft, bigW_k7 (List.mem_of_getElem? (i := 33) (by decide +kernel)) (by decide +kernel), bigW_k0 (List.mem_of_getElem? (i := 55) (by decide +kernel)) (by decide +kernel)⟩
def mX7_canTake : MT := (yX7_canTake, cX7_canTake, 3, some .long, RX7, 1, 23, none)
theorem ok_mX7_canTake : mOK mX7_canTake 2 := ⟨bigW_k7 (List.mem_of_getElem? (i := 45) (by decide +kernel)) (by decide +kernel), in_TallTowersModel, ⟨pl_TallTowersModel.2.1, pl_TallTowersModel.2.2, pd_3⟩, pl_TallTowersModel.1, rfl⟩
theorem ov_mX7_canTake : mOKv mX7_canTake 2 := ⟨rfl, ok_mX7_canTake, bigW_k7 (List.mem_of_getElem? (i := 44) (by decide +kernel)) (by decide +kernel), bigW_k0 (List.mem_of_getElem? (i := 57) (by decide +kernel)) (by decide +kernel)⟩
def mX7_roomOf : MT := (yX7_roomOf, cX7_roomOf, 6, some .long, RX7, 2, 45, none)
theorem ok_mX7_roomOf : mOK mX7_roomOf 2 := ⟨bigW_k7 (List.mem_of_getElem? (i := 69) (by decide +kernel)) (by decide +kernel), in_TallTowersModel, ⟨pl_TallTowersModel.2.1, pl_TallTowersModel.2.2, pd_3⟩, pl_TallTowersModel.1, rfl⟩
theorem ov_mX7_roomOf : mOKv mX7_roomOf 2 := ⟨rfl, ok_mX7_roomOf, bigW_k7 (List.mem_of_getElem? (i := 68) (by decide +kernel)) (by decide +kernel), bigW_k0 (List.mem_of_getElem? (i := 63) (by decide +kernel)) (by decide +kernel)⟩
def mX7_sizesOf : MT := (yX7_sizesOf, cX7_sizesOf, 5, some .long, RX7, 1, 22, none)
theorem ok_mX7_sizesOf : mOK mX7_sizesOf 1 := ⟨bigW_k7 (List.mem_of_getElem? (i := 95) (by decide +kernel)) (by decide +kernel), in_TallTowersModel, ⟨pl_TallTowersModel.2.1, pl_TallTowersModel.2.2, pd_5⟩, pl_TallTowersModel.1, rfl⟩
theorem ov_mX7_sizesOf : mOKv mX7_sizesOf 1 := ⟨rfl, ok_mX7_sizesOf, bigW_k7 (List.mem_of_getElem? (i := 94) (by decide +kernel)) (by decide +kernel), bigW_k0 (List.mem_of_getElem? (i := 69) (by decide +kernel)) (by decide +kernel)⟩
def mX7_offsBy : MT := (yX7_offsBy, cX7_offsBy, 8, some .int, RX7, 0, 0, none)
theorem ok_mX7_offsBy : mOK mX7_offsBy 4 := ⟨bigW_k7 (List.mem_of_getElem? (i := 10) (by decide +kernel)) (by decide +kernel), in_TallTowersModel, ⟨pl_TallTowersModel.2.1, pl_TallTowersModel.2.2, pd_0⟩, pl_TallTowersModel.1, rfl⟩
theorem ov_mX7_offsBy : mOKv mX7_offsBy 4 := ⟨rfl, ok_mX7_offsBy, bigW_k7 (List.mem_of_getElem? (i := 9) (by decide +kernel)) (by decide +kernel), bigW_k0 (List.mem_of_getElem? (i := 49) (by decide +kernel)) (by decide +kernel)⟩
def mX7_isOff : MT := (yX7_isOff, cX7_isOff, 3, some .boolean, RX7, 1, 27, none)
theorem ok_mX7_isOff : mOK mX7_isOff 2 := ⟨bigW_k7 (List.mem_of_getElem? (i := 6) (by decide +kernel)) (by decide +kernel), in_TallTowersModel, ⟨pl_TallTowersModel.2.1, pl_TallTowersModel.2.2, pd_22⟩, pl_TallTowersModel.1, rfl⟩
theorem ov_mX7_isOff : mOKv mX7_isOff 2 := ⟨rfl, ok_mX7_isOff, bigW_k7 (List.mem_of_getElem? (i := 5) (by decide +kernel)) (by decide +kernel), bigW_k0 (List.mem_of_getElem? (i := 48) (by decide +kernel)) (by decide +kernel)⟩
def mX7_isLacking : MT := (yX7_isLacking, cX7_isLacking, 2, some .boolean, RX7, 0, 0, none)
theorem ok_mX7_isLacking : mOK mX7_isLacking 1 := ⟨bigW_k6 (List.mem_of_getElem? (i := 174) (by decide +kernel)) (by decide +kernel), in_TallTowersModel, ⟨pl_TallTowersModel.2.1, pl_TallTowersModel.2.2, pd_13⟩, pl_TallTowersModel.1, rfl⟩
theorem ov_mX7_isLacking : mOKv mX7_isLacking 1 := ⟨rfl, ok_mX7_isLacking, bigW_k6 (List.mem_of_getElem? (i := 173) (by decide +kernel)) (by decide +kernel), bigW_k0 (List.mem_of_getElem? (i := 30) (by decide +kernel)) (by decide +kernel)⟩
def mX7_weightSum : MT := (yX7_weightSum, cX7_weightSum, 5, some .long, RX7, 0, 0, none)
theorem ok_mX7_weightSum : mOK mX7_weightSum 1 := ⟨bigW_k7 (List.mem_of_getElem? (i := 18) (by decide +kernel)) (by decide +kernel), in_TallTowersModel, ⟨pl_TallTowersModel.2.1, pl_TallTowersModel.2.2, pd_5⟩, pl_TallTowersModel.1, rfl⟩
theorem ov_mX7_weightSum : mOKv mX7_weightSum 1 := ⟨rfl, ok_mX7_weightSum, bigW_k7 (List.mem_of_getElem? (i := 17) (by decide +kernel)) (by decide +kernel), bigW_k0 (List.mem_of_getElem? (i := 51) (by decide +kernel)) (by decide +kernel)⟩
def mX7_shares : MT := (yX7_shares, cX7_shares, 9, none, RX7, 1, 24, none)
theorem pd_23 : (parseMethodDescriptor "(JI)V").map (fun d => d.parameters.length) = some 2 := by decide +kernel
theorem ok_mX7_shares : mOK mX7_shares 2 := ⟨bigW_k7 (List.mem_of_getElem? (i := 22) (by decide +kernel)) (by decide +kernel), in_TallTowersModel, ⟨pl_TallTowersModel.2.1, pl_TallTowersModel.2.2, pd_23⟩, pl_TallTowersModel.1, rfl⟩
theorem ov_mX7_shares : mOKv mX7_shares 2 := ⟨rfl, ok_mX7_shares, bigW_k7 (List.mem_of_getElem? (i := 21) (by decide +kernel)) (by decide +kernel), bigW_k0 (List.mem_of_getElem? (i := 52) (by decide +kernel)) (by decide +kernel)⟩
def mX7_fills : MT := (yX7_fills, cX7_fills, 13, some .long, RX7, 2, 45, none)
theorem pd_24 : (parseMethodDescriptor "(IIJ)J").map (fun d => d.parameters.length) = some 3 := by decide +kernel
theorem ok_mX7_fills : mOK mX7_fills 3 := ⟨bigW_k7 (List.mem_of_getElem? (i := 30) (by decide +kernel)) (by decide +kernel), in_TallTowersModel, ⟨pl_TallTowersModel.2.1, pl_TallTowersModel.2.2, pd_24⟩, pl_TallTowersModel.1, rfl⟩
theorem ov_mX7_fills : mOKv mX7_fills 3 := ⟨rfl, ok_mX7_fills, bigW_k7 (List.mem_of_getElem? (i := 29) (by decide +kernel)) (by decide +kernel), bigW_k0 (List.mem_of_getElem? (i := 54) (by decide +kernel)) (by decide +kernel)⟩
def mX7_laysLike : MT := (yX7_laysLike, cX7_laysLike, 3, none, RX7, 2, 49, none)
theorem ok_mX7_laysLike : mOK mX7_laysLike 1 := ⟨bigW_k7 (List.mem_of_getElem? (i := 2) (by decide +kernel)) (by decide +kernel), in_TallTowersModel, ⟨pl_TallTowersModel.2.1, pl_TallTowersModel.2.2, pd_21⟩, pl_TallTowersModel.1, rfl⟩
theorem ov_mX7_laysLike : mOKv mX7_laysLike 1 := ⟨rfl, ok_mX7_laysLike, bigW_k7 (List.mem_of_getElem? (i := 1) (by decide +kernel)) (by decide +kernel), bigW_k0 (List.mem_of_getElem? (i := 47) (by decide +kernel)) (by decide +kernel)⟩
def mX7_laysSizes : MT := (yX7_laysSizes, cX7_laysSizes, 7, none, RX7, 2, 49, none)
theorem ok_mX7_laysSizes : mOK mX7_laysSizes 1 := ⟨bigW_k7 (List.mem_of_getElem? (i := 91) (by decide +kernel)) (by decide +kernel), in_TallTowersModel, ⟨pl_TallTowersModel.2.1, pl_TallTowersModel.2.2, pd_21⟩, pl_TallTowersModel.1, rfl⟩
theorem ov_mX7_laysSizes : mOKv mX7_laysSizes 1 := ⟨rfl, ok_mX7_laysSizes, bigW_k7 (List.mem_of_getElem? (i := 90) (by decide +kernel)) (by decide +kernel), bigW_k0 (List.mem_of_getElem? (i := 68) (by decide +kernel)) (by decide +kernel)⟩
def mX7_byShares : MT := (yX7_byShares, cX7_byShares, 5, none, RX7, 3, 77, none)
theorem pd_25 : (parseMethodDescriptor "(IJ)V").map (fun d => d.parameters.length) = some 2 := by decide +kernel
theorem ok_mX7_byShares : mOK mX7_byShares 2 := ⟨bigW_k7 (List.mem_of_getElem? (i := 14) (by decide +kernel)) (by decide +kernel), in_TallTowersModel, ⟨pl_TallTowersModel.2.1, pl_TallTowersModel.2.2, pd_25⟩, pl_TallTowersModel.1, rfl⟩
theorem ov_mX7_byShares : mOKv mX7_byShares 2 := ⟨rfl, ok_mX7_byShares, bigW_k7 (List.mem_of_getElem? (i := 13) (by decide +kernel)) (by decide +kernel), bigW_k0 (List.mem_of_getElem? (i := 50) (by decide +kernel)) (by decide +kernel)⟩
def mX7_rankOf : MT := (yX7_rankOf, cX7_rankOf, 3, some .long, RX7, 3, 70, none)
theorem ok_mX7_rankOf : mOK mX7_rankOf 2 := ⟨bigW_k7 (List.mem_of_getElem? (i := 65) (by decide +kernel)) (by decide +kernel), in_TallTowersModel, ⟨pl_TallTowersModel.2.1, pl_TallTowersModel.2.2, pd_3⟩, pl_TallTowersModel.1, rfl⟩
theorem ov_mX7_rankOf : mOKv mX7_rankOf 2 := ⟨rfl, ok_mX7_rankOf, bigW_k7 (List.mem_of_getElem? (i := 64) (by decide +kernel)) (by decide +kernel), bigW_k0 (List.mem_of_getElem? (i := 62) (by decide +kernel)) (by decide +kernel)⟩
def mX7_picked : MT := (yX7_picked, cX7_picked, 6, some .int, RX7, 4, 92, none)
theorem ok_mX7_picked : mOK mX7_picked 2 := ⟨bigW_k7 (List.mem_of_getElem? (i := 61) (by decide +kernel)) (by decide +kernel), in_TallTowersModel, ⟨pl_TallTowersModel.2.1, pl_TallTowersModel.2.2, pd_4⟩, pl_TallTowersModel.1, rfl⟩
theorem ov_mX7_picked : mOKv mX7_picked 2 := ⟨rfl, ok_mX7_picked, bigW_k7 (List.mem_of_getElem? (i := 60) (by decide +kernel)) (by decide +kernel), bigW_k0 (List.mem_of_getElem? (i := 61) (by decide +kernel)) (by decide +kernel)⟩
def mX7_byFull : MT := (yX7_byFull, cX7_byFull, 8, none, RX7, 5, 117, none)
theorem ok_mX7_byFull : mOK mX7_byFull 2 := ⟨bigW_k7 (List.mem_of_getElem? (i := 57) (by decide +kernel)) (by decide +kernel), in_TallTowersModel, ⟨pl_TallTowersModel.2.1, pl_TallTowersModel.2.2, pd_25⟩, pl_TallTowersModel.1, rfl⟩
theorem ov_mX7_byFull : mOKv mX7_byFull 2 := ⟨rfl, ok_mX7_byFull, bigW_k7 (List.mem_of_getElem? (i := 56) (by decide +kernel)) (by decide +kernel), bigW_k0 (List.mem_of_getElem? (i := 60) (by decide +kernel)) (by decide +kernel)⟩
def mX7_laysAside : MT := (yX7_laysAside, cX7_laysAside, 3, none, RX7, 0, 0, none)
theorem ok_mX7_laysAside : mOK mX7_laysAside 1 := ⟨bigW_k6 (List.mem_of_getElem? (i := 238) (by decide +kernel)) (by decide +kernel), in_TallTowersModel, ⟨pl_TallTowersModel.2.1, pl_TallTowersModel.2.2, pd_21⟩, pl_TallTowersModel.1, rfl⟩
theorem ov_mX7_laysAside : mOKv mX7_laysAside 1 := ⟨rfl, ok_mX7_laysAside, bigW_k6 (List.mem_of_getElem? (i := 237) (by decide +kernel)) (by decide +kernel), bigW_k0 (List.mem_of_getElem? (i := 46) (by decide +kernel)) (by decide +kernel)⟩
def mX7_laysBack : MT := (yX7_laysBack, cX7_laysBack, 3, none, RX7, 0, 0, none)
theorem ok_mX7_laysBack : mOK mX7_laysBack 1 := ⟨bigW_k7 (List.mem_of_getElem? (i := 53) (by decide +kernel)) (by decide +kernel), in_TallTowersModel, ⟨pl_TallTowersModel.2.1, pl_TallTowersModel.2.2, pd_21⟩, pl_TallTowersModel.1, rfl⟩
theorem ov_mX7_laysBack : mOKv mX7_laysBack 1 := ⟨rfl, ok_mX7_laysBack, bigW_k7 (List.mem_of_getElem? (i := 52) (by decide +kernel)) (by decide +kernel), bigW_k0 (List.mem_of_getElem? (i := 59) (by decide +kernel)) (by decide +kernel)⟩
def mX7_laysFair : MT := (yX7_laysFair, cX7_laysFair, 5, none, RX7, 4, 101, none)
theorem ok_mX7_laysFair : mOK mX7_laysFair 2 := ⟨bigW_k6 (List.mem_of_getElem? (i := 234) (by decide +kernel)) (by decide +kernel), in_TallTowersModel, ⟨pl_TallTowersModel.2.1, pl_TallTowersModel.2.2, pd_25⟩, pl_TallTowersModel.1, rfl⟩
theorem ov_mX7_laysFair : mOKv mX7_laysFair 2 := ⟨rfl, ok_mX7_laysFair, bigW_k6 (List.mem_of_getElem? (i := 233) (by decide +kernel)) (by decide +kernel), bigW_k0 (List.mem_of_getElem? (i := 45) (by decide +kernel)) (by decide +kernel)⟩
def mX7_laysUnlike : MT := (yX7_laysUnlike, cX7_laysUnlike, 7, some .long, RX7, 0, 0, none)
theorem ok_mX7_laysUnlike : mOK mX7_laysUnlike 1 := ⟨bigW_k7 (List.mem_of_getElem? (i := 77) (by decide +kernel)) (by decide +kernel), in_TallTowersModel, ⟨pl_TallTowersModel.2.1, pl_TallTowersModel.2.2, pd_5⟩, pl_TallTowersModel.1, rfl⟩
theorem ov_mX7_laysUnlike : mOKv mX7_laysUnlike 1 := ⟨rfl, ok_mX7_laysUnlike, bigW_k7 (List.mem_of_getElem? (i := 76) (by decide +kernel)) (by decide +kernel), bigW_k0 (List.mem_of_getElem? (i := 65) (by decide +kernel)) (by decide +kernel)⟩
def mX7_contributes : MT := (yX7_contributes, cX7_contributes, 11, none, RX7, 2, 52, none)
theorem ok_mX7_contributes : mOK mX7_contributes 1 := ⟨bigW_k7 (List.mem_of_getElem? (i := 73) (by decide +kernel)) (by decide +kernel), in_TallTowersModel, ⟨pl_TallTowersModel.2.1, pl_TallTowersModel.2.2, pd_21⟩, pl_TallTowersModel.1, rfl⟩
theorem ov_mX7_contributes : mOKv mX7_contributes 1 := ⟨rfl, ok_mX7_contributes, bigW_k7 (List.mem_of_getElem? (i := 72) (by decide +kernel)) (by decide +kernel), bigW_k0 (List.mem_of_getElem? (i := 64) (by decide +kernel)) (by decide +kernel)⟩
def mX7_levelled : MT := (yX7_levelled, cX7_levelled, 6, some .long, RX7, 1, 23, none)
theorem pd_26 : (parseMethodDescriptor "(J)J").map (fun d => d.parameters.length) = some 1 := by decide +kernel
theorem ok_mX7_levelled : mOK mX7_levelled 1 := ⟨bigW_k7 (List.mem_of_getElem? (i := 87) (by decide +kernel)) (by decide +kernel), in_TallTowersModel, ⟨pl_TallTowersModel.2.1, pl_TallTowersModel.2.2, pd_26⟩, pl_TallTowersModel.1, rfl⟩
theorem ov_mX7_levelled : mOKv mX7_levelled 1 := ⟨rfl, ok_mX7_levelled, bigW_k7 (List.mem_of_getElem? (i := 86) (by decide +kernel)) (by decide +kernel), bigW_k0 (List.mem_of_getElem? (i := 67) (by decide +kernel)) (by decide +kernel)⟩
def mX7_byLevel : MT := (yX7_byLevel, cX7_byLevel, 12, none, RX7, 3, 77, none)
theorem ok_mX7_byLevel : mOK mX7_byLevel 2 := ⟨bigW_k7 (List.mem_of_getElem? (i := 81) (by decide +kernel)) (by decide +kernel), in_TallTowersModel, ⟨pl_TallTowersModel.2.1, pl_TallTowersModel.2.2, pd_25⟩, pl_TallTowersModel.1, rfl⟩
theorem ov_mX7_byLevel : mOKv mX7_byLevel 2 := ⟨rfl, ok_mX7_byLevel, bigW_k7 (List.mem_of_getElem? (i := 80) (by decide +kernel)) (by decide +kernel), bigW_k0 (List.mem_of_getElem? (i := 66) (by decide +kernel)) (by decide +kernel)⟩
def mX7_fallsOn : MT := (yX7_fallsOn, cX7_fallsOn, 5, none, RX7, 0, 0, none)
theorem pd_27 : (parseMethodDescriptor "(IIJ)V").map (fun d => d.parameters.length) = some 3 := by decide +kernel
theorem ok_mX7_fallsOn : mOK mX7_fallsOn 3 := ⟨bigW_k7 (List.mem_of_getElem? (i := 104) (by decide +kernel)) (by decide +kernel), in_TallTowersModel, ⟨pl_TallTowersModel.2.1, pl_TallTowersModel.2.2, pd_27⟩, pl_TallTowersModel.1, rfl⟩
theorem ov_mX7_fallsOn : mOKv mX7_fallsOn 3 := ⟨rfl, ok_mX7_fallsOn, bigW_k7 (List.mem_of_getElem? (i := 103) (by decide +kernel)) (by decide +kernel), bigW_k0 (List.mem_of_getElem? (i := 71) (by decide +kernel)) (by decide +kernel)⟩
def mX7_splits : MT := (yX7_splits, cX7_splits, 12, none, RX7, 1, 24, none)
theorem pd_28 : (parseMethodDescriptor "(II)V").map (fun d => d.parameters.length) = some 2 := by decide +kernel
theorem ok_mX7_splits : mOK mX7_splits 2 := ⟨bigW_k7 (List.mem_of_getElem? (i := 99) (by decide +kernel)) (by decide +kernel), in_TallTowersModel, ⟨pl_TallTowersModel.2.1, pl_TallTowersModel.2.2, pd_28⟩, pl_TallTowersModel.1, rfl⟩
theorem ov_mX7_splits : mOKv mX7_splits 2 := ⟨rfl, ok_mX7_splits, bigW_k7 (List.mem_of_getElem? (i := 98) (by decide +kernel)) (by decide +kernel), bigW_k0 (List.mem_of_getElem? (i := 70) (by decide +kernel)) (by decide +kernel)⟩
def mX7_spreads : MT := (yX7_spreads, cX7_spreads, 5, none, RX7, 6, 144, none)
theorem ok_mX7_spreads : mOK mX7_spreads 2 := ⟨bigW_k6 (List.mem_of_getElem? (i := 230) (by decide +kernel)) (by decide +kernel), in_TallTowersModel, ⟨pl_TallTowersModel.2.1, pl_TallTowersModel.2.2, pd_25⟩, pl_TallTowersModel.1, rfl⟩
theorem ov_mX7_spreads : mOKv mX7_spreads 2 := ⟨rfl, ok_mX7_spreads, bigW_k6 (List.mem_of_getElem? (i := 229) (by decide +kernel)) (by decide +kernel), bigW_k0 (List.mem_of_getElem? (i := 44) (by decide +kernel)) (by decide +kernel)⟩
def mX7_insuredOf : MT := (yX7_insuredOf, cX7_insuredOf, 5, some .long, RX7, 0, 0, none)
theorem ok_mX7_insuredOf : mOK mX7_insuredOf 1 := ⟨bigW_k7 (List.mem_of_getElem? (i := 173) (by decide +kernel)) (by decide +kernel), in_TallTowersModel, ⟨pl_TallTowersModel.2.1, pl_TallTowersModel.2.2, pd_5⟩, pl_TallTowersModel.1, rfl⟩
theorem ov_mX7_insuredOf : mOKv mX7_insuredOf 1 := ⟨rfl, ok_mX7_insuredOf, bigW_k7 (List.mem_of_getElem? (i := 172) (by decide +kernel)) (by decide +kernel), bigW_k0 (List.mem_of_getElem? (i := 79) (by decide +kernel)) (by decide +kernel)⟩
def mX7_bearsOf : MT := (yX7_bearsOf, cX7_bearsOf, 3, some .long, RX7, 1, 24, none)
theorem ok_mX7_bearsOf : mOK mX7_bearsOf 2 := ⟨bigW_k8 (List.mem_of_getElem? (i := 59) (by decide +kernel)) (by decide +kernel), in_TallTowersModel, ⟨pl_TallTowersModel.2.1, pl_TallTowersModel.2.2, pd_3⟩, pl_TallTowersModel.1, rfl⟩
theorem ov_mX7_bearsOf : mOKv mX7_bearsOf 2 := ⟨rfl, ok_mX7_bearsOf, bigW_k8 (List.mem_of_getElem? (i := 58) (by decide +kernel)) (by decide +kernel), bigW_k0 (List.mem_of_getElem? (i := 93) (by decide +kernel)) (by decide +kernel)⟩
def mX7_bearsAll : MT := (yX7_bearsAll, cX7_bearsAll, 5, some .long, RX7, 2, 46, none)
theorem ok_mX7_bearsAll : mOK mX7_bearsAll 1 := ⟨bigW_k8 (List.mem_of_getElem? (i := 71) (by decide +kernel)) (by decide +kernel), in_TallTowersModel, ⟨pl_TallTowersModel.2.1, pl_TallTowersModel.2.2, pd_5⟩, pl_TallTowersModel.1, rfl⟩
theorem ov_mX7_bearsAll : mOKv mX7_bearsAll 1 := ⟨rfl, ok_mX7_bearsAll, bigW_k8 (List.mem_of_getElem? (i := 70) (by decide +kernel)) (by decide +kernel), bigW_k0 (List.mem_of_getElem? (i := 94) (by decide +kernel)) (by decide +kernel)⟩
def mX7_canPlace : MT := (yX7_canPlace, cX7_canPlace, 5, some .boolean, RX7, 1, 22, none)
theorem ok_mX7_canPlace : mOK mX7_canPlace 3 := ⟨bigW_k6 (List.mem_of_getElem? (i := 170) (by decide +kernel)) (by decide +kernel), in_TallTowersModel, ⟨pl_TallTowersModel.2.1, pl_TallTowersModel.2.2, pd_14⟩, pl_TallTowersModel.1, rfl⟩
theorem ov_mX7_canPlace : mOKv mX7_canPlace 3 := ⟨rfl, ok_mX7_canPlace, bigW_k6 (List.mem_of_getElem? (i := 169) (by decide +kernel)) (by decide +kernel), bigW_k0 (List.mem_of_getElem? (i := 29) (by decide +kernel)) (by decide +kernel)⟩
def mX7_signedTenths : MT := (yX7_signedTenths, cX7_signedTenths, 4, some .int, RX7, 0, 0, none)
theorem ok_mX7_signedTenths : mOK mX7_signedTenths 1 := ⟨bigW_k7 (List.mem_of_getElem? (i := 134) (by decide +kernel)) (by decide +kernel), in_TallTowersModel, ⟨pl_TallTowersModel.2.1, pl_TallTowersModel.2.2, pd_2⟩, pl_TallTowersModel.1, rfl⟩
theorem ov_mX7_signedTenths : mOKv mX7_signedTenths 1 := ⟨rfl, ok_mX7_signedTenths, bigW_k7 (List.mem_of_getElem? (i := 133) (by decide +kernel)) (by decide +kernel), bigW_k0 (List.mem_of_getElem? (i := 77) (by decide +kernel)) (by decide +kernel)⟩
def mX7_canSign : MT := (yX7_canSign, cX7_canSign, 5, some .boolean, RX7, 1, 23, none)
theorem ok_mX7_canSign : mOK mX7_canSign 3 := ⟨bigW_k7 (List.mem_of_getElem? (i := 130) (by decide +kernel)) (by decide +kernel), in_TallTowersModel, ⟨pl_TallTowersModel.2.1, pl_TallTowersModel.2.2, pd_14⟩, pl_TallTowersModel.1, rfl⟩
theorem ov_mX7_canSign : mOKv mX7_canSign 3 := ⟨rfl, ok_mX7_canSign, bigW_k7 (List.mem_of_getElem? (i := 129) (by decide +kernel)) (by decide +kernel), bigW_k0 (List.mem_of_getElem? (i := 76) (by decide +kernel)) (by decide +kernel)⟩
def mX7_can : MT := (yX7_can, cX7_can, 2, some .boolean, RX7, 2, 47, none)
theorem ok_mX7_can : mOK mX7_can 1 := ⟨bigW_k7 (List.mem_of_getElem? (i := 213) (by decide +kernel)) (by decide +kernel), in_TallTowersModel, ⟨pl_TallTowersModel.2.1, pl_TallTowersModel.2.2, pd_13⟩, pl_TallTowersModel.1, rfl⟩
theorem ov_mX7_can : mOKv mX7_can 1 := ⟨rfl, ok_mX7_can, bigW_k7 (List.mem_of_getElem? (i := 212) (by decide +kernel)) (by decide +kernel), bigW_k0 (List.mem_of_getElem? (i := 85) (by decide +kernel)) (by decide +kernel)⟩
def mX7_does : MT := (yX7_does, cX7_does, 3, none, RX7, 8, 190, none)
theorem ok_mX7_does : mOK mX7_does 1 := ⟨bigW_k6 (List.mem_of_getElem? (i := 198) (by decide +kernel)) (by decide +kernel), in_TallTowersModel, ⟨pl_TallTowersModel.2.1, pl_TallTowersModel.2.2, pd_21⟩, pl_TallTowersModel.1, rfl⟩
theorem ov_mX7_does : mOKv mX7_does 1 := ⟨rfl, ok_mX7_does, bigW_k6 (List.mem_of_getElem? (i := 197) (by decide +kernel)) (by decide +kernel), bigW_k0 (List.mem_of_getElem? (i := 36) (by decide +kernel)) (by decide +kernel)⟩
def mX7_rulesAre : MT := (yX7_rulesAre, cX7_rulesAre, 4, none, RX7, 0, 0, none)
theorem ok_mX7_rulesAre : mOK mX7_rulesAre 3 := ⟨bigW_k6 (List.mem_of_getElem? (i := 222) (by decide +kernel)) (by decide +kernel), in_TallTowersModel, ⟨pl_TallTowersModel.2.1, pl_TallTowersModel.2.2, pd_15⟩, pl_TallTowersModel.1, rfl⟩
theorem ov_mX7_rulesAre : mOKv mX7_rulesAre 3 := ⟨rfl, ok_mX7_rulesAre, bigW_k6 (List.mem_of_getElem? (i := 221) (by decide +kernel)) (by decide +kernel), bigW_k0 (List.mem_of_getElem? (i := 42) (by decide +kernel)) (by decide +kernel)⟩
def mX7_places : MT := (yX7_places, cX7_places, 3, none, RX7, 2, 46, none)
theorem ok_mX7_places : mOK mX7_places 1 := ⟨bigW_k6 (List.mem_of_getElem? (i := 206) (by decide +kernel)) (by decide +kernel), in_TallTowersModel, ⟨pl_TallTowersModel.2.1, pl_TallTowersModel.2.2, pd_21⟩, pl_TallTowersModel.1, rfl⟩
theorem ov_mX7_places : mOKv mX7_places 1 := ⟨rfl, ok_mX7_places, bigW_k6 (List.mem_of_getElem? (i := 205) (by decide +kernel)) (by decide +kernel), bigW_k0 (List.mem_of_getElem? (i := 38) (by decide +kernel)) (by decide +kernel)⟩
def mX7_signs : MT := (yX7_signs, cX7_signs, 4, none, RX7, 0, 0, none)
theorem ok_mX7_signs : mOK mX7_signs 3 := ⟨bigW_k6 (List.mem_of_getElem? (i := 218) (by decide +kernel)) (by decide +kernel), in_TallTowersModel, ⟨pl_TallTowersModel.2.1, pl_TallTowersModel.2.2, pd_15⟩, pl_TallTowersModel.1, rfl⟩
theorem ov_mX7_signs : mOKv mX7_signs 3 := ⟨rfl, ok_mX7_signs, bigW_k6 (List.mem_of_getElem? (i := 217) (by decide +kernel)) (by decide +kernel), bigW_k0 (List.mem_of_getElem? (i := 41) (by decide +kernel)) (by decide +kernel)⟩
def mX7_harms : MT := (yX7_harms, cX7_harms, 3, none, RX7, 7, 168, none)
theorem ok_mX7_harms : mOK mX7_harms 1 := ⟨bigW_k6 (List.mem_of_getElem? (i := 226) (by decide +kernel)) (by decide +kernel), in_TallTowersModel, ⟨pl_TallTowersModel.2.1, pl_TallTowersModel.2.2, pd_21⟩, pl_TallTowersModel.1, rfl⟩
theorem ov_mX7_harms : mOKv mX7_harms 1 := ⟨rfl, ok_mX7_harms, bigW_k6 (List.mem_of_getElem? (i := 225) (by decide +kernel)) (by decide +kernel), bigW_k0 (List.mem_of_getElem? (i := 43) (by decide +kernel)) (by decide +kernel)⟩
def mX7_grows : MT := (yX7_grows, cX7_grows, 3, none, RX7, 7, 168, none)
theorem ok_mX7_grows : mOK mX7_grows 2 := ⟨bigW_k7 (List.mem_of_getElem? (i := 108) (by decide +kernel)) (by decide +kernel), in_TallTowersModel, ⟨pl_TallTowersModel.2.1, pl_TallTowersModel.2.2, pd_28⟩, pl_TallTowersModel.1, rfl⟩
theorem ov_mX7_grows : mOKv mX7_grows 2 := ⟨rfl, ok_mX7_grows, bigW_k7 (List.mem_of_getElem? (i := 107) (by decide +kernel)) (by decide +kernel), bigW_k0 (List.mem_of_getElem? (i := 72) (by decide +kernel)) (by decide +kernel)⟩
def mX7_reopens : MT := (yX7_reopens, cX7_reopens, 3, none, RX7, 7, 168, none)
theorem ok_mX7_reopens : mOK mX7_reopens 1 := ⟨bigW_k7 (List.mem_of_getElem? (i := 112) (by decide +kernel)) (by decide +kernel), in_TallTowersModel, ⟨pl_TallTowersModel.2.1, pl_TallTowersModel.2.2, pd_21⟩, pl_TallTowersModel.1, rfl⟩
theorem ov_mX7_reopens : mOKv mX7_reopens 1 := ⟨rfl, ok_mX7_reopens, bigW_k7 (List.mem_of_getElem? (i := 111) (by decide +kernel)) (by decide +kernel), bigW_k0 (List.mem_of_getElem? (i := 73) (by decide +kernel)) (by decide +kernel)⟩
def mX7_goes : MT := (yX7_goes, cX7_goes, 2, none, RX7, 9, 212, none)
theorem ok_mX7_goes : mOK mX7_goes 1 := ⟨bigW_k7 (List.mem_of_getElem? (i := 209) (by decide +kernel)) (by decide +kernel), in_TallTowersModel, ⟨pl_TallTowersModel.2.1, pl_TallTowersModel.2.2, pd_21⟩, pl_TallTowersModel.1, rfl⟩
theorem ov_mX7_goes : mOKv mX7_goes 1 := ⟨rfl, ok_mX7_goes, bigW_k7 (List.mem_of_getElem? (i := 208) (by decide +kernel)) (by decide +kernel), bigW_k0 (List.mem_of_getElem? (i := 84) (by decide +kernel)) (by decide +kernel)⟩
def mX7_begins : MT := (yX7_begins, cX7_begins, 1, none, RX7, 2, 43, none)
theorem ok_mX7_begins : mOK mX7_begins 0 := ⟨bigW_k7 (List.mem_of_getElem? (i := 201) (by decide +kernel)) (by decide +kernel), in_TallTowersModel, ⟨pl_TallTowersModel.2.1, pl_TallTowersModel.2.2, pd_12⟩, pl_TallTowersModel.1, rfl⟩
theorem ov_mX7_begins : mOKv mX7_begins 0 := ⟨rfl, ok_mX7_begins, bigW_k7 (List.mem_of_getElem? (i := 200) (by decide +kernel)) (by decide +kernel), bigW_k0 (List.mem_of_getElem? (i := 82) (by decide +kernel)) (by decide +kernel)⟩
def mX7_goesOver : MT := (yX7_goesOver, cX7_goesOver, 2, none, RX7, 10, 233, none)
theorem ok_mX7_goesOver : mOK mX7_goesOver 0 := ⟨bigW_k7 (List.mem_of_getElem? (i := 197) (by decide +kernel)) (by decide +kernel), in_TallTowersModel, ⟨pl_TallTowersModel.2.1, pl_TallTowersModel.2.2, pd_12⟩, pl_TallTowersModel.1, rfl⟩
theorem ov_mX7_goesOver : mOKv mX7_goesOver 0 := ⟨rfl, ok_mX7_goesOver, bigW_k7 (List.mem_of_getElem? (i := 196) (by decide +kernel)) (by decide +kernel), bigW_k0 (List.mem_of_getElem? (i := 81) (by decide +kernel)) (by decide +kernel)⟩
def mX7_goesWithout : MT := (yX7_goesWithout, cX7_goesWithout, 3, none, RX7, 10, 233, none)
theorem ok_mX7_goesWithout : mOK mX7_goesWithout 1 := ⟨bigW_k8 (List.mem_of_getElem? (i := 155) (by decide +kernel)) (by decide +kernel), in_TallTowersModel, ⟨pl_TallTowersModel.2.1, pl_TallTowersModel.2.2, pd_21⟩, pl_TallTowersModel.1, rfl⟩
theorem ov_mX7_goesWithout : mOKv mX7_goesWithout 1 := ⟨rfl, ok_mX7_goesWithout, bigW_k8 (List.mem_of_getElem? (i := 154) (by decide +kernel)) (by decide +kernel), bigW_k0 (List.mem_of_getElem? (i := 102) (by decide +kernel)) (by decide +kernel)⟩
def mX7_goesBy : MT := (yX7_goesBy, cX7_goesBy, 5, none, RX7, 10, 233, none)
theorem ok_mX7_goesBy : mOK mX7_goesBy 3 := ⟨bigW_k8 (List.mem_of_getElem? (i := 135) (by decide +kernel)) (by decide +kernel), in_TallTowersModel, ⟨pl_TallTowersModel.2.1, pl_TallTowersModel.2.2, pd_15⟩, pl_TallTowersModel.1, rfl⟩
theorem ov_mX7_goesBy : mOKv mX7_goesBy 3 := ⟨rfl, ok_mX7_goesBy, bigW_k8 (List.mem_of_getElem? (i := 134) (by decide +kernel)) (by decide +kernel), bigW_k0 (List.mem_of_getElem? (i := 99) (by decide +kernel)) (by decide +kernel)⟩
def mX7_hasRoom : MT := (yX7_hasRoom, cX7_hasRoom, 2, some .boolean, RX7, 1, 23, none)
theorem ok_mX7_hasRoom : mOK mX7_hasRoom 1 := ⟨bigW_k6 (List.mem_of_getElem? (i := 190) (by decide +kernel)) (by decide +kernel), in_TallTowersModel, ⟨pl_TallTowersModel.2.1, pl_TallTowersModel.2.2, pd_13⟩, pl_TallTowersModel.1, rfl⟩
theorem ov_mX7_hasRoom : mOKv mX7_hasRoom 1 := ⟨rfl, ok_mX7_hasRoom, bigW_k6 (List.mem_of_getElem? (i := 189) (by decide +kernel)) (by decide +kernel), bigW_k0 (List.mem_of_getElem? (i := 34) (by decide +kernel)) (by decide +kernel)⟩
def mX7_place : MT := (yX7_place, cX7_place, 7, some .int, RX7, 9, 212, none)
theorem ok_mX7_place : mOK mX7_place 4 := ⟨bigW_k6 (List.mem_of_getElem? (i := 151) (by decide +kernel)) (by decide +kernel), in_TallTowersModel, ⟨pl_TallTowersModel.2.1, pl_TallTowersModel.2.2, pd_0⟩, pl_TallTowersModel.1, rfl⟩
theorem ov_mX7_place : mOKv mX7_place 4 := ⟨rfl, ok_mX7_place, bigW_k6 (List.mem_of_getElem? (i := 149) (by decide +kernel)) (by decide +kernel), bigW_k6 (List.mem_of_getElem? (i := 150) (by decide +kernel)) (by decide +kernel)⟩
def mX7_isOne : MT := (yX7_isOne, cX7_isOne, 3, some .boolean, RX7, 1, 25, none)
theorem ok_mX7_isOne : mOK mX7_isOne 2 := ⟨bigW_k7 (List.mem_of_getElem? (i := 124) (by decide +kernel)) (by decide +kernel), in_TallTowersModel, ⟨pl_TallTowersModel.2.1, pl_TallTowersModel.2.2, pd_22⟩, pl_TallTowersModel.1, rfl⟩
theorem ov_mX7_isOne : mOKv mX7_isOne 2 := ⟨rfl, ok_mX7_isOne, bigW_k7 (List.mem_of_getElem? (i := 123) (by decide +kernel)) (by decide +kernel), bigW_k0 (List.mem_of_getElem? (i := 75) (by decide +kernel)) (by decide +kernel)⟩
def mX7_sign : MT := (yX7_sign, cX7_sign, 4, some .int, RX7, 9, 212, none)
theorem ok_mX7_sign : mOK mX7_sign 3 := ⟨bigW_k7 (List.mem_of_getElem? (i := 120) (by decide +kernel)) (by decide +kernel), in_TallTowersModel, ⟨pl_TallTowersModel.2.1, pl_TallTowersModel.2.2, pd_1⟩, pl_TallTowersModel.1, rfl⟩
theorem ov_mX7_sign : mOKv mX7_sign 3 := ⟨rfl, ok_mX7_sign, bigW_k7 (List.mem_of_getElem? (i := 118) (by decide +kernel)) (by decide +kernel), bigW_k7 (List.mem_of_getElem? (i := 119) (by decide +kernel)) (by decide +kernel)⟩
def mX7_bits : MT := (yX7_bits, cX7_bits, 3, some .int, RX7, 0, 0, none)
theorem ok_mX7_bits : mOK mX7_bits 1 := ⟨bigW_k7 (List.mem_of_getElem? (i := 141) (by decide +kernel)) (by decide +kernel), in_TallTowersModel, ⟨pl_TallTowersModel.2.1, pl_TallTowersModel.2.2, pd_2⟩, pl_TallTowersModel.1, rfl⟩
theorem os_mX7_bits : mOKs mX7_bits 1 := ⟨ok_mX7_bits, bigW_k7 (List.mem_of_getElem? (i := 140) (by decide +kernel)) (by decide +kernel)⟩
def mX7_lack : MT := (yX7_lack, cX7_lack, 2, some .int, RX7, 9, 212, none)
theorem ok_mX7_lack : mOK mX7_lack 1 := ⟨bigW_k7 (List.mem_of_getElem? (i := 138) (by decide +kernel)) (by decide +kernel), in_TallTowersModel, ⟨pl_TallTowersModel.2.1, pl_TallTowersModel.2.2, pd_2⟩, pl_TallTowersModel.1, rfl⟩
theorem ov_mX7_lack : mOKv mX7_lack 1 := ⟨rfl, ok_mX7_lack, bigW_k7 (List.mem_of_getElem? (i := 136) (by decide +kernel)) (by decide +kernel), bigW_k7 (List.mem_of_getElem? (i := 137) (by decide +kernel)) (by decide +kernel)⟩
def mX7_areRules : MT := (yX7_areRules, cX7_areRules, 3, some .boolean, RX7, 1, 25, none)
theorem ok_mX7_areRules : mOK mX7_areRules 3 := ⟨bigW_k7 (List.mem_of_getElem? (i := 148) (by decide +kernel)) (by decide +kernel), in_TallTowersModel, ⟨pl_TallTowersModel.2.1, pl_TallTowersModel.2.2, pd_14⟩, pl_TallTowersModel.1, rfl⟩
theorem os_mX7_areRules : mOKs mX7_areRules 3 := ⟨ok_mX7_areRules, bigW_k7 (List.mem_of_getElem? (i := 147) (by decide +kernel)) (by decide +kernel)⟩
def mX7_rules : MT := (yX7_rules, cX7_rules, 4, some .int, RX7, 9, 212, none)
theorem ok_mX7_rules : mOK mX7_rules 3 := ⟨bigW_k7 (List.mem_of_getElem? (i := 145) (by decide +kernel)) (by decide +kernel), in_TallTowersModel, ⟨pl_TallTowersModel.2.1, pl_TallTowersModel.2.2, pd_1⟩, pl_TallTowersModel.1, rfl⟩
theorem ov_mX7_rules : mOKv mX7_rules 3 := ⟨rfl, ok_mX7_rules, bigW_k7 (List.mem_of_getElem? (i := 143) (by decide +kernel)) (by decide +kernel), bigW_k7 (List.mem_of_getElem? (i := 144) (by decide +kernel)) (by decide +kernel)⟩
def mX7_areYears : MT := (yX7_areYears, cX7_areYears, 3, some .boolean, RX7, 0, 0, none)
theorem ok_mX7_areYears : mOK mX7_areYears 3 := ⟨bigW_k7 (List.mem_of_getElem? (i := 156) (by decide +kernel)) (by decide +kernel), in_TallTowersModel, ⟨pl_TallTowersModel.2.1, pl_TallTowersModel.2.2, pd_14⟩, pl_TallTowersModel.1, rfl⟩
theorem os_mX7_areYears : mOKs mX7_areYears 3 := ⟨ok_mX7_areYears, bigW_k7 (List.mem_of_getElem? (i := 155) (by decide +kernel)) (by decide +kernel)⟩
def mX7_isLoss : MT := (yX7_isLoss, cX7_isLoss, 1, some .boolean, RX7, 1, 25, none)
theorem ok_mX7_isLoss : mOK mX7_isLoss 1 := ⟨bigW_k7 (List.mem_of_getElem? (i := 159) (by decide +kernel)) (by decide +kernel), in_TallTowersModel, ⟨pl_TallTowersModel.2.1, pl_TallTowersModel.2.2, pd_13⟩, pl_TallTowersModel.1, rfl⟩
theorem os_mX7_isLoss : mOKs mX7_isLoss 1 := ⟨ok_mX7_isLoss, bigW_k7 (List.mem_of_getElem? (i := 158) (by decide +kernel)) (by decide +kernel)⟩
def mX7_harm : MT := (yX7_harm, cX7_harm, 6, some .int, RX7, 9, 212, none)
theorem ok_mX7_harm : mOK mX7_harm 4 := ⟨bigW_k7 (List.mem_of_getElem? (i := 153) (by decide +kernel)) (by decide +kernel), in_TallTowersModel, ⟨pl_TallTowersModel.2.1, pl_TallTowersModel.2.2, pd_0⟩, pl_TallTowersModel.1, rfl⟩
theorem ov_mX7_harm : mOKv mX7_harm 4 := ⟨rfl, ok_mX7_harm, bigW_k7 (List.mem_of_getElem? (i := 151) (by decide +kernel)) (by decide +kernel), bigW_k7 (List.mem_of_getElem? (i := 152) (by decide +kernel)) (by decide +kernel)⟩
def mX7_isHarmOne : MT := (yX7_isHarmOne, cX7_isHarmOne, 2, some .boolean, RX7, 1, 25, none)
theorem ok_mX7_isHarmOne : mOK mX7_isHarmOne 1 := ⟨bigW_k7 (List.mem_of_getElem? (i := 168) (by decide +kernel)) (by decide +kernel), in_TallTowersModel, ⟨pl_TallTowersModel.2.1, pl_TallTowersModel.2.2, pd_13⟩, pl_TallTowersModel.1, rfl⟩
theorem ov_mX7_isHarmOne : mOKv mX7_isHarmOne 1 := ⟨rfl, ok_mX7_isHarmOne, bigW_k7 (List.mem_of_getElem? (i := 167) (by decide +kernel)) (by decide +kernel), bigW_k0 (List.mem_of_getElem? (i := 78) (by decide +kernel)) (by decide +kernel)⟩
def mX7_grow : MT := (yX7_grow, cX7_grow, 5, some .long, RX7, 9, 212, none)
theorem ok_mX7_grow : mOK mX7_grow 2 := ⟨bigW_k7 (List.mem_of_getElem? (i := 164) (by decide +kernel)) (by decide +kernel), in_TallTowersModel, ⟨pl_TallTowersModel.2.1, pl_TallTowersModel.2.2, pd_3⟩, pl_TallTowersModel.1, rfl⟩
theorem ov_mX7_grow : mOKv mX7_grow 2 := ⟨rfl, ok_mX7_grow, bigW_k7 (List.mem_of_getElem? (i := 162) (by decide +kernel)) (by decide +kernel), bigW_k7 (List.mem_of_getElem? (i := 163) (by decide +kernel)) (by decide +kernel)⟩
def mX7_reopen : MT := (yX7_reopen, cX7_reopen, 4, some .long, RX7, 9, 212, none)
theorem ok_mX7_reopen : mOK mX7_reopen 1 := ⟨bigW_k7 (List.mem_of_getElem? (i := 177) (by decide +kernel)) (by decide +kernel), in_TallTowersModel, ⟨pl_TallTowersModel.2.1, pl_TallTowersModel.2.2, pd_5⟩, pl_TallTowersModel.1, rfl⟩
theorem ov_mX7_reopen : mOKv mX7_reopen 1 := ⟨rfl, ok_mX7_reopen, bigW_k7 (List.mem_of_getElem? (i := 175) (by decide +kernel)) (by decide +kernel), bigW_k7 (List.mem_of_getElem? (i := 176) (by decide +kernel)) (by decide +kernel)⟩
def mX7_standing : MT := (yX7_standing, cX7_standing, 4, some .int, RX7, 0, 0, none)
theorem ok_mX7_standing : mOK mX7_standing 1 := ⟨bigW_k7 (List.mem_of_getElem? (i := 185) (by decide +kernel)) (by decide +kernel), in_TallTowersModel, ⟨pl_TallTowersModel.2.1, pl_TallTowersModel.2.2, pd_2⟩, pl_TallTowersModel.1, rfl⟩
theorem ov_mX7_standing : mOKv mX7_standing 1 := ⟨rfl, ok_mX7_standing, bigW_k7 (List.mem_of_getElem? (i := 184) (by decide +kernel)) (by decide +kernel), bigW_k0 (List.mem_of_getElem? (i := 80) (by decide +kernel)) (by decide +kernel)⟩
def mX7_settle : MT := (yX7_settle, cX7_settle, 3, some .int, RX7, 9, 212, none)
theorem ok_mX7_settle : mOK mX7_settle 2 := ⟨bigW_k7 (List.mem_of_getElem? (i := 181) (by decide +kernel)) (by decide +kernel), in_TallTowersModel, ⟨pl_TallTowersModel.2.1, pl_TallTowersModel.2.2, pd_4⟩, pl_TallTowersModel.1, rfl⟩
theorem ov_mX7_settle : mOKv mX7_settle 2 := ⟨rfl, ok_mX7_settle, bigW_k7 (List.mem_of_getElem? (i := 179) (by decide +kernel)) (by decide +kernel), bigW_k7 (List.mem_of_getElem? (i := 180) (by decide +kernel)) (by decide +kernel)⟩
def mX7_fall : MT := (yX7_fall, cX7_fall, 2, some .int, RX7, 9, 212, none)
theorem ok_mX7_fall : mOK mX7_fall 1 := ⟨bigW_k7 (List.mem_of_getElem? (i := 189) (by decide +kernel)) (by decide +kernel), in_TallTowersModel, ⟨pl_TallTowersModel.2.1, pl_TallTowersModel.2.2, pd_2⟩, pl_TallTowersModel.1, rfl⟩
theorem ov_mX7_fall : mOKv mX7_fall 1 := ⟨rfl, ok_mX7_fall, bigW_k7 (List.mem_of_getElem? (i := 187) (by decide +kernel)) (by decide +kernel), bigW_k7 (List.mem_of_getElem? (i := 188) (by decide +kernel)) (by decide +kernel)⟩
def mX7_back : MT := (yX7_back, cX7_back, 1, some .int, RX7, 11, 254, none)
theorem ok_mX7_back : mOK mX7_back 0 := ⟨bigW_k7 (List.mem_of_getElem? (i := 193) (by decide +kernel)) (by decide +kernel), in_TallTowersModel, ⟨pl_TallTowersModel.2.1, pl_TallTowersModel.2.2, pd_6⟩, pl_TallTowersModel.1, rfl⟩
theorem ov_mX7_back : mOKv mX7_back 0 := ⟨rfl, ok_mX7_back, bigW_k7 (List.mem_of_getElem? (i := 191) (by decide +kernel)) (by decide +kernel), bigW_k7 (List.mem_of_getElem? (i := 192) (by decide +kernel)) (by decide +kernel)⟩
def mX7_standingBits : MT := (yX7_standingBits, cX7_standingBits, 4, some .int, RX7, 0, 0, none)
theorem ok_mX7_standingBits : mOK mX7_standingBits 1 := ⟨bigW_k7 (List.mem_of_getElem? (i := 225) (by decide +kernel)) (by decide +kernel), in_TallTowersModel, ⟨pl_TallTowersModel.2.1, pl_TallTowersModel.2.2, pd_2⟩, pl_TallTowersModel.1, rfl⟩
theorem ov_mX7_standingBits : mOKv mX7_standingBits 1 := ⟨rfl, ok_mX7_standingBits, bigW_k7 (List.mem_of_getElem? (i := 224) (by decide +kernel)) (by decide +kernel), bigW_k0 (List.mem_of_getElem? (i := 87) (by decide +kernel)) (by decide +kernel)⟩
def mX7_signersBits : MT := (yX7_signersBits, cX7_signersBits, 4, some .int, RX7, 0, 0, none)
theorem ok_mX7_signersBits : mOK mX7_signersBits 0 := ⟨bigW_k7 (List.mem_of_getElem? (i := 221) (by decide +kernel)) (by decide +kernel), in_TallTowersModel, ⟨pl_TallTowersModel.2.1, pl_TallTowersModel.2.2, pd_6⟩, pl_TallTowersModel.1, rfl⟩
theorem ov_mX7_signersBits : mOKv mX7_signersBits 0 := ⟨rfl, ok_mX7_signersBits, bigW_k7 (List.mem_of_getElem? (i := 220) (by decide +kernel)) (by decide +kernel), bigW_k0 (List.mem_of_getElem? (i := 86) (by decide +kernel)) (by decide +kernel)⟩
def mX7_told : MT := (yX7_told, cX7_told, 4, some .int, RX7, 2, 42, none)
theorem ok_mX7_told : mOK mX7_told 1 := ⟨bigW_k7 (List.mem_of_getElem? (i := 217) (by decide +kernel)) (by decide +kernel), in_TallTowersModel, ⟨pl_TallTowersModel.2.1, pl_TallTowersModel.2.2, pd_2⟩, pl_TallTowersModel.1, rfl⟩
theorem ov_mX7_told : mOKv mX7_told 1 := ⟨rfl, ok_mX7_told, bigW_k7 (List.mem_of_getElem? (i := 215) (by decide +kernel)) (by decide +kernel), bigW_k7 (List.mem_of_getElem? (i := 216) (by decide +kernel)) (by decide +kernel)⟩
def mX7_isEvent : MT := (yX7_isEvent, cX7_isEvent, 2, some .boolean, RX7, 1, 25, none)
theorem ok_mX7_isEvent : mOK mX7_isEvent 1 := ⟨bigW_k7 (List.mem_of_getElem? (i := 233) (by decide +kernel)) (by decide +kernel), in_TallTowersModel, ⟨pl_TallTowersModel.2.1, pl_TallTowersModel.2.2, pd_13⟩, pl_TallTowersModel.1, rfl⟩
theorem ov_mX7_isEvent : mOKv mX7_isEvent 1 := ⟨rfl, ok_mX7_isEvent, bigW_k7 (List.mem_of_getElem? (i := 232) (by decide +kernel)) (by decide +kernel), bigW_k0 (List.mem_of_getElem? (i := 88) (by decide +kernel)) (by decide +kernel)⟩
def mX7_event : MT := (yX7_event, cX7_event, 3, some .int, RX7, 2, 46, none)
theorem ok_mX7_event : mOK mX7_event 2 := ⟨bigW_k7 (List.mem_of_getElem? (i := 229) (by decide +kernel)) (by decide +kernel), in_TallTowersModel, ⟨pl_TallTowersModel.2.1, pl_TallTowersModel.2.2, pd_4⟩, pl_TallTowersModel.1, rfl⟩
theorem ov_mX7_event : mOKv mX7_event 2 := ⟨rfl, ok_mX7_event, bigW_k7 (List.mem_of_getElem? (i := 227) (by decide +kernel)) (by decide +kernel), bigW_k7 (List.mem_of_getElem? (i := 228) (by decide +kernel)) (by decide +kernel)⟩
def mX7_rungAt : MT := (yX7_rungAt, cX7_rungAt, 3, some .int, RX7, 1, 22, none)
theorem ok_mX7_rungAt : mOK mX7_rungAt 1 := ⟨bigW_k8 (List.mem_of_getElem? (i := 1) (by decide +kernel)) (by decide +kernel), in_TallTowersModel, ⟨pl_TallTowersModel.2.1, pl_TallTowersModel.2.2, pd_2⟩, pl_TallTowersModel.1, rfl⟩
theorem ov_mX7_rungAt : mOKv mX7_rungAt 1 := ⟨rfl, ok_mX7_rungAt, bigW_k8 (List.mem_of_getElem? (i := 0) (by decide +kernel)) (by decide +kernel), bigW_k0 (List.mem_of_getElem? (i := 89) (by decide +kernel)) (by decide +kernel)⟩
def mX7_layer : MT := (yX7_layer, cX7_layer, 3, some .long, RX7, 2, 47, none)
theorem ok_mX7_layer : mOK mX7_layer 2 := ⟨bigW_k7 (List.mem_of_getElem? (i := 237) (by decide +kernel)) (by decide +kernel), in_TallTowersModel, ⟨pl_TallTowersModel.2.1, pl_TallTowersModel.2.2, pd_3⟩, pl_TallTowersModel.1, rfl⟩
theorem ov_mX7_layer : mOKv mX7_layer 2 := ⟨rfl, ok_mX7_layer, bigW_k7 (List.mem_of_getElem? (i := 235) (by decide +kernel)) (by decide +kernel), bigW_k7 (List.mem_of_getElem? (i := 236) (by decide +kernel)) (by decide +kernel)⟩
def mX7_signed : MT := (yX7_signed, cX7_signed, 7, some .long, RX7, 2, 47, none)
theorem ok_mX7_signed : mOK mX7_signed 3 := ⟨bigW_k8 (List.mem_of_getElem? (i := 5) (by decide +kernel)) (by decide +kernel), in_TallTowersModel, ⟨pl_TallTowersModel.2.1, pl_TallTowersModel.2.2, pd_7⟩, pl_TallTowersModel.1, rfl⟩
theorem ov_mX7_signed : mOKv mX7_signed 3 := ⟨rfl, ok_mX7_signed, bigW_k8 (List.mem_of_getElem? (i := 3) (by decide +kernel)) (by decide +kernel), bigW_k8 (List.mem_of_getElem? (i := 4) (by decide +kernel)) (by decide +kernel)⟩
def mX7_ofYear : MT := (yX7_ofYear, cX7_ofYear, 6, some .long, RX7, 1, 22, none)
theorem ok_mX7_ofYear : mOK mX7_ofYear 2 := ⟨bigW_k8 (List.mem_of_getElem? (i := 15) (by decide +kernel)) (by decide +kernel), in_TallTowersModel, ⟨pl_TallTowersModel.2.1, pl_TallTowersModel.2.2, pd_3⟩, pl_TallTowersModel.1, rfl⟩
theorem ov_mX7_ofYear : mOKv mX7_ofYear 2 := ⟨rfl, ok_mX7_ofYear, bigW_k8 (List.mem_of_getElem? (i := 14) (by decide +kernel)) (by decide +kernel), bigW_k0 (List.mem_of_getElem? (i := 90) (by decide +kernel)) (by decide +kernel)⟩
def mX7_year : MT := (yX7_year, cX7_year, 4, some .long, RX7, 2, 47, none)
theorem ok_mX7_year : mOK mX7_year 2 := ⟨bigW_k8 (List.mem_of_getElem? (i := 10) (by decide +kernel)) (by decide +kernel), in_TallTowersModel, ⟨pl_TallTowersModel.2.1, pl_TallTowersModel.2.2, pd_3⟩, pl_TallTowersModel.1, rfl⟩
theorem ov_mX7_year : mOKv mX7_year 2 := ⟨rfl, ok_mX7_year, bigW_k8 (List.mem_of_getElem? (i := 8) (by decide +kernel)) (by decide +kernel), bigW_k8 (List.mem_of_getElem? (i := 9) (by decide +kernel)) (by decide +kernel)⟩
def mX7_isHeight : MT := (yX7_isHeight, cX7_isHeight, 1, some .boolean, RX7, 1, 25, none)
theorem ok_mX7_isHeight : mOK mX7_isHeight 1 := ⟨bigW_k8 (List.mem_of_getElem? (i := 22) (by decide +kernel)) (by decide +kernel), in_TallTowersModel, ⟨pl_TallTowersModel.2.1, pl_TallTowersModel.2.2, pd_13⟩, pl_TallTowersModel.1, rfl⟩
theorem os_mX7_isHeight : mOKs mX7_isHeight 1 := ⟨ok_mX7_isHeight, bigW_k8 (List.mem_of_getElem? (i := 21) (by decide +kernel)) (by decide +kernel)⟩
def mX7_layerAt : MT := (yX7_layerAt, cX7_layerAt, 4, some .int, RX7, 1, 22, none)
theorem ok_mX7_layerAt : mOK mX7_layerAt 2 := ⟨bigW_k8 (List.mem_of_getElem? (i := 26) (by decide +kernel)) (by decide +kernel), in_TallTowersModel, ⟨pl_TallTowersModel.2.1, pl_TallTowersModel.2.2, pd_4⟩, pl_TallTowersModel.1, rfl⟩
theorem ov_mX7_layerAt : mOKv mX7_layerAt 2 := ⟨rfl, ok_mX7_layerAt, bigW_k8 (List.mem_of_getElem? (i := 25) (by decide +kernel)) (by decide +kernel), bigW_k0 (List.mem_of_getElem? (i := 91) (by decide +kernel)) (by decide +kernel)⟩
def mX7_at : MT := (yX7_at, cX7_at, 5, some .int, RX7, 2, 45, none)
theorem ok_mX7_at : mOK mX7_at 2 := ⟨bigW_k8 (List.mem_of_getElem? (i := 19) (by decide +kernel)) (by decide +kernel), in_TallTowersModel, ⟨pl_TallTowersModel.2.1, pl_TallTowersModel.2.2, pd_4⟩, pl_TallTowersModel.1, rfl⟩
theorem ov_mX7_at : mOKv mX7_at 2 := ⟨rfl, ok_mX7_at, bigW_k8 (List.mem_of_getElem? (i := 17) (by decide +kernel)) (by decide +kernel), bigW_k8 (List.mem_of_getElem? (i := 18) (by decide +kernel)) (by decide +kernel)⟩
def mX7_rung : MT := (yX7_rung, cX7_rung, 3, some .int, RX7, 1, 25, none)
theorem ok_mX7_rung : mOK mX7_rung 2 := ⟨bigW_k8 (List.mem_of_getElem? (i := 30) (by decide +kernel)) (by decide +kernel), in_TallTowersModel, ⟨pl_TallTowersModel.2.1, pl_TallTowersModel.2.2, pd_4⟩, pl_TallTowersModel.1, rfl⟩
theorem ov_mX7_rung : mOKv mX7_rung 2 := ⟨rfl, ok_mX7_rung, bigW_k8 (List.mem_of_getElem? (i := 28) (by decide +kernel)) (by decide +kernel), bigW_k8 (List.mem_of_getElem? (i := 29) (by decide +kernel)) (by decide +kernel)⟩
def mX7_damage : MT := (yX7_damage, cX7_damage, 3, some .long, RX7, 2, 46, none)
theorem ok_mX7_damage : mOK mX7_damage 2 := ⟨bigW_k8 (List.mem_of_getElem? (i := 34) (by decide +kernel)) (by decide +kernel), in_TallTowersModel, ⟨pl_TallTowersModel.2.1, pl_TallTowersModel.2.2, pd_3⟩, pl_TallTowersModel.1, rfl⟩
theorem ov_mX7_damage : mOKv mX7_damage 2 := ⟨rfl, ok_mX7_damage, bigW_k8 (List.mem_of_getElem? (i := 32) (by decide +kernel)) (by decide +kernel), bigW_k8 (List.mem_of_getElem? (i := 33) (by decide +kernel)) (by decide +kernel)⟩
def mX7_areBoth : MT := (yX7_areBoth, cX7_areBoth, 3, some .boolean, RX7, 1, 25, none)
theorem ok_mX7_areBoth : mOK mX7_areBoth 2 := ⟨bigW_k8 (List.mem_of_getElem? (i := 43) (by decide +kernel)) (by decide +kernel), in_TallTowersModel, ⟨pl_TallTowersModel.2.1, pl_TallTowersModel.2.2, pd_22⟩, pl_TallTowersModel.1, rfl⟩
theorem ov_mX7_areBoth : mOKv mX7_areBoth 2 := ⟨rfl, ok_mX7_areBoth, bigW_k8 (List.mem_of_getElem? (i := 42) (by decide +kernel)) (by decide +kernel), bigW_k0 (List.mem_of_getElem? (i := 92) (by decide +kernel)) (by decide +kernel)⟩
def mX7_took : MT := (yX7_took, cX7_took, 3, some .long, RX7, 2, 47, none)
theorem ok_mX7_took : mOK mX7_took 2 := ⟨bigW_k8 (List.mem_of_getElem? (i := 39) (by decide +kernel)) (by decide +kernel), in_TallTowersModel, ⟨pl_TallTowersModel.2.1, pl_TallTowersModel.2.2, pd_3⟩, pl_TallTowersModel.1, rfl⟩
theorem ov_mX7_took : mOKv mX7_took 2 := ⟨rfl, ok_mX7_took, bigW_k8 (List.mem_of_getElem? (i := 37) (by decide +kernel)) (by decide +kernel), bigW_k8 (List.mem_of_getElem? (i := 38) (by decide +kernel)) (by decide +kernel)⟩
def mX7_hole : MT := (yX7_hole, cX7_hole, 3, some .long, RX7, 2, 47, none)
theorem ok_mX7_hole : mOK mX7_hole 2 := ⟨bigW_k8 (List.mem_of_getElem? (i := 47) (by decide +kernel)) (by decide +kernel), in_TallTowersModel, ⟨pl_TallTowersModel.2.1, pl_TallTowersModel.2.2, pd_3⟩, pl_TallTowersModel.1, rfl⟩
theorem ov_mX7_hole : mOKv mX7_hole 2 := ⟨rfl, ok_mX7_hole, bigW_k8 (List.mem_of_getElem? (i := 45) (by decide +kernel)) (by decide +kernel), bigW_k8 (List.mem_of_getElem? (i := 46) (by decide +kernel)) (by decide +kernel)⟩
def mX7_moved : MT := (yX7_moved, cX7_moved, 3, some .long, RX7, 2, 47, none)
theorem ok_mX7_moved : mOK mX7_moved 2 := ⟨bigW_k8 (List.mem_of_getElem? (i := 51) (by decide +kernel)) (by decide +kernel), in_TallTowersModel, ⟨pl_TallTowersModel.2.1, pl_TallTowersModel.2.2, pd_3⟩, pl_TallTowersModel.1, rfl⟩
theorem ov_mX7_moved : mOKv mX7_moved 2 := ⟨rfl, ok_mX7_moved, bigW_k8 (List.mem_of_getElem? (i := 49) (by decide +kernel)) (by decide +kernel), bigW_k8 (List.mem_of_getElem? (i := 50) (by decide +kernel)) (by decide +kernel)⟩
def mX7_bears : MT := (yX7_bears, cX7_bears, 3, some .long, RX7, 2, 46, none)
theorem ok_mX7_bears : mOK mX7_bears 2 := ⟨bigW_k8 (List.mem_of_getElem? (i := 55) (by decide +kernel)) (by decide +kernel), in_TallTowersModel, ⟨pl_TallTowersModel.2.1, pl_TallTowersModel.2.2, pd_3⟩, pl_TallTowersModel.1, rfl⟩
theorem ov_mX7_bears : mOKv mX7_bears 2 := ⟨rfl, ok_mX7_bears, bigW_k8 (List.mem_of_getElem? (i := 53) (by decide +kernel)) (by decide +kernel), bigW_k8 (List.mem_of_getElem? (i := 54) (by decide +kernel)) (by decide +kernel)⟩
def mX7_falls : MT := (yX7_falls, cX7_falls, 3, some .long, RX7, 2, 46, none)
theorem ok_mX7_falls : mOK mX7_falls 2 := ⟨bigW_k8 (List.mem_of_getElem? (i := 63) (by decide +kernel)) (by decide +kernel), in_TallTowersModel, ⟨pl_TallTowersModel.2.1, pl_TallTowersModel.2.2, pd_3⟩, pl_TallTowersModel.1, rfl⟩
theorem ov_mX7_falls : mOKv mX7_falls 2 := ⟨rfl, ok_mX7_falls, bigW_k8 (List.mem_of_getElem? (i := 61) (by decide +kernel)) (by decide +kernel), bigW_k8 (List.mem_of_getElem? (i := 62) (by decide +kernel)) (by decide +kernel)⟩
def mX7_cashOf : MT := (yX7_cashOf, cX7_cashOf, 5, some .long, RX7, 0, 0, none)
theorem ok_mX7_cashOf : mOK mX7_cashOf 1 := ⟨bigW_k8 (List.mem_of_getElem? (i := 75) (by decide +kernel)) (by decide +kernel), in_TallTowersModel, ⟨pl_TallTowersModel.2.1, pl_TallTowersModel.2.2, pd_5⟩, pl_TallTowersModel.1, rfl⟩
theorem ov_mX7_cashOf : mOKv mX7_cashOf 1 := ⟨rfl, ok_mX7_cashOf, bigW_k8 (List.mem_of_getElem? (i := 74) (by decide +kernel)) (by decide +kernel), bigW_k0 (List.mem_of_getElem? (i := 95) (by decide +kernel)) (by decide +kernel)⟩
def mX7_signedBy : MT := (yX7_signedBy, cX7_signedBy, 7, some .long, RX7, 1, 21, none)
theorem ok_mX7_signedBy : mOK mX7_signedBy 2 := ⟨bigW_k8 (List.mem_of_getElem? (i := 79) (by decide +kernel)) (by decide +kernel), in_TallTowersModel, ⟨pl_TallTowersModel.2.1, pl_TallTowersModel.2.2, pd_3⟩, pl_TallTowersModel.1, rfl⟩
theorem ov_mX7_signedBy : mOKv mX7_signedBy 2 := ⟨rfl, ok_mX7_signedBy, bigW_k8 (List.mem_of_getElem? (i := 78) (by decide +kernel)) (by decide +kernel), bigW_k0 (List.mem_of_getElem? (i := 96) (by decide +kernel)) (by decide +kernel)⟩
def mX7_insurer : MT := (yX7_insurer, cX7_insurer, 3, some .long, RX7, 3, 70, none)
theorem ok_mX7_insurer : mOK mX7_insurer 2 := ⟨bigW_k8 (List.mem_of_getElem? (i := 67) (by decide +kernel)) (by decide +kernel), in_TallTowersModel, ⟨pl_TallTowersModel.2.1, pl_TallTowersModel.2.2, pd_3⟩, pl_TallTowersModel.1, rfl⟩
theorem ov_mX7_insurer : mOKv mX7_insurer 2 := ⟨rfl, ok_mX7_insurer, bigW_k8 (List.mem_of_getElem? (i := 65) (by decide +kernel)) (by decide +kernel), bigW_k8 (List.mem_of_getElem? (i := 66) (by decide +kernel)) (by decide +kernel)⟩
def mX7_burden : MT := (yX7_burden, cX7_burden, 5, some .long, RX7, 1, 25, none)
theorem ok_mX7_burden : mOK mX7_burden 1 := ⟨bigW_k8 (List.mem_of_getElem? (i := 83) (by decide +kernel)) (by decide +kernel), in_TallTowersModel, ⟨pl_TallTowersModel.2.1, pl_TallTowersModel.2.2, pd_5⟩, pl_TallTowersModel.1, rfl⟩
theorem ov_mX7_burden : mOKv mX7_burden 1 := ⟨rfl, ok_mX7_burden, bigW_k8 (List.mem_of_getElem? (i := 81) (by decide +kernel)) (by decide +kernel), bigW_k8 (List.mem_of_getElem? (i := 82) (by decide +kernel)) (by decide +kernel)⟩
def mX7_rank : MT := (yX7_rank, cX7_rank, 5, some .int, RX7, 3, 70, none)
theorem ok_mX7_rank : mOK mX7_rank 1 := ⟨bigW_k8 (List.mem_of_getElem? (i := 87) (by decide +kernel)) (by decide +kernel), in_TallTowersModel, ⟨pl_TallTowersModel.2.1, pl_TallTowersModel.2.2, pd_2⟩, pl_TallTowersModel.1, rfl⟩
theorem ov_mX7_rank : mOKv mX7_rank 1 := ⟨rfl, ok_mX7_rank, bigW_k8 (List.mem_of_getElem? (i := 85) (by decide +kernel)) (by decide +kernel), bigW_k8 (List.mem_of_getElem? (i := 86) (by decide +kernel)) (by decide +kernel)⟩
def mX7_offs : MT := (yX7_offs, cX7_offs, 5, some .int, RX7, 1, 27, none)
theorem ok_mX7_offs : mOK mX7_offs 4 := ⟨bigW_k8 (List.mem_of_getElem? (i := 91) (by decide +kernel)) (by decide +kernel), in_TallTowersModel, ⟨pl_TallTowersModel.2.1, pl_TallTowersModel.2.2, pd_0⟩, pl_TallTowersModel.1, rfl⟩
theorem ov_mX7_offs : mOKv mX7_offs 4 := ⟨rfl, ok_mX7_offs, bigW_k8 (List.mem_of_getElem? (i := 89) (by decide +kernel)) (by decide +kernel), bigW_k8 (List.mem_of_getElem? (i := 90) (by decide +kernel)) (by decide +kernel)⟩
def mX7_thinks : MT := (yX7_thinks, cX7_thinks, 4, none, RX7, 1, 22, none)
theorem ok_mX7_thinks : mOK mX7_thinks 3 := ⟨bigW_k8 (List.mem_of_getElem? (i := 103) (by decide +kernel)) (by decide +kernel), in_TallTowersModel, ⟨pl_TallTowersModel.2.1, pl_TallTowersModel.2.2, pd_15⟩, pl_TallTowersModel.1, rfl⟩
theorem ov_mX7_thinks : mOKv mX7_thinks 3 := ⟨rfl, ok_mX7_thinks, bigW_k8 (List.mem_of_getElem? (i := 102) (by decide +kernel)) (by decide +kernel), bigW_k0 (List.mem_of_getElem? (i := 98) (by decide +kernel)) (by decide +kernel)⟩
def mX7_thinksOf : MT := (yX7_thinksOf, cX7_thinksOf, 5, none, RX7, 7, 168, none)
theorem pd_29 : (parseMethodDescriptor "(IIII)V").map (fun d => d.parameters.length) = some 4 := by decide +kernel
theorem ok_mX7_thinksOf : mOK mX7_thinksOf 4 := ⟨bigW_k8 (List.mem_of_getElem? (i := 99) (by decide +kernel)) (by decide +kernel), in_TallTowersModel, ⟨pl_TallTowersModel.2.1, pl_TallTowersModel.2.2, pd_29⟩, pl_TallTowersModel.1, rfl⟩
theorem ov_mX7_thinksOf : mOKv mX7_thinksOf 4 := ⟨rfl, ok_mX7_thinksOf, bigW_k8 (List.mem_of_getElem? (i := 98) (by decide +kernel)) (by decide +kernel), bigW_k0 (List.mem_of_getElem? (i := 97) (by decide +kernel)) (by decide +kernel)⟩
def mX7_would : MT := (yX7_would, cX7_would, 8, some .long, RX7, 11, 254, none)
theorem ok_mX7_would : mOK mX7_would 5 := ⟨bigW_k8 (List.mem_of_getElem? (i := 95) (by decide +kernel)) (by decide +kernel), in_TallTowersModel, ⟨pl_TallTowersModel.2.1, pl_TallTowersModel.2.2, pd_8⟩, pl_TallTowersModel.1, rfl⟩
theorem ov_mX7_would : mOKv mX7_would 5 := ⟨rfl, ok_mX7_would, bigW_k8 (List.mem_of_getElem? (i := 93) (by decide +kernel)) (by decide +kernel), bigW_k8 (List.mem_of_getElem? (i := 94) (by decide +kernel)) (by decide +kernel)⟩
def mX7_takes : MT := (yX7_takes, cX7_takes, 8, some .long, RX7, 11, 254, none)
theorem ok_mX7_takes : mOK mX7_takes 5 := ⟨bigW_k8 (List.mem_of_getElem? (i := 107) (by decide +kernel)) (by decide +kernel), in_TallTowersModel, ⟨pl_TallTowersModel.2.1, pl_TallTowersModel.2.2, pd_8⟩, pl_TallTowersModel.1, rfl⟩
theorem ov_mX7_takes : mOKv mX7_takes 5 := ⟨rfl, ok_mX7_takes, bigW_k8 (List.mem_of_getElem? (i := 105) (by decide +kernel)) (by decide +kernel), bigW_k8 (List.mem_of_getElem? (i := 106) (by decide +kernel)) (by decide +kernel)⟩
def mX7_drops : MT := (yX7_drops, cX7_drops, 8, some .long, RX7, 11, 254, none)
theorem ok_mX7_drops : mOK mX7_drops 5 := ⟨bigW_k8 (List.mem_of_getElem? (i := 111) (by decide +kernel)) (by decide +kernel), in_TallTowersModel, ⟨pl_TallTowersModel.2.1, pl_TallTowersModel.2.2, pd_8⟩, pl_TallTowersModel.1, rfl⟩
theorem ov_mX7_drops : mOKv mX7_drops 5 := ⟨rfl, ok_mX7_drops, bigW_k8 (List.mem_of_getElem? (i := 109) (by decide +kernel)) (by decide +kernel), bigW_k8 (List.mem_of_getElem? (i := 110) (by decide +kernel)) (by decide +kernel)⟩
def mX7_share : MT := (yX7_share, cX7_share, 6, some .long, RX7, 3, 71, none)
theorem ok_mX7_share : mOK mX7_share 5 := ⟨bigW_k8 (List.mem_of_getElem? (i := 115) (by decide +kernel)) (by decide +kernel), in_TallTowersModel, ⟨pl_TallTowersModel.2.1, pl_TallTowersModel.2.2, pd_8⟩, pl_TallTowersModel.1, rfl⟩
theorem ov_mX7_share : mOKv mX7_share 5 := ⟨rfl, ok_mX7_share, bigW_k8 (List.mem_of_getElem? (i := 113) (by decide +kernel)) (by decide +kernel), bigW_k8 (List.mem_of_getElem? (i := 114) (by decide +kernel)) (by decide +kernel)⟩
def mX7_weight : MT := (yX7_weight, cX7_weight, 5, some .long, RX7, 3, 75, none)
theorem ok_mX7_weight : mOK mX7_weight 4 := ⟨bigW_k8 (List.mem_of_getElem? (i := 119) (by decide +kernel)) (by decide +kernel), in_TallTowersModel, ⟨pl_TallTowersModel.2.1, pl_TallTowersModel.2.2, pd_9⟩, pl_TallTowersModel.1, rfl⟩
theorem ov_mX7_weight : mOKv mX7_weight 4 := ⟨rfl, ok_mX7_weight, bigW_k8 (List.mem_of_getElem? (i := 117) (by decide +kernel)) (by decide +kernel), bigW_k8 (List.mem_of_getElem? (i := 118) (by decide +kernel)) (by decide +kernel)⟩
def mX7_picks : MT := (yX7_picks, cX7_picks, 5, some .int, RX7, 5, 117, none)
theorem ok_mX7_picks : mOK mX7_picks 4 := ⟨bigW_k8 (List.mem_of_getElem? (i := 123) (by decide +kernel)) (by decide +kernel), in_TallTowersModel, ⟨pl_TallTowersModel.2.1, pl_TallTowersModel.2.2, pd_0⟩, pl_TallTowersModel.1, rfl⟩
theorem ov_mX7_picks : mOKv mX7_picks 4 := ⟨rfl, ok_mX7_picks, bigW_k8 (List.mem_of_getElem? (i := 121) (by decide +kernel)) (by decide +kernel), bigW_k8 (List.mem_of_getElem? (i := 122) (by decide +kernel)) (by decide +kernel)⟩
def mX7_uneven : MT := (yX7_uneven, cX7_uneven, 8, some .long, RX7, 11, 254, none)
theorem ok_mX7_uneven : mOK mX7_uneven 5 := ⟨bigW_k8 (List.mem_of_getElem? (i := 127) (by decide +kernel)) (by decide +kernel), in_TallTowersModel, ⟨pl_TallTowersModel.2.1, pl_TallTowersModel.2.2, pd_8⟩, pl_TallTowersModel.1, rfl⟩
theorem ov_mX7_uneven : mOKv mX7_uneven 5 := ⟨rfl, ok_mX7_uneven, bigW_k8 (List.mem_of_getElem? (i := 125) (by decide +kernel)) (by decide +kernel), bigW_k8 (List.mem_of_getElem? (i := 126) (by decide +kernel)) (by decide +kernel)⟩
def mX7_behind : MT := (yX7_behind, cX7_behind, 4, some .long, RX7, 11, 254, none)
theorem ok_mX7_behind : mOK mX7_behind 1 := ⟨bigW_k8 (List.mem_of_getElem? (i := 139) (by decide +kernel)) (by decide +kernel), in_TallTowersModel, ⟨pl_TallTowersModel.2.1, pl_TallTowersModel.2.2, pd_5⟩, pl_TallTowersModel.1, rfl⟩
theorem ov_mX7_behind : mOKv mX7_behind 1 := ⟨rfl, ok_mX7_behind, bigW_k8 (List.mem_of_getElem? (i := 138) (by decide +kernel)) (by decide +kernel), bigW_k0 (List.mem_of_getElem? (i := 100) (by decide +kernel)) (by decide +kernel)⟩
def mX7_isPerson : MT := (yX7_isPerson, cX7_isPerson, 3, some .boolean, RX7, 1, 25, none)
theorem ok_mX7_isPerson : mOK mX7_isPerson 2 := ⟨bigW_k8 (List.mem_of_getElem? (i := 151) (by decide +kernel)) (by decide +kernel), in_TallTowersModel, ⟨pl_TallTowersModel.2.1, pl_TallTowersModel.2.2, pd_22⟩, pl_TallTowersModel.1, rfl⟩
theorem ov_mX7_isPerson : mOKv mX7_isPerson 2 := ⟨rfl, ok_mX7_isPerson, bigW_k8 (List.mem_of_getElem? (i := 150) (by decide +kernel)) (by decide +kernel), bigW_k0 (List.mem_of_getElem? (i := 101) (by decide +kernel)) (by decide +kernel)⟩
def mX7_other : MT := (yX7_other, cX7_other, 5, some .long, RX7, 12, 277, none)
theorem ok_mX7_other : mOK mX7_other 4 := ⟨bigW_k8 (List.mem_of_getElem? (i := 131) (by decide +kernel)) (by decide +kernel), in_TallTowersModel, ⟨pl_TallTowersModel.2.1, pl_TallTowersModel.2.2, pd_9⟩, pl_TallTowersModel.1, rfl⟩
theorem ov_mX7_other : mOKv mX7_other 4 := ⟨rfl, ok_mX7_other, bigW_k8 (List.mem_of_getElem? (i := 129) (by decide +kernel)) (by decide +kernel), bigW_k8 (List.mem_of_getElem? (i := 130) (by decide +kernel)) (by decide +kernel)⟩
def mX7_best : MT := (yX7_best, cX7_best, 7, some .long, RX7, 11, 257, none)
theorem ok_mX7_best : mOK mX7_best 2 := ⟨bigW_k8 (List.mem_of_getElem? (i := 143) (by decide +kernel)) (by decide +kernel), in_TallTowersModel, ⟨pl_TallTowersModel.2.1, pl_TallTowersModel.2.2, pd_3⟩, pl_TallTowersModel.1, rfl⟩
theorem ov_mX7_best : mOKv mX7_best 2 := ⟨rfl, ok_mX7_best, bigW_k8 (List.mem_of_getElem? (i := 141) (by decide +kernel)) (by decide +kernel), bigW_k8 (List.mem_of_getElem? (i := 142) (by decide +kernel)) (by decide +kernel)⟩
def mX7_without : MT := (yX7_without, cX7_without, 3, some .long, RX7, 12, 277, none)
theorem ok_mX7_without : mOK mX7_without 2 := ⟨bigW_k8 (List.mem_of_getElem? (i := 147) (by decide +kernel)) (by decide +kernel), in_TallTowersModel, ⟨pl_TallTowersModel.2.1, pl_TallTowersModel.2.2, pd_3⟩, pl_TallTowersModel.1, rfl⟩
theorem ov_mX7_without : mOKv mX7_without 2 := ⟨rfl, ok_mX7_without, bigW_k8 (List.mem_of_getElem? (i := 145) (by decide +kernel)) (by decide +kernel), bigW_k8 (List.mem_of_getElem? (i := 146) (by decide +kernel)) (by decide +kernel)⟩
def mX7_undone : MT := (yX7_undone, cX7_undone, 3, some .int, RX7, 11, 255, none)
theorem ok_mX7_undone : mOK mX7_undone 1 := ⟨bigW_k8 (List.mem_of_getElem? (i := 159) (by decide +kernel)) (by decide +kernel), in_TallTowersModel, ⟨pl_TallTowersModel.2.1, pl_TallTowersModel.2.2, pd_2⟩, pl_TallTowersModel.1, rfl⟩
theorem ov_mX7_undone : mOKv mX7_undone 1 := ⟨rfl, ok_mX7_undone, bigW_k8 (List.mem_of_getElem? (i := 157) (by decide +kernel)) (by decide +kernel), bigW_k8 (List.mem_of_getElem? (i := 158) (by decide +kernel)) (by decide +kernel)⟩
def mX7_shift : MT := (yX7_shift, cX7_shift, 5, some .long, RX7, 12, 277, none)
theorem ok_mX7_shift : mOK mX7_shift 3 := ⟨bigW_k8 (List.mem_of_getElem? (i := 163) (by decide +kernel)) (by decide +kernel), in_TallTowersModel, ⟨pl_TallTowersModel.2.1, pl_TallTowersModel.2.2, pd_7⟩, pl_TallTowersModel.1, rfl⟩
theorem ov_mX7_shift : mOKv mX7_shift 3 := ⟨rfl, ok_mX7_shift, bigW_k8 (List.mem_of_getElem? (i := 161) (by decide +kernel)) (by decide +kernel), bigW_k8 (List.mem_of_getElem? (i := 162) (by decide +kernel)) (by decide +kernel)⟩
def mX7_after : MT := (yX7_after, cX7_after, 4, some .long, RX7, 12, 277, none)
theorem ok_mX7_after : mOK mX7_after 2 := ⟨bigW_k8 (List.mem_of_getElem? (i := 167) (by decide +kernel)) (by decide +kernel), in_TallTowersModel, ⟨pl_TallTowersModel.2.1, pl_TallTowersModel.2.2, pd_3⟩, pl_TallTowersModel.1, rfl⟩
theorem ov_mX7_after : mOKv mX7_after 2 := ⟨rfl, ok_mX7_after, bigW_k8 (List.mem_of_getElem? (i := 165) (by decide +kernel)) (by decide +kernel), bigW_k8 (List.mem_of_getElem? (i := 166) (by decide +kernel)) (by decide +kernel)⟩
def mX7_usedUp : MT := (yX7_usedUp, cX7_usedUp, 4, some .int, RX7, 10, 233, none)
theorem ok_mX7_usedUp : mOK mX7_usedUp 1 := ⟨bigW_k8 (List.mem_of_getElem? (i := 171) (by decide +kernel)) (by decide +kernel), in_TallTowersModel, ⟨pl_TallTowersModel.2.1, pl_TallTowersModel.2.2, pd_2⟩, pl_TallTowersModel.1, rfl⟩
theorem ov_mX7_usedUp : mOKv mX7_usedUp 1 := ⟨rfl, ok_mX7_usedUp, bigW_k8 (List.mem_of_getElem? (i := 169) (by decide +kernel)) (by decide +kernel), bigW_k8 (List.mem_of_getElem? (i := 170) (by decide +kernel)) (by decide +kernel)⟩
def mX7_isOf : MT := (yX7_isOf, cX7_isOf, 3, some .boolean, RX7, 1, 22, none)
theorem ok_mX7_isOf : mOK mX7_isOf 2 := ⟨bigW_k8 (List.mem_of_getElem? (i := 179) (by decide +kernel)) (by decide +kernel), in_TallTowersModel, ⟨pl_TallTowersModel.2.1, pl_TallTowersModel.2.2, pd_22⟩, pl_TallTowersModel.1, rfl⟩
theorem ov_mX7_isOf : mOKv mX7_isOf 2 := ⟨rfl, ok_mX7_isOf, bigW_k8 (List.mem_of_getElem? (i := 178) (by decide +kernel)) (by decide +kernel), bigW_k0 (List.mem_of_getElem? (i := 103) (by decide +kernel)) (by decide +kernel)⟩
def mX7_heaviest : MT := (yX7_heaviest, cX7_heaviest, 8, some .long, RX7, 11, 254, none)
theorem ok_mX7_heaviest : mOK mX7_heaviest 2 := ⟨bigW_k8 (List.mem_of_getElem? (i := 175) (by decide +kernel)) (by decide +kernel), in_TallTowersModel, ⟨pl_TallTowersModel.2.1, pl_TallTowersModel.2.2, pd_3⟩, pl_TallTowersModel.1, rfl⟩
theorem ov_mX7_heaviest : mOKv mX7_heaviest 2 := ⟨rfl, ok_mX7_heaviest, bigW_k8 (List.mem_of_getElem? (i := 173) (by decide +kernel)) (by decide +kernel), bigW_k8 (List.mem_of_getElem? (i := 174) (by decide +kernel)) (by decide +kernel)⟩
def mX7_spared : MT := (yX7_spared, cX7_spared, 6, some .long, RX7, 12, 277, none)
theorem ok_mX7_spared : mOK mX7_spared 1 := ⟨bigW_k8 (List.mem_of_getElem? (i := 183) (by decide +kernel)) (by decide +kernel), in_TallTowersModel, ⟨pl_TallTowersModel.2.1, pl_TallTowersModel.2.2, pd_5⟩, pl_TallTowersModel.1, rfl⟩
theorem ov_mX7_spared : mOKv mX7_spared 1 := ⟨rfl, ok_mX7_spared, bigW_k8 (List.mem_of_getElem? (i := 181) (by decide +kernel)) (by decide +kernel), bigW_k8 (List.mem_of_getElem? (i := 182) (by decide +kernel)) (by decide +kernel)⟩
def mX7_cover : MT := (yX7_cover, cX7_cover, 11, some .int, RX7, 2, 45, none)
theorem ok_mX7_cover : mOK mX7_cover 3 := ⟨bigW_k8 (List.mem_of_getElem? (i := 187) (by decide +kernel)) (by decide +kernel), in_TallTowersModel, ⟨pl_TallTowersModel.2.1, pl_TallTowersModel.2.2, pd_1⟩, pl_TallTowersModel.1, rfl⟩
theorem ov_mX7_cover : mOKv mX7_cover 3 := ⟨rfl, ok_mX7_cover, bigW_k8 (List.mem_of_getElem? (i := 185) (by decide +kernel)) (by decide +kernel), bigW_k8 (List.mem_of_getElem? (i := 186) (by decide +kernel)) (by decide +kernel)⟩
def mX7_reach : MT := (yX7_reach, cX7_reach, 5, some .long, RX7, 2, 47, none)
theorem ok_mX7_reach : mOK mX7_reach 1 := ⟨bigW_k8 (List.mem_of_getElem? (i := 191) (by decide +kernel)) (by decide +kernel), in_TallTowersModel, ⟨pl_TallTowersModel.2.1, pl_TallTowersModel.2.2, pd_5⟩, pl_TallTowersModel.1, rfl⟩
theorem ov_mX7_reach : mOKv mX7_reach 1 := ⟨rfl, ok_mX7_reach, bigW_k8 (List.mem_of_getElem? (i := 189) (by decide +kernel)) (by decide +kernel), bigW_k8 (List.mem_of_getElem? (i := 190) (by decide +kernel)) (by decide +kernel)⟩
def mX7_widest : MT := (yX7_widest, cX7_widest, 7, some .int, RX7, 1, 25, none)
theorem ok_mX7_widest : mOK mX7_widest 2 := ⟨bigW_k8 (List.mem_of_getElem? (i := 195) (by decide +kernel)) (by decide +kernel), in_TallTowersModel, ⟨pl_TallTowersModel.2.1, pl_TallTowersModel.2.2, pd_4⟩, pl_TallTowersModel.1, rfl⟩
theorem ov_mX7_widest : mOKv mX7_widest 2 := ⟨rfl, ok_mX7_widest, bigW_k8 (List.mem_of_getElem? (i := 193) (by decide +kernel)) (by decide +kernel), bigW_k8 (List.mem_of_getElem? (i := 194) (by decide +kernel)) (by decide +kernel)⟩
def mX7_strongest : MT := (yX7_strongest, cX7_strongest, 6, some .long, RX7, 2, 47, none)
theorem ok_mX7_strongest : mOK mX7_strongest 1 := ⟨bigW_k8 (List.mem_of_getElem? (i := 199) (by decide +kernel)) (by decide +kernel), in_TallTowersModel, ⟨pl_TallTowersModel.2.1, pl_TallTowersModel.2.2, pd_5⟩, pl_TallTowersModel.1, rfl⟩
theorem ov_mX7_strongest : mOKv mX7_strongest 1 := ⟨rfl, ok_mX7_strongest, bigW_k8 (List.mem_of_getElem? (i := 197) (by decide +kernel)) (by decide +kernel), bigW_k8 (List.mem_of_getElem? (i := 198) (by decide +kernel)) (by decide +kernel)⟩
def mX7_holds : MT := (yX7_holds, cX7_holds, 6, some .int, RX7, 2, 45, none)
theorem ok_mX7_holds : mOK mX7_holds 3 := ⟨bigW_k8 (List.mem_of_getElem? (i := 203) (by decide +kernel)) (by decide +kernel), in_TallTowersModel, ⟨pl_TallTowersModel.2.1, pl_TallTowersModel.2.2, pd_1⟩, pl_TallTowersModel.1, rfl⟩
theorem ov_mX7_holds : mOKv mX7_holds 3 := ⟨rfl, ok_mX7_holds, bigW_k8 (List.mem_of_getElem? (i := 201) (by decide +kernel)) (by decide +kernel), bigW_k8 (List.mem_of_getElem? (i := 202) (by decide +kernel)) (by decide +kernel)⟩
def mX7_spent : MT := (yX7_spent, cX7_spent, 4, some .long, RX7, 1, 21, none)
theorem ok_mX7_spent : mOK mX7_spent 0 := ⟨bigW_k8 (List.mem_of_getElem? (i := 207) (by decide +kernel)) (by decide +kernel), in_TallTowersModel, ⟨pl_TallTowersModel.2.1, pl_TallTowersModel.2.2, pd_10⟩, pl_TallTowersModel.1, rfl⟩
theorem ov_mX7_spent : mOKv mX7_spent 0 := ⟨rfl, ok_mX7_spent, bigW_k8 (List.mem_of_getElem? (i := 205) (by decide +kernel)) (by decide +kernel), bigW_k8 (List.mem_of_getElem? (i := 206) (by decide +kernel)) (by decide +kernel)⟩
def mX7_status : MT := (yX7_status, cX7_status, 2, some .int, RX7, 1, 25, none)
theorem ok_mX7_status : mOK mX7_status 1 := ⟨bigW_k8 (List.mem_of_getElem? (i := 211) (by decide +kernel)) (by decide +kernel), in_TallTowersModel, ⟨pl_TallTowersModel.2.1, pl_TallTowersModel.2.2, pd_2⟩, pl_TallTowersModel.1, rfl⟩
theorem ov_mX7_status : mOKv mX7_status 1 := ⟨rfl, ok_mX7_status, bigW_k8 (List.mem_of_getElem? (i := 209) (by decide +kernel)) (by decide +kernel), bigW_k8 (List.mem_of_getElem? (i := 210) (by decide +kernel)) (by decide +kernel)⟩
def mX0_clear : MT := (yX0_clear, cX0_clear, 1, none, RX0, 2, 43, none)
theorem pl_TallTowers_Book : plainName RX0 = true ∧ RX0 ≠ "java/lang/invoke/MethodHandle" ∧ RX0 ≠ "java/lang/invoke/VarHandle" := by decide +kernel
theorem ok_mX0_clear : mOK mX0_clear 0 := ⟨bigW_k2 (List.mem_of_getElem? (i := 103) (by decide +kernel)) (by decide +kernel), in_TallTowers_Book, ⟨pl_TallTowers_Book.2.1, pl_TallTowers_Book.2.2, pd_12⟩, pl_TallTowers_Book.1, rfl⟩
theorem ov_mX0_clear : mOKv mX0_clear 0 := ⟨rfl, ok_mX0_clear, bigW_k2 (List.mem_of_getElem? (i := 101) (by decide +kernel)) (by decide +kernel), bigW_k2 (List.mem_of_getElem? (i := 102) (by decide +kernel)) (by decide +kernel)⟩
def mX0_setRules : MT := (yX0_setRules, cX0_setRules, 4, none, RX0, 0, 0, none)
theorem ok_mX0_setRules : mOK mX0_setRules 3 := ⟨bigW_k2 (List.mem_of_getElem? (i := 116) (by decide +kernel)) (by decide +kernel), in_TallTowers_Book, ⟨pl_TallTowers_Book.2.1, pl_TallTowers_Book.2.2, pd_15⟩, pl_TallTowers_Book.1, rfl⟩
theorem ov_mX0_setRules : mOKv mX0_setRules 3 := ⟨rfl, ok_mX0_setRules, bigW_k2 (List.mem_of_getElem? (i := 114) (by decide +kernel)) (by decide +kernel), bigW_k2 (List.mem_of_getElem? (i := 115) (by decide +kernel)) (by decide +kernel)⟩
def mX0_carryOut : MT := (yX0_carryOut, cX0_carryOut, 8, some .boolean, RX0, 5, 133, none)
theorem pd_30 : (parseMethodDescriptor "(LTallTowers$Log;ILTallTowers$Spreader;)Z").map (fun d => d.parameters.length) = some 3 := by decide +kernel
theorem ok_mX0_carryOut : mOK mX0_carryOut 3 := ⟨bigW_k2 (List.mem_of_getElem? (i := 120) (by decide +kernel)) (by decide +kernel), in_TallTowers_Book, ⟨pl_TallTowers_Book.2.1, pl_TallTowers_Book.2.2, pd_30⟩, pl_TallTowers_Book.1, rfl⟩
theorem ov_mX0_carryOut : mOKv mX0_carryOut 3 := ⟨rfl, ok_mX0_carryOut, bigW_k2 (List.mem_of_getElem? (i := 118) (by decide +kernel)) (by decide +kernel), bigW_k2 (List.mem_of_getElem? (i := 119) (by decide +kernel)) (by decide +kernel)⟩
def mX0_amountToSpread : MT := (yX0_amountToSpread, cX0_amountToSpread, 3, some .long, RX0, 1, 22, none)
theorem pd_31 : (parseMethodDescriptor "(LTallTowers$Log;I)J").map (fun d => d.parameters.length) = some 2 := by decide +kernel
theorem ok_mX0_amountToSpread : mOK mX0_amountToSpread 2 := ⟨bigW_k2 (List.mem_of_getElem? (i := 204) (by decide +kernel)) (by decide +kernel), in_TallTowers_Book, ⟨pl_TallTowers_Book.2.1, pl_TallTowers_Book.2.2, pd_31⟩, pl_TallTowers_Book.1, rfl⟩
theorem ov_mX0_amountToSpread : mOKv mX0_amountToSpread 2 := ⟨rfl, ok_mX0_amountToSpread, bigW_k2 (List.mem_of_getElem? (i := 203) (by decide +kernel)) (by decide +kernel), bigW_k0 (List.mem_of_getElem? (i := 5) (by decide +kernel)) (by decide +kernel)⟩
def mX0_note : MT := (yX0_note, cX0_note, 8, some .boolean, RX0, 3, 73, none)
theorem pd_32 : (parseMethodDescriptor "(LTallTowers$Log;I)Z").map (fun d => d.parameters.length) = some 2 := by decide +kernel
theorem ok_mX0_note : mOK mX0_note 2 := ⟨bigW_k2 (List.mem_of_getElem? (i := 124) (by decide +kernel)) (by decide +kernel), in_TallTowers_Book, ⟨pl_TallTowers_Book.2.1, pl_TallTowers_Book.2.2, pd_32⟩, pl_TallTowers_Book.1, rfl⟩
theorem ov_mX0_note : mOKv mX0_note 2 := ⟨rfl, ok_mX0_note, bigW_k2 (List.mem_of_getElem? (i := 123) (by decide +kernel)) (by decide +kernel), bigW_k0 (List.mem_of_getElem? (i := 0) (by decide +kernel)) (by decide +kernel)⟩
def mX0_putStanding : MT := (yX0_putStanding, cX0_putStanding, 4, some .boolean, RX0, 0, 0, none)
theorem ok_mX0_putStanding : mOK mX0_putStanding 3 := ⟨bigW_k2 (List.mem_of_getElem? (i := 191) (by decide +kernel)) (by decide +kernel), in_TallTowers_Book, ⟨pl_TallTowers_Book.2.1, pl_TallTowers_Book.2.2, pd_14⟩, pl_TallTowers_Book.1, rfl⟩
theorem ov_mX0_putStanding : mOKv mX0_putStanding 3 := ⟨rfl, ok_mX0_putStanding, bigW_k2 (List.mem_of_getElem? (i := 190) (by decide +kernel)) (by decide +kernel), bigW_k0 (List.mem_of_getElem? (i := 2) (by decide +kernel)) (by decide +kernel)⟩
def mX0_takeBack : MT := (yX0_takeBack, cX0_takeBack, 5, some .boolean, RX0, 2, 44, none)
theorem ok_mX0_takeBack : mOK mX0_takeBack 1 := ⟨bigW_k2 (List.mem_of_getElem? (i := 195) (by decide +kernel)) (by decide +kernel), in_TallTowers_Book, ⟨pl_TallTowers_Book.2.1, pl_TallTowers_Book.2.2, pd_13⟩, pl_TallTowers_Book.1, rfl⟩
theorem ov_mX0_takeBack : mOKv mX0_takeBack 1 := ⟨rfl, ok_mX0_takeBack, bigW_k2 (List.mem_of_getElem? (i := 194) (by decide +kernel)) (by decide +kernel), bigW_k0 (List.mem_of_getElem? (i := 3) (by decide +kernel)) (by decide +kernel)⟩
def mX0_takeBackParts : MT := (yX0_takeBackParts, cX0_takeBackParts, 6, none, RX0, 0, 0, none)
theorem ok_mX0_takeBackParts : mOK mX0_takeBackParts 2 := ⟨bigW_k2 (List.mem_of_getElem? (i := 199) (by decide +kernel)) (by decide +kernel), in_TallTowers_Book, ⟨pl_TallTowers_Book.2.1, pl_TallTowers_Book.2.2, pd_28⟩, pl_TallTowers_Book.1, rfl⟩
theorem ov_mX0_takeBackParts : mOKv mX0_takeBackParts 2 := ⟨rfl, ok_mX0_takeBackParts, bigW_k2 (List.mem_of_getElem? (i := 198) (by decide +kernel)) (by decide +kernel), bigW_k0 (List.mem_of_getElem? (i := 4) (by decide +kernel)) (by decide +kernel)⟩
def mX0_keep : MT := (yX0_keep, cX0_keep, 5, none, RX0, 1, 26, none)
theorem pd_33 : (parseMethodDescriptor "(LTallTowers$Outcome;I)V").map (fun d => d.parameters.length) = some 2 := by decide +kernel
theorem ok_mX0_keep : mOK mX0_keep 2 := ⟨bigW_k3 (List.mem_of_getElem? (i := 77) (by decide +kernel)) (by decide +kernel), in_TallTowers_Book, ⟨pl_TallTowers_Book.2.1, pl_TallTowers_Book.2.2, pd_33⟩, pl_TallTowers_Book.1, rfl⟩
theorem ov_mX0_keep : mOKv mX0_keep 2 := ⟨rfl, ok_mX0_keep, bigW_k3 (List.mem_of_getElem? (i := 76) (by decide +kernel)) (by decide +kernel), bigW_k0 (List.mem_of_getElem? (i := 15) (by decide +kernel)) (by decide +kernel)⟩
def mX0_keepParts : MT := (yX0_keepParts, cX0_keepParts, 7, none, RX0, 0, 0, none)
theorem pd_34 : (parseMethodDescriptor "(LTallTowers$Outcome;II)V").map (fun d => d.parameters.length) = some 3 := by decide +kernel
theorem ok_mX0_keepParts : mOK mX0_keepParts 3 := ⟨bigW_k3 (List.mem_of_getElem? (i := 81) (by decide +kernel)) (by decide +kernel), in_TallTowers_Book, ⟨pl_TallTowers_Book.2.1, pl_TallTowers_Book.2.2, pd_34⟩, pl_TallTowers_Book.1, rfl⟩
theorem ov_mX0_keepParts : mOKv mX0_keepParts 3 := ⟨rfl, ok_mX0_keepParts, bigW_k3 (List.mem_of_getElem? (i := 80) (by decide +kernel)) (by decide +kernel), bigW_k0 (List.mem_of_getElem? (i := 16) (by decide +kernel)) (by decide +kernel)⟩
def mX0_thoseWho : MT := (yX0_thoseWho, cX0_thoseWho, 4, some .int, RX0, 0, 0, none)
theorem ok_mX0_thoseWho : mOK mX0_thoseWho 1 := ⟨bigW_k4 (List.mem_of_getElem? (i := 74) (by decide +kernel)) (by decide +kernel), in_TallTowers_Book, ⟨pl_TallTowers_Book.2.1, pl_TallTowers_Book.2.2, pd_2⟩, pl_TallTowers_Book.1, rfl⟩
theorem ov_mX0_thoseWho : mOKv mX0_thoseWho 1 := ⟨rfl, ok_mX0_thoseWho, bigW_k4 (List.mem_of_getElem? (i := 72) (by decide +kernel)) (by decide +kernel), bigW_k4 (List.mem_of_getElem? (i := 73) (by decide +kernel)) (by decide +kernel)⟩
def mX0_cashInAll : MT := (yX0_cashInAll, cX0_cashInAll, 4, some .long, RX0, 0, 0, none)
theorem ok_mX0_cashInAll : mOK mX0_cashInAll 0 := ⟨bigW_k5 (List.mem_of_getElem? (i := 0) (by decide +kernel)) (by decide +kernel), in_TallTowers_Book, ⟨pl_TallTowers_Book.2.1, pl_TallTowers_Book.2.2, pd_10⟩, pl_TallTowers_Book.1, rfl⟩
theorem ov_mX0_cashInAll : mOKv mX0_cashInAll 0 := ⟨rfl, ok_mX0_cashInAll, bigW_k4 (List.mem_of_getElem? (i := 238) (by decide +kernel)) (by decide +kernel), bigW_k4 (List.mem_of_getElem? (i := 239) (by decide +kernel)) (by decide +kernel)⟩
def mX0_canTake : MT := (yX0_canTake, cX0_canTake, 7, some .long, RX0, 0, 0, none)
theorem ok_mX0_canTake : mOK mX0_canTake 2 := ⟨bigW_k3 (List.mem_of_getElem? (i := 8) (by decide +kernel)) (by decide +kernel), in_TallTowers_Book, ⟨pl_TallTowers_Book.2.1, pl_TallTowers_Book.2.2, pd_3⟩, pl_TallTowers_Book.1, rfl⟩
theorem ov_mX0_canTake : mOKv mX0_canTake 2 := ⟨rfl, ok_mX0_canTake, bigW_k3 (List.mem_of_getElem? (i := 6) (by decide +kernel)) (by decide +kernel), bigW_k3 (List.mem_of_getElem? (i := 7) (by decide +kernel)) (by decide +kernel)⟩
def mX0_holeCanTake : MT := (yX0_holeCanTake, cX0_holeCanTake, 6, some .long, RX0, 0, 0, none)
theorem ok_mX0_holeCanTake : mOK mX0_holeCanTake 3 := ⟨bigW_k3 (List.mem_of_getElem? (i := 1) (by decide +kernel)) (by decide +kernel), in_TallTowers_Book, ⟨pl_TallTowers_Book.2.1, pl_TallTowers_Book.2.2, pd_7⟩, pl_TallTowers_Book.1, rfl⟩
theorem ov_mX0_holeCanTake : mOKv mX0_holeCanTake 3 := ⟨rfl, ok_mX0_holeCanTake, bigW_k2 (List.mem_of_getElem? (i := 239) (by decide +kernel)) (by decide +kernel), bigW_k3 (List.mem_of_getElem? (i := 0) (by decide +kernel)) (by decide +kernel)⟩
def mX0_roomOf : MT := (yX0_roomOf, cX0_roomOf, 8, some .long, RX0, 1, 26, none)
theorem ok_mX0_roomOf : mOK mX0_roomOf 2 := ⟨bigW_k3 (List.mem_of_getElem? (i := 24) (by decide +kernel)) (by decide +kernel), in_TallTowers_Book, ⟨pl_TallTowers_Book.2.1, pl_TallTowers_Book.2.2, pd_3⟩, pl_TallTowers_Book.1, rfl⟩
theorem ov_mX0_roomOf : mOKv mX0_roomOf 2 := ⟨rfl, ok_mX0_roomOf, bigW_k3 (List.mem_of_getElem? (i := 22) (by decide +kernel)) (by decide +kernel), bigW_k3 (List.mem_of_getElem? (i := 23) (by decide +kernel)) (by decide +kernel)⟩
def mX0_roomBelow : MT := (yX0_roomBelow, cX0_roomBelow, 7, some .long, RX0, 2, 45, none)
theorem ok_mX0_roomBelow : mOK mX0_roomBelow 1 := ⟨bigW_k5 (List.mem_of_getElem? (i := 195) (by decide +kernel)) (by decide +kernel), in_TallTowers_Book, ⟨pl_TallTowers_Book.2.1, pl_TallTowers_Book.2.2, pd_5⟩, pl_TallTowers_Book.1, rfl⟩
theorem ov_mX0_roomBelow : mOKv mX0_roomBelow 1 := ⟨rfl, ok_mX0_roomBelow, bigW_k5 (List.mem_of_getElem? (i := 193) (by decide +kernel)) (by decide +kernel), bigW_k5 (List.mem_of_getElem? (i := 194) (by decide +kernel)) (by decide +kernel)⟩
def mX1_clear : MT := (yX1_clear, cX1_clear, 2, none, RX1, 0, 0, none)
theorem pl_TallTowers_Harms : plainName RX1 = true ∧ RX1 ≠ "java/lang/invoke/MethodHandle" ∧ RX1 ≠ "java/lang/invoke/VarHandle" := by decide +kernel
theorem ok_mX1_clear : mOK mX1_clear 0 := ⟨bigW_k2 (List.mem_of_getElem? (i := 111) (by decide +kernel)) (by decide +kernel), in_TallTowers_Harms, ⟨pl_TallTowers_Harms.2.1, pl_TallTowers_Harms.2.2, pd_12⟩, pl_TallTowers_Harms.1, rfl⟩
theorem ov_mX1_clear : mOKv mX1_clear 0 := ⟨rfl, ok_mX1_clear, bigW_k2 (List.mem_of_getElem? (i := 109) (by decide +kernel)) (by decide +kernel), bigW_k2 (List.mem_of_getElem? (i := 110) (by decide +kernel)) (by decide +kernel)⟩
def mX1_put : MT := (yX1_put, cX1_put, 6, some .boolean, RX1, 2, 44, none)
theorem pd_35 : (parseMethodDescriptor "(IIIII)Z").map (fun d => d.parameters.length) = some 5 := by decide +kernel
theorem ok_mX1_put : mOK mX1_put 5 := ⟨bigW_k2 (List.mem_of_getElem? (i := 175) (by decide +kernel)) (by decide +kernel), in_TallTowers_Harms, ⟨pl_TallTowers_Harms.2.1, pl_TallTowers_Harms.2.2, pd_35⟩, pl_TallTowers_Harms.1, rfl⟩
theorem ov_mX1_put : mOKv mX1_put 5 := ⟨rfl, ok_mX1_put, bigW_k2 (List.mem_of_getElem? (i := 173) (by decide +kernel)) (by decide +kernel), bigW_k2 (List.mem_of_getElem? (i := 174) (by decide +kernel)) (by decide +kernel)⟩
def mX1_addLoss : MT := (yX1_addLoss, cX1_addLoss, 3, some .boolean, RX1, 0, 0, none)
theorem ok_mX1_addLoss : mOK mX1_addLoss 2 := ⟨bigW_k2 (List.mem_of_getElem? (i := 187) (by decide +kernel)) (by decide +kernel), in_TallTowers_Harms, ⟨pl_TallTowers_Harms.2.1, pl_TallTowers_Harms.2.2, pd_22⟩, pl_TallTowers_Harms.1, rfl⟩
theorem ov_mX1_addLoss : mOKv mX1_addLoss 2 := ⟨rfl, ok_mX1_addLoss, bigW_k2 (List.mem_of_getElem? (i := 185) (by decide +kernel)) (by decide +kernel), bigW_k2 (List.mem_of_getElem? (i := 186) (by decide +kernel)) (by decide +kernel)⟩
def mX1_clearRows : MT := (yX1_clearRows, cX1_clearRows, 2, none, RX1, 1, 23, none)
theorem ok_mX1_clearRows : mOK mX1_clearRows 1 := ⟨bigW_k2 (List.mem_of_getElem? (i := 179) (by decide +kernel)) (by decide +kernel), in_TallTowers_Harms, ⟨pl_TallTowers_Harms.2.1, pl_TallTowers_Harms.2.2, pd_21⟩, pl_TallTowers_Harms.1, rfl⟩
theorem ov_mX1_clearRows : mOKv mX1_clearRows 1 := ⟨rfl, ok_mX1_clearRows, bigW_k2 (List.mem_of_getElem? (i := 177) (by decide +kernel)) (by decide +kernel), bigW_k2 (List.mem_of_getElem? (i := 178) (by decide +kernel)) (by decide +kernel)⟩
def mX1_clearRow : MT := (yX1_clearRow, cX1_clearRow, 4, none, RX1, 0, 0, none)
theorem pd_36 : (parseMethodDescriptor "([JII)V").map (fun d => d.parameters.length) = some 3 := by decide +kernel
theorem ok_mX1_clearRow : mOK mX1_clearRow 3 := ⟨bigW_k2 (List.mem_of_getElem? (i := 182) (by decide +kernel)) (by decide +kernel), in_TallTowers_Harms, ⟨pl_TallTowers_Harms.2.1, pl_TallTowers_Harms.2.2, pd_36⟩, pl_TallTowers_Harms.1, rfl⟩
theorem os_mX1_clearRow : mOKs mX1_clearRow 3 := ⟨ok_mX1_clearRow, bigW_k2 (List.mem_of_getElem? (i := 181) (by decide +kernel)) (by decide +kernel)⟩
def mX1_borneOf : MT := (yX1_borneOf, cX1_borneOf, 3, some .long, RX1, 0, 0, none)
theorem ok_mX1_borneOf : mOK mX1_borneOf 2 := ⟨bigW_k4 (List.mem_of_getElem? (i := 60) (by decide +kernel)) (by decide +kernel), in_TallTowers_Harms, ⟨pl_TallTowers_Harms.2.1, pl_TallTowers_Harms.2.2, pd_3⟩, pl_TallTowers_Harms.1, rfl⟩
theorem ov_mX1_borneOf : mOKv mX1_borneOf 2 := ⟨rfl, ok_mX1_borneOf, bigW_k4 (List.mem_of_getElem? (i := 58) (by decide +kernel)) (by decide +kernel), bigW_k4 (List.mem_of_getElem? (i := 59) (by decide +kernel)) (by decide +kernel)⟩
def mX1_borneInAll : MT := (yX1_borneInAll, cX1_borneInAll, 5, some .long, RX1, 1, 22, none)
theorem ok_mX1_borneInAll : mOK mX1_borneInAll 1 := ⟨bigW_k4 (List.mem_of_getElem? (i := 235) (by decide +kernel)) (by decide +kernel), in_TallTowers_Harms, ⟨pl_TallTowers_Harms.2.1, pl_TallTowers_Harms.2.2, pd_5⟩, pl_TallTowers_Harms.1, rfl⟩
theorem ov_mX1_borneInAll : mOKv mX1_borneInAll 1 := ⟨rfl, ok_mX1_borneInAll, bigW_k4 (List.mem_of_getElem? (i := 233) (by decide +kernel)) (by decide +kernel), bigW_k4 (List.mem_of_getElem? (i := 234) (by decide +kernel)) (by decide +kernel)⟩
def mX1_reasonInAll : MT := (yX1_reasonInAll, cX1_reasonInAll, 5, some .long, RX1, 0, 0, none)
theorem ok_mX1_reasonInAll : mOK mX1_reasonInAll 1 := ⟨bigW_k5 (List.mem_of_getElem? (i := 20) (by decide +kernel)) (by decide +kernel), in_TallTowers_Harms, ⟨pl_TallTowers_Harms.2.1, pl_TallTowers_Harms.2.2, pd_5⟩, pl_TallTowers_Harms.1, rfl⟩
theorem ov_mX1_reasonInAll : mOKv mX1_reasonInAll 1 := ⟨rfl, ok_mX1_reasonInAll, bigW_k5 (List.mem_of_getElem? (i := 18) (by decide +kernel)) (by decide +kernel), bigW_k5 (List.mem_of_getElem? (i := 19) (by decide +kernel)) (by decide +kernel)⟩
def mX1_insurersAhead : MT := (yX1_insurersAhead, cX1_insurersAhead, 8, some .int, RX1, 2, 46, none)
theorem ok_mX1_insurersAhead : mOK mX1_insurersAhead 1 := ⟨bigW_k5 (List.mem_of_getElem? (i := 31) (by decide +kernel)) (by decide +kernel), in_TallTowers_Harms, ⟨pl_TallTowers_Harms.2.1, pl_TallTowers_Harms.2.2, pd_2⟩, pl_TallTowers_Harms.1, rfl⟩
theorem ov_mX1_insurersAhead : mOKv mX1_insurersAhead 1 := ⟨rfl, ok_mX1_insurersAhead, bigW_k5 (List.mem_of_getElem? (i := 29) (by decide +kernel)) (by decide +kernel), bigW_k5 (List.mem_of_getElem? (i := 30) (by decide +kernel)) (by decide +kernel)⟩
def mX2_write : MT := (yX2_write, cX2_write, 8, none, RX2, 0, 0, none)
theorem pl_TallTowers_Log : plainName RX2 = true ∧ RX2 ≠ "java/lang/invoke/MethodHandle" ∧ RX2 ≠ "java/lang/invoke/VarHandle" := by decide +kernel
theorem ok_mX2_write : mOK mX2_write 6 := ⟨bigW_k3 (List.mem_of_getElem? (i := 190) (by decide +kernel)) (by decide +kernel), in_TallTowers_Log, ⟨pl_TallTowers_Log.2.1, pl_TallTowers_Log.2.2, pd_20⟩, pl_TallTowers_Log.1, rfl⟩
theorem ov_mX2_write : mOKv mX2_write 6 := ⟨rfl, ok_mX2_write, bigW_k3 (List.mem_of_getElem? (i := 188) (by decide +kernel)) (by decide +kernel), bigW_k3 (List.mem_of_getElem? (i := 189) (by decide +kernel)) (by decide +kernel)⟩
def mX2_read : MT := (yX2_read, cX2_read, 3, some .int, RX2, 0, 0, none)
theorem ok_mX2_read : mOK mX2_read 2 := ⟨bigW_k2 (List.mem_of_getElem? (i := 128) (by decide +kernel)) (by decide +kernel), in_TallTowers_Log, ⟨pl_TallTowers_Log.2.1, pl_TallTowers_Log.2.2, pd_4⟩, pl_TallTowers_Log.1, rfl⟩
theorem ov_mX2_read : mOKv mX2_read 2 := ⟨rfl, ok_mX2_read, bigW_k2 (List.mem_of_getElem? (i := 126) (by decide +kernel)) (by decide +kernel), bigW_k2 (List.mem_of_getElem? (i := 127) (by decide +kernel)) (by decide +kernel)⟩
def mX2_find : MT := (yX2_find, cX2_find, 4, some .int, RX2, 1, 22, none)
theorem ok_mX2_find : mOK mX2_find 2 := ⟨bigW_k5 (List.mem_of_getElem? (i := 140) (by decide +kernel)) (by decide +kernel), in_TallTowers_Log, ⟨pl_TallTowers_Log.2.1, pl_TallTowers_Log.2.2, pd_4⟩, pl_TallTowers_Log.1, rfl⟩
theorem ov_mX2_find : mOKv mX2_find 2 := ⟨rfl, ok_mX2_find, bigW_k5 (List.mem_of_getElem? (i := 138) (by decide +kernel)) (by decide +kernel), bigW_k5 (List.mem_of_getElem? (i := 139) (by decide +kernel)) (by decide +kernel)⟩
def mX3_clear : MT := (yX3_clear, cX3_clear, 1, none, RX3, 1, 24, none)
theorem pl_TallTowers_Outcome : plainName RX3 = true ∧ RX3 ≠ "java/lang/invoke/MethodHandle" ∧ RX3 ≠ "java/lang/invoke/VarHandle" := by decide +kernel
theorem ok_mX3_clear : mOK mX3_clear 0 := ⟨bigW_k2 (List.mem_of_getElem? (i := 226) (by decide +kernel)) (by decide +kernel), in_TallTowers_Outcome, ⟨pl_TallTowers_Outcome.2.1, pl_TallTowers_Outcome.2.2, pd_12⟩, pl_TallTowers_Outcome.1, rfl⟩
theorem ov_mX3_clear : mOKv mX3_clear 0 := ⟨rfl, ok_mX3_clear, bigW_k2 (List.mem_of_getElem? (i := 224) (by decide +kernel)) (by decide +kernel), bigW_k2 (List.mem_of_getElem? (i := 225) (by decide +kernel)) (by decide +kernel)⟩
def mX3_fill : MT := (yX3_fill, cX3_fill, 16, some .long, RX3, 1, 26, none)
theorem pd_37 : (parseMethodDescriptor "(LTallTowers$Book;IIJ)J").map (fun d => d.parameters.length) = some 4 := by decide +kernel
theorem ok_mX3_fill : mOK mX3_fill 4 := ⟨bigW_k2 (List.mem_of_getElem? (i := 237) (by decide +kernel)) (by decide +kernel), in_TallTowers_Outcome, ⟨pl_TallTowers_Outcome.2.1, pl_TallTowers_Outcome.2.2, pd_37⟩, pl_TallTowers_Outcome.1, rfl⟩
theorem ov_mX3_fill : mOKv mX3_fill 4 := ⟨rfl, ok_mX3_fill, bigW_k2 (List.mem_of_getElem? (i := 235) (by decide +kernel)) (by decide +kernel), bigW_k2 (List.mem_of_getElem? (i := 236) (by decide +kernel)) (by decide +kernel)⟩
def mX3_split : MT := (yX3_split, cX3_split, 4, none, RX3, 2, 55, none)
theorem pd_38 : (parseMethodDescriptor "(LTallTowers$Towers;[I)V").map (fun d => d.parameters.length) = some 2 := by decide +kernel
theorem ok_mX3_split : mOK mX3_split 2 := ⟨bigW_k3 (List.mem_of_getElem? (i := 64) (by decide +kernel)) (by decide +kernel), in_TallTowers_Outcome, ⟨pl_TallTowers_Outcome.2.1, pl_TallTowers_Outcome.2.2, pd_38⟩, pl_TallTowers_Outcome.1, rfl⟩
theorem ov_mX3_split : mOKv mX3_split 2 := ⟨rfl, ok_mX3_split, bigW_k3 (List.mem_of_getElem? (i := 62) (by decide +kernel)) (by decide +kernel), bigW_k3 (List.mem_of_getElem? (i := 63) (by decide +kernel)) (by decide +kernel)⟩
def mX3_splitLayer : MT := (yX3_splitLayer, cX3_splitLayer, 12, none, RX3, 1, 24, none)
theorem pd_39 : (parseMethodDescriptor "(LTallTowers$Towers;[II)V").map (fun d => d.parameters.length) = some 3 := by decide +kernel
theorem ok_mX3_splitLayer : mOK mX3_splitLayer 3 := ⟨bigW_k3 (List.mem_of_getElem? (i := 68) (by decide +kernel)) (by decide +kernel), in_TallTowers_Outcome, ⟨pl_TallTowers_Outcome.2.1, pl_TallTowers_Outcome.2.2, pd_39⟩, pl_TallTowers_Outcome.1, rfl⟩
theorem ov_mX3_splitLayer : mOKv mX3_splitLayer 3 := ⟨rfl, ok_mX3_splitLayer, bigW_k3 (List.mem_of_getElem? (i := 67) (by decide +kernel)) (by decide +kernel), bigW_k0 (List.mem_of_getElem? (i := 13) (by decide +kernel)) (by decide +kernel)⟩
def mX3_charge : MT := (yX3_charge, cX3_charge, 5, none, RX3, 0, 0, none)
theorem ok_mX3_charge : mOK mX3_charge 3 := ⟨bigW_k3 (List.mem_of_getElem? (i := 73) (by decide +kernel)) (by decide +kernel), in_TallTowers_Outcome, ⟨pl_TallTowers_Outcome.2.1, pl_TallTowers_Outcome.2.2, pd_27⟩, pl_TallTowers_Outcome.1, rfl⟩
theorem ov_mX3_charge : mOKv mX3_charge 3 := ⟨rfl, ok_mX3_charge, bigW_k3 (List.mem_of_getElem? (i := 72) (by decide +kernel)) (by decide +kernel), bigW_k0 (List.mem_of_getElem? (i := 14) (by decide +kernel)) (by decide +kernel)⟩
def mX4_plan : MT := (yX4_plan, cX4_plan, 7, none, RX4, 4, 107, none)
theorem pl_TallTowers_Spreader : plainName RX4 = true ∧ RX4 ≠ "java/lang/invoke/MethodHandle" ∧ RX4 ≠ "java/lang/invoke/VarHandle" := by decide +kernel
theorem pd_40 : (parseMethodDescriptor "(LTallTowers$Book;IIJI)V").map (fun d => d.parameters.length) = some 5 := by decide +kernel
theorem ok_mX4_plan : mOK mX4_plan 5 := ⟨bigW_k2 (List.mem_of_getElem? (i := 214) (by decide +kernel)) (by decide +kernel), in_TallTowers_Spreader, ⟨pl_TallTowers_Spreader.2.1, pl_TallTowers_Spreader.2.2, pd_40⟩, pl_TallTowers_Spreader.1, rfl⟩
theorem ov_mX4_plan : mOKv mX4_plan 5 := ⟨rfl, ok_mX4_plan, bigW_k2 (List.mem_of_getElem? (i := 212) (by decide +kernel)) (by decide +kernel), bigW_k2 (List.mem_of_getElem? (i := 213) (by decide +kernel)) (by decide +kernel)⟩
def mX4_weighAlike : MT := (yX4_weighAlike, cX4_weighAlike, 5, none, RX4, 0, 0, none)
theorem pd_41 : (parseMethodDescriptor "(LTallTowers$Towers;I)V").map (fun d => d.parameters.length) = some 2 := by decide +kernel
theorem ok_mX4_weighAlike : mOK mX4_weighAlike 2 := ⟨bigW_k2 (List.mem_of_getElem? (i := 218) (by decide +kernel)) (by decide +kernel), in_TallTowers_Spreader, ⟨pl_TallTowers_Spreader.2.1, pl_TallTowers_Spreader.2.2, pd_41⟩, pl_TallTowers_Spreader.1, rfl⟩
theorem ov_mX4_weighAlike : mOKv mX4_weighAlike 2 := ⟨rfl, ok_mX4_weighAlike, bigW_k2 (List.mem_of_getElem? (i := 216) (by decide +kernel)) (by decide +kernel), bigW_k2 (List.mem_of_getElem? (i := 217) (by decide +kernel)) (by decide +kernel)⟩
def mX4_weighBySizes : MT := (yX4_weighBySizes, cX4_weighBySizes, 10, none, RX4, 2, 46, none)
theorem ok_mX4_weighBySizes : mOK mX4_weighBySizes 2 := ⟨bigW_k3 (List.mem_of_getElem? (i := 12) (by decide +kernel)) (by decide +kernel), in_TallTowers_Spreader, ⟨pl_TallTowers_Spreader.2.1, pl_TallTowers_Spreader.2.2, pd_41⟩, pl_TallTowers_Spreader.1, rfl⟩
theorem ov_mX4_weighBySizes : mOKv mX4_weighBySizes 2 := ⟨rfl, ok_mX4_weighBySizes, bigW_k3 (List.mem_of_getElem? (i := 10) (by decide +kernel)) (by decide +kernel), bigW_k3 (List.mem_of_getElem? (i := 11) (by decide +kernel)) (by decide +kernel)⟩
def mX4_payByWeights : MT := (yX4_payByWeights, cX4_payByWeights, 9, none, RX4, 2, 61, none)
theorem pd_42 : (parseMethodDescriptor "(LTallTowers$Book;IJLTallTowers$Outcome;)V").map (fun d => d.parameters.length) = some 4 := by decide +kernel
theorem ok_mX4_payByWeights : mOK mX4_payByWeights 4 := ⟨bigW_k2 (List.mem_of_getElem? (i := 222) (by decide +kernel)) (by decide +kernel), in_TallTowers_Spreader, ⟨pl_TallTowers_Spreader.2.1, pl_TallTowers_Spreader.2.2, pd_42⟩, pl_TallTowers_Spreader.1, rfl⟩
theorem ov_mX4_payByWeights : mOKv mX4_payByWeights 4 := ⟨rfl, ok_mX4_payByWeights, bigW_k2 (List.mem_of_getElem? (i := 221) (by decide +kernel)) (by decide +kernel), bigW_k0 (List.mem_of_getElem? (i := 6) (by decide +kernel)) (by decide +kernel)⟩
def mX4_measureRooms : MT := (yX4_measureRooms, cX4_measureRooms, 5, none, RX4, 2, 53, none)
theorem pd_43 : (parseMethodDescriptor "(LTallTowers$Book;II)V").map (fun d => d.parameters.length) = some 3 := by decide +kernel
theorem ok_mX4_measureRooms : mOK mX4_measureRooms 3 := ⟨bigW_k3 (List.mem_of_getElem? (i := 20) (by decide +kernel)) (by decide +kernel), in_TallTowers_Spreader, ⟨pl_TallTowers_Spreader.2.1, pl_TallTowers_Spreader.2.2, pd_43⟩, pl_TallTowers_Spreader.1, rfl⟩
theorem ov_mX4_measureRooms : mOKv mX4_measureRooms 3 := ⟨rfl, ok_mX4_measureRooms, bigW_k3 (List.mem_of_getElem? (i := 18) (by decide +kernel)) (by decide +kernel), bigW_k3 (List.mem_of_getElem? (i := 19) (by decide +kernel)) (by decide +kernel)⟩
def mX4_orderYears : MT := (yX4_orderYears, cX4_orderYears, 5, none, RX4, 2, 43, none)
theorem pd_44 : (parseMethodDescriptor "(LTallTowers$Book;)V").map (fun d => d.parameters.length) = some 1 := by decide +kernel
theorem ok_mX4_orderYears : mOK mX4_orderYears 1 := ⟨bigW_k3 (List.mem_of_getElem? (i := 30) (by decide +kernel)) (by decide +kernel), in_TallTowers_Spreader, ⟨pl_TallTowers_Spreader.2.1, pl_TallTowers_Spreader.2.2, pd_44⟩, pl_TallTowers_Spreader.1, rfl⟩
theorem ov_mX4_orderYears : mOKv mX4_orderYears 1 := ⟨rfl, ok_mX4_orderYears, bigW_k3 (List.mem_of_getElem? (i := 28) (by decide +kernel)) (by decide +kernel), bigW_k3 (List.mem_of_getElem? (i := 29) (by decide +kernel)) (by decide +kernel)⟩
def mX4_keyOf : MT := (yX4_keyOf, cX4_keyOf, 3, some .long, RX4, 1, 21, none)
theorem pd_45 : (parseMethodDescriptor "(LTallTowers$Book;I)J").map (fun d => d.parameters.length) = some 2 := by decide +kernel
theorem ok_mX4_keyOf : mOK mX4_keyOf 2 := ⟨bigW_k3 (List.mem_of_getElem? (i := 34) (by decide +kernel)) (by decide +kernel), in_TallTowers_Spreader, ⟨pl_TallTowers_Spreader.2.1, pl_TallTowers_Spreader.2.2, pd_45⟩, pl_TallTowers_Spreader.1, rfl⟩
theorem ov_mX4_keyOf : mOKv mX4_keyOf 2 := ⟨rfl, ok_mX4_keyOf, bigW_k3 (List.mem_of_getElem? (i := 33) (by decide +kernel)) (by decide +kernel), bigW_k0 (List.mem_of_getElem? (i := 7) (by decide +kernel)) (by decide +kernel)⟩
def mX4_payInTurn : MT := (yX4_payInTurn, cX4_payInTurn, 8, none, RX4, 2, 61, none)
theorem pd_46 : (parseMethodDescriptor "(LTallTowers$Book;IJ)V").map (fun d => d.parameters.length) = some 3 := by decide +kernel
theorem ok_mX4_payInTurn : mOK mX4_payInTurn 3 := ⟨bigW_k3 (List.mem_of_getElem? (i := 42) (by decide +kernel)) (by decide +kernel), in_TallTowers_Spreader, ⟨pl_TallTowers_Spreader.2.1, pl_TallTowers_Spreader.2.2, pd_46⟩, pl_TallTowers_Spreader.1, rfl⟩
theorem ov_mX4_payInTurn : mOKv mX4_payInTurn 3 := ⟨rfl, ok_mX4_payInTurn, bigW_k3 (List.mem_of_getElem? (i := 41) (by decide +kernel)) (by decide +kernel), bigW_k0 (List.mem_of_getElem? (i := 8) (by decide +kernel)) (by decide +kernel)⟩
def mX4_contribute : MT := (yX4_contribute, cX4_contribute, 9, none, RX4, 1, 33, none)
theorem ok_mX4_contribute : mOK mX4_contribute 1 := ⟨bigW_k3 (List.mem_of_getElem? (i := 46) (by decide +kernel)) (by decide +kernel), in_TallTowers_Spreader, ⟨pl_TallTowers_Spreader.2.1, pl_TallTowers_Spreader.2.2, pd_21⟩, pl_TallTowers_Spreader.1, rfl⟩
theorem ov_mX4_contribute : mOKv mX4_contribute 1 := ⟨rfl, ok_mX4_contribute, bigW_k3 (List.mem_of_getElem? (i := 45) (by decide +kernel)) (by decide +kernel), bigW_k0 (List.mem_of_getElem? (i := 9) (by decide +kernel)) (by decide +kernel)⟩
def mX4_payByLevel : MT := (yX4_payByLevel, cX4_payByLevel, 13, none, RX4, 3, 75, none)
theorem ok_mX4_payByLevel : mOK mX4_payByLevel 3 := ⟨bigW_k3 (List.mem_of_getElem? (i := 50) (by decide +kernel)) (by decide +kernel), in_TallTowers_Spreader, ⟨pl_TallTowers_Spreader.2.1, pl_TallTowers_Spreader.2.2, pd_46⟩, pl_TallTowers_Spreader.1, rfl⟩
theorem ov_mX4_payByLevel : mOKv mX4_payByLevel 3 := ⟨rfl, ok_mX4_payByLevel, bigW_k3 (List.mem_of_getElem? (i := 49) (by decide +kernel)) (by decide +kernel), bigW_k0 (List.mem_of_getElem? (i := 10) (by decide +kernel)) (by decide +kernel)⟩
def mX4_levelFor : MT := (yX4_levelFor, cX4_levelFor, 8, some .long, RX4, 2, 48, none)
theorem ok_mX4_levelFor : mOK mX4_levelFor 1 := ⟨bigW_k3 (List.mem_of_getElem? (i := 54) (by decide +kernel)) (by decide +kernel), in_TallTowers_Spreader, ⟨pl_TallTowers_Spreader.2.1, pl_TallTowers_Spreader.2.2, pd_26⟩, pl_TallTowers_Spreader.1, rfl⟩
theorem ov_mX4_levelFor : mOKv mX4_levelFor 1 := ⟨rfl, ok_mX4_levelFor, bigW_k3 (List.mem_of_getElem? (i := 53) (by decide +kernel)) (by decide +kernel), bigW_k0 (List.mem_of_getElem? (i := 11) (by decide +kernel)) (by decide +kernel)⟩
def mX4_takenAtLevel : MT := (yX4_takenAtLevel, cX4_takenAtLevel, 6, some .long, RX4, 1, 23, none)
theorem ok_mX4_takenAtLevel : mOK mX4_takenAtLevel 1 := ⟨bigW_k3 (List.mem_of_getElem? (i := 59) (by decide +kernel)) (by decide +kernel), in_TallTowers_Spreader, ⟨pl_TallTowers_Spreader.2.1, pl_TallTowers_Spreader.2.2, pd_26⟩, pl_TallTowers_Spreader.1, rfl⟩
theorem ov_mX4_takenAtLevel : mOKv mX4_takenAtLevel 1 := ⟨rfl, ok_mX4_takenAtLevel, bigW_k3 (List.mem_of_getElem? (i := 58) (by decide +kernel)) (by decide +kernel), bigW_k0 (List.mem_of_getElem? (i := 12) (by decide +kernel)) (by decide +kernel)⟩
def mX5_clear : MT := (yX5_clear, cX5_clear, 1, none, RX5, 1, 23, none)
theorem pl_TallTowers_Towers : plainName RX5 = true ∧ RX5 ≠ "java/lang/invoke/MethodHandle" ∧ RX5 ≠ "java/lang/invoke/VarHandle" := by decide +kernel
theorem ok_mX5_clear : mOK mX5_clear 0 := ⟨bigW_k2 (List.mem_of_getElem? (i := 107) (by decide +kernel)) (by decide +kernel), in_TallTowers_Towers, ⟨pl_TallTowers_Towers.2.1, pl_TallTowers_Towers.2.2, pd_12⟩, pl_TallTowers_Towers.1, rfl⟩
theorem ov_mX5_clear : mOKv mX5_clear 0 := ⟨rfl, ok_mX5_clear, bigW_k2 (List.mem_of_getElem? (i := 105) (by decide +kernel)) (by decide +kernel), bigW_k2 (List.mem_of_getElem? (i := 106) (by decide +kernel)) (by decide +kernel)⟩
def mX5_isThere : MT := (yX5_isThere, cX5_isThere, 2, some .boolean, RX5, 0, 0, none)
theorem ok_mX5_isThere : mOK mX5_isThere 1 := ⟨bigW_k2 (List.mem_of_getElem? (i := 159) (by decide +kernel)) (by decide +kernel), in_TallTowers_Towers, ⟨pl_TallTowers_Towers.2.1, pl_TallTowers_Towers.2.2, pd_13⟩, pl_TallTowers_Towers.1, rfl⟩
theorem ov_mX5_isThere : mOKv mX5_isThere 1 := ⟨rfl, ok_mX5_isThere, bigW_k2 (List.mem_of_getElem? (i := 157) (by decide +kernel)) (by decide +kernel), bigW_k2 (List.mem_of_getElem? (i := 158) (by decide +kernel)) (by decide +kernel)⟩
def mX5_isGap : MT := (yX5_isGap, cX5_isGap, 2, some .boolean, RX5, 0, 0, none)
theorem ok_mX5_isGap : mOK mX5_isGap 1 := ⟨bigW_k2 (List.mem_of_getElem? (i := 171) (by decide +kernel)) (by decide +kernel), in_TallTowers_Towers, ⟨pl_TallTowers_Towers.2.1, pl_TallTowers_Towers.2.2, pd_13⟩, pl_TallTowers_Towers.1, rfl⟩
theorem ov_mX5_isGap : mOKv mX5_isGap 1 := ⟨rfl, ok_mX5_isGap, bigW_k2 (List.mem_of_getElem? (i := 169) (by decide +kernel)) (by decide +kernel), bigW_k2 (List.mem_of_getElem? (i := 170) (by decide +kernel)) (by decide +kernel)⟩
def mX5_lacks : MT := (yX5_lacks, cX5_lacks, 2, some .boolean, RX5, 0, 0, none)
theorem ok_mX5_lacks : mOK mX5_lacks 1 := ⟨bigW_k2 (List.mem_of_getElem? (i := 136) (by decide +kernel)) (by decide +kernel), in_TallTowers_Towers, ⟨pl_TallTowers_Towers.2.1, pl_TallTowers_Towers.2.2, pd_13⟩, pl_TallTowers_Towers.1, rfl⟩
theorem ov_mX5_lacks : mOKv mX5_lacks 1 := ⟨rfl, ok_mX5_lacks, bigW_k2 (List.mem_of_getElem? (i := 134) (by decide +kernel)) (by decide +kernel), bigW_k2 (List.mem_of_getElem? (i := 135) (by decide +kernel)) (by decide +kernel)⟩
def mX5_layerAt : MT := (yX5_layerAt, cX5_layerAt, 3, some .int, RX5, 0, 0, none)
theorem ok_mX5_layerAt : mOK mX5_layerAt 2 := ⟨bigW_k2 (List.mem_of_getElem? (i := 144) (by decide +kernel)) (by decide +kernel), in_TallTowers_Towers, ⟨pl_TallTowers_Towers.2.1, pl_TallTowers_Towers.2.2, pd_4⟩, pl_TallTowers_Towers.1, rfl⟩
theorem ov_mX5_layerAt : mOKv mX5_layerAt 2 := ⟨rfl, ok_mX5_layerAt, bigW_k2 (List.mem_of_getElem? (i := 142) (by decide +kernel)) (by decide +kernel), bigW_k2 (List.mem_of_getElem? (i := 143) (by decide +kernel)) (by decide +kernel)⟩
def mX5_topOf : MT := (yX5_topOf, cX5_topOf, 2, some .int, RX5, 0, 0, none)
theorem ok_mX5_topOf : mOK mX5_topOf 1 := ⟨bigW_k2 (List.mem_of_getElem? (i := 148) (by decide +kernel)) (by decide +kernel), in_TallTowers_Towers, ⟨pl_TallTowers_Towers.2.1, pl_TallTowers_Towers.2.2, pd_2⟩, pl_TallTowers_Towers.1, rfl⟩
theorem ov_mX5_topOf : mOKv mX5_topOf 1 := ⟨rfl, ok_mX5_topOf, bigW_k2 (List.mem_of_getElem? (i := 146) (by decide +kernel)) (by decide +kernel), bigW_k2 (List.mem_of_getElem? (i := 147) (by decide +kernel)) (by decide +kernel)⟩
def mX5_lowestFrom : MT := (yX5_lowestFrom, cX5_lowestFrom, 2, some .int, RX5, 0, 0, none)
theorem ok_mX5_lowestFrom : mOK mX5_lowestFrom 1 := ⟨bigW_k3 (List.mem_of_getElem? (i := 38) (by decide +kernel)) (by decide +kernel), in_TallTowers_Towers, ⟨pl_TallTowers_Towers.2.1, pl_TallTowers_Towers.2.2, pd_2⟩, pl_TallTowers_Towers.1, rfl⟩
theorem ov_mX5_lowestFrom : mOKv mX5_lowestFrom 1 := ⟨rfl, ok_mX5_lowestFrom, bigW_k3 (List.mem_of_getElem? (i := 36) (by decide +kernel)) (by decide +kernel), bigW_k3 (List.mem_of_getElem? (i := 37) (by decide +kernel)) (by decide +kernel)⟩
def mX5_leftOf : MT := (yX5_leftOf, cX5_leftOf, 2, some .long, RX5, 0, 0, none)
theorem ok_mX5_leftOf : mOK mX5_leftOf 1 := ⟨bigW_k3 (List.mem_of_getElem? (i := 93) (by decide +kernel)) (by decide +kernel), in_TallTowers_Towers, ⟨pl_TallTowers_Towers.2.1, pl_TallTowers_Towers.2.2, pd_5⟩, pl_TallTowers_Towers.1, rfl⟩
theorem ov_mX5_leftOf : mOKv mX5_leftOf 1 := ⟨rfl, ok_mX5_leftOf, bigW_k3 (List.mem_of_getElem? (i := 91) (by decide +kernel)) (by decide +kernel), bigW_k3 (List.mem_of_getElem? (i := 92) (by decide +kernel)) (by decide +kernel)⟩
def mX5_isUsedUp : MT := (yX5_isUsedUp, cX5_isUsedUp, 2, some .boolean, RX5, 1, 21, none)
theorem ok_mX5_isUsedUp : mOK mX5_isUsedUp 1 := ⟨bigW_k3 (List.mem_of_getElem? (i := 89) (by decide +kernel)) (by decide +kernel), in_TallTowers_Towers, ⟨pl_TallTowers_Towers.2.1, pl_TallTowers_Towers.2.2, pd_13⟩, pl_TallTowers_Towers.1, rfl⟩
theorem ov_mX5_isUsedUp : mOKv mX5_isUsedUp 1 := ⟨rfl, ok_mX5_isUsedUp, bigW_k3 (List.mem_of_getElem? (i := 87) (by decide +kernel)) (by decide +kernel), bigW_k3 (List.mem_of_getElem? (i := 88) (by decide +kernel)) (by decide +kernel)⟩
def mX5_widthBelow : MT := (yX5_widthBelow, cX5_widthBelow, 4, some .int, RX5, 1, 22, none)
theorem ok_mX5_widthBelow : mOK mX5_widthBelow 2 := ⟨bigW_k4 (List.mem_of_getElem? (i := 131) (by decide +kernel)) (by decide +kernel), in_TallTowers_Towers, ⟨pl_TallTowers_Towers.2.1, pl_TallTowers_Towers.2.2, pd_4⟩, pl_TallTowers_Towers.1, rfl⟩
theorem ov_mX5_widthBelow : mOKv mX5_widthBelow 2 := ⟨rfl, ok_mX5_widthBelow, bigW_k4 (List.mem_of_getElem? (i := 129) (by decide +kernel)) (by decide +kernel), bigW_k4 (List.mem_of_getElem? (i := 130) (by decide +kernel)) (by decide +kernel)⟩
def mX5_standOf : MT := (yX5_standOf, cX5_standOf, 5, some .int, RX5, 1, 22, none)
theorem ok_mX5_standOf : mOK mX5_standOf 1 := ⟨bigW_k4 (List.mem_of_getElem? (i := 127) (by decide +kernel)) (by decide +kernel), in_TallTowers_Towers, ⟨pl_TallTowers_Towers.2.1, pl_TallTowers_Towers.2.2, pd_2⟩, pl_TallTowers_Towers.1, rfl⟩
theorem ov_mX5_standOf : mOKv mX5_standOf 1 := ⟨rfl, ok_mX5_standOf, bigW_k4 (List.mem_of_getElem? (i := 125) (by decide +kernel)) (by decide +kernel), bigW_k4 (List.mem_of_getElem? (i := 126) (by decide +kernel)) (by decide +kernel)⟩
def mX5_put : MT := (yX5_put, cX5_put, 7, some .boolean, RX5, 2, 47, none)
theorem ok_mX5_put : mOK mX5_put 5 := ⟨bigW_k2 (List.mem_of_getElem? (i := 132) (by decide +kernel)) (by decide +kernel), in_TallTowers_Towers, ⟨pl_TallTowers_Towers.2.1, pl_TallTowers_Towers.2.2, pd_35⟩, pl_TallTowers_Towers.1, rfl⟩
theorem ov_mX5_put : mOKv mX5_put 5 := ⟨rfl, ok_mX5_put, bigW_k2 (List.mem_of_getElem? (i := 130) (by decide +kernel)) (by decide +kernel), bigW_k2 (List.mem_of_getElem? (i := 131) (by decide +kernel)) (by decide +kernel)⟩
def mX5_isFree : MT := (yX5_isFree, cX5_isFree, 6, some .boolean, RX5, 1, 22, none)
theorem ok_mX5_isFree : mOK mX5_isFree 3 := ⟨bigW_k2 (List.mem_of_getElem? (i := 140) (by decide +kernel)) (by decide +kernel), in_TallTowers_Towers, ⟨pl_TallTowers_Towers.2.1, pl_TallTowers_Towers.2.2, pd_14⟩, pl_TallTowers_Towers.1, rfl⟩
theorem ov_mX5_isFree : mOKv mX5_isFree 3 := ⟨rfl, ok_mX5_isFree, bigW_k2 (List.mem_of_getElem? (i := 139) (by decide +kernel)) (by decide +kernel), bigW_k0 (List.mem_of_getElem? (i := 1) (by decide +kernel)) (by decide +kernel)⟩
def mX5_putSigner : MT := (yX5_putSigner, cX5_putSigner, 5, some .boolean, RX5, 1, 24, none)
theorem ok_mX5_putSigner : mOK mX5_putSigner 3 := ⟨bigW_k2 (List.mem_of_getElem? (i := 155) (by decide +kernel)) (by decide +kernel), in_TallTowers_Towers, ⟨pl_TallTowers_Towers.2.1, pl_TallTowers_Towers.2.2, pd_14⟩, pl_TallTowers_Towers.1, rfl⟩
theorem ov_mX5_putSigner : mOKv mX5_putSigner 3 := ⟨rfl, ok_mX5_putSigner, bigW_k2 (List.mem_of_getElem? (i := 153) (by decide +kernel)) (by decide +kernel), bigW_k2 (List.mem_of_getElem? (i := 154) (by decide +kernel)) (by decide +kernel)⟩
def mX5_putLack : MT := (yX5_putLack, cX5_putLack, 2, some .boolean, RX5, 1, 21, none)
theorem ok_mX5_putLack : mOK mX5_putLack 1 := ⟨bigW_k2 (List.mem_of_getElem? (i := 167) (by decide +kernel)) (by decide +kernel), in_TallTowers_Towers, ⟨pl_TallTowers_Towers.2.1, pl_TallTowers_Towers.2.2, pd_13⟩, pl_TallTowers_Towers.1, rfl⟩
theorem ov_mX5_putLack : mOKv mX5_putLack 1 := ⟨rfl, ok_mX5_putLack, bigW_k2 (List.mem_of_getElem? (i := 165) (by decide +kernel)) (by decide +kernel), bigW_k2 (List.mem_of_getElem? (i := 166) (by decide +kernel)) (by decide +kernel)⟩
def mX5_tenthsBy : MT := (yX5_tenthsBy, cX5_tenthsBy, 5, some .int, RX5, 0, 0, none)
theorem ok_mX5_tenthsBy : mOK mX5_tenthsBy 2 := ⟨bigW_k2 (List.mem_of_getElem? (i := 163) (by decide +kernel)) (by decide +kernel), in_TallTowers_Towers, ⟨pl_TallTowers_Towers.2.1, pl_TallTowers_Towers.2.2, pd_4⟩, pl_TallTowers_Towers.1, rfl⟩
theorem ov_mX5_tenthsBy : mOKv mX5_tenthsBy 2 := ⟨rfl, ok_mX5_tenthsBy, bigW_k2 (List.mem_of_getElem? (i := 161) (by decide +kernel)) (by decide +kernel), bigW_k2 (List.mem_of_getElem? (i := 162) (by decide +kernel)) (by decide +kernel)⟩
def mX5_gapBits : MT := (yX5_gapBits, cX5_gapBits, 3, some .int, RX5, 1, 21, none)
theorem ok_mX5_gapBits : mOK mX5_gapBits 0 := ⟨bigW_k4 (List.mem_of_getElem? (i := 99) (by decide +kernel)) (by decide +kernel), in_TallTowers_Towers, ⟨pl_TallTowers_Towers.2.1, pl_TallTowers_Towers.2.2, pd_6⟩, pl_TallTowers_Towers.1, rfl⟩
theorem ov_mX5_gapBits : mOKv mX5_gapBits 0 := ⟨rfl, ok_mX5_gapBits, bigW_k4 (List.mem_of_getElem? (i := 97) (by decide +kernel)) (by decide +kernel), bigW_k4 (List.mem_of_getElem? (i := 98) (by decide +kernel)) (by decide +kernel)⟩
def mX5_signerBits : MT := (yX5_signerBits, cX5_signerBits, 4, some .int, RX5, 0, 0, none)
theorem ok_mX5_signerBits : mOK mX5_signerBits 0 := ⟨bigW_k4 (List.mem_of_getElem? (i := 103) (by decide +kernel)) (by decide +kernel), in_TallTowers_Towers, ⟨pl_TallTowers_Towers.2.1, pl_TallTowers_Towers.2.2, pd_6⟩, pl_TallTowers_Towers.1, rfl⟩
theorem ov_mX5_signerBits : mOKv mX5_signerBits 0 := ⟨rfl, ok_mX5_signerBits, bigW_k4 (List.mem_of_getElem? (i := 101) (by decide +kernel)) (by decide +kernel), bigW_k4 (List.mem_of_getElem? (i := 102) (by decide +kernel)) (by decide +kernel)⟩
def mX5_sizesIn : MT := (yX5_sizesIn, cX5_sizesIn, 5, some .long, RX5, 1, 22, none)
theorem ok_mX5_sizesIn : mOK mX5_sizesIn 1 := ⟨bigW_k3 (List.mem_of_getElem? (i := 16) (by decide +kernel)) (by decide +kernel), in_TallTowers_Towers, ⟨pl_TallTowers_Towers.2.1, pl_TallTowers_Towers.2.2, pd_5⟩, pl_TallTowers_Towers.1, rfl⟩
theorem ov_mX5_sizesIn : mOKv mX5_sizesIn 1 := ⟨rfl, ok_mX5_sizesIn, bigW_k3 (List.mem_of_getElem? (i := 14) (by decide +kernel)) (by decide +kernel), bigW_k3 (List.mem_of_getElem? (i := 15) (by decide +kernel)) (by decide +kernel)⟩
def mX5_usedIn : MT := (yX5_usedIn, cX5_usedIn, 5, some .long, RX5, 1, 22, none)
theorem ok_mX5_usedIn : mOK mX5_usedIn 1 := ⟨bigW_k4 (List.mem_of_getElem? (i := 154) (by decide +kernel)) (by decide +kernel), in_TallTowers_Towers, ⟨pl_TallTowers_Towers.2.1, pl_TallTowers_Towers.2.2, pd_5⟩, pl_TallTowers_Towers.1, rfl⟩
theorem ov_mX5_usedIn : mOKv mX5_usedIn 1 := ⟨rfl, ok_mX5_usedIn, bigW_k4 (List.mem_of_getElem? (i := 152) (by decide +kernel)) (by decide +kernel), bigW_k4 (List.mem_of_getElem? (i := 153) (by decide +kernel)) (by decide +kernel)⟩
def mX5_leftIn : MT := (yX5_leftIn, cX5_leftIn, 5, some .long, RX5, 1, 22, none)
theorem ok_mX5_leftIn : mOK mX5_leftIn 1 := ⟨bigW_k4 (List.mem_of_getElem? (i := 158) (by decide +kernel)) (by decide +kernel), in_TallTowers_Towers, ⟨pl_TallTowers_Towers.2.1, pl_TallTowers_Towers.2.2, pd_5⟩, pl_TallTowers_Towers.1, rfl⟩
theorem ov_mX5_leftIn : mOKv mX5_leftIn 1 := ⟨rfl, ok_mX5_leftIn, bigW_k4 (List.mem_of_getElem? (i := 156) (by decide +kernel)) (by decide +kernel), bigW_k4 (List.mem_of_getElem? (i := 157) (by decide +kernel)) (by decide +kernel)⟩
def mX5_layerAtHeight : MT := (yX5_layerAtHeight, cX5_layerAtHeight, 5, some .int, RX5, 1, 22, none)
theorem ok_mX5_layerAtHeight : mOK mX5_layerAtHeight 2 := ⟨bigW_k4 (List.mem_of_getElem? (i := 172) (by decide +kernel)) (by decide +kernel), in_TallTowers_Towers, ⟨pl_TallTowers_Towers.2.1, pl_TallTowers_Towers.2.2, pd_4⟩, pl_TallTowers_Towers.1, rfl⟩
theorem ov_mX5_layerAtHeight : mOKv mX5_layerAtHeight 2 := ⟨rfl, ok_mX5_layerAtHeight, bigW_k4 (List.mem_of_getElem? (i := 170) (by decide +kernel)) (by decide +kernel), bigW_k4 (List.mem_of_getElem? (i := 171) (by decide +kernel)) (by decide +kernel)⟩
def mX5_coveredIn : MT := (yX5_coveredIn, cX5_coveredIn, 7, some .int, RX5, 1, 22, none)
theorem ok_mX5_coveredIn : mOK mX5_coveredIn 3 := ⟨bigW_k5 (List.mem_of_getElem? (i := 181) (by decide +kernel)) (by decide +kernel), in_TallTowers_Towers, ⟨pl_TallTowers_Towers.2.1, pl_TallTowers_Towers.2.2, pd_1⟩, pl_TallTowers_Towers.1, rfl⟩
theorem ov_mX5_coveredIn : mOKv mX5_coveredIn 3 := ⟨rfl, ok_mX5_coveredIn, bigW_k5 (List.mem_of_getElem? (i := 179) (by decide +kernel)) (by decide +kernel), bigW_k5 (List.mem_of_getElem? (i := 180) (by decide +kernel)) (by decide +kernel)⟩
def mX5_layersSignedBy : MT := (yX5_layersSignedBy, cX5_layersSignedBy, 4, some .int, RX5, 1, 24, none)
theorem ok_mX5_layersSignedBy : mOK mX5_layersSignedBy 1 := ⟨bigW_k5 (List.mem_of_getElem? (i := 4) (by decide +kernel)) (by decide +kernel), in_TallTowers_Towers, ⟨pl_TallTowers_Towers.2.1, pl_TallTowers_Towers.2.2, pd_2⟩, pl_TallTowers_Towers.1, rfl⟩
theorem ov_mX5_layersSignedBy : mOKv mX5_layersSignedBy 1 := ⟨rfl, ok_mX5_layersSignedBy, bigW_k5 (List.mem_of_getElem? (i := 2) (by decide +kernel)) (by decide +kernel), bigW_k5 (List.mem_of_getElem? (i := 3) (by decide +kernel)) (by decide +kernel)⟩
def mX5_leftSignedBy : MT := (yX5_leftSignedBy, cX5_leftSignedBy, 5, some .long, RX5, 1, 24, none)
theorem ok_mX5_leftSignedBy : mOK mX5_leftSignedBy 1 := ⟨bigW_k5 (List.mem_of_getElem? (i := 8) (by decide +kernel)) (by decide +kernel), in_TallTowers_Towers, ⟨pl_TallTowers_Towers.2.1, pl_TallTowers_Towers.2.2, pd_5⟩, pl_TallTowers_Towers.1, rfl⟩
theorem ov_mX5_leftSignedBy : mOKv mX5_leftSignedBy 1 := ⟨rfl, ok_mX5_leftSignedBy, bigW_k5 (List.mem_of_getElem? (i := 6) (by decide +kernel)) (by decide +kernel), bigW_k5 (List.mem_of_getElem? (i := 7) (by decide +kernel)) (by decide +kernel)⟩
def mL_place : MT := (yL_place, cL_place, 7, some .int, RL, 8, 205, some [(0, 14, 17, 13), (0, 14, 21, 15)])
theorem pl_TallTowersLaw : plainName RL = true ∧ RL ≠ "java/lang/invoke/MethodHandle" ∧ RL ≠ "java/lang/invoke/VarHandle" := by decide +kernel
theorem pd_47 : (parseMethodDescriptor "(LTallTowers;IIII[J)I").map (fun d => d.parameters.length) = some 6 := by decide +kernel
theorem ok_mL_place : mOK mL_place 6 := ⟨bigW_k3 (List.mem_of_getElem? (i := 103) (by decide +kernel)) (by decide +kernel), in_TallTowersLaw, ⟨pl_TallTowersLaw.2.1, pl_TallTowersLaw.2.2, pd_47⟩, pl_TallTowersLaw.1, rfl⟩
theorem os_mL_place : mOKs mL_place 6 := ⟨ok_mL_place, bigW_k3 (List.mem_of_getElem? (i := 102) (by decide +kernel)) (by decide +kernel)⟩
def mL_sign : MT := (yL_sign, cL_sign, 6, some .int, RL, 8, 203, some [(0, 12, 15, 21), (0, 12, 19, 13), (0, 12, 23, 15)])
theorem pd_48 : (parseMethodDescriptor "(LTallTowers;III[J)I").map (fun d => d.parameters.length) = some 5 := by decide +kernel
theorem ok_mL_sign : mOK mL_sign 5 := ⟨bigW_k3 (List.mem_of_getElem? (i := 213) (by decide +kernel)) (by decide +kernel), in_TallTowersLaw, ⟨pl_TallTowersLaw.2.1, pl_TallTowersLaw.2.2, pd_48⟩, pl_TallTowersLaw.1, rfl⟩
theorem os_mL_sign : mOKs mL_sign 5 := ⟨ok_mL_sign, bigW_k3 (List.mem_of_getElem? (i := 212) (by decide +kernel)) (by decide +kernel)⟩
def mL_lack : MT := (yL_lack, cL_lack, 4, some .int, RL, 8, 201, some [(0, 9, 12, 13), (0, 9, 15, 15)])
theorem pd_49 : (parseMethodDescriptor "(LTallTowers;I[J)I").map (fun d => d.parameters.length) = some 3 := by decide +kernel
theorem ok_mL_lack : mOK mL_lack 3 := ⟨bigW_k4 (List.mem_of_getElem? (i := 8) (by decide +kernel)) (by decide +kernel), in_TallTowersLaw, ⟨pl_TallTowersLaw.2.1, pl_TallTowersLaw.2.2, pd_49⟩, pl_TallTowersLaw.1, rfl⟩
theorem os_mL_lack : mOKs mL_lack 3 := ⟨ok_mL_lack, bigW_k4 (List.mem_of_getElem? (i := 7) (by decide +kernel)) (by decide +kernel)⟩
def mL_rules : MT := (yL_rules, cL_rules, 6, some .int, RL, 8, 203, some [(0, 12, 15, 13), (0, 12, 19, 15)])
theorem ok_mL_rules : mOK mL_rules 5 := ⟨bigW_k4 (List.mem_of_getElem? (i := 21) (by decide +kernel)) (by decide +kernel), in_TallTowersLaw, ⟨pl_TallTowersLaw.2.1, pl_TallTowersLaw.2.2, pd_48⟩, pl_TallTowersLaw.1, rfl⟩
theorem os_mL_rules : mOKs mL_rules 5 := ⟨ok_mL_rules, bigW_k4 (List.mem_of_getElem? (i := 20) (by decide +kernel)) (by decide +kernel)⟩
def mL_harm : MT := (yL_harm, cL_harm, 7, some .int, RL, 8, 205, some [(0, 14, 17, 13), (0, 14, 21, 15)])
theorem ok_mL_harm : mOK mL_harm 6 := ⟨bigW_k4 (List.mem_of_getElem? (i := 34) (by decide +kernel)) (by decide +kernel), in_TallTowersLaw, ⟨pl_TallTowersLaw.2.1, pl_TallTowersLaw.2.2, pd_47⟩, pl_TallTowersLaw.1, rfl⟩
theorem os_mL_harm : mOKs mL_harm 6 := ⟨ok_mL_harm, bigW_k4 (List.mem_of_getElem? (i := 33) (by decide +kernel)) (by decide +kernel)⟩
def mL_grow : MT := (yL_grow, cL_grow, 5, some .int, RL, 8, 204, some [(0, 9, 12, 21), (0, 9, 16, 13), (0, 9, 20, 15)])
theorem pd_50 : (parseMethodDescriptor "(LTallTowers;II[J)I").map (fun d => d.parameters.length) = some 4 := by decide +kernel
theorem ok_mL_grow : mOK mL_grow 4 := ⟨bigW_k4 (List.mem_of_getElem? (i := 48) (by decide +kernel)) (by decide +kernel), in_TallTowersLaw, ⟨pl_TallTowersLaw.2.1, pl_TallTowersLaw.2.2, pd_50⟩, pl_TallTowersLaw.1, rfl⟩
theorem os_mL_grow : mOKs mL_grow 4 := ⟨ok_mL_grow, bigW_k4 (List.mem_of_getElem? (i := 47) (by decide +kernel)) (by decide +kernel)⟩
def mL_settle : MT := (yL_settle, cL_settle, 5, some .int, RL, 8, 202, some [(0, 10, 13, 13), (0, 10, 17, 15)])
theorem ok_mL_settle : mOK mL_settle 4 := ⟨bigW_k4 (List.mem_of_getElem? (i := 63) (by decide +kernel)) (by decide +kernel), in_TallTowersLaw, ⟨pl_TallTowersLaw.2.1, pl_TallTowersLaw.2.2, pd_50⟩, pl_TallTowersLaw.1, rfl⟩
theorem os_mL_settle : mOKs mL_settle 4 := ⟨ok_mL_settle, bigW_k4 (List.mem_of_getElem? (i := 62) (by decide +kernel)) (by decide +kernel)⟩
def mL_fall : MT := (yL_fall, cL_fall, 4, some .int, RL, 8, 201, some [(0, 9, 12, 13), (0, 9, 15, 15)])
theorem ok_mL_fall : mOK mL_fall 3 := ⟨bigW_k4 (List.mem_of_getElem? (i := 77) (by decide +kernel)) (by decide +kernel), in_TallTowersLaw, ⟨pl_TallTowersLaw.2.1, pl_TallTowersLaw.2.2, pd_49⟩, pl_TallTowersLaw.1, rfl⟩
theorem os_mL_fall : mOKs mL_fall 3 := ⟨ok_mL_fall, bigW_k4 (List.mem_of_getElem? (i := 76) (by decide +kernel)) (by decide +kernel)⟩
def mL_reopen : MT := (yL_reopen, cL_reopen, 4, some .int, RL, 8, 203, some [(0, 8, 11, 21), (0, 8, 14, 15)])
theorem ok_mL_reopen : mOK mL_reopen 3 := ⟨bigW_k4 (List.mem_of_getElem? (i := 84) (by decide +kernel)) (by decide +kernel), in_TallTowersLaw, ⟨pl_TallTowersLaw.2.1, pl_TallTowersLaw.2.2, pd_49⟩, pl_TallTowersLaw.1, rfl⟩
theorem os_mL_reopen : mOKs mL_reopen 3 := ⟨ok_mL_reopen, bigW_k4 (List.mem_of_getElem? (i := 83) (by decide +kernel)) (by decide +kernel)⟩
def mL_told : MT := (yL_told, cL_told, 4, some .int, RL, 8, 124, some [(0, 9, 12, 13)])
theorem ok_mL_told : mOK mL_told 3 := ⟨bigW_k4 (List.mem_of_getElem? (i := 91) (by decide +kernel)) (by decide +kernel), in_TallTowersLaw, ⟨pl_TallTowersLaw.2.1, pl_TallTowersLaw.2.2, pd_49⟩, pl_TallTowersLaw.1, rfl⟩
theorem os_mL_told : mOKs mL_told 3 := ⟨ok_mL_told, bigW_k4 (List.mem_of_getElem? (i := 90) (by decide +kernel)) (by decide +kernel)⟩
def mL_event : MT := (yL_event, cL_event, 5, some .int, RL, 8, 125, some [(0, 10, 13, 21), (0, 10, 17, 13)])
theorem ok_mL_event : mOK mL_event 4 := ⟨bigW_k4 (List.mem_of_getElem? (i := 106) (by decide +kernel)) (by decide +kernel), in_TallTowersLaw, ⟨pl_TallTowersLaw.2.1, pl_TallTowersLaw.2.2, pd_50⟩, pl_TallTowersLaw.1, rfl⟩
theorem os_mL_event : mOKs mL_event 4 := ⟨ok_mL_event, bigW_k4 (List.mem_of_getElem? (i := 105) (by decide +kernel)) (by decide +kernel)⟩
def mL_layer : MT := (yL_layer, cL_layer, 5, some .int, RL, 8, 126, some [(0, 9, 12, 21), (0, 9, 16, 13)])
theorem ok_mL_layer : mOK mL_layer 4 := ⟨bigW_k4 (List.mem_of_getElem? (i := 118) (by decide +kernel)) (by decide +kernel), in_TallTowersLaw, ⟨pl_TallTowersLaw.2.1, pl_TallTowersLaw.2.2, pd_50⟩, pl_TallTowersLaw.1, rfl⟩
theorem os_mL_layer : mOKs mL_layer 4 := ⟨ok_mL_layer, bigW_k4 (List.mem_of_getElem? (i := 117) (by decide +kernel)) (by decide +kernel)⟩
def mL_signed : MT := (yL_signed, cL_signed, 6, some .int, RL, 8, 128, some [(0, 11, 14, 21), (0, 11, 18, 13)])
theorem ok_mL_signed : mOK mL_signed 5 := ⟨bigW_k4 (List.mem_of_getElem? (i := 134) (by decide +kernel)) (by decide +kernel), in_TallTowersLaw, ⟨pl_TallTowersLaw.2.1, pl_TallTowersLaw.2.2, pd_48⟩, pl_TallTowersLaw.1, rfl⟩
theorem os_mL_signed : mOKs mL_signed 5 := ⟨ok_mL_signed, bigW_k4 (List.mem_of_getElem? (i := 133) (by decide +kernel)) (by decide +kernel)⟩
def mL_year : MT := (yL_year, cL_year, 5, some .int, RL, 8, 127, some [(0, 9, 12, 13)])
theorem ok_mL_year : mOK mL_year 4 := ⟨bigW_k4 (List.mem_of_getElem? (i := 142) (by decide +kernel)) (by decide +kernel), in_TallTowersLaw, ⟨pl_TallTowersLaw.2.1, pl_TallTowersLaw.2.2, pd_50⟩, pl_TallTowersLaw.1, rfl⟩
theorem os_mL_year : mOKs mL_year 4 := ⟨ok_mL_year, bigW_k4 (List.mem_of_getElem? (i := 141) (by decide +kernel)) (by decide +kernel)⟩
def mL_at : MT := (yL_at, cL_at, 5, some .int, RL, 8, 125, some [(0, 10, 13, 13)])
theorem ok_mL_at : mOK mL_at 4 := ⟨bigW_k4 (List.mem_of_getElem? (i := 161) (by decide +kernel)) (by decide +kernel), in_TallTowersLaw, ⟨pl_TallTowersLaw.2.1, pl_TallTowersLaw.2.2, pd_50⟩, pl_TallTowersLaw.1, rfl⟩
theorem os_mL_at : mOKs mL_at 4 := ⟨ok_mL_at, bigW_k4 (List.mem_of_getElem? (i := 160) (by decide +kernel)) (by decide +kernel)⟩
def mL_rung : MT := (yL_rung, cL_rung, 5, some .int, RL, 8, 125, some [(0, 10, 13, 13)])
theorem ok_mL_rung : mOK mL_rung 4 := ⟨bigW_k4 (List.mem_of_getElem? (i := 175) (by decide +kernel)) (by decide +kernel), in_TallTowersLaw, ⟨pl_TallTowersLaw.2.1, pl_TallTowersLaw.2.2, pd_50⟩, pl_TallTowersLaw.1, rfl⟩
theorem os_mL_rung : mOKs mL_rung 4 := ⟨ok_mL_rung, bigW_k4 (List.mem_of_getElem? (i := 174) (by decide +kernel)) (by decide +kernel)⟩
def mL_damage : MT := (yL_damage, cL_damage, 5, some .int, RL, 8, 126, some [(0, 9, 12, 21), (0, 9, 16, 13)])
theorem ok_mL_damage : mOK mL_damage 4 := ⟨bigW_k4 (List.mem_of_getElem? (i := 182) (by decide +kernel)) (by decide +kernel), in_TallTowersLaw, ⟨pl_TallTowersLaw.2.1, pl_TallTowersLaw.2.2, pd_50⟩, pl_TallTowersLaw.1, rfl⟩
theorem os_mL_damage : mOKs mL_damage 4 := ⟨ok_mL_damage, bigW_k4 (List.mem_of_getElem? (i := 181) (by decide +kernel)) (by decide +kernel)⟩
def mL_took : MT := (yL_took, cL_took, 5, some .int, RL, 8, 125, some [(0, 9, 12, 21)])
theorem ok_mL_took : mOK mL_took 4 := ⟨bigW_k4 (List.mem_of_getElem? (i := 189) (by decide +kernel)) (by decide +kernel), in_TallTowersLaw, ⟨pl_TallTowersLaw.2.1, pl_TallTowersLaw.2.2, pd_50⟩, pl_TallTowersLaw.1, rfl⟩
theorem os_mL_took : mOKs mL_took 4 := ⟨ok_mL_took, bigW_k4 (List.mem_of_getElem? (i := 188) (by decide +kernel)) (by decide +kernel)⟩
def mL_hole : MT := (yL_hole, cL_hole, 5, some .int, RL, 8, 125, some [(0, 9, 12, 21)])
theorem ok_mL_hole : mOK mL_hole 4 := ⟨bigW_k4 (List.mem_of_getElem? (i := 196) (by decide +kernel)) (by decide +kernel), in_TallTowersLaw, ⟨pl_TallTowersLaw.2.1, pl_TallTowersLaw.2.2, pd_50⟩, pl_TallTowersLaw.1, rfl⟩
theorem os_mL_hole : mOKs mL_hole 4 := ⟨ok_mL_hole, bigW_k4 (List.mem_of_getElem? (i := 195) (by decide +kernel)) (by decide +kernel)⟩
def mL_moved : MT := (yL_moved, cL_moved, 5, some .int, RL, 8, 125, some [(0, 9, 12, 21)])
theorem ok_mL_moved : mOK mL_moved 4 := ⟨bigW_k4 (List.mem_of_getElem? (i := 203) (by decide +kernel)) (by decide +kernel), in_TallTowersLaw, ⟨pl_TallTowersLaw.2.1, pl_TallTowersLaw.2.2, pd_50⟩, pl_TallTowersLaw.1, rfl⟩
theorem os_mL_moved : mOKs mL_moved 4 := ⟨ok_mL_moved, bigW_k4 (List.mem_of_getElem? (i := 202) (by decide +kernel)) (by decide +kernel)⟩
def mL_bears : MT := (yL_bears, cL_bears, 5, some .int, RL, 8, 125, some [(0, 9, 12, 21), (0, 9, 16, 13)])
theorem ok_mL_bears : mOK mL_bears 4 := ⟨bigW_k4 (List.mem_of_getElem? (i := 210) (by decide +kernel)) (by decide +kernel), in_TallTowersLaw, ⟨pl_TallTowersLaw.2.1, pl_TallTowersLaw.2.2, pd_50⟩, pl_TallTowersLaw.1, rfl⟩
theorem os_mL_bears : mOKs mL_bears 4 := ⟨ok_mL_bears, bigW_k4 (List.mem_of_getElem? (i := 209) (by decide +kernel)) (by decide +kernel)⟩
def mL_falls : MT := (yL_falls, cL_falls, 5, some .int, RL, 8, 125, some [(0, 9, 12, 21), (0, 9, 16, 13)])
theorem ok_mL_falls : mOK mL_falls 4 := ⟨bigW_k4 (List.mem_of_getElem? (i := 217) (by decide +kernel)) (by decide +kernel), in_TallTowersLaw, ⟨pl_TallTowersLaw.2.1, pl_TallTowersLaw.2.2, pd_50⟩, pl_TallTowersLaw.1, rfl⟩
theorem os_mL_falls : mOKs mL_falls 4 := ⟨ok_mL_falls, bigW_k4 (List.mem_of_getElem? (i := 216) (by decide +kernel)) (by decide +kernel)⟩
def mL_insurer : MT := (yL_insurer, cL_insurer, 5, some .int, RL, 8, 125, some [(0, 9, 12, 13)])
theorem ok_mL_insurer : mOK mL_insurer 4 := ⟨bigW_k4 (List.mem_of_getElem? (i := 227) (by decide +kernel)) (by decide +kernel), in_TallTowersLaw, ⟨pl_TallTowersLaw.2.1, pl_TallTowersLaw.2.2, pd_50⟩, pl_TallTowersLaw.1, rfl⟩
theorem os_mL_insurer : mOKs mL_insurer 4 := ⟨ok_mL_insurer, bigW_k4 (List.mem_of_getElem? (i := 226) (by decide +kernel)) (by decide +kernel)⟩
def mL_burden : MT := (yL_burden, cL_burden, 4, some .int, RL, 8, 124, some [(0, 8, 11, 13)])
theorem ok_mL_burden : mOK mL_burden 3 := ⟨bigW_k5 (List.mem_of_getElem? (i := 12) (by decide +kernel)) (by decide +kernel), in_TallTowersLaw, ⟨pl_TallTowersLaw.2.1, pl_TallTowersLaw.2.2, pd_49⟩, pl_TallTowersLaw.1, rfl⟩
theorem os_mL_burden : mOKs mL_burden 3 := ⟨ok_mL_burden, bigW_k5 (List.mem_of_getElem? (i := 11) (by decide +kernel)) (by decide +kernel)⟩
def mL_rank : MT := (yL_rank, cL_rank, 4, some .int, RL, 8, 126, some [(0, 9, 12, 13)])
theorem ok_mL_rank : mOK mL_rank 3 := ⟨bigW_k5 (List.mem_of_getElem? (i := 23) (by decide +kernel)) (by decide +kernel), in_TallTowersLaw, ⟨pl_TallTowersLaw.2.1, pl_TallTowersLaw.2.2, pd_49⟩, pl_TallTowersLaw.1, rfl⟩
theorem os_mL_rank : mOKs mL_rank 3 := ⟨ok_mL_rank, bigW_k5 (List.mem_of_getElem? (i := 22) (by decide +kernel)) (by decide +kernel)⟩
def mL_offs : MT := (yL_offs, cL_offs, 7, some .int, RL, 8, 127, some [(0, 14, 17, 13)])
theorem ok_mL_offs : mOK mL_offs 6 := ⟨bigW_k5 (List.mem_of_getElem? (i := 35) (by decide +kernel)) (by decide +kernel), in_TallTowersLaw, ⟨pl_TallTowersLaw.2.1, pl_TallTowersLaw.2.2, pd_47⟩, pl_TallTowersLaw.1, rfl⟩
theorem os_mL_offs : mOKs mL_offs 6 := ⟨ok_mL_offs, bigW_k5 (List.mem_of_getElem? (i := 34) (by decide +kernel)) (by decide +kernel)⟩
def mL_would : MT := (yL_would, cL_would, 8, some .int, RL, 8, 158, some [(0, 15, 18, 13)])
theorem pd_51 : (parseMethodDescriptor "(LTallTowers;IIIII[J)I").map (fun d => d.parameters.length) = some 7 := by decide +kernel
theorem ok_mL_would : mOK mL_would 7 := ⟨bigW_k5 (List.mem_of_getElem? (i := 43) (by decide +kernel)) (by decide +kernel), in_TallTowersLaw, ⟨pl_TallTowersLaw.2.1, pl_TallTowersLaw.2.2, pd_51⟩, pl_TallTowersLaw.1, rfl⟩
theorem os_mL_would : mOKs mL_would 7 := ⟨ok_mL_would, bigW_k5 (List.mem_of_getElem? (i := 42) (by decide +kernel)) (by decide +kernel)⟩
def mL_takes : MT := (yL_takes, cL_takes, 8, some .int, RL, 8, 158, some [(0, 15, 18, 21), (0, 15, 22, 13)])
theorem ok_mL_takes : mOK mL_takes 7 := ⟨bigW_k5 (List.mem_of_getElem? (i := 55) (by decide +kernel)) (by decide +kernel), in_TallTowersLaw, ⟨pl_TallTowersLaw.2.1, pl_TallTowersLaw.2.2, pd_51⟩, pl_TallTowersLaw.1, rfl⟩
theorem os_mL_takes : mOKs mL_takes 7 := ⟨ok_mL_takes, bigW_k5 (List.mem_of_getElem? (i := 54) (by decide +kernel)) (by decide +kernel)⟩
def mL_drops : MT := (yL_drops, cL_drops, 8, some .int, RL, 8, 158, some [(0, 15, 18, 13)])
theorem ok_mL_drops : mOK mL_drops 7 := ⟨bigW_k5 (List.mem_of_getElem? (i := 62) (by decide +kernel)) (by decide +kernel), in_TallTowersLaw, ⟨pl_TallTowersLaw.2.1, pl_TallTowersLaw.2.2, pd_51⟩, pl_TallTowersLaw.1, rfl⟩
theorem os_mL_drops : mOKs mL_drops 7 := ⟨ok_mL_drops, bigW_k5 (List.mem_of_getElem? (i := 61) (by decide +kernel)) (by decide +kernel)⟩
def mL_share : MT := (yL_share, cL_share, 8, some .int, RL, 8, 128, some [(0, 15, 18, 13)])
theorem ok_mL_share : mOK mL_share 7 := ⟨bigW_k5 (List.mem_of_getElem? (i := 69) (by decide +kernel)) (by decide +kernel), in_TallTowersLaw, ⟨pl_TallTowersLaw.2.1, pl_TallTowersLaw.2.2, pd_51⟩, pl_TallTowersLaw.1, rfl⟩
theorem os_mL_share : mOKs mL_share 7 := ⟨ok_mL_share, bigW_k5 (List.mem_of_getElem? (i := 68) (by decide +kernel)) (by decide +kernel)⟩
def mL_weight : MT := (yL_weight, cL_weight, 7, some .int, RL, 8, 127, some [(0, 13, 16, 13)])
theorem ok_mL_weight : mOK mL_weight 6 := ⟨bigW_k5 (List.mem_of_getElem? (i := 78) (by decide +kernel)) (by decide +kernel), in_TallTowersLaw, ⟨pl_TallTowersLaw.2.1, pl_TallTowersLaw.2.2, pd_47⟩, pl_TallTowersLaw.1, rfl⟩
theorem os_mL_weight : mOKs mL_weight 6 := ⟨ok_mL_weight, bigW_k5 (List.mem_of_getElem? (i := 77) (by decide +kernel)) (by decide +kernel)⟩
def mL_picks : MT := (yL_picks, cL_picks, 7, some .int, RL, 8, 127, some [(0, 14, 17, 13)])
theorem ok_mL_picks : mOK mL_picks 6 := ⟨bigW_k5 (List.mem_of_getElem? (i := 86) (by decide +kernel)) (by decide +kernel), in_TallTowersLaw, ⟨pl_TallTowersLaw.2.1, pl_TallTowersLaw.2.2, pd_47⟩, pl_TallTowersLaw.1, rfl⟩
theorem os_mL_picks : mOKs mL_picks 6 := ⟨ok_mL_picks, bigW_k5 (List.mem_of_getElem? (i := 85) (by decide +kernel)) (by decide +kernel)⟩
def mL_other : MT := (yL_other, cL_other, 7, some .int, RL, 8, 208, some [(0, 13, 16, 13)])
theorem ok_mL_other : mOK mL_other 6 := ⟨bigW_k5 (List.mem_of_getElem? (i := 95) (by decide +kernel)) (by decide +kernel), in_TallTowersLaw, ⟨pl_TallTowersLaw.2.1, pl_TallTowersLaw.2.2, pd_47⟩, pl_TallTowersLaw.1, rfl⟩
theorem os_mL_other : mOKs mL_other 6 := ⟨ok_mL_other, bigW_k5 (List.mem_of_getElem? (i := 94) (by decide +kernel)) (by decide +kernel)⟩
def mL_best : MT := (yL_best, cL_best, 5, some .int, RL, 8, 214, some [(0, 9, 12, 13)])
theorem ok_mL_best : mOK mL_best 4 := ⟨bigW_k5 (List.mem_of_getElem? (i := 107) (by decide +kernel)) (by decide +kernel), in_TallTowersLaw, ⟨pl_TallTowersLaw.2.1, pl_TallTowersLaw.2.2, pd_50⟩, pl_TallTowersLaw.1, rfl⟩
theorem os_mL_best : mOKs mL_best 4 := ⟨ok_mL_best, bigW_k5 (List.mem_of_getElem? (i := 106) (by decide +kernel)) (by decide +kernel)⟩
def mL_without : MT := (yL_without, cL_without, 5, some .int, RL, 8, 205, some [(0, 9, 12, 21), (0, 9, 16, 13)])
theorem ok_mL_without : mOK mL_without 4 := ⟨bigW_k5 (List.mem_of_getElem? (i := 114) (by decide +kernel)) (by decide +kernel), in_TallTowersLaw, ⟨pl_TallTowersLaw.2.1, pl_TallTowersLaw.2.2, pd_50⟩, pl_TallTowersLaw.1, rfl⟩
theorem os_mL_without : mOKs mL_without 4 := ⟨ok_mL_without, bigW_k5 (List.mem_of_getElem? (i := 113) (by decide +kernel)) (by decide +kernel)⟩
def mL_undone : MT := (yL_undone, cL_undone, 4, some .int, RL, 8, 204, some [(0, 9, 12, 21)])
theorem ok_mL_undone : mOK mL_undone 3 := ⟨bigW_k5 (List.mem_of_getElem? (i := 125) (by decide +kernel)) (by decide +kernel), in_TallTowersLaw, ⟨pl_TallTowersLaw.2.1, pl_TallTowersLaw.2.2, pd_49⟩, pl_TallTowersLaw.1, rfl⟩
theorem os_mL_undone : mOKs mL_undone 3 := ⟨ok_mL_undone, bigW_k5 (List.mem_of_getElem? (i := 124) (by decide +kernel)) (by decide +kernel)⟩
def mL_spared : MT := (yL_spared, cL_spared, 4, some .int, RL, 8, 205, some [(0, 8, 11, 13)])
theorem ok_mL_spared : mOK mL_spared 3 := ⟨bigW_k5 (List.mem_of_getElem? (i := 132) (by decide +kernel)) (by decide +kernel), in_TallTowersLaw, ⟨pl_TallTowersLaw.2.1, pl_TallTowersLaw.2.2, pd_49⟩, pl_TallTowersLaw.1, rfl⟩
theorem os_mL_spared : mOKs mL_spared 3 := ⟨ok_mL_spared, bigW_k5 (List.mem_of_getElem? (i := 131) (by decide +kernel)) (by decide +kernel)⟩
def mL_shift : MT := (yL_shift, cL_shift, 6, some .int, RL, 8, 184, some [(0, 11, 14, 21), (0, 11, 18, 13)])
theorem ok_mL_shift : mOK mL_shift 5 := ⟨bigW_k5 (List.mem_of_getElem? (i := 144) (by decide +kernel)) (by decide +kernel), in_TallTowersLaw, ⟨pl_TallTowersLaw.2.1, pl_TallTowersLaw.2.2, pd_48⟩, pl_TallTowersLaw.1, rfl⟩
theorem os_mL_shift : mOKs mL_shift 5 := ⟨ok_mL_shift, bigW_k5 (List.mem_of_getElem? (i := 143) (by decide +kernel)) (by decide +kernel)⟩
def mL_after : MT := (yL_after, cL_after, 5, some .int, RL, 8, 183, some [(0, 9, 12, 21), (0, 9, 16, 13)])
theorem ok_mL_after : mOK mL_after 4 := ⟨bigW_k5 (List.mem_of_getElem? (i := 151) (by decide +kernel)) (by decide +kernel), in_TallTowersLaw, ⟨pl_TallTowersLaw.2.1, pl_TallTowersLaw.2.2, pd_50⟩, pl_TallTowersLaw.1, rfl⟩
theorem os_mL_after : mOKs mL_after 4 := ⟨ok_mL_after, bigW_k5 (List.mem_of_getElem? (i := 150) (by decide +kernel)) (by decide +kernel)⟩
def mL_usedUp : MT := (yL_usedUp, cL_usedUp, 4, some .int, RL, 8, 182, some [(0, 9, 12, 21)])
theorem ok_mL_usedUp : mOK mL_usedUp 3 := ⟨bigW_k5 (List.mem_of_getElem? (i := 158) (by decide +kernel)) (by decide +kernel), in_TallTowersLaw, ⟨pl_TallTowersLaw.2.1, pl_TallTowersLaw.2.2, pd_49⟩, pl_TallTowersLaw.1, rfl⟩
theorem os_mL_usedUp : mOKs mL_usedUp 3 := ⟨ok_mL_usedUp, bigW_k5 (List.mem_of_getElem? (i := 157) (by decide +kernel)) (by decide +kernel)⟩
def mL_heaviest : MT := (yL_heaviest, cL_heaviest, 5, some .int, RL, 8, 211, some [(0, 9, 12, 13)])
theorem ok_mL_heaviest : mOK mL_heaviest 4 := ⟨bigW_k5 (List.mem_of_getElem? (i := 166) (by decide +kernel)) (by decide +kernel), in_TallTowersLaw, ⟨pl_TallTowersLaw.2.1, pl_TallTowersLaw.2.2, pd_50⟩, pl_TallTowersLaw.1, rfl⟩
theorem os_mL_heaviest : mOKs mL_heaviest 4 := ⟨ok_mL_heaviest, bigW_k5 (List.mem_of_getElem? (i := 165) (by decide +kernel)) (by decide +kernel)⟩
def mL_cover : MT := (yL_cover, cL_cover, 6, some .int, RL, 8, 126, some [(0, 12, 15, 13)])
theorem ok_mL_cover : mOK mL_cover 5 := ⟨bigW_k5 (List.mem_of_getElem? (i := 173) (by decide +kernel)) (by decide +kernel), in_TallTowersLaw, ⟨pl_TallTowersLaw.2.1, pl_TallTowersLaw.2.2, pd_48⟩, pl_TallTowersLaw.1, rfl⟩
theorem os_mL_cover : mOKs mL_cover 5 := ⟨ok_mL_cover, bigW_k5 (List.mem_of_getElem? (i := 172) (by decide +kernel)) (by decide +kernel)⟩
def mL_reach : MT := (yL_reach, cL_reach, 4, some .int, RL, 8, 124, some [(0, 8, 11, 21)])
theorem ok_mL_reach : mOK mL_reach 3 := ⟨bigW_k5 (List.mem_of_getElem? (i := 187) (by decide +kernel)) (by decide +kernel), in_TallTowersLaw, ⟨pl_TallTowersLaw.2.1, pl_TallTowersLaw.2.2, pd_49⟩, pl_TallTowersLaw.1, rfl⟩
theorem os_mL_reach : mOKs mL_reach 3 := ⟨ok_mL_reach, bigW_k5 (List.mem_of_getElem? (i := 186) (by decide +kernel)) (by decide +kernel)⟩
def mL_uneven : MT := (yL_uneven, cL_uneven, 8, some .int, RL, 8, 158, some [(0, 15, 18, 21), (0, 15, 22, 13)])
theorem ok_mL_uneven : mOK mL_uneven 7 := ⟨bigW_k5 (List.mem_of_getElem? (i := 200) (by decide +kernel)) (by decide +kernel), in_TallTowersLaw, ⟨pl_TallTowersLaw.2.1, pl_TallTowersLaw.2.2, pd_51⟩, pl_TallTowersLaw.1, rfl⟩
theorem os_mL_uneven : mOKs mL_uneven 7 := ⟨ok_mL_uneven, bigW_k5 (List.mem_of_getElem? (i := 199) (by decide +kernel)) (by decide +kernel)⟩
def mL_widest : MT := (yL_widest, cL_widest, 5, some .int, RL, 8, 129, some [(0, 10, 13, 13)])
theorem ok_mL_widest : mOK mL_widest 4 := ⟨bigW_k5 (List.mem_of_getElem? (i := 207) (by decide +kernel)) (by decide +kernel), in_TallTowersLaw, ⟨pl_TallTowersLaw.2.1, pl_TallTowersLaw.2.2, pd_50⟩, pl_TallTowersLaw.1, rfl⟩
theorem os_mL_widest : mOKs mL_widest 4 := ⟨ok_mL_widest, bigW_k5 (List.mem_of_getElem? (i := 206) (by decide +kernel)) (by decide +kernel)⟩
def mL_strongest : MT := (yL_strongest, cL_strongest, 4, some .int, RL, 8, 130, some [(0, 8, 11, 13)])
theorem ok_mL_strongest : mOK mL_strongest 3 := ⟨bigW_k5 (List.mem_of_getElem? (i := 214) (by decide +kernel)) (by decide +kernel), in_TallTowersLaw, ⟨pl_TallTowersLaw.2.1, pl_TallTowersLaw.2.2, pd_49⟩, pl_TallTowersLaw.1, rfl⟩
theorem os_mL_strongest : mOKs mL_strongest 3 := ⟨ok_mL_strongest, bigW_k5 (List.mem_of_getElem? (i := 213) (by decide +kernel)) (by decide +kernel)⟩
def mL_holds : MT := (yL_holds, cL_holds, 6, some .int, RL, 8, 127, some [(0, 12, 15, 13)])
theorem ok_mL_holds : mOK mL_holds 5 := ⟨bigW_k5 (List.mem_of_getElem? (i := 221) (by decide +kernel)) (by decide +kernel), in_TallTowersLaw, ⟨pl_TallTowersLaw.2.1, pl_TallTowersLaw.2.2, pd_48⟩, pl_TallTowersLaw.1, rfl⟩
theorem os_mL_holds : mOKs mL_holds 5 := ⟨ok_mL_holds, bigW_k5 (List.mem_of_getElem? (i := 220) (by decide +kernel)) (by decide +kernel)⟩
def mL_law : MT := (yL_law, cL_law, 8, some .boolean, RL, 15, 606, none)
def mJ6_bitCount_0f7a4 : MT := (yJ6_bitCount_0f7a4, cJ6_bitCount_0f7a4, 1, some .int, RJ6, 0, 0, none)
theorem pl_java_lang_Integer : plainName RJ6 = true ∧ RJ6 ≠ "java/lang/invoke/MethodHandle" ∧ RJ6 ≠ "java/lang/invoke/VarHandle" := by decide +kernel
theorem ok_mJ6_bitCount_0f7a4 : mOK mJ6_bitCount_0f7a4 1 := ⟨bigW_k4 (List.mem_of_getElem? (i := 15) (by decide +kernel)) (by decide +kernel), in_java_lang_Integer, ⟨pl_java_lang_Integer.2.1, pl_java_lang_Integer.2.2, pd_2⟩, pl_java_lang_Integer.1, rfl⟩
theorem os_mJ6_bitCount_0f7a4 : mOKs mJ6_bitCount_0f7a4 1 := ⟨ok_mJ6_bitCount_0f7a4, bigW_k4 (List.mem_of_getElem? (i := 14) (by decide +kernel)) (by decide +kernel)⟩
def mJ9_max_7cf53 : MT := (yJ9_max_7cf53, cJ9_max_7cf53, 2, some .int, RJ9, 0, 0, none)
theorem ma_maxI_c : Cond.code Lib.Math.max.name Lib.Math.max.code 2 (some .int) ∈ bigW := bigW_k2 (List.mem_of_getElem? (i := 151) (by decide +kernel)) (by decide +kernel)
theorem ma_maxI_s : Cond.static Lib.Math.max.name ∈ bigW := bigW_k2 (List.mem_of_getElem? (i := 150) (by decide +kernel)) (by decide +kernel)
def mJ9_min_7cf53 : MT := (yJ9_min_7cf53, cJ9_min_7cf53, 2, some .int, RJ9, 0, 0, none)
theorem ma_minI_c : Cond.code Lib.Math.min.name Lib.Math.min.code 2 (some .int) ∈ bigW := bigW_k5 (List.mem_of_getElem? (i := 184) (by decide +kernel)) (by decide +kernel)
theorem ma_minI_s : Cond.static Lib.Math.min.name ∈ bigW := bigW_k5 (List.mem_of_getElem? (i := 183) (by decide +kernel)) (by decide +kernel)
def mJ9_min_f86c9 : MT := (yJ9_min_f86c9, cJ9_min_f86c9, 4, some .long, RJ9, 0, 0, none)
theorem ma_minL_c : Cond.code Lib.MathLoose.min_long.x Lib.MathLoose.min_long.code 4 (some .long) ∈ bigW := bigW_k3 (List.mem_of_getElem? (i := 4) (by decide +kernel)) (by decide +kernel)
theorem ma_minL_s : Cond.static Lib.MathLoose.min_long.x ∈ bigW := bigW_k3 (List.mem_of_getElem? (i := 3) (by decide +kernel)) (by decide +kernel)
def mJ7_fill_53178 : MT := (yJ7_fill_53178, cJ7_fill_53178, 4, none, RJ7, 0, 0, none)
theorem pl_java_util_Arrays : plainName RJ7 = true ∧ RJ7 ≠ "java/lang/invoke/MethodHandle" ∧ RJ7 ≠ "java/lang/invoke/VarHandle" := by decide +kernel
theorem pd_52 : (parseMethodDescriptor "([II)V").map (fun d => d.parameters.length) = some 2 := by decide +kernel
theorem ok_mJ7_fill_53178 : mOK mJ7_fill_53178 2 := ⟨bigW_k1 (List.mem_of_getElem? (i := 55) (by decide +kernel)) (by decide +kernel), in_java_util_Arrays, ⟨pl_java_util_Arrays.2.1, pl_java_util_Arrays.2.2, pd_52⟩, pl_java_util_Arrays.1, rfl⟩
theorem os_mJ7_fill_53178 : mOKs mJ7_fill_53178 2 := ⟨ok_mJ7_fill_53178, bigW_k1 (List.mem_of_getElem? (i := 54) (by decide +kernel)) (by decide +kernel)⟩
def mJ7_fill_d0a16 : MT := (yJ7_fill_d0a16, cJ7_fill_d0a16, 5, none, RJ7, 0, 0, none)
theorem pd_53 : (parseMethodDescriptor "([JJ)V").map (fun d => d.parameters.length) = some 2 := by decide +kernel
theorem ok_mJ7_fill_d0a16 : mOK mJ7_fill_d0a16 2 := ⟨bigW_k2 (List.mem_of_getElem? (i := 229) (by decide +kernel)) (by decide +kernel), in_java_util_Arrays, ⟨pl_java_util_Arrays.2.1, pl_java_util_Arrays.2.2, pd_53⟩, pl_java_util_Arrays.1, rfl⟩
theorem os_mJ7_fill_d0a16 : mOKs mJ7_fill_d0a16 2 := ⟨ok_mJ7_fill_d0a16, bigW_k2 (List.mem_of_getElem? (i := 228) (by decide +kernel)) (by decide +kernel)⟩
theorem lk_RX6_37 : Cond.methodLink RX6 37 yX6_isYear ∈ bigW := bigW_k3 (List.mem_of_getElem? (i := 110) (by decide +kernel)) (by decide +kernel)
theorem lk_RX6_41 : Cond.constant RX6 41 (900000000) ∈ bigW := bigW_k3 (List.mem_of_getElem? (i := 113) (by decide +kernel)) (by decide +kernel)
theorem lk_RX6_42 : Cond.methodLink RX6 42 yX6_isWithin ∈ bigW := bigW_k3 (List.mem_of_getElem? (i := 98) (by decide +kernel)) (by decide +kernel)
theorem lk_RX6_46 : Cond.constant RX6 46 (100000000) ∈ bigW := bigW_k3 (List.mem_of_getElem? (i := 114) (by decide +kernel)) (by decide +kernel)
theorem lk_RX6_47 : Cond.methodLink RX6 47 yX6_needRight ∈ bigW := bigW_k3 (List.mem_of_getElem? (i := 115) (by decide +kernel)) (by decide +kernel)
theorem lk_RX6_19 : Cond.fieldLink RX6 19 RX6 (TX6 1).2.1 (TX6 1).2.2.1 ∈ bigW := bigW_k2 (List.mem_of_getElem? (i := 81) (by decide +kernel)) (by decide +kernel)
theorem lk_RX6_51 : Cond.fieldLink RX6 51 RX0 (TX0 0).2.1 (TX0 0).2.2.1 ∈ bigW := bigW_k1 (List.mem_of_getElem? (i := 204) (by decide +kernel)) (by decide +kernel)
theorem lk_RX6_55 : Cond.fieldLink RX6 55 RX5 (TX5 13).2.1 (TX5 13).2.2.1 ∈ bigW := bigW_k1 (List.mem_of_getElem? (i := 100) (by decide +kernel)) (by decide +kernel)
theorem lk_RX6_12 : Cond.fieldLink RX6 12 RX6 (TX6 0).2.1 (TX6 0).2.2.1 ∈ bigW := bigW_k2 (List.mem_of_getElem? (i := 80) (by decide +kernel)) (by decide +kernel)
theorem lk_RX6_61 : Cond.methodLink RX6 61 yX2_write ∈ bigW := bigW_k3 (List.mem_of_getElem? (i := 187) (by decide +kernel)) (by decide +kernel)
theorem lk_RX6_65 : Cond.methodLink RX6 65 yX6_enter ∈ bigW := bigW_k3 (List.mem_of_getElem? (i := 191) (by decide +kernel)) (by decide +kernel)
theorem lk_RX6_68 : Cond.methodLink RX6 68 yX6_isLayer ∈ bigW := bigW_k3 (List.mem_of_getElem? (i := 219) (by decide +kernel)) (by decide +kernel)
theorem lk_RX6_71 : Cond.methodLink RX6 71 yX6_needThere ∈ bigW := bigW_k3 (List.mem_of_getElem? (i := 223) (by decide +kernel)) (by decide +kernel)
theorem lk_RX6_74 : Cond.methodLink RX6 74 yX6_isInsurer ∈ bigW := bigW_k4 (List.mem_of_getElem? (i := 3) (by decide +kernel)) (by decide +kernel)
theorem lk_RX6_77 : Cond.fieldLink RX6 77 RX5 (TX5 6).2.1 (TX5 6).2.2.1 ∈ bigW := bigW_k1 (List.mem_of_getElem? (i := 78) (by decide +kernel)) (by decide +kernel)
theorem lk_RX6_80 : Cond.fieldLink RX6 80 RX5 (TX5 12).2.1 (TX5 12).2.2.1 ∈ bigW := bigW_k1 (List.mem_of_getElem? (i := 98) (by decide +kernel)) (by decide +kernel)
theorem lk_RX6_83 : Cond.methodLink RX6 83 yJ6_bitCount_0f7a4 ∈ bigW := bigW_k4 (List.mem_of_getElem? (i := 13) (by decide +kernel)) (by decide +kernel)
theorem lk_RX6_89 : Cond.methodLink RX6 89 yX6_areRules ∈ bigW := bigW_k4 (List.mem_of_getElem? (i := 26) (by decide +kernel)) (by decide +kernel)
theorem lk_RX6_92 : Cond.fieldLink RX6 92 RX0 (TX0 4).2.1 (TX0 4).2.2.1 ∈ bigW := bigW_k1 (List.mem_of_getElem? (i := 214) (by decide +kernel)) (by decide +kernel)
theorem lk_RX6_95 : Cond.fieldLink RX6 95 RX0 (TX0 5).2.1 (TX0 5).2.2.1 ∈ bigW := bigW_k1 (List.mem_of_getElem? (i := 216) (by decide +kernel)) (by decide +kernel)
theorem lk_RX6_98 : Cond.fieldLink RX6 98 RX0 (TX0 6).2.1 (TX0 6).2.2.1 ∈ bigW := bigW_k1 (List.mem_of_getElem? (i := 218) (by decide +kernel)) (by decide +kernel)
theorem lk_RX6_101 : Cond.methodLink RX6 101 yX6_areHarmYears ∈ bigW := bigW_k4 (List.mem_of_getElem? (i := 39) (by decide +kernel)) (by decide +kernel)
theorem lk_RX6_104 : Cond.methodLink RX6 104 yX6_isAmount ∈ bigW := bigW_k4 (List.mem_of_getElem? (i := 42) (by decide +kernel)) (by decide +kernel)
theorem lk_RX6_107 : Cond.fieldLink RX6 107 RX0 (TX0 1).2.1 (TX0 1).2.2.1 ∈ bigW := bigW_k1 (List.mem_of_getElem? (i := 207) (by decide +kernel)) (by decide +kernel)
theorem lk_RX6_111 : Cond.fieldLink RX6 111 RX1 (TX1 12).2.1 (TX1 12).2.2.1 ∈ bigW := bigW_k1 (List.mem_of_getElem? (i := 173) (by decide +kernel)) (by decide +kernel)
theorem lk_RX6_114 : Cond.methodLink RX6 114 yX6_isHarm ∈ bigW := bigW_k4 (List.mem_of_getElem? (i := 53) (by decide +kernel)) (by decide +kernel)
theorem lk_RX6_117 : Cond.methodLink RX6 117 yX1_borneOf ∈ bigW := bigW_k4 (List.mem_of_getElem? (i := 57) (by decide +kernel)) (by decide +kernel)
theorem lk_RX6_121 : Cond.methodLink RX6 121 yX6_isOutsider ∈ bigW := bigW_k4 (List.mem_of_getElem? (i := 68) (by decide +kernel)) (by decide +kernel)
theorem lk_RX6_124 : Cond.constant RX6 124 (1000000000) ∈ bigW := bigW_k4 (List.mem_of_getElem? (i := 45) (by decide +kernel)) (by decide +kernel)
theorem lk_RX6_125 : Cond.methodLink RX6 125 yX0_thoseWho ∈ bigW := bigW_k4 (List.mem_of_getElem? (i := 71) (by decide +kernel)) (by decide +kernel)
theorem lk_RX6_128 : Cond.fieldLink RX6 128 RX2 (TX2 1).2.1 (TX2 1).2.2.1 ∈ bigW := bigW_k1 (List.mem_of_getElem? (i := 34) (by decide +kernel)) (by decide +kernel)
theorem lk_RX6_129 : Cond.methodLink RX6 129 yX0_clear ∈ bigW := bigW_k2 (List.mem_of_getElem? (i := 100) (by decide +kernel)) (by decide +kernel)
theorem lk_RX6_29 : Cond.fieldLink RX6 29 RX6 (TX6 3).2.1 (TX6 3).2.2.1 ∈ bigW := bigW_k2 (List.mem_of_getElem? (i := 83) (by decide +kernel)) (by decide +kernel)
theorem lk_RX6_132 : Cond.methodLink RX6 132 yX0_carryOut ∈ bigW := bigW_k2 (List.mem_of_getElem? (i := 117) (by decide +kernel)) (by decide +kernel)
theorem lk_RX6_136 : Cond.methodLink RX6 136 yX5_gapBits ∈ bigW := bigW_k4 (List.mem_of_getElem? (i := 96) (by decide +kernel)) (by decide +kernel)
theorem lk_RX6_140 : Cond.methodLink RX6 140 yX5_signerBits ∈ bigW := bigW_k4 (List.mem_of_getElem? (i := 100) (by decide +kernel)) (by decide +kernel)
theorem lk_RX6_143 : Cond.methodLink RX6 143 yX6_isEvent ∈ bigW := bigW_k4 (List.mem_of_getElem? (i := 111) (by decide +kernel)) (by decide +kernel)
theorem lk_RX6_146 : Cond.methodLink RX6 146 yX2_read ∈ bigW := bigW_k4 (List.mem_of_getElem? (i := 115) (by decide +kernel)) (by decide +kernel)
theorem lk_RX6_150 : Cond.fieldLink RX6 150 RX5 (TX5 0).2.1 (TX5 0).2.2.1 ∈ bigW := bigW_k1 (List.mem_of_getElem? (i := 57) (by decide +kernel)) (by decide +kernel)
theorem lk_RX6_153 : Cond.fieldLink RX6 153 RX5 (TX5 1).2.1 (TX5 1).2.2.1 ∈ bigW := bigW_k1 (List.mem_of_getElem? (i := 61) (by decide +kernel)) (by decide +kernel)
theorem lk_RX6_156 : Cond.fieldLink RX6 156 RX5 (TX5 2).2.1 (TX5 2).2.2.1 ∈ bigW := bigW_k1 (List.mem_of_getElem? (i := 66) (by decide +kernel)) (by decide +kernel)
theorem lk_RX6_159 : Cond.fieldLink RX6 159 RX5 (TX5 3).2.1 (TX5 3).2.2.1 ∈ bigW := bigW_k1 (List.mem_of_getElem? (i := 69) (by decide +kernel)) (by decide +kernel)
theorem lk_RX6_162 : Cond.fieldLink RX6 162 RX5 (TX5 4).2.1 (TX5 4).2.2.1 ∈ bigW := bigW_k1 (List.mem_of_getElem? (i := 72) (by decide +kernel)) (by decide +kernel)
theorem lk_RX6_166 : Cond.methodLink RX6 166 yX5_leftOf ∈ bigW := bigW_k4 (List.mem_of_getElem? (i := 123) (by decide +kernel)) (by decide +kernel)
theorem lk_RX6_170 : Cond.methodLink RX6 170 yX5_standOf ∈ bigW := bigW_k4 (List.mem_of_getElem? (i := 124) (by decide +kernel)) (by decide +kernel)
theorem lk_RX6_173 : Cond.methodLink RX6 173 yX5_widthBelow ∈ bigW := bigW_k4 (List.mem_of_getElem? (i := 128) (by decide +kernel)) (by decide +kernel)
theorem lk_RX6_176 : Cond.fieldLink RX6 176 RX5 (TX5 5).2.1 (TX5 5).2.2.1 ∈ bigW := bigW_k1 (List.mem_of_getElem? (i := 76) (by decide +kernel)) (by decide +kernel)
theorem lk_RX6_179 : Cond.methodLink RX6 179 yX5_isUsedUp ∈ bigW := bigW_k3 (List.mem_of_getElem? (i := 86) (by decide +kernel)) (by decide +kernel)
theorem lk_RX6_182 : Cond.constantLong RX6 182 (-1) ∈ bigW := bigW_k4 (List.mem_of_getElem? (i := 139) (by decide +kernel)) (by decide +kernel)
theorem lk_RX6_184 : Cond.fieldLink RX6 184 RX5 (TX5 7).2.1 (TX5 7).2.2.1 ∈ bigW := bigW_k1 (List.mem_of_getElem? (i := 82) (by decide +kernel)) (by decide +kernel)
theorem lk_RX6_187 : Cond.fieldLink RX6 187 RX5 (TX5 8).2.1 (TX5 8).2.2.1 ∈ bigW := bigW_k1 (List.mem_of_getElem? (i := 85) (by decide +kernel)) (by decide +kernel)
theorem lk_RX6_190 : Cond.fieldLink RX6 190 RX5 (TX5 9).2.1 (TX5 9).2.2.1 ∈ bigW := bigW_k1 (List.mem_of_getElem? (i := 88) (by decide +kernel)) (by decide +kernel)
theorem lk_RX6_193 : Cond.fieldLink RX6 193 RX5 (TX5 11).2.1 (TX5 11).2.2.1 ∈ bigW := bigW_k1 (List.mem_of_getElem? (i := 95) (by decide +kernel)) (by decide +kernel)
theorem lk_RX6_196 : Cond.methodLink RX6 196 yX5_lowestFrom ∈ bigW := bigW_k4 (List.mem_of_getElem? (i := 147) (by decide +kernel)) (by decide +kernel)
theorem lk_RX6_199 : Cond.methodLink RX6 199 yX5_layerAt ∈ bigW := bigW_k4 (List.mem_of_getElem? (i := 148) (by decide +kernel)) (by decide +kernel)
theorem lk_RX6_202 : Cond.methodLink RX6 202 yX5_topOf ∈ bigW := bigW_k4 (List.mem_of_getElem? (i := 149) (by decide +kernel)) (by decide +kernel)
theorem lk_RX6_205 : Cond.methodLink RX6 205 yX5_sizesIn ∈ bigW := bigW_k4 (List.mem_of_getElem? (i := 150) (by decide +kernel)) (by decide +kernel)
theorem lk_RX6_208 : Cond.methodLink RX6 208 yX5_usedIn ∈ bigW := bigW_k4 (List.mem_of_getElem? (i := 151) (by decide +kernel)) (by decide +kernel)
theorem lk_RX6_211 : Cond.methodLink RX6 211 yX5_leftIn ∈ bigW := bigW_k4 (List.mem_of_getElem? (i := 155) (by decide +kernel)) (by decide +kernel)
theorem lk_RX6_214 : Cond.methodLink RX6 214 yX6_isHeight ∈ bigW := bigW_k4 (List.mem_of_getElem? (i := 166) (by decide +kernel)) (by decide +kernel)
theorem lk_RX6_217 : Cond.methodLink RX6 217 yX5_layerAtHeight ∈ bigW := bigW_k4 (List.mem_of_getElem? (i := 169) (by decide +kernel)) (by decide +kernel)
theorem lk_RX6_220 : Cond.fieldLink RX6 220 RX1 (TX1 1).2.1 (TX1 1).2.2.1 ∈ bigW := bigW_k1 (List.mem_of_getElem? (i := 144) (by decide +kernel)) (by decide +kernel)
theorem lk_RX6_223 : Cond.fieldLink RX6 223 RX1 (TX1 2).2.1 (TX1 2).2.2.1 ∈ bigW := bigW_k1 (List.mem_of_getElem? (i := 147) (by decide +kernel)) (by decide +kernel)
theorem lk_RX6_226 : Cond.fieldLink RX6 226 RX1 (TX1 3).2.1 (TX1 3).2.2.1 ∈ bigW := bigW_k1 (List.mem_of_getElem? (i := 150) (by decide +kernel)) (by decide +kernel)
theorem lk_RX6_229 : Cond.fieldLink RX6 229 RX1 (TX1 4).2.1 (TX1 4).2.2.1 ∈ bigW := bigW_k1 (List.mem_of_getElem? (i := 153) (by decide +kernel)) (by decide +kernel)
theorem lk_RX6_232 : Cond.fieldLink RX6 232 RX1 (TX1 5).2.1 (TX1 5).2.2.1 ∈ bigW := bigW_k1 (List.mem_of_getElem? (i := 155) (by decide +kernel)) (by decide +kernel)
theorem lk_RX6_235 : Cond.fieldLink RX6 235 RX1 (TX1 6).2.1 (TX1 6).2.2.1 ∈ bigW := bigW_k1 (List.mem_of_getElem? (i := 158) (by decide +kernel)) (by decide +kernel)
theorem lk_RX6_238 : Cond.fieldLink RX6 238 RX1 (TX1 7).2.1 (TX1 7).2.2.1 ∈ bigW := bigW_k1 (List.mem_of_getElem? (i := 161) (by decide +kernel)) (by decide +kernel)
theorem lk_RX6_241 : Cond.fieldLink RX6 241 RX1 (TX1 8).2.1 (TX1 8).2.2.1 ∈ bigW := bigW_k1 (List.mem_of_getElem? (i := 164) (by decide +kernel)) (by decide +kernel)
theorem lk_RX6_244 : Cond.methodLink RX6 244 yX6_isReason ∈ bigW := bigW_k4 (List.mem_of_getElem? (i := 222) (by decide +kernel)) (by decide +kernel)
theorem lk_RX6_247 : Cond.fieldLink RX6 247 RX1 (TX1 11).2.1 (TX1 11).2.2.1 ∈ bigW := bigW_k1 (List.mem_of_getElem? (i := 171) (by decide +kernel)) (by decide +kernel)
theorem lk_RX6_250 : Cond.methodLink RX6 250 yX1_borneInAll ∈ bigW := bigW_k4 (List.mem_of_getElem? (i := 232) (by decide +kernel)) (by decide +kernel)
theorem lk_RX6_253 : Cond.fieldLink RX6 253 RX0 (TX0 2).2.1 (TX0 2).2.2.1 ∈ bigW := bigW_k1 (List.mem_of_getElem? (i := 210) (by decide +kernel)) (by decide +kernel)
theorem lk_RX6_256 : Cond.methodLink RX6 256 yX0_cashInAll ∈ bigW := bigW_k4 (List.mem_of_getElem? (i := 237) (by decide +kernel)) (by decide +kernel)
theorem lk_RX6_260 : Cond.fieldLink RX6 260 RX0 (TX0 3).2.1 (TX0 3).2.2.1 ∈ bigW := bigW_k1 (List.mem_of_getElem? (i := 212) (by decide +kernel)) (by decide +kernel)
theorem lk_RX6_263 : Cond.methodLink RX6 263 yX5_layersSignedBy ∈ bigW := bigW_k5 (List.mem_of_getElem? (i := 1) (by decide +kernel)) (by decide +kernel)
theorem lk_RX6_266 : Cond.methodLink RX6 266 yX5_leftSignedBy ∈ bigW := bigW_k5 (List.mem_of_getElem? (i := 5) (by decide +kernel)) (by decide +kernel)
theorem lk_RX6_269 : Cond.methodLink RX6 269 yX1_reasonInAll ∈ bigW := bigW_k5 (List.mem_of_getElem? (i := 17) (by decide +kernel)) (by decide +kernel)
theorem lk_RX6_272 : Cond.methodLink RX6 272 yX1_insurersAhead ∈ bigW := bigW_k5 (List.mem_of_getElem? (i := 28) (by decide +kernel)) (by decide +kernel)
theorem lk_RX6_275 : Cond.methodLink RX6 275 yX6_isRule ∈ bigW := bigW_k4 (List.mem_of_getElem? (i := 29) (by decide +kernel)) (by decide +kernel)
theorem lk_RX6_278 : Cond.methodLink RX6 278 yX6_yearsSetOff ∈ bigW := bigW_k5 (List.mem_of_getElem? (i := 40) (by decide +kernel)) (by decide +kernel)
theorem lk_RX6_282 : Cond.methodLink RX6 282 yX6_setOffNow ∈ bigW := bigW_k5 (List.mem_of_getElem? (i := 48) (by decide +kernel)) (by decide +kernel)
theorem lk_RX6_286 : Cond.methodLink RX6 286 yX4_plan ∈ bigW := bigW_k5 (List.mem_of_getElem? (i := 52) (by decide +kernel)) (by decide +kernel)
theorem lk_RX6_290 : Cond.fieldLink RX6 290 RX4 (TX4 0).2.1 (TX4 0).2.2.1 ∈ bigW := bigW_k2 (List.mem_of_getElem? (i := 40) (by decide +kernel)) (by decide +kernel)
theorem lk_RX6_294 : Cond.fieldLink RX6 294 RX3 (TX3 4).2.1 (TX3 4).2.2.1 ∈ bigW := bigW_k2 (List.mem_of_getElem? (i := 20) (by decide +kernel)) (by decide +kernel)
theorem lk_RX6_299 : Cond.fieldLink RX6 299 RX3 (TX3 0).2.1 (TX3 0).2.2.1 ∈ bigW := bigW_k2 (List.mem_of_getElem? (i := 10) (by decide +kernel)) (by decide +kernel)
theorem lk_RX6_300 : Cond.fieldLink RX6 300 RX3 (TX3 5).2.1 (TX3 5).2.2.1 ∈ bigW := bigW_k2 (List.mem_of_getElem? (i := 24) (by decide +kernel)) (by decide +kernel)
theorem lk_RX6_301 : Cond.methodLink RX6 301 yX4_weighAlike ∈ bigW := bigW_k5 (List.mem_of_getElem? (i := 74) (by decide +kernel)) (by decide +kernel)
theorem lk_RX6_305 : Cond.fieldLink RX6 305 RX4 (TX4 2).2.1 (TX4 2).2.2.1 ∈ bigW := bigW_k2 (List.mem_of_getElem? (i := 43) (by decide +kernel)) (by decide +kernel)
theorem lk_RX6_308 : Cond.fieldLink RX6 308 RX4 (TX4 3).2.1 (TX4 3).2.2.1 ∈ bigW := bigW_k2 (List.mem_of_getElem? (i := 45) (by decide +kernel)) (by decide +kernel)
theorem lk_RX6_311 : Cond.methodLink RX6 311 yX6_shareOut ∈ bigW := bigW_k5 (List.mem_of_getElem? (i := 75) (by decide +kernel)) (by decide +kernel)
theorem lk_RX6_315 : Cond.methodLink RX6 315 yX4_weighBySizes ∈ bigW := bigW_k5 (List.mem_of_getElem? (i := 83) (by decide +kernel)) (by decide +kernel)
theorem lk_RX6_318 : Cond.methodLink RX6 318 yX4_measureRooms ∈ bigW := bigW_k5 (List.mem_of_getElem? (i := 91) (by decide +kernel)) (by decide +kernel)
theorem lk_RX6_322 : Cond.methodLink RX6 322 yX4_orderYears ∈ bigW := bigW_k5 (List.mem_of_getElem? (i := 92) (by decide +kernel)) (by decide +kernel)
theorem lk_RX6_326 : Cond.fieldLink RX6 326 RX4 (TX4 7).2.1 (TX4 7).2.2.1 ∈ bigW := bigW_k2 (List.mem_of_getElem? (i := 51) (by decide +kernel)) (by decide +kernel)
theorem lk_RX6_329 : Cond.fieldLink RX6 329 RX4 (TX4 6).2.1 (TX4 6).2.2.1 ∈ bigW := bigW_k2 (List.mem_of_getElem? (i := 49) (by decide +kernel)) (by decide +kernel)
theorem lk_RX6_332 : Cond.methodLink RX6 332 yX6_goOverByRules ∈ bigW := bigW_k5 (List.mem_of_getElem? (i := 100) (by decide +kernel)) (by decide +kernel)
theorem lk_RX6_23 : Cond.fieldLink RX6 23 RX6 (TX6 2).2.1 (TX6 2).2.2.1 ∈ bigW := bigW_k2 (List.mem_of_getElem? (i := 82) (by decide +kernel)) (by decide +kernel)
theorem lk_RX6_336 : Cond.methodLink RX6 336 yX6_goOverWithout ∈ bigW := bigW_k5 (List.mem_of_getElem? (i := 119) (by decide +kernel)) (by decide +kernel)
theorem lk_RX6_339 : Cond.methodLink RX6 339 yX2_find ∈ bigW := bigW_k5 (List.mem_of_getElem? (i := 137) (by decide +kernel)) (by decide +kernel)
theorem lk_RX6_342 : Cond.methodLink RX6 342 yX5_isThere ∈ bigW := bigW_k5 (List.mem_of_getElem? (i := 163) (by decide +kernel)) (by decide +kernel)
theorem lk_RX6_345 : Cond.methodLink RX6 345 yX5_coveredIn ∈ bigW := bigW_k5 (List.mem_of_getElem? (i := 178) (by decide +kernel)) (by decide +kernel)
theorem lk_RX6_348 : Cond.methodLink RX6 348 yX0_roomBelow ∈ bigW := bigW_k5 (List.mem_of_getElem? (i := 192) (by decide +kernel)) (by decide +kernel)
theorem lk_RX6_351 : Cond.fieldLink RX6 351 RX4 (TX4 8).2.1 (TX4 8).2.2.1 ∈ bigW := bigW_k2 (List.mem_of_getElem? (i := 53) (by decide +kernel)) (by decide +kernel)
theorem lk_RX6_354 : Cond.fieldLink RX6 354 RX4 (TX4 9).2.1 (TX4 9).2.2.1 ∈ bigW := bigW_k2 (List.mem_of_getElem? (i := 55) (by decide +kernel)) (by decide +kernel)
theorem lk_RX6_357 : Cond.methodLink RX6 357 yX5_tenthsBy ∈ bigW := bigW_k5 (List.mem_of_getElem? (i := 226) (by decide +kernel)) (by decide +kernel)
theorem lk_RX6_33 : Cond.fieldLink RX6 33 RX6 (TX6 4).2.1 (TX6 4).2.2.1 ∈ bigW := bigW_k2 (List.mem_of_getElem? (i := 84) (by decide +kernel)) (by decide +kernel)
theorem lk_RX6_377 : Cond.methodLink RX6 377 yX0_setRules ∈ bigW := bigW_k5 (List.mem_of_getElem? (i := 104) (by decide +kernel)) (by decide +kernel)
theorem lk_RX6_380 : Cond.methodLink RX6 380 yX6_yearBits ∈ bigW := bigW_k2 (List.mem_of_getElem? (i := 208) (by decide +kernel)) (by decide +kernel)
theorem lk_RX7_1 : Cond.fieldLink RX7 1 RX7 (TX7 0).2.1 (TX7 0).2.2.1 ∈ bigW := bigW_k5 (List.mem_of_getElem? (i := 237) (by decide +kernel)) (by decide +kernel)
theorem lk_RX7_7 : Cond.fieldLink RX7 7 RX7 (TX7 1).2.1 (TX7 1).2.2.1 ∈ bigW := bigW_k5 (List.mem_of_getElem? (i := 238) (by decide +kernel)) (by decide +kernel)
theorem lk_RX7_11 : Cond.fieldLink RX7 11 RX7 (TX7 4).2.1 (TX7 4).2.2.1 ∈ bigW := bigW_k6 (List.mem_of_getElem? (i := 1) (by decide +kernel)) (by decide +kernel)
theorem lk_RX7_14 : Cond.fieldLink RX7 14 RX7 (TX7 2).2.1 (TX7 2).2.2.1 ∈ bigW := bigW_k5 (List.mem_of_getElem? (i := 239) (by decide +kernel)) (by decide +kernel)
theorem lk_RX7_17 : Cond.fieldLink RX7 17 RX7 (TX7 5).2.1 (TX7 5).2.2.1 ∈ bigW := bigW_k6 (List.mem_of_getElem? (i := 2) (by decide +kernel)) (by decide +kernel)
theorem lk_RX7_20 : Cond.fieldLink RX7 20 RX7 (TX7 3).2.1 (TX7 3).2.2.1 ∈ bigW := bigW_k6 (List.mem_of_getElem? (i := 0) (by decide +kernel)) (by decide +kernel)
theorem lk_RX7_76 : Cond.fieldLink RX7 76 RX7 (TX7 21).2.1 (TX7 21).2.2.1 ∈ bigW := bigW_k6 (List.mem_of_getElem? (i := 18) (by decide +kernel)) (by decide +kernel)
theorem lk_RX7_79 : Cond.fieldLink RX7 79 RX7 (TX7 22).2.1 (TX7 22).2.2.1 ∈ bigW := bigW_k6 (List.mem_of_getElem? (i := 19) (by decide +kernel)) (by decide +kernel)
theorem lk_RX7_82 : Cond.fieldLink RX7 82 RX7 (TX7 23).2.1 (TX7 23).2.2.1 ∈ bigW := bigW_k6 (List.mem_of_getElem? (i := 20) (by decide +kernel)) (by decide +kernel)
theorem lk_RX7_85 : Cond.fieldLink RX7 85 RX7 (TX7 24).2.1 (TX7 24).2.2.1 ∈ bigW := bigW_k6 (List.mem_of_getElem? (i := 21) (by decide +kernel)) (by decide +kernel)
theorem lk_RX7_88 : Cond.fieldLink RX7 88 RX7 (TX7 25).2.1 (TX7 25).2.2.1 ∈ bigW := bigW_k6 (List.mem_of_getElem? (i := 22) (by decide +kernel)) (by decide +kernel)
theorem lk_RX7_91 : Cond.fieldLink RX7 91 RX7 (TX7 26).2.1 (TX7 26).2.2.1 ∈ bigW := bigW_k6 (List.mem_of_getElem? (i := 23) (by decide +kernel)) (by decide +kernel)
theorem lk_RX7_29 : Cond.fieldLink RX7 29 RX7 (TX7 6).2.1 (TX7 6).2.2.1 ∈ bigW := bigW_k6 (List.mem_of_getElem? (i := 3) (by decide +kernel)) (by decide +kernel)
theorem lk_RX7_48 : Cond.fieldLink RX7 48 RX7 (TX7 12).2.1 (TX7 12).2.2.1 ∈ bigW := bigW_k6 (List.mem_of_getElem? (i := 9) (by decide +kernel)) (by decide +kernel)
theorem lk_RX7_57 : Cond.fieldLink RX7 57 RX7 (TX7 15).2.1 (TX7 15).2.2.1 ∈ bigW := bigW_k6 (List.mem_of_getElem? (i := 12) (by decide +kernel)) (by decide +kernel)
theorem lk_RX7_33 : Cond.fieldLink RX7 33 RX7 (TX7 7).2.1 (TX7 7).2.2.1 ∈ bigW := bigW_k6 (List.mem_of_getElem? (i := 4) (by decide +kernel)) (by decide +kernel)
theorem lk_RX7_70 : Cond.fieldLink RX7 70 RX7 (TX7 19).2.1 (TX7 19).2.2.1 ∈ bigW := bigW_k6 (List.mem_of_getElem? (i := 16) (by decide +kernel)) (by decide +kernel)
theorem lk_RX7_73 : Cond.fieldLink RX7 73 RX7 (TX7 20).2.1 (TX7 20).2.2.1 ∈ bigW := bigW_k6 (List.mem_of_getElem? (i := 17) (by decide +kernel)) (by decide +kernel)
theorem lk_RX7_145 : Cond.methodLink RX7 145 yX7_clearsHarm ∈ bigW := bigW_k7 (List.mem_of_getElem? (i := 113) (by decide +kernel)) (by decide +kernel)
theorem lk_RX7_94 : Cond.fieldLink RX7 94 RX7 (TX7 27).2.1 (TX7 27).2.2.1 ∈ bigW := bigW_k6 (List.mem_of_getElem? (i := 24) (by decide +kernel)) (by decide +kernel)
theorem lk_RX7_97 : Cond.fieldLink RX7 97 RX7 (TX7 28).2.1 (TX7 28).2.2.1 ∈ bigW := bigW_k6 (List.mem_of_getElem? (i := 25) (by decide +kernel)) (by decide +kernel)
theorem lk_RX7_103 : Cond.fieldLink RX7 103 RX7 (TX7 34).2.1 (TX7 34).2.2.1 ∈ bigW := bigW_k6 (List.mem_of_getElem? (i := 31) (by decide +kernel)) (by decide +kernel)
theorem lk_RX7_149 : Cond.fieldLink RX7 149 RX7 (TX7 29).2.1 (TX7 29).2.2.1 ∈ bigW := bigW_k6 (List.mem_of_getElem? (i := 26) (by decide +kernel)) (by decide +kernel)
theorem lk_RX7_152 : Cond.fieldLink RX7 152 RX7 (TX7 30).2.1 (TX7 30).2.2.1 ∈ bigW := bigW_k6 (List.mem_of_getElem? (i := 27) (by decide +kernel)) (by decide +kernel)
theorem lk_RX7_155 : Cond.fieldLink RX7 155 RX7 (TX7 31).2.1 (TX7 31).2.2.1 ∈ bigW := bigW_k6 (List.mem_of_getElem? (i := 28) (by decide +kernel)) (by decide +kernel)
theorem lk_RX7_158 : Cond.fieldLink RX7 158 RX7 (TX7 32).2.1 (TX7 32).2.2.1 ∈ bigW := bigW_k6 (List.mem_of_getElem? (i := 29) (by decide +kernel)) (by decide +kernel)
theorem lk_RX7_36 : Cond.fieldLink RX7 36 RX7 (TX7 8).2.1 (TX7 8).2.2.1 ∈ bigW := bigW_k6 (List.mem_of_getElem? (i := 5) (by decide +kernel)) (by decide +kernel)
theorem lk_RX7_39 : Cond.fieldLink RX7 39 RX7 (TX7 9).2.1 (TX7 9).2.2.1 ∈ bigW := bigW_k6 (List.mem_of_getElem? (i := 6) (by decide +kernel)) (by decide +kernel)
theorem lk_RX7_42 : Cond.fieldLink RX7 42 RX7 (TX7 10).2.1 (TX7 10).2.2.1 ∈ bigW := bigW_k6 (List.mem_of_getElem? (i := 7) (by decide +kernel)) (by decide +kernel)
theorem lk_RX7_45 : Cond.fieldLink RX7 45 RX7 (TX7 11).2.1 (TX7 11).2.2.1 ∈ bigW := bigW_k6 (List.mem_of_getElem? (i := 8) (by decide +kernel)) (by decide +kernel)
theorem lk_RX7_100 : Cond.fieldLink RX7 100 RX7 (TX7 33).2.1 (TX7 33).2.2.1 ∈ bigW := bigW_k6 (List.mem_of_getElem? (i := 30) (by decide +kernel)) (by decide +kernel)
theorem lk_RX7_106 : Cond.fieldLink RX7 106 RX7 (TX7 35).2.1 (TX7 35).2.2.1 ∈ bigW := bigW_k6 (List.mem_of_getElem? (i := 32) (by decide +kernel)) (by decide +kernel)
theorem lk_RX7_161 : Cond.methodLink RX7 161 yX7_rungOf ∈ bigW := bigW_k6 (List.mem_of_getElem? (i := 211) (by decide +kernel)) (by decide +kernel)
theorem lk_RX7_165 : Cond.methodLink RX7 165 yX7_top ∈ bigW := bigW_k6 (List.mem_of_getElem? (i := 183) (by decide +kernel)) (by decide +kernel)
theorem lk_RX7_169 : Cond.methodLink RX7 169 yX7_layersOf ∈ bigW := bigW_k6 (List.mem_of_getElem? (i := 175) (by decide +kernel)) (by decide +kernel)
theorem lk_RX7_172 : Cond.methodLink RX7 172 yX7_holeOf ∈ bigW := bigW_k7 (List.mem_of_getElem? (i := 35) (by decide +kernel)) (by decide +kernel)
theorem lk_RX7_175 : Cond.methodLink RX7 175 yX7_left ∈ bigW := bigW_k7 (List.mem_of_getElem? (i := 46) (by decide +kernel)) (by decide +kernel)
theorem lk_RX7_179 : Cond.methodLink RX7 179 yX7_least ∈ bigW := bigW_k7 (List.mem_of_getElem? (i := 39) (by decide +kernel)) (by decide +kernel)
theorem lk_RX7_183 : Cond.methodLink RX7 183 yX7_canTake ∈ bigW := bigW_k7 (List.mem_of_getElem? (i := 42) (by decide +kernel)) (by decide +kernel)
theorem lk_RX7_187 : Cond.methodLink RX7 187 yX7_holeLeft ∈ bigW := bigW_k7 (List.mem_of_getElem? (i := 31) (by decide +kernel)) (by decide +kernel)
theorem lk_RX7_61 : Cond.fieldLink RX7 61 RX7 (TX7 16).2.1 (TX7 16).2.2.1 ∈ bigW := bigW_k6 (List.mem_of_getElem? (i := 13) (by decide +kernel)) (by decide +kernel)
theorem lk_RX7_64 : Cond.fieldLink RX7 64 RX7 (TX7 17).2.1 (TX7 17).2.2.1 ∈ bigW := bigW_k6 (List.mem_of_getElem? (i := 14) (by decide +kernel)) (by decide +kernel)
theorem lk_RX7_67 : Cond.fieldLink RX7 67 RX7 (TX7 18).2.1 (TX7 18).2.2.1 ∈ bigW := bigW_k6 (List.mem_of_getElem? (i := 15) (by decide +kernel)) (by decide +kernel)
theorem lk_RX7_190 : Cond.methodLink RX7 190 yX7_offsBy ∈ bigW := bigW_k7 (List.mem_of_getElem? (i := 7) (by decide +kernel)) (by decide +kernel)
theorem lk_RX7_109 : Cond.fieldLink RX7 109 RX7 (TX7 36).2.1 (TX7 36).2.2.1 ∈ bigW := bigW_k6 (List.mem_of_getElem? (i := 33) (by decide +kernel)) (by decide +kernel)
theorem lk_RX7_194 : Cond.methodLink RX7 194 yX7_weightSum ∈ bigW := bigW_k7 (List.mem_of_getElem? (i := 15) (by decide +kernel)) (by decide +kernel)
theorem lk_RX7_112 : Cond.fieldLink RX7 112 RX7 (TX7 37).2.1 (TX7 37).2.2.1 ∈ bigW := bigW_k6 (List.mem_of_getElem? (i := 34) (by decide +kernel)) (by decide +kernel)
theorem lk_RX7_115 : Cond.fieldLink RX7 115 RX7 (TX7 38).2.1 (TX7 38).2.2.1 ∈ bigW := bigW_k6 (List.mem_of_getElem? (i := 35) (by decide +kernel)) (by decide +kernel)
theorem lk_RX7_197 : Cond.methodLink RX7 197 yX7_isOff ∈ bigW := bigW_k7 (List.mem_of_getElem? (i := 3) (by decide +kernel)) (by decide +kernel)
theorem lk_RX7_201 : Cond.methodLink RX7 201 yX7_isLacking ∈ bigW := bigW_k6 (List.mem_of_getElem? (i := 171) (by decide +kernel)) (by decide +kernel)
theorem lk_RX7_205 : Cond.methodLink RX7 205 yX7_isGap ∈ bigW := bigW_k7 (List.mem_of_getElem? (i := 23) (by decide +kernel)) (by decide +kernel)
theorem lk_RX7_208 : Cond.methodLink RX7 208 yX7_sizesOf ∈ bigW := bigW_k7 (List.mem_of_getElem? (i := 92) (by decide +kernel)) (by decide +kernel)
theorem lk_RX7_211 : Cond.methodLink RX7 211 yX7_shares ∈ bigW := bigW_k7 (List.mem_of_getElem? (i := 19) (by decide +kernel)) (by decide +kernel)
theorem lk_RX7_121 : Cond.fieldLink RX7 121 RX7 (TX7 40).2.1 (TX7 40).2.2.1 ∈ bigW := bigW_k6 (List.mem_of_getElem? (i := 37) (by decide +kernel)) (by decide +kernel)
theorem lk_RX7_215 : Cond.methodLink RX7 215 yX7_fills ∈ bigW := bigW_k7 (List.mem_of_getElem? (i := 27) (by decide +kernel)) (by decide +kernel)
theorem lk_RX7_219 : Cond.methodLink RX7 219 yX7_roomOf ∈ bigW := bigW_k7 (List.mem_of_getElem? (i := 66) (by decide +kernel)) (by decide +kernel)
theorem lk_RX7_222 : Cond.methodLink RX7 222 yX7_rankOf ∈ bigW := bigW_k7 (List.mem_of_getElem? (i := 62) (by decide +kernel)) (by decide +kernel)
theorem lk_RX7_225 : Cond.methodLink RX7 225 yX7_picked ∈ bigW := bigW_k7 (List.mem_of_getElem? (i := 58) (by decide +kernel)) (by decide +kernel)
theorem lk_RX7_124 : Cond.fieldLink RX7 124 RX7 (TX7 41).2.1 (TX7 41).2.2.1 ∈ bigW := bigW_k6 (List.mem_of_getElem? (i := 38) (by decide +kernel)) (by decide +kernel)
theorem lk_RX7_127 : Cond.fieldLink RX7 127 RX7 (TX7 42).2.1 (TX7 42).2.2.1 ∈ bigW := bigW_k6 (List.mem_of_getElem? (i := 39) (by decide +kernel)) (by decide +kernel)
theorem lk_RX7_130 : Cond.fieldLink RX7 130 RX7 (TX7 43).2.1 (TX7 43).2.2.1 ∈ bigW := bigW_k6 (List.mem_of_getElem? (i := 40) (by decide +kernel)) (by decide +kernel)
theorem lk_RX7_133 : Cond.fieldLink RX7 133 RX7 (TX7 44).2.1 (TX7 44).2.2.1 ∈ bigW := bigW_k6 (List.mem_of_getElem? (i := 41) (by decide +kernel)) (by decide +kernel)
theorem lk_RX7_136 : Cond.fieldLink RX7 136 RX7 (TX7 45).2.1 (TX7 45).2.2.1 ∈ bigW := bigW_k6 (List.mem_of_getElem? (i := 42) (by decide +kernel)) (by decide +kernel)
theorem lk_RX7_228 : Cond.methodLink RX7 228 yX7_laysAside ∈ bigW := bigW_k6 (List.mem_of_getElem? (i := 235) (by decide +kernel)) (by decide +kernel)
theorem lk_RX7_231 : Cond.methodLink RX7 231 yX7_laysLike ∈ bigW := bigW_k6 (List.mem_of_getElem? (i := 239) (by decide +kernel)) (by decide +kernel)
theorem lk_RX7_234 : Cond.methodLink RX7 234 yX7_byShares ∈ bigW := bigW_k7 (List.mem_of_getElem? (i := 11) (by decide +kernel)) (by decide +kernel)
theorem lk_RX7_118 : Cond.fieldLink RX7 118 RX7 (TX7 39).2.1 (TX7 39).2.2.1 ∈ bigW := bigW_k6 (List.mem_of_getElem? (i := 36) (by decide +kernel)) (by decide +kernel)
theorem lk_RX7_238 : Cond.methodLink RX7 238 yX7_laysBack ∈ bigW := bigW_k7 (List.mem_of_getElem? (i := 50) (by decide +kernel)) (by decide +kernel)
theorem lk_RX7_241 : Cond.methodLink RX7 241 yX7_laysUnlike ∈ bigW := bigW_k7 (List.mem_of_getElem? (i := 74) (by decide +kernel)) (by decide +kernel)
theorem lk_RX7_139 : Cond.fieldLink RX7 139 RX7 (TX7 46).2.1 (TX7 46).2.2.1 ∈ bigW := bigW_k6 (List.mem_of_getElem? (i := 43) (by decide +kernel)) (by decide +kernel)
theorem lk_RX7_142 : Cond.fieldLink RX7 142 RX7 (TX7 47).2.1 (TX7 47).2.2.1 ∈ bigW := bigW_k6 (List.mem_of_getElem? (i := 44) (by decide +kernel)) (by decide +kernel)
theorem lk_RX7_244 : Cond.constantLong RX7 244 (2000000000) ∈ bigW := bigW_k7 (List.mem_of_getElem? (i := 82) (by decide +kernel)) (by decide +kernel)
theorem lk_RX7_246 : Cond.constantLong RX7 246 (2) ∈ bigW := bigW_k7 (List.mem_of_getElem? (i := 83) (by decide +kernel)) (by decide +kernel)
theorem lk_RX7_248 : Cond.methodLink RX7 248 yX7_levelled ∈ bigW := bigW_k7 (List.mem_of_getElem? (i := 84) (by decide +kernel)) (by decide +kernel)
theorem lk_RX7_54 : Cond.fieldLink RX7 54 RX7 (TX7 14).2.1 (TX7 14).2.2.1 ∈ bigW := bigW_k6 (List.mem_of_getElem? (i := 11) (by decide +kernel)) (by decide +kernel)
theorem lk_RX7_252 : Cond.constantLong RX7 252 (10) ∈ bigW := bigW_k7 (List.mem_of_getElem? (i := 100) (by decide +kernel)) (by decide +kernel)
theorem lk_RX7_51 : Cond.fieldLink RX7 51 RX7 (TX7 13).2.1 (TX7 13).2.2.1 ∈ bigW := bigW_k6 (List.mem_of_getElem? (i := 10) (by decide +kernel)) (by decide +kernel)
theorem lk_RX7_254 : Cond.methodLink RX7 254 yX7_fallsOn ∈ bigW := bigW_k7 (List.mem_of_getElem? (i := 101) (by decide +kernel)) (by decide +kernel)
theorem lk_RX7_258 : Cond.methodLink RX7 258 yX7_laysFair ∈ bigW := bigW_k6 (List.mem_of_getElem? (i := 231) (by decide +kernel)) (by decide +kernel)
theorem lk_RX7_261 : Cond.methodLink RX7 261 yX7_byFull ∈ bigW := bigW_k7 (List.mem_of_getElem? (i := 54) (by decide +kernel)) (by decide +kernel)
theorem lk_RX7_264 : Cond.methodLink RX7 264 yX7_contributes ∈ bigW := bigW_k7 (List.mem_of_getElem? (i := 70) (by decide +kernel)) (by decide +kernel)
theorem lk_RX7_267 : Cond.methodLink RX7 267 yX7_byLevel ∈ bigW := bigW_k7 (List.mem_of_getElem? (i := 78) (by decide +kernel)) (by decide +kernel)
theorem lk_RX7_270 : Cond.methodLink RX7 270 yX7_laysSizes ∈ bigW := bigW_k7 (List.mem_of_getElem? (i := 88) (by decide +kernel)) (by decide +kernel)
theorem lk_RX7_273 : Cond.methodLink RX7 273 yX7_splits ∈ bigW := bigW_k7 (List.mem_of_getElem? (i := 96) (by decide +kernel)) (by decide +kernel)
theorem lk_RX7_277 : Cond.methodLink RX7 277 yX7_insuredOf ∈ bigW := bigW_k7 (List.mem_of_getElem? (i := 170) (by decide +kernel)) (by decide +kernel)
theorem lk_RX7_280 : Cond.methodLink RX7 280 yX7_bearsOf ∈ bigW := bigW_k8 (List.mem_of_getElem? (i := 56) (by decide +kernel)) (by decide +kernel)
theorem lk_RX7_283 : Cond.methodLink RX7 283 yX7_isIn ∈ bigW := bigW_k6 (List.mem_of_getElem? (i := 179) (by decide +kernel)) (by decide +kernel)
theorem lk_RX7_286 : Cond.methodLink RX7 286 yX7_signedTenths ∈ bigW := bigW_k7 (List.mem_of_getElem? (i := 131) (by decide +kernel)) (by decide +kernel)
theorem lk_RX7_289 : Cond.methodLink RX7 289 yX7_tell ∈ bigW := bigW_k6 (List.mem_of_getElem? (i := 199) (by decide +kernel)) (by decide +kernel)
theorem lk_RX7_292 : Cond.methodLink RX7 292 yX7_canPlace ∈ bigW := bigW_k6 (List.mem_of_getElem? (i := 167) (by decide +kernel)) (by decide +kernel)
theorem lk_RX7_296 : Cond.methodLink RX7 296 yX7_canSign ∈ bigW := bigW_k7 (List.mem_of_getElem? (i := 127) (by decide +kernel)) (by decide +kernel)
theorem lk_RX7_299 : Cond.methodLink RX7 299 yX7_places ∈ bigW := bigW_k6 (List.mem_of_getElem? (i := 203) (by decide +kernel)) (by decide +kernel)
theorem lk_RX7_302 : Cond.methodLink RX7 302 yX7_signs ∈ bigW := bigW_k6 (List.mem_of_getElem? (i := 215) (by decide +kernel)) (by decide +kernel)
theorem lk_RX7_306 : Cond.fieldLink RX7 306 RX7 (TX7 48).2.1 (TX7 48).2.2.1 ∈ bigW := bigW_k6 (List.mem_of_getElem? (i := 45) (by decide +kernel)) (by decide +kernel)
theorem lk_RX7_310 : Cond.methodLink RX7 310 yX7_rulesAre ∈ bigW := bigW_k6 (List.mem_of_getElem? (i := 219) (by decide +kernel)) (by decide +kernel)
theorem lk_RX7_313 : Cond.methodLink RX7 313 yX7_harms ∈ bigW := bigW_k6 (List.mem_of_getElem? (i := 223) (by decide +kernel)) (by decide +kernel)
theorem lk_RX7_316 : Cond.methodLink RX7 316 yX7_grows ∈ bigW := bigW_k7 (List.mem_of_getElem? (i := 105) (by decide +kernel)) (by decide +kernel)
theorem lk_RX7_319 : Cond.methodLink RX7 319 yX7_reopens ∈ bigW := bigW_k7 (List.mem_of_getElem? (i := 109) (by decide +kernel)) (by decide +kernel)
theorem lk_RX7_322 : Cond.methodLink RX7 322 yX7_stacks ∈ bigW := bigW_k6 (List.mem_of_getElem? (i := 207) (by decide +kernel)) (by decide +kernel)
theorem lk_RX7_325 : Cond.methodLink RX7 325 yX7_spreads ∈ bigW := bigW_k6 (List.mem_of_getElem? (i := 227) (by decide +kernel)) (by decide +kernel)
theorem lk_RX7_328 : Cond.methodLink RX7 328 yX7_can ∈ bigW := bigW_k7 (List.mem_of_getElem? (i := 210) (by decide +kernel)) (by decide +kernel)
theorem lk_RX7_331 : Cond.methodLink RX7 331 yX7_does ∈ bigW := bigW_k6 (List.mem_of_getElem? (i := 195) (by decide +kernel)) (by decide +kernel)
theorem lk_RX7_334 : Cond.fieldLink RX7 334 RX7 (TX7 49).2.1 (TX7 49).2.2.1 ∈ bigW := bigW_k6 (List.mem_of_getElem? (i := 46) (by decide +kernel)) (by decide +kernel)
theorem lk_RX7_337 : Cond.methodLink RX7 337 yX7_clears ∈ bigW := bigW_k7 (List.mem_of_getElem? (i := 202) (by decide +kernel)) (by decide +kernel)
theorem lk_RX7_340 : Cond.methodLink RX7 340 yX7_begins ∈ bigW := bigW_k7 (List.mem_of_getElem? (i := 198) (by decide +kernel)) (by decide +kernel)
theorem lk_RX7_343 : Cond.methodLink RX7 343 yX7_goes ∈ bigW := bigW_k7 (List.mem_of_getElem? (i := 206) (by decide +kernel)) (by decide +kernel)
theorem lk_RX7_346 : Cond.methodLink RX7 346 yX7_needs ∈ bigW := bigW_k6 (List.mem_of_getElem? (i := 159) (by decide +kernel)) (by decide +kernel)
theorem lk_RX7_350 : Cond.constantLong RX7 350 (11) ∈ bigW := bigW_k6 (List.mem_of_getElem? (i := 152) (by decide +kernel)) (by decide +kernel)
theorem lk_RX7_352 : Cond.methodLink RX7 352 yX7_within ∈ bigW := bigW_k6 (List.mem_of_getElem? (i := 153) (by decide +kernel)) (by decide +kernel)
theorem lk_RX7_356 : Cond.constantLong RX7 356 (900000000) ∈ bigW := bigW_k6 (List.mem_of_getElem? (i := 156) (by decide +kernel)) (by decide +kernel)
theorem lk_RX7_358 : Cond.constantLong RX7 358 (100000000) ∈ bigW := bigW_k6 (List.mem_of_getElem? (i := 157) (by decide +kernel)) (by decide +kernel)
theorem lk_RX7_360 : Cond.constantLong RX7 360 (4) ∈ bigW := bigW_k6 (List.mem_of_getElem? (i := 158) (by decide +kernel)) (by decide +kernel)
theorem lk_RX7_362 : Cond.methodLink RX7 362 yX7_eventsOf ∈ bigW := bigW_k6 (List.mem_of_getElem? (i := 163) (by decide +kernel)) (by decide +kernel)
theorem lk_RX7_365 : Cond.methodLink RX7 365 yX7_hasRoom ∈ bigW := bigW_k6 (List.mem_of_getElem? (i := 187) (by decide +kernel)) (by decide +kernel)
theorem lk_RX7_368 : Cond.methodLink RX7 368 yX7_notes ∈ bigW := bigW_k6 (List.mem_of_getElem? (i := 191) (by decide +kernel)) (by decide +kernel)
theorem lk_RX7_372 : Cond.constantLong RX7 372 (39) ∈ bigW := bigW_k7 (List.mem_of_getElem? (i := 125) (by decide +kernel)) (by decide +kernel)
theorem lk_RX7_374 : Cond.methodLink RX7 374 yX7_isOne ∈ bigW := bigW_k7 (List.mem_of_getElem? (i := 121) (by decide +kernel)) (by decide +kernel)
theorem lk_RX7_377 : Cond.constantLong RX7 377 (9) ∈ bigW := bigW_k7 (List.mem_of_getElem? (i := 126) (by decide +kernel)) (by decide +kernel)
theorem lk_RX7_379 : Cond.methodLink RX7 379 yX7_bits ∈ bigW := bigW_k7 (List.mem_of_getElem? (i := 139) (by decide +kernel)) (by decide +kernel)
theorem lk_RX7_382 : Cond.constantLong RX7 382 (3) ∈ bigW := bigW_k7 (List.mem_of_getElem? (i := 149) (by decide +kernel)) (by decide +kernel)
theorem lk_RX7_384 : Cond.methodLink RX7 384 yX7_areRules ∈ bigW := bigW_k7 (List.mem_of_getElem? (i := 146) (by decide +kernel)) (by decide +kernel)
theorem lk_RX7_387 : Cond.constantLong RX7 387 (1000000000) ∈ bigW := bigW_k7 (List.mem_of_getElem? (i := 160) (by decide +kernel)) (by decide +kernel)
theorem lk_RX7_389 : Cond.methodLink RX7 389 yX7_areYears ∈ bigW := bigW_k7 (List.mem_of_getElem? (i := 154) (by decide +kernel)) (by decide +kernel)
theorem lk_RX7_392 : Cond.methodLink RX7 392 yX7_isLoss ∈ bigW := bigW_k7 (List.mem_of_getElem? (i := 157) (by decide +kernel)) (by decide +kernel)
theorem lk_RX7_395 : Cond.constantLong RX7 395 (23) ∈ bigW := bigW_k7 (List.mem_of_getElem? (i := 169) (by decide +kernel)) (by decide +kernel)
theorem lk_RX7_397 : Cond.methodLink RX7 397 yX7_isHarmOne ∈ bigW := bigW_k7 (List.mem_of_getElem? (i := 165) (by decide +kernel)) (by decide +kernel)
theorem lk_RX7_400 : Cond.methodLink RX7 400 yX7_standing ∈ bigW := bigW_k7 (List.mem_of_getElem? (i := 182) (by decide +kernel)) (by decide +kernel)
theorem lk_RX7_403 : Cond.methodLink RX7 403 yX7_goesOver ∈ bigW := bigW_k7 (List.mem_of_getElem? (i := 194) (by decide +kernel)) (by decide +kernel)
theorem lk_RX7_406 : Cond.methodLink RX7 406 yX7_signersBits ∈ bigW := bigW_k7 (List.mem_of_getElem? (i := 218) (by decide +kernel)) (by decide +kernel)
theorem lk_RX7_410 : Cond.methodLink RX7 410 yX7_standingBits ∈ bigW := bigW_k7 (List.mem_of_getElem? (i := 222) (by decide +kernel)) (by decide +kernel)
theorem lk_RX7_413 : Cond.methodLink RX7 413 yX7_isEvent ∈ bigW := bigW_k7 (List.mem_of_getElem? (i := 230) (by decide +kernel)) (by decide +kernel)
theorem lk_RX7_416 : Cond.methodLink RX7 416 yX7_rungAt ∈ bigW := bigW_k7 (List.mem_of_getElem? (i := 238) (by decide +kernel)) (by decide +kernel)
theorem lk_RX7_419 : Cond.constantLong RX7 419 (-1) ∈ bigW := bigW_k8 (List.mem_of_getElem? (i := 6) (by decide +kernel)) (by decide +kernel)
theorem lk_RX7_421 : Cond.constantLong RX7 421 (6) ∈ bigW := bigW_k8 (List.mem_of_getElem? (i := 11) (by decide +kernel)) (by decide +kernel)
theorem lk_RX7_423 : Cond.methodLink RX7 423 yX7_ofYear ∈ bigW := bigW_k8 (List.mem_of_getElem? (i := 12) (by decide +kernel)) (by decide +kernel)
theorem lk_RX7_426 : Cond.methodLink RX7 426 yX7_isHeight ∈ bigW := bigW_k8 (List.mem_of_getElem? (i := 20) (by decide +kernel)) (by decide +kernel)
theorem lk_RX7_429 : Cond.methodLink RX7 429 yX7_layerAt ∈ bigW := bigW_k8 (List.mem_of_getElem? (i := 23) (by decide +kernel)) (by decide +kernel)
theorem lk_RX7_432 : Cond.constantLong RX7 432 (5) ∈ bigW := bigW_k8 (List.mem_of_getElem? (i := 35) (by decide +kernel)) (by decide +kernel)
theorem lk_RX7_434 : Cond.methodLink RX7 434 yX7_areBoth ∈ bigW := bigW_k8 (List.mem_of_getElem? (i := 40) (by decide +kernel)) (by decide +kernel)
theorem lk_RX7_437 : Cond.methodLink RX7 437 yX7_bearsAll ∈ bigW := bigW_k8 (List.mem_of_getElem? (i := 68) (by decide +kernel)) (by decide +kernel)
theorem lk_RX7_440 : Cond.methodLink RX7 440 yX7_cashOf ∈ bigW := bigW_k8 (List.mem_of_getElem? (i := 72) (by decide +kernel)) (by decide +kernel)
theorem lk_RX7_443 : Cond.methodLink RX7 443 yX7_signedBy ∈ bigW := bigW_k8 (List.mem_of_getElem? (i := 76) (by decide +kernel)) (by decide +kernel)
theorem lk_RX7_446 : Cond.methodLink RX7 446 yX7_thinks ∈ bigW := bigW_k8 (List.mem_of_getElem? (i := 100) (by decide +kernel)) (by decide +kernel)
theorem lk_RX7_449 : Cond.methodLink RX7 449 yX7_thinksOf ∈ bigW := bigW_k8 (List.mem_of_getElem? (i := 96) (by decide +kernel)) (by decide +kernel)
theorem lk_RX7_453 : Cond.methodLink RX7 453 yX7_goesBy ∈ bigW := bigW_k8 (List.mem_of_getElem? (i := 132) (by decide +kernel)) (by decide +kernel)
theorem lk_RX7_456 : Cond.methodLink RX7 456 yX7_behind ∈ bigW := bigW_k8 (List.mem_of_getElem? (i := 136) (by decide +kernel)) (by decide +kernel)
theorem lk_RX7_459 : Cond.methodLink RX7 459 yX7_isPerson ∈ bigW := bigW_k8 (List.mem_of_getElem? (i := 148) (by decide +kernel)) (by decide +kernel)
theorem lk_RX7_462 : Cond.methodLink RX7 462 yX7_goesWithout ∈ bigW := bigW_k8 (List.mem_of_getElem? (i := 152) (by decide +kernel)) (by decide +kernel)
theorem lk_RX7_465 : Cond.methodLink RX7 465 yX7_isOf ∈ bigW := bigW_k8 (List.mem_of_getElem? (i := 176) (by decide +kernel)) (by decide +kernel)
theorem lk_RX0_12 : Cond.fieldLink RX0 12 RX0 (TX0 0).2.1 (TX0 0).2.2.1 ∈ bigW := bigW_k1 (List.mem_of_getElem? (i := 202) (by decide +kernel)) (by decide +kernel)
theorem lk_RX0_32 : Cond.methodLink RX0 32 yX5_clear ∈ bigW := bigW_k2 (List.mem_of_getElem? (i := 104) (by decide +kernel)) (by decide +kernel)
theorem lk_RX0_21 : Cond.fieldLink RX0 21 RX0 (TX0 1).2.1 (TX0 1).2.2.1 ∈ bigW := bigW_k1 (List.mem_of_getElem? (i := 206) (by decide +kernel)) (by decide +kernel)
theorem lk_RX0_35 : Cond.methodLink RX0 35 yX1_clear ∈ bigW := bigW_k2 (List.mem_of_getElem? (i := 108) (by decide +kernel)) (by decide +kernel)
theorem lk_RX0_25 : Cond.fieldLink RX0 25 RX0 (TX0 2).2.1 (TX0 2).2.2.1 ∈ bigW := bigW_k1 (List.mem_of_getElem? (i := 208) (by decide +kernel)) (by decide +kernel)
theorem lk_RX0_36 : Cond.methodLink RX0 36 yJ7_fill_53178 ∈ bigW := bigW_k2 (List.mem_of_getElem? (i := 112) (by decide +kernel)) (by decide +kernel)
theorem lk_RX0_29 : Cond.fieldLink RX0 29 RX0 (TX0 3).2.1 (TX0 3).2.2.1 ∈ bigW := bigW_k1 (List.mem_of_getElem? (i := 211) (by decide +kernel)) (by decide +kernel)
theorem lk_RX0_42 : Cond.methodLink RX0 42 yX0_setRules ∈ bigW := bigW_k2 (List.mem_of_getElem? (i := 113) (by decide +kernel)) (by decide +kernel)
theorem lk_RX0_46 : Cond.fieldLink RX0 46 RX0 (TX0 4).2.1 (TX0 4).2.2.1 ∈ bigW := bigW_k1 (List.mem_of_getElem? (i := 213) (by decide +kernel)) (by decide +kernel)
theorem lk_RX0_50 : Cond.fieldLink RX0 50 RX0 (TX0 5).2.1 (TX0 5).2.2.1 ∈ bigW := bigW_k1 (List.mem_of_getElem? (i := 215) (by decide +kernel)) (by decide +kernel)
theorem lk_RX0_53 : Cond.fieldLink RX0 53 RX0 (TX0 6).2.1 (TX0 6).2.2.1 ∈ bigW := bigW_k1 (List.mem_of_getElem? (i := 217) (by decide +kernel)) (by decide +kernel)
theorem lk_RX0_56 : Cond.methodLink RX0 56 yX0_note ∈ bigW := bigW_k2 (List.mem_of_getElem? (i := 121) (by decide +kernel)) (by decide +kernel)
theorem lk_RX0_62 : Cond.methodLink RX0 62 yX2_read ∈ bigW := bigW_k2 (List.mem_of_getElem? (i := 125) (by decide +kernel)) (by decide +kernel)
theorem lk_RX0_66 : Cond.methodLink RX0 66 yX0_amountToSpread ∈ bigW := bigW_k2 (List.mem_of_getElem? (i := 201) (by decide +kernel)) (by decide +kernel)
theorem lk_RX0_70 : Cond.fieldLink RX0 70 RX1 (TX1 1).2.1 (TX1 1).2.2.1 ∈ bigW := bigW_k1 (List.mem_of_getElem? (i := 143) (by decide +kernel)) (by decide +kernel)
theorem lk_RX0_73 : Cond.fieldLink RX0 73 RX1 (TX1 2).2.1 (TX1 2).2.2.1 ∈ bigW := bigW_k1 (List.mem_of_getElem? (i := 146) (by decide +kernel)) (by decide +kernel)
theorem lk_RX0_76 : Cond.fieldLink RX0 76 RX1 (TX1 3).2.1 (TX1 3).2.2.1 ∈ bigW := bigW_k1 (List.mem_of_getElem? (i := 149) (by decide +kernel)) (by decide +kernel)
theorem lk_RX0_83 : Cond.methodLink RX0 83 yX4_plan ∈ bigW := bigW_k2 (List.mem_of_getElem? (i := 211) (by decide +kernel)) (by decide +kernel)
theorem lk_RX0_89 : Cond.fieldLink RX0 89 RX4 (TX4 0).2.1 (TX4 0).2.2.1 ∈ bigW := bigW_k2 (List.mem_of_getElem? (i := 39) (by decide +kernel)) (by decide +kernel)
theorem lk_RX0_93 : Cond.methodLink RX0 93 yX0_keep ∈ bigW := bigW_k3 (List.mem_of_getElem? (i := 74) (by decide +kernel)) (by decide +kernel)
theorem lk_RX0_97 : Cond.fieldLink RX0 97 RX1 (TX1 4).2.1 (TX1 4).2.2.1 ∈ bigW := bigW_k1 (List.mem_of_getElem? (i := 152) (by decide +kernel)) (by decide +kernel)
theorem lk_RX0_101 : Cond.methodLink RX0 101 yX5_put ∈ bigW := bigW_k2 (List.mem_of_getElem? (i := 129) (by decide +kernel)) (by decide +kernel)
theorem lk_RX0_105 : Cond.methodLink RX0 105 yX5_putSigner ∈ bigW := bigW_k2 (List.mem_of_getElem? (i := 152) (by decide +kernel)) (by decide +kernel)
theorem lk_RX0_109 : Cond.methodLink RX0 109 yX5_putLack ∈ bigW := bigW_k2 (List.mem_of_getElem? (i := 164) (by decide +kernel)) (by decide +kernel)
theorem lk_RX0_113 : Cond.methodLink RX0 113 yX1_put ∈ bigW := bigW_k2 (List.mem_of_getElem? (i := 172) (by decide +kernel)) (by decide +kernel)
theorem lk_RX0_114 : Cond.methodLink RX0 114 yX1_addLoss ∈ bigW := bigW_k2 (List.mem_of_getElem? (i := 184) (by decide +kernel)) (by decide +kernel)
theorem lk_RX0_118 : Cond.methodLink RX0 118 yX0_putStanding ∈ bigW := bigW_k2 (List.mem_of_getElem? (i := 188) (by decide +kernel)) (by decide +kernel)
theorem lk_RX0_121 : Cond.methodLink RX0 121 yX0_takeBack ∈ bigW := bigW_k2 (List.mem_of_getElem? (i := 192) (by decide +kernel)) (by decide +kernel)
theorem lk_RX0_124 : Cond.fieldLink RX0 124 RX1 (TX1 0).2.1 (TX1 0).2.2.1 ∈ bigW := bigW_k1 (List.mem_of_getElem? (i := 141) (by decide +kernel)) (by decide +kernel)
theorem lk_RX0_128 : Cond.fieldLink RX0 128 RX5 (TX5 13).2.1 (TX5 13).2.2.1 ∈ bigW := bigW_k1 (List.mem_of_getElem? (i := 103) (by decide +kernel)) (by decide +kernel)
theorem lk_RX0_131 : Cond.fieldLink RX0 131 RX1 (TX1 6).2.1 (TX1 6).2.2.1 ∈ bigW := bigW_k1 (List.mem_of_getElem? (i := 157) (by decide +kernel)) (by decide +kernel)
theorem lk_RX0_134 : Cond.fieldLink RX0 134 RX5 (TX5 4).2.1 (TX5 4).2.2.1 ∈ bigW := bigW_k1 (List.mem_of_getElem? (i := 71) (by decide +kernel)) (by decide +kernel)
theorem lk_RX0_137 : Cond.methodLink RX0 137 yX0_takeBackParts ∈ bigW := bigW_k2 (List.mem_of_getElem? (i := 196) (by decide +kernel)) (by decide +kernel)
theorem lk_RX0_141 : Cond.methodLink RX0 141 yX1_clearRows ∈ bigW := bigW_k2 (List.mem_of_getElem? (i := 200) (by decide +kernel)) (by decide +kernel)
theorem lk_RX0_145 : Cond.fieldLink RX0 145 RX5 (TX5 5).2.1 (TX5 5).2.2.1 ∈ bigW := bigW_k1 (List.mem_of_getElem? (i := 75) (by decide +kernel)) (by decide +kernel)
theorem lk_RX0_148 : Cond.fieldLink RX0 148 RX5 (TX5 9).2.1 (TX5 9).2.2.1 ∈ bigW := bigW_k1 (List.mem_of_getElem? (i := 87) (by decide +kernel)) (by decide +kernel)
theorem lk_RX0_151 : Cond.fieldLink RX0 151 RX1 (TX1 9).2.1 (TX1 9).2.2.1 ∈ bigW := bigW_k1 (List.mem_of_getElem? (i := 166) (by decide +kernel)) (by decide +kernel)
theorem lk_RX0_152 : Cond.fieldLink RX0 152 RX1 (TX1 7).2.1 (TX1 7).2.2.1 ∈ bigW := bigW_k1 (List.mem_of_getElem? (i := 160) (by decide +kernel)) (by decide +kernel)
theorem lk_RX0_155 : Cond.fieldLink RX0 155 RX3 (TX3 1).2.1 (TX3 1).2.2.1 ∈ bigW := bigW_k2 (List.mem_of_getElem? (i := 12) (by decide +kernel)) (by decide +kernel)
theorem lk_RX0_158 : Cond.fieldLink RX0 158 RX1 (TX1 8).2.1 (TX1 8).2.2.1 ∈ bigW := bigW_k1 (List.mem_of_getElem? (i := 163) (by decide +kernel)) (by decide +kernel)
theorem lk_RX0_161 : Cond.fieldLink RX0 161 RX3 (TX3 2).2.1 (TX3 2).2.2.1 ∈ bigW := bigW_k2 (List.mem_of_getElem? (i := 14) (by decide +kernel)) (by decide +kernel)
theorem lk_RX0_162 : Cond.fieldLink RX0 162 RX3 (TX3 0).2.1 (TX3 0).2.2.1 ∈ bigW := bigW_k2 (List.mem_of_getElem? (i := 9) (by decide +kernel)) (by decide +kernel)
theorem lk_RX0_163 : Cond.methodLink RX0 163 yX0_keepParts ∈ bigW := bigW_k3 (List.mem_of_getElem? (i := 78) (by decide +kernel)) (by decide +kernel)
theorem lk_RX0_167 : Cond.fieldLink RX0 167 RX1 (TX1 10).2.1 (TX1 10).2.2.1 ∈ bigW := bigW_k1 (List.mem_of_getElem? (i := 168) (by decide +kernel)) (by decide +kernel)
theorem lk_RX0_170 : Cond.fieldLink RX0 170 RX3 (TX3 4).2.1 (TX3 4).2.2.1 ∈ bigW := bigW_k2 (List.mem_of_getElem? (i := 19) (by decide +kernel)) (by decide +kernel)
theorem lk_RX0_171 : Cond.fieldLink RX0 171 RX1 (TX1 11).2.1 (TX1 11).2.2.1 ∈ bigW := bigW_k1 (List.mem_of_getElem? (i := 170) (by decide +kernel)) (by decide +kernel)
theorem lk_RX0_174 : Cond.fieldLink RX0 174 RX3 (TX3 5).2.1 (TX3 5).2.2.1 ∈ bigW := bigW_k2 (List.mem_of_getElem? (i := 23) (by decide +kernel)) (by decide +kernel)
theorem lk_RX0_175 : Cond.fieldLink RX0 175 RX3 (TX3 3).2.1 (TX3 3).2.2.1 ∈ bigW := bigW_k2 (List.mem_of_getElem? (i := 17) (by decide +kernel)) (by decide +kernel)
theorem lk_RX0_176 : Cond.fieldLink RX0 176 RX5 (TX5 2).2.1 (TX5 2).2.2.1 ∈ bigW := bigW_k1 (List.mem_of_getElem? (i := 65) (by decide +kernel)) (by decide +kernel)
theorem lk_RX0_179 : Cond.fieldLink RX0 179 RX5 (TX5 3).2.1 (TX5 3).2.2.1 ∈ bigW := bigW_k1 (List.mem_of_getElem? (i := 68) (by decide +kernel)) (by decide +kernel)
theorem lk_RX0_182 : Cond.fieldLink RX0 182 RX5 (TX5 1).2.1 (TX5 1).2.2.1 ∈ bigW := bigW_k1 (List.mem_of_getElem? (i := 62) (by decide +kernel)) (by decide +kernel)
theorem lk_RX0_185 : Cond.fieldLink RX0 185 RX5 (TX5 11).2.1 (TX5 11).2.2.1 ∈ bigW := bigW_k1 (List.mem_of_getElem? (i := 94) (by decide +kernel)) (by decide +kernel)
theorem lk_RX0_188 : Cond.fieldLink RX0 188 RX5 (TX5 10).2.1 (TX5 10).2.2.1 ∈ bigW := bigW_k1 (List.mem_of_getElem? (i := 91) (by decide +kernel)) (by decide +kernel)
theorem lk_RX0_191 : Cond.methodLink RX0 191 yX0_holeCanTake ∈ bigW := bigW_k3 (List.mem_of_getElem? (i := 25) (by decide +kernel)) (by decide +kernel)
theorem lk_RX0_195 : Cond.methodLink RX0 195 yX0_canTake ∈ bigW := bigW_k3 (List.mem_of_getElem? (i := 26) (by decide +kernel)) (by decide +kernel)
theorem lk_RX0_199 : Cond.fieldLink RX0 199 RX5 (TX5 0).2.1 (TX5 0).2.2.1 ∈ bigW := bigW_k1 (List.mem_of_getElem? (i := 58) (by decide +kernel)) (by decide +kernel)
theorem lk_RX0_202 : Cond.methodLink RX0 202 yX5_layerAt ∈ bigW := bigW_k5 (List.mem_of_getElem? (i := 196) (by decide +kernel)) (by decide +kernel)
theorem lk_RX0_205 : Cond.methodLink RX0 205 yX5_widthBelow ∈ bigW := bigW_k5 (List.mem_of_getElem? (i := 197) (by decide +kernel)) (by decide +kernel)
theorem lk_RX1_9 : Cond.fieldLink RX1 9 RX1 (TX1 0).2.1 (TX1 0).2.2.1 ∈ bigW := bigW_k1 (List.mem_of_getElem? (i := 140) (by decide +kernel)) (by decide +kernel)
theorem lk_RX1_50 : Cond.fieldLink RX1 50 RX1 (TX1 12).2.1 (TX1 12).2.2.1 ∈ bigW := bigW_k1 (List.mem_of_getElem? (i := 172) (by decide +kernel)) (by decide +kernel)
theorem lk_RX1_15 : Cond.fieldLink RX1 15 RX1 (TX1 1).2.1 (TX1 1).2.2.1 ∈ bigW := bigW_k1 (List.mem_of_getElem? (i := 142) (by decide +kernel)) (by decide +kernel)
theorem lk_RX1_19 : Cond.fieldLink RX1 19 RX1 (TX1 2).2.1 (TX1 2).2.2.1 ∈ bigW := bigW_k1 (List.mem_of_getElem? (i := 145) (by decide +kernel)) (by decide +kernel)
theorem lk_RX1_22 : Cond.fieldLink RX1 22 RX1 (TX1 3).2.1 (TX1 3).2.2.1 ∈ bigW := bigW_k1 (List.mem_of_getElem? (i := 148) (by decide +kernel)) (by decide +kernel)
theorem lk_RX1_25 : Cond.fieldLink RX1 25 RX1 (TX1 4).2.1 (TX1 4).2.2.1 ∈ bigW := bigW_k1 (List.mem_of_getElem? (i := 151) (by decide +kernel)) (by decide +kernel)
theorem lk_RX1_29 : Cond.fieldLink RX1 29 RX1 (TX1 5).2.1 (TX1 5).2.2.1 ∈ bigW := bigW_k1 (List.mem_of_getElem? (i := 154) (by decide +kernel)) (by decide +kernel)
theorem lk_RX1_54 : Cond.methodLink RX1 54 yX1_clearRows ∈ bigW := bigW_k2 (List.mem_of_getElem? (i := 176) (by decide +kernel)) (by decide +kernel)
theorem lk_RX1_58 : Cond.methodLink RX1 58 yJ9_max_7cf53 ∈ bigW := bigW_k2 (List.mem_of_getElem? (i := 183) (by decide +kernel)) (by decide +kernel)
theorem lk_RX1_32 : Cond.fieldLink RX1 32 RX1 (TX1 6).2.1 (TX1 6).2.2.1 ∈ bigW := bigW_k1 (List.mem_of_getElem? (i := 156) (by decide +kernel)) (by decide +kernel)
theorem lk_RX1_64 : Cond.methodLink RX1 64 yX1_clearRow ∈ bigW := bigW_k2 (List.mem_of_getElem? (i := 180) (by decide +kernel)) (by decide +kernel)
theorem lk_RX1_35 : Cond.fieldLink RX1 35 RX1 (TX1 7).2.1 (TX1 7).2.2.1 ∈ bigW := bigW_k1 (List.mem_of_getElem? (i := 159) (by decide +kernel)) (by decide +kernel)
theorem lk_RX1_38 : Cond.fieldLink RX1 38 RX1 (TX1 8).2.1 (TX1 8).2.2.1 ∈ bigW := bigW_k1 (List.mem_of_getElem? (i := 162) (by decide +kernel)) (by decide +kernel)
theorem lk_RX1_41 : Cond.fieldLink RX1 41 RX1 (TX1 9).2.1 (TX1 9).2.2.1 ∈ bigW := bigW_k1 (List.mem_of_getElem? (i := 165) (by decide +kernel)) (by decide +kernel)
theorem lk_RX1_44 : Cond.fieldLink RX1 44 RX1 (TX1 10).2.1 (TX1 10).2.2.1 ∈ bigW := bigW_k1 (List.mem_of_getElem? (i := 167) (by decide +kernel)) (by decide +kernel)
theorem lk_RX1_47 : Cond.fieldLink RX1 47 RX1 (TX1 11).2.1 (TX1 11).2.2.1 ∈ bigW := bigW_k1 (List.mem_of_getElem? (i := 169) (by decide +kernel)) (by decide +kernel)
theorem lk_RX1_68 : Cond.methodLink RX1 68 yX1_borneOf ∈ bigW := bigW_k4 (List.mem_of_getElem? (i := 236) (by decide +kernel)) (by decide +kernel)
theorem lk_RX1_72 : Cond.methodLink RX1 72 yX1_borneInAll ∈ bigW := bigW_k5 (List.mem_of_getElem? (i := 32) (by decide +kernel)) (by decide +kernel)
theorem lk_RX2_15 : Cond.fieldLink RX2 15 RX2 (TX2 1).2.1 (TX2 1).2.2.1 ∈ bigW := bigW_k1 (List.mem_of_getElem? (i := 33) (by decide +kernel)) (by decide +kernel)
theorem lk_RX2_11 : Cond.fieldLink RX2 11 RX2 (TX2 0).2.1 (TX2 0).2.2.1 ∈ bigW := bigW_k1 (List.mem_of_getElem? (i := 32) (by decide +kernel)) (by decide +kernel)
theorem lk_RX2_19 : Cond.methodLink RX2 19 yX2_read ∈ bigW := bigW_k5 (List.mem_of_getElem? (i := 141) (by decide +kernel)) (by decide +kernel)
theorem lk_RX3_9 : Cond.fieldLink RX3 9 RX3 (TX3 0).2.1 (TX3 0).2.2.1 ∈ bigW := bigW_k2 (List.mem_of_getElem? (i := 7) (by decide +kernel)) (by decide +kernel)
theorem lk_RX3_30 : Cond.methodLink RX3 30 yJ7_fill_d0a16 ∈ bigW := bigW_k2 (List.mem_of_getElem? (i := 227) (by decide +kernel)) (by decide +kernel)
theorem lk_RX3_15 : Cond.fieldLink RX3 15 RX3 (TX3 1).2.1 (TX3 1).2.2.1 ∈ bigW := bigW_k2 (List.mem_of_getElem? (i := 11) (by decide +kernel)) (by decide +kernel)
theorem lk_RX3_18 : Cond.fieldLink RX3 18 RX3 (TX3 2).2.1 (TX3 2).2.2.1 ∈ bigW := bigW_k2 (List.mem_of_getElem? (i := 13) (by decide +kernel)) (by decide +kernel)
theorem lk_RX3_24 : Cond.fieldLink RX3 24 RX3 (TX3 4).2.1 (TX3 4).2.2.1 ∈ bigW := bigW_k2 (List.mem_of_getElem? (i := 18) (by decide +kernel)) (by decide +kernel)
theorem lk_RX3_27 : Cond.fieldLink RX3 27 RX3 (TX3 5).2.1 (TX3 5).2.2.1 ∈ bigW := bigW_k2 (List.mem_of_getElem? (i := 21) (by decide +kernel)) (by decide +kernel)
theorem lk_RX3_36 : Cond.fieldLink RX3 36 RX0 (TX0 0).2.1 (TX0 0).2.2.1 ∈ bigW := bigW_k1 (List.mem_of_getElem? (i := 205) (by decide +kernel)) (by decide +kernel)
theorem lk_RX3_42 : Cond.fieldLink RX3 42 RX5 (TX5 11).2.1 (TX5 11).2.2.1 ∈ bigW := bigW_k1 (List.mem_of_getElem? (i := 93) (by decide +kernel)) (by decide +kernel)
theorem lk_RX3_48 : Cond.fieldLink RX3 48 RX5 (TX5 10).2.1 (TX5 10).2.2.1 ∈ bigW := bigW_k1 (List.mem_of_getElem? (i := 90) (by decide +kernel)) (by decide +kernel)
theorem lk_RX3_51 : Cond.methodLink RX3 51 yX0_holeCanTake ∈ bigW := bigW_k2 (List.mem_of_getElem? (i := 238) (by decide +kernel)) (by decide +kernel)
theorem lk_RX3_55 : Cond.methodLink RX3 55 yJ9_min_f86c9 ∈ bigW := bigW_k3 (List.mem_of_getElem? (i := 2) (by decide +kernel)) (by decide +kernel)
theorem lk_RX3_61 : Cond.methodLink RX3 61 yX0_canTake ∈ bigW := bigW_k3 (List.mem_of_getElem? (i := 5) (by decide +kernel)) (by decide +kernel)
theorem lk_RX3_65 : Cond.fieldLink RX3 65 RX5 (TX5 1).2.1 (TX5 1).2.2.1 ∈ bigW := bigW_k1 (List.mem_of_getElem? (i := 60) (by decide +kernel)) (by decide +kernel)
theorem lk_RX3_68 : Cond.fieldLink RX3 68 RX5 (TX5 2).2.1 (TX5 2).2.2.1 ∈ bigW := bigW_k1 (List.mem_of_getElem? (i := 64) (by decide +kernel)) (by decide +kernel)
theorem lk_RX3_71 : Cond.fieldLink RX3 71 RX5 (TX5 13).2.1 (TX5 13).2.2.1 ∈ bigW := bigW_k1 (List.mem_of_getElem? (i := 102) (by decide +kernel)) (by decide +kernel)
theorem lk_RX3_75 : Cond.methodLink RX3 75 yX3_splitLayer ∈ bigW := bigW_k3 (List.mem_of_getElem? (i := 65) (by decide +kernel)) (by decide +kernel)
theorem lk_RX3_79 : Cond.fieldLink RX3 79 RX5 (TX5 6).2.1 (TX5 6).2.2.1 ∈ bigW := bigW_k1 (List.mem_of_getElem? (i := 79) (by decide +kernel)) (by decide +kernel)
theorem lk_RX3_82 : Cond.constantLong RX3 82 (10) ∈ bigW := bigW_k3 (List.mem_of_getElem? (i := 69) (by decide +kernel)) (by decide +kernel)
theorem lk_RX3_84 : Cond.fieldLink RX3 84 RX5 (TX5 5).2.1 (TX5 5).2.2.1 ∈ bigW := bigW_k1 (List.mem_of_getElem? (i := 74) (by decide +kernel)) (by decide +kernel)
theorem lk_RX3_21 : Cond.fieldLink RX3 21 RX3 (TX3 3).2.1 (TX3 3).2.2.1 ∈ bigW := bigW_k2 (List.mem_of_getElem? (i := 16) (by decide +kernel)) (by decide +kernel)
theorem lk_RX3_87 : Cond.fieldLink RX3 87 RX5 (TX5 8).2.1 (TX5 8).2.2.1 ∈ bigW := bigW_k1 (List.mem_of_getElem? (i := 84) (by decide +kernel)) (by decide +kernel)
theorem lk_RX3_90 : Cond.fieldLink RX3 90 RX5 (TX5 7).2.1 (TX5 7).2.2.1 ∈ bigW := bigW_k1 (List.mem_of_getElem? (i := 81) (by decide +kernel)) (by decide +kernel)
theorem lk_RX3_93 : Cond.methodLink RX3 93 yX3_charge ∈ bigW := bigW_k3 (List.mem_of_getElem? (i := 70) (by decide +kernel)) (by decide +kernel)
theorem lk_RX4_47 : Cond.fieldLink RX4 47 RX0 (TX0 0).2.1 (TX0 0).2.2.1 ∈ bigW := bigW_k1 (List.mem_of_getElem? (i := 203) (by decide +kernel)) (by decide +kernel)
theorem lk_RX4_53 : Cond.methodLink RX4 53 yX4_weighAlike ∈ bigW := bigW_k2 (List.mem_of_getElem? (i := 215) (by decide +kernel)) (by decide +kernel)
theorem lk_RX4_12 : Cond.fieldLink RX4 12 RX4 (TX4 0).2.1 (TX4 0).2.2.1 ∈ bigW := bigW_k2 (List.mem_of_getElem? (i := 38) (by decide +kernel)) (by decide +kernel)
theorem lk_RX4_57 : Cond.methodLink RX4 57 yX4_payByWeights ∈ bigW := bigW_k2 (List.mem_of_getElem? (i := 219) (by decide +kernel)) (by decide +kernel)
theorem lk_RX4_61 : Cond.methodLink RX4 61 yX4_weighBySizes ∈ bigW := bigW_k3 (List.mem_of_getElem? (i := 9) (by decide +kernel)) (by decide +kernel)
theorem lk_RX4_18 : Cond.fieldLink RX4 18 RX4 (TX4 1).2.1 (TX4 1).2.2.1 ∈ bigW := bigW_k2 (List.mem_of_getElem? (i := 41) (by decide +kernel)) (by decide +kernel)
theorem lk_RX4_64 : Cond.methodLink RX4 64 yX4_measureRooms ∈ bigW := bigW_k3 (List.mem_of_getElem? (i := 17) (by decide +kernel)) (by decide +kernel)
theorem lk_RX4_68 : Cond.methodLink RX4 68 yX4_orderYears ∈ bigW := bigW_k3 (List.mem_of_getElem? (i := 27) (by decide +kernel)) (by decide +kernel)
theorem lk_RX4_72 : Cond.methodLink RX4 72 yX4_payInTurn ∈ bigW := bigW_k3 (List.mem_of_getElem? (i := 39) (by decide +kernel)) (by decide +kernel)
theorem lk_RX4_76 : Cond.fieldLink RX4 76 RX5 (TX5 13).2.1 (TX5 13).2.2.1 ∈ bigW := bigW_k1 (List.mem_of_getElem? (i := 101) (by decide +kernel)) (by decide +kernel)
theorem lk_RX4_82 : Cond.methodLink RX4 82 yX4_contribute ∈ bigW := bigW_k3 (List.mem_of_getElem? (i := 43) (by decide +kernel)) (by decide +kernel)
theorem lk_RX4_86 : Cond.methodLink RX4 86 yX4_payByLevel ∈ bigW := bigW_k3 (List.mem_of_getElem? (i := 47) (by decide +kernel)) (by decide +kernel)
theorem lk_RX4_89 : Cond.fieldLink RX4 89 RX0 (TX0 2).2.1 (TX0 2).2.2.1 ∈ bigW := bigW_k1 (List.mem_of_getElem? (i := 209) (by decide +kernel)) (by decide +kernel)
theorem lk_RX4_92 : Cond.methodLink RX4 92 yX3_split ∈ bigW := bigW_k3 (List.mem_of_getElem? (i := 61) (by decide +kernel)) (by decide +kernel)
theorem lk_RX4_96 : Cond.fieldLink RX4 96 RX5 (TX5 12).2.1 (TX5 12).2.2.1 ∈ bigW := bigW_k1 (List.mem_of_getElem? (i := 97) (by decide +kernel)) (by decide +kernel)
theorem lk_RX4_21 : Cond.fieldLink RX4 21 RX4 (TX4 2).2.1 (TX4 2).2.2.1 ∈ bigW := bigW_k2 (List.mem_of_getElem? (i := 42) (by decide +kernel)) (by decide +kernel)
theorem lk_RX4_99 : Cond.methodLink RX4 99 yX5_sizesIn ∈ bigW := bigW_k3 (List.mem_of_getElem? (i := 13) (by decide +kernel)) (by decide +kernel)
theorem lk_RX4_103 : Cond.methodLink RX4 103 yX5_isGap ∈ bigW := bigW_k2 (List.mem_of_getElem? (i := 233) (by decide +kernel)) (by decide +kernel)
theorem lk_RX4_107 : Cond.methodLink RX4 107 yX3_clear ∈ bigW := bigW_k2 (List.mem_of_getElem? (i := 223) (by decide +kernel)) (by decide +kernel)
theorem lk_RX4_25 : Cond.fieldLink RX4 25 RX4 (TX4 3).2.1 (TX4 3).2.2.1 ∈ bigW := bigW_k2 (List.mem_of_getElem? (i := 44) (by decide +kernel)) (by decide +kernel)
theorem lk_RX4_114 : Cond.fieldLink RX4 114 RX3 (TX3 5).2.1 (TX3 5).2.2.1 ∈ bigW := bigW_k2 (List.mem_of_getElem? (i := 22) (by decide +kernel)) (by decide +kernel)
theorem lk_RX4_117 : Cond.methodLink RX4 117 yX3_fill ∈ bigW := bigW_k2 (List.mem_of_getElem? (i := 234) (by decide +kernel)) (by decide +kernel)
theorem lk_RX4_121 : Cond.fieldLink RX4 121 RX4 (TX4 7).2.1 (TX4 7).2.2.1 ∈ bigW := bigW_k2 (List.mem_of_getElem? (i := 50) (by decide +kernel)) (by decide +kernel)
theorem lk_RX4_28 : Cond.fieldLink RX4 28 RX4 (TX4 4).2.1 (TX4 4).2.2.1 ∈ bigW := bigW_k2 (List.mem_of_getElem? (i := 46) (by decide +kernel)) (by decide +kernel)
theorem lk_RX4_124 : Cond.methodLink RX4 124 yX0_roomOf ∈ bigW := bigW_k3 (List.mem_of_getElem? (i := 21) (by decide +kernel)) (by decide +kernel)
theorem lk_RX4_34 : Cond.fieldLink RX4 34 RX4 (TX4 6).2.1 (TX4 6).2.2.1 ∈ bigW := bigW_k2 (List.mem_of_getElem? (i := 48) (by decide +kernel)) (by decide +kernel)
theorem lk_RX4_31 : Cond.fieldLink RX4 31 RX4 (TX4 5).2.1 (TX4 5).2.2.1 ∈ bigW := bigW_k2 (List.mem_of_getElem? (i := 47) (by decide +kernel)) (by decide +kernel)
theorem lk_RX4_128 : Cond.methodLink RX4 128 yX4_keyOf ∈ bigW := bigW_k3 (List.mem_of_getElem? (i := 31) (by decide +kernel)) (by decide +kernel)
theorem lk_RX4_132 : Cond.fieldLink RX4 132 RX0 (TX0 6).2.1 (TX0 6).2.2.1 ∈ bigW := bigW_k1 (List.mem_of_getElem? (i := 219) (by decide +kernel)) (by decide +kernel)
theorem lk_RX4_135 : Cond.methodLink RX4 135 yX5_lowestFrom ∈ bigW := bigW_k3 (List.mem_of_getElem? (i := 35) (by decide +kernel)) (by decide +kernel)
theorem lk_RX4_139 : Cond.fieldLink RX4 139 RX3 (TX3 0).2.1 (TX3 0).2.2.1 ∈ bigW := bigW_k2 (List.mem_of_getElem? (i := 8) (by decide +kernel)) (by decide +kernel)
theorem lk_RX4_38 : Cond.fieldLink RX4 38 RX4 (TX4 8).2.1 (TX4 8).2.2.1 ∈ bigW := bigW_k2 (List.mem_of_getElem? (i := 52) (by decide +kernel)) (by decide +kernel)
theorem lk_RX4_41 : Cond.fieldLink RX4 41 RX4 (TX4 9).2.1 (TX4 9).2.2.1 ∈ bigW := bigW_k2 (List.mem_of_getElem? (i := 54) (by decide +kernel)) (by decide +kernel)
theorem lk_RX4_44 : Cond.fieldLink RX4 44 RX4 (TX4 10).2.1 (TX4 10).2.2.1 ∈ bigW := bigW_k2 (List.mem_of_getElem? (i := 56) (by decide +kernel)) (by decide +kernel)
theorem lk_RX4_142 : Cond.fieldLink RX4 142 RX3 (TX3 2).2.1 (TX3 2).2.2.1 ∈ bigW := bigW_k2 (List.mem_of_getElem? (i := 15) (by decide +kernel)) (by decide +kernel)
theorem lk_RX4_145 : Cond.methodLink RX4 145 yX4_levelFor ∈ bigW := bigW_k3 (List.mem_of_getElem? (i := 51) (by decide +kernel)) (by decide +kernel)
theorem lk_RX4_149 : Cond.methodLink RX4 149 yX4_takenAtLevel ∈ bigW := bigW_k3 (List.mem_of_getElem? (i := 56) (by decide +kernel)) (by decide +kernel)
theorem lk_RX4_152 : Cond.methodLink RX4 152 yJ9_min_f86c9 ∈ bigW := bigW_k3 (List.mem_of_getElem? (i := 60) (by decide +kernel)) (by decide +kernel)
theorem lk_RX4_158 : Cond.constantLong RX4 158 (2000000000) ∈ bigW := bigW_k3 (List.mem_of_getElem? (i := 55) (by decide +kernel)) (by decide +kernel)
theorem lk_RX5_9 : Cond.fieldLink RX5 9 RX5 (TX5 0).2.1 (TX5 0).2.2.1 ∈ bigW := bigW_k1 (List.mem_of_getElem? (i := 56) (by decide +kernel)) (by decide +kernel)
theorem lk_RX5_49 : Cond.methodLink RX5 49 yJ7_fill_53178 ∈ bigW := bigW_k1 (List.mem_of_getElem? (i := 53) (by decide +kernel)) (by decide +kernel)
theorem lk_RX5_46 : Cond.fieldLink RX5 46 RX5 (TX5 11).2.1 (TX5 11).2.2.1 ∈ bigW := bigW_k1 (List.mem_of_getElem? (i := 92) (by decide +kernel)) (by decide +kernel)
theorem lk_RX5_55 : Cond.fieldLink RX5 55 RX5 (TX5 12).2.1 (TX5 12).2.2.1 ∈ bigW := bigW_k1 (List.mem_of_getElem? (i := 96) (by decide +kernel)) (by decide +kernel)
theorem lk_RX5_59 : Cond.fieldLink RX5 59 RX5 (TX5 13).2.1 (TX5 13).2.2.1 ∈ bigW := bigW_k1 (List.mem_of_getElem? (i := 99) (by decide +kernel)) (by decide +kernel)
theorem lk_RX5_43 : Cond.fieldLink RX5 43 RX5 (TX5 10).2.1 (TX5 10).2.2.1 ∈ bigW := bigW_k1 (List.mem_of_getElem? (i := 89) (by decide +kernel)) (by decide +kernel)
theorem lk_RX5_15 : Cond.fieldLink RX5 15 RX5 (TX5 1).2.1 (TX5 1).2.2.1 ∈ bigW := bigW_k1 (List.mem_of_getElem? (i := 59) (by decide +kernel)) (by decide +kernel)
theorem lk_RX5_18 : Cond.fieldLink RX5 18 RX5 (TX5 2).2.1 (TX5 2).2.2.1 ∈ bigW := bigW_k1 (List.mem_of_getElem? (i := 63) (by decide +kernel)) (by decide +kernel)
theorem lk_RX5_21 : Cond.fieldLink RX5 21 RX5 (TX5 3).2.1 (TX5 3).2.2.1 ∈ bigW := bigW_k1 (List.mem_of_getElem? (i := 67) (by decide +kernel)) (by decide +kernel)
theorem lk_RX5_24 : Cond.fieldLink RX5 24 RX5 (TX5 4).2.1 (TX5 4).2.2.1 ∈ bigW := bigW_k1 (List.mem_of_getElem? (i := 70) (by decide +kernel)) (by decide +kernel)
theorem lk_RX5_62 : Cond.methodLink RX5 62 yX5_leftOf ∈ bigW := bigW_k3 (List.mem_of_getElem? (i := 90) (by decide +kernel)) (by decide +kernel)
theorem lk_RX5_66 : Cond.methodLink RX5 66 yX5_layerAt ∈ bigW := bigW_k2 (List.mem_of_getElem? (i := 141) (by decide +kernel)) (by decide +kernel)
theorem lk_RX5_70 : Cond.methodLink RX5 70 yX5_topOf ∈ bigW := bigW_k2 (List.mem_of_getElem? (i := 145) (by decide +kernel)) (by decide +kernel)
theorem lk_RX5_74 : Cond.methodLink RX5 74 yX5_lacks ∈ bigW := bigW_k2 (List.mem_of_getElem? (i := 133) (by decide +kernel)) (by decide +kernel)
theorem lk_RX5_78 : Cond.methodLink RX5 78 yX5_isFree ∈ bigW := bigW_k2 (List.mem_of_getElem? (i := 137) (by decide +kernel)) (by decide +kernel)
theorem lk_RX5_28 : Cond.fieldLink RX5 28 RX5 (TX5 5).2.1 (TX5 5).2.2.1 ∈ bigW := bigW_k1 (List.mem_of_getElem? (i := 73) (by decide +kernel)) (by decide +kernel)
theorem lk_RX5_31 : Cond.fieldLink RX5 31 RX5 (TX5 6).2.1 (TX5 6).2.2.1 ∈ bigW := bigW_k1 (List.mem_of_getElem? (i := 77) (by decide +kernel)) (by decide +kernel)
theorem lk_RX5_82 : Cond.methodLink RX5 82 yJ9_max_7cf53 ∈ bigW := bigW_k2 (List.mem_of_getElem? (i := 149) (by decide +kernel)) (by decide +kernel)
theorem lk_RX5_87 : Cond.methodLink RX5 87 yX5_isThere ∈ bigW := bigW_k2 (List.mem_of_getElem? (i := 156) (by decide +kernel)) (by decide +kernel)
theorem lk_RX5_90 : Cond.methodLink RX5 90 yX5_tenthsBy ∈ bigW := bigW_k2 (List.mem_of_getElem? (i := 160) (by decide +kernel)) (by decide +kernel)
theorem lk_RX5_34 : Cond.fieldLink RX5 34 RX5 (TX5 7).2.1 (TX5 7).2.2.1 ∈ bigW := bigW_k1 (List.mem_of_getElem? (i := 80) (by decide +kernel)) (by decide +kernel)
theorem lk_RX5_37 : Cond.fieldLink RX5 37 RX5 (TX5 8).2.1 (TX5 8).2.2.1 ∈ bigW := bigW_k1 (List.mem_of_getElem? (i := 83) (by decide +kernel)) (by decide +kernel)
theorem lk_RX5_40 : Cond.fieldLink RX5 40 RX5 (TX5 9).2.1 (TX5 9).2.2.1 ∈ bigW := bigW_k1 (List.mem_of_getElem? (i := 86) (by decide +kernel)) (by decide +kernel)
theorem lk_RX5_93 : Cond.methodLink RX5 93 yX5_isGap ∈ bigW := bigW_k2 (List.mem_of_getElem? (i := 168) (by decide +kernel)) (by decide +kernel)
theorem lk_RX5_96 : Cond.methodLink RX5 96 yJ9_min_7cf53 ∈ bigW := bigW_k5 (List.mem_of_getElem? (i := 182) (by decide +kernel)) (by decide +kernel)
theorem lk_RX5_99 : Cond.constantLong RX5 99 (10) ∈ bigW := bigW_k5 (List.mem_of_getElem? (i := 9) (by decide +kernel)) (by decide +kernel)
theorem lk_RL_7 : Cond.methodLink RL 7 yX6_place ∈ bigW := bigW_k3 (List.mem_of_getElem? (i := 106) (by decide +kernel)) (by decide +kernel)
theorem lk_RL_17 : Cond.methodLink RL 17 yX6_sign ∈ bigW := bigW_k3 (List.mem_of_getElem? (i := 215) (by decide +kernel)) (by decide +kernel)
theorem lk_RL_23 : Cond.methodLink RL 23 yX6_lack ∈ bigW := bigW_k4 (List.mem_of_getElem? (i := 9) (by decide +kernel)) (by decide +kernel)
theorem lk_RL_27 : Cond.methodLink RL 27 yX6_rules ∈ bigW := bigW_k4 (List.mem_of_getElem? (i := 22) (by decide +kernel)) (by decide +kernel)
theorem lk_RL_30 : Cond.methodLink RL 30 yX6_harm ∈ bigW := bigW_k4 (List.mem_of_getElem? (i := 35) (by decide +kernel)) (by decide +kernel)
theorem lk_RL_33 : Cond.methodLink RL 33 yX6_grow ∈ bigW := bigW_k4 (List.mem_of_getElem? (i := 49) (by decide +kernel)) (by decide +kernel)
theorem lk_RL_37 : Cond.methodLink RL 37 yX6_settle ∈ bigW := bigW_k4 (List.mem_of_getElem? (i := 64) (by decide +kernel)) (by decide +kernel)
theorem lk_RL_41 : Cond.methodLink RL 41 yX6_fall ∈ bigW := bigW_k4 (List.mem_of_getElem? (i := 78) (by decide +kernel)) (by decide +kernel)
theorem lk_RL_44 : Cond.methodLink RL 44 yX6_reopen ∈ bigW := bigW_k4 (List.mem_of_getElem? (i := 85) (by decide +kernel)) (by decide +kernel)
theorem lk_RL_48 : Cond.methodLink RL 48 yX6_told ∈ bigW := bigW_k4 (List.mem_of_getElem? (i := 92) (by decide +kernel)) (by decide +kernel)
theorem lk_RL_51 : Cond.methodLink RL 51 yX6_event ∈ bigW := bigW_k4 (List.mem_of_getElem? (i := 107) (by decide +kernel)) (by decide +kernel)
theorem lk_RL_54 : Cond.methodLink RL 54 yX6_layer ∈ bigW := bigW_k4 (List.mem_of_getElem? (i := 119) (by decide +kernel)) (by decide +kernel)
theorem lk_RL_57 : Cond.methodLink RL 57 yX6_signed ∈ bigW := bigW_k4 (List.mem_of_getElem? (i := 135) (by decide +kernel)) (by decide +kernel)
theorem lk_RL_61 : Cond.methodLink RL 61 yX6_year ∈ bigW := bigW_k4 (List.mem_of_getElem? (i := 143) (by decide +kernel)) (by decide +kernel)
theorem lk_RL_64 : Cond.methodLink RL 64 yX6_at ∈ bigW := bigW_k4 (List.mem_of_getElem? (i := 162) (by decide +kernel)) (by decide +kernel)
theorem lk_RL_67 : Cond.methodLink RL 67 yX6_rung ∈ bigW := bigW_k4 (List.mem_of_getElem? (i := 176) (by decide +kernel)) (by decide +kernel)
theorem lk_RL_70 : Cond.methodLink RL 70 yX6_damage ∈ bigW := bigW_k4 (List.mem_of_getElem? (i := 183) (by decide +kernel)) (by decide +kernel)
theorem lk_RL_73 : Cond.methodLink RL 73 yX6_took ∈ bigW := bigW_k4 (List.mem_of_getElem? (i := 190) (by decide +kernel)) (by decide +kernel)
theorem lk_RL_76 : Cond.methodLink RL 76 yX6_hole ∈ bigW := bigW_k4 (List.mem_of_getElem? (i := 197) (by decide +kernel)) (by decide +kernel)
theorem lk_RL_79 : Cond.methodLink RL 79 yX6_moved ∈ bigW := bigW_k4 (List.mem_of_getElem? (i := 204) (by decide +kernel)) (by decide +kernel)
theorem lk_RL_82 : Cond.methodLink RL 82 yX6_bears ∈ bigW := bigW_k4 (List.mem_of_getElem? (i := 211) (by decide +kernel)) (by decide +kernel)
theorem lk_RL_85 : Cond.methodLink RL 85 yX6_falls ∈ bigW := bigW_k4 (List.mem_of_getElem? (i := 218) (by decide +kernel)) (by decide +kernel)
theorem lk_RL_88 : Cond.methodLink RL 88 yX6_insurer ∈ bigW := bigW_k4 (List.mem_of_getElem? (i := 228) (by decide +kernel)) (by decide +kernel)
theorem lk_RL_91 : Cond.methodLink RL 91 yX6_burden ∈ bigW := bigW_k5 (List.mem_of_getElem? (i := 13) (by decide +kernel)) (by decide +kernel)
theorem lk_RL_94 : Cond.methodLink RL 94 yX6_rank ∈ bigW := bigW_k5 (List.mem_of_getElem? (i := 24) (by decide +kernel)) (by decide +kernel)
theorem lk_RL_97 : Cond.methodLink RL 97 yX6_offs ∈ bigW := bigW_k5 (List.mem_of_getElem? (i := 36) (by decide +kernel)) (by decide +kernel)
theorem lk_RL_100 : Cond.methodLink RL 100 yX6_would ∈ bigW := bigW_k5 (List.mem_of_getElem? (i := 44) (by decide +kernel)) (by decide +kernel)
theorem lk_RL_104 : Cond.methodLink RL 104 yX6_takes ∈ bigW := bigW_k5 (List.mem_of_getElem? (i := 56) (by decide +kernel)) (by decide +kernel)
theorem lk_RL_107 : Cond.methodLink RL 107 yX6_drops ∈ bigW := bigW_k5 (List.mem_of_getElem? (i := 63) (by decide +kernel)) (by decide +kernel)
theorem lk_RL_110 : Cond.methodLink RL 110 yX6_share ∈ bigW := bigW_k5 (List.mem_of_getElem? (i := 70) (by decide +kernel)) (by decide +kernel)
theorem lk_RL_113 : Cond.methodLink RL 113 yX6_weight ∈ bigW := bigW_k5 (List.mem_of_getElem? (i := 79) (by decide +kernel)) (by decide +kernel)
theorem lk_RL_117 : Cond.methodLink RL 117 yX6_picks ∈ bigW := bigW_k5 (List.mem_of_getElem? (i := 87) (by decide +kernel)) (by decide +kernel)
theorem lk_RL_120 : Cond.methodLink RL 120 yX6_other ∈ bigW := bigW_k5 (List.mem_of_getElem? (i := 96) (by decide +kernel)) (by decide +kernel)
theorem lk_RL_123 : Cond.methodLink RL 123 yX6_best ∈ bigW := bigW_k5 (List.mem_of_getElem? (i := 108) (by decide +kernel)) (by decide +kernel)
theorem lk_RL_126 : Cond.methodLink RL 126 yX6_without ∈ bigW := bigW_k5 (List.mem_of_getElem? (i := 115) (by decide +kernel)) (by decide +kernel)
theorem lk_RL_129 : Cond.methodLink RL 129 yX6_undone ∈ bigW := bigW_k5 (List.mem_of_getElem? (i := 126) (by decide +kernel)) (by decide +kernel)
theorem lk_RL_132 : Cond.methodLink RL 132 yX6_spared ∈ bigW := bigW_k5 (List.mem_of_getElem? (i := 133) (by decide +kernel)) (by decide +kernel)
theorem lk_RL_135 : Cond.methodLink RL 135 yX6_shift ∈ bigW := bigW_k5 (List.mem_of_getElem? (i := 145) (by decide +kernel)) (by decide +kernel)
theorem lk_RL_138 : Cond.methodLink RL 138 yX6_after ∈ bigW := bigW_k5 (List.mem_of_getElem? (i := 152) (by decide +kernel)) (by decide +kernel)
theorem lk_RL_141 : Cond.methodLink RL 141 yX6_usedUp ∈ bigW := bigW_k5 (List.mem_of_getElem? (i := 159) (by decide +kernel)) (by decide +kernel)
theorem lk_RL_144 : Cond.methodLink RL 144 yX6_heaviest ∈ bigW := bigW_k5 (List.mem_of_getElem? (i := 167) (by decide +kernel)) (by decide +kernel)
theorem lk_RL_147 : Cond.methodLink RL 147 yX6_cover ∈ bigW := bigW_k5 (List.mem_of_getElem? (i := 174) (by decide +kernel)) (by decide +kernel)
theorem lk_RL_150 : Cond.methodLink RL 150 yX6_reach ∈ bigW := bigW_k5 (List.mem_of_getElem? (i := 188) (by decide +kernel)) (by decide +kernel)
theorem lk_RL_153 : Cond.methodLink RL 153 yX6_uneven ∈ bigW := bigW_k5 (List.mem_of_getElem? (i := 201) (by decide +kernel)) (by decide +kernel)
theorem lk_RL_156 : Cond.methodLink RL 156 yX6_widest ∈ bigW := bigW_k5 (List.mem_of_getElem? (i := 208) (by decide +kernel)) (by decide +kernel)
theorem lk_RL_159 : Cond.methodLink RL 159 yX6_strongest ∈ bigW := bigW_k5 (List.mem_of_getElem? (i := 215) (by decide +kernel)) (by decide +kernel)
theorem lk_RL_162 : Cond.methodLink RL 162 yX6_holds ∈ bigW := bigW_k5 (List.mem_of_getElem? (i := 222) (by decide +kernel)) (by decide +kernel)
theorem lk_RL_169 : Cond.methodLink RL 169 yL_place ∈ bigW := bigW_k3 (List.mem_of_getElem? (i := 101) (by decide +kernel)) (by decide +kernel)
theorem lk_RL_174 : Cond.methodLink RL 174 yX7_place ∈ bigW := bigW_k6 (List.mem_of_getElem? (i := 148) (by decide +kernel)) (by decide +kernel)
theorem lk_RL_175 : Cond.methodLink RL 175 yX7_thrown ∈ bigW := bigW_k5 (List.mem_of_getElem? (i := 227) (by decide +kernel)) (by decide +kernel)
theorem lk_RL_179 : Cond.methodLink RL 179 yL_sign ∈ bigW := bigW_k3 (List.mem_of_getElem? (i := 211) (by decide +kernel)) (by decide +kernel)
theorem lk_RL_182 : Cond.methodLink RL 182 yX7_sign ∈ bigW := bigW_k7 (List.mem_of_getElem? (i := 117) (by decide +kernel)) (by decide +kernel)
theorem lk_RL_183 : Cond.methodLink RL 183 yL_lack ∈ bigW := bigW_k4 (List.mem_of_getElem? (i := 6) (by decide +kernel)) (by decide +kernel)
theorem lk_RL_186 : Cond.methodLink RL 186 yX7_lack ∈ bigW := bigW_k7 (List.mem_of_getElem? (i := 135) (by decide +kernel)) (by decide +kernel)
theorem lk_RL_187 : Cond.methodLink RL 187 yL_rules ∈ bigW := bigW_k4 (List.mem_of_getElem? (i := 19) (by decide +kernel)) (by decide +kernel)
theorem lk_RL_189 : Cond.methodLink RL 189 yX7_rules ∈ bigW := bigW_k7 (List.mem_of_getElem? (i := 142) (by decide +kernel)) (by decide +kernel)
theorem lk_RL_190 : Cond.methodLink RL 190 yL_harm ∈ bigW := bigW_k4 (List.mem_of_getElem? (i := 32) (by decide +kernel)) (by decide +kernel)
theorem lk_RL_192 : Cond.methodLink RL 192 yX7_harm ∈ bigW := bigW_k7 (List.mem_of_getElem? (i := 150) (by decide +kernel)) (by decide +kernel)
theorem lk_RL_193 : Cond.methodLink RL 193 yL_grow ∈ bigW := bigW_k4 (List.mem_of_getElem? (i := 46) (by decide +kernel)) (by decide +kernel)
theorem lk_RL_196 : Cond.methodLink RL 196 yX7_grow ∈ bigW := bigW_k7 (List.mem_of_getElem? (i := 161) (by decide +kernel)) (by decide +kernel)
theorem lk_RL_197 : Cond.methodLink RL 197 yL_settle ∈ bigW := bigW_k4 (List.mem_of_getElem? (i := 61) (by decide +kernel)) (by decide +kernel)
theorem lk_RL_199 : Cond.methodLink RL 199 yX7_settle ∈ bigW := bigW_k7 (List.mem_of_getElem? (i := 178) (by decide +kernel)) (by decide +kernel)
theorem lk_RL_200 : Cond.methodLink RL 200 yL_fall ∈ bigW := bigW_k4 (List.mem_of_getElem? (i := 75) (by decide +kernel)) (by decide +kernel)
theorem lk_RL_202 : Cond.methodLink RL 202 yX7_fall ∈ bigW := bigW_k7 (List.mem_of_getElem? (i := 186) (by decide +kernel)) (by decide +kernel)
theorem lk_RL_203 : Cond.methodLink RL 203 yL_reopen ∈ bigW := bigW_k4 (List.mem_of_getElem? (i := 82) (by decide +kernel)) (by decide +kernel)
theorem lk_RL_205 : Cond.methodLink RL 205 yX7_reopen ∈ bigW := bigW_k7 (List.mem_of_getElem? (i := 174) (by decide +kernel)) (by decide +kernel)
theorem lk_RL_206 : Cond.methodLink RL 206 yX6_back ∈ bigW := bigW_k2 (List.mem_of_getElem? (i := 96) (by decide +kernel)) (by decide +kernel)
theorem lk_RL_209 : Cond.methodLink RL 209 yX7_back ∈ bigW := bigW_k7 (List.mem_of_getElem? (i := 190) (by decide +kernel)) (by decide +kernel)
theorem lk_RL_210 : Cond.methodLink RL 210 yL_told ∈ bigW := bigW_k4 (List.mem_of_getElem? (i := 89) (by decide +kernel)) (by decide +kernel)
theorem lk_RL_212 : Cond.methodLink RL 212 yX7_told ∈ bigW := bigW_k7 (List.mem_of_getElem? (i := 214) (by decide +kernel)) (by decide +kernel)
theorem lk_RL_213 : Cond.methodLink RL 213 yL_event ∈ bigW := bigW_k4 (List.mem_of_getElem? (i := 104) (by decide +kernel)) (by decide +kernel)
theorem lk_RL_215 : Cond.methodLink RL 215 yX7_event ∈ bigW := bigW_k7 (List.mem_of_getElem? (i := 226) (by decide +kernel)) (by decide +kernel)
theorem lk_RL_216 : Cond.methodLink RL 216 yL_layer ∈ bigW := bigW_k4 (List.mem_of_getElem? (i := 116) (by decide +kernel)) (by decide +kernel)
theorem lk_RL_218 : Cond.methodLink RL 218 yX7_layer ∈ bigW := bigW_k7 (List.mem_of_getElem? (i := 234) (by decide +kernel)) (by decide +kernel)
theorem lk_RL_219 : Cond.methodLink RL 219 yL_signed ∈ bigW := bigW_k4 (List.mem_of_getElem? (i := 132) (by decide +kernel)) (by decide +kernel)
theorem lk_RL_221 : Cond.methodLink RL 221 yX7_signed ∈ bigW := bigW_k8 (List.mem_of_getElem? (i := 2) (by decide +kernel)) (by decide +kernel)
theorem lk_RL_222 : Cond.methodLink RL 222 yL_year ∈ bigW := bigW_k4 (List.mem_of_getElem? (i := 140) (by decide +kernel)) (by decide +kernel)
theorem lk_RL_224 : Cond.methodLink RL 224 yX7_year ∈ bigW := bigW_k8 (List.mem_of_getElem? (i := 7) (by decide +kernel)) (by decide +kernel)
theorem lk_RL_225 : Cond.methodLink RL 225 yL_at ∈ bigW := bigW_k4 (List.mem_of_getElem? (i := 159) (by decide +kernel)) (by decide +kernel)
theorem lk_RL_227 : Cond.methodLink RL 227 yX7_at ∈ bigW := bigW_k8 (List.mem_of_getElem? (i := 16) (by decide +kernel)) (by decide +kernel)
theorem lk_RL_228 : Cond.methodLink RL 228 yL_rung ∈ bigW := bigW_k4 (List.mem_of_getElem? (i := 173) (by decide +kernel)) (by decide +kernel)
theorem lk_RL_230 : Cond.methodLink RL 230 yX7_rung ∈ bigW := bigW_k8 (List.mem_of_getElem? (i := 27) (by decide +kernel)) (by decide +kernel)
theorem lk_RL_231 : Cond.methodLink RL 231 yL_damage ∈ bigW := bigW_k4 (List.mem_of_getElem? (i := 180) (by decide +kernel)) (by decide +kernel)
theorem lk_RL_233 : Cond.methodLink RL 233 yX7_damage ∈ bigW := bigW_k8 (List.mem_of_getElem? (i := 31) (by decide +kernel)) (by decide +kernel)
theorem lk_RL_234 : Cond.methodLink RL 234 yL_took ∈ bigW := bigW_k4 (List.mem_of_getElem? (i := 187) (by decide +kernel)) (by decide +kernel)
theorem lk_RL_236 : Cond.methodLink RL 236 yX7_took ∈ bigW := bigW_k8 (List.mem_of_getElem? (i := 36) (by decide +kernel)) (by decide +kernel)
theorem lk_RL_237 : Cond.methodLink RL 237 yL_hole ∈ bigW := bigW_k4 (List.mem_of_getElem? (i := 194) (by decide +kernel)) (by decide +kernel)
theorem lk_RL_239 : Cond.methodLink RL 239 yX7_hole ∈ bigW := bigW_k8 (List.mem_of_getElem? (i := 44) (by decide +kernel)) (by decide +kernel)
theorem lk_RL_240 : Cond.methodLink RL 240 yL_moved ∈ bigW := bigW_k4 (List.mem_of_getElem? (i := 201) (by decide +kernel)) (by decide +kernel)
theorem lk_RL_242 : Cond.methodLink RL 242 yX7_moved ∈ bigW := bigW_k8 (List.mem_of_getElem? (i := 48) (by decide +kernel)) (by decide +kernel)
theorem lk_RL_243 : Cond.methodLink RL 243 yL_bears ∈ bigW := bigW_k4 (List.mem_of_getElem? (i := 208) (by decide +kernel)) (by decide +kernel)
theorem lk_RL_245 : Cond.methodLink RL 245 yX7_bears ∈ bigW := bigW_k8 (List.mem_of_getElem? (i := 52) (by decide +kernel)) (by decide +kernel)
theorem lk_RL_246 : Cond.methodLink RL 246 yL_falls ∈ bigW := bigW_k4 (List.mem_of_getElem? (i := 215) (by decide +kernel)) (by decide +kernel)
theorem lk_RL_248 : Cond.methodLink RL 248 yX7_falls ∈ bigW := bigW_k8 (List.mem_of_getElem? (i := 60) (by decide +kernel)) (by decide +kernel)
theorem lk_RL_249 : Cond.methodLink RL 249 yL_insurer ∈ bigW := bigW_k4 (List.mem_of_getElem? (i := 225) (by decide +kernel)) (by decide +kernel)
theorem lk_RL_251 : Cond.methodLink RL 251 yX7_insurer ∈ bigW := bigW_k8 (List.mem_of_getElem? (i := 64) (by decide +kernel)) (by decide +kernel)
theorem lk_RL_252 : Cond.methodLink RL 252 yL_burden ∈ bigW := bigW_k5 (List.mem_of_getElem? (i := 10) (by decide +kernel)) (by decide +kernel)
theorem lk_RL_254 : Cond.methodLink RL 254 yX7_burden ∈ bigW := bigW_k8 (List.mem_of_getElem? (i := 80) (by decide +kernel)) (by decide +kernel)
theorem lk_RL_255 : Cond.methodLink RL 255 yL_rank ∈ bigW := bigW_k5 (List.mem_of_getElem? (i := 21) (by decide +kernel)) (by decide +kernel)
theorem lk_RL_257 : Cond.methodLink RL 257 yX7_rank ∈ bigW := bigW_k8 (List.mem_of_getElem? (i := 84) (by decide +kernel)) (by decide +kernel)
theorem lk_RL_258 : Cond.methodLink RL 258 yL_offs ∈ bigW := bigW_k5 (List.mem_of_getElem? (i := 33) (by decide +kernel)) (by decide +kernel)
theorem lk_RL_260 : Cond.methodLink RL 260 yX7_offs ∈ bigW := bigW_k8 (List.mem_of_getElem? (i := 88) (by decide +kernel)) (by decide +kernel)
theorem lk_RL_261 : Cond.methodLink RL 261 yL_would ∈ bigW := bigW_k5 (List.mem_of_getElem? (i := 41) (by decide +kernel)) (by decide +kernel)
theorem lk_RL_264 : Cond.methodLink RL 264 yX7_would ∈ bigW := bigW_k8 (List.mem_of_getElem? (i := 92) (by decide +kernel)) (by decide +kernel)
theorem lk_RL_265 : Cond.methodLink RL 265 yL_takes ∈ bigW := bigW_k5 (List.mem_of_getElem? (i := 53) (by decide +kernel)) (by decide +kernel)
theorem lk_RL_267 : Cond.methodLink RL 267 yX7_takes ∈ bigW := bigW_k8 (List.mem_of_getElem? (i := 104) (by decide +kernel)) (by decide +kernel)
theorem lk_RL_268 : Cond.methodLink RL 268 yL_drops ∈ bigW := bigW_k5 (List.mem_of_getElem? (i := 60) (by decide +kernel)) (by decide +kernel)
theorem lk_RL_270 : Cond.methodLink RL 270 yX7_drops ∈ bigW := bigW_k8 (List.mem_of_getElem? (i := 108) (by decide +kernel)) (by decide +kernel)
theorem lk_RL_271 : Cond.methodLink RL 271 yL_share ∈ bigW := bigW_k5 (List.mem_of_getElem? (i := 67) (by decide +kernel)) (by decide +kernel)
theorem lk_RL_273 : Cond.methodLink RL 273 yX7_share ∈ bigW := bigW_k8 (List.mem_of_getElem? (i := 112) (by decide +kernel)) (by decide +kernel)
theorem lk_RL_274 : Cond.methodLink RL 274 yL_weight ∈ bigW := bigW_k5 (List.mem_of_getElem? (i := 76) (by decide +kernel)) (by decide +kernel)
theorem lk_RL_276 : Cond.methodLink RL 276 yX7_weight ∈ bigW := bigW_k8 (List.mem_of_getElem? (i := 116) (by decide +kernel)) (by decide +kernel)
theorem lk_RL_277 : Cond.methodLink RL 277 yL_picks ∈ bigW := bigW_k5 (List.mem_of_getElem? (i := 84) (by decide +kernel)) (by decide +kernel)
theorem lk_RL_279 : Cond.methodLink RL 279 yX7_picks ∈ bigW := bigW_k8 (List.mem_of_getElem? (i := 120) (by decide +kernel)) (by decide +kernel)
theorem lk_RL_280 : Cond.methodLink RL 280 yL_other ∈ bigW := bigW_k5 (List.mem_of_getElem? (i := 93) (by decide +kernel)) (by decide +kernel)
theorem lk_RL_282 : Cond.methodLink RL 282 yX7_other ∈ bigW := bigW_k8 (List.mem_of_getElem? (i := 128) (by decide +kernel)) (by decide +kernel)
theorem lk_RL_283 : Cond.methodLink RL 283 yL_best ∈ bigW := bigW_k5 (List.mem_of_getElem? (i := 105) (by decide +kernel)) (by decide +kernel)
theorem lk_RL_285 : Cond.methodLink RL 285 yX7_best ∈ bigW := bigW_k8 (List.mem_of_getElem? (i := 140) (by decide +kernel)) (by decide +kernel)
theorem lk_RL_286 : Cond.methodLink RL 286 yL_without ∈ bigW := bigW_k5 (List.mem_of_getElem? (i := 112) (by decide +kernel)) (by decide +kernel)
theorem lk_RL_288 : Cond.methodLink RL 288 yX7_without ∈ bigW := bigW_k8 (List.mem_of_getElem? (i := 144) (by decide +kernel)) (by decide +kernel)
theorem lk_RL_289 : Cond.methodLink RL 289 yL_undone ∈ bigW := bigW_k5 (List.mem_of_getElem? (i := 123) (by decide +kernel)) (by decide +kernel)
theorem lk_RL_291 : Cond.methodLink RL 291 yX7_undone ∈ bigW := bigW_k8 (List.mem_of_getElem? (i := 156) (by decide +kernel)) (by decide +kernel)
theorem lk_RL_292 : Cond.methodLink RL 292 yL_spared ∈ bigW := bigW_k5 (List.mem_of_getElem? (i := 130) (by decide +kernel)) (by decide +kernel)
theorem lk_RL_294 : Cond.methodLink RL 294 yX7_spared ∈ bigW := bigW_k8 (List.mem_of_getElem? (i := 180) (by decide +kernel)) (by decide +kernel)
theorem lk_RL_295 : Cond.methodLink RL 295 yL_shift ∈ bigW := bigW_k5 (List.mem_of_getElem? (i := 142) (by decide +kernel)) (by decide +kernel)
theorem lk_RL_297 : Cond.methodLink RL 297 yX7_shift ∈ bigW := bigW_k8 (List.mem_of_getElem? (i := 160) (by decide +kernel)) (by decide +kernel)
theorem lk_RL_298 : Cond.methodLink RL 298 yL_after ∈ bigW := bigW_k5 (List.mem_of_getElem? (i := 149) (by decide +kernel)) (by decide +kernel)
theorem lk_RL_300 : Cond.methodLink RL 300 yX7_after ∈ bigW := bigW_k8 (List.mem_of_getElem? (i := 164) (by decide +kernel)) (by decide +kernel)
theorem lk_RL_301 : Cond.methodLink RL 301 yL_usedUp ∈ bigW := bigW_k5 (List.mem_of_getElem? (i := 156) (by decide +kernel)) (by decide +kernel)
theorem lk_RL_303 : Cond.methodLink RL 303 yX7_usedUp ∈ bigW := bigW_k8 (List.mem_of_getElem? (i := 168) (by decide +kernel)) (by decide +kernel)
theorem lk_RL_304 : Cond.methodLink RL 304 yL_heaviest ∈ bigW := bigW_k5 (List.mem_of_getElem? (i := 164) (by decide +kernel)) (by decide +kernel)
theorem lk_RL_306 : Cond.methodLink RL 306 yX7_heaviest ∈ bigW := bigW_k8 (List.mem_of_getElem? (i := 172) (by decide +kernel)) (by decide +kernel)
theorem lk_RL_307 : Cond.methodLink RL 307 yL_cover ∈ bigW := bigW_k5 (List.mem_of_getElem? (i := 171) (by decide +kernel)) (by decide +kernel)
theorem lk_RL_309 : Cond.methodLink RL 309 yX7_cover ∈ bigW := bigW_k8 (List.mem_of_getElem? (i := 184) (by decide +kernel)) (by decide +kernel)
theorem lk_RL_310 : Cond.methodLink RL 310 yL_reach ∈ bigW := bigW_k5 (List.mem_of_getElem? (i := 185) (by decide +kernel)) (by decide +kernel)
theorem lk_RL_312 : Cond.methodLink RL 312 yX7_reach ∈ bigW := bigW_k8 (List.mem_of_getElem? (i := 188) (by decide +kernel)) (by decide +kernel)
theorem lk_RL_313 : Cond.methodLink RL 313 yL_uneven ∈ bigW := bigW_k5 (List.mem_of_getElem? (i := 198) (by decide +kernel)) (by decide +kernel)
theorem lk_RL_315 : Cond.methodLink RL 315 yX7_uneven ∈ bigW := bigW_k8 (List.mem_of_getElem? (i := 124) (by decide +kernel)) (by decide +kernel)
theorem lk_RL_316 : Cond.methodLink RL 316 yL_widest ∈ bigW := bigW_k5 (List.mem_of_getElem? (i := 205) (by decide +kernel)) (by decide +kernel)
theorem lk_RL_318 : Cond.methodLink RL 318 yX7_widest ∈ bigW := bigW_k8 (List.mem_of_getElem? (i := 192) (by decide +kernel)) (by decide +kernel)
theorem lk_RL_319 : Cond.methodLink RL 319 yL_strongest ∈ bigW := bigW_k5 (List.mem_of_getElem? (i := 212) (by decide +kernel)) (by decide +kernel)
theorem lk_RL_321 : Cond.methodLink RL 321 yX7_strongest ∈ bigW := bigW_k8 (List.mem_of_getElem? (i := 196) (by decide +kernel)) (by decide +kernel)
theorem lk_RL_322 : Cond.methodLink RL 322 yL_holds ∈ bigW := bigW_k5 (List.mem_of_getElem? (i := 219) (by decide +kernel)) (by decide +kernel)
theorem lk_RL_324 : Cond.methodLink RL 324 yX7_holds ∈ bigW := bigW_k8 (List.mem_of_getElem? (i := 200) (by decide +kernel)) (by decide +kernel)
theorem lk_RL_325 : Cond.methodLink RL 325 yX6_spent ∈ bigW := bigW_k3 (List.mem_of_getElem? (i := 82) (by decide +kernel)) (by decide +kernel)
theorem lk_RL_329 : Cond.methodLink RL 329 yX7_spent ∈ bigW := bigW_k8 (List.mem_of_getElem? (i := 204) (by decide +kernel)) (by decide +kernel)
theorem lk_RL_330 : Cond.methodLink RL 330 yX6_status ∈ bigW := bigW_k3 (List.mem_of_getElem? (i := 94) (by decide +kernel)) (by decide +kernel)
theorem lk_RL_333 : Cond.methodLink RL 333 yX7_status ∈ bigW := bigW_k8 (List.mem_of_getElem? (i := 208) (by decide +kernel)) (by decide +kernel)
theorem lk_RJ6_265 : Cond.constant RJ6 265 (1431655765) ∈ bigW := bigW_k4 (List.mem_of_getElem? (i := 16) (by decide +kernel)) (by decide +kernel)
theorem lk_RJ6_266 : Cond.constant RJ6 266 (858993459) ∈ bigW := bigW_k4 (List.mem_of_getElem? (i := 17) (by decide +kernel)) (by decide +kernel)
theorem lk_RJ6_267 : Cond.constant RJ6 267 (252645135) ∈ bigW := bigW_k4 (List.mem_of_getElem? (i := 18) (by decide +kernel)) (by decide +kernel)
theorem cl_RL_21 : Cond.classLink RL 21 "java/util/NoSuchElementException" ∈ bigW := bigW_k3 (List.mem_of_getElem? (i := 214) (by decide +kernel)) (by decide +kernel)
theorem cl_RL_13 : Cond.classLink RL 13 "java/lang/IllegalArgumentException" ∈ bigW := bigW_k3 (List.mem_of_getElem? (i := 104) (by decide +kernel)) (by decide +kernel)
theorem cl_RL_15 : Cond.classLink RL 15 "java/lang/IllegalStateException" ∈ bigW := bigW_k3 (List.mem_of_getElem? (i := 105) (by decide +kernel)) (by decide +kernel)
theorem cl_RX6_360 : Cond.classLink RX6 360 "java/util/NoSuchElementException" ∈ bigW := bigW_k3 (List.mem_of_getElem? (i := 227) (by decide +kernel)) (by decide +kernel)
theorem cl_RX6_367 : Cond.classLink RX6 367 "java/lang/IllegalArgumentException" ∈ bigW := bigW_k3 (List.mem_of_getElem? (i := 119) (by decide +kernel)) (by decide +kernel)
theorem cl_RX6_372 : Cond.classLink RX6 372 "java/lang/IllegalStateException" ∈ bigW := bigW_k3 (List.mem_of_getElem? (i := 195) (by decide +kernel)) (by decide +kernel)
