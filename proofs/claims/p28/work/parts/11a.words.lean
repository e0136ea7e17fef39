set_option maxRecDepth 100000 in
theorem gw_T1 {w : Cond} (i : Nat) (h : tables_1_1[i]? = some w) (hg : goodWord w = true) : w ∈ gw := List.mem_filter.mpr ⟨List.mem_append_right _ (List.mem_append_left _ (List.mem_of_getElem? h)), hg⟩
set_option maxRecDepth 100000 in
theorem nest_T1 {w : Cond} (i : Nat) (h : tables_1_1[i]? = some w) (hg : isNest w = true) : w ∈ nestW := List.mem_filter.mpr ⟨List.mem_append_left _ (List.mem_of_getElem? h), hg⟩
set_option maxRecDepth 100000 in
theorem gw_T2 {w : Cond} (i : Nat) (h : tables_1_2[i]? = some w) (hg : goodWord w = true) : w ∈ gw := List.mem_filter.mpr ⟨List.mem_append_right _ (List.mem_append_right _ (List.mem_append_left _ (List.mem_of_getElem? h))), hg⟩
set_option maxRecDepth 100000 in
theorem nest_T2 {w : Cond} (i : Nat) (h : tables_1_2[i]? = some w) (hg : isNest w = true) : w ∈ nestW := List.mem_filter.mpr ⟨List.mem_append_right _ (List.mem_append_left _ (List.mem_of_getElem? h)), hg⟩
set_option maxRecDepth 100000 in
theorem gw_T3 {w : Cond} (i : Nat) (h : tables_1_3[i]? = some w) (hg : goodWord w = true) : w ∈ gw := List.mem_filter.mpr ⟨List.mem_append_right _ (List.mem_append_right _ (List.mem_append_right _ (List.mem_append_left _ (List.mem_of_getElem? h)))), hg⟩
set_option maxRecDepth 100000 in
theorem nest_T3 {w : Cond} (i : Nat) (h : tables_1_3[i]? = some w) (hg : isNest w = true) : w ∈ nestW := List.mem_filter.mpr ⟨List.mem_append_right _ (List.mem_append_right _ (List.mem_append_left _ (List.mem_of_getElem? h))), hg⟩
set_option maxRecDepth 100000 in
theorem gw_T4 {w : Cond} (i : Nat) (h : tables_1_4[i]? = some w) (hg : goodWord w = true) : w ∈ gw := List.mem_filter.mpr ⟨List.mem_append_right _ (List.mem_append_right _ (List.mem_append_right _ (List.mem_append_right _ (List.mem_append_left _ (List.mem_of_getElem? h))))), hg⟩
set_option maxRecDepth 100000 in
theorem nest_T4 {w : Cond} (i : Nat) (h : tables_1_4[i]? = some w) (hg : isNest w = true) : w ∈ nestW := List.mem_filter.mpr ⟨List.mem_append_right _ (List.mem_append_right _ (List.mem_append_right _ (List.mem_append_left _ (List.mem_of_getElem? h)))), hg⟩
set_option maxRecDepth 100000 in
theorem gw_T5 {w : Cond} (i : Nat) (h : tables_1_5[i]? = some w) (hg : goodWord w = true) : w ∈ gw := List.mem_filter.mpr ⟨List.mem_append_right _ (List.mem_append_right _ (List.mem_append_right _ (List.mem_append_right _ (List.mem_append_right _ (List.mem_append_left _ (List.mem_of_getElem? h)))))), hg⟩
set_option maxRecDepth 100000 in
theorem nest_T5 {w : Cond} (i : Nat) (h : tables_1_5[i]? = some w) (hg : isNest w = true) : w ∈ nestW := List.mem_filter.mpr ⟨List.mem_append_right _ (List.mem_append_right _ (List.mem_append_right _ (List.mem_append_right _ (List.mem_append_left _ (List.mem_of_getElem? h))))), hg⟩
set_option maxRecDepth 100000 in
theorem gw_T6 {w : Cond} (i : Nat) (h : tables_1_6[i]? = some w) (hg : goodWord w = true) : w ∈ gw := List.mem_filter.mpr ⟨List.mem_append_right _ (List.mem_append_right _ (List.mem_append_right _ (List.mem_append_right _ (List.mem_append_right _ (List.mem_append_right _ (List.mem_append_left _ (List.mem_of_getElem? h))))))), hg⟩
set_option maxRecDepth 100000 in
theorem nest_T6 {w : Cond} (i : Nat) (h : tables_1_6[i]? = some w) (hg : isNest w = true) : w ∈ nestW := List.mem_filter.mpr ⟨List.mem_append_right _ (List.mem_append_right _ (List.mem_append_right _ (List.mem_append_right _ (List.mem_append_right _ (List.mem_append_left _ (List.mem_of_getElem? h)))))), hg⟩
set_option maxRecDepth 100000 in
theorem gw_T7 {w : Cond} (i : Nat) (h : tables_1_7[i]? = some w) (hg : goodWord w = true) : w ∈ gw := List.mem_filter.mpr ⟨List.mem_append_right _ (List.mem_append_right _ (List.mem_append_right _ (List.mem_append_right _ (List.mem_append_right _ (List.mem_append_right _ (List.mem_append_right _ (List.mem_append_left _ (List.mem_of_getElem? h)))))))), hg⟩
set_option maxRecDepth 100000 in
theorem nest_T7 {w : Cond} (i : Nat) (h : tables_1_7[i]? = some w) (hg : isNest w = true) : w ∈ nestW := List.mem_filter.mpr ⟨List.mem_append_right _ (List.mem_append_right _ (List.mem_append_right _ (List.mem_append_right _ (List.mem_append_right _ (List.mem_append_right _ (List.mem_append_left _ (List.mem_of_getElem? h))))))), hg⟩
set_option maxRecDepth 100000 in
theorem gw_T8 {w : Cond} (i : Nat) (h : tables_1_8[i]? = some w) (hg : goodWord w = true) : w ∈ gw := List.mem_filter.mpr ⟨List.mem_append_right _ (List.mem_append_right _ (List.mem_append_right _ (List.mem_append_right _ (List.mem_append_right _ (List.mem_append_right _ (List.mem_append_right _ (List.mem_append_right _ (List.mem_of_getElem? h)))))))), hg⟩
set_option maxRecDepth 100000 in
theorem nest_T8 {w : Cond} (i : Nat) (h : tables_1_8[i]? = some w) (hg : isNest w = true) : w ∈ nestW := List.mem_filter.mpr ⟨List.mem_append_right _ (List.mem_append_right _ (List.mem_append_right _ (List.mem_append_right _ (List.mem_append_right _ (List.mem_append_right _ (List.mem_append_right _ (List.mem_of_getElem? h))))))), hg⟩
set_option maxRecDepth 100000 in
theorem in_L : Cond.initialized RL ∈ gw := gw_T1 0 rfl rfl
set_option maxRecDepth 100000 in
theorem in_X11 : Cond.initialized RX11 ∈ gw := gw_T1 1 rfl rfl
set_option maxRecDepth 100000 in
theorem in_X7 : Cond.initialized RX7 ∈ gw := gw_T1 2 rfl rfl
set_option maxRecDepth 100000 in
theorem in_X0 : Cond.initialized RX0 ∈ gw := gw_T1 3 rfl rfl
set_option maxRecDepth 100000 in
theorem in_X3 : Cond.initialized RX3 ∈ gw := gw_T1 4 rfl rfl
set_option maxRecDepth 100000 in
theorem in_X4 : Cond.initialized RX4 ∈ gw := gw_T1 5 rfl rfl
set_option maxRecDepth 100000 in
theorem in_X8 : Cond.initialized RX8 ∈ gw := gw_T1 6 rfl rfl
set_option maxRecDepth 100000 in
theorem in_X9 : Cond.initialized RX9 ∈ gw := gw_T1 7 rfl rfl
set_option maxRecDepth 100000 in
theorem in_J0 : Cond.initialized RJ0 ∈ gw := gw_T1 8 rfl rfl
set_option maxRecDepth 100000 in
theorem in_J1 : Cond.initialized RJ1 ∈ gw := gw_T1 9 rfl rfl
set_option maxRecDepth 100000 in
theorem in_J3 : Cond.initialized RJ3 ∈ gw := gw_T1 10 rfl rfl
set_option maxRecDepth 100000 in
theorem in_J2 : Cond.initialized RJ2 ∈ gw := gw_T1 11 rfl rfl
set_option maxRecDepth 100000 in
theorem in_X6 : Cond.initialized RX6 ∈ gw := gw_T1 12 rfl rfl
set_option maxRecDepth 100000 in
theorem in_X2 : Cond.initialized RX2 ∈ gw := gw_T1 13 rfl rfl
set_option maxRecDepth 100000 in
theorem in_X10 : Cond.initialized RX10 ∈ gw := gw_T1 14 rfl rfl
set_option maxRecDepth 100000 in
theorem in_X1 : Cond.initialized RX1 ∈ gw := gw_T1 15 rfl rfl
set_option maxRecDepth 100000 in
theorem in_X5 : Cond.initialized RX5 ∈ gw := gw_T1 16 rfl rfl
set_option maxRecDepth 100000 in
theorem in_X12 : Cond.initialized RX12 ∈ gw := gw_T1 17 rfl rfl
set_option maxRecDepth 100000 in
theorem in_J7 : Cond.initialized RJ7 ∈ gw := gw_T1 18 rfl rfl
set_option maxRecDepth 100000 in
theorem in_J9 : Cond.initialized RJ9 ∈ gw := gw_T1 19 rfl rfl
set_option maxRecDepth 100000 in
theorem in_J10 : Cond.initialized RJ10 ∈ gw := gw_T1 20 rfl rfl
set_option maxRecDepth 100000 in
theorem in_J6 : Cond.initialized RJ6 ∈ gw := gw_T1 21 rfl rfl
set_option maxRecDepth 100000 in
theorem is_X11 : Cond.instantiable RX11 15 ∈ gw := gw_T1 23 rfl rfl
set_option maxRecDepth 100000 in
theorem is_X7 : Cond.instantiable RX7 15 ∈ gw := gw_T1 31 rfl rfl
set_option maxRecDepth 100000 in
theorem is_X0 : Cond.instantiable RX0 6 ∈ gw := gw_T1 37 rfl rfl
set_option maxRecDepth 100000 in
theorem is_X3 : Cond.instantiable RX3 4 ∈ gw := gw_T1 43 rfl rfl
set_option maxRecDepth 100000 in
theorem is_X4 : Cond.instantiable RX4 4 ∈ gw := gw_T1 71 rfl rfl
set_option maxRecDepth 100000 in
theorem is_X8 : Cond.instantiable RX8 7 ∈ gw := gw_T1 119 rfl rfl
set_option maxRecDepth 100000 in
theorem is_X9 : Cond.instantiable RX9 7 ∈ gw := gw_T1 163 rfl rfl
set_option maxRecDepth 100000 in
theorem is_X6 : Cond.instantiable RX6 3 ∈ gw := gw_T2 59 rfl rfl
set_option maxRecDepth 100000 in
theorem is_X2 : Cond.instantiable RX2 3 ∈ gw := gw_T2 79 rfl rfl
set_option maxRecDepth 100000 in
theorem is_X10 : Cond.instantiable RX10 7 ∈ gw := gw_T2 97 rfl rfl
set_option maxRecDepth 100000 in
theorem is_X1 : Cond.instantiable RX1 5 ∈ gw := gw_T2 127 rfl rfl
set_option maxRecDepth 100000 in
theorem is_X5 : Cond.instantiable RX5 4 ∈ gw := gw_T2 149 rfl rfl
set_option maxRecDepth 100000 in
theorem is_X12 : Cond.instantiable RX12 70 ∈ gw := gw_T5 187 rfl rfl
set_option maxRecDepth 100000 in
theorem in_by {C : String} {T : u_T} {N : Nat} (ps : List Nat) (hp : u_ws C T N = ps.filterMap (fun i => tables_1[i]?)) (h : (u_ws C T N).all goodWord = true) : ∀ w ∈ u_ws C T N, w ∈ gw := by
  intro w hw
  have h1 := List.all_eq_true.mp h w hw
  rw [hp] at hw
  obtain ⟨i, -, hi⟩ := List.mem_filterMap.mp hw
  exact gw_T i hi h1
set_option maxRecDepth 100000 in
theorem okC_0 : okC 0 RX0 TX0 6 := ⟨rfl, rfl, in_by [105, 107, 109, 111, 113, 115] (by decide +kernel) (by decide +kernel), tyX0_ok, nmX0, by decide +kernel⟩
set_option maxRecDepth 100000 in
theorem okC_1 : okC 1 RX1 TX1 5 := ⟨rfl, rfl, in_by [377, 379, 381, 383, 385] (by decide +kernel) (by decide +kernel), tyX1_ok, nmX1, by decide +kernel⟩
set_option maxRecDepth 100000 in
theorem okC_2 : okC 2 RX2 TX2 3 := ⟨rfl, rfl, in_by [328, 330, 332] (by decide +kernel) (by decide +kernel), tyX2_ok, nmX2, by decide +kernel⟩
set_option maxRecDepth 100000 in
theorem okC_3 : okC 3 RX3 TX3 4 := ⟨rfl, rfl, in_by [60, 62, 64, 66] (by decide +kernel) (by decide +kernel), tyX3_ok, nmX3, by decide +kernel⟩
set_option maxRecDepth 100000 in
theorem okC_4 : okC 4 RX4 TX4 4 := ⟨rfl, rfl, in_by [80, 82, 84, 86] (by decide +kernel) (by decide +kernel), tyX4_ok, nmX4, by decide +kernel⟩
set_option maxRecDepth 100000 in
theorem okC_5 : okC 5 RX5 TX5 4 := ⟨rfl, rfl, in_by [400, 402, 404, 406] (by decide +kernel) (by decide +kernel), tyX5_ok, nmX5, by decide +kernel⟩
set_option maxRecDepth 100000 in
theorem okC_6 : okC 6 RX6 TX6 3 := ⟨rfl, rfl, in_by [311, 313, 315] (by decide +kernel) (by decide +kernel), tyX6_ok, nmX6, by decide +kernel⟩
set_option maxRecDepth 100000 in
theorem okC_7 : okC 7 RX7 TX7 15 := ⟨rfl, rfl, in_by [263, 265, 267, 269, 271, 273, 275, 277, 279, 281, 283, 285, 287, 289, 291] (by decide +kernel) (by decide +kernel), tyX7_ok, nmX7, by decide +kernel⟩
set_option maxRecDepth 100000 in
theorem okC_8 : okC 8 RX8 TX8 7 := ⟨rfl, rfl, in_by [147, 149, 151, 153, 155, 157, 159] (by decide +kernel) (by decide +kernel), tyX8_ok, nmX8, by decide +kernel⟩
set_option maxRecDepth 100000 in
theorem okC_9 : okC 9 RX9 TX9 7 := ⟨rfl, rfl, in_by [228, 230, 232, 234, 236, 238, 240] (by decide +kernel) (by decide +kernel), tyX9_ok, nmX9, by decide +kernel⟩
set_option maxRecDepth 100000 in
theorem okC_10 : okC 10 RX10 TX10 7 := ⟨rfl, rfl, in_by [351, 353, 355, 357, 359, 361, 363] (by decide +kernel) (by decide +kernel), tyX10_ok, nmX10, by decide +kernel⟩
set_option maxRecDepth 100000 in
theorem okC_11 : okC 11 RX11 TX11 15 := ⟨rfl, rfl, in_by [444, 446, 448, 450, 452, 454, 456, 458, 460, 462, 464, 466, 468, 470, 472] (by decide +kernel) (by decide +kernel), tyX11_ok, nmX11, by decide +kernel⟩
set_option maxRecDepth 100000 in
theorem okC_12 : okC 12 RX12 TX12 70 := ⟨rfl, rfl, in_by [1252, 1254, 1256, 1258, 1260, 1262, 1264, 1266, 1268, 1270, 1272, 1274, 1276, 1278, 1280, 1282, 1284, 1286, 1288, 1290, 1292, 1294, 1296, 1298, 1300, 1302, 1304, 1306, 1308, 1310, 1312, 1314, 1316, 1318, 1320, 1322, 1324, 1326, 1328, 1330, 1332, 1334, 1336, 1338, 1340, 1342, 1344, 1346, 1348, 1350, 1352, 1354, 1356, 1358, 1360, 1362, 1364, 1366, 1368, 1370, 1372, 1374, 1376, 1378, 1380, 1382, 1384, 1386, 1388, 1390] (by decide +kernel) (by decide +kernel), tyX12_ok, nmX12, by decide +kernel⟩
set_option maxRecDepth 100000 in
theorem ok_J0_charAt_5068e : okM mJ0_charAt_5068e := ⟨gw_T1 182 rfl rfl, in_J0, by decide +kernel, by decide +kernel, by decide +kernel, by decide +kernel⟩
set_option maxRecDepth 100000 in
theorem im_J0_charAt_5068e : Cond.instanceMethod yJ0_charAt_5068e ∈ gw := gw_T1 180 rfl rfl
set_option maxRecDepth 100000 in
theorem se_J0_charAt_5068e : Cond.selects RJ0 yJ0_charAt_5068e yJ0_charAt_5068e ∈ gw := gw_T1 181 rfl rfl
set_option maxRecDepth 100000 in
theorem ok_J0_checkIndex_df160 : okM mJ0_checkIndex_df160 := ⟨gw_T1 192 rfl rfl, in_J0, by decide +kernel, by decide +kernel, by decide +kernel, by decide +kernel⟩
set_option maxRecDepth 100000 in
theorem sm_J0_checkIndex_df160 : Cond.static yJ0_checkIndex_df160 ∈ gw := gw_T1 191 rfl rfl
set_option maxRecDepth 100000 in
theorem ok_J0_coder_7d493 : okM mJ0_coder_7d493 := ⟨gw_T1 176 rfl rfl, in_J0, by decide +kernel, by decide +kernel, by decide +kernel, by decide +kernel⟩
set_option maxRecDepth 100000 in
theorem im_J0_coder_7d493 : Cond.instanceMethod yJ0_coder_7d493 ∈ gw := gw_T1 174 rfl rfl
set_option maxRecDepth 100000 in
theorem se_J0_coder_7d493 : Cond.selects RJ0 yJ0_coder_7d493 yJ0_coder_7d493 ∈ gw := gw_T1 175 rfl rfl
set_option maxRecDepth 100000 in
theorem ok_J0_isLatin1_aae02 : okM mJ0_isLatin1_aae02 := ⟨gw_T1 186 rfl rfl, in_J0, by decide +kernel, by decide +kernel, by decide +kernel, by decide +kernel⟩
set_option maxRecDepth 100000 in
theorem im_J0_isLatin1_aae02 : Cond.instanceMethod yJ0_isLatin1_aae02 ∈ gw := gw_T1 184 rfl rfl
set_option maxRecDepth 100000 in
theorem se_J0_isLatin1_aae02 : Cond.selects RJ0 yJ0_isLatin1_aae02 yJ0_isLatin1_aae02 ∈ gw := gw_T1 185 rfl rfl
set_option maxRecDepth 100000 in
theorem ok_J0_length_8abf5 : okM mJ0_length_8abf5 := ⟨gw_T1 172 rfl rfl, in_J0, by decide +kernel, by decide +kernel, by decide +kernel, by decide +kernel⟩
set_option maxRecDepth 100000 in
theorem im_J0_length_8abf5 : Cond.instanceMethod yJ0_length_8abf5 ∈ gw := gw_T1 170 rfl rfl
set_option maxRecDepth 100000 in
theorem se_J0_length_8abf5 : Cond.selects RJ0 yJ0_length_8abf5 yJ0_length_8abf5 ∈ gw := gw_T1 171 rfl rfl
set_option maxRecDepth 100000 in
theorem ok_J1_charAt_3b067 : okM mJ1_charAt_3b067 := ⟨gw_T1 189 rfl rfl, in_J1, by decide +kernel, by decide +kernel, by decide +kernel, by decide +kernel⟩
set_option maxRecDepth 100000 in
theorem sm_J1_charAt_3b067 : Cond.static yJ1_charAt_3b067 ∈ gw := gw_T1 188 rfl rfl
set_option maxRecDepth 100000 in
theorem ok_J2_charAt_3b067 : okM mJ2_charAt_3b067 := ⟨gw_T1 200 rfl rfl, in_J2, by decide +kernel, by decide +kernel, by decide +kernel, by decide +kernel⟩
set_option maxRecDepth 100000 in
theorem sm_J2_charAt_3b067 : Cond.static yJ2_charAt_3b067 ∈ gw := gw_T1 199 rfl rfl
set_option maxRecDepth 100000 in
theorem ok_J2_checkIndex_2214a : okM mJ2_checkIndex_2214a := ⟨gw_T1 203 rfl rfl, in_J2, by decide +kernel, by decide +kernel, by decide +kernel, by decide +kernel⟩
set_option maxRecDepth 100000 in
theorem sm_J2_checkIndex_2214a : Cond.static yJ2_checkIndex_2214a ∈ gw := gw_T1 202 rfl rfl
set_option maxRecDepth 100000 in
theorem ok_J2_getChar_3b067 : okM mJ2_getChar_3b067 := ⟨gw_T1 210 rfl rfl, in_J2, by decide +kernel, by decide +kernel, by decide +kernel, by decide +kernel⟩
set_option maxRecDepth 100000 in
theorem sm_J2_getChar_3b067 : Cond.static yJ2_getChar_3b067 ∈ gw := gw_T1 209 rfl rfl
set_option maxRecDepth 100000 in
theorem ok_J2_length_9d52b : okM mJ2_length_9d52b := ⟨gw_T1 206 rfl rfl, in_J2, by decide +kernel, by decide +kernel, by decide +kernel, by decide +kernel⟩
set_option maxRecDepth 100000 in
theorem sm_J2_length_9d52b : Cond.static yJ2_length_9d52b ∈ gw := gw_T1 205 rfl rfl
set_option maxRecDepth 100000 in
theorem ok_J3_checkIndex_8e157 : okM mJ3_checkIndex_8e157 := ⟨gw_T1 197 rfl rfl, in_J3, by decide +kernel, by decide +kernel, by decide +kernel, by decide +kernel⟩
set_option maxRecDepth 100000 in
theorem sm_J3_checkIndex_8e157 : Cond.static yJ3_checkIndex_8e157 ∈ gw := gw_T1 196 rfl rfl
set_option maxRecDepth 100000 in
theorem ok_J6_bitCount_0f7a4 : okM mJ6_bitCount_0f7a4 := ⟨gw_T4 25 rfl rfl, in_J6, by decide +kernel, by decide +kernel, by decide +kernel, by decide +kernel⟩
set_option maxRecDepth 100000 in
theorem sm_J6_bitCount_0f7a4 : Cond.static yJ6_bitCount_0f7a4 ∈ gw := gw_T4 24 rfl rfl
set_option maxRecDepth 100000 in
theorem ok_J7_fill_53178 : okM mJ7_fill_53178 := ⟨gw_T3 26 rfl rfl, in_J7, by decide +kernel, by decide +kernel, by decide +kernel, by decide +kernel⟩
set_option maxRecDepth 100000 in
theorem sm_J7_fill_53178 : Cond.static yJ7_fill_53178 ∈ gw := gw_T3 25 rfl rfl
set_option maxRecDepth 100000 in
theorem cw_J9_abs_0f7a4 : Cond.code yJ9_abs_0f7a4 cJ9_abs_0f7a4 1 (some .int) ∈ gw := gw_T5 142 rfl rfl
set_option maxRecDepth 100000 in
theorem sm_J9_abs_0f7a4 : Cond.static yJ9_abs_0f7a4 ∈ gw := gw_T5 141 rfl rfl
set_option maxRecDepth 100000 in
theorem cw_J9_floorMod_7cf53 : Cond.code yJ9_floorMod_7cf53 cJ9_floorMod_7cf53 3 (some .int) ∈ gw := gw_T4 236 rfl rfl
set_option maxRecDepth 100000 in
theorem sm_J9_floorMod_7cf53 : Cond.static yJ9_floorMod_7cf53 ∈ gw := gw_T4 235 rfl rfl
set_option maxRecDepth 100000 in
theorem cw_J9_max_7cf53 : Cond.code yJ9_max_7cf53 cJ9_max_7cf53 2 (some .int) ∈ gw := gw_T3 37 rfl rfl
set_option maxRecDepth 100000 in
theorem sm_J9_max_7cf53 : Cond.static yJ9_max_7cf53 ∈ gw := gw_T3 36 rfl rfl
set_option maxRecDepth 100000 in
theorem cw_J9_min_7cf53 : Cond.code yJ9_min_7cf53 cJ9_min_7cf53 2 (some .int) ∈ gw := gw_T3 34 rfl rfl
set_option maxRecDepth 100000 in
theorem sm_J9_min_7cf53 : Cond.static yJ9_min_7cf53 ∈ gw := gw_T3 33 rfl rfl
set_option maxRecDepth 100000 in
theorem ok_X0_ask : okM mX0_ask := ⟨gw_T4 13 rfl rfl, in_X0, by decide +kernel, by decide +kernel, by decide +kernel, by decide +kernel⟩
set_option maxRecDepth 100000 in
theorem im_X0_ask : Cond.instanceMethod yX0_ask ∈ gw := gw_T4 12 rfl rfl
set_option maxRecDepth 100000 in
theorem se_X0_ask : Cond.selects RX0 yX0_ask yX0_ask ∈ gw := gw_S 27 rfl rfl
set_option maxRecDepth 100000 in
theorem ok_X0_become : okM mX0_become := ⟨gw_T3 182 rfl rfl, in_X0, by decide +kernel, by decide +kernel, by decide +kernel, by decide +kernel⟩
set_option maxRecDepth 100000 in
theorem im_X0_become : Cond.instanceMethod yX0_become ∈ gw := gw_T3 180 rfl rfl
set_option maxRecDepth 100000 in
theorem se_X0_become : Cond.selects RX0 yX0_become yX0_become ∈ gw := gw_T3 181 rfl rfl
set_option maxRecDepth 100000 in
theorem ok_X0_canSpread : okM mX0_canSpread := ⟨gw_T5 112 rfl rfl, in_X0, by decide +kernel, by decide +kernel, by decide +kernel, by decide +kernel⟩
set_option maxRecDepth 100000 in
theorem im_X0_canSpread : Cond.instanceMethod yX0_canSpread ∈ gw := gw_T5 111 rfl rfl
set_option maxRecDepth 100000 in
theorem se_X0_canSpread : Cond.selects RX0 yX0_canSpread yX0_canSpread ∈ gw := gw_S 44 rfl rfl
set_option maxRecDepth 100000 in
theorem ok_X0_clear : okM mX0_clear := ⟨gw_T2 172 rfl rfl, in_X0, by decide +kernel, by decide +kernel, by decide +kernel, by decide +kernel⟩
set_option maxRecDepth 100000 in
theorem im_X0_clear : Cond.instanceMethod yX0_clear ∈ gw := gw_T2 170 rfl rfl
set_option maxRecDepth 100000 in
theorem se_X0_clear : Cond.selects RX0 yX0_clear yX0_clear ∈ gw := gw_T2 171 rfl rfl
set_option maxRecDepth 100000 in
theorem ok_X0_costOf : okM mX0_costOf := ⟨gw_T4 9 rfl rfl, in_X0, by decide +kernel, by decide +kernel, by decide +kernel, by decide +kernel⟩
set_option maxRecDepth 100000 in
theorem im_X0_costOf : Cond.instanceMethod yX0_costOf ∈ gw := gw_T4 7 rfl rfl
set_option maxRecDepth 100000 in
theorem se_X0_costOf : Cond.selects RX0 yX0_costOf yX0_costOf ∈ gw := gw_T4 8 rfl rfl
set_option maxRecDepth 100000 in
theorem ok_X0_goOn : okM mX0_goOn := ⟨gw_T4 123 rfl rfl, in_X0, by decide +kernel, by decide +kernel, by decide +kernel, by decide +kernel⟩
set_option maxRecDepth 100000 in
theorem im_X0_goOn : Cond.instanceMethod yX0_goOn ∈ gw := gw_T4 121 rfl rfl
set_option maxRecDepth 100000 in
theorem se_X0_goOn : Cond.selects RX0 yX0_goOn yX0_goOn ∈ gw := gw_T4 122 rfl rfl
set_option maxRecDepth 100000 in
theorem ok_X0_hasGoer : okM mX0_hasGoer := ⟨gw_T4 49 rfl rfl, in_X0, by decide +kernel, by decide +kernel, by decide +kernel, by decide +kernel⟩
set_option maxRecDepth 100000 in
theorem im_X0_hasGoer : Cond.instanceMethod yX0_hasGoer ∈ gw := gw_T4 47 rfl rfl
set_option maxRecDepth 100000 in
theorem se_X0_hasGoer : Cond.selects RX0 yX0_hasGoer yX0_hasGoer ∈ gw := gw_T4 48 rfl rfl
set_option maxRecDepth 100000 in
theorem ok_X0_init : okM mX0_init := ⟨gw_T1 40 rfl rfl, in_X0, by decide +kernel, by decide +kernel, by decide +kernel, by decide +kernel⟩
set_option maxRecDepth 100000 in
theorem im_X0_init : Cond.instanceMethod yX0_init ∈ gw := gw_T1 39 rfl rfl
set_option maxRecDepth 100000 in
theorem ok_X0_isWet : okM mX0_isWet := ⟨gw_T4 142 rfl rfl, in_X0, by decide +kernel, by decide +kernel, by decide +kernel, by decide +kernel⟩
set_option maxRecDepth 100000 in
theorem im_X0_isWet : Cond.instanceMethod yX0_isWet ∈ gw := gw_T4 141 rfl rfl
set_option maxRecDepth 100000 in
theorem se_X0_isWet : Cond.selects RX0 yX0_isWet yX0_isWet ∈ gw := gw_S 33 rfl rfl
set_option maxRecDepth 100000 in
theorem ok_X0_lot : okM mX0_lot := ⟨gw_T4 145 rfl rfl, in_X0, by decide +kernel, by decide +kernel, by decide +kernel, by decide +kernel⟩
set_option maxRecDepth 100000 in
theorem sm_X0_lot : Cond.static yX0_lot ∈ gw := gw_T4 144 rfl rfl
set_option maxRecDepth 100000 in
theorem ok_X0_soak : okM mX0_soak := ⟨gw_T5 108 rfl rfl, in_X0, by decide +kernel, by decide +kernel, by decide +kernel, by decide +kernel⟩
set_option maxRecDepth 100000 in
theorem im_X0_soak : Cond.instanceMethod yX0_soak ∈ gw := gw_T5 106 rfl rfl
set_option maxRecDepth 100000 in
theorem se_X0_soak : Cond.selects RX0 yX0_soak yX0_soak ∈ gw := gw_T5 107 rfl rfl
set_option maxRecDepth 100000 in
theorem ok_X0_spread : okM mX0_spread := ⟨gw_T4 133 rfl rfl, in_X0, by decide +kernel, by decide +kernel, by decide +kernel, by decide +kernel⟩
set_option maxRecDepth 100000 in
theorem im_X0_spread : Cond.instanceMethod yX0_spread ∈ gw := gw_T4 132 rfl rfl
set_option maxRecDepth 100000 in
theorem se_X0_spread : Cond.selects RX0 yX0_spread yX0_spread ∈ gw := gw_S 32 rfl rfl
set_option maxRecDepth 100000 in
theorem ok_X0_stirred : okM mX0_stirred := ⟨gw_T4 148 rfl rfl, in_X0, by decide +kernel, by decide +kernel, by decide +kernel, by decide +kernel⟩
set_option maxRecDepth 100000 in
theorem sm_X0_stirred : Cond.static yX0_stirred ∈ gw := gw_T4 147 rfl rfl
set_option maxRecDepth 100000 in
theorem ok_X0_walk : okM mX0_walk := ⟨gw_T4 127 rfl rfl, in_X0, by decide +kernel, by decide +kernel, by decide +kernel, by decide +kernel⟩
set_option maxRecDepth 100000 in
theorem im_X0_walk : Cond.instanceMethod yX0_walk ∈ gw := gw_T4 125 rfl rfl
set_option maxRecDepth 100000 in
theorem se_X0_walk : Cond.selects RX0 yX0_walk yX0_walk ∈ gw := gw_T4 126 rfl rfl
set_option maxRecDepth 100000 in
theorem ok_X0_whereTo : okM mX0_whereTo := ⟨gw_T4 53 rfl rfl, in_X0, by decide +kernel, by decide +kernel, by decide +kernel, by decide +kernel⟩
set_option maxRecDepth 100000 in
theorem im_X0_whereTo : Cond.instanceMethod yX0_whereTo ∈ gw := gw_T4 51 rfl rfl
set_option maxRecDepth 100000 in
theorem se_X0_whereTo : Cond.selects RX0 yX0_whereTo yX0_whereTo ∈ gw := gw_T4 52 rfl rfl
set_option maxRecDepth 100000 in
theorem ok_X10_bestWait : okM mX10_bestWait := ⟨gw_T5 13 rfl rfl, in_X10, by decide +kernel, by decide +kernel, by decide +kernel, by decide +kernel⟩
set_option maxRecDepth 100000 in
theorem im_X10_bestWait : Cond.instanceMethod yX10_bestWait ∈ gw := gw_T5 11 rfl rfl
set_option maxRecDepth 100000 in
theorem se_X10_bestWait : Cond.selects RX10 yX10_bestWait yX10_bestWait ∈ gw := gw_T5 12 rfl rfl
set_option maxRecDepth 100000 in
theorem ok_X10_cellOnWay : okM mX10_cellOnWay := ⟨gw_T5 0 rfl rfl, in_X10, by decide +kernel, by decide +kernel, by decide +kernel, by decide +kernel⟩
set_option maxRecDepth 100000 in
theorem im_X10_cellOnWay : Cond.instanceMethod yX10_cellOnWay ∈ gw := gw_T4 238 rfl rfl
set_option maxRecDepth 100000 in
theorem se_X10_cellOnWay : Cond.selects RX10 yX10_cellOnWay yX10_cellOnWay ∈ gw := gw_T4 239 rfl rfl
set_option maxRecDepth 100000 in
theorem ok_X10_fewest : okM mX10_fewest := ⟨gw_T4 221 rfl rfl, in_X10, by decide +kernel, by decide +kernel, by decide +kernel, by decide +kernel⟩
set_option maxRecDepth 100000 in
theorem im_X10_fewest : Cond.instanceMethod yX10_fewest ∈ gw := gw_T4 219 rfl rfl
set_option maxRecDepth 100000 in
theorem se_X10_fewest : Cond.selects RX10 yX10_fewest yX10_fewest ∈ gw := gw_T4 220 rfl rfl
set_option maxRecDepth 100000 in
theorem ok_X10_fewestMown : okM mX10_fewestMown := ⟨gw_T5 22 rfl rfl, in_X10, by decide +kernel, by decide +kernel, by decide +kernel, by decide +kernel⟩
set_option maxRecDepth 100000 in
theorem im_X10_fewestMown : Cond.instanceMethod yX10_fewestMown ∈ gw := gw_T5 20 rfl rfl
set_option maxRecDepth 100000 in
theorem se_X10_fewestMown : Cond.selects RX10 yX10_fewestMown yX10_fewestMown ∈ gw := gw_T5 21 rfl rfl
set_option maxRecDepth 100000 in
theorem ok_X10_findMeeting : okM mX10_findMeeting := ⟨gw_T5 35 rfl rfl, in_X10, by decide +kernel, by decide +kernel, by decide +kernel, by decide +kernel⟩
set_option maxRecDepth 100000 in
theorem im_X10_findMeeting : Cond.instanceMethod yX10_findMeeting ∈ gw := gw_T5 33 rfl rfl
set_option maxRecDepth 100000 in
theorem se_X10_findMeeting : Cond.selects RX10 yX10_findMeeting yX10_findMeeting ∈ gw := gw_T5 34 rfl rfl
set_option maxRecDepth 100000 in
theorem ok_X10_init : okM mX10_init := ⟨gw_T2 100 rfl rfl, in_X10, by decide +kernel, by decide +kernel, by decide +kernel, by decide +kernel⟩
set_option maxRecDepth 100000 in
theorem im_X10_init : Cond.instanceMethod yX10_init ∈ gw := gw_T2 99 rfl rfl
set_option maxRecDepth 100000 in
theorem ok_X10_look : okM mX10_look := ⟨gw_T4 213 rfl rfl, in_X10, by decide +kernel, by decide +kernel, by decide +kernel, by decide +kernel⟩
set_option maxRecDepth 100000 in
theorem im_X10_look : Cond.instanceMethod yX10_look ∈ gw := gw_T4 211 rfl rfl
set_option maxRecDepth 100000 in
theorem se_X10_look : Cond.selects RX10 yX10_look yX10_look ∈ gw := gw_T4 212 rfl rfl
set_option maxRecDepth 100000 in
theorem ok_X10_lookBack : okM mX10_lookBack := ⟨gw_T5 4 rfl rfl, in_X10, by decide +kernel, by decide +kernel, by decide +kernel, by decide +kernel⟩
set_option maxRecDepth 100000 in
theorem im_X10_lookBack : Cond.instanceMethod yX10_lookBack ∈ gw := gw_T5 3 rfl rfl
set_option maxRecDepth 100000 in
theorem se_X10_lookBack : Cond.selects RX10 yX10_lookBack yX10_lookBack ∈ gw := gw_S 37 rfl rfl
set_option maxRecDepth 100000 in
theorem ok_X10_mownBy : okM mX10_mownBy := ⟨gw_T5 27 rfl rfl, in_X10, by decide +kernel, by decide +kernel, by decide +kernel, by decide +kernel⟩
set_option maxRecDepth 100000 in
theorem im_X10_mownBy : Cond.instanceMethod yX10_mownBy ∈ gw := gw_T5 26 rfl rfl
set_option maxRecDepth 100000 in
theorem se_X10_mownBy : Cond.selects RX10 yX10_mownBy yX10_mownBy ∈ gw := gw_S 38 rfl rfl
set_option maxRecDepth 100000 in
theorem ok_X10_onwards : okM mX10_onwards := ⟨gw_T4 225 rfl rfl, in_X10, by decide +kernel, by decide +kernel, by decide +kernel, by decide +kernel⟩
set_option maxRecDepth 100000 in
theorem im_X10_onwards : Cond.instanceMethod yX10_onwards ∈ gw := gw_T4 224 rfl rfl
set_option maxRecDepth 100000 in
theorem se_X10_onwards : Cond.selects RX10 yX10_onwards yX10_onwards ∈ gw := gw_S 35 rfl rfl
set_option maxRecDepth 100000 in
theorem ok_X10_quietAt : okM mX10_quietAt := ⟨gw_T4 233 rfl rfl, in_X10, by decide +kernel, by decide +kernel, by decide +kernel, by decide +kernel⟩
set_option maxRecDepth 100000 in
theorem im_X10_quietAt : Cond.instanceMethod yX10_quietAt ∈ gw := gw_T4 232 rfl rfl
set_option maxRecDepth 100000 in
theorem se_X10_quietAt : Cond.selects RX10 yX10_quietAt yX10_quietAt ∈ gw := gw_S 36 rfl rfl
set_option maxRecDepth 100000 in
theorem ok_X11_back : okM mX11_back := ⟨gw_T3 6 rfl rfl, in_X11, by decide +kernel, by decide +kernel, by decide +kernel, by decide +kernel⟩
set_option maxRecDepth 100000 in
theorem im_X11_back : Cond.instanceMethod yX11_back ∈ gw := gw_T3 4 rfl rfl
set_option maxRecDepth 100000 in
theorem se_X11_back : Cond.selects RX11 yX11_back yX11_back ∈ gw := gw_T3 5 rfl rfl
set_option maxRecDepth 100000 in
theorem ok_X11_beats : okM mX11_beats := ⟨gw_T4 116 rfl rfl, in_X11, by decide +kernel, by decide +kernel, by decide +kernel, by decide +kernel⟩
set_option maxRecDepth 100000 in
theorem im_X11_beats : Cond.instanceMethod yX11_beats ∈ gw := gw_T4 114 rfl rfl
set_option maxRecDepth 100000 in
theorem se_X11_beats : Cond.selects RX11 yX11_beats yX11_beats ∈ gw := gw_T4 115 rfl rfl
set_option maxRecDepth 100000 in
theorem ok_X11_carry : okM mX11_carry := ⟨gw_T4 112 rfl rfl, in_X11, by decide +kernel, by decide +kernel, by decide +kernel, by decide +kernel⟩
set_option maxRecDepth 100000 in
theorem im_X11_carry : Cond.instanceMethod yX11_carry ∈ gw := gw_T4 110 rfl rfl
set_option maxRecDepth 100000 in
theorem se_X11_carry : Cond.selects RX11 yX11_carry yX11_carry ∈ gw := gw_T4 111 rfl rfl
set_option maxRecDepth 100000 in
theorem ok_X11_cell : okM mX11_cell := ⟨gw_T3 214 rfl rfl, in_X11, by decide +kernel, by decide +kernel, by decide +kernel, by decide +kernel⟩
set_option maxRecDepth 100000 in
theorem im_X11_cell : Cond.instanceMethod yX11_cell ∈ gw := gw_T3 212 rfl rfl
set_option maxRecDepth 100000 in
theorem se_X11_cell : Cond.selects RX11 yX11_cell yX11_cell ∈ gw := gw_T3 213 rfl rfl
set_option maxRecDepth 100000 in
theorem ok_X11_centre : okM mX11_centre := ⟨gw_T5 79 rfl rfl, in_X11, by decide +kernel, by decide +kernel, by decide +kernel, by decide +kernel⟩
set_option maxRecDepth 100000 in
theorem im_X11_centre : Cond.instanceMethod yX11_centre ∈ gw := gw_T5 77 rfl rfl
set_option maxRecDepth 100000 in
theorem se_X11_centre : Cond.selects RX11 yX11_centre yX11_centre ∈ gw := gw_T5 78 rfl rfl
set_option maxRecDepth 100000 in
theorem ok_X11_chorus : okM mX11_chorus := ⟨gw_T4 193 rfl rfl, in_X11, by decide +kernel, by decide +kernel, by decide +kernel, by decide +kernel⟩
set_option maxRecDepth 100000 in
theorem im_X11_chorus : Cond.instanceMethod yX11_chorus ∈ gw := gw_T4 191 rfl rfl
set_option maxRecDepth 100000 in
theorem se_X11_chorus : Cond.selects RX11 yX11_chorus yX11_chorus ∈ gw := gw_T4 192 rfl rfl
set_option maxRecDepth 100000 in
theorem ok_X11_costsOfTunes : okM mX11_costsOfTunes := ⟨gw_T4 86 rfl rfl, in_X11, by decide +kernel, by decide +kernel, by decide +kernel, by decide +kernel⟩
set_option maxRecDepth 100000 in
theorem im_X11_costsOfTunes : Cond.instanceMethod yX11_costsOfTunes ∈ gw := gw_T4 85 rfl rfl
set_option maxRecDepth 100000 in
theorem se_X11_costsOfTunes : Cond.selects RX11 yX11_costsOfTunes yX11_costsOfTunes ∈ gw := gw_S 30 rfl rfl
set_option maxRecDepth 100000 in
theorem ok_X11_count : okM mX11_count := ⟨gw_T4 65 rfl rfl, in_X11, by decide +kernel, by decide +kernel, by decide +kernel, by decide +kernel⟩
set_option maxRecDepth 100000 in
theorem im_X11_count : Cond.instanceMethod yX11_count ∈ gw := gw_T4 63 rfl rfl
set_option maxRecDepth 100000 in
theorem se_X11_count : Cond.selects RX11 yX11_count yX11_count ∈ gw := gw_T4 64 rfl rfl
set_option maxRecDepth 100000 in
theorem ok_X11_everMoved : okM mX11_everMoved := ⟨gw_T4 90 rfl rfl, in_X11, by decide +kernel, by decide +kernel, by decide +kernel, by decide +kernel⟩
set_option maxRecDepth 100000 in
theorem im_X11_everMoved : Cond.instanceMethod yX11_everMoved ∈ gw := gw_T4 89 rfl rfl
set_option maxRecDepth 100000 in
theorem se_X11_everMoved : Cond.selects RX11 yX11_everMoved yX11_everMoved ∈ gw := gw_S 31 rfl rfl
set_option maxRecDepth 100000 in
theorem ok_X11_far : okM mX11_far := ⟨gw_T5 70 rfl rfl, in_X11, by decide +kernel, by decide +kernel, by decide +kernel, by decide +kernel⟩
set_option maxRecDepth 100000 in
theorem im_X11_far : Cond.instanceMethod yX11_far ∈ gw := gw_T5 68 rfl rfl
set_option maxRecDepth 100000 in
theorem se_X11_far : Cond.selects RX11 yX11_far yX11_far ∈ gw := gw_T5 69 rfl rfl
set_option maxRecDepth 100000 in
theorem ok_X11_feed : okM mX11_feed := ⟨gw_T2 238 rfl rfl, in_X11, by decide +kernel, by decide +kernel, by decide +kernel, by decide +kernel⟩
set_option maxRecDepth 100000 in
theorem im_X11_feed : Cond.instanceMethod yX11_feed ∈ gw := gw_T2 236 rfl rfl
set_option maxRecDepth 100000 in
theorem se_X11_feed : Cond.selects RX11 yX11_feed yX11_feed ∈ gw := gw_T2 237 rfl rfl
set_option maxRecDepth 100000 in
theorem ok_X11_fits : okM mX11_fits := ⟨gw_T5 160 rfl rfl, in_X11, by decide +kernel, by decide +kernel, by decide +kernel, by decide +kernel⟩
set_option maxRecDepth 100000 in
theorem im_X11_fits : Cond.instanceMethod yX11_fits ∈ gw := gw_T5 158 rfl rfl
set_option maxRecDepth 100000 in
theorem se_X11_fits : Cond.selects RX11 yX11_fits yX11_fits ∈ gw := gw_T5 159 rfl rfl
set_option maxRecDepth 100000 in
theorem ok_X11_forget : okM mX11_forget := ⟨gw_T5 156 rfl rfl, in_X11, by decide +kernel, by decide +kernel, by decide +kernel, by decide +kernel⟩
set_option maxRecDepth 100000 in
theorem im_X11_forget : Cond.instanceMethod yX11_forget ∈ gw := gw_T5 154 rfl rfl
set_option maxRecDepth 100000 in
theorem se_X11_forget : Cond.selects RX11 yX11_forget yX11_forget ∈ gw := gw_T5 155 rfl rfl
set_option maxRecDepth 100000 in
theorem ok_X11_goer : okM mX11_goer := ⟨gw_T4 45 rfl rfl, in_X11, by decide +kernel, by decide +kernel, by decide +kernel, by decide +kernel⟩
set_option maxRecDepth 100000 in
theorem im_X11_goer : Cond.instanceMethod yX11_goer ∈ gw := gw_T4 43 rfl rfl
set_option maxRecDepth 100000 in
theorem se_X11_goer : Cond.selects RX11 yX11_goer yX11_goer ∈ gw := gw_T4 44 rfl rfl
set_option maxRecDepth 100000 in
theorem ok_X11_hold : okM mX11_hold := ⟨gw_T4 166 rfl rfl, in_X11, by decide +kernel, by decide +kernel, by decide +kernel, by decide +kernel⟩
set_option maxRecDepth 100000 in
theorem im_X11_hold : Cond.instanceMethod yX11_hold ∈ gw := gw_T4 164 rfl rfl
set_option maxRecDepth 100000 in
theorem se_X11_hold : Cond.selects RX11 yX11_hold yX11_hold ∈ gw := gw_T4 165 rfl rfl
set_option maxRecDepth 100000 in
theorem ok_X11_init : okM mX11_init := ⟨gw_T1 26 rfl rfl, in_X11, by decide +kernel, by decide +kernel, by decide +kernel, by decide +kernel⟩
set_option maxRecDepth 100000 in
theorem im_X11_init : Cond.instanceMethod yX11_init ∈ gw := gw_T1 25 rfl rfl
set_option maxRecDepth 100000 in
theorem ok_X11_isFree : okM mX11_isFree := ⟨gw_T4 209 rfl rfl, in_X11, by decide +kernel, by decide +kernel, by decide +kernel, by decide +kernel⟩
set_option maxRecDepth 100000 in
theorem im_X11_isFree : Cond.instanceMethod yX11_isFree ∈ gw := gw_T4 208 rfl rfl
set_option maxRecDepth 100000 in
theorem se_X11_isFree : Cond.selects RX11 yX11_isFree yX11_isFree ∈ gw := gw_S 34 rfl rfl
set_option maxRecDepth 100000 in
theorem ok_X11_isNoughtOrOne : okM mX11_isNoughtOrOne := ⟨gw_T4 189 rfl rfl, in_X11, by decide +kernel, by decide +kernel, by decide +kernel, by decide +kernel⟩
set_option maxRecDepth 100000 in
theorem sm_X11_isNoughtOrOne : Cond.static yX11_isNoughtOrOne ∈ gw := gw_T4 188 rfl rfl
set_option maxRecDepth 100000 in
theorem ok_X11_isSpan : okM mX11_isSpan := ⟨gw_T4 119 rfl rfl, in_X11, by decide +kernel, by decide +kernel, by decide +kernel, by decide +kernel⟩
set_option maxRecDepth 100000 in
theorem sm_X11_isSpan : Cond.static yX11_isSpan ∈ gw := gw_T4 118 rfl rfl
set_option maxRecDepth 100000 in
theorem ok_X11_leave : okM mX11_leave := ⟨gw_T5 9 rfl rfl, in_X11, by decide +kernel, by decide +kernel, by decide +kernel, by decide +kernel⟩
set_option maxRecDepth 100000 in
theorem im_X11_leave : Cond.instanceMethod yX11_leave ∈ gw := gw_T5 7 rfl rfl
set_option maxRecDepth 100000 in
theorem se_X11_leave : Cond.selects RX11 yX11_leave yX11_leave ∈ gw := gw_T5 8 rfl rfl
set_option maxRecDepth 100000 in
theorem ok_X11_listen : okM mX11_listen := ⟨gw_T5 180 rfl rfl, in_X11, by decide +kernel, by decide +kernel, by decide +kernel, by decide +kernel⟩
set_option maxRecDepth 100000 in
theorem im_X11_listen : Cond.instanceMethod yX11_listen ∈ gw := gw_T5 178 rfl rfl
set_option maxRecDepth 100000 in
theorem se_X11_listen : Cond.selects RX11 yX11_listen yX11_listen ∈ gw := gw_T5 179 rfl rfl
set_option maxRecDepth 100000 in
theorem ok_X11_loud : okM mX11_loud := ⟨gw_T4 182 rfl rfl, in_X11, by decide +kernel, by decide +kernel, by decide +kernel, by decide +kernel⟩
set_option maxRecDepth 100000 in
theorem im_X11_loud : Cond.instanceMethod yX11_loud ∈ gw := gw_T4 180 rfl rfl
set_option maxRecDepth 100000 in
theorem se_X11_loud : Cond.selects RX11 yX11_loud yX11_loud ∈ gw := gw_T4 181 rfl rfl
set_option maxRecDepth 100000 in
theorem ok_X11_lowest : okM mX11_lowest := ⟨gw_T4 77 rfl rfl, in_X11, by decide +kernel, by decide +kernel, by decide +kernel, by decide +kernel⟩
set_option maxRecDepth 100000 in
theorem sm_X11_lowest : Cond.static yX11_lowest ∈ gw := gw_T4 76 rfl rfl
set_option maxRecDepth 100000 in
theorem ok_X11_meet : okM mX11_meet := ⟨gw_T5 31 rfl rfl, in_X11, by decide +kernel, by decide +kernel, by decide +kernel, by decide +kernel⟩
set_option maxRecDepth 100000 in
theorem im_X11_meet : Cond.instanceMethod yX11_meet ∈ gw := gw_T5 29 rfl rfl
set_option maxRecDepth 100000 in
theorem se_X11_meet : Cond.selects RX11 yX11_meet yX11_meet ∈ gw := gw_T5 30 rfl rfl
set_option maxRecDepth 100000 in
theorem ok_X11_movedInAll : okM mX11_movedInAll := ⟨gw_T4 82 rfl rfl, in_X11, by decide +kernel, by decide +kernel, by decide +kernel, by decide +kernel⟩
set_option maxRecDepth 100000 in
theorem im_X11_movedInAll : Cond.instanceMethod yX11_movedInAll ∈ gw := gw_T4 81 rfl rfl
set_option maxRecDepth 100000 in
theorem se_X11_movedInAll : Cond.selects RX11 yX11_movedInAll yX11_movedInAll ∈ gw := gw_S 29 rfl rfl
set_option maxRecDepth 100000 in
theorem ok_X11_mow : okM mX11_mow := ⟨gw_T4 94 rfl rfl, in_X11, by decide +kernel, by decide +kernel, by decide +kernel, by decide +kernel⟩
set_option maxRecDepth 100000 in
theorem im_X11_mow : Cond.instanceMethod yX11_mow ∈ gw := gw_T4 92 rfl rfl
set_option maxRecDepth 100000 in
theorem se_X11_mow : Cond.selects RX11 yX11_mow yX11_mow ∈ gw := gw_T4 93 rfl rfl
set_option maxRecDepth 100000 in
theorem ok_X11_mows : okM mX11_mows := ⟨gw_T5 18 rfl rfl, in_X11, by decide +kernel, by decide +kernel, by decide +kernel, by decide +kernel⟩
set_option maxRecDepth 100000 in
theorem im_X11_mows : Cond.instanceMethod yX11_mows ∈ gw := gw_T5 16 rfl rfl
set_option maxRecDepth 100000 in
theorem se_X11_mows : Cond.selects RX11 yX11_mows yX11_mows ∈ gw := gw_T5 17 rfl rfl
set_option maxRecDepth 100000 in
theorem ok_X11_never : okM mX11_never := ⟨gw_T5 92 rfl rfl, in_X11, by decide +kernel, by decide +kernel, by decide +kernel, by decide +kernel⟩
set_option maxRecDepth 100000 in
theorem im_X11_never : Cond.instanceMethod yX11_never ∈ gw := gw_T5 90 rfl rfl
set_option maxRecDepth 100000 in
theorem se_X11_never : Cond.selects RX11 yX11_never yX11_never ∈ gw := gw_T5 91 rfl rfl
set_option maxRecDepth 100000 in
theorem ok_X11_next : okM mX11_next := ⟨gw_T4 174 rfl rfl, in_X11, by decide +kernel, by decide +kernel, by decide +kernel, by decide +kernel⟩
set_option maxRecDepth 100000 in
theorem im_X11_next : Cond.instanceMethod yX11_next ∈ gw := gw_T4 172 rfl rfl
set_option maxRecDepth 100000 in
theorem se_X11_next : Cond.selects RX11 yX11_next yX11_next ∈ gw := gw_T4 173 rfl rfl
set_option maxRecDepth 100000 in
theorem ok_X11_pairs : okM mX11_pairs := ⟨gw_T5 120 rfl rfl, in_X11, by decide +kernel, by decide +kernel, by decide +kernel, by decide +kernel⟩
set_option maxRecDepth 100000 in
theorem im_X11_pairs : Cond.instanceMethod yX11_pairs ∈ gw := gw_T5 118 rfl rfl
set_option maxRecDepth 100000 in
theorem se_X11_pairs : Cond.selects RX11 yX11_pairs yX11_pairs ∈ gw := gw_T5 119 rfl rfl
set_option maxRecDepth 100000 in
theorem ok_X11_part : okM mX11_part := ⟨gw_T5 39 rfl rfl, in_X11, by decide +kernel, by decide +kernel, by decide +kernel, by decide +kernel⟩
set_option maxRecDepth 100000 in
theorem im_X11_part : Cond.instanceMethod yX11_part ∈ gw := gw_T5 37 rfl rfl
set_option maxRecDepth 100000 in
theorem se_X11_part : Cond.selects RX11 yX11_part yX11_part ∈ gw := gw_T5 38 rfl rfl
set_option maxRecDepth 100000 in
theorem ok_X11_period : okM mX11_period := ⟨gw_T4 197 rfl rfl, in_X11, by decide +kernel, by decide +kernel, by decide +kernel, by decide +kernel⟩
set_option maxRecDepth 100000 in
theorem im_X11_period : Cond.instanceMethod yX11_period ∈ gw := gw_T4 195 rfl rfl
set_option maxRecDepth 100000 in
theorem se_X11_period : Cond.selects RX11 yX11_period yX11_period ∈ gw := gw_T4 196 rfl rfl
set_option maxRecDepth 100000 in
theorem ok_X11_place : okM mX11_place := ⟨gw_T3 210 rfl rfl, in_X11, by decide +kernel, by decide +kernel, by decide +kernel, by decide +kernel⟩
set_option maxRecDepth 100000 in
theorem im_X11_place : Cond.instanceMethod yX11_place ∈ gw := gw_T3 208 rfl rfl
set_option maxRecDepth 100000 in
theorem se_X11_place : Cond.selects RX11 yX11_place yX11_place ∈ gw := gw_T3 209 rfl rfl
set_option maxRecDepth 100000 in
theorem ok_X11_putOnTape : okM mX11_putOnTape := ⟨gw_T3 2 rfl rfl, in_X11, by decide +kernel, by decide +kernel, by decide +kernel, by decide +kernel⟩
set_option maxRecDepth 100000 in
theorem im_X11_putOnTape : Cond.instanceMethod yX11_putOnTape ∈ gw := gw_T3 1 rfl rfl
set_option maxRecDepth 100000 in
theorem se_X11_putOnTape : Cond.selects RX11 yX11_putOnTape yX11_putOnTape ∈ gw := gw_S 0 rfl rfl
set_option maxRecDepth 100000 in
theorem ok_X11_read : okM mX11_read := ⟨gw_T3 10 rfl rfl, in_X11, by decide +kernel, by decide +kernel, by decide +kernel, by decide +kernel⟩
set_option maxRecDepth 100000 in
theorem im_X11_read : Cond.instanceMethod yX11_read ∈ gw := gw_T3 8 rfl rfl
set_option maxRecDepth 100000 in
theorem se_X11_read : Cond.selects RX11 yX11_read yX11_read ∈ gw := gw_T3 9 rfl rfl
set_option maxRecDepth 100000 in
theorem ok_X11_restore : okM mX11_restore := ⟨gw_T4 170 rfl rfl, in_X11, by decide +kernel, by decide +kernel, by decide +kernel, by decide +kernel⟩
set_option maxRecDepth 100000 in
theorem im_X11_restore : Cond.instanceMethod yX11_restore ∈ gw := gw_T4 168 rfl rfl
set_option maxRecDepth 100000 in
theorem se_X11_restore : Cond.selects RX11 yX11_restore yX11_restore ∈ gw := gw_T4 169 rfl rfl
set_option maxRecDepth 100000 in
theorem ok_X11_returns : okM mX11_returns := ⟨gw_T5 87 rfl rfl, in_X11, by decide +kernel, by decide +kernel, by decide +kernel, by decide +kernel⟩
set_option maxRecDepth 100000 in
theorem im_X11_returns : Cond.instanceMethod yX11_returns ∈ gw := gw_T5 85 rfl rfl
set_option maxRecDepth 100000 in
theorem se_X11_returns : Cond.selects RX11 yX11_returns yX11_returns ∈ gw := gw_T5 86 rfl rfl
set_option maxRecDepth 100000 in
theorem ok_X11_rope : okM mX11_rope := ⟨gw_T4 108 rfl rfl, in_X11, by decide +kernel, by decide +kernel, by decide +kernel, by decide +kernel⟩
set_option maxRecDepth 100000 in
theorem im_X11_rope : Cond.instanceMethod yX11_rope ∈ gw := gw_T4 106 rfl rfl
set_option maxRecDepth 100000 in
theorem se_X11_rope : Cond.selects RX11 yX11_rope yX11_rope ∈ gw := gw_T4 107 rfl rfl
set_option maxRecDepth 100000 in
theorem ok_X11_silence : okM mX11_silence := ⟨gw_T4 186 rfl rfl, in_X11, by decide +kernel, by decide +kernel, by decide +kernel, by decide +kernel⟩
set_option maxRecDepth 100000 in
theorem im_X11_silence : Cond.instanceMethod yX11_silence ∈ gw := gw_T4 184 rfl rfl
set_option maxRecDepth 100000 in
theorem se_X11_silence : Cond.selects RX11 yX11_silence yX11_silence ∈ gw := gw_T4 185 rfl rfl
set_option maxRecDepth 100000 in
theorem ok_X11_stood : okM mX11_stood := ⟨gw_T5 96 rfl rfl, in_X11, by decide +kernel, by decide +kernel, by decide +kernel, by decide +kernel⟩
set_option maxRecDepth 100000 in
theorem im_X11_stood : Cond.instanceMethod yX11_stood ∈ gw := gw_T5 94 rfl rfl
set_option maxRecDepth 100000 in
theorem se_X11_stood : Cond.selects RX11 yX11_stood yX11_stood ∈ gw := gw_T5 95 rfl rfl
set_option maxRecDepth 100000 in
theorem ok_X11_tell : okM mX11_tell := ⟨gw_T5 148 rfl rfl, in_X11, by decide +kernel, by decide +kernel, by decide +kernel, by decide +kernel⟩
set_option maxRecDepth 100000 in
theorem im_X11_tell : Cond.instanceMethod yX11_tell ∈ gw := gw_T5 146 rfl rfl
set_option maxRecDepth 100000 in
theorem se_X11_tell : Cond.selects RX11 yX11_tell yX11_tell ∈ gw := gw_T5 147 rfl rfl
set_option maxRecDepth 100000 in
theorem ok_X11_then : okM mX11_then := ⟨gw_T5 100 rfl rfl, in_X11, by decide +kernel, by decide +kernel, by decide +kernel, by decide +kernel⟩
set_option maxRecDepth 100000 in
theorem im_X11_then : Cond.instanceMethod yX11_then ∈ gw := gw_T5 98 rfl rfl
set_option maxRecDepth 100000 in
theorem se_X11_then : Cond.selects RX11 yX11_then yX11_then ∈ gw := gw_T5 99 rfl rfl
set_option maxRecDepth 100000 in
theorem ok_X11_together : okM mX11_together := ⟨gw_T4 178 rfl rfl, in_X11, by decide +kernel, by decide +kernel, by decide +kernel, by decide +kernel⟩
set_option maxRecDepth 100000 in
theorem im_X11_together : Cond.instanceMethod yX11_together ∈ gw := gw_T4 176 rfl rfl
set_option maxRecDepth 100000 in
theorem se_X11_together : Cond.selects RX11 yX11_together yX11_together ∈ gw := gw_T4 177 rfl rfl
set_option maxRecDepth 100000 in
theorem ok_X11_tunesIn : okM mX11_tunesIn := ⟨gw_T5 104 rfl rfl, in_X11, by decide +kernel, by decide +kernel, by decide +kernel, by decide +kernel⟩
set_option maxRecDepth 100000 in
theorem im_X11_tunesIn : Cond.instanceMethod yX11_tunesIn ∈ gw := gw_T5 102 rfl rfl
set_option maxRecDepth 100000 in
theorem se_X11_tunesIn : Cond.selects RX11 yX11_tunesIn yX11_tunesIn ∈ gw := gw_T5 103 rfl rfl
set_option maxRecDepth 100000 in
theorem ok_X11_undo : okM mX11_undo := ⟨gw_T4 158 rfl rfl, in_X11, by decide +kernel, by decide +kernel, by decide +kernel, by decide +kernel⟩
set_option maxRecDepth 100000 in
theorem im_X11_undo : Cond.instanceMethod yX11_undo ∈ gw := gw_T4 156 rfl rfl
set_option maxRecDepth 100000 in
theorem se_X11_undo : Cond.selects RX11 yX11_undo yX11_undo ∈ gw := gw_T4 157 rfl rfl
set_option maxRecDepth 100000 in
theorem ok_X11_way : okM mX11_way := ⟨gw_T4 205 rfl rfl, in_X11, by decide +kernel, by decide +kernel, by decide +kernel, by decide +kernel⟩
set_option maxRecDepth 100000 in
theorem im_X11_way : Cond.instanceMethod yX11_way ∈ gw := gw_T4 203 rfl rfl
set_option maxRecDepth 100000 in
theorem se_X11_way : Cond.selects RX11 yX11_way yX11_way ∈ gw := gw_T4 204 rfl rfl
set_option maxRecDepth 100000 in
theorem ok_X11_year : okM mX11_year := ⟨gw_T5 116 rfl rfl, in_X11, by decide +kernel, by decide +kernel, by decide +kernel, by decide +kernel⟩
set_option maxRecDepth 100000 in
theorem im_X11_year : Cond.instanceMethod yX11_year ∈ gw := gw_T5 114 rfl rfl
set_option maxRecDepth 100000 in
theorem se_X11_year : Cond.selects RX11 yX11_year yX11_year ∈ gw := gw_T5 115 rfl rfl
set_option maxRecDepth 100000 in
theorem ok_X12_appends : okM mX12_appends := ⟨gw_T5 201 rfl rfl, in_X12, by decide +kernel, by decide +kernel, by decide +kernel, by decide +kernel⟩
set_option maxRecDepth 100000 in
theorem sm_X12_appends : Cond.static yX12_appends ∈ gw := gw_T5 200 rfl rfl
set_option maxRecDepth 100000 in
theorem ok_X12_areFree : okM mX12_areFree := ⟨gw_T7 233 rfl rfl, in_X12, by decide +kernel, by decide +kernel, by decide +kernel, by decide +kernel⟩
set_option maxRecDepth 100000 in
theorem im_X12_areFree : Cond.instanceMethod yX12_areFree ∈ gw := gw_T7 232 rfl rfl
set_option maxRecDepth 100000 in
theorem se_X12_areFree : Cond.selects RX12 yX12_areFree yX12_areFree ∈ gw := gw_S 99 rfl rfl
set_option maxRecDepth 100000 in
theorem ok_X12_back : okM mX12_back := ⟨gw_T6 204 rfl rfl, in_X12, by decide +kernel, by decide +kernel, by decide +kernel, by decide +kernel⟩
set_option maxRecDepth 100000 in
theorem im_X12_back : Cond.instanceMethod yX12_back ∈ gw := gw_T6 202 rfl rfl
set_option maxRecDepth 100000 in
theorem se_X12_back : Cond.selects RX12 yX12_back yX12_back ∈ gw := gw_T6 203 rfl rfl
set_option maxRecDepth 100000 in
theorem ok_X12_beatGoes : okM mX12_beatGoes := ⟨gw_T7 174 rfl rfl, in_X12, by decide +kernel, by decide +kernel, by decide +kernel, by decide +kernel⟩
set_option maxRecDepth 100000 in
theorem im_X12_beatGoes : Cond.instanceMethod yX12_beatGoes ∈ gw := gw_T7 173 rfl rfl
set_option maxRecDepth 100000 in
theorem se_X12_beatGoes : Cond.selects RX12 yX12_beatGoes yX12_beatGoes ∈ gw := gw_S 94 rfl rfl
set_option maxRecDepth 100000 in
theorem ok_X12_beats : okM mX12_beats := ⟨gw_T7 163 rfl rfl, in_X12, by decide +kernel, by decide +kernel, by decide +kernel, by decide +kernel⟩
set_option maxRecDepth 100000 in
theorem im_X12_beats : Cond.instanceMethod yX12_beats ∈ gw := gw_T7 161 rfl rfl
set_option maxRecDepth 100000 in
theorem se_X12_beats : Cond.selects RX12 yX12_beats yX12_beats ∈ gw := gw_T7 162 rfl rfl
set_option maxRecDepth 100000 in
theorem ok_X12_begins : okM mX12_begins := ⟨gw_T5 206 rfl rfl, in_X12, by decide +kernel, by decide +kernel, by decide +kernel, by decide +kernel⟩
set_option maxRecDepth 100000 in
theorem im_X12_begins : Cond.instanceMethod yX12_begins ∈ gw := gw_T5 205 rfl rfl
