set_option maxRecDepth 100000 in
theorem se_X12_unit : Cond.selects RX12 yX12_unit yX12_unit ∈ gw := gw_S 72 rfl rfl
set_option maxRecDepth 100000 in
theorem ok_X12_unlike : okM mX12_unlike := ⟨gw_T8 108 rfl rfl, in_X12, by decide +kernel, by decide +kernel, by decide +kernel, by decide +kernel⟩
set_option maxRecDepth 100000 in
theorem im_X12_unlike : Cond.instanceMethod yX12_unlike ∈ gw := gw_T8 107 rfl rfl
set_option maxRecDepth 100000 in
theorem se_X12_unlike : Cond.selects RX12 yX12_unlike yX12_unlike ∈ gw := gw_S 117 rfl rfl
set_option maxRecDepth 100000 in
theorem ok_X12_way : okM mX12_way := ⟨gw_T7 229 rfl rfl, in_X12, by decide +kernel, by decide +kernel, by decide +kernel, by decide +kernel⟩
set_option maxRecDepth 100000 in
theorem im_X12_way : Cond.instanceMethod yX12_way ∈ gw := gw_T7 227 rfl rfl
set_option maxRecDepth 100000 in
theorem se_X12_way : Cond.selects RX12 yX12_way yX12_way ∈ gw := gw_T7 228 rfl rfl
set_option maxRecDepth 100000 in
theorem ok_X12_wayOf : okM mX12_wayOf := ⟨gw_T7 139 rfl rfl, in_X12, by decide +kernel, by decide +kernel, by decide +kernel, by decide +kernel⟩
set_option maxRecDepth 100000 in
theorem im_X12_wayOf : Cond.instanceMethod yX12_wayOf ∈ gw := gw_T7 138 rfl rfl
set_option maxRecDepth 100000 in
theorem se_X12_wayOf : Cond.selects RX12 yX12_wayOf yX12_wayOf ∈ gw := gw_S 90 rfl rfl
set_option maxRecDepth 100000 in
theorem ok_X12_whoAt : okM mX12_whoAt := ⟨gw_T7 97 rfl rfl, in_X12, by decide +kernel, by decide +kernel, by decide +kernel, by decide +kernel⟩
set_option maxRecDepth 100000 in
theorem im_X12_whoAt : Cond.instanceMethod yX12_whoAt ∈ gw := gw_T7 96 rfl rfl
set_option maxRecDepth 100000 in
theorem se_X12_whoAt : Cond.selects RX12 yX12_whoAt yX12_whoAt ∈ gw := gw_S 82 rfl rfl
set_option maxRecDepth 100000 in
theorem ok_X12_within : okM mX12_within := ⟨gw_T7 123 rfl rfl, in_X12, by decide +kernel, by decide +kernel, by decide +kernel, by decide +kernel⟩
set_option maxRecDepth 100000 in
theorem sm_X12_within : Cond.static yX12_within ∈ gw := gw_T7 122 rfl rfl
set_option maxRecDepth 100000 in
theorem ok_X12_wrong : okM mX12_wrong := ⟨gw_T7 14 rfl rfl, in_X12, by decide +kernel, by decide +kernel, by decide +kernel, by decide +kernel⟩
set_option maxRecDepth 100000 in
theorem im_X12_wrong : Cond.instanceMethod yX12_wrong ∈ gw := gw_T7 13 rfl rfl
set_option maxRecDepth 100000 in
theorem se_X12_wrong : Cond.selects RX12 yX12_wrong yX12_wrong ∈ gw := gw_S 64 rfl rfl
set_option maxRecDepth 100000 in
theorem ok_X12_year : okM mX12_year := ⟨gw_T8 127 rfl rfl, in_X12, by decide +kernel, by decide +kernel, by decide +kernel, by decide +kernel⟩
set_option maxRecDepth 100000 in
theorem im_X12_year : Cond.instanceMethod yX12_year ∈ gw := gw_T8 125 rfl rfl
set_option maxRecDepth 100000 in
theorem se_X12_year : Cond.selects RX12 yX12_year yX12_year ∈ gw := gw_T8 126 rfl rfl
set_option maxRecDepth 100000 in
theorem ok_X1_fewestRopes : okM mX1_fewestRopes := ⟨gw_T5 44 rfl rfl, in_X1, by decide +kernel, by decide +kernel, by decide +kernel, by decide +kernel⟩
set_option maxRecDepth 100000 in
theorem im_X1_fewestRopes : Cond.instanceMethod yX1_fewestRopes ∈ gw := gw_T5 42 rfl rfl
set_option maxRecDepth 100000 in
theorem se_X1_fewestRopes : Cond.selects RX1 yX1_fewestRopes yX1_fewestRopes ∈ gw := gw_T5 43 rfl rfl
set_option maxRecDepth 100000 in
theorem ok_X1_find : okM mX1_find := ⟨gw_T5 53 rfl rfl, in_X1, by decide +kernel, by decide +kernel, by decide +kernel, by decide +kernel⟩
set_option maxRecDepth 100000 in
theorem im_X1_find : Cond.instanceMethod yX1_find ∈ gw := gw_T5 52 rfl rfl
set_option maxRecDepth 100000 in
theorem se_X1_find : Cond.selects RX1 yX1_find yX1_find ∈ gw := gw_S 40 rfl rfl
set_option maxRecDepth 100000 in
theorem ok_X1_init : okM mX1_init := ⟨gw_T2 130 rfl rfl, in_X1, by decide +kernel, by decide +kernel, by decide +kernel, by decide +kernel⟩
set_option maxRecDepth 100000 in
theorem im_X1_init : Cond.instanceMethod yX1_init ∈ gw := gw_T2 129 rfl rfl
set_option maxRecDepth 100000 in
theorem ok_X1_layWay : okM mX1_layWay := ⟨gw_T5 66 rfl rfl, in_X1, by decide +kernel, by decide +kernel, by decide +kernel, by decide +kernel⟩
set_option maxRecDepth 100000 in
theorem im_X1_layWay : Cond.instanceMethod yX1_layWay ∈ gw := gw_T5 65 rfl rfl
set_option maxRecDepth 100000 in
theorem se_X1_layWay : Cond.selects RX1 yX1_layWay yX1_layWay ∈ gw := gw_S 43 rfl rfl
set_option maxRecDepth 100000 in
theorem ok_X1_leadOnFromEntry : okM mX1_leadOnFromEntry := ⟨gw_T5 57 rfl rfl, in_X1, by decide +kernel, by decide +kernel, by decide +kernel, by decide +kernel⟩
set_option maxRecDepth 100000 in
theorem im_X1_leadOnFromEntry : Cond.instanceMethod yX1_leadOnFromEntry ∈ gw := gw_T5 56 rfl rfl
set_option maxRecDepth 100000 in
theorem se_X1_leadOnFromEntry : Cond.selects RX1 yX1_leadOnFromEntry yX1_leadOnFromEntry ∈ gw := gw_S 41 rfl rfl
set_option maxRecDepth 100000 in
theorem ok_X1_leadOnFromExit : okM mX1_leadOnFromExit := ⟨gw_T5 61 rfl rfl, in_X1, by decide +kernel, by decide +kernel, by decide +kernel, by decide +kernel⟩
set_option maxRecDepth 100000 in
theorem im_X1_leadOnFromExit : Cond.instanceMethod yX1_leadOnFromExit ∈ gw := gw_T5 60 rfl rfl
set_option maxRecDepth 100000 in
theorem se_X1_leadOnFromExit : Cond.selects RX1 yX1_leadOnFromExit yX1_leadOnFromExit ∈ gw := gw_S 42 rfl rfl
set_option maxRecDepth 100000 in
theorem ok_X1_search : okM mX1_search := ⟨gw_T5 49 rfl rfl, in_X1, by decide +kernel, by decide +kernel, by decide +kernel, by decide +kernel⟩
set_option maxRecDepth 100000 in
theorem im_X1_search : Cond.instanceMethod yX1_search ∈ gw := gw_T5 48 rfl rfl
set_option maxRecDepth 100000 in
theorem se_X1_search : Cond.selects RX1 yX1_search yX1_search ∈ gw := gw_S 39 rfl rfl
set_option maxRecDepth 100000 in
theorem ok_X2_bestTime : okM mX2_bestTime := ⟨gw_T5 183 rfl rfl, in_X2, by decide +kernel, by decide +kernel, by decide +kernel, by decide +kernel⟩
set_option maxRecDepth 100000 in
theorem sm_X2_bestTime : Cond.static yX2_bestTime ∈ gw := gw_T5 182 rfl rfl
set_option maxRecDepth 100000 in
theorem ok_X2_clear : okM mX2_clear := ⟨gw_T3 206 rfl rfl, in_X2, by decide +kernel, by decide +kernel, by decide +kernel, by decide +kernel⟩
set_option maxRecDepth 100000 in
theorem im_X2_clear : Cond.instanceMethod yX2_clear ∈ gw := gw_T3 204 rfl rfl
set_option maxRecDepth 100000 in
theorem se_X2_clear : Cond.selects RX2 yX2_clear yX2_clear ∈ gw := gw_T3 205 rfl rfl
set_option maxRecDepth 100000 in
theorem ok_X2_firstTune : okM mX2_firstTune := ⟨gw_T5 175 rfl rfl, in_X2, by decide +kernel, by decide +kernel, by decide +kernel, by decide +kernel⟩
set_option maxRecDepth 100000 in
theorem sm_X2_firstTune : Cond.static yX2_firstTune ∈ gw := gw_T5 174 rfl rfl
set_option maxRecDepth 100000 in
theorem ok_X2_fitting : okM mX2_fitting := ⟨gw_T5 168 rfl rfl, in_X2, by decide +kernel, by decide +kernel, by decide +kernel, by decide +kernel⟩
set_option maxRecDepth 100000 in
theorem im_X2_fitting : Cond.instanceMethod yX2_fitting ∈ gw := gw_T5 166 rfl rfl
set_option maxRecDepth 100000 in
theorem se_X2_fitting : Cond.selects RX2 yX2_fitting yX2_fitting ∈ gw := gw_T5 167 rfl rfl
set_option maxRecDepth 100000 in
theorem ok_X2_init : okM mX2_init := ⟨gw_T2 82 rfl rfl, in_X2, by decide +kernel, by decide +kernel, by decide +kernel, by decide +kernel⟩
set_option maxRecDepth 100000 in
theorem im_X2_init : Cond.instanceMethod yX2_init ∈ gw := gw_T2 81 rfl rfl
set_option maxRecDepth 100000 in
theorem ok_X2_keep : okM mX2_keep := ⟨gw_T5 152 rfl rfl, in_X2, by decide +kernel, by decide +kernel, by decide +kernel, by decide +kernel⟩
set_option maxRecDepth 100000 in
theorem im_X2_keep : Cond.instanceMethod yX2_keep ∈ gw := gw_T5 150 rfl rfl
set_option maxRecDepth 100000 in
theorem se_X2_keep : Cond.selects RX2 yX2_keep yX2_keep ∈ gw := gw_T5 151 rfl rfl
set_option maxRecDepth 100000 in
theorem ok_X2_knows : okM mX2_knows := ⟨gw_T5 164 rfl rfl, in_X2, by decide +kernel, by decide +kernel, by decide +kernel, by decide +kernel⟩
set_option maxRecDepth 100000 in
theorem im_X2_knows : Cond.instanceMethod yX2_knows ∈ gw := gw_T5 162 rfl rfl
set_option maxRecDepth 100000 in
theorem se_X2_knows : Cond.selects RX2 yX2_knows yX2_knows ∈ gw := gw_T5 163 rfl rfl
set_option maxRecDepth 100000 in
theorem ok_X2_soundingAt : okM mX2_soundingAt := ⟨gw_T5 172 rfl rfl, in_X2, by decide +kernel, by decide +kernel, by decide +kernel, by decide +kernel⟩
set_option maxRecDepth 100000 in
theorem sm_X2_soundingAt : Cond.static yX2_soundingAt ∈ gw := gw_T5 171 rfl rfl
set_option maxRecDepth 100000 in
theorem ok_X3_become : okM mX3_become := ⟨gw_T3 186 rfl rfl, in_X3, by decide +kernel, by decide +kernel, by decide +kernel, by decide +kernel⟩
set_option maxRecDepth 100000 in
theorem im_X3_become : Cond.instanceMethod yX3_become ∈ gw := gw_T3 184 rfl rfl
set_option maxRecDepth 100000 in
theorem se_X3_become : Cond.selects RX3 yX3_become yX3_become ∈ gw := gw_T3 185 rfl rfl
set_option maxRecDepth 100000 in
theorem ok_X3_beside : okM mX3_beside := ⟨gw_T4 58 rfl rfl, in_X3, by decide +kernel, by decide +kernel, by decide +kernel, by decide +kernel⟩
set_option maxRecDepth 100000 in
theorem im_X3_beside : Cond.instanceMethod yX3_beside ∈ gw := gw_T4 56 rfl rfl
set_option maxRecDepth 100000 in
theorem se_X3_beside : Cond.selects RX3 yX3_beside yX3_beside ∈ gw := gw_T4 57 rfl rfl
set_option maxRecDepth 100000 in
theorem ok_X3_farthest : okM mX3_farthest := ⟨gw_T5 83 rfl rfl, in_X3, by decide +kernel, by decide +kernel, by decide +kernel, by decide +kernel⟩
set_option maxRecDepth 100000 in
theorem im_X3_farthest : Cond.instanceMethod yX3_farthest ∈ gw := gw_T5 81 rfl rfl
set_option maxRecDepth 100000 in
theorem se_X3_farthest : Cond.selects RX3 yX3_farthest yX3_farthest ∈ gw := gw_T5 82 rfl rfl
set_option maxRecDepth 100000 in
theorem ok_X3_grown : okM mX3_grown := ⟨gw_T4 229 rfl rfl, in_X3, by decide +kernel, by decide +kernel, by decide +kernel, by decide +kernel⟩
set_option maxRecDepth 100000 in
theorem im_X3_grown : Cond.instanceMethod yX3_grown ∈ gw := gw_T4 227 rfl rfl
set_option maxRecDepth 100000 in
theorem se_X3_grown : Cond.selects RX3 yX3_grown yX3_grown ∈ gw := gw_T4 228 rfl rfl
set_option maxRecDepth 100000 in
theorem ok_X3_has : okM mX3_has := ⟨gw_T3 218 rfl rfl, in_X3, by decide +kernel, by decide +kernel, by decide +kernel, by decide +kernel⟩
set_option maxRecDepth 100000 in
theorem im_X3_has : Cond.instanceMethod yX3_has ∈ gw := gw_T3 216 rfl rfl
set_option maxRecDepth 100000 in
theorem se_X3_has : Cond.selects RX3 yX3_has yX3_has ∈ gw := gw_T3 217 rfl rfl
set_option maxRecDepth 100000 in
theorem ok_X3_init : okM mX3_init := ⟨gw_T1 46 rfl rfl, in_X3, by decide +kernel, by decide +kernel, by decide +kernel, by decide +kernel⟩
set_option maxRecDepth 100000 in
theorem im_X3_init : Cond.instanceMethod yX3_init ∈ gw := gw_T1 45 rfl rfl
set_option maxRecDepth 100000 in
theorem ok_X3_lay : okM mX3_lay := ⟨gw_T2 176 rfl rfl, in_X3, by decide +kernel, by decide +kernel, by decide +kernel, by decide +kernel⟩
set_option maxRecDepth 100000 in
theorem im_X3_lay : Cond.instanceMethod yX3_lay ∈ gw := gw_T2 174 rfl rfl
set_option maxRecDepth 100000 in
theorem se_X3_lay : Cond.selects RX3 yX3_lay yX3_lay ∈ gw := gw_T2 175 rfl rfl
set_option maxRecDepth 100000 in
theorem ok_X3_leftOf : okM mX3_leftOf := ⟨gw_T4 17 rfl rfl, in_X3, by decide +kernel, by decide +kernel, by decide +kernel, by decide +kernel⟩
set_option maxRecDepth 100000 in
theorem im_X3_leftOf : Cond.instanceMethod yX3_leftOf ∈ gw := gw_T4 15 rfl rfl
set_option maxRecDepth 100000 in
theorem se_X3_leftOf : Cond.selects RX3 yX3_leftOf yX3_leftOf ∈ gw := gw_T4 16 rfl rfl
set_option maxRecDepth 100000 in
theorem ok_X3_quietOnTheRight : okM mX3_quietOnTheRight := ⟨gw_T4 137 rfl rfl, in_X3, by decide +kernel, by decide +kernel, by decide +kernel, by decide +kernel⟩
set_option maxRecDepth 100000 in
theorem im_X3_quietOnTheRight : Cond.instanceMethod yX3_quietOnTheRight ∈ gw := gw_T4 135 rfl rfl
set_option maxRecDepth 100000 in
theorem se_X3_quietOnTheRight : Cond.selects RX3 yX3_quietOnTheRight yX3_quietOnTheRight ∈ gw := gw_T4 136 rfl rfl
set_option maxRecDepth 100000 in
theorem ok_X3_steps : okM mX3_steps := ⟨gw_T5 74 rfl rfl, in_X3, by decide +kernel, by decide +kernel, by decide +kernel, by decide +kernel⟩
set_option maxRecDepth 100000 in
theorem im_X3_steps : Cond.instanceMethod yX3_steps ∈ gw := gw_T5 72 rfl rfl
set_option maxRecDepth 100000 in
theorem se_X3_steps : Cond.selects RX3 yX3_steps yX3_steps ∈ gw := gw_T5 73 rfl rfl
set_option maxRecDepth 100000 in
theorem ok_X3_topOf : okM mX3_topOf := ⟨gw_T4 21 rfl rfl, in_X3, by decide +kernel, by decide +kernel, by decide +kernel, by decide +kernel⟩
set_option maxRecDepth 100000 in
theorem im_X3_topOf : Cond.instanceMethod yX3_topOf ∈ gw := gw_T4 19 rfl rfl
set_option maxRecDepth 100000 in
theorem se_X3_topOf : Cond.selects RX3 yX3_topOf yX3_topOf ∈ gw := gw_T4 20 rfl rfl
set_option maxRecDepth 100000 in
theorem ok_X4_add : okM mX4_add := ⟨gw_T2 188 rfl rfl, in_X4, by decide +kernel, by decide +kernel, by decide +kernel, by decide +kernel⟩
set_option maxRecDepth 100000 in
theorem im_X4_add : Cond.instanceMethod yX4_add ∈ gw := gw_T2 186 rfl rfl
set_option maxRecDepth 100000 in
theorem se_X4_add : Cond.selects RX4 yX4_add yX4_add ∈ gw := gw_T2 187 rfl rfl
set_option maxRecDepth 100000 in
theorem ok_X4_addLess : okM mX4_addLess := ⟨gw_T3 158 rfl rfl, in_X4, by decide +kernel, by decide +kernel, by decide +kernel, by decide +kernel⟩
set_option maxRecDepth 100000 in
theorem im_X4_addLess : Cond.instanceMethod yX4_addLess ∈ gw := gw_T3 156 rfl rfl
set_option maxRecDepth 100000 in
theorem se_X4_addLess : Cond.selects RX4 yX4_addLess yX4_addLess ∈ gw := gw_T3 157 rfl rfl
set_option maxRecDepth 100000 in
theorem ok_X4_become : okM mX4_become := ⟨gw_T3 190 rfl rfl, in_X4, by decide +kernel, by decide +kernel, by decide +kernel, by decide +kernel⟩
set_option maxRecDepth 100000 in
theorem im_X4_become : Cond.instanceMethod yX4_become ∈ gw := gw_T3 188 rfl rfl
set_option maxRecDepth 100000 in
theorem se_X4_become : Cond.selects RX4 yX4_become yX4_become ∈ gw := gw_T3 189 rfl rfl
set_option maxRecDepth 100000 in
theorem ok_X4_begin : okM mX4_begin := ⟨gw_T2 184 rfl rfl, in_X4, by decide +kernel, by decide +kernel, by decide +kernel, by decide +kernel⟩
set_option maxRecDepth 100000 in
theorem im_X4_begin : Cond.instanceMethod yX4_begin ∈ gw := gw_T2 182 rfl rfl
set_option maxRecDepth 100000 in
theorem se_X4_begin : Cond.selects RX4 yX4_begin yX4_begin ∈ gw := gw_T2 183 rfl rfl
set_option maxRecDepth 100000 in
theorem ok_X4_clear : okM mX4_clear := ⟨gw_T2 180 rfl rfl, in_X4, by decide +kernel, by decide +kernel, by decide +kernel, by decide +kernel⟩
set_option maxRecDepth 100000 in
theorem im_X4_clear : Cond.instanceMethod yX4_clear ∈ gw := gw_T2 178 rfl rfl
set_option maxRecDepth 100000 in
theorem se_X4_clear : Cond.selects RX4 yX4_clear yX4_clear ∈ gw := gw_T2 179 rfl rfl
set_option maxRecDepth 100000 in
theorem ok_X4_elseHere : okM mX4_elseHere := ⟨gw_T3 162 rfl rfl, in_X4, by decide +kernel, by decide +kernel, by decide +kernel, by decide +kernel⟩
set_option maxRecDepth 100000 in
theorem im_X4_elseHere : Cond.instanceMethod yX4_elseHere ∈ gw := gw_T3 160 rfl rfl
set_option maxRecDepth 100000 in
theorem se_X4_elseHere : Cond.selects RX4 yX4_elseHere yX4_elseHere ∈ gw := gw_T3 161 rfl rfl
set_option maxRecDepth 100000 in
theorem ok_X4_elseOf : okM mX4_elseOf := ⟨gw_T4 36 rfl rfl, in_X4, by decide +kernel, by decide +kernel, by decide +kernel, by decide +kernel⟩
set_option maxRecDepth 100000 in
theorem im_X4_elseOf : Cond.instanceMethod yX4_elseOf ∈ gw := gw_T4 35 rfl rfl
set_option maxRecDepth 100000 in
theorem se_X4_elseOf : Cond.selects RX4 yX4_elseOf yX4_elseOf ∈ gw := gw_S 28 rfl rfl
set_option maxRecDepth 100000 in
theorem ok_X4_init : okM mX4_init := ⟨gw_T1 74 rfl rfl, in_X4, by decide +kernel, by decide +kernel, by decide +kernel, by decide +kernel⟩
set_option maxRecDepth 100000 in
theorem im_X4_init : Cond.instanceMethod yX4_init ∈ gw := gw_T1 73 rfl rfl
set_option maxRecDepth 100000 in
theorem ok_X4_reckon : okM mX4_reckon := ⟨gw_T4 39 rfl rfl, in_X4, by decide +kernel, by decide +kernel, by decide +kernel, by decide +kernel⟩
set_option maxRecDepth 100000 in
theorem sm_X4_reckon : Cond.static yX4_reckon ∈ gw := gw_T4 38 rfl rfl
set_option maxRecDepth 100000 in
theorem ok_X4_value : okM mX4_value := ⟨gw_T4 32 rfl rfl, in_X4, by decide +kernel, by decide +kernel, by decide +kernel, by decide +kernel⟩
set_option maxRecDepth 100000 in
theorem im_X4_value : Cond.instanceMethod yX4_value ∈ gw := gw_T4 30 rfl rfl
set_option maxRecDepth 100000 in
theorem se_X4_value : Cond.selects RX4 yX4_value yX4_value ∈ gw := gw_T4 31 rfl rfl
set_option maxRecDepth 100000 in
theorem ok_X5_distance : okM mX5_distance := ⟨gw_T5 138 rfl rfl, in_X5, by decide +kernel, by decide +kernel, by decide +kernel, by decide +kernel⟩
set_option maxRecDepth 100000 in
theorem im_X5_distance : Cond.instanceMethod yX5_distance ∈ gw := gw_T5 137 rfl rfl
set_option maxRecDepth 100000 in
theorem se_X5_distance : Cond.selects RX5 yX5_distance yX5_distance ∈ gw := gw_S 47 rfl rfl
set_option maxRecDepth 100000 in
theorem ok_X5_init : okM mX5_init := ⟨gw_T2 152 rfl rfl, in_X5, by decide +kernel, by decide +kernel, by decide +kernel, by decide +kernel⟩
set_option maxRecDepth 100000 in
theorem im_X5_init : Cond.instanceMethod yX5_init ∈ gw := gw_T2 151 rfl rfl
set_option maxRecDepth 100000 in
theorem ok_X5_keepIfLess : okM mX5_keepIfLess := ⟨gw_T5 133 rfl rfl, in_X5, by decide +kernel, by decide +kernel, by decide +kernel, by decide +kernel⟩
set_option maxRecDepth 100000 in
theorem im_X5_keepIfLess : Cond.instanceMethod yX5_keepIfLess ∈ gw := gw_T5 132 rfl rfl
set_option maxRecDepth 100000 in
theorem se_X5_keepIfLess : Cond.selects RX5 yX5_keepIfLess yX5_keepIfLess ∈ gw := gw_S 46 rfl rfl
set_option maxRecDepth 100000 in
theorem ok_X5_match : okM mX5_match := ⟨gw_T5 124 rfl rfl, in_X5, by decide +kernel, by decide +kernel, by decide +kernel, by decide +kernel⟩
set_option maxRecDepth 100000 in
theorem im_X5_match : Cond.instanceMethod yX5_match ∈ gw := gw_T5 122 rfl rfl
set_option maxRecDepth 100000 in
theorem se_X5_match : Cond.selects RX5 yX5_match yX5_match ∈ gw := gw_T5 123 rfl rfl
set_option maxRecDepth 100000 in
theorem ok_X5_pairOff : okM mX5_pairOff := ⟨gw_T5 128 rfl rfl, in_X5, by decide +kernel, by decide +kernel, by decide +kernel, by decide +kernel⟩
set_option maxRecDepth 100000 in
theorem im_X5_pairOff : Cond.instanceMethod yX5_pairOff ∈ gw := gw_T5 127 rfl rfl
set_option maxRecDepth 100000 in
theorem se_X5_pairOff : Cond.selects RX5 yX5_pairOff yX5_pairOff ∈ gw := gw_S 45 rfl rfl
set_option maxRecDepth 100000 in
theorem ok_X6_clear : okM mX6_clear := ⟨gw_T3 202 rfl rfl, in_X6, by decide +kernel, by decide +kernel, by decide +kernel, by decide +kernel⟩
set_option maxRecDepth 100000 in
theorem im_X6_clear : Cond.instanceMethod yX6_clear ∈ gw := gw_T3 200 rfl rfl
set_option maxRecDepth 100000 in
theorem se_X6_clear : Cond.selects RX6 yX6_clear yX6_clear ∈ gw := gw_T3 201 rfl rfl
set_option maxRecDepth 100000 in
theorem ok_X6_init : okM mX6_init := ⟨gw_T2 62 rfl rfl, in_X6, by decide +kernel, by decide +kernel, by decide +kernel, by decide +kernel⟩
set_option maxRecDepth 100000 in
theorem im_X6_init : Cond.instanceMethod yX6_init ∈ gw := gw_T2 61 rfl rfl
set_option maxRecDepth 100000 in
theorem ok_X6_keep : okM mX6_keep := ⟨gw_T4 98 rfl rfl, in_X6, by decide +kernel, by decide +kernel, by decide +kernel, by decide +kernel⟩
set_option maxRecDepth 100000 in
theorem im_X6_keep : Cond.instanceMethod yX6_keep ∈ gw := gw_T4 96 rfl rfl
set_option maxRecDepth 100000 in
theorem se_X6_keep : Cond.selects RX6 yX6_keep yX6_keep ∈ gw := gw_T4 97 rfl rfl
set_option maxRecDepth 100000 in
theorem ok_X6_takeBack : okM mX6_takeBack := ⟨gw_T4 162 rfl rfl, in_X6, by decide +kernel, by decide +kernel, by decide +kernel, by decide +kernel⟩
set_option maxRecDepth 100000 in
theorem im_X6_takeBack : Cond.instanceMethod yX6_takeBack ∈ gw := gw_T4 160 rfl rfl
set_option maxRecDepth 100000 in
theorem se_X6_takeBack : Cond.selects RX6 yX6_takeBack yX6_takeBack ∈ gw := gw_T4 161 rfl rfl
set_option maxRecDepth 100000 in
theorem ok_X7_blame : okM mX7_blame := ⟨gw_T3 121 rfl rfl, in_X7, by decide +kernel, by decide +kernel, by decide +kernel, by decide +kernel⟩
set_option maxRecDepth 100000 in
theorem im_X7_blame : Cond.instanceMethod yX7_blame ∈ gw := gw_T3 120 rfl rfl
set_option maxRecDepth 100000 in
theorem se_X7_blame : Cond.selects RX7 yX7_blame yX7_blame ∈ gw := gw_S 16 rfl rfl
set_option maxRecDepth 100000 in
theorem ok_X7_cellOf : okM mX7_cellOf := ⟨gw_T3 174 rfl rfl, in_X7, by decide +kernel, by decide +kernel, by decide +kernel, by decide +kernel⟩
set_option maxRecDepth 100000 in
theorem im_X7_cellOf : Cond.instanceMethod yX7_cellOf ∈ gw := gw_T3 173 rfl rfl
set_option maxRecDepth 100000 in
theorem se_X7_cellOf : Cond.selects RX7 yX7_cellOf yX7_cellOf ∈ gw := gw_S 26 rfl rfl
set_option maxRecDepth 100000 in
theorem ok_X7_clear : okM mX7_clear := ⟨gw_T3 18 rfl rfl, in_X7, by decide +kernel, by decide +kernel, by decide +kernel, by decide +kernel⟩
set_option maxRecDepth 100000 in
theorem im_X7_clear : Cond.instanceMethod yX7_clear ∈ gw := gw_T3 17 rfl rfl
set_option maxRecDepth 100000 in
theorem se_X7_clear : Cond.selects RX7 yX7_clear yX7_clear ∈ gw := gw_S 1 rfl rfl
set_option maxRecDepth 100000 in
theorem ok_X7_init : okM mX7_init := ⟨gw_T1 34 rfl rfl, in_X7, by decide +kernel, by decide +kernel, by decide +kernel, by decide +kernel⟩
set_option maxRecDepth 100000 in
theorem im_X7_init : Cond.instanceMethod yX7_init ∈ gw := gw_T1 33 rfl rfl
set_option maxRecDepth 100000 in
theorem ok_X7_kind : okM mX7_kind := ⟨gw_T3 85 rfl rfl, in_X7, by decide +kernel, by decide +kernel, by decide +kernel, by decide +kernel⟩
set_option maxRecDepth 100000 in
theorem im_X7_kind : Cond.instanceMethod yX7_kind ∈ gw := gw_T3 84 rfl rfl
set_option maxRecDepth 100000 in
theorem se_X7_kind : Cond.selects RX7 yX7_kind yX7_kind ∈ gw := gw_S 10 rfl rfl
set_option maxRecDepth 100000 in
theorem ok_X7_layOut : okM mX7_layOut := ⟨gw_T3 166 rfl rfl, in_X7, by decide +kernel, by decide +kernel, by decide +kernel, by decide +kernel⟩
set_option maxRecDepth 100000 in
theorem im_X7_layOut : Cond.instanceMethod yX7_layOut ∈ gw := gw_T3 165 rfl rfl
set_option maxRecDepth 100000 in
theorem se_X7_layOut : Cond.selects RX7 yX7_layOut yX7_layOut ∈ gw := gw_S 24 rfl rfl
set_option maxRecDepth 100000 in
theorem ok_X7_onLawn : okM mX7_onLawn := ⟨gw_T3 170 rfl rfl, in_X7, by decide +kernel, by decide +kernel, by decide +kernel, by decide +kernel⟩
set_option maxRecDepth 100000 in
theorem im_X7_onLawn : Cond.instanceMethod yX7_onLawn ∈ gw := gw_T3 169 rfl rfl
set_option maxRecDepth 100000 in
theorem se_X7_onLawn : Cond.selects RX7 yX7_onLawn yX7_onLawn ∈ gw := gw_S 25 rfl rfl
set_option maxRecDepth 100000 in
theorem ok_X7_readGoer : okM mX7_readGoer := ⟨gw_T3 136 rfl rfl, in_X7, by decide +kernel, by decide +kernel, by decide +kernel, by decide +kernel⟩
set_option maxRecDepth 100000 in
theorem im_X7_readGoer : Cond.instanceMethod yX7_readGoer ∈ gw := gw_T3 135 rfl rfl
set_option maxRecDepth 100000 in
theorem se_X7_readGoer : Cond.selects RX7 yX7_readGoer yX7_readGoer ∈ gw := gw_S 19 rfl rfl
set_option maxRecDepth 100000 in
theorem ok_X7_readLaw : okM mX7_readLaw := ⟨gw_T3 144 rfl rfl, in_X7, by decide +kernel, by decide +kernel, by decide +kernel, by decide +kernel⟩
set_option maxRecDepth 100000 in
theorem im_X7_readLaw : Cond.instanceMethod yX7_readLaw ∈ gw := gw_T3 143 rfl rfl
set_option maxRecDepth 100000 in
theorem se_X7_readLaw : Cond.selects RX7 yX7_readLaw yX7_readLaw ∈ gw := gw_S 21 rfl rfl
set_option maxRecDepth 100000 in
theorem ok_X7_readLawn : okM mX7_readLawn := ⟨gw_T3 97 rfl rfl, in_X7, by decide +kernel, by decide +kernel, by decide +kernel, by decide +kernel⟩
set_option maxRecDepth 100000 in
theorem im_X7_readLawn : Cond.instanceMethod yX7_readLawn ∈ gw := gw_T3 96 rfl rfl
set_option maxRecDepth 100000 in
theorem se_X7_readLawn : Cond.selects RX7 yX7_readLawn yX7_readLawn ∈ gw := gw_S 12 rfl rfl
set_option maxRecDepth 100000 in
theorem ok_X7_readRope : okM mX7_readRope := ⟨gw_T3 140 rfl rfl, in_X7, by decide +kernel, by decide +kernel, by decide +kernel, by decide +kernel⟩
set_option maxRecDepth 100000 in
theorem im_X7_readRope : Cond.instanceMethod yX7_readRope ∈ gw := gw_T3 139 rfl rfl
set_option maxRecDepth 100000 in
theorem se_X7_readRope : Cond.selects RX7 yX7_readRope yX7_readRope ∈ gw := gw_S 20 rfl rfl
set_option maxRecDepth 100000 in
theorem ok_X7_readSum : okM mX7_readSum := ⟨gw_T3 149 rfl rfl, in_X7, by decide +kernel, by decide +kernel, by decide +kernel, by decide +kernel⟩
set_option maxRecDepth 100000 in
theorem im_X7_readSum : Cond.instanceMethod yX7_readSum ∈ gw := gw_T3 148 rfl rfl
set_option maxRecDepth 100000 in
theorem se_X7_readSum : Cond.selects RX7 yX7_readSum yX7_readSum ∈ gw := gw_S 22 rfl rfl
set_option maxRecDepth 100000 in
theorem ok_X7_readTell : okM mX7_readTell := ⟨gw_T3 93 rfl rfl, in_X7, by decide +kernel, by decide +kernel, by decide +kernel, by decide +kernel⟩
set_option maxRecDepth 100000 in
theorem im_X7_readTell : Cond.instanceMethod yX7_readTell ∈ gw := gw_T3 92 rfl rfl
set_option maxRecDepth 100000 in
theorem se_X7_readTell : Cond.selects RX7 yX7_readTell yX7_readTell ∈ gw := gw_S 11 rfl rfl
set_option maxRecDepth 100000 in
theorem ok_X7_readText : okM mX7_readText := ⟨gw_T3 14 rfl rfl, in_X7, by decide +kernel, by decide +kernel, by decide +kernel, by decide +kernel⟩
set_option maxRecDepth 100000 in
theorem im_X7_readText : Cond.instanceMethod yX7_readText ∈ gw := gw_T3 12 rfl rfl
set_option maxRecDepth 100000 in
theorem se_X7_readText : Cond.selects RX7 yX7_readText yX7_readText ∈ gw := gw_T3 13 rfl rfl
set_option maxRecDepth 100000 in
theorem ok_X7_readTune : okM mX7_readTune := ⟨gw_T3 128 rfl rfl, in_X7, by decide +kernel, by decide +kernel, by decide +kernel, by decide +kernel⟩
set_option maxRecDepth 100000 in
theorem im_X7_readTune : Cond.instanceMethod yX7_readTune ∈ gw := gw_T3 127 rfl rfl
set_option maxRecDepth 100000 in
theorem se_X7_readTune : Cond.selects RX7 yX7_readTune yX7_readTune ∈ gw := gw_S 17 rfl rfl
set_option maxRecDepth 100000 in
theorem ok_X7_readUnit : okM mX7_readUnit := ⟨gw_T3 153 rfl rfl, in_X7, by decide +kernel, by decide +kernel, by decide +kernel, by decide +kernel⟩
set_option maxRecDepth 100000 in
theorem im_X7_readUnit : Cond.instanceMethod yX7_readUnit ∈ gw := gw_T3 152 rfl rfl
set_option maxRecDepth 100000 in
theorem se_X7_readUnit : Cond.selects RX7 yX7_readUnit yX7_readUnit ∈ gw := gw_S 23 rfl rfl
set_option maxRecDepth 100000 in
theorem ok_X7_stop : okM mX7_stop := ⟨gw_T3 105 rfl rfl, in_X7, by decide +kernel, by decide +kernel, by decide +kernel, by decide +kernel⟩
set_option maxRecDepth 100000 in
theorem im_X7_stop : Cond.instanceMethod yX7_stop ∈ gw := gw_T3 104 rfl rfl
set_option maxRecDepth 100000 in
theorem se_X7_stop : Cond.selects RX7 yX7_stop yX7_stop ∈ gw := gw_S 14 rfl rfl
set_option maxRecDepth 100000 in
theorem ok_X7_take : okM mX7_take := ⟨gw_T3 101 rfl rfl, in_X7, by decide +kernel, by decide +kernel, by decide +kernel, by decide +kernel⟩
set_option maxRecDepth 100000 in
theorem im_X7_take : Cond.instanceMethod yX7_take ∈ gw := gw_T3 100 rfl rfl
set_option maxRecDepth 100000 in
theorem se_X7_take : Cond.selects RX7 yX7_take yX7_take ∈ gw := gw_S 13 rfl rfl
set_option maxRecDepth 100000 in
theorem ok_X7_takeNumber : okM mX7_takeNumber := ⟨gw_T3 109 rfl rfl, in_X7, by decide +kernel, by decide +kernel, by decide +kernel, by decide +kernel⟩
set_option maxRecDepth 100000 in
theorem im_X7_takeNumber : Cond.instanceMethod yX7_takeNumber ∈ gw := gw_T3 108 rfl rfl
set_option maxRecDepth 100000 in
theorem se_X7_takeNumber : Cond.selects RX7 yX7_takeNumber yX7_takeNumber ∈ gw := gw_S 15 rfl rfl
set_option maxRecDepth 100000 in
theorem ok_X7_takeSpot : okM mX7_takeSpot := ⟨gw_T3 132 rfl rfl, in_X7, by decide +kernel, by decide +kernel, by decide +kernel, by decide +kernel⟩
set_option maxRecDepth 100000 in
theorem im_X7_takeSpot : Cond.instanceMethod yX7_takeSpot ∈ gw := gw_T3 131 rfl rfl
set_option maxRecDepth 100000 in
theorem se_X7_takeSpot : Cond.selects RX7 yX7_takeSpot yX7_takeSpot ∈ gw := gw_S 18 rfl rfl
set_option maxRecDepth 100000 in
theorem ok_X8_allTunesDivide : okM mX8_allTunesDivide := ⟨gw_T4 201 rfl rfl, in_X8, by decide +kernel, by decide +kernel, by decide +kernel, by decide +kernel⟩
set_option maxRecDepth 100000 in
theorem im_X8_allTunesDivide : Cond.instanceMethod yX8_allTunesDivide ∈ gw := gw_T4 199 rfl rfl
set_option maxRecDepth 100000 in
theorem se_X8_allTunesDivide : Cond.selects RX8 yX8_allTunesDivide yX8_allTunesDivide ∈ gw := gw_T4 200 rfl rfl
set_option maxRecDepth 100000 in
theorem ok_X8_beatOf : okM mX8_beatOf := ⟨gw_T3 226 rfl rfl, in_X8, by decide +kernel, by decide +kernel, by decide +kernel, by decide +kernel⟩
set_option maxRecDepth 100000 in
theorem im_X8_beatOf : Cond.instanceMethod yX8_beatOf ∈ gw := gw_T3 224 rfl rfl
set_option maxRecDepth 100000 in
theorem se_X8_beatOf : Cond.selects RX8 yX8_beatOf yX8_beatOf ∈ gw := gw_T3 225 rfl rfl
set_option maxRecDepth 100000 in
theorem ok_X8_become : okM mX8_become := ⟨gw_T3 197 rfl rfl, in_X8, by decide +kernel, by decide +kernel, by decide +kernel, by decide +kernel⟩
set_option maxRecDepth 100000 in
theorem im_X8_become : Cond.instanceMethod yX8_become ∈ gw := gw_T3 195 rfl rfl
set_option maxRecDepth 100000 in
theorem se_X8_become : Cond.selects RX8 yX8_become yX8_become ∈ gw := gw_T3 196 rfl rfl
set_option maxRecDepth 100000 in
theorem ok_X8_clear : okM mX8_clear := ⟨gw_T3 23 rfl rfl, in_X8, by decide +kernel, by decide +kernel, by decide +kernel, by decide +kernel⟩
set_option maxRecDepth 100000 in
theorem im_X8_clear : Cond.instanceMethod yX8_clear ∈ gw := gw_T3 21 rfl rfl
set_option maxRecDepth 100000 in
theorem se_X8_clear : Cond.selects RX8 yX8_clear yX8_clear ∈ gw := gw_T3 22 rfl rfl
set_option maxRecDepth 100000 in
theorem ok_X8_goersIn : okM mX8_goersIn := ⟨gw_T4 5 rfl rfl, in_X8, by decide +kernel, by decide +kernel, by decide +kernel, by decide +kernel⟩
set_option maxRecDepth 100000 in
theorem im_X8_goersIn : Cond.instanceMethod yX8_goersIn ∈ gw := gw_T4 3 rfl rfl
set_option maxRecDepth 100000 in
theorem se_X8_goersIn : Cond.selects RX8 yX8_goersIn yX8_goersIn ∈ gw := gw_T4 4 rfl rfl
set_option maxRecDepth 100000 in
theorem ok_X8_hush : okM mX8_hush := ⟨gw_T4 104 rfl rfl, in_X8, by decide +kernel, by decide +kernel, by decide +kernel, by decide +kernel⟩
set_option maxRecDepth 100000 in
theorem im_X8_hush : Cond.instanceMethod yX8_hush ∈ gw := gw_T4 102 rfl rfl
set_option maxRecDepth 100000 in
theorem se_X8_hush : Cond.selects RX8 yX8_hush yX8_hush ∈ gw := gw_T4 103 rfl rfl
set_option maxRecDepth 100000 in
theorem ok_X8_init : okM mX8_init := ⟨gw_T1 122 rfl rfl, in_X8, by decide +kernel, by decide +kernel, by decide +kernel, by decide +kernel⟩
set_option maxRecDepth 100000 in
theorem im_X8_init : Cond.instanceMethod yX8_init ∈ gw := gw_T1 121 rfl rfl
set_option maxRecDepth 100000 in
theorem ok_X8_isRoped : okM mX8_isRoped := ⟨gw_T4 1 rfl rfl, in_X8, by decide +kernel, by decide +kernel, by decide +kernel, by decide +kernel⟩
set_option maxRecDepth 100000 in
theorem im_X8_isRoped : Cond.instanceMethod yX8_isRoped ∈ gw := gw_T3 239 rfl rfl
set_option maxRecDepth 100000 in
theorem se_X8_isRoped : Cond.selects RX8 yX8_isRoped yX8_isRoped ∈ gw := gw_T4 0 rfl rfl
set_option maxRecDepth 100000 in
theorem ok_X8_isTuned : okM mX8_isTuned := ⟨gw_T3 222 rfl rfl, in_X8, by decide +kernel, by decide +kernel, by decide +kernel, by decide +kernel⟩
set_option maxRecDepth 100000 in
theorem im_X8_isTuned : Cond.instanceMethod yX8_isTuned ∈ gw := gw_T3 220 rfl rfl
set_option maxRecDepth 100000 in
theorem se_X8_isTuned : Cond.selects RX8 yX8_isTuned yX8_isTuned ∈ gw := gw_T3 221 rfl rfl
set_option maxRecDepth 100000 in
theorem ok_X8_loudAt : okM mX8_loudAt := ⟨gw_T4 74 rfl rfl, in_X8, by decide +kernel, by decide +kernel, by decide +kernel, by decide +kernel⟩
set_option maxRecDepth 100000 in
theorem im_X8_loudAt : Cond.instanceMethod yX8_loudAt ∈ gw := gw_T4 72 rfl rfl
set_option maxRecDepth 100000 in
theorem se_X8_loudAt : Cond.selects RX8 yX8_loudAt yX8_loudAt ∈ gw := gw_T4 73 rfl rfl
set_option maxRecDepth 100000 in
theorem ok_X8_offsetOf : okM mX8_offsetOf := ⟨gw_T3 231 rfl rfl, in_X8, by decide +kernel, by decide +kernel, by decide +kernel, by decide +kernel⟩
set_option maxRecDepth 100000 in
theorem im_X8_offsetOf : Cond.instanceMethod yX8_offsetOf ∈ gw := gw_T3 229 rfl rfl
set_option maxRecDepth 100000 in
theorem se_X8_offsetOf : Cond.selects RX8 yX8_offsetOf yX8_offsetOf ∈ gw := gw_T3 230 rfl rfl
set_option maxRecDepth 100000 in
theorem ok_X8_soundFromTheLeft : okM mX8_soundFromTheLeft := ⟨gw_T4 153 rfl rfl, in_X8, by decide +kernel, by decide +kernel, by decide +kernel, by decide +kernel⟩
set_option maxRecDepth 100000 in
theorem im_X8_soundFromTheLeft : Cond.instanceMethod yX8_soundFromTheLeft ∈ gw := gw_T4 151 rfl rfl
set_option maxRecDepth 100000 in
theorem se_X8_soundFromTheLeft : Cond.selects RX8 yX8_soundFromTheLeft yX8_soundFromTheLeft ∈ gw := gw_T4 152 rfl rfl
set_option maxRecDepth 100000 in
theorem ok_X8_soundIn : okM mX8_soundIn := ⟨gw_T3 178 rfl rfl, in_X8, by decide +kernel, by decide +kernel, by decide +kernel, by decide +kernel⟩
set_option maxRecDepth 100000 in
theorem im_X8_soundIn : Cond.instanceMethod yX8_soundIn ∈ gw := gw_T3 176 rfl rfl
set_option maxRecDepth 100000 in
theorem se_X8_soundIn : Cond.selects RX8 yX8_soundIn yX8_soundIn ∈ gw := gw_T3 177 rfl rfl
set_option maxRecDepth 100000 in
theorem ok_X8_soundsAt : okM mX8_soundsAt := ⟨gw_T3 235 rfl rfl, in_X8, by decide +kernel, by decide +kernel, by decide +kernel, by decide +kernel⟩
set_option maxRecDepth 100000 in
theorem im_X8_soundsAt : Cond.instanceMethod yX8_soundsAt ∈ gw := gw_T3 233 rfl rfl
set_option maxRecDepth 100000 in
theorem se_X8_soundsAt : Cond.selects RX8 yX8_soundsAt yX8_soundsAt ∈ gw := gw_T3 234 rfl rfl
set_option maxRecDepth 100000 in
theorem ok_X8_stoodOn : okM mX8_stoodOn := ⟨gw_T4 69 rfl rfl, in_X8, by decide +kernel, by decide +kernel, by decide +kernel, by decide +kernel⟩
set_option maxRecDepth 100000 in
theorem im_X8_stoodOn : Cond.instanceMethod yX8_stoodOn ∈ gw := gw_T4 67 rfl rfl
set_option maxRecDepth 100000 in
theorem se_X8_stoodOn : Cond.selects RX8 yX8_stoodOn yX8_stoodOn ∈ gw := gw_T4 68 rfl rfl
set_option maxRecDepth 100000 in
theorem ok_X9_behindBlanks : okM mX9_behindBlanks := ⟨gw_T3 41 rfl rfl, in_X9, by decide +kernel, by decide +kernel, by decide +kernel, by decide +kernel⟩
set_option maxRecDepth 100000 in
theorem im_X9_behindBlanks : Cond.instanceMethod yX9_behindBlanks ∈ gw := gw_T3 40 rfl rfl
set_option maxRecDepth 100000 in
theorem se_X9_behindBlanks : Cond.selects RX9 yX9_behindBlanks yX9_behindBlanks ∈ gw := gw_S 2 rfl rfl
set_option maxRecDepth 100000 in
theorem ok_X9_behindDigits : okM mX9_behindDigits := ⟨gw_T3 74 rfl rfl, in_X9, by decide +kernel, by decide +kernel, by decide +kernel, by decide +kernel⟩
set_option maxRecDepth 100000 in
theorem im_X9_behindDigits : Cond.instanceMethod yX9_behindDigits ∈ gw := gw_T3 73 rfl rfl
set_option maxRecDepth 100000 in
theorem se_X9_behindDigits : Cond.selects RX9 yX9_behindDigits yX9_behindDigits ∈ gw := gw_S 8 rfl rfl
set_option maxRecDepth 100000 in
theorem ok_X9_behindLetters : okM mX9_behindLetters := ⟨gw_T3 59 rfl rfl, in_X9, by decide +kernel, by decide +kernel, by decide +kernel, by decide +kernel⟩
set_option maxRecDepth 100000 in
theorem im_X9_behindLetters : Cond.instanceMethod yX9_behindLetters ∈ gw := gw_T3 58 rfl rfl
set_option maxRecDepth 100000 in
theorem se_X9_behindLetters : Cond.selects RX9 yX9_behindLetters yX9_behindLetters ∈ gw := gw_S 5 rfl rfl
set_option maxRecDepth 100000 in
theorem ok_X9_init : okM mX9_init := ⟨gw_T1 166 rfl rfl, in_X9, by decide +kernel, by decide +kernel, by decide +kernel, by decide +kernel⟩
set_option maxRecDepth 100000 in
theorem im_X9_init : Cond.instanceMethod yX9_init ∈ gw := gw_T1 165 rfl rfl
set_option maxRecDepth 100000 in
theorem ok_X9_isBlank : okM mX9_isBlank := ⟨gw_T3 48 rfl rfl, in_X9, by decide +kernel, by decide +kernel, by decide +kernel, by decide +kernel⟩
set_option maxRecDepth 100000 in
theorem sm_X9_isBlank : Cond.static yX9_isBlank ∈ gw := gw_T3 47 rfl rfl
set_option maxRecDepth 100000 in
theorem ok_X9_isDigit : okM mX9_isDigit := ⟨gw_T3 70 rfl rfl, in_X9, by decide +kernel, by decide +kernel, by decide +kernel, by decide +kernel⟩
set_option maxRecDepth 100000 in
theorem sm_X9_isDigit : Cond.static yX9_isDigit ∈ gw := gw_T3 69 rfl rfl
set_option maxRecDepth 100000 in
theorem ok_X9_isLetter : okM mX9_isLetter := ⟨gw_T3 55 rfl rfl, in_X9, by decide +kernel, by decide +kernel, by decide +kernel, by decide +kernel⟩
set_option maxRecDepth 100000 in
theorem sm_X9_isLetter : Cond.static yX9_isLetter ∈ gw := gw_T3 54 rfl rfl
set_option maxRecDepth 100000 in
theorem ok_X9_isSign : okM mX9_isSign := ⟨gw_T3 81 rfl rfl, in_X9, by decide +kernel, by decide +kernel, by decide +kernel, by decide +kernel⟩
set_option maxRecDepth 100000 in
theorem sm_X9_isSign : Cond.static yX9_isSign ∈ gw := gw_T3 80 rfl rfl
set_option maxRecDepth 100000 in
theorem ok_X9_keep : okM mX9_keep := ⟨gw_T3 52 rfl rfl, in_X9, by decide +kernel, by decide +kernel, by decide +kernel, by decide +kernel⟩
set_option maxRecDepth 100000 in
theorem im_X9_keep : Cond.instanceMethod yX9_keep ∈ gw := gw_T3 51 rfl rfl
set_option maxRecDepth 100000 in
theorem se_X9_keep : Cond.selects RX9 yX9_keep yX9_keep ∈ gw := gw_S 4 rfl rfl
set_option maxRecDepth 100000 in
theorem ok_X9_kindOf : okM mX9_kindOf := ⟨gw_T3 89 rfl rfl, in_X9, by decide +kernel, by decide +kernel, by decide +kernel, by decide +kernel⟩
set_option maxRecDepth 100000 in
theorem im_X9_kindOf : Cond.instanceMethod yX9_kindOf ∈ gw := gw_T3 87 rfl rfl
set_option maxRecDepth 100000 in
theorem se_X9_kindOf : Cond.selects RX9 yX9_kindOf yX9_kindOf ∈ gw := gw_T3 88 rfl rfl
set_option maxRecDepth 100000 in
theorem ok_X9_kindOfLetters : okM mX9_kindOfLetters := ⟨gw_T3 67 rfl rfl, in_X9, by decide +kernel, by decide +kernel, by decide +kernel, by decide +kernel⟩
set_option maxRecDepth 100000 in
theorem im_X9_kindOfLetters : Cond.instanceMethod yX9_kindOfLetters ∈ gw := gw_T3 66 rfl rfl
set_option maxRecDepth 100000 in
theorem se_X9_kindOfLetters : Cond.selects RX9 yX9_kindOfLetters yX9_kindOfLetters ∈ gw := gw_S 7 rfl rfl
set_option maxRecDepth 100000 in
theorem ok_X9_lettersOf : okM mX9_lettersOf := ⟨gw_T3 63 rfl rfl, in_X9, by decide +kernel, by decide +kernel, by decide +kernel, by decide +kernel⟩
set_option maxRecDepth 100000 in
theorem im_X9_lettersOf : Cond.instanceMethod yX9_lettersOf ∈ gw := gw_T3 62 rfl rfl
set_option maxRecDepth 100000 in
theorem se_X9_lettersOf : Cond.selects RX9 yX9_lettersOf yX9_lettersOf ∈ gw := gw_S 6 rfl rfl
set_option maxRecDepth 100000 in
theorem ok_X9_numberOf : okM mX9_numberOf := ⟨gw_T3 78 rfl rfl, in_X9, by decide +kernel, by decide +kernel, by decide +kernel, by decide +kernel⟩
set_option maxRecDepth 100000 in
theorem im_X9_numberOf : Cond.instanceMethod yX9_numberOf ∈ gw := gw_T3 77 rfl rfl
set_option maxRecDepth 100000 in
theorem se_X9_numberOf : Cond.selects RX9 yX9_numberOf yX9_numberOf ∈ gw := gw_S 9 rfl rfl
set_option maxRecDepth 100000 in
theorem ok_X9_placeOf : okM mX9_placeOf := ⟨gw_T3 117 rfl rfl, in_X9, by decide +kernel, by decide +kernel, by decide +kernel, by decide +kernel⟩
set_option maxRecDepth 100000 in
theorem im_X9_placeOf : Cond.instanceMethod yX9_placeOf ∈ gw := gw_T3 115 rfl rfl
set_option maxRecDepth 100000 in
theorem se_X9_placeOf : Cond.selects RX9 yX9_placeOf yX9_placeOf ∈ gw := gw_T3 116 rfl rfl
set_option maxRecDepth 100000 in
theorem ok_X9_scan : okM mX9_scan := ⟨gw_T3 31 rfl rfl, in_X9, by decide +kernel, by decide +kernel, by decide +kernel, by decide +kernel⟩
set_option maxRecDepth 100000 in
theorem im_X9_scan : Cond.instanceMethod yX9_scan ∈ gw := gw_T3 29 rfl rfl
set_option maxRecDepth 100000 in
theorem se_X9_scan : Cond.selects RX9 yX9_scan yX9_scan ∈ gw := gw_T3 30 rfl rfl
set_option maxRecDepth 100000 in
theorem ok_X9_signAt : okM mX9_signAt := ⟨gw_T3 45 rfl rfl, in_X9, by decide +kernel, by decide +kernel, by decide +kernel, by decide +kernel⟩
set_option maxRecDepth 100000 in
theorem im_X9_signAt : Cond.instanceMethod yX9_signAt ∈ gw := gw_T3 44 rfl rfl
set_option maxRecDepth 100000 in
theorem se_X9_signAt : Cond.selects RX9 yX9_signAt yX9_signAt ∈ gw := gw_S 3 rfl rfl
set_option maxRecDepth 100000 in
theorem ok_X9_valueOf : okM mX9_valueOf := ⟨gw_T3 113 rfl rfl, in_X9, by decide +kernel, by decide +kernel, by decide +kernel, by decide +kernel⟩
set_option maxRecDepth 100000 in
theorem im_X9_valueOf : Cond.instanceMethod yX9_valueOf ∈ gw := gw_T3 111 rfl rfl
set_option maxRecDepth 100000 in
theorem se_X9_valueOf : Cond.selects RX9 yX9_valueOf yX9_valueOf ∈ gw := gw_T3 112 rfl rfl
set_option maxRecDepth 100000 in
theorem ok_X9_withLetter : okM mX9_withLetter := ⟨gw_T1 219 rfl rfl, in_X9, by decide +kernel, by decide +kernel, by decide +kernel, by decide +kernel⟩
set_option maxRecDepth 100000 in
theorem sm_X9_withLetter : Cond.static yX9_withLetter ∈ gw := gw_T1 218 rfl rfl
