set_option maxRecDepth 100000 in
theorem se_X12_begins : Cond.selects RX12 yX12_begins yX12_begins ∈ gw := gw_S 49 rfl rfl
set_option maxRecDepth 100000 in
theorem ok_X12_bits : okM mX12_bits := ⟨gw_T7 112 rfl rfl, in_X12, by decide +kernel, by decide +kernel, by decide +kernel, by decide +kernel⟩
set_option maxRecDepth 100000 in
theorem sm_X12_bits : Cond.static yX12_bits ∈ gw := gw_T7 111 rfl rfl
set_option maxRecDepth 100000 in
theorem ok_X12_bounded : okM mX12_bounded := ⟨gw_T7 10 rfl rfl, in_X12, by decide +kernel, by decide +kernel, by decide +kernel, by decide +kernel⟩
set_option maxRecDepth 100000 in
theorem im_X12_bounded : Cond.instanceMethod yX12_bounded ∈ gw := gw_T7 9 rfl rfl
set_option maxRecDepth 100000 in
theorem se_X12_bounded : Cond.selects RX12 yX12_bounded yX12_bounded ∈ gw := gw_S 63 rfl rfl
set_option maxRecDepth 100000 in
theorem ok_X12_byteAt : okM mX12_byteAt := ⟨gw_T6 216 rfl rfl, in_X12, by decide +kernel, by decide +kernel, by decide +kernel, by decide +kernel⟩
set_option maxRecDepth 100000 in
theorem im_X12_byteAt : Cond.instanceMethod yX12_byteAt ∈ gw := gw_T6 215 rfl rfl
set_option maxRecDepth 100000 in
theorem se_X12_byteAt : Cond.selects RX12 yX12_byteAt yX12_byteAt ∈ gw := gw_S 56 rfl rfl
set_option maxRecDepth 100000 in
theorem ok_X12_carry : okM mX12_carry := ⟨gw_T7 159 rfl rfl, in_X12, by decide +kernel, by decide +kernel, by decide +kernel, by decide +kernel⟩
set_option maxRecDepth 100000 in
theorem im_X12_carry : Cond.instanceMethod yX12_carry ∈ gw := gw_T7 157 rfl rfl
set_option maxRecDepth 100000 in
theorem se_X12_carry : Cond.selects RX12 yX12_carry yX12_carry ∈ gw := gw_T7 158 rfl rfl
set_option maxRecDepth 100000 in
theorem ok_X12_cell : okM mX12_cell := ⟨gw_T7 74 rfl rfl, in_X12, by decide +kernel, by decide +kernel, by decide +kernel, by decide +kernel⟩
set_option maxRecDepth 100000 in
theorem im_X12_cell : Cond.instanceMethod yX12_cell ∈ gw := gw_T7 72 rfl rfl
set_option maxRecDepth 100000 in
theorem se_X12_cell : Cond.selects RX12 yX12_cell yX12_cell ∈ gw := gw_T7 73 rfl rfl
set_option maxRecDepth 100000 in
theorem ok_X12_cellAt : okM mX12_cellAt := ⟨gw_T5 210 rfl rfl, in_X12, by decide +kernel, by decide +kernel, by decide +kernel, by decide +kernel⟩
set_option maxRecDepth 100000 in
theorem im_X12_cellAt : Cond.instanceMethod yX12_cellAt ∈ gw := gw_T5 209 rfl rfl
set_option maxRecDepth 100000 in
theorem se_X12_cellAt : Cond.selects RX12 yX12_cellAt yX12_cellAt ∈ gw := gw_S 50 rfl rfl
set_option maxRecDepth 100000 in
theorem ok_X12_cellBehind : okM mX12_cellBehind := ⟨gw_T8 17 rfl rfl, in_X12, by decide +kernel, by decide +kernel, by decide +kernel, by decide +kernel⟩
set_option maxRecDepth 100000 in
theorem im_X12_cellBehind : Cond.instanceMethod yX12_cellBehind ∈ gw := gw_T8 16 rfl rfl
set_option maxRecDepth 100000 in
theorem se_X12_cellBehind : Cond.selects RX12 yX12_cellBehind yX12_cellBehind ∈ gw := gw_S 105 rfl rfl
set_option maxRecDepth 100000 in
theorem ok_X12_cells : okM mX12_cells := ⟨gw_T5 218 rfl rfl, in_X12, by decide +kernel, by decide +kernel, by decide +kernel, by decide +kernel⟩
set_option maxRecDepth 100000 in
theorem im_X12_cells : Cond.instanceMethod yX12_cells ∈ gw := gw_T5 217 rfl rfl
set_option maxRecDepth 100000 in
theorem se_X12_cells : Cond.selects RX12 yX12_cells yX12_cells ∈ gw := gw_S 52 rfl rfl
set_option maxRecDepth 100000 in
theorem ok_X12_centre : okM mX12_centre := ⟨gw_T8 68 rfl rfl, in_X12, by decide +kernel, by decide +kernel, by decide +kernel, by decide +kernel⟩
set_option maxRecDepth 100000 in
theorem im_X12_centre : Cond.instanceMethod yX12_centre ∈ gw := gw_T8 66 rfl rfl
set_option maxRecDepth 100000 in
theorem se_X12_centre : Cond.selects RX12 yX12_centre yX12_centre ∈ gw := gw_T8 67 rfl rfl
set_option maxRecDepth 100000 in
theorem ok_X12_chorus : okM mX12_chorus := ⟨gw_T7 218 rfl rfl, in_X12, by decide +kernel, by decide +kernel, by decide +kernel, by decide +kernel⟩
set_option maxRecDepth 100000 in
theorem im_X12_chorus : Cond.instanceMethod yX12_chorus ∈ gw := gw_T7 216 rfl rfl
set_option maxRecDepth 100000 in
theorem se_X12_chorus : Cond.selects RX12 yX12_chorus yX12_chorus ∈ gw := gw_T7 217 rfl rfl
set_option maxRecDepth 100000 in
theorem ok_X12_comesOut : okM mX12_comesOut := ⟨gw_T7 54 rfl rfl, in_X12, by decide +kernel, by decide +kernel, by decide +kernel, by decide +kernel⟩
set_option maxRecDepth 100000 in
theorem im_X12_comesOut : Cond.instanceMethod yX12_comesOut ∈ gw := gw_T7 53 rfl rfl
set_option maxRecDepth 100000 in
theorem se_X12_comesOut : Cond.selects RX12 yX12_comesOut yX12_comesOut ∈ gw := gw_S 74 rfl rfl
set_option maxRecDepth 100000 in
theorem ok_X12_copies : okM mX12_copies := ⟨gw_T7 85 rfl rfl, in_X12, by decide +kernel, by decide +kernel, by decide +kernel, by decide +kernel⟩
set_option maxRecDepth 100000 in
theorem im_X12_copies : Cond.instanceMethod yX12_copies ∈ gw := gw_T7 84 rfl rfl
set_option maxRecDepth 100000 in
theorem se_X12_copies : Cond.selects RX12 yX12_copies yX12_copies ∈ gw := gw_S 79 rfl rfl
set_option maxRecDepth 100000 in
theorem ok_X12_copiesStill : okM mX12_copiesStill := ⟨gw_T8 80 rfl rfl, in_X12, by decide +kernel, by decide +kernel, by decide +kernel, by decide +kernel⟩
set_option maxRecDepth 100000 in
theorem im_X12_copiesStill : Cond.instanceMethod yX12_copiesStill ∈ gw := gw_T8 79 rfl rfl
set_option maxRecDepth 100000 in
theorem se_X12_copiesStill : Cond.selects RX12 yX12_copiesStill yX12_copiesStill ∈ gw := gw_S 113 rfl rfl
set_option maxRecDepth 100000 in
theorem ok_X12_costsAll : okM mX12_costsAll := ⟨gw_T8 174 rfl rfl, in_X12, by decide +kernel, by decide +kernel, by decide +kernel, by decide +kernel⟩
set_option maxRecDepth 100000 in
theorem im_X12_costsAll : Cond.instanceMethod yX12_costsAll ∈ gw := gw_T8 173 rfl rfl
set_option maxRecDepth 100000 in
theorem se_X12_costsAll : Cond.selects RX12 yX12_costsAll yX12_costsAll ∈ gw := gw_S 122 rfl rfl
set_option maxRecDepth 100000 in
theorem ok_X12_costsOf : okM mX12_costsOf := ⟨gw_T7 101 rfl rfl, in_X12, by decide +kernel, by decide +kernel, by decide +kernel, by decide +kernel⟩
set_option maxRecDepth 100000 in
theorem im_X12_costsOf : Cond.instanceMethod yX12_costsOf ∈ gw := gw_T7 100 rfl rfl
set_option maxRecDepth 100000 in
theorem se_X12_costsOf : Cond.selects RX12 yX12_costsOf yX12_costsOf ∈ gw := gw_S 83 rfl rfl
set_option maxRecDepth 100000 in
theorem ok_X12_count : okM mX12_count := ⟨gw_T8 170 rfl rfl, in_X12, by decide +kernel, by decide +kernel, by decide +kernel, by decide +kernel⟩
set_option maxRecDepth 100000 in
theorem im_X12_count : Cond.instanceMethod yX12_count ∈ gw := gw_T8 168 rfl rfl
set_option maxRecDepth 100000 in
theorem se_X12_count : Cond.selects RX12 yX12_count yX12_count ∈ gw := gw_T8 169 rfl rfl
set_option maxRecDepth 100000 in
theorem ok_X12_cut : okM mX12_cut := ⟨gw_T6 212 rfl rfl, in_X12, by decide +kernel, by decide +kernel, by decide +kernel, by decide +kernel⟩
set_option maxRecDepth 100000 in
theorem im_X12_cut : Cond.instanceMethod yX12_cut ∈ gw := gw_T6 211 rfl rfl
set_option maxRecDepth 100000 in
theorem se_X12_cut : Cond.selects RX12 yX12_cut yX12_cut ∈ gw := gw_S 55 rfl rfl
set_option maxRecDepth 100000 in
theorem ok_X12_doesFit : okM mX12_doesFit := ⟨gw_T8 150 rfl rfl, in_X12, by decide +kernel, by decide +kernel, by decide +kernel, by decide +kernel⟩
set_option maxRecDepth 100000 in
theorem im_X12_doesFit : Cond.instanceMethod yX12_doesFit ∈ gw := gw_T8 149 rfl rfl
set_option maxRecDepth 100000 in
theorem se_X12_doesFit : Cond.selects RX12 yX12_doesFit yX12_doesFit ∈ gw := gw_S 120 rfl rfl
set_option maxRecDepth 100000 in
theorem ok_X12_emit : okM mX12_emit := ⟨gw_T7 50 rfl rfl, in_X12, by decide +kernel, by decide +kernel, by decide +kernel, by decide +kernel⟩
set_option maxRecDepth 100000 in
theorem im_X12_emit : Cond.instanceMethod yX12_emit ∈ gw := gw_T7 49 rfl rfl
set_option maxRecDepth 100000 in
theorem se_X12_emit : Cond.selects RX12 yX12_emit yX12_emit ∈ gw := gw_S 73 rfl rfl
set_option maxRecDepth 100000 in
theorem ok_X12_expression : okM mX12_expression := ⟨gw_T7 42 rfl rfl, in_X12, by decide +kernel, by decide +kernel, by decide +kernel, by decide +kernel⟩
set_option maxRecDepth 100000 in
theorem im_X12_expression : Cond.instanceMethod yX12_expression ∈ gw := gw_T7 41 rfl rfl
set_option maxRecDepth 100000 in
theorem se_X12_expression : Cond.selects RX12 yX12_expression yX12_expression ∈ gw := gw_S 71 rfl rfl
set_option maxRecDepth 100000 in
theorem ok_X12_fail : okM mX12_fail := ⟨gw_T7 6 rfl rfl, in_X12, by decide +kernel, by decide +kernel, by decide +kernel, by decide +kernel⟩
set_option maxRecDepth 100000 in
theorem im_X12_fail : Cond.instanceMethod yX12_fail ∈ gw := gw_T7 5 rfl rfl
set_option maxRecDepth 100000 in
theorem se_X12_fail : Cond.selects RX12 yX12_fail yX12_fail ∈ gw := gw_S 62 rfl rfl
set_option maxRecDepth 100000 in
theorem ok_X12_far : okM mX12_far := ⟨gw_T8 60 rfl rfl, in_X12, by decide +kernel, by decide +kernel, by decide +kernel, by decide +kernel⟩
set_option maxRecDepth 100000 in
theorem im_X12_far : Cond.instanceMethod yX12_far ∈ gw := gw_T8 58 rfl rfl
set_option maxRecDepth 100000 in
theorem se_X12_far : Cond.selects RX12 yX12_far yX12_far ∈ gw := gw_T8 59 rfl rfl
set_option maxRecDepth 100000 in
theorem ok_X12_farOf : okM mX12_farOf := ⟨gw_T8 64 rfl rfl, in_X12, by decide +kernel, by decide +kernel, by decide +kernel, by decide +kernel⟩
set_option maxRecDepth 100000 in
theorem im_X12_farOf : Cond.instanceMethod yX12_farOf ∈ gw := gw_T8 63 rfl rfl
set_option maxRecDepth 100000 in
theorem se_X12_farOf : Cond.selects RX12 yX12_farOf yX12_farOf ∈ gw := gw_S 111 rfl rfl
set_option maxRecDepth 100000 in
theorem ok_X12_farthestFrom : okM mX12_farthestFrom := ⟨gw_T8 72 rfl rfl, in_X12, by decide +kernel, by decide +kernel, by decide +kernel, by decide +kernel⟩
set_option maxRecDepth 100000 in
theorem im_X12_farthestFrom : Cond.instanceMethod yX12_farthestFrom ∈ gw := gw_T8 71 rfl rfl
set_option maxRecDepth 100000 in
theorem se_X12_farthestFrom : Cond.selects RX12 yX12_farthestFrom yX12_farthestFrom ∈ gw := gw_S 112 rfl rfl
set_option maxRecDepth 100000 in
theorem ok_X12_feed : okM mX12_feed := ⟨gw_T6 196 rfl rfl, in_X12, by decide +kernel, by decide +kernel, by decide +kernel, by decide +kernel⟩
set_option maxRecDepth 100000 in
theorem im_X12_feed : Cond.instanceMethod yX12_feed ∈ gw := gw_T6 194 rfl rfl
set_option maxRecDepth 100000 in
theorem se_X12_feed : Cond.selects RX12 yX12_feed yX12_feed ∈ gw := gw_T6 195 rfl rfl
set_option maxRecDepth 100000 in
theorem ok_X12_fewestMown : okM mX12_fewestMown := ⟨gw_T8 32 rfl rfl, in_X12, by decide +kernel, by decide +kernel, by decide +kernel, by decide +kernel⟩
set_option maxRecDepth 100000 in
theorem im_X12_fewestMown : Cond.instanceMethod yX12_fewestMown ∈ gw := gw_T8 31 rfl rfl
set_option maxRecDepth 100000 in
theorem se_X12_fewestMown : Cond.selects RX12 yX12_fewestMown yX12_fewestMown ∈ gw := gw_S 106 rfl rfl
set_option maxRecDepth 100000 in
theorem ok_X12_fillsPaired : okM mX12_fillsPaired := ⟨gw_T8 100 rfl rfl, in_X12, by decide +kernel, by decide +kernel, by decide +kernel, by decide +kernel⟩
set_option maxRecDepth 100000 in
theorem im_X12_fillsPaired : Cond.instanceMethod yX12_fillsPaired ∈ gw := gw_T8 99 rfl rfl
set_option maxRecDepth 100000 in
theorem se_X12_fillsPaired : Cond.selects RX12 yX12_fillsPaired yX12_fillsPaired ∈ gw := gw_S 115 rfl rfl
set_option maxRecDepth 100000 in
theorem ok_X12_fillsReach : okM mX12_fillsReach := ⟨gw_T7 237 rfl rfl, in_X12, by decide +kernel, by decide +kernel, by decide +kernel, by decide +kernel⟩
set_option maxRecDepth 100000 in
theorem im_X12_fillsReach : Cond.instanceMethod yX12_fillsReach ∈ gw := gw_T7 236 rfl rfl
set_option maxRecDepth 100000 in
theorem se_X12_fillsReach : Cond.selects RX12 yX12_fillsReach yX12_fillsReach ∈ gw := gw_S 100 rfl rfl
set_option maxRecDepth 100000 in
theorem ok_X12_fillsSides : okM mX12_fillsSides := ⟨gw_T5 214 rfl rfl, in_X12, by decide +kernel, by decide +kernel, by decide +kernel, by decide +kernel⟩
set_option maxRecDepth 100000 in
theorem im_X12_fillsSides : Cond.instanceMethod yX12_fillsSides ∈ gw := gw_T5 213 rfl rfl
set_option maxRecDepth 100000 in
theorem se_X12_fillsSides : Cond.selects RX12 yX12_fillsSides yX12_fillsSides ∈ gw := gw_S 51 rfl rfl
set_option maxRecDepth 100000 in
theorem ok_X12_firstAt : okM mX12_firstAt := ⟨gw_T8 13 rfl rfl, in_X12, by decide +kernel, by decide +kernel, by decide +kernel, by decide +kernel⟩
set_option maxRecDepth 100000 in
theorem im_X12_firstAt : Cond.instanceMethod yX12_firstAt ∈ gw := gw_T8 12 rfl rfl
set_option maxRecDepth 100000 in
theorem se_X12_firstAt : Cond.selects RX12 yX12_firstAt yX12_firstAt ∈ gw := gw_S 104 rfl rfl
set_option maxRecDepth 100000 in
theorem ok_X12_firstFit : okM mX12_firstFit := ⟨gw_T8 154 rfl rfl, in_X12, by decide +kernel, by decide +kernel, by decide +kernel, by decide +kernel⟩
set_option maxRecDepth 100000 in
theorem im_X12_firstFit : Cond.instanceMethod yX12_firstFit ∈ gw := gw_T8 153 rfl rfl
set_option maxRecDepth 100000 in
theorem se_X12_firstFit : Cond.selects RX12 yX12_firstFit yX12_firstFit ∈ gw := gw_S 121 rfl rfl
set_option maxRecDepth 100000 in
theorem ok_X12_fits : okM mX12_fits := ⟨gw_T8 142 rfl rfl, in_X12, by decide +kernel, by decide +kernel, by decide +kernel, by decide +kernel⟩
set_option maxRecDepth 100000 in
theorem im_X12_fits : Cond.instanceMethod yX12_fits ∈ gw := gw_T8 140 rfl rfl
set_option maxRecDepth 100000 in
theorem se_X12_fits : Cond.selects RX12 yX12_fits yX12_fits ∈ gw := gw_T8 141 rfl rfl
set_option maxRecDepth 100000 in
theorem ok_X12_fitting : okM mX12_fitting := ⟨gw_T8 146 rfl rfl, in_X12, by decide +kernel, by decide +kernel, by decide +kernel, by decide +kernel⟩
set_option maxRecDepth 100000 in
theorem im_X12_fitting : Cond.instanceMethod yX12_fitting ∈ gw := gw_T8 145 rfl rfl
set_option maxRecDepth 100000 in
theorem se_X12_fitting : Cond.selects RX12 yX12_fitting yX12_fitting ∈ gw := gw_S 119 rfl rfl
set_option maxRecDepth 100000 in
theorem ok_X12_forget : okM mX12_forget := ⟨gw_T8 138 rfl rfl, in_X12, by decide +kernel, by decide +kernel, by decide +kernel, by decide +kernel⟩
set_option maxRecDepth 100000 in
theorem im_X12_forget : Cond.instanceMethod yX12_forget ∈ gw := gw_T8 136 rfl rfl
set_option maxRecDepth 100000 in
theorem se_X12_forget : Cond.selects RX12 yX12_forget yX12_forget ∈ gw := gw_T8 137 rfl rfl
set_option maxRecDepth 100000 in
theorem ok_X12_freeBits : okM mX12_freeBits := ⟨gw_T8 9 rfl rfl, in_X12, by decide +kernel, by decide +kernel, by decide +kernel, by decide +kernel⟩
set_option maxRecDepth 100000 in
theorem im_X12_freeBits : Cond.instanceMethod yX12_freeBits ∈ gw := gw_T8 8 rfl rfl
set_option maxRecDepth 100000 in
theorem se_X12_freeBits : Cond.selects RX12 yX12_freeBits yX12_freeBits ∈ gw := gw_S 103 rfl rfl
set_option maxRecDepth 100000 in
theorem ok_X12_goer : okM mX12_goer := ⟨gw_T7 127 rfl rfl, in_X12, by decide +kernel, by decide +kernel, by decide +kernel, by decide +kernel⟩
set_option maxRecDepth 100000 in
theorem im_X12_goer : Cond.instanceMethod yX12_goer ∈ gw := gw_T7 125 rfl rfl
set_option maxRecDepth 100000 in
theorem se_X12_goer : Cond.selects RX12 yX12_goer yX12_goer ∈ gw := gw_T7 126 rfl rfl
set_option maxRecDepth 100000 in
theorem ok_X12_goerBits : okM mX12_goerBits := ⟨gw_T8 88 rfl rfl, in_X12, by decide +kernel, by decide +kernel, by decide +kernel, by decide +kernel⟩
set_option maxRecDepth 100000 in
theorem im_X12_goerBits : Cond.instanceMethod yX12_goerBits ∈ gw := gw_T8 87 rfl rfl
set_option maxRecDepth 100000 in
theorem se_X12_goerBits : Cond.selects RX12 yX12_goerBits yX12_goerBits ∈ gw := gw_S 114 rfl rfl
set_option maxRecDepth 100000 in
theorem ok_X12_goes : okM mX12_goes := ⟨gw_T7 170 rfl rfl, in_X12, by decide +kernel, by decide +kernel, by decide +kernel, by decide +kernel⟩
set_option maxRecDepth 100000 in
theorem im_X12_goes : Cond.instanceMethod yX12_goes ∈ gw := gw_T7 169 rfl rfl
set_option maxRecDepth 100000 in
theorem se_X12_goes : Cond.selects RX12 yX12_goes yX12_goes ∈ gw := gw_S 93 rfl rfl
set_option maxRecDepth 100000 in
theorem ok_X12_goesOn : okM mX12_goesOn := ⟨gw_T7 2 rfl rfl, in_X12, by decide +kernel, by decide +kernel, by decide +kernel, by decide +kernel⟩
set_option maxRecDepth 100000 in
theorem im_X12_goesOn : Cond.instanceMethod yX12_goesOn ∈ gw := gw_T7 1 rfl rfl
set_option maxRecDepth 100000 in
theorem se_X12_goesOn : Cond.selects RX12 yX12_goesOn yX12_goesOn ∈ gw := gw_S 61 rfl rfl
set_option maxRecDepth 100000 in
theorem ok_X12_greatest : okM mX12_greatest := ⟨gw_T7 225 rfl rfl, in_X12, by decide +kernel, by decide +kernel, by decide +kernel, by decide +kernel⟩
set_option maxRecDepth 100000 in
theorem sm_X12_greatest : Cond.static yX12_greatest ∈ gw := gw_T7 224 rfl rfl
set_option maxRecDepth 100000 in
theorem ok_X12_hold : okM mX12_hold := ⟨gw_T8 162 rfl rfl, in_X12, by decide +kernel, by decide +kernel, by decide +kernel, by decide +kernel⟩
set_option maxRecDepth 100000 in
theorem im_X12_hold : Cond.instanceMethod yX12_hold ∈ gw := gw_T8 160 rfl rfl
set_option maxRecDepth 100000 in
theorem se_X12_hold : Cond.selects RX12 yX12_hold yX12_hold ∈ gw := gw_T8 161 rfl rfl
set_option maxRecDepth 100000 in
theorem ok_X12_in : okM mX12_in := ⟨gw_T7 81 rfl rfl, in_X12, by decide +kernel, by decide +kernel, by decide +kernel, by decide +kernel⟩
set_option maxRecDepth 100000 in
theorem sm_X12_in : Cond.static yX12_in ∈ gw := gw_T7 80 rfl rfl
set_option maxRecDepth 100000 in
theorem ok_X12_init : okM mX12_init := ⟨gw_T5 190 rfl rfl, in_X12, by decide +kernel, by decide +kernel, by decide +kernel, by decide +kernel⟩
set_option maxRecDepth 100000 in
theorem im_X12_init : Cond.instanceMethod yX12_init ∈ gw := gw_T5 189 rfl rfl
set_option maxRecDepth 100000 in
theorem ok_X12_is : okM mX12_is := ⟨gw_T6 234 rfl rfl, in_X12, by decide +kernel, by decide +kernel, by decide +kernel, by decide +kernel⟩
set_option maxRecDepth 100000 in
theorem im_X12_is : Cond.instanceMethod yX12_is ∈ gw := gw_T6 233 rfl rfl
set_option maxRecDepth 100000 in
theorem se_X12_is : Cond.selects RX12 yX12_is yX12_is ∈ gw := gw_S 59 rfl rfl
set_option maxRecDepth 100000 in
theorem ok_X12_isBeyond : okM mX12_isBeyond := ⟨gw_T7 62 rfl rfl, in_X12, by decide +kernel, by decide +kernel, by decide +kernel, by decide +kernel⟩
set_option maxRecDepth 100000 in
theorem im_X12_isBeyond : Cond.instanceMethod yX12_isBeyond ∈ gw := gw_T7 61 rfl rfl
set_option maxRecDepth 100000 in
theorem se_X12_isBeyond : Cond.selects RX12 yX12_isBeyond yX12_isBeyond ∈ gw := gw_S 76 rfl rfl
set_option maxRecDepth 100000 in
theorem ok_X12_isCell : okM mX12_isCell := ⟨gw_T7 78 rfl rfl, in_X12, by decide +kernel, by decide +kernel, by decide +kernel, by decide +kernel⟩
set_option maxRecDepth 100000 in
theorem im_X12_isCell : Cond.instanceMethod yX12_isCell ∈ gw := gw_T7 77 rfl rfl
set_option maxRecDepth 100000 in
theorem se_X12_isCell : Cond.selects RX12 yX12_isCell yX12_isCell ∈ gw := gw_S 78 rfl rfl
set_option maxRecDepth 100000 in
theorem ok_X12_isDigit : okM mX12_isDigit := ⟨gw_T6 226 rfl rfl, in_X12, by decide +kernel, by decide +kernel, by decide +kernel, by decide +kernel⟩
set_option maxRecDepth 100000 in
theorem sm_X12_isDigit : Cond.static yX12_isDigit ∈ gw := gw_T6 225 rfl rfl
set_option maxRecDepth 100000 in
theorem ok_X12_isGoer : okM mX12_isGoer := ⟨gw_T7 131 rfl rfl, in_X12, by decide +kernel, by decide +kernel, by decide +kernel, by decide +kernel⟩
set_option maxRecDepth 100000 in
theorem im_X12_isGoer : Cond.instanceMethod yX12_isGoer ∈ gw := gw_T7 130 rfl rfl
set_option maxRecDepth 100000 in
theorem se_X12_isGoer : Cond.selects RX12 yX12_isGoer yX12_isGoer ∈ gw := gw_S 88 rfl rfl
set_option maxRecDepth 100000 in
theorem ok_X12_isLetter : okM mX12_isLetter := ⟨gw_T6 223 rfl rfl, in_X12, by decide +kernel, by decide +kernel, by decide +kernel, by decide +kernel⟩
set_option maxRecDepth 100000 in
theorem sm_X12_isLetter : Cond.static yX12_isLetter ∈ gw := gw_T6 222 rfl rfl
set_option maxRecDepth 100000 in
theorem ok_X12_isLong : okM mX12_isLong := ⟨gw_T7 166 rfl rfl, in_X12, by decide +kernel, by decide +kernel, by decide +kernel, by decide +kernel⟩
set_option maxRecDepth 100000 in
theorem sm_X12_isLong : Cond.static yX12_isLong ∈ gw := gw_T7 165 rfl rfl
set_option maxRecDepth 100000 in
theorem ok_X12_isLoud : okM mX12_isLoud := ⟨gw_T7 89 rfl rfl, in_X12, by decide +kernel, by decide +kernel, by decide +kernel, by decide +kernel⟩
set_option maxRecDepth 100000 in
theorem im_X12_isLoud : Cond.instanceMethod yX12_isLoud ∈ gw := gw_T7 88 rfl rfl
set_option maxRecDepth 100000 in
theorem se_X12_isLoud : Cond.selects RX12 yX12_isLoud yX12_isLoud ∈ gw := gw_S 80 rfl rfl
set_option maxRecDepth 100000 in
theorem ok_X12_isOff : okM mX12_isOff := ⟨gw_T7 66 rfl rfl, in_X12, by decide +kernel, by decide +kernel, by decide +kernel, by decide +kernel⟩
set_option maxRecDepth 100000 in
theorem im_X12_isOff : Cond.instanceMethod yX12_isOff ∈ gw := gw_T7 65 rfl rfl
set_option maxRecDepth 100000 in
theorem se_X12_isOff : Cond.selects RX12 yX12_isOff yX12_isOff ∈ gw := gw_S 77 rfl rfl
set_option maxRecDepth 100000 in
theorem ok_X12_isOther : okM mX12_isOther := ⟨gw_T8 52 rfl rfl, in_X12, by decide +kernel, by decide +kernel, by decide +kernel, by decide +kernel⟩
set_option maxRecDepth 100000 in
theorem im_X12_isOther : Cond.instanceMethod yX12_isOther ∈ gw := gw_T8 51 rfl rfl
set_option maxRecDepth 100000 in
theorem se_X12_isOther : Cond.selects RX12 yX12_isOther yX12_isOther ∈ gw := gw_S 110 rfl rfl
set_option maxRecDepth 100000 in
theorem ok_X12_isParted : okM mX12_isParted := ⟨gw_T8 48 rfl rfl, in_X12, by decide +kernel, by decide +kernel, by decide +kernel, by decide +kernel⟩
set_option maxRecDepth 100000 in
theorem im_X12_isParted : Cond.instanceMethod yX12_isParted ∈ gw := gw_T8 47 rfl rfl
set_option maxRecDepth 100000 in
theorem se_X12_isParted : Cond.selects RX12 yX12_isParted yX12_isParted ∈ gw := gw_S 109 rfl rfl
set_option maxRecDepth 100000 in
theorem ok_X12_isRoped : okM mX12_isRoped := ⟨gw_T7 93 rfl rfl, in_X12, by decide +kernel, by decide +kernel, by decide +kernel, by decide +kernel⟩
set_option maxRecDepth 100000 in
theorem im_X12_isRoped : Cond.instanceMethod yX12_isRoped ∈ gw := gw_T7 92 rfl rfl
set_option maxRecDepth 100000 in
theorem se_X12_isRoped : Cond.selects RX12 yX12_isRoped yX12_isRoped ∈ gw := gw_S 81 rfl rfl
set_option maxRecDepth 100000 in
theorem ok_X12_isTime : okM mX12_isTime := ⟨gw_T8 134 rfl rfl, in_X12, by decide +kernel, by decide +kernel, by decide +kernel, by decide +kernel⟩
set_option maxRecDepth 100000 in
theorem sm_X12_isTime : Cond.static yX12_isTime ∈ gw := gw_T8 133 rfl rfl
set_option maxRecDepth 100000 in
theorem ok_X12_isWayWithout : okM mX12_isWayWithout := ⟨gw_T8 40 rfl rfl, in_X12, by decide +kernel, by decide +kernel, by decide +kernel, by decide +kernel⟩
set_option maxRecDepth 100000 in
theorem im_X12_isWayWithout : Cond.instanceMethod yX12_isWayWithout ∈ gw := gw_T8 39 rfl rfl
set_option maxRecDepth 100000 in
theorem se_X12_isWayWithout : Cond.selects RX12 yX12_isWayWithout yX12_isWayWithout ∈ gw := gw_S 108 rfl rfl
set_option maxRecDepth 100000 in
theorem ok_X12_keepsRow : okM mX12_keepsRow := ⟨gw_T5 222 rfl rfl, in_X12, by decide +kernel, by decide +kernel, by decide +kernel, by decide +kernel⟩
set_option maxRecDepth 100000 in
theorem im_X12_keepsRow : Cond.instanceMethod yX12_keepsRow ∈ gw := gw_T5 221 rfl rfl
set_option maxRecDepth 100000 in
theorem se_X12_keepsRow : Cond.selects RX12 yX12_keepsRow yX12_keepsRow ∈ gw := gw_S 53 rfl rfl
set_option maxRecDepth 100000 in
theorem ok_X12_lawTells : okM mX12_lawTells := ⟨gw_T7 116 rfl rfl, in_X12, by decide +kernel, by decide +kernel, by decide +kernel, by decide +kernel⟩
set_option maxRecDepth 100000 in
theorem im_X12_lawTells : Cond.instanceMethod yX12_lawTells ∈ gw := gw_T7 115 rfl rfl
set_option maxRecDepth 100000 in
theorem se_X12_lawTells : Cond.selects RX12 yX12_lawTells yX12_lawTells ∈ gw := gw_S 86 rfl rfl
set_option maxRecDepth 100000 in
theorem ok_X12_lays : okM mX12_lays := ⟨gw_T6 200 rfl rfl, in_X12, by decide +kernel, by decide +kernel, by decide +kernel, by decide +kernel⟩
set_option maxRecDepth 100000 in
theorem im_X12_lays : Cond.instanceMethod yX12_lays ∈ gw := gw_T6 199 rfl rfl
set_option maxRecDepth 100000 in
theorem se_X12_lays : Cond.selects RX12 yX12_lays yX12_lays ∈ gw := gw_S 54 rfl rfl
set_option maxRecDepth 100000 in
theorem ok_X12_leave : okM mX12_leave := ⟨gw_T8 24 rfl rfl, in_X12, by decide +kernel, by decide +kernel, by decide +kernel, by decide +kernel⟩
set_option maxRecDepth 100000 in
theorem im_X12_leave : Cond.instanceMethod yX12_leave ∈ gw := gw_T8 22 rfl rfl
set_option maxRecDepth 100000 in
theorem se_X12_leave : Cond.selects RX12 yX12_leave yX12_leave ∈ gw := gw_T8 23 rfl rfl
set_option maxRecDepth 100000 in
theorem ok_X12_letters : okM mX12_letters := ⟨gw_T5 198 rfl rfl, in_X12, by decide +kernel, by decide +kernel, by decide +kernel, by decide +kernel⟩
set_option maxRecDepth 100000 in
theorem sm_X12_letters : Cond.static yX12_letters ∈ gw := gw_T5 197 rfl rfl
set_option maxRecDepth 100000 in
theorem ok_X12_listen : okM mX12_listen := ⟨gw_T8 158 rfl rfl, in_X12, by decide +kernel, by decide +kernel, by decide +kernel, by decide +kernel⟩
set_option maxRecDepth 100000 in
theorem im_X12_listen : Cond.instanceMethod yX12_listen ∈ gw := gw_T8 156 rfl rfl
set_option maxRecDepth 100000 in
theorem se_X12_listen : Cond.selects RX12 yX12_listen yX12_listen ∈ gw := gw_T8 157 rfl rfl
set_option maxRecDepth 100000 in
theorem ok_X12_lotOf : okM mX12_lotOf := ⟨gw_T7 186 rfl rfl, in_X12, by decide +kernel, by decide +kernel, by decide +kernel, by decide +kernel⟩
set_option maxRecDepth 100000 in
theorem im_X12_lotOf : Cond.instanceMethod yX12_lotOf ∈ gw := gw_T7 185 rfl rfl
set_option maxRecDepth 100000 in
theorem se_X12_lotOf : Cond.selects RX12 yX12_lotOf yX12_lotOf ∈ gw := gw_S 97 rfl rfl
set_option maxRecDepth 100000 in
theorem ok_X12_loud : okM mX12_loud := ⟨gw_T7 206 rfl rfl, in_X12, by decide +kernel, by decide +kernel, by decide +kernel, by decide +kernel⟩
set_option maxRecDepth 100000 in
theorem im_X12_loud : Cond.instanceMethod yX12_loud ∈ gw := gw_T7 204 rfl rfl
set_option maxRecDepth 100000 in
theorem se_X12_loud : Cond.selects RX12 yX12_loud yX12_loud ∈ gw := gw_T7 205 rfl rfl
set_option maxRecDepth 100000 in
theorem ok_X12_loudBits : okM mX12_loudBits := ⟨gw_T7 210 rfl rfl, in_X12, by decide +kernel, by decide +kernel, by decide +kernel, by decide +kernel⟩
set_option maxRecDepth 100000 in
theorem im_X12_loudBits : Cond.instanceMethod yX12_loudBits ∈ gw := gw_T7 209 rfl rfl
set_option maxRecDepth 100000 in
theorem se_X12_loudBits : Cond.selects RX12 yX12_loudBits yX12_loudBits ∈ gw := gw_S 98 rfl rfl
set_option maxRecDepth 100000 in
theorem ok_X12_lowestOf : okM mX12_lowestOf := ⟨gw_T8 20 rfl rfl, in_X12, by decide +kernel, by decide +kernel, by decide +kernel, by decide +kernel⟩
set_option maxRecDepth 100000 in
theorem sm_X12_lowestOf : Cond.static yX12_lowestOf ∈ gw := gw_T8 19 rfl rfl
set_option maxRecDepth 100000 in
theorem ok_X12_meet : okM mX12_meet := ⟨gw_T8 56 rfl rfl, in_X12, by decide +kernel, by decide +kernel, by decide +kernel, by decide +kernel⟩
set_option maxRecDepth 100000 in
theorem im_X12_meet : Cond.instanceMethod yX12_meet ∈ gw := gw_T8 54 rfl rfl
set_option maxRecDepth 100000 in
theorem se_X12_meet : Cond.selects RX12 yX12_meet yX12_meet ∈ gw := gw_T8 55 rfl rfl
set_option maxRecDepth 100000 in
theorem ok_X12_mixed : okM mX12_mixed := ⟨gw_T7 189 rfl rfl, in_X12, by decide +kernel, by decide +kernel, by decide +kernel, by decide +kernel⟩
set_option maxRecDepth 100000 in
theorem sm_X12_mixed : Cond.static yX12_mixed ∈ gw := gw_T7 188 rfl rfl
set_option maxRecDepth 100000 in
theorem ok_X12_moveOf : okM mX12_moveOf := ⟨gw_T7 143 rfl rfl, in_X12, by decide +kernel, by decide +kernel, by decide +kernel, by decide +kernel⟩
set_option maxRecDepth 100000 in
theorem im_X12_moveOf : Cond.instanceMethod yX12_moveOf ∈ gw := gw_T7 142 rfl rfl
set_option maxRecDepth 100000 in
theorem se_X12_moveOf : Cond.selects RX12 yX12_moveOf yX12_moveOf ∈ gw := gw_S 91 rfl rfl
set_option maxRecDepth 100000 in
theorem ok_X12_mow : okM mX12_mow := ⟨gw_T7 147 rfl rfl, in_X12, by decide +kernel, by decide +kernel, by decide +kernel, by decide +kernel⟩
set_option maxRecDepth 100000 in
theorem im_X12_mow : Cond.instanceMethod yX12_mow ∈ gw := gw_T7 145 rfl rfl
set_option maxRecDepth 100000 in
theorem se_X12_mow : Cond.selects RX12 yX12_mow yX12_mow ∈ gw := gw_T7 146 rfl rfl
set_option maxRecDepth 100000 in
theorem ok_X12_mows : okM mX12_mows := ⟨gw_T8 28 rfl rfl, in_X12, by decide +kernel, by decide +kernel, by decide +kernel, by decide +kernel⟩
set_option maxRecDepth 100000 in
theorem im_X12_mows : Cond.instanceMethod yX12_mows ∈ gw := gw_T8 26 rfl rfl
set_option maxRecDepth 100000 in
theorem se_X12_mows : Cond.selects RX12 yX12_mows yX12_mows ∈ gw := gw_T8 27 rfl rfl
set_option maxRecDepth 100000 in
theorem ok_X12_must : okM mX12_must := ⟨gw_T7 18 rfl rfl, in_X12, by decide +kernel, by decide +kernel, by decide +kernel, by decide +kernel⟩
set_option maxRecDepth 100000 in
theorem im_X12_must : Cond.instanceMethod yX12_must ∈ gw := gw_T7 17 rfl rfl
set_option maxRecDepth 100000 in
theorem se_X12_must : Cond.selects RX12 yX12_must yX12_must ∈ gw := gw_S 65 rfl rfl
set_option maxRecDepth 100000 in
theorem ok_X12_nearBits : okM mX12_nearBits := ⟨gw_T8 1 rfl rfl, in_X12, by decide +kernel, by decide +kernel, by decide +kernel, by decide +kernel⟩
set_option maxRecDepth 100000 in
theorem im_X12_nearBits : Cond.instanceMethod yX12_nearBits ∈ gw := gw_T8 0 rfl rfl
set_option maxRecDepth 100000 in
theorem se_X12_nearBits : Cond.selects RX12 yX12_nearBits yX12_nearBits ∈ gw := gw_S 101 rfl rfl
set_option maxRecDepth 100000 in
theorem ok_X12_never : okM mX12_never := ⟨gw_T8 84 rfl rfl, in_X12, by decide +kernel, by decide +kernel, by decide +kernel, by decide +kernel⟩
set_option maxRecDepth 100000 in
theorem im_X12_never : Cond.instanceMethod yX12_never ∈ gw := gw_T8 82 rfl rfl
set_option maxRecDepth 100000 in
theorem se_X12_never : Cond.selects RX12 yX12_never yX12_never ∈ gw := gw_T8 83 rfl rfl
set_option maxRecDepth 100000 in
theorem ok_X12_next : okM mX12_next := ⟨gw_T7 198 rfl rfl, in_X12, by decide +kernel, by decide +kernel, by decide +kernel, by decide +kernel⟩
set_option maxRecDepth 100000 in
theorem im_X12_next : Cond.instanceMethod yX12_next ∈ gw := gw_T7 196 rfl rfl
set_option maxRecDepth 100000 in
theorem se_X12_next : Cond.selects RX12 yX12_next yX12_next ∈ gw := gw_T7 197 rfl rfl
set_option maxRecDepth 100000 in
theorem ok_X12_off : okM mX12_off := ⟨gw_T8 111 rfl rfl, in_X12, by decide +kernel, by decide +kernel, by decide +kernel, by decide +kernel⟩
set_option maxRecDepth 100000 in
theorem sm_X12_off : Cond.static yX12_off ∈ gw := gw_T8 110 rfl rfl
set_option maxRecDepth 100000 in
theorem ok_X12_pairedOf : okM mX12_pairedOf := ⟨gw_T8 115 rfl rfl, in_X12, by decide +kernel, by decide +kernel, by decide +kernel, by decide +kernel⟩
set_option maxRecDepth 100000 in
theorem im_X12_pairedOf : Cond.instanceMethod yX12_pairedOf ∈ gw := gw_T8 114 rfl rfl
set_option maxRecDepth 100000 in
theorem se_X12_pairedOf : Cond.selects RX12 yX12_pairedOf yX12_pairedOf ∈ gw := gw_S 118 rfl rfl
set_option maxRecDepth 100000 in
theorem ok_X12_pairedWith : okM mX12_pairedWith := ⟨gw_T8 104 rfl rfl, in_X12, by decide +kernel, by decide +kernel, by decide +kernel, by decide +kernel⟩
set_option maxRecDepth 100000 in
theorem im_X12_pairedWith : Cond.instanceMethod yX12_pairedWith ∈ gw := gw_T8 103 rfl rfl
set_option maxRecDepth 100000 in
theorem se_X12_pairedWith : Cond.selects RX12 yX12_pairedWith yX12_pairedWith ∈ gw := gw_S 116 rfl rfl
set_option maxRecDepth 100000 in
theorem ok_X12_pairs : okM mX12_pairs := ⟨gw_T8 96 rfl rfl, in_X12, by decide +kernel, by decide +kernel, by decide +kernel, by decide +kernel⟩
set_option maxRecDepth 100000 in
theorem im_X12_pairs : Cond.instanceMethod yX12_pairs ∈ gw := gw_T8 94 rfl rfl
set_option maxRecDepth 100000 in
theorem se_X12_pairs : Cond.selects RX12 yX12_pairs yX12_pairs ∈ gw := gw_T8 95 rfl rfl
set_option maxRecDepth 100000 in
theorem ok_X12_part : okM mX12_part := ⟨gw_T8 44 rfl rfl, in_X12, by decide +kernel, by decide +kernel, by decide +kernel, by decide +kernel⟩
set_option maxRecDepth 100000 in
theorem im_X12_part : Cond.instanceMethod yX12_part ∈ gw := gw_T8 42 rfl rfl
set_option maxRecDepth 100000 in
theorem se_X12_part : Cond.selects RX12 yX12_part yX12_part ∈ gw := gw_T8 43 rfl rfl
set_option maxRecDepth 100000 in
theorem ok_X12_period : okM mX12_period := ⟨gw_T7 222 rfl rfl, in_X12, by decide +kernel, by decide +kernel, by decide +kernel, by decide +kernel⟩
set_option maxRecDepth 100000 in
theorem im_X12_period : Cond.instanceMethod yX12_period ∈ gw := gw_T7 220 rfl rfl
set_option maxRecDepth 100000 in
theorem se_X12_period : Cond.selects RX12 yX12_period yX12_period ∈ gw := gw_T7 221 rfl rfl
set_option maxRecDepth 100000 in
theorem ok_X12_place : okM mX12_place := ⟨gw_T7 70 rfl rfl, in_X12, by decide +kernel, by decide +kernel, by decide +kernel, by decide +kernel⟩
set_option maxRecDepth 100000 in
theorem im_X12_place : Cond.instanceMethod yX12_place ∈ gw := gw_T7 68 rfl rfl
set_option maxRecDepth 100000 in
theorem se_X12_place : Cond.selects RX12 yX12_place yX12_place ∈ gw := gw_T7 69 rfl rfl
set_option maxRecDepth 100000 in
theorem ok_X12_plain : okM mX12_plain := ⟨gw_T5 195 rfl rfl, in_X12, by decide +kernel, by decide +kernel, by decide +kernel, by decide +kernel⟩
set_option maxRecDepth 100000 in
theorem im_X12_plain : Cond.instanceMethod yX12_plain ∈ gw := gw_T5 194 rfl rfl
set_option maxRecDepth 100000 in
theorem se_X12_plain : Cond.selects RX12 yX12_plain yX12_plain ∈ gw := gw_S 48 rfl rfl
set_option maxRecDepth 100000 in
theorem ok_X12_read : okM mX12_read := ⟨gw_T6 208 rfl rfl, in_X12, by decide +kernel, by decide +kernel, by decide +kernel, by decide +kernel⟩
set_option maxRecDepth 100000 in
theorem im_X12_read : Cond.instanceMethod yX12_read ∈ gw := gw_T6 206 rfl rfl
set_option maxRecDepth 100000 in
theorem se_X12_read : Cond.selects RX12 yX12_read yX12_read ∈ gw := gw_T6 207 rfl rfl
set_option maxRecDepth 100000 in
theorem ok_X12_records : okM mX12_records := ⟨gw_T7 151 rfl rfl, in_X12, by decide +kernel, by decide +kernel, by decide +kernel, by decide +kernel⟩
set_option maxRecDepth 100000 in
theorem im_X12_records : Cond.instanceMethod yX12_records ∈ gw := gw_T7 150 rfl rfl
set_option maxRecDepth 100000 in
theorem se_X12_records : Cond.selects RX12 yX12_records yX12_records ∈ gw := gw_S 92 rfl rfl
set_option maxRecDepth 100000 in
theorem ok_X12_restore : okM mX12_restore := ⟨gw_T8 166 rfl rfl, in_X12, by decide +kernel, by decide +kernel, by decide +kernel, by decide +kernel⟩
set_option maxRecDepth 100000 in
theorem im_X12_restore : Cond.instanceMethod yX12_restore ∈ gw := gw_T8 164 rfl rfl
set_option maxRecDepth 100000 in
theorem se_X12_restore : Cond.selects RX12 yX12_restore yX12_restore ∈ gw := gw_T8 165 rfl rfl
set_option maxRecDepth 100000 in
theorem ok_X12_returns : okM mX12_returns := ⟨gw_T8 76 rfl rfl, in_X12, by decide +kernel, by decide +kernel, by decide +kernel, by decide +kernel⟩
set_option maxRecDepth 100000 in
theorem im_X12_returns : Cond.instanceMethod yX12_returns ∈ gw := gw_T8 74 rfl rfl
set_option maxRecDepth 100000 in
theorem se_X12_returns : Cond.selects RX12 yX12_returns yX12_returns ∈ gw := gw_T8 75 rfl rfl
set_option maxRecDepth 100000 in
theorem ok_X12_roomFor : okM mX12_roomFor := ⟨gw_T7 22 rfl rfl, in_X12, by decide +kernel, by decide +kernel, by decide +kernel, by decide +kernel⟩
set_option maxRecDepth 100000 in
theorem im_X12_roomFor : Cond.instanceMethod yX12_roomFor ∈ gw := gw_T7 21 rfl rfl
set_option maxRecDepth 100000 in
theorem se_X12_roomFor : Cond.selects RX12 yX12_roomFor yX12_roomFor ∈ gw := gw_S 66 rfl rfl
set_option maxRecDepth 100000 in
theorem ok_X12_rope : okM mX12_rope := ⟨gw_T7 155 rfl rfl, in_X12, by decide +kernel, by decide +kernel, by decide +kernel, by decide +kernel⟩
set_option maxRecDepth 100000 in
theorem im_X12_rope : Cond.instanceMethod yX12_rope ∈ gw := gw_T7 153 rfl rfl
set_option maxRecDepth 100000 in
theorem se_X12_rope : Cond.selects RX12 yX12_rope yX12_rope ∈ gw := gw_T7 154 rfl rfl
set_option maxRecDepth 100000 in
theorem ok_X12_safeBits : okM mX12_safeBits := ⟨gw_T8 5 rfl rfl, in_X12, by decide +kernel, by decide +kernel, by decide +kernel, by decide +kernel⟩
set_option maxRecDepth 100000 in
theorem im_X12_safeBits : Cond.instanceMethod yX12_safeBits ∈ gw := gw_T8 4 rfl rfl
set_option maxRecDepth 100000 in
theorem se_X12_safeBits : Cond.selects RX12 yX12_safeBits yX12_safeBits ∈ gw := gw_S 102 rfl rfl
set_option maxRecDepth 100000 in
theorem ok_X12_sign : okM mX12_sign := ⟨gw_T6 230 rfl rfl, in_X12, by decide +kernel, by decide +kernel, by decide +kernel, by decide +kernel⟩
set_option maxRecDepth 100000 in
theorem im_X12_sign : Cond.instanceMethod yX12_sign ∈ gw := gw_T6 229 rfl rfl
set_option maxRecDepth 100000 in
theorem se_X12_sign : Cond.selects RX12 yX12_sign yX12_sign ∈ gw := gw_S 58 rfl rfl
set_option maxRecDepth 100000 in
theorem ok_X12_silence : okM mX12_silence := ⟨gw_T7 214 rfl rfl, in_X12, by decide +kernel, by decide +kernel, by decide +kernel, by decide +kernel⟩
set_option maxRecDepth 100000 in
theorem im_X12_silence : Cond.instanceMethod yX12_silence ∈ gw := gw_T7 212 rfl rfl
set_option maxRecDepth 100000 in
theorem se_X12_silence : Cond.selects RX12 yX12_silence yX12_silence ∈ gw := gw_T7 213 rfl rfl
set_option maxRecDepth 100000 in
theorem ok_X12_spreadBits : okM mX12_spreadBits := ⟨gw_T7 182 rfl rfl, in_X12, by decide +kernel, by decide +kernel, by decide +kernel, by decide +kernel⟩
set_option maxRecDepth 100000 in
theorem im_X12_spreadBits : Cond.instanceMethod yX12_spreadBits ∈ gw := gw_T7 181 rfl rfl
set_option maxRecDepth 100000 in
theorem se_X12_spreadBits : Cond.selects RX12 yX12_spreadBits yX12_spreadBits ∈ gw := gw_S 96 rfl rfl
set_option maxRecDepth 100000 in
theorem ok_X12_spreads : okM mX12_spreads := ⟨gw_T7 178 rfl rfl, in_X12, by decide +kernel, by decide +kernel, by decide +kernel, by decide +kernel⟩
set_option maxRecDepth 100000 in
theorem im_X12_spreads : Cond.instanceMethod yX12_spreads ∈ gw := gw_T7 177 rfl rfl
set_option maxRecDepth 100000 in
theorem se_X12_spreads : Cond.selects RX12 yX12_spreads yX12_spreads ∈ gw := gw_S 95 rfl rfl
set_option maxRecDepth 100000 in
theorem ok_X12_stepOf : okM mX12_stepOf := ⟨gw_T7 135 rfl rfl, in_X12, by decide +kernel, by decide +kernel, by decide +kernel, by decide +kernel⟩
set_option maxRecDepth 100000 in
theorem im_X12_stepOf : Cond.instanceMethod yX12_stepOf ∈ gw := gw_T7 134 rfl rfl
set_option maxRecDepth 100000 in
theorem se_X12_stepOf : Cond.selects RX12 yX12_stepOf yX12_stepOf ∈ gw := gw_S 89 rfl rfl
set_option maxRecDepth 100000 in
theorem ok_X12_stood : okM mX12_stood := ⟨gw_T8 92 rfl rfl, in_X12, by decide +kernel, by decide +kernel, by decide +kernel, by decide +kernel⟩
set_option maxRecDepth 100000 in
theorem im_X12_stood : Cond.instanceMethod yX12_stood ∈ gw := gw_T8 90 rfl rfl
set_option maxRecDepth 100000 in
theorem se_X12_stood : Cond.selects RX12 yX12_stood yX12_stood ∈ gw := gw_T8 91 rfl rfl
set_option maxRecDepth 100000 in
theorem ok_X12_tell : okM mX12_tell := ⟨gw_T8 131 rfl rfl, in_X12, by decide +kernel, by decide +kernel, by decide +kernel, by decide +kernel⟩
set_option maxRecDepth 100000 in
theorem im_X12_tell : Cond.instanceMethod yX12_tell ∈ gw := gw_T8 129 rfl rfl
set_option maxRecDepth 100000 in
theorem se_X12_tell : Cond.selects RX12 yX12_tell yX12_tell ∈ gw := gw_T8 130 rfl rfl
set_option maxRecDepth 100000 in
theorem ok_X12_tellGoer : okM mX12_tellGoer := ⟨gw_T7 30 rfl rfl, in_X12, by decide +kernel, by decide +kernel, by decide +kernel, by decide +kernel⟩
set_option maxRecDepth 100000 in
theorem im_X12_tellGoer : Cond.instanceMethod yX12_tellGoer ∈ gw := gw_T7 29 rfl rfl
set_option maxRecDepth 100000 in
theorem se_X12_tellGoer : Cond.selects RX12 yX12_tellGoer yX12_tellGoer ∈ gw := gw_S 68 rfl rfl
set_option maxRecDepth 100000 in
theorem ok_X12_tellLaw : okM mX12_tellLaw := ⟨gw_T7 38 rfl rfl, in_X12, by decide +kernel, by decide +kernel, by decide +kernel, by decide +kernel⟩
set_option maxRecDepth 100000 in
theorem im_X12_tellLaw : Cond.instanceMethod yX12_tellLaw ∈ gw := gw_T7 37 rfl rfl
set_option maxRecDepth 100000 in
theorem se_X12_tellLaw : Cond.selects RX12 yX12_tellLaw yX12_tellLaw ∈ gw := gw_S 70 rfl rfl
set_option maxRecDepth 100000 in
theorem ok_X12_tellOne : okM mX12_tellOne := ⟨gw_T6 238 rfl rfl, in_X12, by decide +kernel, by decide +kernel, by decide +kernel, by decide +kernel⟩
set_option maxRecDepth 100000 in
theorem im_X12_tellOne : Cond.instanceMethod yX12_tellOne ∈ gw := gw_T6 237 rfl rfl
set_option maxRecDepth 100000 in
theorem se_X12_tellOne : Cond.selects RX12 yX12_tellOne yX12_tellOne ∈ gw := gw_S 60 rfl rfl
set_option maxRecDepth 100000 in
theorem ok_X12_tellRope : okM mX12_tellRope := ⟨gw_T7 34 rfl rfl, in_X12, by decide +kernel, by decide +kernel, by decide +kernel, by decide +kernel⟩
set_option maxRecDepth 100000 in
theorem im_X12_tellRope : Cond.instanceMethod yX12_tellRope ∈ gw := gw_T7 33 rfl rfl
set_option maxRecDepth 100000 in
theorem se_X12_tellRope : Cond.selects RX12 yX12_tellRope yX12_tellRope ∈ gw := gw_S 69 rfl rfl
set_option maxRecDepth 100000 in
theorem ok_X12_tellTune : okM mX12_tellTune := ⟨gw_T7 26 rfl rfl, in_X12, by decide +kernel, by decide +kernel, by decide +kernel, by decide +kernel⟩
set_option maxRecDepth 100000 in
theorem im_X12_tellTune : Cond.instanceMethod yX12_tellTune ∈ gw := gw_T7 25 rfl rfl
set_option maxRecDepth 100000 in
theorem se_X12_tellTune : Cond.selects RX12 yX12_tellTune yX12_tellTune ∈ gw := gw_S 67 rfl rfl
set_option maxRecDepth 100000 in
theorem ok_X12_term : okM mX12_term := ⟨gw_T7 58 rfl rfl, in_X12, by decide +kernel, by decide +kernel, by decide +kernel, by decide +kernel⟩
set_option maxRecDepth 100000 in
theorem im_X12_term : Cond.instanceMethod yX12_term ∈ gw := gw_T7 57 rfl rfl
set_option maxRecDepth 100000 in
theorem se_X12_term : Cond.selects RX12 yX12_term yX12_term ∈ gw := gw_S 75 rfl rfl
set_option maxRecDepth 100000 in
theorem ok_X12_termOf : okM mX12_termOf := ⟨gw_T7 120 rfl rfl, in_X12, by decide +kernel, by decide +kernel, by decide +kernel, by decide +kernel⟩
set_option maxRecDepth 100000 in
theorem im_X12_termOf : Cond.instanceMethod yX12_termOf ∈ gw := gw_T7 119 rfl rfl
set_option maxRecDepth 100000 in
theorem se_X12_termOf : Cond.selects RX12 yX12_termOf yX12_termOf ∈ gw := gw_S 87 rfl rfl
set_option maxRecDepth 100000 in
theorem ok_X12_then : okM mX12_then := ⟨gw_T8 119 rfl rfl, in_X12, by decide +kernel, by decide +kernel, by decide +kernel, by decide +kernel⟩
set_option maxRecDepth 100000 in
theorem im_X12_then : Cond.instanceMethod yX12_then ∈ gw := gw_T8 117 rfl rfl
set_option maxRecDepth 100000 in
theorem se_X12_then : Cond.selects RX12 yX12_then yX12_then ∈ gw := gw_T8 118 rfl rfl
set_option maxRecDepth 100000 in
theorem ok_X12_together : okM mX12_together := ⟨gw_T7 202 rfl rfl, in_X12, by decide +kernel, by decide +kernel, by decide +kernel, by decide +kernel⟩
set_option maxRecDepth 100000 in
theorem im_X12_together : Cond.instanceMethod yX12_together ∈ gw := gw_T7 200 rfl rfl
set_option maxRecDepth 100000 in
theorem se_X12_together : Cond.selects RX12 yX12_together yX12_together ∈ gw := gw_T7 201 rfl rfl
set_option maxRecDepth 100000 in
theorem ok_X12_token : okM mX12_token := ⟨gw_T6 220 rfl rfl, in_X12, by decide +kernel, by decide +kernel, by decide +kernel, by decide +kernel⟩
set_option maxRecDepth 100000 in
theorem im_X12_token : Cond.instanceMethod yX12_token ∈ gw := gw_T6 219 rfl rfl
set_option maxRecDepth 100000 in
theorem se_X12_token : Cond.selects RX12 yX12_token yX12_token ∈ gw := gw_S 57 rfl rfl
set_option maxRecDepth 100000 in
theorem ok_X12_toldOf : okM mX12_toldOf := ⟨gw_T7 105 rfl rfl, in_X12, by decide +kernel, by decide +kernel, by decide +kernel, by decide +kernel⟩
set_option maxRecDepth 100000 in
theorem im_X12_toldOf : Cond.instanceMethod yX12_toldOf ∈ gw := gw_T7 104 rfl rfl
set_option maxRecDepth 100000 in
theorem se_X12_toldOf : Cond.selects RX12 yX12_toldOf yX12_toldOf ∈ gw := gw_S 84 rfl rfl
set_option maxRecDepth 100000 in
theorem ok_X12_tuneBits : okM mX12_tuneBits := ⟨gw_T7 109 rfl rfl, in_X12, by decide +kernel, by decide +kernel, by decide +kernel, by decide +kernel⟩
set_option maxRecDepth 100000 in
theorem im_X12_tuneBits : Cond.instanceMethod yX12_tuneBits ∈ gw := gw_T7 108 rfl rfl
set_option maxRecDepth 100000 in
theorem se_X12_tuneBits : Cond.selects RX12 yX12_tuneBits yX12_tuneBits ∈ gw := gw_S 85 rfl rfl
set_option maxRecDepth 100000 in
theorem ok_X12_tunesBy : okM mX12_tunesBy := ⟨gw_T8 36 rfl rfl, in_X12, by decide +kernel, by decide +kernel, by decide +kernel, by decide +kernel⟩
set_option maxRecDepth 100000 in
theorem im_X12_tunesBy : Cond.instanceMethod yX12_tunesBy ∈ gw := gw_T8 35 rfl rfl
set_option maxRecDepth 100000 in
theorem se_X12_tunesBy : Cond.selects RX12 yX12_tunesBy yX12_tunesBy ∈ gw := gw_S 107 rfl rfl
set_option maxRecDepth 100000 in
theorem ok_X12_tunesIn : okM mX12_tunesIn := ⟨gw_T8 123 rfl rfl, in_X12, by decide +kernel, by decide +kernel, by decide +kernel, by decide +kernel⟩
set_option maxRecDepth 100000 in
theorem im_X12_tunesIn : Cond.instanceMethod yX12_tunesIn ∈ gw := gw_T8 121 rfl rfl
set_option maxRecDepth 100000 in
theorem se_X12_tunesIn : Cond.selects RX12 yX12_tunesIn yX12_tunesIn ∈ gw := gw_T8 122 rfl rfl
set_option maxRecDepth 100000 in
theorem ok_X12_undo : okM mX12_undo := ⟨gw_T7 194 rfl rfl, in_X12, by decide +kernel, by decide +kernel, by decide +kernel, by decide +kernel⟩
set_option maxRecDepth 100000 in
theorem im_X12_undo : Cond.instanceMethod yX12_undo ∈ gw := gw_T7 192 rfl rfl
set_option maxRecDepth 100000 in
theorem se_X12_undo : Cond.selects RX12 yX12_undo yX12_undo ∈ gw := gw_T7 193 rfl rfl
set_option maxRecDepth 100000 in
theorem ok_X12_unit : okM mX12_unit := ⟨gw_T7 46 rfl rfl, in_X12, by decide +kernel, by decide +kernel, by decide +kernel, by decide +kernel⟩
set_option maxRecDepth 100000 in
theorem im_X12_unit : Cond.instanceMethod yX12_unit ∈ gw := gw_T7 45 rfl rfl
