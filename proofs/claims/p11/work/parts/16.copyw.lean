set_option maxRecDepth 100000 in
theorem ml_X4_32 : Cond.methodLink RX4 32 arraycopyName ∈ gw := gw_T3 191 rfl rfl
set_option maxRecDepth 100000 in
theorem ml_X8_41 : Cond.methodLink RX8 41 arraycopyName ∈ gw := gw_T3 198 rfl rfl
set_option maxRecDepth 100000 in
theorem ml_X5_52 : Cond.methodLink RX5 52 arraycopyName ∈ gw := gw_T5 134 rfl rfl
set_option maxRecDepth 100000 in
theorem ac_nat : Cond.native arraycopyName ∈ gw := gw_T3 193 rfl rfl
set_option maxRecDepth 100000 in
theorem ac_st : Cond.static arraycopyName ∈ gw := gw_T3 192 rfl rfl
set_option maxRecDepth 100000 in
theorem in_Sys : Cond.initialized "java/lang/System" ∈ gw := gw_T1 20 rfl rfl
