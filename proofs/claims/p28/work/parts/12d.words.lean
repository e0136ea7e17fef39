section FW
variable {M : MT} {d pc : Nat} {la : List (Option Value)} {st : List Value} {h : Hp} {Q : Option Value → Hp → Prop}
set_option maxRecDepth 100000 in
theorem c_X12_343 {Qk : Option Value → Hp → Prop} (hM : M.1.cls = RX12) {a : Nat} (hs : shp a = .inl 12) (ha : a < hn h) (hcat : catS st ≤ 8) (hd : decode M.2.1 pc = .ok (.invokevirtual 343, 3)) (hk : Kc mX12_fillsSides d (.ref a :: []) h Qk) (kk : ∀ (r1 : Option Value) (h1 : Hp), Qk r1 h1 → V M (d + 1) (pc + 3) la (r1.toList ++ st) h1 Q) : V M (d + 1) pc la (.ref a :: st) h Q := v_callV (N := mX12_fillsSides) (n := 0) [] rfl ok_X12_fillsSides (hM ▸ lk_X12_343) im_X12_fillsSides se_X12_fillsSides (by decide +kernel) rfl okC_12.1 hs ha hcat hd hk kk
set_option maxRecDepth 100000 in
theorem lk_X12_326 : lnk RX12 326 yX12_cells := Or.inl (gw_T5 215 rfl rfl)
set_option maxRecDepth 100000 in
theorem c_X12_326 {Qk : Option Value → Hp → Prop} (hM : M.1.cls = RX12) {a : Nat} (hs : shp a = .inl 12) (ha : a < hn h) (hcat : catS st ≤ 8) (hd : decode M.2.1 pc = .ok (.invokevirtual 326, 3)) (hk : Kc mX12_cells d (.ref a :: []) h Qk) (kk : ∀ (r1 : Option Value) (h1 : Hp), Qk r1 h1 → V M (d + 1) (pc + 3) la (r1.toList ++ st) h1 Q) : V M (d + 1) pc la (.ref a :: st) h Q := v_callV (N := mX12_cells) (n := 0) [] rfl ok_X12_cells (hM ▸ lk_X12_326) im_X12_cells se_X12_cells (by decide +kernel) rfl okC_12.1 hs ha hcat hd hk kk
set_option maxRecDepth 100000 in
theorem lk_X12_175 : lnk RX12 175 yX12_keepsRow := Or.inl (gw_T5 219 rfl rfl)
set_option maxRecDepth 100000 in
theorem c_X12_175 {Qk : Option Value → Hp → Prop} (hM : M.1.cls = RX12) {a : Nat} (hs : shp a = .inl 12) (ha : a < hn h) (hcat : catS st ≤ 8) (hd : decode M.2.1 pc = .ok (.invokevirtual 175, 3)) (hk : Kc mX12_keepsRow d (.ref a :: []) h Qk) (kk : ∀ (r1 : Option Value) (h1 : Hp), Qk r1 h1 → V M (d + 1) (pc + 3) la (r1.toList ++ st) h1 Q) : V M (d + 1) pc la (.ref a :: st) h Q := v_callV (N := mX12_keepsRow) (n := 0) [] rfl ok_X12_keepsRow (hM ▸ lk_X12_175) im_X12_keepsRow se_X12_keepsRow (by decide +kernel) rfl okC_12.1 hs ha hcat hd hk kk
set_option maxRecDepth 100000 in
theorem lk_L_17 : lnk RL 17 yX12_feed := Or.inl (gw_T6 193 rfl rfl)
set_option maxRecDepth 100000 in
theorem c_L_17 {Qk : Option Value → Hp → Prop} (hM : M.1.cls = RL) {x1 x2 x3 x4 x5 : Value} {a : Nat} (hs : shp a = .inl 12) (ha : a < hn h) (hcat : catS st ≤ 8) (hd : decode M.2.1 pc = .ok (.invokevirtual 17, 3)) (hk : Kc mX12_feed d (.ref a :: [x1, x2, x3, x4, x5]) h Qk) (kk : ∀ (r1 : Option Value) (h1 : Hp), Qk r1 h1 → V M (d + 1) (pc + 3) la (r1.toList ++ st) h1 Q) : V M (d + 1) pc la (x5 :: x4 :: x3 :: x2 :: x1 :: .ref a :: st) h Q := v_callV (N := mX12_feed) (n := 5) [x1, x2, x3, x4, x5] rfl ok_X12_feed (hM ▸ lk_L_17) im_X12_feed se_X12_feed (by decide +kernel) rfl okC_12.1 hs ha hcat hd hk kk
set_option maxRecDepth 100000 in
theorem lk_X12_181 : lnk RX12 181 yX12_lays := Or.inl (gw_T6 197 rfl rfl)
set_option maxRecDepth 100000 in
theorem c_X12_181 {Qk : Option Value → Hp → Prop} (hM : M.1.cls = RX12) {x1 : Value} {a : Nat} (hs : shp a = .inl 12) (ha : a < hn h) (hcat : catS st ≤ 8) (hd : decode M.2.1 pc = .ok (.invokevirtual 181, 3)) (hk : Kc mX12_lays d (.ref a :: [x1]) h Qk) (kk : ∀ (r1 : Option Value) (h1 : Hp), Qk r1 h1 → V M (d + 1) (pc + 3) la (r1.toList ++ st) h1 Q) : V M (d + 1) pc la (x1 :: .ref a :: st) h Q := v_callV (N := mX12_lays) (n := 1) [x1] rfl ok_X12_lays (hM ▸ lk_X12_181) im_X12_lays se_X12_lays (by decide +kernel) rfl okC_12.1 hs ha hcat hd hk kk
set_option maxRecDepth 100000 in
theorem lk_L_22 : lnk RL 22 yX12_back := Or.inl (gw_T6 201 rfl rfl)
set_option maxRecDepth 100000 in
theorem c_L_22 {Qk : Option Value → Hp → Prop} (hM : M.1.cls = RL) {x1 : Value} {a : Nat} (hs : shp a = .inl 12) (ha : a < hn h) (hcat : catS st ≤ 8) (hd : decode M.2.1 pc = .ok (.invokevirtual 22, 3)) (hk : Kc mX12_back d (.ref a :: [x1]) h Qk) (kk : ∀ (r1 : Option Value) (h1 : Hp), Qk r1 h1 → V M (d + 1) (pc + 3) la (r1.toList ++ st) h1 Q) : V M (d + 1) pc la (x1 :: .ref a :: st) h Q := v_callV (N := mX12_back) (n := 1) [x1] rfl ok_X12_back (hM ▸ lk_L_22) im_X12_back se_X12_back (by decide +kernel) rfl okC_12.1 hs ha hcat hd hk kk
set_option maxRecDepth 100000 in
theorem lk_L_27 : lnk RL 27 yX12_read := Or.inl (gw_T6 205 rfl rfl)
set_option maxRecDepth 100000 in
theorem c_L_27 {Qk : Option Value → Hp → Prop} (hM : M.1.cls = RL) {a : Nat} (hs : shp a = .inl 12) (ha : a < hn h) (hcat : catS st ≤ 8) (hd : decode M.2.1 pc = .ok (.invokevirtual 27, 3)) (hk : Kc mX12_read d (.ref a :: []) h Qk) (kk : ∀ (r1 : Option Value) (h1 : Hp), Qk r1 h1 → V M (d + 1) (pc + 3) la (r1.toList ++ st) h1 Q) : V M (d + 1) pc la (.ref a :: st) h Q := v_callV (N := mX12_read) (n := 0) [] rfl ok_X12_read (hM ▸ lk_L_27) im_X12_read se_X12_read (by decide +kernel) rfl okC_12.1 hs ha hcat hd hk kk
set_option maxRecDepth 100000 in
theorem lk_X12_239 : lnk RX12 239 yX12_cut := Or.inl (gw_T6 209 rfl rfl)
set_option maxRecDepth 100000 in
theorem c_X12_239 {Qk : Option Value → Hp → Prop} (hM : M.1.cls = RX12) {a : Nat} (hs : shp a = .inl 12) (ha : a < hn h) (hcat : catS st ≤ 8) (hd : decode M.2.1 pc = .ok (.invokevirtual 239, 3)) (hk : Kc mX12_cut d (.ref a :: []) h Qk) (kk : ∀ (r1 : Option Value) (h1 : Hp), Qk r1 h1 → V M (d + 1) (pc + 3) la (r1.toList ++ st) h1 Q) : V M (d + 1) pc la (.ref a :: st) h Q := v_callV (N := mX12_cut) (n := 0) [] rfl ok_X12_cut (hM ▸ lk_X12_239) im_X12_cut se_X12_cut (by decide +kernel) rfl okC_12.1 hs ha hcat hd hk kk
set_option maxRecDepth 100000 in
theorem lk_X12_196 : lnk RX12 196 yX12_byteAt := Or.inl (gw_T6 213 rfl rfl)
set_option maxRecDepth 100000 in
theorem c_X12_196 {Qk : Option Value → Hp → Prop} (hM : M.1.cls = RX12) {x1 : Value} {a : Nat} (hs : shp a = .inl 12) (ha : a < hn h) (hcat : catS st ≤ 8) (hd : decode M.2.1 pc = .ok (.invokevirtual 196, 3)) (hk : Kc mX12_byteAt d (.ref a :: [x1]) h Qk) (kk : ∀ (r1 : Option Value) (h1 : Hp), Qk r1 h1 → V M (d + 1) (pc + 3) la (r1.toList ++ st) h1 Q) : V M (d + 1) pc la (x1 :: .ref a :: st) h Q := v_callV (N := mX12_byteAt) (n := 1) [x1] rfl ok_X12_byteAt (hM ▸ lk_X12_196) im_X12_byteAt se_X12_byteAt (by decide +kernel) rfl okC_12.1 hs ha hcat hd hk kk
set_option maxRecDepth 100000 in
theorem lk_X12_200 : lnk RX12 200 yX12_token := Or.inl (gw_T6 217 rfl rfl)
set_option maxRecDepth 100000 in
theorem c_X12_200 {Qk : Option Value → Hp → Prop} (hM : M.1.cls = RX12) {x1 x2 x3 x4 : Value} {a : Nat} (hs : shp a = .inl 12) (ha : a < hn h) (hcat : catS st ≤ 8) (hd : decode M.2.1 pc = .ok (.invokevirtual 200, 3)) (hk : Kc mX12_token d (.ref a :: [x1, x2, x3, x4]) h Qk) (kk : ∀ (r1 : Option Value) (h1 : Hp), Qk r1 h1 → V M (d + 1) (pc + 3) la (r1.toList ++ st) h1 Q) : V M (d + 1) pc la (x4 :: x3 :: x2 :: x1 :: .ref a :: st) h Q := v_callV (N := mX12_token) (n := 4) [x1, x2, x3, x4] rfl ok_X12_token (hM ▸ lk_X12_200) im_X12_token se_X12_token (by decide +kernel) rfl okC_12.1 hs ha hcat hd hk kk
set_option maxRecDepth 100000 in
theorem lk_X12_204 : lnk RX12 204 yX12_isLetter := Or.inl (gw_T6 221 rfl rfl)
set_option maxRecDepth 100000 in
theorem c_X12_204 {Qk : Option Value → Hp → Prop} (hM : M.1.cls = RX12) {x1 : Value} (hcat : catS st ≤ 8) (hd : decode M.2.1 pc = .ok (.invokestatic 204, 3)) (hk : Kc mX12_isLetter d [x1] h Qk) (kk : ∀ (r1 : Option Value) (h1 : Hp), Qk r1 h1 → V M (d + 1) (pc + 3) la (r1.toList ++ st) h1 Q) : V M (d + 1) pc la (x1 :: st) h Q := v_callS (N := mX12_isLetter) (n := 1) [x1] rfl ok_X12_isLetter (hM ▸ lk_X12_204) sm_X12_isLetter (by decide +kernel) rfl hcat hd hk kk
set_option maxRecDepth 100000 in
theorem lk_X12_208 : lnk RX12 208 yX12_isDigit := Or.inl (gw_T6 224 rfl rfl)
set_option maxRecDepth 100000 in
theorem c_X12_208 {Qk : Option Value → Hp → Prop} (hM : M.1.cls = RX12) {x1 : Value} (hcat : catS st ≤ 8) (hd : decode M.2.1 pc = .ok (.invokestatic 208, 3)) (hk : Kc mX12_isDigit d [x1] h Qk) (kk : ∀ (r1 : Option Value) (h1 : Hp), Qk r1 h1 → V M (d + 1) (pc + 3) la (r1.toList ++ st) h1 Q) : V M (d + 1) pc la (x1 :: st) h Q := v_callS (N := mX12_isDigit) (n := 1) [x1] rfl ok_X12_isDigit (hM ▸ lk_X12_208) sm_X12_isDigit (by decide +kernel) rfl hcat hd hk kk
set_option maxRecDepth 100000 in
theorem lk_X12_211 : lnk RX12 211 yX12_sign := Or.inl (gw_T6 227 rfl rfl)
set_option maxRecDepth 100000 in
theorem c_X12_211 {Qk : Option Value → Hp → Prop} (hM : M.1.cls = RX12) {x1 x2 x3 : Value} {a : Nat} (hs : shp a = .inl 12) (ha : a < hn h) (hcat : catS st ≤ 8) (hd : decode M.2.1 pc = .ok (.invokevirtual 211, 3)) (hk : Kc mX12_sign d (.ref a :: [x1, x2, x3]) h Qk) (kk : ∀ (r1 : Option Value) (h1 : Hp), Qk r1 h1 → V M (d + 1) (pc + 3) la (r1.toList ++ st) h1 Q) : V M (d + 1) pc la (x3 :: x2 :: x1 :: .ref a :: st) h Q := v_callV (N := mX12_sign) (n := 3) [x1, x2, x3] rfl ok_X12_sign (hM ▸ lk_X12_211) im_X12_sign se_X12_sign (by decide +kernel) rfl okC_12.1 hs ha hcat hd hk kk
set_option maxRecDepth 100000 in
theorem lk_X12_233 : lnk RX12 233 yX12_is := Or.inl (gw_T6 231 rfl rfl)
set_option maxRecDepth 100000 in
theorem c_X12_233 {Qk : Option Value → Hp → Prop} (hM : M.1.cls = RX12) {x1 : Value} {a : Nat} (hs : shp a = .inl 12) (ha : a < hn h) (hcat : catS st ≤ 8) (hd : decode M.2.1 pc = .ok (.invokevirtual 233, 3)) (hk : Kc mX12_is d (.ref a :: [x1]) h Qk) (kk : ∀ (r1 : Option Value) (h1 : Hp), Qk r1 h1 → V M (d + 1) (pc + 3) la (r1.toList ++ st) h1 Q) : V M (d + 1) pc la (x1 :: .ref a :: st) h Q := v_callV (N := mX12_is) (n := 1) [x1] rfl ok_X12_is (hM ▸ lk_X12_233) im_X12_is se_X12_is (by decide +kernel) rfl okC_12.1 hs ha hcat hd hk kk
set_option maxRecDepth 100000 in
theorem lk_X12_260 : lnk RX12 260 yX12_tellOne := Or.inl (gw_T6 235 rfl rfl)
set_option maxRecDepth 100000 in
theorem c_X12_260 {Qk : Option Value → Hp → Prop} (hM : M.1.cls = RX12) {a : Nat} (hs : shp a = .inl 12) (ha : a < hn h) (hcat : catS st ≤ 8) (hd : decode M.2.1 pc = .ok (.invokevirtual 260, 3)) (hk : Kc mX12_tellOne d (.ref a :: []) h Qk) (kk : ∀ (r1 : Option Value) (h1 : Hp), Qk r1 h1 → V M (d + 1) (pc + 3) la (r1.toList ++ st) h1 Q) : V M (d + 1) pc la (.ref a :: st) h Q := v_callV (N := mX12_tellOne) (n := 0) [] rfl ok_X12_tellOne (hM ▸ lk_X12_260) im_X12_tellOne se_X12_tellOne (by decide +kernel) rfl okC_12.1 hs ha hcat hd hk kk
set_option maxRecDepth 100000 in
theorem lk_X12_236 : lnk RX12 236 yX12_goesOn := Or.inl (gw_T6 239 rfl rfl)
set_option maxRecDepth 100000 in
theorem c_X12_236 {Qk : Option Value → Hp → Prop} (hM : M.1.cls = RX12) {a : Nat} (hs : shp a = .inl 12) (ha : a < hn h) (hcat : catS st ≤ 8) (hd : decode M.2.1 pc = .ok (.invokevirtual 236, 3)) (hk : Kc mX12_goesOn d (.ref a :: []) h Qk) (kk : ∀ (r1 : Option Value) (h1 : Hp), Qk r1 h1 → V M (d + 1) (pc + 3) la (r1.toList ++ st) h1 Q) : V M (d + 1) pc la (.ref a :: st) h Q := v_callV (N := mX12_goesOn) (n := 0) [] rfl ok_X12_goesOn (hM ▸ lk_X12_236) im_X12_goesOn se_X12_goesOn (by decide +kernel) rfl okC_12.1 hs ha hcat hd hk kk
set_option maxRecDepth 100000 in
theorem lk_X12_230 : lnk RX12 230 yX12_fail := Or.inl (gw_T7 3 rfl rfl)
set_option maxRecDepth 100000 in
theorem c_X12_230 {Qk : Option Value → Hp → Prop} (hM : M.1.cls = RX12) {x1 : Value} {a : Nat} (hs : shp a = .inl 12) (ha : a < hn h) (hcat : catS st ≤ 8) (hd : decode M.2.1 pc = .ok (.invokevirtual 230, 3)) (hk : Kc mX12_fail d (.ref a :: [x1]) h Qk) (kk : ∀ (r1 : Option Value) (h1 : Hp), Qk r1 h1 → V M (d + 1) (pc + 3) la (r1.toList ++ st) h1 Q) : V M (d + 1) pc la (x1 :: .ref a :: st) h Q := v_callV (N := mX12_fail) (n := 1) [x1] rfl ok_X12_fail (hM ▸ lk_X12_230) im_X12_fail se_X12_fail (by decide +kernel) rfl okC_12.1 hs ha hcat hd hk kk
set_option maxRecDepth 100000 in
theorem lk_X12_281 : lnk RX12 281 yX12_bounded := Or.inl (gw_T7 7 rfl rfl)
set_option maxRecDepth 100000 in
theorem c_X12_281 {Qk : Option Value → Hp → Prop} (hM : M.1.cls = RX12) {x1 x2 : Value} {a : Nat} (hs : shp a = .inl 12) (ha : a < hn h) (hcat : catS st ≤ 8) (hd : decode M.2.1 pc = .ok (.invokevirtual 281, 3)) (hk : Kc mX12_bounded d (.ref a :: [x1, x2]) h Qk) (kk : ∀ (r1 : Option Value) (h1 : Hp), Qk r1 h1 → V M (d + 1) (pc + 3) la (r1.toList ++ st) h1 Q) : V M (d + 1) pc la (x2 :: x1 :: .ref a :: st) h Q := v_callV (N := mX12_bounded) (n := 2) [x1, x2] rfl ok_X12_bounded (hM ▸ lk_X12_281) im_X12_bounded se_X12_bounded (by decide +kernel) rfl okC_12.1 hs ha hcat hd hk kk
set_option maxRecDepth 100000 in
theorem lk_X12_267 : lnk RX12 267 yX12_wrong := Or.inl (gw_T7 11 rfl rfl)
set_option maxRecDepth 100000 in
theorem c_X12_267 {Qk : Option Value → Hp → Prop} (hM : M.1.cls = RX12) {x1 x2 : Value} {a : Nat} (hs : shp a = .inl 12) (ha : a < hn h) (hcat : catS st ≤ 8) (hd : decode M.2.1 pc = .ok (.invokevirtual 267, 3)) (hk : Kc mX12_wrong d (.ref a :: [x1, x2]) h Qk) (kk : ∀ (r1 : Option Value) (h1 : Hp), Qk r1 h1 → V M (d + 1) (pc + 3) la (r1.toList ++ st) h1 Q) : V M (d + 1) pc la (x2 :: x1 :: .ref a :: st) h Q := v_callV (N := mX12_wrong) (n := 2) [x1, x2] rfl ok_X12_wrong (hM ▸ lk_X12_267) im_X12_wrong se_X12_wrong (by decide +kernel) rfl okC_12.1 hs ha hcat hd hk kk
set_option maxRecDepth 100000 in
theorem lk_X12_285 : lnk RX12 285 yX12_must := Or.inl (gw_T7 15 rfl rfl)
set_option maxRecDepth 100000 in
theorem c_X12_285 {Qk : Option Value → Hp → Prop} (hM : M.1.cls = RX12) {x1 : Value} {a : Nat} (hs : shp a = .inl 12) (ha : a < hn h) (hcat : catS st ≤ 8) (hd : decode M.2.1 pc = .ok (.invokevirtual 285, 3)) (hk : Kc mX12_must d (.ref a :: [x1]) h Qk) (kk : ∀ (r1 : Option Value) (h1 : Hp), Qk r1 h1 → V M (d + 1) (pc + 3) la (r1.toList ++ st) h1 Q) : V M (d + 1) pc la (x1 :: .ref a :: st) h Q := v_callV (N := mX12_must) (n := 1) [x1] rfl ok_X12_must (hM ▸ lk_X12_285) im_X12_must se_X12_must (by decide +kernel) rfl okC_12.1 hs ha hcat hd hk kk
set_option maxRecDepth 100000 in
theorem lk_X12_288 : lnk RX12 288 yX12_roomFor := Or.inl (gw_T7 19 rfl rfl)
set_option maxRecDepth 100000 in
theorem c_X12_288 {Qk : Option Value → Hp → Prop} (hM : M.1.cls = RX12) {x1 x2 : Value} {a : Nat} (hs : shp a = .inl 12) (ha : a < hn h) (hcat : catS st ≤ 8) (hd : decode M.2.1 pc = .ok (.invokevirtual 288, 3)) (hk : Kc mX12_roomFor d (.ref a :: [x1, x2]) h Qk) (kk : ∀ (r1 : Option Value) (h1 : Hp), Qk r1 h1 → V M (d + 1) (pc + 3) la (r1.toList ++ st) h1 Q) : V M (d + 1) pc la (x2 :: x1 :: .ref a :: st) h Q := v_callV (N := mX12_roomFor) (n := 2) [x1, x2] rfl ok_X12_roomFor (hM ▸ lk_X12_288) im_X12_roomFor se_X12_roomFor (by decide +kernel) rfl okC_12.1 hs ha hcat hd hk kk
set_option maxRecDepth 100000 in
theorem lk_X12_291 : lnk RX12 291 yX12_tellTune := Or.inl (gw_T7 23 rfl rfl)
set_option maxRecDepth 100000 in
theorem c_X12_291 {Qk : Option Value → Hp → Prop} (hM : M.1.cls = RX12) {a : Nat} (hs : shp a = .inl 12) (ha : a < hn h) (hcat : catS st ≤ 8) (hd : decode M.2.1 pc = .ok (.invokevirtual 291, 3)) (hk : Kc mX12_tellTune d (.ref a :: []) h Qk) (kk : ∀ (r1 : Option Value) (h1 : Hp), Qk r1 h1 → V M (d + 1) (pc + 3) la (r1.toList ++ st) h1 Q) : V M (d + 1) pc la (.ref a :: st) h Q := v_callV (N := mX12_tellTune) (n := 0) [] rfl ok_X12_tellTune (hM ▸ lk_X12_291) im_X12_tellTune se_X12_tellTune (by decide +kernel) rfl okC_12.1 hs ha hcat hd hk kk
set_option maxRecDepth 100000 in
theorem lk_X12_294 : lnk RX12 294 yX12_tellGoer := Or.inl (gw_T7 27 rfl rfl)
set_option maxRecDepth 100000 in
theorem c_X12_294 {Qk : Option Value → Hp → Prop} (hM : M.1.cls = RX12) {a : Nat} (hs : shp a = .inl 12) (ha : a < hn h) (hcat : catS st ≤ 8) (hd : decode M.2.1 pc = .ok (.invokevirtual 294, 3)) (hk : Kc mX12_tellGoer d (.ref a :: []) h Qk) (kk : ∀ (r1 : Option Value) (h1 : Hp), Qk r1 h1 → V M (d + 1) (pc + 3) la (r1.toList ++ st) h1 Q) : V M (d + 1) pc la (.ref a :: st) h Q := v_callV (N := mX12_tellGoer) (n := 0) [] rfl ok_X12_tellGoer (hM ▸ lk_X12_294) im_X12_tellGoer se_X12_tellGoer (by decide +kernel) rfl okC_12.1 hs ha hcat hd hk kk
set_option maxRecDepth 100000 in
theorem lk_X12_297 : lnk RX12 297 yX12_tellRope := Or.inl (gw_T7 31 rfl rfl)
set_option maxRecDepth 100000 in
theorem c_X12_297 {Qk : Option Value → Hp → Prop} (hM : M.1.cls = RX12) {a : Nat} (hs : shp a = .inl 12) (ha : a < hn h) (hcat : catS st ≤ 8) (hd : decode M.2.1 pc = .ok (.invokevirtual 297, 3)) (hk : Kc mX12_tellRope d (.ref a :: []) h Qk) (kk : ∀ (r1 : Option Value) (h1 : Hp), Qk r1 h1 → V M (d + 1) (pc + 3) la (r1.toList ++ st) h1 Q) : V M (d + 1) pc la (.ref a :: st) h Q := v_callV (N := mX12_tellRope) (n := 0) [] rfl ok_X12_tellRope (hM ▸ lk_X12_297) im_X12_tellRope se_X12_tellRope (by decide +kernel) rfl okC_12.1 hs ha hcat hd hk kk
set_option maxRecDepth 100000 in
theorem lk_X12_300 : lnk RX12 300 yX12_tellLaw := Or.inl (gw_T7 35 rfl rfl)
set_option maxRecDepth 100000 in
theorem c_X12_300 {Qk : Option Value → Hp → Prop} (hM : M.1.cls = RX12) {x1 : Value} {a : Nat} (hs : shp a = .inl 12) (ha : a < hn h) (hcat : catS st ≤ 8) (hd : decode M.2.1 pc = .ok (.invokevirtual 300, 3)) (hk : Kc mX12_tellLaw d (.ref a :: [x1]) h Qk) (kk : ∀ (r1 : Option Value) (h1 : Hp), Qk r1 h1 → V M (d + 1) (pc + 3) la (r1.toList ++ st) h1 Q) : V M (d + 1) pc la (x1 :: .ref a :: st) h Q := v_callV (N := mX12_tellLaw) (n := 1) [x1] rfl ok_X12_tellLaw (hM ▸ lk_X12_300) im_X12_tellLaw se_X12_tellLaw (by decide +kernel) rfl okC_12.1 hs ha hcat hd hk kk
set_option maxRecDepth 100000 in
theorem lk_X12_303 : lnk RX12 303 yX12_expression := Or.inl (gw_T7 39 rfl rfl)
set_option maxRecDepth 100000 in
theorem c_X12_303 {Qk : Option Value → Hp → Prop} (hM : M.1.cls = RX12) {a : Nat} (hs : shp a = .inl 12) (ha : a < hn h) (hcat : catS st ≤ 8) (hd : decode M.2.1 pc = .ok (.invokevirtual 303, 3)) (hk : Kc mX12_expression d (.ref a :: []) h Qk) (kk : ∀ (r1 : Option Value) (h1 : Hp), Qk r1 h1 → V M (d + 1) (pc + 3) la (r1.toList ++ st) h1 Q) : V M (d + 1) pc la (.ref a :: st) h Q := v_callV (N := mX12_expression) (n := 0) [] rfl ok_X12_expression (hM ▸ lk_X12_303) im_X12_expression se_X12_expression (by decide +kernel) rfl okC_12.1 hs ha hcat hd hk kk
set_option maxRecDepth 100000 in
theorem lk_X12_315 : lnk RX12 315 yX12_unit := Or.inl (gw_T7 43 rfl rfl)
set_option maxRecDepth 100000 in
theorem c_X12_315 {Qk : Option Value → Hp → Prop} (hM : M.1.cls = RX12) {a : Nat} (hs : shp a = .inl 12) (ha : a < hn h) (hcat : catS st ≤ 8) (hd : decode M.2.1 pc = .ok (.invokevirtual 315, 3)) (hk : Kc mX12_unit d (.ref a :: []) h Qk) (kk : ∀ (r1 : Option Value) (h1 : Hp), Qk r1 h1 → V M (d + 1) (pc + 3) la (r1.toList ++ st) h1 Q) : V M (d + 1) pc la (.ref a :: st) h Q := v_callV (N := mX12_unit) (n := 0) [] rfl ok_X12_unit (hM ▸ lk_X12_315) im_X12_unit se_X12_unit (by decide +kernel) rfl okC_12.1 hs ha hcat hd hk kk
set_option maxRecDepth 100000 in
theorem lk_X12_312 : lnk RX12 312 yX12_emit := Or.inl (gw_T7 47 rfl rfl)
set_option maxRecDepth 100000 in
theorem c_X12_312 {Qk : Option Value → Hp → Prop} (hM : M.1.cls = RX12) {x1 x2 : Value} {a : Nat} (hs : shp a = .inl 12) (ha : a < hn h) (hcat : catS st ≤ 8) (hd : decode M.2.1 pc = .ok (.invokevirtual 312, 3)) (hk : Kc mX12_emit d (.ref a :: [x1, x2]) h Qk) (kk : ∀ (r1 : Option Value) (h1 : Hp), Qk r1 h1 → V M (d + 1) (pc + 3) la (r1.toList ++ st) h1 Q) : V M (d + 1) pc la (x2 :: x1 :: .ref a :: st) h Q := v_callV (N := mX12_emit) (n := 2) [x1, x2] rfl ok_X12_emit (hM ▸ lk_X12_312) im_X12_emit se_X12_emit (by decide +kernel) rfl okC_12.1 hs ha hcat hd hk kk
set_option maxRecDepth 100000 in
theorem lk_X12_318 : lnk RX12 318 yX12_comesOut := Or.inl (gw_T7 51 rfl rfl)
set_option maxRecDepth 100000 in
theorem c_X12_318 {Qk : Option Value → Hp → Prop} (hM : M.1.cls = RX12) {x1 : Value} {a : Nat} (hs : shp a = .inl 12) (ha : a < hn h) (hcat : catS st ≤ 8) (hd : decode M.2.1 pc = .ok (.invokevirtual 318, 3)) (hk : Kc mX12_comesOut d (.ref a :: [x1]) h Qk) (kk : ∀ (r1 : Option Value) (h1 : Hp), Qk r1 h1 → V M (d + 1) (pc + 3) la (r1.toList ++ st) h1 Q) : V M (d + 1) pc la (x1 :: .ref a :: st) h Q := v_callV (N := mX12_comesOut) (n := 1) [x1] rfl ok_X12_comesOut (hM ▸ lk_X12_318) im_X12_comesOut se_X12_comesOut (by decide +kernel) rfl okC_12.1 hs ha hcat hd hk kk
set_option maxRecDepth 100000 in
theorem lk_X12_306 : lnk RX12 306 yX12_term := Or.inl (gw_T7 55 rfl rfl)
set_option maxRecDepth 100000 in
theorem c_X12_306 {Qk : Option Value → Hp → Prop} (hM : M.1.cls = RX12) {a : Nat} (hs : shp a = .inl 12) (ha : a < hn h) (hcat : catS st ≤ 8) (hd : decode M.2.1 pc = .ok (.invokevirtual 306, 3)) (hk : Kc mX12_term d (.ref a :: []) h Qk) (kk : ∀ (r1 : Option Value) (h1 : Hp), Qk r1 h1 → V M (d + 1) (pc + 3) la (r1.toList ++ st) h1 Q) : V M (d + 1) pc la (.ref a :: st) h Q := v_callV (N := mX12_term) (n := 0) [] rfl ok_X12_term (hM ▸ lk_X12_306) im_X12_term se_X12_term (by decide +kernel) rfl okC_12.1 hs ha hcat hd hk kk
set_option maxRecDepth 100000 in
theorem lk_X12_263 : lnk RX12 263 yX12_isBeyond := Or.inl (gw_T7 59 rfl rfl)
set_option maxRecDepth 100000 in
theorem c_X12_263 {Qk : Option Value → Hp → Prop} (hM : M.1.cls = RX12) {a : Nat} (hs : shp a = .inl 12) (ha : a < hn h) (hcat : catS st ≤ 8) (hd : decode M.2.1 pc = .ok (.invokevirtual 263, 3)) (hk : Kc mX12_isBeyond d (.ref a :: []) h Qk) (kk : ∀ (r1 : Option Value) (h1 : Hp), Qk r1 h1 → V M (d + 1) (pc + 3) la (r1.toList ++ st) h1 Q) : V M (d + 1) pc la (.ref a :: st) h Q := v_callV (N := mX12_isBeyond) (n := 0) [] rfl ok_X12_isBeyond (hM ▸ lk_X12_263) im_X12_isBeyond se_X12_isBeyond (by decide +kernel) rfl okC_12.1 hs ha hcat hd hk kk
set_option maxRecDepth 100000 in
theorem lk_X12_277 : lnk RX12 277 yX12_isOff := Or.inl (gw_T7 63 rfl rfl)
set_option maxRecDepth 100000 in
theorem c_X12_277 {Qk : Option Value → Hp → Prop} (hM : M.1.cls = RX12) {x1 x2 : Value} {a : Nat} (hs : shp a = .inl 12) (ha : a < hn h) (hcat : catS st ≤ 8) (hd : decode M.2.1 pc = .ok (.invokevirtual 277, 3)) (hk : Kc mX12_isOff d (.ref a :: [x1, x2]) h Qk) (kk : ∀ (r1 : Option Value) (h1 : Hp), Qk r1 h1 → V M (d + 1) (pc + 3) la (r1.toList ++ st) h1 Q) : V M (d + 1) pc la (x2 :: x1 :: .ref a :: st) h Q := v_callV (N := mX12_isOff) (n := 2) [x1, x2] rfl ok_X12_isOff (hM ▸ lk_X12_277) im_X12_isOff se_X12_isOff (by decide +kernel) rfl okC_12.1 hs ha hcat hd hk kk
set_option maxRecDepth 100000 in
theorem lk_L_31 : lnk RL 31 yX12_place := Or.inl (gw_T7 67 rfl rfl)
set_option maxRecDepth 100000 in
theorem c_L_31 {Qk : Option Value → Hp → Prop} (hM : M.1.cls = RL) {a : Nat} (hs : shp a = .inl 12) (ha : a < hn h) (hcat : catS st ≤ 8) (hd : decode M.2.1 pc = .ok (.invokevirtual 31, 3)) (hk : Kc mX12_place d (.ref a :: []) h Qk) (kk : ∀ (r1 : Option Value) (h1 : Hp), Qk r1 h1 → V M (d + 1) (pc + 3) la (r1.toList ++ st) h1 Q) : V M (d + 1) pc la (.ref a :: st) h Q := v_callV (N := mX12_place) (n := 0) [] rfl ok_X12_place (hM ▸ lk_L_31) im_X12_place se_X12_place (by decide +kernel) rfl okC_12.1 hs ha hcat hd hk kk
set_option maxRecDepth 100000 in
theorem lk_L_36 : lnk RL 36 yX12_cell := Or.inl (gw_T7 71 rfl rfl)
set_option maxRecDepth 100000 in
theorem c_L_36 {Qk : Option Value → Hp → Prop} (hM : M.1.cls = RL) {x1 x2 : Value} {a : Nat} (hs : shp a = .inl 12) (ha : a < hn h) (hcat : catS st ≤ 8) (hd : decode M.2.1 pc = .ok (.invokevirtual 36, 3)) (hk : Kc mX12_cell d (.ref a :: [x1, x2]) h Qk) (kk : ∀ (r1 : Option Value) (h1 : Hp), Qk r1 h1 → V M (d + 1) (pc + 3) la (r1.toList ++ st) h1 Q) : V M (d + 1) pc la (x2 :: x1 :: .ref a :: st) h Q := v_callV (N := mX12_cell) (n := 2) [x1, x2] rfl ok_X12_cell (hM ▸ lk_L_36) im_X12_cell se_X12_cell (by decide +kernel) rfl okC_12.1 hs ha hcat hd hk kk
set_option maxRecDepth 100000 in
theorem lk_X12_403 : lnk RX12 403 yX12_isCell := Or.inl (gw_T7 75 rfl rfl)
set_option maxRecDepth 100000 in
theorem c_X12_403 {Qk : Option Value → Hp → Prop} (hM : M.1.cls = RX12) {x1 : Value} {a : Nat} (hs : shp a = .inl 12) (ha : a < hn h) (hcat : catS st ≤ 8) (hd : decode M.2.1 pc = .ok (.invokevirtual 403, 3)) (hk : Kc mX12_isCell d (.ref a :: [x1]) h Qk) (kk : ∀ (r1 : Option Value) (h1 : Hp), Qk r1 h1 → V M (d + 1) (pc + 3) la (r1.toList ++ st) h1 Q) : V M (d + 1) pc la (x1 :: .ref a :: st) h Q := v_callV (N := mX12_isCell) (n := 1) [x1] rfl ok_X12_isCell (hM ▸ lk_X12_403) im_X12_isCell se_X12_isCell (by decide +kernel) rfl okC_12.1 hs ha hcat hd hk kk
set_option maxRecDepth 100000 in
theorem lk_X12_330 : lnk RX12 330 yX12_in := Or.inl (gw_T7 79 rfl rfl)
set_option maxRecDepth 100000 in
theorem c_X12_330 {Qk : Option Value → Hp → Prop} (hM : M.1.cls = RX12) {x1 x2 x3 : Value} (hcat : catS st ≤ 8) (hd : decode M.2.1 pc = .ok (.invokestatic 330, 3)) (hk : Kc mX12_in d [x1, x2, x3] h Qk) (kk : ∀ (r1 : Option Value) (h1 : Hp), Qk r1 h1 → V M (d + 1) (pc + 3) la (r1.toList ++ st) h1 Q) : V M (d + 1) pc la (x3 :: x2 :: x1 :: st) h Q := v_callS (N := mX12_in) (n := 3) [x1, x2, x3] rfl ok_X12_in (hM ▸ lk_X12_330) sm_X12_in (by decide +kernel) rfl hcat hd hk kk
set_option maxRecDepth 100000 in
theorem lk_X12_346 : lnk RX12 346 yX12_copies := Or.inl (gw_T7 82 rfl rfl)
set_option maxRecDepth 100000 in
theorem c_X12_346 {Qk : Option Value → Hp → Prop} (hM : M.1.cls = RX12) {a : Nat} (hs : shp a = .inl 12) (ha : a < hn h) (hcat : catS st ≤ 8) (hd : decode M.2.1 pc = .ok (.invokevirtual 346, 3)) (hk : Kc mX12_copies d (.ref a :: []) h Qk) (kk : ∀ (r1 : Option Value) (h1 : Hp), Qk r1 h1 → V M (d + 1) (pc + 3) la (r1.toList ++ st) h1 Q) : V M (d + 1) pc la (.ref a :: st) h Q := v_callV (N := mX12_copies) (n := 0) [] rfl ok_X12_copies (hM ▸ lk_X12_346) im_X12_copies se_X12_copies (by decide +kernel) rfl okC_12.1 hs ha hcat hd hk kk
set_option maxRecDepth 100000 in
theorem lk_X12_353 : lnk RX12 353 yX12_isLoud := Or.inl (gw_T7 86 rfl rfl)
set_option maxRecDepth 100000 in
theorem c_X12_353 {Qk : Option Value → Hp → Prop} (hM : M.1.cls = RX12) {x1 x2 : Value} {a : Nat} (hs : shp a = .inl 12) (ha : a < hn h) (hcat : catS st ≤ 8) (hd : decode M.2.1 pc = .ok (.invokevirtual 353, 3)) (hk : Kc mX12_isLoud d (.ref a :: [x1, x2]) h Qk) (kk : ∀ (r1 : Option Value) (h1 : Hp), Qk r1 h1 → V M (d + 1) (pc + 3) la (r1.toList ++ st) h1 Q) : V M (d + 1) pc la (x2 :: x1 :: .ref a :: st) h Q := v_callV (N := mX12_isLoud) (n := 2) [x1, x2] rfl ok_X12_isLoud (hM ▸ lk_X12_353) im_X12_isLoud se_X12_isLoud (by decide +kernel) rfl okC_12.1 hs ha hcat hd hk kk
set_option maxRecDepth 100000 in
theorem lk_X12_372 : lnk RX12 372 yX12_isRoped := Or.inl (gw_T7 90 rfl rfl)
set_option maxRecDepth 100000 in
theorem c_X12_372 {Qk : Option Value → Hp → Prop} (hM : M.1.cls = RX12) {x1 : Value} {a : Nat} (hs : shp a = .inl 12) (ha : a < hn h) (hcat : catS st ≤ 8) (hd : decode M.2.1 pc = .ok (.invokevirtual 372, 3)) (hk : Kc mX12_isRoped d (.ref a :: [x1]) h Qk) (kk : ∀ (r1 : Option Value) (h1 : Hp), Qk r1 h1 → V M (d + 1) (pc + 3) la (r1.toList ++ st) h1 Q) : V M (d + 1) pc la (x1 :: .ref a :: st) h Q := v_callV (N := mX12_isRoped) (n := 1) [x1] rfl ok_X12_isRoped (hM ▸ lk_X12_372) im_X12_isRoped se_X12_isRoped (by decide +kernel) rfl okC_12.1 hs ha hcat hd hk kk
set_option maxRecDepth 100000 in
theorem lk_X12_406 : lnk RX12 406 yX12_whoAt := Or.inl (gw_T7 94 rfl rfl)
set_option maxRecDepth 100000 in
theorem c_X12_406 {Qk : Option Value → Hp → Prop} (hM : M.1.cls = RX12) {x1 : Value} {a : Nat} (hs : shp a = .inl 12) (ha : a < hn h) (hcat : catS st ≤ 8) (hd : decode M.2.1 pc = .ok (.invokevirtual 406, 3)) (hk : Kc mX12_whoAt d (.ref a :: [x1]) h Qk) (kk : ∀ (r1 : Option Value) (h1 : Hp), Qk r1 h1 → V M (d + 1) (pc + 3) la (r1.toList ++ st) h1 Q) : V M (d + 1) pc la (x1 :: .ref a :: st) h Q := v_callV (N := mX12_whoAt) (n := 1) [x1] rfl ok_X12_whoAt (hM ▸ lk_X12_406) im_X12_whoAt se_X12_whoAt (by decide +kernel) rfl okC_12.1 hs ha hcat hd hk kk
set_option maxRecDepth 100000 in
theorem lk_X12_382 : lnk RX12 382 yX12_costsOf := Or.inl (gw_T7 98 rfl rfl)
set_option maxRecDepth 100000 in
theorem c_X12_382 {Qk : Option Value → Hp → Prop} (hM : M.1.cls = RX12) {x1 : Value} {a : Nat} (hs : shp a = .inl 12) (ha : a < hn h) (hcat : catS st ≤ 8) (hd : decode M.2.1 pc = .ok (.invokevirtual 382, 3)) (hk : Kc mX12_costsOf d (.ref a :: [x1]) h Qk) (kk : ∀ (r1 : Option Value) (h1 : Hp), Qk r1 h1 → V M (d + 1) (pc + 3) la (r1.toList ++ st) h1 Q) : V M (d + 1) pc la (x1 :: .ref a :: st) h Q := v_callV (N := mX12_costsOf) (n := 1) [x1] rfl ok_X12_costsOf (hM ▸ lk_X12_382) im_X12_costsOf se_X12_costsOf (by decide +kernel) rfl okC_12.1 hs ha hcat hd hk kk
set_option maxRecDepth 100000 in
theorem lk_X12_368 : lnk RX12 368 yX12_toldOf := Or.inl (gw_T7 102 rfl rfl)
set_option maxRecDepth 100000 in
theorem c_X12_368 {Qk : Option Value → Hp → Prop} (hM : M.1.cls = RX12) {x1 x2 x3 x4 x5 : Value} {a : Nat} (hs : shp a = .inl 12) (ha : a < hn h) (hcat : catS st ≤ 8) (hd : decode M.2.1 pc = .ok (.invokevirtual 368, 3)) (hk : Kc mX12_toldOf d (.ref a :: [x1, x2, x3, x4, x5]) h Qk) (kk : ∀ (r1 : Option Value) (h1 : Hp), Qk r1 h1 → V M (d + 1) (pc + 3) la (r1.toList ++ st) h1 Q) : V M (d + 1) pc la (x5 :: x4 :: x3 :: x2 :: x1 :: .ref a :: st) h Q := v_callV (N := mX12_toldOf) (n := 5) [x1, x2, x3, x4, x5] rfl ok_X12_toldOf (hM ▸ lk_X12_368) im_X12_toldOf se_X12_toldOf (by decide +kernel) rfl okC_12.1 hs ha hcat hd hk kk
set_option maxRecDepth 100000 in
theorem lk_X12_359 : lnk RX12 359 yX12_tuneBits := Or.inl (gw_T7 106 rfl rfl)
set_option maxRecDepth 100000 in
theorem c_X12_359 {Qk : Option Value → Hp → Prop} (hM : M.1.cls = RX12) {a : Nat} (hs : shp a = .inl 12) (ha : a < hn h) (hcat : catS st ≤ 8) (hd : decode M.2.1 pc = .ok (.invokevirtual 359, 3)) (hk : Kc mX12_tuneBits d (.ref a :: []) h Qk) (kk : ∀ (r1 : Option Value) (h1 : Hp), Qk r1 h1 → V M (d + 1) (pc + 3) la (r1.toList ++ st) h1 Q) : V M (d + 1) pc la (.ref a :: st) h Q := v_callV (N := mX12_tuneBits) (n := 0) [] rfl ok_X12_tuneBits (hM ▸ lk_X12_359) im_X12_tuneBits se_X12_tuneBits (by decide +kernel) rfl okC_12.1 hs ha hcat hd hk kk
set_option maxRecDepth 100000 in
theorem lk_X12_362 : lnk RX12 362 yX12_bits := Or.inl (gw_T7 110 rfl rfl)
set_option maxRecDepth 100000 in
theorem c_X12_362 {Qk : Option Value → Hp → Prop} (hM : M.1.cls = RX12) {x1 : Value} (hcat : catS st ≤ 8) (hd : decode M.2.1 pc = .ok (.invokestatic 362, 3)) (hk : Kc mX12_bits d [x1] h Qk) (kk : ∀ (r1 : Option Value) (h1 : Hp), Qk r1 h1 → V M (d + 1) (pc + 3) la (r1.toList ++ st) h1 Q) : V M (d + 1) pc la (x1 :: st) h Q := v_callS (N := mX12_bits) (n := 1) [x1] rfl ok_X12_bits (hM ▸ lk_X12_362) sm_X12_bits (by decide +kernel) rfl hcat hd hk kk
set_option maxRecDepth 100000 in
theorem lk_X12_365 : lnk RX12 365 yX12_lawTells := Or.inl (gw_T7 113 rfl rfl)
set_option maxRecDepth 100000 in
theorem c_X12_365 {Qk : Option Value → Hp → Prop} (hM : M.1.cls = RX12) {x1 x2 : Value} {a : Nat} (hs : shp a = .inl 12) (ha : a < hn h) (hcat : catS st ≤ 8) (hd : decode M.2.1 pc = .ok (.invokevirtual 365, 3)) (hk : Kc mX12_lawTells d (.ref a :: [x1, x2]) h Qk) (kk : ∀ (r1 : Option Value) (h1 : Hp), Qk r1 h1 → V M (d + 1) (pc + 3) la (r1.toList ++ st) h1 Q) : V M (d + 1) pc la (x2 :: x1 :: .ref a :: st) h Q := v_callV (N := mX12_lawTells) (n := 2) [x1, x2] rfl ok_X12_lawTells (hM ▸ lk_X12_365) im_X12_lawTells se_X12_lawTells (by decide +kernel) rfl okC_12.1 hs ha hcat hd hk kk
set_option maxRecDepth 100000 in
theorem lk_X12_356 : lnk RX12 356 yX12_termOf := Or.inl (gw_T7 117 rfl rfl)
set_option maxRecDepth 100000 in
theorem c_X12_356 {Qk : Option Value → Hp → Prop} (hM : M.1.cls = RX12) {x1 x2 : Value} {a : Nat} (hs : shp a = .inl 12) (ha : a < hn h) (hcat : catS st ≤ 8) (hd : decode M.2.1 pc = .ok (.invokevirtual 356, 3)) (hk : Kc mX12_termOf d (.ref a :: [x1, x2]) h Qk) (kk : ∀ (r1 : Option Value) (h1 : Hp), Qk r1 h1 → V M (d + 1) (pc + 3) la (r1.toList ++ st) h1 Q) : V M (d + 1) pc la (x2 :: x1 :: .ref a :: st) h Q := v_callV (N := mX12_termOf) (n := 2) [x1, x2] rfl ok_X12_termOf (hM ▸ lk_X12_356) im_X12_termOf se_X12_termOf (by decide +kernel) rfl okC_12.1 hs ha hcat hd hk kk
set_option maxRecDepth 100000 in
theorem lk_X12_379 : lnk RX12 379 yX12_within := Or.inl (gw_T7 121 rfl rfl)
set_option maxRecDepth 100000 in
theorem c_X12_379 {Qk : Option Value → Hp → Prop} (hM : M.1.cls = RX12) {x1 x2 x3 : Value} (hcat : catS st ≤ 8) (hd : decode M.2.1 pc = .ok (.invokestatic 379, 3)) (hk : Kc mX12_within d [x1, x2, x3] h Qk) (kk : ∀ (r1 : Option Value) (h1 : Hp), Qk r1 h1 → V M (d + 1) (pc + 3) la (r1.toList ++ st) h1 Q) : V M (d + 1) pc la (x3 :: x2 :: x1 :: st) h Q := v_callS (N := mX12_within) (n := 3) [x1, x2, x3] rfl ok_X12_within (hM ▸ lk_X12_379) sm_X12_within (by decide +kernel) rfl hcat hd hk kk
set_option maxRecDepth 100000 in
theorem lk_L_40 : lnk RL 40 yX12_goer := Or.inl (gw_T7 124 rfl rfl)
set_option maxRecDepth 100000 in
theorem c_L_40 {Qk : Option Value → Hp → Prop} (hM : M.1.cls = RL) {x1 x2 : Value} {a : Nat} (hs : shp a = .inl 12) (ha : a < hn h) (hcat : catS st ≤ 8) (hd : decode M.2.1 pc = .ok (.invokevirtual 40, 3)) (hk : Kc mX12_goer d (.ref a :: [x1, x2]) h Qk) (kk : ∀ (r1 : Option Value) (h1 : Hp), Qk r1 h1 → V M (d + 1) (pc + 3) la (r1.toList ++ st) h1 Q) : V M (d + 1) pc la (x2 :: x1 :: .ref a :: st) h Q := v_callV (N := mX12_goer) (n := 2) [x1, x2] rfl ok_X12_goer (hM ▸ lk_L_40) im_X12_goer se_X12_goer (by decide +kernel) rfl okC_12.1 hs ha hcat hd hk kk
set_option maxRecDepth 100000 in
theorem lk_X12_409 : lnk RX12 409 yX12_isGoer := Or.inl (gw_T7 128 rfl rfl)
set_option maxRecDepth 100000 in
theorem c_X12_409 {Qk : Option Value → Hp → Prop} (hM : M.1.cls = RX12) {x1 : Value} {a : Nat} (hs : shp a = .inl 12) (ha : a < hn h) (hcat : catS st ≤ 8) (hd : decode M.2.1 pc = .ok (.invokevirtual 409, 3)) (hk : Kc mX12_isGoer d (.ref a :: [x1]) h Qk) (kk : ∀ (r1 : Option Value) (h1 : Hp), Qk r1 h1 → V M (d + 1) (pc + 3) la (r1.toList ++ st) h1 Q) : V M (d + 1) pc la (x1 :: .ref a :: st) h Q := v_callV (N := mX12_isGoer) (n := 1) [x1] rfl ok_X12_isGoer (hM ▸ lk_X12_409) im_X12_isGoer se_X12_isGoer (by decide +kernel) rfl okC_12.1 hs ha hcat hd hk kk
set_option maxRecDepth 100000 in
theorem lk_X12_391 : lnk RX12 391 yX12_stepOf := Or.inl (gw_T7 132 rfl rfl)
set_option maxRecDepth 100000 in
theorem c_X12_391 {Qk : Option Value → Hp → Prop} (hM : M.1.cls = RX12) {x1 : Value} {a : Nat} (hs : shp a = .inl 12) (ha : a < hn h) (hcat : catS st ≤ 8) (hd : decode M.2.1 pc = .ok (.invokevirtual 391, 3)) (hk : Kc mX12_stepOf d (.ref a :: [x1]) h Qk) (kk : ∀ (r1 : Option Value) (h1 : Hp), Qk r1 h1 → V M (d + 1) (pc + 3) la (r1.toList ++ st) h1 Q) : V M (d + 1) pc la (x1 :: .ref a :: st) h Q := v_callV (N := mX12_stepOf) (n := 1) [x1] rfl ok_X12_stepOf (hM ▸ lk_X12_391) im_X12_stepOf se_X12_stepOf (by decide +kernel) rfl okC_12.1 hs ha hcat hd hk kk
set_option maxRecDepth 100000 in
theorem lk_X12_375 : lnk RX12 375 yX12_wayOf := Or.inl (gw_T7 136 rfl rfl)
set_option maxRecDepth 100000 in
theorem c_X12_375 {Qk : Option Value → Hp → Prop} (hM : M.1.cls = RX12) {x1 x2 x3 x4 : Value} {a : Nat} (hs : shp a = .inl 12) (ha : a < hn h) (hcat : catS st ≤ 8) (hd : decode M.2.1 pc = .ok (.invokevirtual 375, 3)) (hk : Kc mX12_wayOf d (.ref a :: [x1, x2, x3, x4]) h Qk) (kk : ∀ (r1 : Option Value) (h1 : Hp), Qk r1 h1 → V M (d + 1) (pc + 3) la (r1.toList ++ st) h1 Q) : V M (d + 1) pc la (x4 :: x3 :: x2 :: x1 :: .ref a :: st) h Q := v_callV (N := mX12_wayOf) (n := 4) [x1, x2, x3, x4] rfl ok_X12_wayOf (hM ▸ lk_X12_375) im_X12_wayOf se_X12_wayOf (by decide +kernel) rfl okC_12.1 hs ha hcat hd hk kk
set_option maxRecDepth 100000 in
theorem lk_X12_394 : lnk RX12 394 yX12_moveOf := Or.inl (gw_T7 140 rfl rfl)
set_option maxRecDepth 100000 in
theorem c_X12_394 {Qk : Option Value → Hp → Prop} (hM : M.1.cls = RX12) {x1 : Value} {a : Nat} (hs : shp a = .inl 12) (ha : a < hn h) (hcat : catS st ≤ 8) (hd : decode M.2.1 pc = .ok (.invokevirtual 394, 3)) (hk : Kc mX12_moveOf d (.ref a :: [x1]) h Qk) (kk : ∀ (r1 : Option Value) (h1 : Hp), Qk r1 h1 → V M (d + 1) (pc + 3) la (r1.toList ++ st) h1 Q) : V M (d + 1) pc la (x1 :: .ref a :: st) h Q := v_callV (N := mX12_moveOf) (n := 1) [x1] rfl ok_X12_moveOf (hM ▸ lk_X12_394) im_X12_moveOf se_X12_moveOf (by decide +kernel) rfl okC_12.1 hs ha hcat hd hk kk
set_option maxRecDepth 100000 in
theorem lk_L_44 : lnk RL 44 yX12_mow := Or.inl (gw_T7 144 rfl rfl)
set_option maxRecDepth 100000 in
theorem c_L_44 {Qk : Option Value → Hp → Prop} (hM : M.1.cls = RL) {x1 : Value} {a : Nat} (hs : shp a = .inl 12) (ha : a < hn h) (hcat : catS st ≤ 8) (hd : decode M.2.1 pc = .ok (.invokevirtual 44, 3)) (hk : Kc mX12_mow d (.ref a :: [x1]) h Qk) (kk : ∀ (r1 : Option Value) (h1 : Hp), Qk r1 h1 → V M (d + 1) (pc + 3) la (r1.toList ++ st) h1 Q) : V M (d + 1) pc la (x1 :: .ref a :: st) h Q := v_callV (N := mX12_mow) (n := 1) [x1] rfl ok_X12_mow (hM ▸ lk_L_44) im_X12_mow se_X12_mow (by decide +kernel) rfl okC_12.1 hs ha hcat hd hk kk
set_option maxRecDepth 100000 in
theorem lk_X12_412 : lnk RX12 412 yX12_records := Or.inl (gw_T7 148 rfl rfl)
set_option maxRecDepth 100000 in
theorem c_X12_412 {Qk : Option Value → Hp → Prop} (hM : M.1.cls = RX12) {a : Nat} (hs : shp a = .inl 12) (ha : a < hn h) (hcat : catS st ≤ 8) (hd : decode M.2.1 pc = .ok (.invokevirtual 412, 3)) (hk : Kc mX12_records d (.ref a :: []) h Qk) (kk : ∀ (r1 : Option Value) (h1 : Hp), Qk r1 h1 → V M (d + 1) (pc + 3) la (r1.toList ++ st) h1 Q) : V M (d + 1) pc la (.ref a :: st) h Q := v_callV (N := mX12_records) (n := 0) [] rfl ok_X12_records (hM ▸ lk_X12_412) im_X12_records se_X12_records (by decide +kernel) rfl okC_12.1 hs ha hcat hd hk kk
set_option maxRecDepth 100000 in
theorem lk_L_49 : lnk RL 49 yX12_rope := Or.inl (gw_T7 152 rfl rfl)
set_option maxRecDepth 100000 in
theorem c_L_49 {Qk : Option Value → Hp → Prop} (hM : M.1.cls = RL) {x1 x2 : Value} {a : Nat} (hs : shp a = .inl 12) (ha : a < hn h) (hcat : catS st ≤ 8) (hd : decode M.2.1 pc = .ok (.invokevirtual 49, 3)) (hk : Kc mX12_rope d (.ref a :: [x1, x2]) h Qk) (kk : ∀ (r1 : Option Value) (h1 : Hp), Qk r1 h1 → V M (d + 1) (pc + 3) la (r1.toList ++ st) h1 Q) : V M (d + 1) pc la (x2 :: x1 :: .ref a :: st) h Q := v_callV (N := mX12_rope) (n := 2) [x1, x2] rfl ok_X12_rope (hM ▸ lk_L_49) im_X12_rope se_X12_rope (by decide +kernel) rfl okC_12.1 hs ha hcat hd hk kk
set_option maxRecDepth 100000 in
theorem lk_L_54 : lnk RL 54 yX12_carry := Or.inl (gw_T7 156 rfl rfl)
set_option maxRecDepth 100000 in
theorem c_L_54 {Qk : Option Value → Hp → Prop} (hM : M.1.cls = RL) {x1 x2 : Value} {a : Nat} (hs : shp a = .inl 12) (ha : a < hn h) (hcat : catS st ≤ 8) (hd : decode M.2.1 pc = .ok (.invokevirtual 54, 3)) (hk : Kc mX12_carry d (.ref a :: [x1, x2]) h Qk) (kk : ∀ (r1 : Option Value) (h1 : Hp), Qk r1 h1 → V M (d + 1) (pc + 3) la (r1.toList ++ st) h1 Q) : V M (d + 1) pc la (x2 :: x1 :: .ref a :: st) h Q := v_callV (N := mX12_carry) (n := 2) [x1, x2] rfl ok_X12_carry (hM ▸ lk_L_54) im_X12_carry se_X12_carry (by decide +kernel) rfl okC_12.1 hs ha hcat hd hk kk
set_option maxRecDepth 100000 in
theorem lk_L_58 : lnk RL 58 yX12_beats := Or.inl (gw_T7 160 rfl rfl)
set_option maxRecDepth 100000 in
theorem c_L_58 {Qk : Option Value → Hp → Prop} (hM : M.1.cls = RL) {x1 : Value} {a : Nat} (hs : shp a = .inl 12) (ha : a < hn h) (hcat : catS st ≤ 8) (hd : decode M.2.1 pc = .ok (.invokevirtual 58, 3)) (hk : Kc mX12_beats d (.ref a :: [x1]) h Qk) (kk : ∀ (r1 : Option Value) (h1 : Hp), Qk r1 h1 → V M (d + 1) (pc + 3) la (r1.toList ++ st) h1 Q) : V M (d + 1) pc la (x1 :: .ref a :: st) h Q := v_callV (N := mX12_beats) (n := 1) [x1] rfl ok_X12_beats (hM ▸ lk_L_58) im_X12_beats se_X12_beats (by decide +kernel) rfl okC_12.1 hs ha hcat hd hk kk
set_option maxRecDepth 100000 in
theorem lk_X12_415 : lnk RX12 415 yX12_isLong := Or.inl (gw_T7 164 rfl rfl)
set_option maxRecDepth 100000 in
theorem c_X12_415 {Qk : Option Value → Hp → Prop} (hM : M.1.cls = RX12) {x1 : Value} (hcat : catS st ≤ 8) (hd : decode M.2.1 pc = .ok (.invokestatic 415, 3)) (hk : Kc mX12_isLong d [x1] h Qk) (kk : ∀ (r1 : Option Value) (h1 : Hp), Qk r1 h1 → V M (d + 1) (pc + 3) la (r1.toList ++ st) h1 Q) : V M (d + 1) pc la (x1 :: st) h Q := v_callS (N := mX12_isLong) (n := 1) [x1] rfl ok_X12_isLong (hM ▸ lk_X12_415) sm_X12_isLong (by decide +kernel) rfl hcat hd hk kk
set_option maxRecDepth 100000 in
theorem lk_X12_418 : lnk RX12 418 yX12_goes := Or.inl (gw_T7 167 rfl rfl)
set_option maxRecDepth 100000 in
theorem c_X12_418 {Qk : Option Value → Hp → Prop} (hM : M.1.cls = RX12) {x1 : Value} {a : Nat} (hs : shp a = .inl 12) (ha : a < hn h) (hcat : catS st ≤ 8) (hd : decode M.2.1 pc = .ok (.invokevirtual 418, 3)) (hk : Kc mX12_goes d (.ref a :: [x1]) h Qk) (kk : ∀ (r1 : Option Value) (h1 : Hp), Qk r1 h1 → V M (d + 1) (pc + 3) la (r1.toList ++ st) h1 Q) : V M (d + 1) pc la (x1 :: .ref a :: st) h Q := v_callV (N := mX12_goes) (n := 1) [x1] rfl ok_X12_goes (hM ▸ lk_X12_418) im_X12_goes se_X12_goes (by decide +kernel) rfl okC_12.1 hs ha hcat hd hk kk
set_option maxRecDepth 100000 in
theorem lk_X12_400 : lnk RX12 400 yX12_beatGoes := Or.inl (gw_T7 171 rfl rfl)
set_option maxRecDepth 100000 in
theorem c_X12_400 {Qk : Option Value → Hp → Prop} (hM : M.1.cls = RX12) {a : Nat} (hs : shp a = .inl 12) (ha : a < hn h) (hcat : catS st ≤ 8) (hd : decode M.2.1 pc = .ok (.invokevirtual 400, 3)) (hk : Kc mX12_beatGoes d (.ref a :: []) h Qk) (kk : ∀ (r1 : Option Value) (h1 : Hp), Qk r1 h1 → V M (d + 1) (pc + 3) la (r1.toList ++ st) h1 Q) : V M (d + 1) pc la (.ref a :: st) h Q := v_callV (N := mX12_beatGoes) (n := 0) [] rfl ok_X12_beatGoes (hM ▸ lk_X12_400) im_X12_beatGoes se_X12_beatGoes (by decide +kernel) rfl okC_12.1 hs ha hcat hd hk kk
set_option maxRecDepth 100000 in
theorem lk_X12_397 : lnk RX12 397 yX12_spreads := Or.inl (gw_T7 175 rfl rfl)
set_option maxRecDepth 100000 in
theorem c_X12_397 {Qk : Option Value → Hp → Prop} (hM : M.1.cls = RX12) {a : Nat} (hs : shp a = .inl 12) (ha : a < hn h) (hcat : catS st ≤ 8) (hd : decode M.2.1 pc = .ok (.invokevirtual 397, 3)) (hk : Kc mX12_spreads d (.ref a :: []) h Qk) (kk : ∀ (r1 : Option Value) (h1 : Hp), Qk r1 h1 → V M (d + 1) (pc + 3) la (r1.toList ++ st) h1 Q) : V M (d + 1) pc la (.ref a :: st) h Q := v_callV (N := mX12_spreads) (n := 0) [] rfl ok_X12_spreads (hM ▸ lk_X12_397) im_X12_spreads se_X12_spreads (by decide +kernel) rfl okC_12.1 hs ha hcat hd hk kk
set_option maxRecDepth 100000 in
theorem lk_X12_388 : lnk RX12 388 yX12_spreadBits := Or.inl (gw_T7 179 rfl rfl)
set_option maxRecDepth 100000 in
theorem c_X12_388 {Qk : Option Value → Hp → Prop} (hM : M.1.cls = RX12) {a : Nat} (hs : shp a = .inl 12) (ha : a < hn h) (hcat : catS st ≤ 8) (hd : decode M.2.1 pc = .ok (.invokevirtual 388, 3)) (hk : Kc mX12_spreadBits d (.ref a :: []) h Qk) (kk : ∀ (r1 : Option Value) (h1 : Hp), Qk r1 h1 → V M (d + 1) (pc + 3) la (r1.toList ++ st) h1 Q) : V M (d + 1) pc la (.ref a :: st) h Q := v_callV (N := mX12_spreadBits) (n := 0) [] rfl ok_X12_spreadBits (hM ▸ lk_X12_388) im_X12_spreadBits se_X12_spreadBits (by decide +kernel) rfl okC_12.1 hs ha hcat hd hk kk
set_option maxRecDepth 100000 in
theorem lk_X12_385 : lnk RX12 385 yX12_lotOf := Or.inl (gw_T7 183 rfl rfl)
set_option maxRecDepth 100000 in
theorem c_X12_385 {Qk : Option Value → Hp → Prop} (hM : M.1.cls = RX12) {x1 : Value} {a : Nat} (hs : shp a = .inl 12) (ha : a < hn h) (hcat : catS st ≤ 8) (hd : decode M.2.1 pc = .ok (.invokevirtual 385, 3)) (hk : Kc mX12_lotOf d (.ref a :: [x1]) h Qk) (kk : ∀ (r1 : Option Value) (h1 : Hp), Qk r1 h1 → V M (d + 1) (pc + 3) la (r1.toList ++ st) h1 Q) : V M (d + 1) pc la (x1 :: .ref a :: st) h Q := v_callV (N := mX12_lotOf) (n := 1) [x1] rfl ok_X12_lotOf (hM ▸ lk_X12_385) im_X12_lotOf se_X12_lotOf (by decide +kernel) rfl okC_12.1 hs ha hcat hd hk kk
set_option maxRecDepth 100000 in
theorem lk_X12_350 : lnk RX12 350 yX12_mixed := Or.inl (gw_T7 187 rfl rfl)
set_option maxRecDepth 100000 in
theorem c_X12_350 {Qk : Option Value → Hp → Prop} (hM : M.1.cls = RX12) {x1 x2 : Value} (hcat : catS st ≤ 8) (hd : decode M.2.1 pc = .ok (.invokestatic 350, 3)) (hk : Kc mX12_mixed d [x1, x2] h Qk) (kk : ∀ (r1 : Option Value) (h1 : Hp), Qk r1 h1 → V M (d + 1) (pc + 3) la (r1.toList ++ st) h1 Q) : V M (d + 1) pc la (x2 :: x1 :: st) h Q := v_callS (N := mX12_mixed) (n := 2) [x1, x2] rfl ok_X12_mixed (hM ▸ lk_X12_350) sm_X12_mixed (by decide +kernel) rfl hcat hd hk kk
set_option maxRecDepth 100000 in
theorem lk_L_63 : lnk RL 63 yX12_undo := Or.inl (gw_T7 191 rfl rfl)
set_option maxRecDepth 100000 in
theorem c_L_63 {Qk : Option Value → Hp → Prop} (hM : M.1.cls = RL) {a : Nat} (hs : shp a = .inl 12) (ha : a < hn h) (hcat : catS st ≤ 8) (hd : decode M.2.1 pc = .ok (.invokevirtual 63, 3)) (hk : Kc mX12_undo d (.ref a :: []) h Qk) (kk : ∀ (r1 : Option Value) (h1 : Hp), Qk r1 h1 → V M (d + 1) (pc + 3) la (r1.toList ++ st) h1 Q) : V M (d + 1) pc la (.ref a :: st) h Q := v_callV (N := mX12_undo) (n := 0) [] rfl ok_X12_undo (hM ▸ lk_L_63) im_X12_undo se_X12_undo (by decide +kernel) rfl okC_12.1 hs ha hcat hd hk kk
set_option maxRecDepth 100000 in
theorem lk_L_67 : lnk RL 67 yX12_next := Or.inl (gw_T7 195 rfl rfl)
set_option maxRecDepth 100000 in
theorem c_L_67 {Qk : Option Value → Hp → Prop} (hM : M.1.cls = RL) {x1 : Value} {a : Nat} (hs : shp a = .inl 12) (ha : a < hn h) (hcat : catS st ≤ 8) (hd : decode M.2.1 pc = .ok (.invokevirtual 67, 3)) (hk : Kc mX12_next d (.ref a :: [x1]) h Qk) (kk : ∀ (r1 : Option Value) (h1 : Hp), Qk r1 h1 → V M (d + 1) (pc + 3) la (r1.toList ++ st) h1 Q) : V M (d + 1) pc la (x1 :: .ref a :: st) h Q := v_callV (N := mX12_next) (n := 1) [x1] rfl ok_X12_next (hM ▸ lk_L_67) im_X12_next se_X12_next (by decide +kernel) rfl okC_12.1 hs ha hcat hd hk kk
set_option maxRecDepth 100000 in
theorem lk_L_71 : lnk RL 71 yX12_together := Or.inl (gw_T7 199 rfl rfl)
set_option maxRecDepth 100000 in
theorem c_L_71 {Qk : Option Value → Hp → Prop} (hM : M.1.cls = RL) {x1 x2 : Value} {a : Nat} (hs : shp a = .inl 12) (ha : a < hn h) (hcat : catS st ≤ 8) (hd : decode M.2.1 pc = .ok (.invokevirtual 71, 3)) (hk : Kc mX12_together d (.ref a :: [x1, x2]) h Qk) (kk : ∀ (r1 : Option Value) (h1 : Hp), Qk r1 h1 → V M (d + 1) (pc + 3) la (r1.toList ++ st) h1 Q) : V M (d + 1) pc la (x2 :: x1 :: .ref a :: st) h Q := v_callV (N := mX12_together) (n := 2) [x1, x2] rfl ok_X12_together (hM ▸ lk_L_71) im_X12_together se_X12_together (by decide +kernel) rfl okC_12.1 hs ha hcat hd hk kk
set_option maxRecDepth 100000 in
theorem lk_L_109 : lnk RL 109 yX12_loud := Or.inl (gw_T7 203 rfl rfl)
set_option maxRecDepth 100000 in
theorem c_L_109 {Qk : Option Value → Hp → Prop} (hM : M.1.cls = RL) {x1 : Value} {a : Nat} (hs : shp a = .inl 12) (ha : a < hn h) (hcat : catS st ≤ 8) (hd : decode M.2.1 pc = .ok (.invokevirtual 109, 3)) (hk : Kc mX12_loud d (.ref a :: [x1]) h Qk) (kk : ∀ (r1 : Option Value) (h1 : Hp), Qk r1 h1 → V M (d + 1) (pc + 3) la (r1.toList ++ st) h1 Q) : V M (d + 1) pc la (x1 :: .ref a :: st) h Q := v_callV (N := mX12_loud) (n := 1) [x1] rfl ok_X12_loud (hM ▸ lk_L_109) im_X12_loud se_X12_loud (by decide +kernel) rfl okC_12.1 hs ha hcat hd hk kk
set_option maxRecDepth 100000 in
theorem lk_X12_421 : lnk RX12 421 yX12_loudBits := Or.inl (gw_T7 207 rfl rfl)
set_option maxRecDepth 100000 in
theorem c_X12_421 {Qk : Option Value → Hp → Prop} (hM : M.1.cls = RX12) {x1 : Value} {a : Nat} (hs : shp a = .inl 12) (ha : a < hn h) (hcat : catS st ≤ 8) (hd : decode M.2.1 pc = .ok (.invokevirtual 421, 3)) (hk : Kc mX12_loudBits d (.ref a :: [x1]) h Qk) (kk : ∀ (r1 : Option Value) (h1 : Hp), Qk r1 h1 → V M (d + 1) (pc + 3) la (r1.toList ++ st) h1 Q) : V M (d + 1) pc la (x1 :: .ref a :: st) h Q := v_callV (N := mX12_loudBits) (n := 1) [x1] rfl ok_X12_loudBits (hM ▸ lk_X12_421) im_X12_loudBits se_X12_loudBits (by decide +kernel) rfl okC_12.1 hs ha hcat hd hk kk
set_option maxRecDepth 100000 in
theorem lk_L_113 : lnk RL 113 yX12_silence := Or.inl (gw_T7 211 rfl rfl)
set_option maxRecDepth 100000 in
theorem c_L_113 {Qk : Option Value → Hp → Prop} (hM : M.1.cls = RL) {x1 : Value} {a : Nat} (hs : shp a = .inl 12) (ha : a < hn h) (hcat : catS st ≤ 8) (hd : decode M.2.1 pc = .ok (.invokevirtual 113, 3)) (hk : Kc mX12_silence d (.ref a :: [x1]) h Qk) (kk : ∀ (r1 : Option Value) (h1 : Hp), Qk r1 h1 → V M (d + 1) (pc + 3) la (r1.toList ++ st) h1 Q) : V M (d + 1) pc la (x1 :: .ref a :: st) h Q := v_callV (N := mX12_silence) (n := 1) [x1] rfl ok_X12_silence (hM ▸ lk_L_113) im_X12_silence se_X12_silence (by decide +kernel) rfl okC_12.1 hs ha hcat hd hk kk
set_option maxRecDepth 100000 in
theorem lk_L_117 : lnk RL 117 yX12_chorus := Or.inl (gw_T7 215 rfl rfl)
set_option maxRecDepth 100000 in
theorem c_L_117 {Qk : Option Value → Hp → Prop} (hM : M.1.cls = RL) {x1 : Value} {a : Nat} (hs : shp a = .inl 12) (ha : a < hn h) (hcat : catS st ≤ 8) (hd : decode M.2.1 pc = .ok (.invokevirtual 117, 3)) (hk : Kc mX12_chorus d (.ref a :: [x1]) h Qk) (kk : ∀ (r1 : Option Value) (h1 : Hp), Qk r1 h1 → V M (d + 1) (pc + 3) la (r1.toList ++ st) h1 Q) : V M (d + 1) pc la (x1 :: .ref a :: st) h Q := v_callV (N := mX12_chorus) (n := 1) [x1] rfl ok_X12_chorus (hM ▸ lk_L_117) im_X12_chorus se_X12_chorus (by decide +kernel) rfl okC_12.1 hs ha hcat hd hk kk
set_option maxRecDepth 100000 in
theorem lk_L_121 : lnk RL 121 yX12_period := Or.inl (gw_T7 219 rfl rfl)
set_option maxRecDepth 100000 in
theorem c_L_121 {Qk : Option Value → Hp → Prop} (hM : M.1.cls = RL) {a : Nat} (hs : shp a = .inl 12) (ha : a < hn h) (hcat : catS st ≤ 8) (hd : decode M.2.1 pc = .ok (.invokevirtual 121, 3)) (hk : Kc mX12_period d (.ref a :: []) h Qk) (kk : ∀ (r1 : Option Value) (h1 : Hp), Qk r1 h1 → V M (d + 1) (pc + 3) la (r1.toList ++ st) h1 Q) : V M (d + 1) pc la (.ref a :: st) h Q := v_callV (N := mX12_period) (n := 0) [] rfl ok_X12_period (hM ▸ lk_L_121) im_X12_period se_X12_period (by decide +kernel) rfl okC_12.1 hs ha hcat hd hk kk
set_option maxRecDepth 100000 in
theorem lk_X12_424 : lnk RX12 424 yX12_greatest := Or.inl (gw_T7 223 rfl rfl)
set_option maxRecDepth 100000 in
theorem c_X12_424 {Qk : Option Value → Hp → Prop} (hM : M.1.cls = RX12) {x1 x2 : Value} (hcat : catS st ≤ 8) (hd : decode M.2.1 pc = .ok (.invokestatic 424, 3)) (hk : Kc mX12_greatest d [x1, x2] h Qk) (kk : ∀ (r1 : Option Value) (h1 : Hp), Qk r1 h1 → V M (d + 1) (pc + 3) la (r1.toList ++ st) h1 Q) : V M (d + 1) pc la (x2 :: x1 :: st) h Q := v_callS (N := mX12_greatest) (n := 2) [x1, x2] rfl ok_X12_greatest (hM ▸ lk_X12_424) sm_X12_greatest (by decide +kernel) rfl hcat hd hk kk
set_option maxRecDepth 100000 in
theorem lk_L_76 : lnk RL 76 yX12_way := Or.inl (gw_T7 226 rfl rfl)
set_option maxRecDepth 100000 in
theorem c_L_76 {Qk : Option Value → Hp → Prop} (hM : M.1.cls = RL) {x1 x2 x3 : Value} {a : Nat} (hs : shp a = .inl 12) (ha : a < hn h) (hcat : catS st ≤ 8) (hd : decode M.2.1 pc = .ok (.invokevirtual 76, 3)) (hk : Kc mX12_way d (.ref a :: [x1, x2, x3]) h Qk) (kk : ∀ (r1 : Option Value) (h1 : Hp), Qk r1 h1 → V M (d + 1) (pc + 3) la (r1.toList ++ st) h1 Q) : V M (d + 1) pc la (x3 :: x2 :: x1 :: .ref a :: st) h Q := v_callV (N := mX12_way) (n := 3) [x1, x2, x3] rfl ok_X12_way (hM ▸ lk_L_76) im_X12_way se_X12_way (by decide +kernel) rfl okC_12.1 hs ha hcat hd hk kk
set_option maxRecDepth 100000 in
theorem lk_X12_439 : lnk RX12 439 yX12_areFree := Or.inl (gw_T7 230 rfl rfl)
set_option maxRecDepth 100000 in
theorem c_X12_439 {Qk : Option Value → Hp → Prop} (hM : M.1.cls = RX12) {x1 x2 : Value} {a : Nat} (hs : shp a = .inl 12) (ha : a < hn h) (hcat : catS st ≤ 8) (hd : decode M.2.1 pc = .ok (.invokevirtual 439, 3)) (hk : Kc mX12_areFree d (.ref a :: [x1, x2]) h Qk) (kk : ∀ (r1 : Option Value) (h1 : Hp), Qk r1 h1 → V M (d + 1) (pc + 3) la (r1.toList ++ st) h1 Q) : V M (d + 1) pc la (x2 :: x1 :: .ref a :: st) h Q := v_callV (N := mX12_areFree) (n := 2) [x1, x2] rfl ok_X12_areFree (hM ▸ lk_X12_439) im_X12_areFree se_X12_areFree (by decide +kernel) rfl okC_12.1 hs ha hcat hd hk kk
set_option maxRecDepth 100000 in
theorem lk_X12_442 : lnk RX12 442 yX12_fillsReach := Or.inl (gw_T7 234 rfl rfl)
set_option maxRecDepth 100000 in
theorem c_X12_442 {Qk : Option Value → Hp → Prop} (hM : M.1.cls = RX12) {x1 x2 x3 : Value} {a : Nat} (hs : shp a = .inl 12) (ha : a < hn h) (hcat : catS st ≤ 8) (hd : decode M.2.1 pc = .ok (.invokevirtual 442, 3)) (hk : Kc mX12_fillsReach d (.ref a :: [x1, x2, x3]) h Qk) (kk : ∀ (r1 : Option Value) (h1 : Hp), Qk r1 h1 → V M (d + 1) (pc + 3) la (r1.toList ++ st) h1 Q) : V M (d + 1) pc la (x3 :: x2 :: x1 :: .ref a :: st) h Q := v_callV (N := mX12_fillsReach) (n := 3) [x1, x2, x3] rfl ok_X12_fillsReach (hM ▸ lk_X12_442) im_X12_fillsReach se_X12_fillsReach (by decide +kernel) rfl okC_12.1 hs ha hcat hd hk kk
set_option maxRecDepth 100000 in
theorem lk_X12_430 : lnk RX12 430 yX12_nearBits := Or.inl (gw_T7 238 rfl rfl)
set_option maxRecDepth 100000 in
theorem c_X12_430 {Qk : Option Value → Hp → Prop} (hM : M.1.cls = RX12) {x1 : Value} {a : Nat} (hs : shp a = .inl 12) (ha : a < hn h) (hcat : catS st ≤ 8) (hd : decode M.2.1 pc = .ok (.invokevirtual 430, 3)) (hk : Kc mX12_nearBits d (.ref a :: [x1]) h Qk) (kk : ∀ (r1 : Option Value) (h1 : Hp), Qk r1 h1 → V M (d + 1) (pc + 3) la (r1.toList ++ st) h1 Q) : V M (d + 1) pc la (x1 :: .ref a :: st) h Q := v_callV (N := mX12_nearBits) (n := 1) [x1] rfl ok_X12_nearBits (hM ▸ lk_X12_430) im_X12_nearBits se_X12_nearBits (by decide +kernel) rfl okC_12.1 hs ha hcat hd hk kk
set_option maxRecDepth 100000 in
theorem lk_X12_433 : lnk RX12 433 yX12_safeBits := Or.inl (gw_T8 2 rfl rfl)
set_option maxRecDepth 100000 in
theorem c_X12_433 {Qk : Option Value → Hp → Prop} (hM : M.1.cls = RX12) {x1 : Value} {a : Nat} (hs : shp a = .inl 12) (ha : a < hn h) (hcat : catS st ≤ 8) (hd : decode M.2.1 pc = .ok (.invokevirtual 433, 3)) (hk : Kc mX12_safeBits d (.ref a :: [x1]) h Qk) (kk : ∀ (r1 : Option Value) (h1 : Hp), Qk r1 h1 → V M (d + 1) (pc + 3) la (r1.toList ++ st) h1 Q) : V M (d + 1) pc la (x1 :: .ref a :: st) h Q := v_callV (N := mX12_safeBits) (n := 1) [x1] rfl ok_X12_safeBits (hM ▸ lk_X12_433) im_X12_safeBits se_X12_safeBits (by decide +kernel) rfl okC_12.1 hs ha hcat hd hk kk
set_option maxRecDepth 100000 in
theorem lk_X12_427 : lnk RX12 427 yX12_freeBits := Or.inl (gw_T8 6 rfl rfl)
set_option maxRecDepth 100000 in
theorem c_X12_427 {Qk : Option Value → Hp → Prop} (hM : M.1.cls = RX12) {a : Nat} (hs : shp a = .inl 12) (ha : a < hn h) (hcat : catS st ≤ 8) (hd : decode M.2.1 pc = .ok (.invokevirtual 427, 3)) (hk : Kc mX12_freeBits d (.ref a :: []) h Qk) (kk : ∀ (r1 : Option Value) (h1 : Hp), Qk r1 h1 → V M (d + 1) (pc + 3) la (r1.toList ++ st) h1 Q) : V M (d + 1) pc la (.ref a :: st) h Q := v_callV (N := mX12_freeBits) (n := 0) [] rfl ok_X12_freeBits (hM ▸ lk_X12_427) im_X12_freeBits se_X12_freeBits (by decide +kernel) rfl okC_12.1 hs ha hcat hd hk kk
set_option maxRecDepth 100000 in
theorem lk_X12_446 : lnk RX12 446 yX12_firstAt := Or.inl (gw_T8 10 rfl rfl)
set_option maxRecDepth 100000 in
theorem c_X12_446 {Qk : Option Value → Hp → Prop} (hM : M.1.cls = RX12) {x1 x2 : Value} {a : Nat} (hs : shp a = .inl 12) (ha : a < hn h) (hcat : catS st ≤ 8) (hd : decode M.2.1 pc = .ok (.invokevirtual 446, 3)) (hk : Kc mX12_firstAt d (.ref a :: [x1, x2]) h Qk) (kk : ∀ (r1 : Option Value) (h1 : Hp), Qk r1 h1 → V M (d + 1) (pc + 3) la (r1.toList ++ st) h1 Q) : V M (d + 1) pc la (x2 :: x1 :: .ref a :: st) h Q := v_callV (N := mX12_firstAt) (n := 2) [x1, x2] rfl ok_X12_firstAt (hM ▸ lk_X12_446) im_X12_firstAt se_X12_firstAt (by decide +kernel) rfl okC_12.1 hs ha hcat hd hk kk
set_option maxRecDepth 100000 in
theorem lk_X12_449 : lnk RX12 449 yX12_cellBehind := Or.inl (gw_T8 14 rfl rfl)
set_option maxRecDepth 100000 in
theorem c_X12_449 {Qk : Option Value → Hp → Prop} (hM : M.1.cls = RX12) {x1 x2 x3 x4 : Value} {a : Nat} (hs : shp a = .inl 12) (ha : a < hn h) (hcat : catS st ≤ 8) (hd : decode M.2.1 pc = .ok (.invokevirtual 449, 3)) (hk : Kc mX12_cellBehind d (.ref a :: [x1, x2, x3, x4]) h Qk) (kk : ∀ (r1 : Option Value) (h1 : Hp), Qk r1 h1 → V M (d + 1) (pc + 3) la (r1.toList ++ st) h1 Q) : V M (d + 1) pc la (x4 :: x3 :: x2 :: x1 :: .ref a :: st) h Q := v_callV (N := mX12_cellBehind) (n := 4) [x1, x2, x3, x4] rfl ok_X12_cellBehind (hM ▸ lk_X12_449) im_X12_cellBehind se_X12_cellBehind (by decide +kernel) rfl okC_12.1 hs ha hcat hd hk kk
set_option maxRecDepth 100000 in
theorem lk_X12_436 : lnk RX12 436 yX12_lowestOf := Or.inl (gw_T8 18 rfl rfl)
set_option maxRecDepth 100000 in
theorem c_X12_436 {Qk : Option Value → Hp → Prop} (hM : M.1.cls = RX12) {x1 : Value} (hcat : catS st ≤ 8) (hd : decode M.2.1 pc = .ok (.invokestatic 436, 3)) (hk : Kc mX12_lowestOf d [x1] h Qk) (kk : ∀ (r1 : Option Value) (h1 : Hp), Qk r1 h1 → V M (d + 1) (pc + 3) la (r1.toList ++ st) h1 Q) : V M (d + 1) pc la (x1 :: st) h Q := v_callS (N := mX12_lowestOf) (n := 1) [x1] rfl ok_X12_lowestOf (hM ▸ lk_X12_436) sm_X12_lowestOf (by decide +kernel) rfl hcat hd hk kk
set_option maxRecDepth 100000 in
theorem lk_L_80 : lnk RL 80 yX12_leave := Or.inl (gw_T8 21 rfl rfl)
set_option maxRecDepth 100000 in
theorem c_L_80 {Qk : Option Value → Hp → Prop} (hM : M.1.cls = RL) {x1 x2 x3 : Value} {a : Nat} (hs : shp a = .inl 12) (ha : a < hn h) (hcat : catS st ≤ 8) (hd : decode M.2.1 pc = .ok (.invokevirtual 80, 3)) (hk : Kc mX12_leave d (.ref a :: [x1, x2, x3]) h Qk) (kk : ∀ (r1 : Option Value) (h1 : Hp), Qk r1 h1 → V M (d + 1) (pc + 3) la (r1.toList ++ st) h1 Q) : V M (d + 1) pc la (x3 :: x2 :: x1 :: .ref a :: st) h Q := v_callV (N := mX12_leave) (n := 3) [x1, x2, x3] rfl ok_X12_leave (hM ▸ lk_L_80) im_X12_leave se_X12_leave (by decide +kernel) rfl okC_12.1 hs ha hcat hd hk kk
set_option maxRecDepth 100000 in
theorem lk_L_85 : lnk RL 85 yX12_mows := Or.inl (gw_T8 25 rfl rfl)
set_option maxRecDepth 100000 in
theorem c_L_85 {Qk : Option Value → Hp → Prop} (hM : M.1.cls = RL) {x1 x2 x3 x4 : Value} {a : Nat} (hs : shp a = .inl 12) (ha : a < hn h) (hcat : catS st ≤ 8) (hd : decode M.2.1 pc = .ok (.invokevirtual 85, 3)) (hk : Kc mX12_mows d (.ref a :: [x1, x2, x3, x4]) h Qk) (kk : ∀ (r1 : Option Value) (h1 : Hp), Qk r1 h1 → V M (d + 1) (pc + 3) la (r1.toList ++ st) h1 Q) : V M (d + 1) pc la (x4 :: x3 :: x2 :: x1 :: .ref a :: st) h Q := v_callV (N := mX12_mows) (n := 4) [x1, x2, x3, x4] rfl ok_X12_mows (hM ▸ lk_L_85) im_X12_mows se_X12_mows (by decide +kernel) rfl okC_12.1 hs ha hcat hd hk kk
set_option maxRecDepth 100000 in
theorem lk_X12_459 : lnk RX12 459 yX12_fewestMown := Or.inl (gw_T8 29 rfl rfl)
set_option maxRecDepth 100000 in
theorem c_X12_459 {Qk : Option Value → Hp → Prop} (hM : M.1.cls = RX12) {x1 x2 x3 : Value} {a : Nat} (hs : shp a = .inl 12) (ha : a < hn h) (hcat : catS st ≤ 8) (hd : decode M.2.1 pc = .ok (.invokevirtual 459, 3)) (hk : Kc mX12_fewestMown d (.ref a :: [x1, x2, x3]) h Qk) (kk : ∀ (r1 : Option Value) (h1 : Hp), Qk r1 h1 → V M (d + 1) (pc + 3) la (r1.toList ++ st) h1 Q) : V M (d + 1) pc la (x3 :: x2 :: x1 :: .ref a :: st) h Q := v_callV (N := mX12_fewestMown) (n := 3) [x1, x2, x3] rfl ok_X12_fewestMown (hM ▸ lk_X12_459) im_X12_fewestMown se_X12_fewestMown (by decide +kernel) rfl okC_12.1 hs ha hcat hd hk kk
set_option maxRecDepth 100000 in
theorem lk_X12_452 : lnk RX12 452 yX12_tunesBy := Or.inl (gw_T8 33 rfl rfl)
set_option maxRecDepth 100000 in
theorem c_X12_452 {Qk : Option Value → Hp → Prop} (hM : M.1.cls = RX12) {x1 : Value} {a : Nat} (hs : shp a = .inl 12) (ha : a < hn h) (hcat : catS st ≤ 8) (hd : decode M.2.1 pc = .ok (.invokevirtual 452, 3)) (hk : Kc mX12_tunesBy d (.ref a :: [x1]) h Qk) (kk : ∀ (r1 : Option Value) (h1 : Hp), Qk r1 h1 → V M (d + 1) (pc + 3) la (r1.toList ++ st) h1 Q) : V M (d + 1) pc la (x1 :: .ref a :: st) h Q := v_callV (N := mX12_tunesBy) (n := 1) [x1] rfl ok_X12_tunesBy (hM ▸ lk_X12_452) im_X12_tunesBy se_X12_tunesBy (by decide +kernel) rfl okC_12.1 hs ha hcat hd hk kk
set_option maxRecDepth 100000 in
theorem lk_X12_455 : lnk RX12 455 yX12_isWayWithout := Or.inl (gw_T8 37 rfl rfl)
set_option maxRecDepth 100000 in
theorem c_X12_455 {Qk : Option Value → Hp → Prop} (hM : M.1.cls = RX12) {x1 x2 x3 x4 : Value} {a : Nat} (hs : shp a = .inl 12) (ha : a < hn h) (hcat : catS st ≤ 8) (hd : decode M.2.1 pc = .ok (.invokevirtual 455, 3)) (hk : Kc mX12_isWayWithout d (.ref a :: [x1, x2, x3, x4]) h Qk) (kk : ∀ (r1 : Option Value) (h1 : Hp), Qk r1 h1 → V M (d + 1) (pc + 3) la (r1.toList ++ st) h1 Q) : V M (d + 1) pc la (x4 :: x3 :: x2 :: x1 :: .ref a :: st) h Q := v_callV (N := mX12_isWayWithout) (n := 4) [x1, x2, x3, x4] rfl ok_X12_isWayWithout (hM ▸ lk_X12_455) im_X12_isWayWithout se_X12_isWayWithout (by decide +kernel) rfl okC_12.1 hs ha hcat hd hk kk
set_option maxRecDepth 100000 in
theorem lk_L_89 : lnk RL 89 yX12_part := Or.inl (gw_T8 41 rfl rfl)
set_option maxRecDepth 100000 in
theorem c_L_89 {Qk : Option Value → Hp → Prop} (hM : M.1.cls = RL) {x1 x2 : Value} {a : Nat} (hs : shp a = .inl 12) (ha : a < hn h) (hcat : catS st ≤ 8) (hd : decode M.2.1 pc = .ok (.invokevirtual 89, 3)) (hk : Kc mX12_part d (.ref a :: [x1, x2]) h Qk) (kk : ∀ (r1 : Option Value) (h1 : Hp), Qk r1 h1 → V M (d + 1) (pc + 3) la (r1.toList ++ st) h1 Q) : V M (d + 1) pc la (x2 :: x1 :: .ref a :: st) h Q := v_callV (N := mX12_part) (n := 2) [x1, x2] rfl ok_X12_part (hM ▸ lk_L_89) im_X12_part se_X12_part (by decide +kernel) rfl okC_12.1 hs ha hcat hd hk kk
set_option maxRecDepth 100000 in
theorem lk_X12_462 : lnk RX12 462 yX12_isParted := Or.inl (gw_T8 45 rfl rfl)
set_option maxRecDepth 100000 in
theorem c_X12_462 {Qk : Option Value → Hp → Prop} (hM : M.1.cls = RX12) {x1 x2 x3 : Value} {a : Nat} (hs : shp a = .inl 12) (ha : a < hn h) (hcat : catS st ≤ 8) (hd : decode M.2.1 pc = .ok (.invokevirtual 462, 3)) (hk : Kc mX12_isParted d (.ref a :: [x1, x2, x3]) h Qk) (kk : ∀ (r1 : Option Value) (h1 : Hp), Qk r1 h1 → V M (d + 1) (pc + 3) la (r1.toList ++ st) h1 Q) : V M (d + 1) pc la (x3 :: x2 :: x1 :: .ref a :: st) h Q := v_callV (N := mX12_isParted) (n := 3) [x1, x2, x3] rfl ok_X12_isParted (hM ▸ lk_X12_462) im_X12_isParted se_X12_isParted (by decide +kernel) rfl okC_12.1 hs ha hcat hd hk kk
set_option maxRecDepth 100000 in
theorem lk_X12_465 : lnk RX12 465 yX12_isOther := Or.inl (gw_T8 49 rfl rfl)
set_option maxRecDepth 100000 in
theorem c_X12_465 {Qk : Option Value → Hp → Prop} (hM : M.1.cls = RX12) {x1 x2 x3 : Value} {a : Nat} (hs : shp a = .inl 12) (ha : a < hn h) (hcat : catS st ≤ 8) (hd : decode M.2.1 pc = .ok (.invokevirtual 465, 3)) (hk : Kc mX12_isOther d (.ref a :: [x1, x2, x3]) h Qk) (kk : ∀ (r1 : Option Value) (h1 : Hp), Qk r1 h1 → V M (d + 1) (pc + 3) la (r1.toList ++ st) h1 Q) : V M (d + 1) pc la (x3 :: x2 :: x1 :: .ref a :: st) h Q := v_callV (N := mX12_isOther) (n := 3) [x1, x2, x3] rfl ok_X12_isOther (hM ▸ lk_X12_465) im_X12_isOther se_X12_isOther (by decide +kernel) rfl okC_12.1 hs ha hcat hd hk kk
set_option maxRecDepth 100000 in
theorem lk_L_93 : lnk RL 93 yX12_meet := Or.inl (gw_T8 53 rfl rfl)
set_option maxRecDepth 100000 in
theorem c_L_93 {Qk : Option Value → Hp → Prop} (hM : M.1.cls = RL) {x1 x2 x3 : Value} {a : Nat} (hs : shp a = .inl 12) (ha : a < hn h) (hcat : catS st ≤ 8) (hd : decode M.2.1 pc = .ok (.invokevirtual 93, 3)) (hk : Kc mX12_meet d (.ref a :: [x1, x2, x3]) h Qk) (kk : ∀ (r1 : Option Value) (h1 : Hp), Qk r1 h1 → V M (d + 1) (pc + 3) la (r1.toList ++ st) h1 Q) : V M (d + 1) pc la (x3 :: x2 :: x1 :: .ref a :: st) h Q := v_callV (N := mX12_meet) (n := 3) [x1, x2, x3] rfl ok_X12_meet (hM ▸ lk_L_93) im_X12_meet se_X12_meet (by decide +kernel) rfl okC_12.1 hs ha hcat hd hk kk
set_option maxRecDepth 100000 in
theorem lk_L_129 : lnk RL 129 yX12_far := Or.inl (gw_T8 57 rfl rfl)
set_option maxRecDepth 100000 in
theorem c_L_129 {Qk : Option Value → Hp → Prop} (hM : M.1.cls = RL) {x1 x2 : Value} {a : Nat} (hs : shp a = .inl 12) (ha : a < hn h) (hcat : catS st ≤ 8) (hd : decode M.2.1 pc = .ok (.invokevirtual 129, 3)) (hk : Kc mX12_far d (.ref a :: [x1, x2]) h Qk) (kk : ∀ (r1 : Option Value) (h1 : Hp), Qk r1 h1 → V M (d + 1) (pc + 3) la (r1.toList ++ st) h1 Q) : V M (d + 1) pc la (x2 :: x1 :: .ref a :: st) h Q := v_callV (N := mX12_far) (n := 2) [x1, x2] rfl ok_X12_far (hM ▸ lk_L_129) im_X12_far se_X12_far (by decide +kernel) rfl okC_12.1 hs ha hcat hd hk kk
set_option maxRecDepth 100000 in
theorem lk_X12_468 : lnk RX12 468 yX12_farOf := Or.inl (gw_T8 61 rfl rfl)
set_option maxRecDepth 100000 in
theorem c_X12_468 {Qk : Option Value → Hp → Prop} (hM : M.1.cls = RX12) {x1 x2 : Value} {a : Nat} (hs : shp a = .inl 12) (ha : a < hn h) (hcat : catS st ≤ 8) (hd : decode M.2.1 pc = .ok (.invokevirtual 468, 3)) (hk : Kc mX12_farOf d (.ref a :: [x1, x2]) h Qk) (kk : ∀ (r1 : Option Value) (h1 : Hp), Qk r1 h1 → V M (d + 1) (pc + 3) la (r1.toList ++ st) h1 Q) : V M (d + 1) pc la (x2 :: x1 :: .ref a :: st) h Q := v_callV (N := mX12_farOf) (n := 2) [x1, x2] rfl ok_X12_farOf (hM ▸ lk_X12_468) im_X12_farOf se_X12_farOf (by decide +kernel) rfl okC_12.1 hs ha hcat hd hk kk
set_option maxRecDepth 100000 in
theorem lk_L_125 : lnk RL 125 yX12_centre := Or.inl (gw_T8 65 rfl rfl)
set_option maxRecDepth 100000 in
theorem c_L_125 {Qk : Option Value → Hp → Prop} (hM : M.1.cls = RL) {x1 : Value} {a : Nat} (hs : shp a = .inl 12) (ha : a < hn h) (hcat : catS st ≤ 8) (hd : decode M.2.1 pc = .ok (.invokevirtual 125, 3)) (hk : Kc mX12_centre d (.ref a :: [x1]) h Qk) (kk : ∀ (r1 : Option Value) (h1 : Hp), Qk r1 h1 → V M (d + 1) (pc + 3) la (r1.toList ++ st) h1 Q) : V M (d + 1) pc la (x1 :: .ref a :: st) h Q := v_callV (N := mX12_centre) (n := 1) [x1] rfl ok_X12_centre (hM ▸ lk_L_125) im_X12_centre se_X12_centre (by decide +kernel) rfl okC_12.1 hs ha hcat hd hk kk
set_option maxRecDepth 100000 in
theorem lk_X12_471 : lnk RX12 471 yX12_farthestFrom := Or.inl (gw_T8 69 rfl rfl)
set_option maxRecDepth 100000 in
theorem c_X12_471 {Qk : Option Value → Hp → Prop} (hM : M.1.cls = RX12) {x1 : Value} {a : Nat} (hs : shp a = .inl 12) (ha : a < hn h) (hcat : catS st ≤ 8) (hd : decode M.2.1 pc = .ok (.invokevirtual 471, 3)) (hk : Kc mX12_farthestFrom d (.ref a :: [x1]) h Qk) (kk : ∀ (r1 : Option Value) (h1 : Hp), Qk r1 h1 → V M (d + 1) (pc + 3) la (r1.toList ++ st) h1 Q) : V M (d + 1) pc la (x1 :: .ref a :: st) h Q := v_callV (N := mX12_farthestFrom) (n := 1) [x1] rfl ok_X12_farthestFrom (hM ▸ lk_X12_471) im_X12_farthestFrom se_X12_farthestFrom (by decide +kernel) rfl okC_12.1 hs ha hcat hd hk kk
set_option maxRecDepth 100000 in
theorem lk_L_97 : lnk RL 97 yX12_returns := Or.inl (gw_T8 73 rfl rfl)
set_option maxRecDepth 100000 in
theorem c_L_97 {Qk : Option Value → Hp → Prop} (hM : M.1.cls = RL) {x1 : Value} {a : Nat} (hs : shp a = .inl 12) (ha : a < hn h) (hcat : catS st ≤ 8) (hd : decode M.2.1 pc = .ok (.invokevirtual 97, 3)) (hk : Kc mX12_returns d (.ref a :: [x1]) h Qk) (kk : ∀ (r1 : Option Value) (h1 : Hp), Qk r1 h1 → V M (d + 1) (pc + 3) la (r1.toList ++ st) h1 Q) : V M (d + 1) pc la (x1 :: .ref a :: st) h Q := v_callV (N := mX12_returns) (n := 1) [x1] rfl ok_X12_returns (hM ▸ lk_L_97) im_X12_returns se_X12_returns (by decide +kernel) rfl okC_12.1 hs ha hcat hd hk kk
set_option maxRecDepth 100000 in
theorem lk_X12_474 : lnk RX12 474 yX12_copiesStill := Or.inl (gw_T8 77 rfl rfl)
set_option maxRecDepth 100000 in
theorem c_X12_474 {Qk : Option Value → Hp → Prop} (hM : M.1.cls = RX12) {a : Nat} (hs : shp a = .inl 12) (ha : a < hn h) (hcat : catS st ≤ 8) (hd : decode M.2.1 pc = .ok (.invokevirtual 474, 3)) (hk : Kc mX12_copiesStill d (.ref a :: []) h Qk) (kk : ∀ (r1 : Option Value) (h1 : Hp), Qk r1 h1 → V M (d + 1) (pc + 3) la (r1.toList ++ st) h1 Q) : V M (d + 1) pc la (.ref a :: st) h Q := v_callV (N := mX12_copiesStill) (n := 0) [] rfl ok_X12_copiesStill (hM ▸ lk_X12_474) im_X12_copiesStill se_X12_copiesStill (by decide +kernel) rfl okC_12.1 hs ha hcat hd hk kk
set_option maxRecDepth 100000 in
theorem lk_L_101 : lnk RL 101 yX12_never := Or.inl (gw_T8 81 rfl rfl)
set_option maxRecDepth 100000 in
theorem c_L_101 {Qk : Option Value → Hp → Prop} (hM : M.1.cls = RL) {x1 : Value} {a : Nat} (hs : shp a = .inl 12) (ha : a < hn h) (hcat : catS st ≤ 8) (hd : decode M.2.1 pc = .ok (.invokevirtual 101, 3)) (hk : Kc mX12_never d (.ref a :: [x1]) h Qk) (kk : ∀ (r1 : Option Value) (h1 : Hp), Qk r1 h1 → V M (d + 1) (pc + 3) la (r1.toList ++ st) h1 Q) : V M (d + 1) pc la (x1 :: .ref a :: st) h Q := v_callV (N := mX12_never) (n := 1) [x1] rfl ok_X12_never (hM ▸ lk_L_101) im_X12_never se_X12_never (by decide +kernel) rfl okC_12.1 hs ha hcat hd hk kk
set_option maxRecDepth 100000 in
theorem lk_X12_477 : lnk RX12 477 yX12_goerBits := Or.inl (gw_T8 85 rfl rfl)
set_option maxRecDepth 100000 in
theorem c_X12_477 {Qk : Option Value → Hp → Prop} (hM : M.1.cls = RX12) {a : Nat} (hs : shp a = .inl 12) (ha : a < hn h) (hcat : catS st ≤ 8) (hd : decode M.2.1 pc = .ok (.invokevirtual 477, 3)) (hk : Kc mX12_goerBits d (.ref a :: []) h Qk) (kk : ∀ (r1 : Option Value) (h1 : Hp), Qk r1 h1 → V M (d + 1) (pc + 3) la (r1.toList ++ st) h1 Q) : V M (d + 1) pc la (.ref a :: st) h Q := v_callV (N := mX12_goerBits) (n := 0) [] rfl ok_X12_goerBits (hM ▸ lk_X12_477) im_X12_goerBits se_X12_goerBits (by decide +kernel) rfl okC_12.1 hs ha hcat hd hk kk
set_option maxRecDepth 100000 in
theorem lk_L_105 : lnk RL 105 yX12_stood := Or.inl (gw_T8 89 rfl rfl)
set_option maxRecDepth 100000 in
theorem c_L_105 {Qk : Option Value → Hp → Prop} (hM : M.1.cls = RL) {x1 x2 x3 : Value} {a : Nat} (hs : shp a = .inl 12) (ha : a < hn h) (hcat : catS st ≤ 8) (hd : decode M.2.1 pc = .ok (.invokevirtual 105, 3)) (hk : Kc mX12_stood d (.ref a :: [x1, x2, x3]) h Qk) (kk : ∀ (r1 : Option Value) (h1 : Hp), Qk r1 h1 → V M (d + 1) (pc + 3) la (r1.toList ++ st) h1 Q) : V M (d + 1) pc la (x3 :: x2 :: x1 :: .ref a :: st) h Q := v_callV (N := mX12_stood) (n := 3) [x1, x2, x3] rfl ok_X12_stood (hM ▸ lk_L_105) im_X12_stood se_X12_stood (by decide +kernel) rfl okC_12.1 hs ha hcat hd hk kk
set_option maxRecDepth 100000 in
theorem lk_L_133 : lnk RL 133 yX12_pairs := Or.inl (gw_T8 93 rfl rfl)
set_option maxRecDepth 100000 in
theorem c_L_133 {Qk : Option Value → Hp → Prop} (hM : M.1.cls = RL) {x1 : Value} {a : Nat} (hs : shp a = .inl 12) (ha : a < hn h) (hcat : catS st ≤ 8) (hd : decode M.2.1 pc = .ok (.invokevirtual 133, 3)) (hk : Kc mX12_pairs d (.ref a :: [x1]) h Qk) (kk : ∀ (r1 : Option Value) (h1 : Hp), Qk r1 h1 → V M (d + 1) (pc + 3) la (r1.toList ++ st) h1 Q) : V M (d + 1) pc la (x1 :: .ref a :: st) h Q := v_callV (N := mX12_pairs) (n := 1) [x1] rfl ok_X12_pairs (hM ▸ lk_L_133) im_X12_pairs se_X12_pairs (by decide +kernel) rfl okC_12.1 hs ha hcat hd hk kk
set_option maxRecDepth 100000 in
theorem lk_X12_489 : lnk RX12 489 yX12_fillsPaired := Or.inl (gw_T8 97 rfl rfl)
set_option maxRecDepth 100000 in
theorem c_X12_489 {Qk : Option Value → Hp → Prop} (hM : M.1.cls = RX12) {a : Nat} (hs : shp a = .inl 12) (ha : a < hn h) (hcat : catS st ≤ 8) (hd : decode M.2.1 pc = .ok (.invokevirtual 489, 3)) (hk : Kc mX12_fillsPaired d (.ref a :: []) h Qk) (kk : ∀ (r1 : Option Value) (h1 : Hp), Qk r1 h1 → V M (d + 1) (pc + 3) la (r1.toList ++ st) h1 Q) : V M (d + 1) pc la (.ref a :: st) h Q := v_callV (N := mX12_fillsPaired) (n := 0) [] rfl ok_X12_fillsPaired (hM ▸ lk_X12_489) im_X12_fillsPaired se_X12_fillsPaired (by decide +kernel) rfl okC_12.1 hs ha hcat hd hk kk
set_option maxRecDepth 100000 in
theorem lk_X12_486 : lnk RX12 486 yX12_pairedWith := Or.inl (gw_T8 101 rfl rfl)
set_option maxRecDepth 100000 in
theorem c_X12_486 {Qk : Option Value → Hp → Prop} (hM : M.1.cls = RX12) {x1 x2 x3 : Value} {a : Nat} (hs : shp a = .inl 12) (ha : a < hn h) (hcat : catS st ≤ 8) (hd : decode M.2.1 pc = .ok (.invokevirtual 486, 3)) (hk : Kc mX12_pairedWith d (.ref a :: [x1, x2, x3]) h Qk) (kk : ∀ (r1 : Option Value) (h1 : Hp), Qk r1 h1 → V M (d + 1) (pc + 3) la (r1.toList ++ st) h1 Q) : V M (d + 1) pc la (x3 :: x2 :: x1 :: .ref a :: st) h Q := v_callV (N := mX12_pairedWith) (n := 3) [x1, x2, x3] rfl ok_X12_pairedWith (hM ▸ lk_X12_486) im_X12_pairedWith se_X12_pairedWith (by decide +kernel) rfl okC_12.1 hs ha hcat hd hk kk
set_option maxRecDepth 100000 in
theorem lk_X12_483 : lnk RX12 483 yX12_unlike := Or.inl (gw_T8 105 rfl rfl)
set_option maxRecDepth 100000 in
theorem c_X12_483 {Qk : Option Value → Hp → Prop} (hM : M.1.cls = RX12) {x1 x2 : Value} {a : Nat} (hs : shp a = .inl 12) (ha : a < hn h) (hcat : catS st ≤ 8) (hd : decode M.2.1 pc = .ok (.invokevirtual 483, 3)) (hk : Kc mX12_unlike d (.ref a :: [x1, x2]) h Qk) (kk : ∀ (r1 : Option Value) (h1 : Hp), Qk r1 h1 → V M (d + 1) (pc + 3) la (r1.toList ++ st) h1 Q) : V M (d + 1) pc la (x2 :: x1 :: .ref a :: st) h Q := v_callV (N := mX12_unlike) (n := 2) [x1, x2] rfl ok_X12_unlike (hM ▸ lk_X12_483) im_X12_unlike se_X12_unlike (by decide +kernel) rfl okC_12.1 hs ha hcat hd hk kk
set_option maxRecDepth 100000 in
theorem lk_X12_480 : lnk RX12 480 yX12_off := Or.inl (gw_T8 109 rfl rfl)
set_option maxRecDepth 100000 in
theorem c_X12_480 {Qk : Option Value → Hp → Prop} (hM : M.1.cls = RX12) {x1 x2 : Value} (hcat : catS st ≤ 8) (hd : decode M.2.1 pc = .ok (.invokestatic 480, 3)) (hk : Kc mX12_off d [x1, x2] h Qk) (kk : ∀ (r1 : Option Value) (h1 : Hp), Qk r1 h1 → V M (d + 1) (pc + 3) la (r1.toList ++ st) h1 Q) : V M (d + 1) pc la (x2 :: x1 :: st) h Q := v_callS (N := mX12_off) (n := 2) [x1, x2] rfl ok_X12_off (hM ▸ lk_X12_480) sm_X12_off (by decide +kernel) rfl hcat hd hk kk
set_option maxRecDepth 100000 in
theorem lk_X12_492 : lnk RX12 492 yX12_pairedOf := Or.inl (gw_T8 112 rfl rfl)
set_option maxRecDepth 100000 in
theorem c_X12_492 {Qk : Option Value → Hp → Prop} (hM : M.1.cls = RX12) {x1 : Value} {a : Nat} (hs : shp a = .inl 12) (ha : a < hn h) (hcat : catS st ≤ 8) (hd : decode M.2.1 pc = .ok (.invokevirtual 492, 3)) (hk : Kc mX12_pairedOf d (.ref a :: [x1]) h Qk) (kk : ∀ (r1 : Option Value) (h1 : Hp), Qk r1 h1 → V M (d + 1) (pc + 3) la (r1.toList ++ st) h1 Q) : V M (d + 1) pc la (x1 :: .ref a :: st) h Q := v_callV (N := mX12_pairedOf) (n := 1) [x1] rfl ok_X12_pairedOf (hM ▸ lk_X12_492) im_X12_pairedOf se_X12_pairedOf (by decide +kernel) rfl okC_12.1 hs ha hcat hd hk kk
set_option maxRecDepth 100000 in
theorem lk_L_137 : lnk RL 137 yX12_then := Or.inl (gw_T8 116 rfl rfl)
set_option maxRecDepth 100000 in
theorem c_L_137 {Qk : Option Value → Hp → Prop} (hM : M.1.cls = RL) {x1 x2 x3 : Value} {a : Nat} (hs : shp a = .inl 12) (ha : a < hn h) (hcat : catS st ≤ 8) (hd : decode M.2.1 pc = .ok (.invokevirtual 137, 3)) (hk : Kc mX12_then d (.ref a :: [x1, x2, x3]) h Qk) (kk : ∀ (r1 : Option Value) (h1 : Hp), Qk r1 h1 → V M (d + 1) (pc + 3) la (r1.toList ++ st) h1 Q) : V M (d + 1) pc la (x3 :: x2 :: x1 :: .ref a :: st) h Q := v_callV (N := mX12_then) (n := 3) [x1, x2, x3] rfl ok_X12_then (hM ▸ lk_L_137) im_X12_then se_X12_then (by decide +kernel) rfl okC_12.1 hs ha hcat hd hk kk
set_option maxRecDepth 100000 in
theorem lk_L_141 : lnk RL 141 yX12_tunesIn := Or.inl (gw_T8 120 rfl rfl)
set_option maxRecDepth 100000 in
theorem c_L_141 {Qk : Option Value → Hp → Prop} (hM : M.1.cls = RL) {x1 : Value} {a : Nat} (hs : shp a = .inl 12) (ha : a < hn h) (hcat : catS st ≤ 8) (hd : decode M.2.1 pc = .ok (.invokevirtual 141, 3)) (hk : Kc mX12_tunesIn d (.ref a :: [x1]) h Qk) (kk : ∀ (r1 : Option Value) (h1 : Hp), Qk r1 h1 → V M (d + 1) (pc + 3) la (r1.toList ++ st) h1 Q) : V M (d + 1) pc la (x1 :: .ref a :: st) h Q := v_callV (N := mX12_tunesIn) (n := 1) [x1] rfl ok_X12_tunesIn (hM ▸ lk_L_141) im_X12_tunesIn se_X12_tunesIn (by decide +kernel) rfl okC_12.1 hs ha hcat hd hk kk
set_option maxRecDepth 100000 in
theorem lk_L_145 : lnk RL 145 yX12_year := Or.inl (gw_T8 124 rfl rfl)
set_option maxRecDepth 100000 in
theorem c_L_145 {Qk : Option Value → Hp → Prop} (hM : M.1.cls = RL) {x1 x2 x3 : Value} {a : Nat} (hs : shp a = .inl 12) (ha : a < hn h) (hcat : catS st ≤ 8) (hd : decode M.2.1 pc = .ok (.invokevirtual 145, 3)) (hk : Kc mX12_year d (.ref a :: [x1, x2, x3]) h Qk) (kk : ∀ (r1 : Option Value) (h1 : Hp), Qk r1 h1 → V M (d + 1) (pc + 3) la (r1.toList ++ st) h1 Q) : V M (d + 1) pc la (x3 :: x2 :: x1 :: .ref a :: st) h Q := v_callV (N := mX12_year) (n := 3) [x1, x2, x3] rfl ok_X12_year (hM ▸ lk_L_145) im_X12_year se_X12_year (by decide +kernel) rfl okC_12.1 hs ha hcat hd hk kk
set_option maxRecDepth 100000 in
theorem lk_L_150 : lnk RL 150 yX12_tell := Or.inl (gw_T8 128 rfl rfl)
set_option maxRecDepth 100000 in
theorem c_L_150 {Qk : Option Value → Hp → Prop} (hM : M.1.cls = RL) {x1 x2 : Value} {a : Nat} (hs : shp a = .inl 12) (ha : a < hn h) (hcat : catS st ≤ 8) (hd : decode M.2.1 pc = .ok (.invokevirtual 150, 3)) (hk : Kc mX12_tell d (.ref a :: [x1, x2]) h Qk) (kk : ∀ (r1 : Option Value) (h1 : Hp), Qk r1 h1 → V M (d + 1) (pc + 3) la (r1.toList ++ st) h1 Q) : V M (d + 1) pc la (x2 :: x1 :: .ref a :: st) h Q := v_callV (N := mX12_tell) (n := 2) [x1, x2] rfl ok_X12_tell (hM ▸ lk_L_150) im_X12_tell se_X12_tell (by decide +kernel) rfl okC_12.1 hs ha hcat hd hk kk
set_option maxRecDepth 100000 in
theorem lk_X12_495 : lnk RX12 495 yX12_isTime := Or.inl (gw_T8 132 rfl rfl)
set_option maxRecDepth 100000 in
theorem c_X12_495 {Qk : Option Value → Hp → Prop} (hM : M.1.cls = RX12) {x1 : Value} (hcat : catS st ≤ 8) (hd : decode M.2.1 pc = .ok (.invokestatic 495, 3)) (hk : Kc mX12_isTime d [x1] h Qk) (kk : ∀ (r1 : Option Value) (h1 : Hp), Qk r1 h1 → V M (d + 1) (pc + 3) la (r1.toList ++ st) h1 Q) : V M (d + 1) pc la (x1 :: st) h Q := v_callS (N := mX12_isTime) (n := 1) [x1] rfl ok_X12_isTime (hM ▸ lk_X12_495) sm_X12_isTime (by decide +kernel) rfl hcat hd hk kk
set_option maxRecDepth 100000 in
theorem lk_L_154 : lnk RL 154 yX12_forget := Or.inl (gw_T8 135 rfl rfl)
set_option maxRecDepth 100000 in
theorem c_L_154 {Qk : Option Value → Hp → Prop} (hM : M.1.cls = RL) {a : Nat} (hs : shp a = .inl 12) (ha : a < hn h) (hcat : catS st ≤ 8) (hd : decode M.2.1 pc = .ok (.invokevirtual 154, 3)) (hk : Kc mX12_forget d (.ref a :: []) h Qk) (kk : ∀ (r1 : Option Value) (h1 : Hp), Qk r1 h1 → V M (d + 1) (pc + 3) la (r1.toList ++ st) h1 Q) : V M (d + 1) pc la (.ref a :: st) h Q := v_callV (N := mX12_forget) (n := 0) [] rfl ok_X12_forget (hM ▸ lk_L_154) im_X12_forget se_X12_forget (by decide +kernel) rfl okC_12.1 hs ha hcat hd hk kk
set_option maxRecDepth 100000 in
theorem lk_L_158 : lnk RL 158 yX12_fits := Or.inl (gw_T8 139 rfl rfl)
set_option maxRecDepth 100000 in
theorem c_L_158 {Qk : Option Value → Hp → Prop} (hM : M.1.cls = RL) {x1 x2 : Value} {a : Nat} (hs : shp a = .inl 12) (ha : a < hn h) (hcat : catS st ≤ 8) (hd : decode M.2.1 pc = .ok (.invokevirtual 158, 3)) (hk : Kc mX12_fits d (.ref a :: [x1, x2]) h Qk) (kk : ∀ (r1 : Option Value) (h1 : Hp), Qk r1 h1 → V M (d + 1) (pc + 3) la (r1.toList ++ st) h1 Q) : V M (d + 1) pc la (x2 :: x1 :: .ref a :: st) h Q := v_callV (N := mX12_fits) (n := 2) [x1, x2] rfl ok_X12_fits (hM ▸ lk_L_158) im_X12_fits se_X12_fits (by decide +kernel) rfl okC_12.1 hs ha hcat hd hk kk
set_option maxRecDepth 100000 in
theorem lk_X12_501 : lnk RX12 501 yX12_fitting := Or.inl (gw_T8 143 rfl rfl)
set_option maxRecDepth 100000 in
theorem c_X12_501 {Qk : Option Value → Hp → Prop} (hM : M.1.cls = RX12) {x1 x2 : Value} {a : Nat} (hs : shp a = .inl 12) (ha : a < hn h) (hcat : catS st ≤ 8) (hd : decode M.2.1 pc = .ok (.invokevirtual 501, 3)) (hk : Kc mX12_fitting d (.ref a :: [x1, x2]) h Qk) (kk : ∀ (r1 : Option Value) (h1 : Hp), Qk r1 h1 → V M (d + 1) (pc + 3) la (r1.toList ++ st) h1 Q) : V M (d + 1) pc la (x2 :: x1 :: .ref a :: st) h Q := v_callV (N := mX12_fitting) (n := 2) [x1, x2] rfl ok_X12_fitting (hM ▸ lk_X12_501) im_X12_fitting se_X12_fitting (by decide +kernel) rfl okC_12.1 hs ha hcat hd hk kk
set_option maxRecDepth 100000 in
theorem lk_X12_498 : lnk RX12 498 yX12_doesFit := Or.inl (gw_T8 147 rfl rfl)
set_option maxRecDepth 100000 in
theorem c_X12_498 {Qk : Option Value → Hp → Prop} (hM : M.1.cls = RX12) {x1 x2 x3 : Value} {a : Nat} (hs : shp a = .inl 12) (ha : a < hn h) (hcat : catS st ≤ 8) (hd : decode M.2.1 pc = .ok (.invokevirtual 498, 3)) (hk : Kc mX12_doesFit d (.ref a :: [x1, x2, x3]) h Qk) (kk : ∀ (r1 : Option Value) (h1 : Hp), Qk r1 h1 → V M (d + 1) (pc + 3) la (r1.toList ++ st) h1 Q) : V M (d + 1) pc la (x3 :: x2 :: x1 :: .ref a :: st) h Q := v_callV (N := mX12_doesFit) (n := 3) [x1, x2, x3] rfl ok_X12_doesFit (hM ▸ lk_X12_498) im_X12_doesFit se_X12_doesFit (by decide +kernel) rfl okC_12.1 hs ha hcat hd hk kk
set_option maxRecDepth 100000 in
theorem lk_X12_504 : lnk RX12 504 yX12_firstFit := Or.inl (gw_T8 151 rfl rfl)
set_option maxRecDepth 100000 in
theorem c_X12_504 {Qk : Option Value → Hp → Prop} (hM : M.1.cls = RX12) {x1 : Value} {a : Nat} (hs : shp a = .inl 12) (ha : a < hn h) (hcat : catS st ≤ 8) (hd : decode M.2.1 pc = .ok (.invokevirtual 504, 3)) (hk : Kc mX12_firstFit d (.ref a :: [x1]) h Qk) (kk : ∀ (r1 : Option Value) (h1 : Hp), Qk r1 h1 → V M (d + 1) (pc + 3) la (r1.toList ++ st) h1 Q) : V M (d + 1) pc la (x1 :: .ref a :: st) h Q := v_callV (N := mX12_firstFit) (n := 1) [x1] rfl ok_X12_firstFit (hM ▸ lk_X12_504) im_X12_firstFit se_X12_firstFit (by decide +kernel) rfl okC_12.1 hs ha hcat hd hk kk
set_option maxRecDepth 100000 in
theorem lk_L_162 : lnk RL 162 yX12_listen := Or.inl (gw_T8 155 rfl rfl)
set_option maxRecDepth 100000 in
theorem c_L_162 {Qk : Option Value → Hp → Prop} (hM : M.1.cls = RL) {x1 : Value} {a : Nat} (hs : shp a = .inl 12) (ha : a < hn h) (hcat : catS st ≤ 8) (hd : decode M.2.1 pc = .ok (.invokevirtual 162, 3)) (hk : Kc mX12_listen d (.ref a :: [x1]) h Qk) (kk : ∀ (r1 : Option Value) (h1 : Hp), Qk r1 h1 → V M (d + 1) (pc + 3) la (r1.toList ++ st) h1 Q) : V M (d + 1) pc la (x1 :: .ref a :: st) h Q := v_callV (N := mX12_listen) (n := 1) [x1] rfl ok_X12_listen (hM ▸ lk_L_162) im_X12_listen se_X12_listen (by decide +kernel) rfl okC_12.1 hs ha hcat hd hk kk
set_option maxRecDepth 100000 in
theorem lk_L_167 : lnk RL 167 yX12_hold := Or.inl (gw_T8 159 rfl rfl)
set_option maxRecDepth 100000 in
theorem c_L_167 {Qk : Option Value → Hp → Prop} (hM : M.1.cls = RL) {x1 : Value} {a : Nat} (hs : shp a = .inl 12) (ha : a < hn h) (hcat : catS st ≤ 8) (hd : decode M.2.1 pc = .ok (.invokevirtual 167, 3)) (hk : Kc mX12_hold d (.ref a :: [x1]) h Qk) (kk : ∀ (r1 : Option Value) (h1 : Hp), Qk r1 h1 → V M (d + 1) (pc + 3) la (r1.toList ++ st) h1 Q) : V M (d + 1) pc la (x1 :: .ref a :: st) h Q := v_callV (N := mX12_hold) (n := 1) [x1] rfl ok_X12_hold (hM ▸ lk_L_167) im_X12_hold se_X12_hold (by decide +kernel) rfl okC_12.1 hs ha hcat hd hk kk
set_option maxRecDepth 100000 in
theorem lk_L_171 : lnk RL 171 yX12_restore := Or.inl (gw_T8 163 rfl rfl)
set_option maxRecDepth 100000 in
theorem c_L_171 {Qk : Option Value → Hp → Prop} (hM : M.1.cls = RL) {x1 : Value} {a : Nat} (hs : shp a = .inl 12) (ha : a < hn h) (hcat : catS st ≤ 8) (hd : decode M.2.1 pc = .ok (.invokevirtual 171, 3)) (hk : Kc mX12_restore d (.ref a :: [x1]) h Qk) (kk : ∀ (r1 : Option Value) (h1 : Hp), Qk r1 h1 → V M (d + 1) (pc + 3) la (r1.toList ++ st) h1 Q) : V M (d + 1) pc la (x1 :: .ref a :: st) h Q := v_callV (N := mX12_restore) (n := 1) [x1] rfl ok_X12_restore (hM ▸ lk_L_171) im_X12_restore se_X12_restore (by decide +kernel) rfl okC_12.1 hs ha hcat hd hk kk
set_option maxRecDepth 100000 in
theorem lk_L_175 : lnk RL 175 yX12_count := Or.inl (gw_T8 167 rfl rfl)
set_option maxRecDepth 100000 in
theorem c_L_175 {Qk : Option Value → Hp → Prop} (hM : M.1.cls = RL) {x1 : Value} {a : Nat} (hs : shp a = .inl 12) (ha : a < hn h) (hcat : catS st ≤ 8) (hd : decode M.2.1 pc = .ok (.invokevirtual 175, 3)) (hk : Kc mX12_count d (.ref a :: [x1]) h Qk) (kk : ∀ (r1 : Option Value) (h1 : Hp), Qk r1 h1 → V M (d + 1) (pc + 3) la (r1.toList ++ st) h1 Q) : V M (d + 1) pc la (x1 :: .ref a :: st) h Q := v_callV (N := mX12_count) (n := 1) [x1] rfl ok_X12_count (hM ▸ lk_L_175) im_X12_count se_X12_count (by decide +kernel) rfl okC_12.1 hs ha hcat hd hk kk
set_option maxRecDepth 100000 in
theorem lk_X12_507 : lnk RX12 507 yX12_costsAll := Or.inl (gw_T8 171 rfl rfl)
set_option maxRecDepth 100000 in
theorem c_X12_507 {Qk : Option Value → Hp → Prop} (hM : M.1.cls = RX12) {a : Nat} (hs : shp a = .inl 12) (ha : a < hn h) (hcat : catS st ≤ 8) (hd : decode M.2.1 pc = .ok (.invokevirtual 507, 3)) (hk : Kc mX12_costsAll d (.ref a :: []) h Qk) (kk : ∀ (r1 : Option Value) (h1 : Hp), Qk r1 h1 → V M (d + 1) (pc + 3) la (r1.toList ++ st) h1 Q) : V M (d + 1) pc la (.ref a :: st) h Q := v_callV (N := mX12_costsAll) (n := 0) [] rfl ok_X12_costsAll (hM ▸ lk_X12_507) im_X12_costsAll se_X12_costsAll (by decide +kernel) rfl okC_12.1 hs ha hcat hd hk kk
set_option maxRecDepth 100000 in
theorem lk_X7_11 : lnk RX7 11 yX0_init := Or.inr ⟨"BandstandLawn", nest_T1 38 rfl rfl⟩
set_option maxRecDepth 100000 in
theorem c_X7_11 {Qk : Option Value → Hp → Prop} (hM : M.1.cls = RX7) {a : Nat} (hcat : catS st ≤ 8) (hd : decode M.2.1 pc = .ok (.invokespecial 11, 3)) (hk : Kc mX0_init d (.ref a :: []) h Qk) (kk : ∀ (r1 : Option Value) (h1 : Hp), Qk r1 h1 → V M (d + 1) (pc + 3) la (r1.toList ++ st) h1 Q) : V M (d + 1) pc la (.ref a :: st) h Q := v_callI (N := mX0_init) (n := 0) [] rfl ok_X0_init (hM ▸ lk_X7_11) im_X0_init rfl rfl (by decide +kernel) rfl hcat hd hk kk
set_option maxRecDepth 100000 in
theorem lk_X0_11 : lnk RX0 11 yX3_init := Or.inr ⟨"BandstandLawn", nest_T1 44 rfl rfl⟩
set_option maxRecDepth 100000 in
theorem c_X0_11 {Qk : Option Value → Hp → Prop} (hM : M.1.cls = RX0) {a : Nat} (hcat : catS st ≤ 8) (hd : decode M.2.1 pc = .ok (.invokespecial 11, 3)) (hk : Kc mX3_init d (.ref a :: []) h Qk) (kk : ∀ (r1 : Option Value) (h1 : Hp), Qk r1 h1 → V M (d + 1) (pc + 3) la (r1.toList ++ st) h1 Q) : V M (d + 1) pc la (.ref a :: st) h Q := v_callI (N := mX3_init) (n := 0) [] rfl ok_X3_init (hM ▸ lk_X0_11) im_X3_init rfl rfl (by decide +kernel) rfl hcat hd hk kk
set_option maxRecDepth 100000 in
theorem lk_X0_20 : lnk RX0 20 yX4_init := Or.inr ⟨"BandstandLawn", nest_T1 72 rfl rfl⟩
set_option maxRecDepth 100000 in
theorem c_X0_20 {Qk : Option Value → Hp → Prop} (hM : M.1.cls = RX0) {a : Nat} (hcat : catS st ≤ 8) (hd : decode M.2.1 pc = .ok (.invokespecial 20, 3)) (hk : Kc mX4_init d (.ref a :: []) h Qk) (kk : ∀ (r1 : Option Value) (h1 : Hp), Qk r1 h1 → V M (d + 1) (pc + 3) la (r1.toList ++ st) h1 Q) : V M (d + 1) pc la (.ref a :: st) h Q := v_callI (N := mX4_init) (n := 0) [] rfl ok_X4_init (hM ▸ lk_X0_20) im_X4_init rfl rfl (by decide +kernel) rfl hcat hd hk kk
set_option maxRecDepth 100000 in
theorem lk_X7_20 : lnk RX7 20 yX8_init := Or.inr ⟨"BandstandLawn", nest_T1 120 rfl rfl⟩
set_option maxRecDepth 100000 in
theorem c_X7_20 {Qk : Option Value → Hp → Prop} (hM : M.1.cls = RX7) {a : Nat} (hcat : catS st ≤ 8) (hd : decode M.2.1 pc = .ok (.invokespecial 20, 3)) (hk : Kc mX8_init d (.ref a :: []) h Qk) (kk : ∀ (r1 : Option Value) (h1 : Hp), Qk r1 h1 → V M (d + 1) (pc + 3) la (r1.toList ++ st) h1 Q) : V M (d + 1) pc la (.ref a :: st) h Q := v_callI (N := mX8_init) (n := 0) [] rfl ok_X8_init (hM ▸ lk_X7_20) im_X8_init rfl rfl (by decide +kernel) rfl hcat hd hk kk
set_option maxRecDepth 100000 in
theorem lk_X11_31 : lnk RX11 31 yX0_init := Or.inr ⟨"BandstandLawn", nest_T2 55 rfl rfl⟩
set_option maxRecDepth 100000 in
theorem c_X11_31 {Qk : Option Value → Hp → Prop} (hM : M.1.cls = RX11) {a : Nat} (hcat : catS st ≤ 8) (hd : decode M.2.1 pc = .ok (.invokespecial 31, 3)) (hk : Kc mX0_init d (.ref a :: []) h Qk) (kk : ∀ (r1 : Option Value) (h1 : Hp), Qk r1 h1 → V M (d + 1) (pc + 3) la (r1.toList ++ st) h1 Q) : V M (d + 1) pc la (.ref a :: st) h Q := v_callI (N := mX0_init) (n := 0) [] rfl ok_X0_init (hM ▸ lk_X11_31) im_X0_init rfl rfl (by decide +kernel) rfl hcat hd hk kk
set_option maxRecDepth 100000 in
theorem lk_X11_43 : lnk RX11 43 yX8_init := Or.inr ⟨"BandstandLawn", nest_T2 57 rfl rfl⟩
set_option maxRecDepth 100000 in
theorem c_X11_43 {Qk : Option Value → Hp → Prop} (hM : M.1.cls = RX11) {a : Nat} (hcat : catS st ≤ 8) (hd : decode M.2.1 pc = .ok (.invokespecial 43, 3)) (hk : Kc mX8_init d (.ref a :: []) h Qk) (kk : ∀ (r1 : Option Value) (h1 : Hp), Qk r1 h1 → V M (d + 1) (pc + 3) la (r1.toList ++ st) h1 Q) : V M (d + 1) pc la (.ref a :: st) h Q := v_callI (N := mX8_init) (n := 0) [] rfl ok_X8_init (hM ▸ lk_X11_43) im_X8_init rfl rfl (by decide +kernel) rfl hcat hd hk kk
set_option maxRecDepth 100000 in
theorem lk_X6_24 : lnk RX6 24 yX8_init := Or.inr ⟨"BandstandLawn", nest_T2 66 rfl rfl⟩
set_option maxRecDepth 100000 in
theorem c_X6_24 {Qk : Option Value → Hp → Prop} (hM : M.1.cls = RX6) {a : Nat} (hcat : catS st ≤ 8) (hd : decode M.2.1 pc = .ok (.invokespecial 24, 3)) (hk : Kc mX8_init d (.ref a :: []) h Qk) (kk : ∀ (r1 : Option Value) (h1 : Hp), Qk r1 h1 → V M (d + 1) (pc + 3) la (r1.toList ++ st) h1 Q) : V M (d + 1) pc la (.ref a :: st) h Q := v_callI (N := mX8_init) (n := 0) [] rfl ok_X8_init (hM ▸ lk_X6_24) im_X8_init rfl rfl (by decide +kernel) rfl hcat hd hk kk
set_option maxRecDepth 100000 in
theorem lk_X11_67 : lnk RX11 67 yX2_init := Or.inr ⟨"BandstandLawn", nest_T2 80 rfl rfl⟩
set_option maxRecDepth 100000 in
theorem c_X11_67 {Qk : Option Value → Hp → Prop} (hM : M.1.cls = RX11) {a : Nat} (hcat : catS st ≤ 8) (hd : decode M.2.1 pc = .ok (.invokespecial 67, 3)) (hk : Kc mX2_init d (.ref a :: []) h Qk) (kk : ∀ (r1 : Option Value) (h1 : Hp), Qk r1 h1 → V M (d + 1) (pc + 3) la (r1.toList ++ st) h1 Q) : V M (d + 1) pc la (.ref a :: st) h Q := v_callI (N := mX2_init) (n := 0) [] rfl ok_X2_init (hM ▸ lk_X11_67) im_X2_init rfl rfl (by decide +kernel) rfl hcat hd hk kk
set_option maxRecDepth 100000 in
theorem lk_X8_62 : lnk RX8 62 yX11_lowest := Or.inr ⟨"BandstandLawn", nest_T4 75 rfl rfl⟩
set_option maxRecDepth 100000 in
theorem c_X8_62 {Qk : Option Value → Hp → Prop} (hM : M.1.cls = RX8) {x1 : Value} (hcat : catS st ≤ 8) (hd : decode M.2.1 pc = .ok (.invokestatic 62, 3)) (hk : Kc mX11_lowest d [x1] h Qk) (kk : ∀ (r1 : Option Value) (h1 : Hp), Qk r1 h1 → V M (d + 1) (pc + 3) la (r1.toList ++ st) h1 Q) : V M (d + 1) pc la (x1 :: st) h Q := v_callS (N := mX11_lowest) (n := 1) [x1] rfl ok_X11_lowest (hM ▸ lk_X8_62) sm_X11_lowest (by decide +kernel) rfl hcat hd hk kk
set_option maxRecDepth 100000 in
theorem lk_X0_138 : lnk RX0 138 yX11_lowest := Or.inr ⟨"BandstandLawn", nest_T4 138 rfl rfl⟩
set_option maxRecDepth 100000 in
theorem c_X0_138 {Qk : Option Value → Hp → Prop} (hM : M.1.cls = RX0) {x1 : Value} (hcat : catS st ≤ 8) (hd : decode M.2.1 pc = .ok (.invokestatic 138, 3)) (hk : Kc mX11_lowest d [x1] h Qk) (kk : ∀ (r1 : Option Value) (h1 : Hp), Qk r1 h1 → V M (d + 1) (pc + 3) la (r1.toList ++ st) h1 Q) : V M (d + 1) pc la (x1 :: st) h Q := v_callS (N := mX11_lowest) (n := 1) [x1] rfl ok_X11_lowest (hM ▸ lk_X0_138) sm_X11_lowest (by decide +kernel) rfl hcat hd hk kk
set_option maxRecDepth 100000 in
theorem lk_X10_57 : lnk RX10 57 yX11_lowest := Or.inr ⟨"BandstandLawn", nest_T4 215 rfl rfl⟩
set_option maxRecDepth 100000 in
theorem c_X10_57 {Qk : Option Value → Hp → Prop} (hM : M.1.cls = RX10) {x1 : Value} (hcat : catS st ≤ 8) (hd : decode M.2.1 pc = .ok (.invokestatic 57, 3)) (hk : Kc mX11_lowest d [x1] h Qk) (kk : ∀ (r1 : Option Value) (h1 : Hp), Qk r1 h1 → V M (d + 1) (pc + 3) la (r1.toList ++ st) h1 Q) : V M (d + 1) pc la (x1 :: st) h Q := v_callS (N := mX11_lowest) (n := 1) [x1] rfl ok_X11_lowest (hM ▸ lk_X10_57) sm_X11_lowest (by decide +kernel) rfl hcat hd hk kk
set_option maxRecDepth 100000 in
theorem lk_X5_30 : lnk RX5 30 yX11_lowest := Or.inr ⟨"BandstandLawn", nest_T5 129 rfl rfl⟩
set_option maxRecDepth 100000 in
theorem c_X5_30 {Qk : Option Value → Hp → Prop} (hM : M.1.cls = RX5) {x1 : Value} (hcat : catS st ≤ 8) (hd : decode M.2.1 pc = .ok (.invokestatic 30, 3)) (hk : Kc mX11_lowest d [x1] h Qk) (kk : ∀ (r1 : Option Value) (h1 : Hp), Qk r1 h1 → V M (d + 1) (pc + 3) la (r1.toList ++ st) h1 Q) : V M (d + 1) pc la (x1 :: st) h Q := v_callS (N := mX11_lowest) (n := 1) [x1] rfl ok_X11_lowest (hM ▸ lk_X5_30) sm_X11_lowest (by decide +kernel) rfl hcat hd hk kk
set_option maxRecDepth 100000 in
theorem lk_X2_28 : lnk RX2 28 yX11_lowest := Or.inr ⟨"BandstandLawn", nest_T5 176 rfl rfl⟩
set_option maxRecDepth 100000 in
theorem c_X2_28 {Qk : Option Value → Hp → Prop} (hM : M.1.cls = RX2) {x1 : Value} (hcat : catS st ≤ 8) (hd : decode M.2.1 pc = .ok (.invokestatic 28, 3)) (hk : Kc mX11_lowest d [x1] h Qk) (kk : ∀ (r1 : Option Value) (h1 : Hp), Qk r1 h1 → V M (d + 1) (pc + 3) la (r1.toList ++ st) h1 Q) : V M (d + 1) pc la (x1 :: st) h Q := v_callS (N := mX11_lowest) (n := 1) [x1] rfl ok_X11_lowest (hM ▸ lk_X2_28) sm_X11_lowest (by decide +kernel) rfl hcat hd hk kk
set_option maxRecDepth 100000 in
theorem cl_L_7 : Cond.classLink RL 7 RX11 ∈ gw := gw_T1 22 rfl rfl
set_option maxRecDepth 100000 in
theorem n_L_7 (hM : M.1.cls = RL) (hs : shp (hn h) = .inl 11) (hd : decode M.2.1 pc = .ok (.new 7, 3)) (k : V M d (pc + 3) la (.ref (hn h) :: st) (mkH h) Q) : V M d pc la st h Q := v_new okC_11 hs (hM ▸ cl_L_7) is_X11 in_X11 hd k
set_option maxRecDepth 100000 in
theorem cl_X11_20 : Cond.classLink RX11 20 RX7 ∈ gw := gw_T1 30 rfl rfl
set_option maxRecDepth 100000 in
theorem n_X11_20 (hM : M.1.cls = RX11) (hs : shp (hn h) = .inl 7) (hd : decode M.2.1 pc = .ok (.new 20, 3)) (k : V M d (pc + 3) la (.ref (hn h) :: st) (mkH h) Q) : V M d pc la st h Q := v_new okC_7 hs (hM ▸ cl_X11_20) is_X7 in_X7 hd k
set_option maxRecDepth 100000 in
theorem cl_X7_9 : Cond.classLink RX7 9 RX0 ∈ gw := gw_T1 36 rfl rfl
set_option maxRecDepth 100000 in
theorem n_X7_9 (hM : M.1.cls = RX7) (hs : shp (hn h) = .inl 0) (hd : decode M.2.1 pc = .ok (.new 9, 3)) (k : V M d (pc + 3) la (.ref (hn h) :: st) (mkH h) Q) : V M d pc la st h Q := v_new okC_0 hs (hM ▸ cl_X7_9) is_X0 in_X0 hd k
set_option maxRecDepth 100000 in
theorem cl_X0_9 : Cond.classLink RX0 9 RX3 ∈ gw := gw_T1 42 rfl rfl
set_option maxRecDepth 100000 in
theorem n_X0_9 (hM : M.1.cls = RX0) (hs : shp (hn h) = .inl 3) (hd : decode M.2.1 pc = .ok (.new 9, 3)) (k : V M d (pc + 3) la (.ref (hn h) :: st) (mkH h) Q) : V M d pc la st h Q := v_new okC_3 hs (hM ▸ cl_X0_9) is_X3 in_X3 hd k
set_option maxRecDepth 100000 in
theorem cl_X0_18 : Cond.classLink RX0 18 RX4 ∈ gw := gw_T1 70 rfl rfl
set_option maxRecDepth 100000 in
theorem n_X0_18 (hM : M.1.cls = RX0) (hs : shp (hn h) = .inl 4) (hd : decode M.2.1 pc = .ok (.new 18, 3)) (k : V M d (pc + 3) la (.ref (hn h) :: st) (mkH h) Q) : V M d pc la st h Q := v_new okC_4 hs (hM ▸ cl_X0_18) is_X4 in_X4 hd k
set_option maxRecDepth 100000 in
theorem cl_X7_18 : Cond.classLink RX7 18 RX8 ∈ gw := gw_T1 118 rfl rfl
set_option maxRecDepth 100000 in
theorem n_X7_18 (hM : M.1.cls = RX7) (hs : shp (hn h) = .inl 8) (hd : decode M.2.1 pc = .ok (.new 18, 3)) (k : V M d (pc + 3) la (.ref (hn h) :: st) (mkH h) Q) : V M d pc la st h Q := v_new okC_8 hs (hM ▸ cl_X7_18) is_X8 in_X8 hd k
set_option maxRecDepth 100000 in
theorem cl_X7_64 : Cond.classLink RX7 64 RX9 ∈ gw := gw_T1 162 rfl rfl
set_option maxRecDepth 100000 in
theorem n_X7_64 (hM : M.1.cls = RX7) (hs : shp (hn h) = .inl 9) (hd : decode M.2.1 pc = .ok (.new 64, 3)) (k : V M d (pc + 3) la (.ref (hn h) :: st) (mkH h) Q) : V M d pc la st h Q := v_new okC_9 hs (hM ▸ cl_X7_64) is_X9 in_X9 hd k
set_option maxRecDepth 100000 in
theorem cl_X11_29 : Cond.classLink RX11 29 RX0 ∈ gw := gw_T2 54 rfl rfl
set_option maxRecDepth 100000 in
theorem n_X11_29 (hM : M.1.cls = RX11) (hs : shp (hn h) = .inl 0) (hd : decode M.2.1 pc = .ok (.new 29, 3)) (k : V M d (pc + 3) la (.ref (hn h) :: st) (mkH h) Q) : V M d pc la st h Q := v_new okC_0 hs (hM ▸ cl_X11_29) is_X0 in_X0 hd k
set_option maxRecDepth 100000 in
theorem cl_X11_41 : Cond.classLink RX11 41 RX8 ∈ gw := gw_T2 56 rfl rfl
set_option maxRecDepth 100000 in
theorem n_X11_41 (hM : M.1.cls = RX11) (hs : shp (hn h) = .inl 8) (hd : decode M.2.1 pc = .ok (.new 41, 3)) (k : V M d (pc + 3) la (.ref (hn h) :: st) (mkH h) Q) : V M d pc la st h Q := v_new okC_8 hs (hM ▸ cl_X11_41) is_X8 in_X8 hd k
set_option maxRecDepth 100000 in
theorem cl_X11_51 : Cond.classLink RX11 51 RX6 ∈ gw := gw_T2 58 rfl rfl
set_option maxRecDepth 100000 in
theorem n_X11_51 (hM : M.1.cls = RX11) (hs : shp (hn h) = .inl 6) (hd : decode M.2.1 pc = .ok (.new 51, 3)) (k : V M d (pc + 3) la (.ref (hn h) :: st) (mkH h) Q) : V M d pc la st h Q := v_new okC_6 hs (hM ▸ cl_X11_51) is_X6 in_X6 hd k
set_option maxRecDepth 100000 in
theorem cl_X6_9 : Cond.classLink RX6 9 RX8 ∈ gw := gw_T2 64 rfl rfl
set_option maxRecDepth 100000 in
theorem n_X6_9 (hM : M.1.cls = RX6) (hs : shp (hn h) = .inl 8) (hd : decode M.2.1 pc = .ok (.new 9, 3)) (k : V M d (pc + 3) la (.ref (hn h) :: st) (mkH h) Q) : V M d pc la st h Q := v_new okC_8 hs (hM ▸ cl_X6_9) is_X8 in_X8 hd k
set_option maxRecDepth 100000 in
theorem cl_X11_65 : Cond.classLink RX11 65 RX2 ∈ gw := gw_T2 78 rfl rfl
set_option maxRecDepth 100000 in
theorem n_X11_65 (hM : M.1.cls = RX11) (hs : shp (hn h) = .inl 2) (hd : decode M.2.1 pc = .ok (.new 65, 3)) (k : V M d (pc + 3) la (.ref (hn h) :: st) (mkH h) Q) : V M d pc la st h Q := v_new okC_2 hs (hM ▸ cl_X11_65) is_X2 in_X2 hd k
set_option maxRecDepth 100000 in
theorem cl_X11_72 : Cond.classLink RX11 72 RX10 ∈ gw := gw_T2 96 rfl rfl
set_option maxRecDepth 100000 in
theorem n_X11_72 (hM : M.1.cls = RX11) (hs : shp (hn h) = .inl 10) (hd : decode M.2.1 pc = .ok (.new 72, 3)) (k : V M d (pc + 3) la (.ref (hn h) :: st) (mkH h) Q) : V M d pc la st h Q := v_new okC_10 hs (hM ▸ cl_X11_72) is_X10 in_X10 hd k
set_option maxRecDepth 100000 in
theorem cl_X11_81 : Cond.classLink RX11 81 RX1 ∈ gw := gw_T2 126 rfl rfl
set_option maxRecDepth 100000 in
theorem n_X11_81 (hM : M.1.cls = RX11) (hs : shp (hn h) = .inl 1) (hd : decode M.2.1 pc = .ok (.new 81, 3)) (k : V M d (pc + 3) la (.ref (hn h) :: st) (mkH h) Q) : V M d pc la st h Q := v_new okC_1 hs (hM ▸ cl_X11_81) is_X1 in_X1 hd k
set_option maxRecDepth 100000 in
theorem cl_X11_88 : Cond.classLink RX11 88 RX5 ∈ gw := gw_T2 148 rfl rfl
set_option maxRecDepth 100000 in
theorem n_X11_88 (hM : M.1.cls = RX11) (hs : shp (hn h) = .inl 5) (hd : decode M.2.1 pc = .ok (.new 88, 3)) (k : V M d (pc + 3) la (.ref (hn h) :: st) (mkH h) Q) : V M d pc la st h Q := v_new okC_5 hs (hM ▸ cl_X11_88) is_X5 in_X5 hd k
set_option maxRecDepth 100000 in
theorem cl_L_10 : Cond.classLink RL 10 RX12 ∈ gw := gw_T5 186 rfl rfl
set_option maxRecDepth 100000 in
theorem n_L_10 (hM : M.1.cls = RL) (hs : shp (hn h) = .inl 12) (hd : decode M.2.1 pc = .ok (.new 10, 3)) (k : V M d (pc + 3) la (.ref (hn h) :: st) (mkH h) Q) : V M d pc la st h Q := v_new okC_12 hs (hM ▸ cl_L_10) is_X12 in_X12 hd k
set_option maxRecDepth 100000 in
theorem ac_byte : Cond.arrayClass .byte ∈ gw := gw_T1 69 rfl rfl
set_option maxRecDepth 100000 in
theorem ac_int : Cond.arrayClass .int ∈ gw := gw_T1 89 rfl rfl
set_option maxRecDepth 100000 in
theorem ac_long : Cond.arrayClass .long ∈ gw := gw_T2 3 rfl rfl
set_option maxRecDepth 100000 in
theorem ac_short : Cond.arrayClass .short ∈ gw := gw_T2 4 rfl rfl
set_option maxRecDepth 100000 in
theorem ac_boolean : Cond.arrayClass .boolean ∈ gw := gw_T2 95 rfl rfl
set_option maxRecDepth 100000 in
theorem kc_J6_265 : Cond.constant RJ6 265 (1431655765) ∈ gw := gw_T4 26 rfl rfl
set_option maxRecDepth 100000 in
theorem kc_J6_266 : Cond.constant RJ6 266 (858993459) ∈ gw := gw_T4 27 rfl rfl
set_option maxRecDepth 100000 in
theorem kc_J6_267 : Cond.constant RJ6 267 (252645135) ∈ gw := gw_T4 28 rfl rfl
set_option maxRecDepth 100000 in
theorem kc_X0_156 : Cond.constant RX0 156 (1103515245) ∈ gw := gw_T4 149 rfl rfl
set_option maxRecDepth 100000 in
theorem kc_X2_23 : Cond.constant RX2 23 (1048575) ∈ gw := gw_T5 169 rfl rfl
set_option maxRecDepth 100000 in
theorem kc_X12_349 : Cond.constant RX12 349 (1103515245) ∈ gw := gw_T7 190 rfl rfl
set_option maxRecDepth 100000 in
theorem kl_X9_51 : Cond.constantLong RX9 51 (32) ∈ gw := gw_T1 220 rfl rfl
set_option maxRecDepth 100000 in
theorem kl_X12_187 : Cond.constantLong RX12 187 (27) ∈ gw := gw_T5 202 rfl rfl
set_option maxRecDepth 100000 in
theorem oi_im : Cond.instanceMethod Lib.objectInit ∈ gw := gw_T1 28 rfl rfl
set_option maxRecDepth 100000 in
theorem oi_code : Cond.code Lib.objectInit ⟨#[0xb1]⟩ 1 none ∈ gw := gw_T1 29 rfl rfl
end FW
