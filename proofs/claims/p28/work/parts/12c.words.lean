section FW
variable {M : MT} {d pc : Nat} {la : List (Option Value)} {st : List Value} {h : Hp} {Q : Option Value → Hp → Prop}
set_option maxRecDepth 100000 in
theorem ml_X7_150 : Cond.methodLink RX7 150 yJ9_max_7cf53 ∈ gw := gw_T3 123 rfl rfl
set_option maxRecDepth 100000 in
theorem lk_X7_157 : lnk RX7 157 yX3_lay := Or.inl (gw_T3 124 rfl rfl)
set_option maxRecDepth 100000 in
theorem c_X7_157 {Qk : Option Value → Hp → Prop} (hM : M.1.cls = RX7) {x1 x2 : Value} {a : Nat} (hs : shp a = .inl 3) (ha : a < hn h) (hcat : catS st ≤ 8) (hd : decode M.2.1 pc = .ok (.invokevirtual 157, 3)) (hk : Kc mX3_lay d (.ref a :: [x1, x2]) h Qk) (kk : ∀ (r1 : Option Value) (h1 : Hp), Qk r1 h1 → V M (d + 1) (pc + 3) la (r1.toList ++ st) h1 Q) : V M (d + 1) pc la (x2 :: x1 :: .ref a :: st) h Q := v_callV (N := mX3_lay) (n := 2) [x1, x2] rfl ok_X3_lay (hM ▸ lk_X7_157) im_X3_lay se_X3_lay (by decide +kernel) rfl okC_3.1 hs ha hcat hd hk kk
set_option maxRecDepth 100000 in
theorem lk_X7_111 : lnk RX7 111 yX7_readTune := Or.inl (gw_T3 125 rfl rfl)
set_option maxRecDepth 100000 in
theorem c_X7_111 {Qk : Option Value → Hp → Prop} (hM : M.1.cls = RX7) {a : Nat} (hs : shp a = .inl 7) (ha : a < hn h) (hcat : catS st ≤ 8) (hd : decode M.2.1 pc = .ok (.invokevirtual 111, 3)) (hk : Kc mX7_readTune d (.ref a :: []) h Qk) (kk : ∀ (r1 : Option Value) (h1 : Hp), Qk r1 h1 → V M (d + 1) (pc + 3) la (r1.toList ++ st) h1 Q) : V M (d + 1) pc la (.ref a :: st) h Q := v_callV (N := mX7_readTune) (n := 0) [] rfl ok_X7_readTune (hM ▸ lk_X7_111) im_X7_readTune se_X7_readTune (by decide +kernel) rfl okC_7.1 hs ha hcat hd hk kk
set_option maxRecDepth 100000 in
theorem lk_X7_162 : lnk RX7 162 yX7_takeSpot := Or.inl (gw_T3 129 rfl rfl)
set_option maxRecDepth 100000 in
theorem c_X7_162 {Qk : Option Value → Hp → Prop} (hM : M.1.cls = RX7) {a : Nat} (hs : shp a = .inl 7) (ha : a < hn h) (hcat : catS st ≤ 8) (hd : decode M.2.1 pc = .ok (.invokevirtual 162, 3)) (hk : Kc mX7_takeSpot d (.ref a :: []) h Qk) (kk : ∀ (r1 : Option Value) (h1 : Hp), Qk r1 h1 → V M (d + 1) (pc + 3) la (r1.toList ++ st) h1 Q) : V M (d + 1) pc la (.ref a :: st) h Q := v_callV (N := mX7_takeSpot) (n := 0) [] rfl ok_X7_takeSpot (hM ▸ lk_X7_162) im_X7_takeSpot se_X7_takeSpot (by decide +kernel) rfl okC_7.1 hs ha hcat hd hk kk
set_option maxRecDepth 100000 in
theorem lk_X7_114 : lnk RX7 114 yX7_readGoer := Or.inl (gw_T3 133 rfl rfl)
set_option maxRecDepth 100000 in
theorem c_X7_114 {Qk : Option Value → Hp → Prop} (hM : M.1.cls = RX7) {a : Nat} (hs : shp a = .inl 7) (ha : a < hn h) (hcat : catS st ≤ 8) (hd : decode M.2.1 pc = .ok (.invokevirtual 114, 3)) (hk : Kc mX7_readGoer d (.ref a :: []) h Qk) (kk : ∀ (r1 : Option Value) (h1 : Hp), Qk r1 h1 → V M (d + 1) (pc + 3) la (r1.toList ++ st) h1 Q) : V M (d + 1) pc la (.ref a :: st) h Q := v_callV (N := mX7_readGoer) (n := 0) [] rfl ok_X7_readGoer (hM ▸ lk_X7_114) im_X7_readGoer se_X7_readGoer (by decide +kernel) rfl okC_7.1 hs ha hcat hd hk kk
set_option maxRecDepth 100000 in
theorem lk_X7_117 : lnk RX7 117 yX7_readRope := Or.inl (gw_T3 137 rfl rfl)
set_option maxRecDepth 100000 in
theorem c_X7_117 {Qk : Option Value → Hp → Prop} (hM : M.1.cls = RX7) {a : Nat} (hs : shp a = .inl 7) (ha : a < hn h) (hcat : catS st ≤ 8) (hd : decode M.2.1 pc = .ok (.invokevirtual 117, 3)) (hk : Kc mX7_readRope d (.ref a :: []) h Qk) (kk : ∀ (r1 : Option Value) (h1 : Hp), Qk r1 h1 → V M (d + 1) (pc + 3) la (r1.toList ++ st) h1 Q) : V M (d + 1) pc la (.ref a :: st) h Q := v_callV (N := mX7_readRope) (n := 0) [] rfl ok_X7_readRope (hM ▸ lk_X7_117) im_X7_readRope se_X7_readRope (by decide +kernel) rfl okC_7.1 hs ha hcat hd hk kk
set_option maxRecDepth 100000 in
theorem lk_X7_134 : lnk RX7 134 yX7_readLaw := Or.inl (gw_T3 141 rfl rfl)
set_option maxRecDepth 100000 in
theorem c_X7_134 {Qk : Option Value → Hp → Prop} (hM : M.1.cls = RX7) {x1 : Value} {a : Nat} (hs : shp a = .inl 7) (ha : a < hn h) (hcat : catS st ≤ 8) (hd : decode M.2.1 pc = .ok (.invokevirtual 134, 3)) (hk : Kc mX7_readLaw d (.ref a :: [x1]) h Qk) (kk : ∀ (r1 : Option Value) (h1 : Hp), Qk r1 h1 → V M (d + 1) (pc + 3) la (r1.toList ++ st) h1 Q) : V M (d + 1) pc la (x1 :: .ref a :: st) h Q := v_callV (N := mX7_readLaw) (n := 1) [x1] rfl ok_X7_readLaw (hM ▸ lk_X7_134) im_X7_readLaw se_X7_readLaw (by decide +kernel) rfl okC_7.1 hs ha hcat hd hk kk
set_option maxRecDepth 100000 in
theorem lk_X7_172 : lnk RX7 172 yX4_begin := Or.inl (gw_T3 145 rfl rfl)
set_option maxRecDepth 100000 in
theorem c_X7_172 {Qk : Option Value → Hp → Prop} (hM : M.1.cls = RX7) {x1 : Value} {a : Nat} (hs : shp a = .inl 4) (ha : a < hn h) (hcat : catS st ≤ 8) (hd : decode M.2.1 pc = .ok (.invokevirtual 172, 3)) (hk : Kc mX4_begin d (.ref a :: [x1]) h Qk) (kk : ∀ (r1 : Option Value) (h1 : Hp), Qk r1 h1 → V M (d + 1) (pc + 3) la (r1.toList ++ st) h1 Q) : V M (d + 1) pc la (x1 :: .ref a :: st) h Q := v_callV (N := mX4_begin) (n := 1) [x1] rfl ok_X4_begin (hM ▸ lk_X7_172) im_X4_begin se_X4_begin (by decide +kernel) rfl okC_4.1 hs ha hcat hd hk kk
set_option maxRecDepth 100000 in
theorem lk_X7_177 : lnk RX7 177 yX7_readSum := Or.inl (gw_T3 146 rfl rfl)
set_option maxRecDepth 100000 in
theorem c_X7_177 {Qk : Option Value → Hp → Prop} (hM : M.1.cls = RX7) {x1 : Value} {a : Nat} (hs : shp a = .inl 7) (ha : a < hn h) (hcat : catS st ≤ 8) (hd : decode M.2.1 pc = .ok (.invokevirtual 177, 3)) (hk : Kc mX7_readSum d (.ref a :: [x1]) h Qk) (kk : ∀ (r1 : Option Value) (h1 : Hp), Qk r1 h1 → V M (d + 1) (pc + 3) la (r1.toList ++ st) h1 Q) : V M (d + 1) pc la (x1 :: .ref a :: st) h Q := v_callV (N := mX7_readSum) (n := 1) [x1] rfl ok_X7_readSum (hM ▸ lk_X7_177) im_X7_readSum se_X7_readSum (by decide +kernel) rfl okC_7.1 hs ha hcat hd hk kk
set_option maxRecDepth 100000 in
theorem lk_X7_189 : lnk RX7 189 yX7_readUnit := Or.inl (gw_T3 150 rfl rfl)
set_option maxRecDepth 100000 in
theorem c_X7_189 {Qk : Option Value → Hp → Prop} (hM : M.1.cls = RX7) {x1 : Value} {a : Nat} (hs : shp a = .inl 7) (ha : a < hn h) (hcat : catS st ≤ 8) (hd : decode M.2.1 pc = .ok (.invokevirtual 189, 3)) (hk : Kc mX7_readUnit d (.ref a :: [x1]) h Qk) (kk : ∀ (r1 : Option Value) (h1 : Hp), Qk r1 h1 → V M (d + 1) (pc + 3) la (r1.toList ++ st) h1 Q) : V M (d + 1) pc la (x1 :: .ref a :: st) h Q := v_callV (N := mX7_readUnit) (n := 1) [x1] rfl ok_X7_readUnit (hM ▸ lk_X7_189) im_X7_readUnit se_X7_readUnit (by decide +kernel) rfl okC_7.1 hs ha hcat hd hk kk
set_option maxRecDepth 100000 in
theorem lk_X7_183 : lnk RX7 183 yX4_add := Or.inl (gw_T3 154 rfl rfl)
set_option maxRecDepth 100000 in
theorem c_X7_183 {Qk : Option Value → Hp → Prop} (hM : M.1.cls = RX7) {x1 : Value} {a : Nat} (hs : shp a = .inl 4) (ha : a < hn h) (hcat : catS st ≤ 8) (hd : decode M.2.1 pc = .ok (.invokevirtual 183, 3)) (hk : Kc mX4_add d (.ref a :: [x1]) h Qk) (kk : ∀ (r1 : Option Value) (h1 : Hp), Qk r1 h1 → V M (d + 1) (pc + 3) la (r1.toList ++ st) h1 Q) : V M (d + 1) pc la (x1 :: .ref a :: st) h Q := v_callV (N := mX4_add) (n := 1) [x1] rfl ok_X4_add (hM ▸ lk_X7_183) im_X4_add se_X4_add (by decide +kernel) rfl okC_4.1 hs ha hcat hd hk kk
set_option maxRecDepth 100000 in
theorem lk_X7_180 : lnk RX7 180 yX4_addLess := Or.inl (gw_T3 155 rfl rfl)
set_option maxRecDepth 100000 in
theorem c_X7_180 {Qk : Option Value → Hp → Prop} (hM : M.1.cls = RX7) {a : Nat} (hs : shp a = .inl 4) (ha : a < hn h) (hcat : catS st ≤ 8) (hd : decode M.2.1 pc = .ok (.invokevirtual 180, 3)) (hk : Kc mX4_addLess d (.ref a :: []) h Qk) (kk : ∀ (r1 : Option Value) (h1 : Hp), Qk r1 h1 → V M (d + 1) (pc + 3) la (r1.toList ++ st) h1 Q) : V M (d + 1) pc la (.ref a :: st) h Q := v_callV (N := mX4_addLess) (n := 0) [] rfl ok_X4_addLess (hM ▸ lk_X7_180) im_X4_addLess se_X4_addLess (by decide +kernel) rfl okC_4.1 hs ha hcat hd hk kk
set_option maxRecDepth 100000 in
theorem lk_X7_186 : lnk RX7 186 yX4_elseHere := Or.inl (gw_T3 159 rfl rfl)
set_option maxRecDepth 100000 in
theorem c_X7_186 {Qk : Option Value → Hp → Prop} (hM : M.1.cls = RX7) {x1 : Value} {a : Nat} (hs : shp a = .inl 4) (ha : a < hn h) (hcat : catS st ≤ 8) (hd : decode M.2.1 pc = .ok (.invokevirtual 186, 3)) (hk : Kc mX4_elseHere d (.ref a :: [x1]) h Qk) (kk : ∀ (r1 : Option Value) (h1 : Hp), Qk r1 h1 → V M (d + 1) (pc + 3) la (r1.toList ++ st) h1 Q) : V M (d + 1) pc la (x1 :: .ref a :: st) h Q := v_callV (N := mX4_elseHere) (n := 1) [x1] rfl ok_X4_elseHere (hM ▸ lk_X7_186) im_X4_elseHere se_X4_elseHere (by decide +kernel) rfl okC_4.1 hs ha hcat hd hk kk
set_option maxRecDepth 100000 in
theorem lk_X7_91 : lnk RX7 91 yX7_layOut := Or.inl (gw_T3 163 rfl rfl)
set_option maxRecDepth 100000 in
theorem c_X7_91 {Qk : Option Value → Hp → Prop} (hM : M.1.cls = RX7) {x1 : Value} {a : Nat} (hs : shp a = .inl 7) (ha : a < hn h) (hcat : catS st ≤ 8) (hd : decode M.2.1 pc = .ok (.invokevirtual 91, 3)) (hk : Kc mX7_layOut d (.ref a :: [x1]) h Qk) (kk : ∀ (r1 : Option Value) (h1 : Hp), Qk r1 h1 → V M (d + 1) (pc + 3) la (r1.toList ++ st) h1 Q) : V M (d + 1) pc la (x1 :: .ref a :: st) h Q := v_callV (N := mX7_layOut) (n := 1) [x1] rfl ok_X7_layOut (hM ▸ lk_X7_91) im_X7_layOut se_X7_layOut (by decide +kernel) rfl okC_7.1 hs ha hcat hd hk kk
set_option maxRecDepth 100000 in
theorem lk_X7_192 : lnk RX7 192 yX7_onLawn := Or.inl (gw_T3 167 rfl rfl)
set_option maxRecDepth 100000 in
theorem c_X7_192 {Qk : Option Value → Hp → Prop} (hM : M.1.cls = RX7) {x1 : Value} {a : Nat} (hs : shp a = .inl 7) (ha : a < hn h) (hcat : catS st ≤ 8) (hd : decode M.2.1 pc = .ok (.invokevirtual 192, 3)) (hk : Kc mX7_onLawn d (.ref a :: [x1]) h Qk) (kk : ∀ (r1 : Option Value) (h1 : Hp), Qk r1 h1 → V M (d + 1) (pc + 3) la (r1.toList ++ st) h1 Q) : V M (d + 1) pc la (x1 :: .ref a :: st) h Q := v_callV (N := mX7_onLawn) (n := 1) [x1] rfl ok_X7_onLawn (hM ▸ lk_X7_192) im_X7_onLawn se_X7_onLawn (by decide +kernel) rfl okC_7.1 hs ha hcat hd hk kk
set_option maxRecDepth 100000 in
theorem lk_X7_198 : lnk RX7 198 yX7_cellOf := Or.inl (gw_T3 171 rfl rfl)
set_option maxRecDepth 100000 in
theorem c_X7_198 {Qk : Option Value → Hp → Prop} (hM : M.1.cls = RX7) {x1 : Value} {a : Nat} (hs : shp a = .inl 7) (ha : a < hn h) (hcat : catS st ≤ 8) (hd : decode M.2.1 pc = .ok (.invokevirtual 198, 3)) (hk : Kc mX7_cellOf d (.ref a :: [x1]) h Qk) (kk : ∀ (r1 : Option Value) (h1 : Hp), Qk r1 h1 → V M (d + 1) (pc + 3) la (r1.toList ++ st) h1 Q) : V M (d + 1) pc la (x1 :: .ref a :: st) h Q := v_callV (N := mX7_cellOf) (n := 1) [x1] rfl ok_X7_cellOf (hM ▸ lk_X7_198) im_X7_cellOf se_X7_cellOf (by decide +kernel) rfl okC_7.1 hs ha hcat hd hk kk
set_option maxRecDepth 100000 in
theorem lk_X7_201 : lnk RX7 201 yX8_soundIn := Or.inl (gw_T3 175 rfl rfl)
set_option maxRecDepth 100000 in
theorem c_X7_201 {Qk : Option Value → Hp → Prop} (hM : M.1.cls = RX7) {x1 x2 x3 : Value} {a : Nat} (hs : shp a = .inl 8) (ha : a < hn h) (hcat : catS st ≤ 8) (hd : decode M.2.1 pc = .ok (.invokevirtual 201, 3)) (hk : Kc mX8_soundIn d (.ref a :: [x1, x2, x3]) h Qk) (kk : ∀ (r1 : Option Value) (h1 : Hp), Qk r1 h1 → V M (d + 1) (pc + 3) la (r1.toList ++ st) h1 Q) : V M (d + 1) pc la (x3 :: x2 :: x1 :: .ref a :: st) h Q := v_callV (N := mX8_soundIn) (n := 3) [x1, x2, x3] rfl ok_X8_soundIn (hM ▸ lk_X7_201) im_X8_soundIn se_X8_soundIn (by decide +kernel) rfl okC_8.1 hs ha hcat hd hk kk
set_option maxRecDepth 100000 in
theorem lk_X11_112 : lnk RX11 112 yX0_become := Or.inl (gw_T3 179 rfl rfl)
set_option maxRecDepth 100000 in
theorem c_X11_112 {Qk : Option Value → Hp → Prop} (hM : M.1.cls = RX11) {x1 : Value} {a : Nat} (hs : shp a = .inl 0) (ha : a < hn h) (hcat : catS st ≤ 8) (hd : decode M.2.1 pc = .ok (.invokevirtual 112, 3)) (hk : Kc mX0_become d (.ref a :: [x1]) h Qk) (kk : ∀ (r1 : Option Value) (h1 : Hp), Qk r1 h1 → V M (d + 1) (pc + 3) la (r1.toList ++ st) h1 Q) : V M (d + 1) pc la (x1 :: .ref a :: st) h Q := v_callV (N := mX0_become) (n := 1) [x1] rfl ok_X0_become (hM ▸ lk_X11_112) im_X0_become se_X0_become (by decide +kernel) rfl okC_0.1 hs ha hcat hd hk kk
set_option maxRecDepth 100000 in
theorem lk_X0_46 : lnk RX0 46 yX3_become := Or.inl (gw_T3 183 rfl rfl)
set_option maxRecDepth 100000 in
theorem c_X0_46 {Qk : Option Value → Hp → Prop} (hM : M.1.cls = RX0) {x1 : Value} {a : Nat} (hs : shp a = .inl 3) (ha : a < hn h) (hcat : catS st ≤ 8) (hd : decode M.2.1 pc = .ok (.invokevirtual 46, 3)) (hk : Kc mX3_become d (.ref a :: [x1]) h Qk) (kk : ∀ (r1 : Option Value) (h1 : Hp), Qk r1 h1 → V M (d + 1) (pc + 3) la (r1.toList ++ st) h1 Q) : V M (d + 1) pc la (x1 :: .ref a :: st) h Q := v_callV (N := mX3_become) (n := 1) [x1] rfl ok_X3_become (hM ▸ lk_X0_46) im_X3_become se_X3_become (by decide +kernel) rfl okC_3.1 hs ha hcat hd hk kk
set_option maxRecDepth 100000 in
theorem lk_X0_50 : lnk RX0 50 yX4_become := Or.inl (gw_T3 187 rfl rfl)
set_option maxRecDepth 100000 in
theorem c_X0_50 {Qk : Option Value → Hp → Prop} (hM : M.1.cls = RX0) {x1 : Value} {a : Nat} (hs : shp a = .inl 4) (ha : a < hn h) (hcat : catS st ≤ 8) (hd : decode M.2.1 pc = .ok (.invokevirtual 50, 3)) (hk : Kc mX4_become d (.ref a :: [x1]) h Qk) (kk : ∀ (r1 : Option Value) (h1 : Hp), Qk r1 h1 → V M (d + 1) (pc + 3) la (r1.toList ++ st) h1 Q) : V M (d + 1) pc la (x1 :: .ref a :: st) h Q := v_callV (N := mX4_become) (n := 1) [x1] rfl ok_X4_become (hM ▸ lk_X0_50) im_X4_become se_X4_become (by decide +kernel) rfl okC_4.1 hs ha hcat hd hk kk
set_option maxRecDepth 100000 in
theorem lk_X11_119 : lnk RX11 119 yX8_become := Or.inl (gw_T3 194 rfl rfl)
set_option maxRecDepth 100000 in
theorem c_X11_119 {Qk : Option Value → Hp → Prop} (hM : M.1.cls = RX11) {x1 : Value} {a : Nat} (hs : shp a = .inl 8) (ha : a < hn h) (hcat : catS st ≤ 8) (hd : decode M.2.1 pc = .ok (.invokevirtual 119, 3)) (hk : Kc mX8_become d (.ref a :: [x1]) h Qk) (kk : ∀ (r1 : Option Value) (h1 : Hp), Qk r1 h1 → V M (d + 1) (pc + 3) la (r1.toList ++ st) h1 Q) : V M (d + 1) pc la (x1 :: .ref a :: st) h Q := v_callV (N := mX8_become) (n := 1) [x1] rfl ok_X8_become (hM ▸ lk_X11_119) im_X8_become se_X8_become (by decide +kernel) rfl okC_8.1 hs ha hcat hd hk kk
set_option maxRecDepth 100000 in
theorem lk_X11_122 : lnk RX11 122 yX6_clear := Or.inl (gw_T3 199 rfl rfl)
set_option maxRecDepth 100000 in
theorem c_X11_122 {Qk : Option Value → Hp → Prop} (hM : M.1.cls = RX11) {a : Nat} (hs : shp a = .inl 6) (ha : a < hn h) (hcat : catS st ≤ 8) (hd : decode M.2.1 pc = .ok (.invokevirtual 122, 3)) (hk : Kc mX6_clear d (.ref a :: []) h Qk) (kk : ∀ (r1 : Option Value) (h1 : Hp), Qk r1 h1 → V M (d + 1) (pc + 3) la (r1.toList ++ st) h1 Q) : V M (d + 1) pc la (.ref a :: st) h Q := v_callV (N := mX6_clear) (n := 0) [] rfl ok_X6_clear (hM ▸ lk_X11_122) im_X6_clear se_X6_clear (by decide +kernel) rfl okC_6.1 hs ha hcat hd hk kk
set_option maxRecDepth 100000 in
theorem lk_X11_123 : lnk RX11 123 yX2_clear := Or.inl (gw_T3 203 rfl rfl)
set_option maxRecDepth 100000 in
theorem c_X11_123 {Qk : Option Value → Hp → Prop} (hM : M.1.cls = RX11) {a : Nat} (hs : shp a = .inl 2) (ha : a < hn h) (hcat : catS st ≤ 8) (hd : decode M.2.1 pc = .ok (.invokevirtual 123, 3)) (hk : Kc mX2_clear d (.ref a :: []) h Qk) (kk : ∀ (r1 : Option Value) (h1 : Hp), Qk r1 h1 → V M (d + 1) (pc + 3) la (r1.toList ++ st) h1 Q) : V M (d + 1) pc la (.ref a :: st) h Q := v_callV (N := mX2_clear) (n := 0) [] rfl ok_X2_clear (hM ▸ lk_X11_123) im_X2_clear se_X2_clear (by decide +kernel) rfl okC_2.1 hs ha hcat hd hk kk
set_option maxRecDepth 100000 in
theorem lk_L_28 : lnk RL 28 yX11_place := Or.inl (gw_T3 207 rfl rfl)
set_option maxRecDepth 100000 in
theorem c_L_28 {Qk : Option Value → Hp → Prop} (hM : M.1.cls = RL) {a : Nat} (hs : shp a = .inl 11) (ha : a < hn h) (hcat : catS st ≤ 8) (hd : decode M.2.1 pc = .ok (.invokevirtual 28, 3)) (hk : Kc mX11_place d (.ref a :: []) h Qk) (kk : ∀ (r1 : Option Value) (h1 : Hp), Qk r1 h1 → V M (d + 1) (pc + 3) la (r1.toList ++ st) h1 Q) : V M (d + 1) pc la (.ref a :: st) h Q := v_callV (N := mX11_place) (n := 0) [] rfl ok_X11_place (hM ▸ lk_L_28) im_X11_place se_X11_place (by decide +kernel) rfl okC_11.1 hs ha hcat hd hk kk
set_option maxRecDepth 100000 in
theorem lk_L_32 : lnk RL 32 yX11_cell := Or.inl (gw_T3 211 rfl rfl)
set_option maxRecDepth 100000 in
theorem c_L_32 {Qk : Option Value → Hp → Prop} (hM : M.1.cls = RL) {x1 x2 : Value} {a : Nat} (hs : shp a = .inl 11) (ha : a < hn h) (hcat : catS st ≤ 8) (hd : decode M.2.1 pc = .ok (.invokevirtual 32, 3)) (hk : Kc mX11_cell d (.ref a :: [x1, x2]) h Qk) (kk : ∀ (r1 : Option Value) (h1 : Hp), Qk r1 h1 → V M (d + 1) (pc + 3) la (r1.toList ++ st) h1 Q) : V M (d + 1) pc la (x2 :: x1 :: .ref a :: st) h Q := v_callV (N := mX11_cell) (n := 2) [x1, x2] rfl ok_X11_cell (hM ▸ lk_L_32) im_X11_cell se_X11_cell (by decide +kernel) rfl okC_11.1 hs ha hcat hd hk kk
set_option maxRecDepth 100000 in
theorem lk_X11_124 : lnk RX11 124 yX3_has := Or.inl (gw_T3 215 rfl rfl)
set_option maxRecDepth 100000 in
theorem c_X11_124 {Qk : Option Value → Hp → Prop} (hM : M.1.cls = RX11) {x1 : Value} {a : Nat} (hs : shp a = .inl 3) (ha : a < hn h) (hcat : catS st ≤ 8) (hd : decode M.2.1 pc = .ok (.invokevirtual 124, 3)) (hk : Kc mX3_has d (.ref a :: [x1]) h Qk) (kk : ∀ (r1 : Option Value) (h1 : Hp), Qk r1 h1 → V M (d + 1) (pc + 3) la (r1.toList ++ st) h1 Q) : V M (d + 1) pc la (x1 :: .ref a :: st) h Q := v_callV (N := mX3_has) (n := 1) [x1] rfl ok_X3_has (hM ▸ lk_X11_124) im_X3_has se_X3_has (by decide +kernel) rfl okC_3.1 hs ha hcat hd hk kk
set_option maxRecDepth 100000 in
theorem lk_X11_130 : lnk RX11 130 yX8_isTuned := Or.inl (gw_T3 219 rfl rfl)
set_option maxRecDepth 100000 in
theorem c_X11_130 {Qk : Option Value → Hp → Prop} (hM : M.1.cls = RX11) {x1 : Value} {a : Nat} (hs : shp a = .inl 8) (ha : a < hn h) (hcat : catS st ≤ 8) (hd : decode M.2.1 pc = .ok (.invokevirtual 130, 3)) (hk : Kc mX8_isTuned d (.ref a :: [x1]) h Qk) (kk : ∀ (r1 : Option Value) (h1 : Hp), Qk r1 h1 → V M (d + 1) (pc + 3) la (r1.toList ++ st) h1 Q) : V M (d + 1) pc la (x1 :: .ref a :: st) h Q := v_callV (N := mX8_isTuned) (n := 1) [x1] rfl ok_X8_isTuned (hM ▸ lk_X11_130) im_X8_isTuned se_X8_isTuned (by decide +kernel) rfl okC_8.1 hs ha hcat hd hk kk
set_option maxRecDepth 100000 in
theorem lk_X11_133 : lnk RX11 133 yX8_beatOf := Or.inl (gw_T3 223 rfl rfl)
set_option maxRecDepth 100000 in
theorem c_X11_133 {Qk : Option Value → Hp → Prop} (hM : M.1.cls = RX11) {x1 : Value} {a : Nat} (hs : shp a = .inl 8) (ha : a < hn h) (hcat : catS st ≤ 8) (hd : decode M.2.1 pc = .ok (.invokevirtual 133, 3)) (hk : Kc mX8_beatOf d (.ref a :: [x1]) h Qk) (kk : ∀ (r1 : Option Value) (h1 : Hp), Qk r1 h1 → V M (d + 1) (pc + 3) la (r1.toList ++ st) h1 Q) : V M (d + 1) pc la (x1 :: .ref a :: st) h Q := v_callV (N := mX8_beatOf) (n := 1) [x1] rfl ok_X8_beatOf (hM ▸ lk_X11_133) im_X8_beatOf se_X8_beatOf (by decide +kernel) rfl okC_8.1 hs ha hcat hd hk kk
set_option maxRecDepth 100000 in
theorem lk_X8_47 : lnk RX8 47 yX8_isTuned := Or.inl (gw_T3 227 rfl rfl)
set_option maxRecDepth 100000 in
theorem c_X8_47 {Qk : Option Value → Hp → Prop} (hM : M.1.cls = RX8) {x1 : Value} {a : Nat} (hs : shp a = .inl 8) (ha : a < hn h) (hcat : catS st ≤ 8) (hd : decode M.2.1 pc = .ok (.invokevirtual 47, 3)) (hk : Kc mX8_isTuned d (.ref a :: [x1]) h Qk) (kk : ∀ (r1 : Option Value) (h1 : Hp), Qk r1 h1 → V M (d + 1) (pc + 3) la (r1.toList ++ st) h1 Q) : V M (d + 1) pc la (x1 :: .ref a :: st) h Q := v_callV (N := mX8_isTuned) (n := 1) [x1] rfl ok_X8_isTuned (hM ▸ lk_X8_47) im_X8_isTuned se_X8_isTuned (by decide +kernel) rfl okC_8.1 hs ha hcat hd hk kk
set_option maxRecDepth 100000 in
theorem lk_X11_136 : lnk RX11 136 yX8_offsetOf := Or.inl (gw_T3 228 rfl rfl)
set_option maxRecDepth 100000 in
theorem c_X11_136 {Qk : Option Value → Hp → Prop} (hM : M.1.cls = RX11) {x1 : Value} {a : Nat} (hs : shp a = .inl 8) (ha : a < hn h) (hcat : catS st ≤ 8) (hd : decode M.2.1 pc = .ok (.invokevirtual 136, 3)) (hk : Kc mX8_offsetOf d (.ref a :: [x1]) h Qk) (kk : ∀ (r1 : Option Value) (h1 : Hp), Qk r1 h1 → V M (d + 1) (pc + 3) la (r1.toList ++ st) h1 Q) : V M (d + 1) pc la (x1 :: .ref a :: st) h Q := v_callV (N := mX8_offsetOf) (n := 1) [x1] rfl ok_X8_offsetOf (hM ▸ lk_X11_136) im_X8_offsetOf se_X8_offsetOf (by decide +kernel) rfl okC_8.1 hs ha hcat hd hk kk
set_option maxRecDepth 100000 in
theorem lk_X11_142 : lnk RX11 142 yX8_soundsAt := Or.inl (gw_T3 232 rfl rfl)
set_option maxRecDepth 100000 in
theorem c_X11_142 {Qk : Option Value → Hp → Prop} (hM : M.1.cls = RX11) {x1 x2 : Value} {a : Nat} (hs : shp a = .inl 8) (ha : a < hn h) (hcat : catS st ≤ 8) (hd : decode M.2.1 pc = .ok (.invokevirtual 142, 3)) (hk : Kc mX8_soundsAt d (.ref a :: [x1, x2]) h Qk) (kk : ∀ (r1 : Option Value) (h1 : Hp), Qk r1 h1 → V M (d + 1) (pc + 3) la (r1.toList ++ st) h1 Q) : V M (d + 1) pc la (x2 :: x1 :: .ref a :: st) h Q := v_callV (N := mX8_soundsAt) (n := 2) [x1, x2] rfl ok_X8_soundsAt (hM ▸ lk_X11_142) im_X8_soundsAt se_X8_soundsAt (by decide +kernel) rfl okC_8.1 hs ha hcat hd hk kk
set_option maxRecDepth 100000 in
theorem lk_X8_51 : lnk RX8 51 yX8_beatOf := Or.inl (gw_T3 236 rfl rfl)
set_option maxRecDepth 100000 in
theorem c_X8_51 {Qk : Option Value → Hp → Prop} (hM : M.1.cls = RX8) {x1 : Value} {a : Nat} (hs : shp a = .inl 8) (ha : a < hn h) (hcat : catS st ≤ 8) (hd : decode M.2.1 pc = .ok (.invokevirtual 51, 3)) (hk : Kc mX8_beatOf d (.ref a :: [x1]) h Qk) (kk : ∀ (r1 : Option Value) (h1 : Hp), Qk r1 h1 → V M (d + 1) (pc + 3) la (r1.toList ++ st) h1 Q) : V M (d + 1) pc la (x1 :: .ref a :: st) h Q := v_callV (N := mX8_beatOf) (n := 1) [x1] rfl ok_X8_beatOf (hM ▸ lk_X8_51) im_X8_beatOf se_X8_beatOf (by decide +kernel) rfl okC_8.1 hs ha hcat hd hk kk
set_option maxRecDepth 100000 in
theorem lk_X8_55 : lnk RX8 55 yX8_offsetOf := Or.inl (gw_T3 237 rfl rfl)
set_option maxRecDepth 100000 in
theorem c_X8_55 {Qk : Option Value → Hp → Prop} (hM : M.1.cls = RX8) {x1 : Value} {a : Nat} (hs : shp a = .inl 8) (ha : a < hn h) (hcat : catS st ≤ 8) (hd : decode M.2.1 pc = .ok (.invokevirtual 55, 3)) (hk : Kc mX8_offsetOf d (.ref a :: [x1]) h Qk) (kk : ∀ (r1 : Option Value) (h1 : Hp), Qk r1 h1 → V M (d + 1) (pc + 3) la (r1.toList ++ st) h1 Q) : V M (d + 1) pc la (x1 :: .ref a :: st) h Q := v_callV (N := mX8_offsetOf) (n := 1) [x1] rfl ok_X8_offsetOf (hM ▸ lk_X8_55) im_X8_offsetOf se_X8_offsetOf (by decide +kernel) rfl okC_8.1 hs ha hcat hd hk kk
set_option maxRecDepth 100000 in
theorem lk_X11_146 : lnk RX11 146 yX8_isRoped := Or.inl (gw_T3 238 rfl rfl)
set_option maxRecDepth 100000 in
theorem c_X11_146 {Qk : Option Value → Hp → Prop} (hM : M.1.cls = RX11) {x1 : Value} {a : Nat} (hs : shp a = .inl 8) (ha : a < hn h) (hcat : catS st ≤ 8) (hd : decode M.2.1 pc = .ok (.invokevirtual 146, 3)) (hk : Kc mX8_isRoped d (.ref a :: [x1]) h Qk) (kk : ∀ (r1 : Option Value) (h1 : Hp), Qk r1 h1 → V M (d + 1) (pc + 3) la (r1.toList ++ st) h1 Q) : V M (d + 1) pc la (x1 :: .ref a :: st) h Q := v_callV (N := mX8_isRoped) (n := 1) [x1] rfl ok_X8_isRoped (hM ▸ lk_X11_146) im_X8_isRoped se_X8_isRoped (by decide +kernel) rfl okC_8.1 hs ha hcat hd hk kk
set_option maxRecDepth 100000 in
theorem lk_X11_152 : lnk RX11 152 yX8_goersIn := Or.inl (gw_T4 2 rfl rfl)
set_option maxRecDepth 100000 in
theorem c_X11_152 {Qk : Option Value → Hp → Prop} (hM : M.1.cls = RX11) {x1 x2 : Value} {a : Nat} (hs : shp a = .inl 8) (ha : a < hn h) (hcat : catS st ≤ 8) (hd : decode M.2.1 pc = .ok (.invokevirtual 152, 3)) (hk : Kc mX8_goersIn d (.ref a :: [x1, x2]) h Qk) (kk : ∀ (r1 : Option Value) (h1 : Hp), Qk r1 h1 → V M (d + 1) (pc + 3) la (r1.toList ++ st) h1 Q) : V M (d + 1) pc la (x2 :: x1 :: .ref a :: st) h Q := v_callV (N := mX8_goersIn) (n := 2) [x1, x2] rfl ok_X8_goersIn (hM ▸ lk_X11_152) im_X8_goersIn se_X8_goersIn (by decide +kernel) rfl okC_8.1 hs ha hcat hd hk kk
set_option maxRecDepth 100000 in
theorem lk_X11_156 : lnk RX11 156 yX0_costOf := Or.inl (gw_T4 6 rfl rfl)
set_option maxRecDepth 100000 in
theorem c_X11_156 {Qk : Option Value → Hp → Prop} (hM : M.1.cls = RX11) {x1 x2 : Value} {a : Nat} (hs : shp a = .inl 0) (ha : a < hn h) (hcat : catS st ≤ 8) (hd : decode M.2.1 pc = .ok (.invokevirtual 156, 3)) (hk : Kc mX0_costOf d (.ref a :: [x1, x2]) h Qk) (kk : ∀ (r1 : Option Value) (h1 : Hp), Qk r1 h1 → V M (d + 1) (pc + 3) la (r1.toList ++ st) h1 Q) : V M (d + 1) pc la (x2 :: x1 :: .ref a :: st) h Q := v_callV (N := mX0_costOf) (n := 2) [x1, x2] rfl ok_X0_costOf (hM ▸ lk_X11_156) im_X0_costOf se_X0_costOf (by decide +kernel) rfl okC_0.1 hs ha hcat hd hk kk
set_option maxRecDepth 100000 in
theorem lk_X0_86 : lnk RX0 86 yX0_ask := Or.inl (gw_T4 10 rfl rfl)
set_option maxRecDepth 100000 in
theorem c_X0_86 {Qk : Option Value → Hp → Prop} (hM : M.1.cls = RX0) {x1 x2 x3 x4 x5 : Value} {a : Nat} (hs : shp a = .inl 0) (ha : a < hn h) (hcat : catS st ≤ 8) (hd : decode M.2.1 pc = .ok (.invokevirtual 86, 3)) (hk : Kc mX0_ask d (.ref a :: [x1, x2, x3, x4, x5]) h Qk) (kk : ∀ (r1 : Option Value) (h1 : Hp), Qk r1 h1 → V M (d + 1) (pc + 3) la (r1.toList ++ st) h1 Q) : V M (d + 1) pc la (x5 :: x4 :: x3 :: x2 :: x1 :: .ref a :: st) h Q := v_callV (N := mX0_ask) (n := 5) [x1, x2, x3, x4, x5] rfl ok_X0_ask (hM ▸ lk_X0_86) im_X0_ask se_X0_ask (by decide +kernel) rfl okC_0.1 hs ha hcat hd hk kk
set_option maxRecDepth 100000 in
theorem lk_X0_53 : lnk RX0 53 yX3_leftOf := Or.inl (gw_T4 14 rfl rfl)
set_option maxRecDepth 100000 in
theorem c_X0_53 {Qk : Option Value → Hp → Prop} (hM : M.1.cls = RX0) {x1 : Value} {a : Nat} (hs : shp a = .inl 3) (ha : a < hn h) (hcat : catS st ≤ 8) (hd : decode M.2.1 pc = .ok (.invokevirtual 53, 3)) (hk : Kc mX3_leftOf d (.ref a :: [x1]) h Qk) (kk : ∀ (r1 : Option Value) (h1 : Hp), Qk r1 h1 → V M (d + 1) (pc + 3) la (r1.toList ++ st) h1 Q) : V M (d + 1) pc la (x1 :: .ref a :: st) h Q := v_callV (N := mX3_leftOf) (n := 1) [x1] rfl ok_X3_leftOf (hM ▸ lk_X0_53) im_X3_leftOf se_X3_leftOf (by decide +kernel) rfl okC_3.1 hs ha hcat hd hk kk
set_option maxRecDepth 100000 in
theorem lk_X0_57 : lnk RX0 57 yX3_topOf := Or.inl (gw_T4 18 rfl rfl)
set_option maxRecDepth 100000 in
theorem c_X0_57 {Qk : Option Value → Hp → Prop} (hM : M.1.cls = RX0) {x1 : Value} {a : Nat} (hs : shp a = .inl 3) (ha : a < hn h) (hcat : catS st ≤ 8) (hd : decode M.2.1 pc = .ok (.invokevirtual 57, 3)) (hk : Kc mX3_topOf d (.ref a :: [x1]) h Qk) (kk : ∀ (r1 : Option Value) (h1 : Hp), Qk r1 h1 → V M (d + 1) (pc + 3) la (r1.toList ++ st) h1 Q) : V M (d + 1) pc la (x1 :: .ref a :: st) h Q := v_callV (N := mX3_topOf) (n := 1) [x1] rfl ok_X3_topOf (hM ▸ lk_X0_57) im_X3_topOf se_X3_topOf (by decide +kernel) rfl okC_3.1 hs ha hcat hd hk kk
set_option maxRecDepth 100000 in
theorem lk_X0_65 : lnk RX0 65 yX8_beatOf := Or.inl (gw_T4 22 rfl rfl)
set_option maxRecDepth 100000 in
theorem c_X0_65 {Qk : Option Value → Hp → Prop} (hM : M.1.cls = RX0) {x1 : Value} {a : Nat} (hs : shp a = .inl 8) (ha : a < hn h) (hcat : catS st ≤ 8) (hd : decode M.2.1 pc = .ok (.invokevirtual 65, 3)) (hk : Kc mX8_beatOf d (.ref a :: [x1]) h Qk) (kk : ∀ (r1 : Option Value) (h1 : Hp), Qk r1 h1 → V M (d + 1) (pc + 3) la (r1.toList ++ st) h1 Q) : V M (d + 1) pc la (x1 :: .ref a :: st) h Q := v_callV (N := mX8_beatOf) (n := 1) [x1] rfl ok_X8_beatOf (hM ▸ lk_X0_65) im_X8_beatOf se_X8_beatOf (by decide +kernel) rfl okC_8.1 hs ha hcat hd hk kk
set_option maxRecDepth 100000 in
theorem lk_X0_77 : lnk RX0 77 yJ6_bitCount_0f7a4 := Or.inl (gw_T4 23 rfl rfl)
set_option maxRecDepth 100000 in
theorem c_X0_77 {Qk : Option Value → Hp → Prop} (hM : M.1.cls = RX0) {x1 : Value} (hcat : catS st ≤ 8) (hd : decode M.2.1 pc = .ok (.invokestatic 77, 3)) (hk : Kc mJ6_bitCount_0f7a4 d [x1] h Qk) (kk : ∀ (r1 : Option Value) (h1 : Hp), Qk r1 h1 → V M (d + 1) (pc + 3) la (r1.toList ++ st) h1 Q) : V M (d + 1) pc la (x1 :: st) h Q := v_callS (N := mJ6_bitCount_0f7a4) (n := 1) [x1] rfl ok_J6_bitCount_0f7a4 (hM ▸ lk_X0_77) sm_J6_bitCount_0f7a4 (by decide +kernel) rfl hcat hd hk kk
set_option maxRecDepth 100000 in
theorem lk_X0_82 : lnk RX0 82 yX4_value := Or.inl (gw_T4 29 rfl rfl)
set_option maxRecDepth 100000 in
theorem c_X0_82 {Qk : Option Value → Hp → Prop} (hM : M.1.cls = RX0) {x1 x2 : Value} {a : Nat} (hs : shp a = .inl 4) (ha : a < hn h) (hcat : catS st ≤ 8) (hd : decode M.2.1 pc = .ok (.invokevirtual 82, 3)) (hk : Kc mX4_value d (.ref a :: [x1, x2]) h Qk) (kk : ∀ (r1 : Option Value) (h1 : Hp), Qk r1 h1 → V M (d + 1) (pc + 3) la (r1.toList ++ st) h1 Q) : V M (d + 1) pc la (x2 :: x1 :: .ref a :: st) h Q := v_callV (N := mX4_value) (n := 2) [x1, x2] rfl ok_X4_value (hM ▸ lk_X0_82) im_X4_value se_X4_value (by decide +kernel) rfl okC_4.1 hs ha hcat hd hk kk
set_option maxRecDepth 100000 in
theorem lk_X4_38 : lnk RX4 38 yX4_elseOf := Or.inl (gw_T4 33 rfl rfl)
set_option maxRecDepth 100000 in
theorem c_X4_38 {Qk : Option Value → Hp → Prop} (hM : M.1.cls = RX4) {x1 : Value} {a : Nat} (hs : shp a = .inl 4) (ha : a < hn h) (hcat : catS st ≤ 8) (hd : decode M.2.1 pc = .ok (.invokevirtual 38, 3)) (hk : Kc mX4_elseOf d (.ref a :: [x1]) h Qk) (kk : ∀ (r1 : Option Value) (h1 : Hp), Qk r1 h1 → V M (d + 1) (pc + 3) la (r1.toList ++ st) h1 Q) : V M (d + 1) pc la (x1 :: .ref a :: st) h Q := v_callV (N := mX4_elseOf) (n := 1) [x1] rfl ok_X4_elseOf (hM ▸ lk_X4_38) im_X4_elseOf se_X4_elseOf (by decide +kernel) rfl okC_4.1 hs ha hcat hd hk kk
set_option maxRecDepth 100000 in
theorem lk_X4_42 : lnk RX4 42 yX4_reckon := Or.inl (gw_T4 37 rfl rfl)
set_option maxRecDepth 100000 in
theorem c_X4_42 {Qk : Option Value → Hp → Prop} (hM : M.1.cls = RX4) {x1 x2 x3 : Value} (hcat : catS st ≤ 8) (hd : decode M.2.1 pc = .ok (.invokestatic 42, 3)) (hk : Kc mX4_reckon d [x1, x2, x3] h Qk) (kk : ∀ (r1 : Option Value) (h1 : Hp), Qk r1 h1 → V M (d + 1) (pc + 3) la (r1.toList ++ st) h1 Q) : V M (d + 1) pc la (x3 :: x2 :: x1 :: st) h Q := v_callS (N := mX4_reckon) (n := 3) [x1, x2, x3] rfl ok_X4_reckon (hM ▸ lk_X4_42) sm_X4_reckon (by decide +kernel) rfl hcat hd hk kk
set_option maxRecDepth 100000 in
theorem ml_X0_90 : Cond.methodLink RX0 90 yJ9_min_7cf53 ∈ gw := gw_T4 40 rfl rfl
set_option maxRecDepth 100000 in
theorem ml_X0_96 : Cond.methodLink RX0 96 yJ9_max_7cf53 ∈ gw := gw_T4 41 rfl rfl
set_option maxRecDepth 100000 in
theorem lk_L_37 : lnk RL 37 yX11_goer := Or.inl (gw_T4 42 rfl rfl)
set_option maxRecDepth 100000 in
theorem c_L_37 {Qk : Option Value → Hp → Prop} (hM : M.1.cls = RL) {x1 x2 : Value} {a : Nat} (hs : shp a = .inl 11) (ha : a < hn h) (hcat : catS st ≤ 8) (hd : decode M.2.1 pc = .ok (.invokevirtual 37, 3)) (hk : Kc mX11_goer d (.ref a :: [x1, x2]) h Qk) (kk : ∀ (r1 : Option Value) (h1 : Hp), Qk r1 h1 → V M (d + 1) (pc + 3) la (r1.toList ++ st) h1 Q) : V M (d + 1) pc la (x2 :: x1 :: .ref a :: st) h Q := v_callV (N := mX11_goer) (n := 2) [x1, x2] rfl ok_X11_goer (hM ▸ lk_L_37) im_X11_goer se_X11_goer (by decide +kernel) rfl okC_11.1 hs ha hcat hd hk kk
set_option maxRecDepth 100000 in
theorem lk_X11_160 : lnk RX11 160 yX0_hasGoer := Or.inl (gw_T4 46 rfl rfl)
set_option maxRecDepth 100000 in
theorem c_X11_160 {Qk : Option Value → Hp → Prop} (hM : M.1.cls = RX11) {x1 : Value} {a : Nat} (hs : shp a = .inl 0) (ha : a < hn h) (hcat : catS st ≤ 8) (hd : decode M.2.1 pc = .ok (.invokevirtual 160, 3)) (hk : Kc mX0_hasGoer d (.ref a :: [x1]) h Qk) (kk : ∀ (r1 : Option Value) (h1 : Hp), Qk r1 h1 → V M (d + 1) (pc + 3) la (r1.toList ++ st) h1 Q) : V M (d + 1) pc la (x1 :: .ref a :: st) h Q := v_callV (N := mX0_hasGoer) (n := 1) [x1] rfl ok_X0_hasGoer (hM ▸ lk_X11_160) im_X0_hasGoer se_X0_hasGoer (by decide +kernel) rfl okC_0.1 hs ha hcat hd hk kk
set_option maxRecDepth 100000 in
theorem lk_X11_170 : lnk RX11 170 yX0_whereTo := Or.inl (gw_T4 50 rfl rfl)
set_option maxRecDepth 100000 in
theorem c_X11_170 {Qk : Option Value → Hp → Prop} (hM : M.1.cls = RX11) {x1 x2 x3 : Value} {a : Nat} (hs : shp a = .inl 0) (ha : a < hn h) (hcat : catS st ≤ 8) (hd : decode M.2.1 pc = .ok (.invokevirtual 170, 3)) (hk : Kc mX0_whereTo d (.ref a :: [x1, x2, x3]) h Qk) (kk : ∀ (r1 : Option Value) (h1 : Hp), Qk r1 h1 → V M (d + 1) (pc + 3) la (r1.toList ++ st) h1 Q) : V M (d + 1) pc la (x3 :: x2 :: x1 :: .ref a :: st) h Q := v_callV (N := mX0_whereTo) (n := 3) [x1, x2, x3] rfl ok_X0_whereTo (hM ▸ lk_X11_170) im_X0_whereTo se_X0_whereTo (by decide +kernel) rfl okC_0.1 hs ha hcat hd hk kk
set_option maxRecDepth 100000 in
theorem lk_X0_99 : lnk RX0 99 yX0_hasGoer := Or.inl (gw_T4 54 rfl rfl)
set_option maxRecDepth 100000 in
theorem c_X0_99 {Qk : Option Value → Hp → Prop} (hM : M.1.cls = RX0) {x1 : Value} {a : Nat} (hs : shp a = .inl 0) (ha : a < hn h) (hcat : catS st ≤ 8) (hd : decode M.2.1 pc = .ok (.invokevirtual 99, 3)) (hk : Kc mX0_hasGoer d (.ref a :: [x1]) h Qk) (kk : ∀ (r1 : Option Value) (h1 : Hp), Qk r1 h1 → V M (d + 1) (pc + 3) la (r1.toList ++ st) h1 Q) : V M (d + 1) pc la (x1 :: .ref a :: st) h Q := v_callV (N := mX0_hasGoer) (n := 1) [x1] rfl ok_X0_hasGoer (hM ▸ lk_X0_99) im_X0_hasGoer se_X0_hasGoer (by decide +kernel) rfl okC_0.1 hs ha hcat hd hk kk
set_option maxRecDepth 100000 in
theorem lk_X0_109 : lnk RX0 109 yX3_beside := Or.inl (gw_T4 55 rfl rfl)
set_option maxRecDepth 100000 in
theorem c_X0_109 {Qk : Option Value → Hp → Prop} (hM : M.1.cls = RX0) {x1 x2 : Value} {a : Nat} (hs : shp a = .inl 3) (ha : a < hn h) (hcat : catS st ≤ 8) (hd : decode M.2.1 pc = .ok (.invokevirtual 109, 3)) (hk : Kc mX3_beside d (.ref a :: [x1, x2]) h Qk) (kk : ∀ (r1 : Option Value) (h1 : Hp), Qk r1 h1 → V M (d + 1) (pc + 3) la (r1.toList ++ st) h1 Q) : V M (d + 1) pc la (x2 :: x1 :: .ref a :: st) h Q := v_callV (N := mX3_beside) (n := 2) [x1, x2] rfl ok_X3_beside (hM ▸ lk_X0_109) im_X3_beside se_X3_beside (by decide +kernel) rfl okC_3.1 hs ha hcat hd hk kk
set_option maxRecDepth 100000 in
theorem lk_X3_24 : lnk RX3 24 yX3_leftOf := Or.inl (gw_T4 59 rfl rfl)
set_option maxRecDepth 100000 in
theorem c_X3_24 {Qk : Option Value → Hp → Prop} (hM : M.1.cls = RX3) {x1 : Value} {a : Nat} (hs : shp a = .inl 3) (ha : a < hn h) (hcat : catS st ≤ 8) (hd : decode M.2.1 pc = .ok (.invokevirtual 24, 3)) (hk : Kc mX3_leftOf d (.ref a :: [x1]) h Qk) (kk : ∀ (r1 : Option Value) (h1 : Hp), Qk r1 h1 → V M (d + 1) (pc + 3) la (r1.toList ++ st) h1 Q) : V M (d + 1) pc la (x1 :: .ref a :: st) h Q := v_callV (N := mX3_leftOf) (n := 1) [x1] rfl ok_X3_leftOf (hM ▸ lk_X3_24) im_X3_leftOf se_X3_leftOf (by decide +kernel) rfl okC_3.1 hs ha hcat hd hk kk
set_option maxRecDepth 100000 in
theorem lk_X3_28 : lnk RX3 28 yX3_topOf := Or.inl (gw_T4 60 rfl rfl)
set_option maxRecDepth 100000 in
theorem c_X3_28 {Qk : Option Value → Hp → Prop} (hM : M.1.cls = RX3) {x1 : Value} {a : Nat} (hs : shp a = .inl 3) (ha : a < hn h) (hcat : catS st ≤ 8) (hd : decode M.2.1 pc = .ok (.invokevirtual 28, 3)) (hk : Kc mX3_topOf d (.ref a :: [x1]) h Qk) (kk : ∀ (r1 : Option Value) (h1 : Hp), Qk r1 h1 → V M (d + 1) (pc + 3) la (r1.toList ++ st) h1 Q) : V M (d + 1) pc la (x1 :: .ref a :: st) h Q := v_callV (N := mX3_topOf) (n := 1) [x1] rfl ok_X3_topOf (hM ▸ lk_X3_28) im_X3_topOf se_X3_topOf (by decide +kernel) rfl okC_3.1 hs ha hcat hd hk kk
set_option maxRecDepth 100000 in
theorem lk_X0_112 : lnk RX0 112 yX8_isRoped := Or.inl (gw_T4 61 rfl rfl)
set_option maxRecDepth 100000 in
theorem c_X0_112 {Qk : Option Value → Hp → Prop} (hM : M.1.cls = RX0) {x1 : Value} {a : Nat} (hs : shp a = .inl 8) (ha : a < hn h) (hcat : catS st ≤ 8) (hd : decode M.2.1 pc = .ok (.invokevirtual 112, 3)) (hk : Kc mX8_isRoped d (.ref a :: [x1]) h Qk) (kk : ∀ (r1 : Option Value) (h1 : Hp), Qk r1 h1 → V M (d + 1) (pc + 3) la (r1.toList ++ st) h1 Q) : V M (d + 1) pc la (x1 :: .ref a :: st) h Q := v_callV (N := mX8_isRoped) (n := 1) [x1] rfl ok_X8_isRoped (hM ▸ lk_X0_112) im_X8_isRoped se_X8_isRoped (by decide +kernel) rfl okC_8.1 hs ha hcat hd hk kk
set_option maxRecDepth 100000 in
theorem lk_L_172 : lnk RL 172 yX11_count := Or.inl (gw_T4 62 rfl rfl)
set_option maxRecDepth 100000 in
theorem c_L_172 {Qk : Option Value → Hp → Prop} (hM : M.1.cls = RL) {x1 : Value} {a : Nat} (hs : shp a = .inl 11) (ha : a < hn h) (hcat : catS st ≤ 8) (hd : decode M.2.1 pc = .ok (.invokevirtual 172, 3)) (hk : Kc mX11_count d (.ref a :: [x1]) h Qk) (kk : ∀ (r1 : Option Value) (h1 : Hp), Qk r1 h1 → V M (d + 1) (pc + 3) la (r1.toList ++ st) h1 Q) : V M (d + 1) pc la (x1 :: .ref a :: st) h Q := v_callV (N := mX11_count) (n := 1) [x1] rfl ok_X11_count (hM ▸ lk_L_172) im_X11_count se_X11_count (by decide +kernel) rfl okC_11.1 hs ha hcat hd hk kk
set_option maxRecDepth 100000 in
theorem lk_X11_189 : lnk RX11 189 yX8_stoodOn := Or.inl (gw_T4 66 rfl rfl)
set_option maxRecDepth 100000 in
theorem c_X11_189 {Qk : Option Value → Hp → Prop} (hM : M.1.cls = RX11) {x1 : Value} {a : Nat} (hs : shp a = .inl 8) (ha : a < hn h) (hcat : catS st ≤ 8) (hd : decode M.2.1 pc = .ok (.invokevirtual 189, 3)) (hk : Kc mX8_stoodOn d (.ref a :: [x1]) h Qk) (kk : ∀ (r1 : Option Value) (h1 : Hp), Qk r1 h1 → V M (d + 1) (pc + 3) la (r1.toList ++ st) h1 Q) : V M (d + 1) pc la (x1 :: .ref a :: st) h Q := v_callV (N := mX8_stoodOn) (n := 1) [x1] rfl ok_X8_stoodOn (hM ▸ lk_X11_189) im_X8_stoodOn se_X8_stoodOn (by decide +kernel) rfl okC_8.1 hs ha hcat hd hk kk
set_option maxRecDepth 100000 in
theorem lk_X11_196 : lnk RX11 196 yJ6_bitCount_0f7a4 := Or.inl (gw_T4 70 rfl rfl)
set_option maxRecDepth 100000 in
theorem c_X11_196 {Qk : Option Value → Hp → Prop} (hM : M.1.cls = RX11) {x1 : Value} (hcat : catS st ≤ 8) (hd : decode M.2.1 pc = .ok (.invokestatic 196, 3)) (hk : Kc mJ6_bitCount_0f7a4 d [x1] h Qk) (kk : ∀ (r1 : Option Value) (h1 : Hp), Qk r1 h1 → V M (d + 1) (pc + 3) la (r1.toList ++ st) h1 Q) : V M (d + 1) pc la (x1 :: st) h Q := v_callS (N := mJ6_bitCount_0f7a4) (n := 1) [x1] rfl ok_J6_bitCount_0f7a4 (hM ▸ lk_X11_196) sm_J6_bitCount_0f7a4 (by decide +kernel) rfl hcat hd hk kk
set_option maxRecDepth 100000 in
theorem lk_X11_201 : lnk RX11 201 yX8_loudAt := Or.inl (gw_T4 71 rfl rfl)
set_option maxRecDepth 100000 in
theorem c_X11_201 {Qk : Option Value → Hp → Prop} (hM : M.1.cls = RX11) {x1 : Value} {a : Nat} (hs : shp a = .inl 8) (ha : a < hn h) (hcat : catS st ≤ 8) (hd : decode M.2.1 pc = .ok (.invokevirtual 201, 3)) (hk : Kc mX8_loudAt d (.ref a :: [x1]) h Qk) (kk : ∀ (r1 : Option Value) (h1 : Hp), Qk r1 h1 → V M (d + 1) (pc + 3) la (r1.toList ++ st) h1 Q) : V M (d + 1) pc la (x1 :: .ref a :: st) h Q := v_callV (N := mX8_loudAt) (n := 1) [x1] rfl ok_X8_loudAt (hM ▸ lk_X11_201) im_X8_loudAt se_X8_loudAt (by decide +kernel) rfl okC_8.1 hs ha hcat hd hk kk
set_option maxRecDepth 100000 in
theorem lk_X8_65 : lnk RX8 65 yX8_soundsAt := Or.inl (gw_T4 78 rfl rfl)
set_option maxRecDepth 100000 in
theorem c_X8_65 {Qk : Option Value → Hp → Prop} (hM : M.1.cls = RX8) {x1 x2 : Value} {a : Nat} (hs : shp a = .inl 8) (ha : a < hn h) (hcat : catS st ≤ 8) (hd : decode M.2.1 pc = .ok (.invokevirtual 65, 3)) (hk : Kc mX8_soundsAt d (.ref a :: [x1, x2]) h Qk) (kk : ∀ (r1 : Option Value) (h1 : Hp), Qk r1 h1 → V M (d + 1) (pc + 3) la (r1.toList ++ st) h1 Q) : V M (d + 1) pc la (x2 :: x1 :: .ref a :: st) h Q := v_callV (N := mX8_soundsAt) (n := 2) [x1, x2] rfl ok_X8_soundsAt (hM ▸ lk_X8_65) im_X8_soundsAt se_X8_soundsAt (by decide +kernel) rfl okC_8.1 hs ha hcat hd hk kk
set_option maxRecDepth 100000 in
theorem lk_X11_204 : lnk RX11 204 yX11_movedInAll := Or.inl (gw_T4 79 rfl rfl)
set_option maxRecDepth 100000 in
theorem c_X11_204 {Qk : Option Value → Hp → Prop} (hM : M.1.cls = RX11) {a : Nat} (hs : shp a = .inl 11) (ha : a < hn h) (hcat : catS st ≤ 8) (hd : decode M.2.1 pc = .ok (.invokevirtual 204, 3)) (hk : Kc mX11_movedInAll d (.ref a :: []) h Qk) (kk : ∀ (r1 : Option Value) (h1 : Hp), Qk r1 h1 → V M (d + 1) (pc + 3) la (r1.toList ++ st) h1 Q) : V M (d + 1) pc la (.ref a :: st) h Q := v_callV (N := mX11_movedInAll) (n := 0) [] rfl ok_X11_movedInAll (hM ▸ lk_X11_204) im_X11_movedInAll se_X11_movedInAll (by decide +kernel) rfl okC_11.1 hs ha hcat hd hk kk
set_option maxRecDepth 100000 in
theorem lk_X11_208 : lnk RX11 208 yX11_costsOfTunes := Or.inl (gw_T4 83 rfl rfl)
set_option maxRecDepth 100000 in
theorem c_X11_208 {Qk : Option Value → Hp → Prop} (hM : M.1.cls = RX11) {a : Nat} (hs : shp a = .inl 11) (ha : a < hn h) (hcat : catS st ≤ 8) (hd : decode M.2.1 pc = .ok (.invokevirtual 208, 3)) (hk : Kc mX11_costsOfTunes d (.ref a :: []) h Qk) (kk : ∀ (r1 : Option Value) (h1 : Hp), Qk r1 h1 → V M (d + 1) (pc + 3) la (r1.toList ++ st) h1 Q) : V M (d + 1) pc la (.ref a :: st) h Q := v_callV (N := mX11_costsOfTunes) (n := 0) [] rfl ok_X11_costsOfTunes (hM ▸ lk_X11_208) im_X11_costsOfTunes se_X11_costsOfTunes (by decide +kernel) rfl okC_11.1 hs ha hcat hd hk kk
set_option maxRecDepth 100000 in
theorem lk_X11_214 : lnk RX11 214 yX11_everMoved := Or.inl (gw_T4 87 rfl rfl)
set_option maxRecDepth 100000 in
theorem c_X11_214 {Qk : Option Value → Hp → Prop} (hM : M.1.cls = RX11) {a : Nat} (hs : shp a = .inl 11) (ha : a < hn h) (hcat : catS st ≤ 8) (hd : decode M.2.1 pc = .ok (.invokevirtual 214, 3)) (hk : Kc mX11_everMoved d (.ref a :: []) h Qk) (kk : ∀ (r1 : Option Value) (h1 : Hp), Qk r1 h1 → V M (d + 1) (pc + 3) la (r1.toList ++ st) h1 Q) : V M (d + 1) pc la (.ref a :: st) h Q := v_callV (N := mX11_everMoved) (n := 0) [] rfl ok_X11_everMoved (hM ▸ lk_X11_214) im_X11_everMoved se_X11_everMoved (by decide +kernel) rfl okC_11.1 hs ha hcat hd hk kk
set_option maxRecDepth 100000 in
theorem lk_L_41 : lnk RL 41 yX11_mow := Or.inl (gw_T4 91 rfl rfl)
set_option maxRecDepth 100000 in
theorem c_L_41 {Qk : Option Value → Hp → Prop} (hM : M.1.cls = RL) {x1 : Value} {a : Nat} (hs : shp a = .inl 11) (ha : a < hn h) (hcat : catS st ≤ 8) (hd : decode M.2.1 pc = .ok (.invokevirtual 41, 3)) (hk : Kc mX11_mow d (.ref a :: [x1]) h Qk) (kk : ∀ (r1 : Option Value) (h1 : Hp), Qk r1 h1 → V M (d + 1) (pc + 3) la (r1.toList ++ st) h1 Q) : V M (d + 1) pc la (x1 :: .ref a :: st) h Q := v_callV (N := mX11_mow) (n := 1) [x1] rfl ok_X11_mow (hM ▸ lk_L_41) im_X11_mow se_X11_mow (by decide +kernel) rfl okC_11.1 hs ha hcat hd hk kk
set_option maxRecDepth 100000 in
theorem lk_X11_220 : lnk RX11 220 yX6_keep := Or.inl (gw_T4 95 rfl rfl)
set_option maxRecDepth 100000 in
theorem c_X11_220 {Qk : Option Value → Hp → Prop} (hM : M.1.cls = RX11) {x1 : Value} {a : Nat} (hs : shp a = .inl 6) (ha : a < hn h) (hcat : catS st ≤ 8) (hd : decode M.2.1 pc = .ok (.invokevirtual 220, 3)) (hk : Kc mX6_keep d (.ref a :: [x1]) h Qk) (kk : ∀ (r1 : Option Value) (h1 : Hp), Qk r1 h1 → V M (d + 1) (pc + 3) la (r1.toList ++ st) h1 Q) : V M (d + 1) pc la (x1 :: .ref a :: st) h Q := v_callV (N := mX6_keep) (n := 1) [x1] rfl ok_X6_keep (hM ▸ lk_X11_220) im_X6_keep se_X6_keep (by decide +kernel) rfl okC_6.1 hs ha hcat hd hk kk
set_option maxRecDepth 100000 in
theorem lk_X6_25 : lnk RX6 25 yX8_become := Or.inl (gw_T4 99 rfl rfl)
set_option maxRecDepth 100000 in
theorem c_X6_25 {Qk : Option Value → Hp → Prop} (hM : M.1.cls = RX6) {x1 : Value} {a : Nat} (hs : shp a = .inl 8) (ha : a < hn h) (hcat : catS st ≤ 8) (hd : decode M.2.1 pc = .ok (.invokevirtual 25, 3)) (hk : Kc mX8_become d (.ref a :: [x1]) h Qk) (kk : ∀ (r1 : Option Value) (h1 : Hp), Qk r1 h1 → V M (d + 1) (pc + 3) la (r1.toList ++ st) h1 Q) : V M (d + 1) pc la (x1 :: .ref a :: st) h Q := v_callV (N := mX8_become) (n := 1) [x1] rfl ok_X8_become (hM ▸ lk_X6_25) im_X8_become se_X8_become (by decide +kernel) rfl okC_8.1 hs ha hcat hd hk kk
set_option maxRecDepth 100000 in
theorem ml_X6_29 : Cond.methodLink RX6 29 yJ9_min_7cf53 ∈ gw := gw_T4 100 rfl rfl
set_option maxRecDepth 100000 in
theorem lk_X11_223 : lnk RX11 223 yX8_hush := Or.inl (gw_T4 101 rfl rfl)
set_option maxRecDepth 100000 in
theorem c_X11_223 {Qk : Option Value → Hp → Prop} (hM : M.1.cls = RX11) {x1 : Value} {a : Nat} (hs : shp a = .inl 8) (ha : a < hn h) (hcat : catS st ≤ 8) (hd : decode M.2.1 pc = .ok (.invokevirtual 223, 3)) (hk : Kc mX8_hush d (.ref a :: [x1]) h Qk) (kk : ∀ (r1 : Option Value) (h1 : Hp), Qk r1 h1 → V M (d + 1) (pc + 3) la (r1.toList ++ st) h1 Q) : V M (d + 1) pc la (x1 :: .ref a :: st) h Q := v_callV (N := mX8_hush) (n := 1) [x1] rfl ok_X8_hush (hM ▸ lk_X11_223) im_X8_hush se_X8_hush (by decide +kernel) rfl okC_8.1 hs ha hcat hd hk kk
set_option maxRecDepth 100000 in
theorem lk_L_45 : lnk RL 45 yX11_rope := Or.inl (gw_T4 105 rfl rfl)
set_option maxRecDepth 100000 in
theorem c_L_45 {Qk : Option Value → Hp → Prop} (hM : M.1.cls = RL) {x1 x2 : Value} {a : Nat} (hs : shp a = .inl 11) (ha : a < hn h) (hcat : catS st ≤ 8) (hd : decode M.2.1 pc = .ok (.invokevirtual 45, 3)) (hk : Kc mX11_rope d (.ref a :: [x1, x2]) h Qk) (kk : ∀ (r1 : Option Value) (h1 : Hp), Qk r1 h1 → V M (d + 1) (pc + 3) la (r1.toList ++ st) h1 Q) : V M (d + 1) pc la (x2 :: x1 :: .ref a :: st) h Q := v_callV (N := mX11_rope) (n := 2) [x1, x2] rfl ok_X11_rope (hM ▸ lk_L_45) im_X11_rope se_X11_rope (by decide +kernel) rfl okC_11.1 hs ha hcat hd hk kk
set_option maxRecDepth 100000 in
theorem lk_L_50 : lnk RL 50 yX11_carry := Or.inl (gw_T4 109 rfl rfl)
set_option maxRecDepth 100000 in
theorem c_L_50 {Qk : Option Value → Hp → Prop} (hM : M.1.cls = RL) {x1 x2 : Value} {a : Nat} (hs : shp a = .inl 11) (ha : a < hn h) (hcat : catS st ≤ 8) (hd : decode M.2.1 pc = .ok (.invokevirtual 50, 3)) (hk : Kc mX11_carry d (.ref a :: [x1, x2]) h Qk) (kk : ∀ (r1 : Option Value) (h1 : Hp), Qk r1 h1 → V M (d + 1) (pc + 3) la (r1.toList ++ st) h1 Q) : V M (d + 1) pc la (x2 :: x1 :: .ref a :: st) h Q := v_callV (N := mX11_carry) (n := 2) [x1, x2] rfl ok_X11_carry (hM ▸ lk_L_50) im_X11_carry se_X11_carry (by decide +kernel) rfl okC_11.1 hs ha hcat hd hk kk
set_option maxRecDepth 100000 in
theorem lk_L_55 : lnk RL 55 yX11_beats := Or.inl (gw_T4 113 rfl rfl)
set_option maxRecDepth 100000 in
theorem c_L_55 {Qk : Option Value → Hp → Prop} (hM : M.1.cls = RL) {x1 : Value} {a : Nat} (hs : shp a = .inl 11) (ha : a < hn h) (hcat : catS st ≤ 8) (hd : decode M.2.1 pc = .ok (.invokevirtual 55, 3)) (hk : Kc mX11_beats d (.ref a :: [x1]) h Qk) (kk : ∀ (r1 : Option Value) (h1 : Hp), Qk r1 h1 → V M (d + 1) (pc + 3) la (r1.toList ++ st) h1 Q) : V M (d + 1) pc la (x1 :: .ref a :: st) h Q := v_callV (N := mX11_beats) (n := 1) [x1] rfl ok_X11_beats (hM ▸ lk_L_55) im_X11_beats se_X11_beats (by decide +kernel) rfl okC_11.1 hs ha hcat hd hk kk
set_option maxRecDepth 100000 in
theorem lk_X11_226 : lnk RX11 226 yX11_isSpan := Or.inl (gw_T4 117 rfl rfl)
set_option maxRecDepth 100000 in
theorem c_X11_226 {Qk : Option Value → Hp → Prop} (hM : M.1.cls = RX11) {x1 : Value} (hcat : catS st ≤ 8) (hd : decode M.2.1 pc = .ok (.invokestatic 226, 3)) (hk : Kc mX11_isSpan d [x1] h Qk) (kk : ∀ (r1 : Option Value) (h1 : Hp), Qk r1 h1 → V M (d + 1) (pc + 3) la (r1.toList ++ st) h1 Q) : V M (d + 1) pc la (x1 :: st) h Q := v_callS (N := mX11_isSpan) (n := 1) [x1] rfl ok_X11_isSpan (hM ▸ lk_X11_226) sm_X11_isSpan (by decide +kernel) rfl hcat hd hk kk
set_option maxRecDepth 100000 in
theorem lk_X11_229 : lnk RX11 229 yX0_goOn := Or.inl (gw_T4 120 rfl rfl)
set_option maxRecDepth 100000 in
theorem c_X11_229 {Qk : Option Value → Hp → Prop} (hM : M.1.cls = RX11) {x1 x2 : Value} {a : Nat} (hs : shp a = .inl 0) (ha : a < hn h) (hcat : catS st ≤ 8) (hd : decode M.2.1 pc = .ok (.invokevirtual 229, 3)) (hk : Kc mX0_goOn d (.ref a :: [x1, x2]) h Qk) (kk : ∀ (r1 : Option Value) (h1 : Hp), Qk r1 h1 → V M (d + 1) (pc + 3) la (r1.toList ++ st) h1 Q) : V M (d + 1) pc la (x2 :: x1 :: .ref a :: st) h Q := v_callV (N := mX0_goOn) (n := 2) [x1, x2] rfl ok_X0_goOn (hM ▸ lk_X11_229) im_X0_goOn se_X0_goOn (by decide +kernel) rfl okC_0.1 hs ha hcat hd hk kk
set_option maxRecDepth 100000 in
theorem lk_X0_123 : lnk RX0 123 yX0_walk := Or.inl (gw_T4 124 rfl rfl)
set_option maxRecDepth 100000 in
theorem c_X0_123 {Qk : Option Value → Hp → Prop} (hM : M.1.cls = RX0) {x1 : Value} {a : Nat} (hs : shp a = .inl 0) (ha : a < hn h) (hcat : catS st ≤ 8) (hd : decode M.2.1 pc = .ok (.invokevirtual 123, 3)) (hk : Kc mX0_walk d (.ref a :: [x1]) h Qk) (kk : ∀ (r1 : Option Value) (h1 : Hp), Qk r1 h1 → V M (d + 1) (pc + 3) la (r1.toList ++ st) h1 Q) : V M (d + 1) pc la (x1 :: .ref a :: st) h Q := v_callV (N := mX0_walk) (n := 1) [x1] rfl ok_X0_walk (hM ▸ lk_X0_123) im_X0_walk se_X0_walk (by decide +kernel) rfl okC_0.1 hs ha hcat hd hk kk
set_option maxRecDepth 100000 in
theorem lk_X0_115 : lnk RX0 115 yX0_whereTo := Or.inl (gw_T4 128 rfl rfl)
set_option maxRecDepth 100000 in
theorem c_X0_115 {Qk : Option Value → Hp → Prop} (hM : M.1.cls = RX0) {x1 x2 x3 : Value} {a : Nat} (hs : shp a = .inl 0) (ha : a < hn h) (hcat : catS st ≤ 8) (hd : decode M.2.1 pc = .ok (.invokevirtual 115, 3)) (hk : Kc mX0_whereTo d (.ref a :: [x1, x2, x3]) h Qk) (kk : ∀ (r1 : Option Value) (h1 : Hp), Qk r1 h1 → V M (d + 1) (pc + 3) la (r1.toList ++ st) h1 Q) : V M (d + 1) pc la (x3 :: x2 :: x1 :: .ref a :: st) h Q := v_callV (N := mX0_whereTo) (n := 3) [x1, x2, x3] rfl ok_X0_whereTo (hM ▸ lk_X0_115) im_X0_whereTo se_X0_whereTo (by decide +kernel) rfl okC_0.1 hs ha hcat hd hk kk
set_option maxRecDepth 100000 in
theorem lk_X0_119 : lnk RX0 119 yX8_soundsAt := Or.inl (gw_T4 129 rfl rfl)
set_option maxRecDepth 100000 in
theorem c_X0_119 {Qk : Option Value → Hp → Prop} (hM : M.1.cls = RX0) {x1 x2 : Value} {a : Nat} (hs : shp a = .inl 8) (ha : a < hn h) (hcat : catS st ≤ 8) (hd : decode M.2.1 pc = .ok (.invokevirtual 119, 3)) (hk : Kc mX8_soundsAt d (.ref a :: [x1, x2]) h Qk) (kk : ∀ (r1 : Option Value) (h1 : Hp), Qk r1 h1 → V M (d + 1) (pc + 3) la (r1.toList ++ st) h1 Q) : V M (d + 1) pc la (x2 :: x1 :: .ref a :: st) h Q := v_callV (N := mX8_soundsAt) (n := 2) [x1, x2] rfl ok_X8_soundsAt (hM ▸ lk_X0_119) im_X8_soundsAt se_X8_soundsAt (by decide +kernel) rfl okC_8.1 hs ha hcat hd hk kk
set_option maxRecDepth 100000 in
theorem lk_X0_127 : lnk RX0 127 yX0_spread := Or.inl (gw_T4 130 rfl rfl)
set_option maxRecDepth 100000 in
theorem c_X0_127 {Qk : Option Value → Hp → Prop} (hM : M.1.cls = RX0) {x1 x2 : Value} {a : Nat} (hs : shp a = .inl 0) (ha : a < hn h) (hcat : catS st ≤ 8) (hd : decode M.2.1 pc = .ok (.invokevirtual 127, 3)) (hk : Kc mX0_spread d (.ref a :: [x1, x2]) h Qk) (kk : ∀ (r1 : Option Value) (h1 : Hp), Qk r1 h1 → V M (d + 1) (pc + 3) la (r1.toList ++ st) h1 Q) : V M (d + 1) pc la (x2 :: x1 :: .ref a :: st) h Q := v_callV (N := mX0_spread) (n := 2) [x1, x2] rfl ok_X0_spread (hM ▸ lk_X0_127) im_X0_spread se_X0_spread (by decide +kernel) rfl okC_0.1 hs ha hcat hd hk kk
set_option maxRecDepth 100000 in
theorem lk_X0_135 : lnk RX0 135 yX3_quietOnTheRight := Or.inl (gw_T4 134 rfl rfl)
set_option maxRecDepth 100000 in
theorem c_X0_135 {Qk : Option Value → Hp → Prop} (hM : M.1.cls = RX0) {x1 : Value} {a : Nat} (hs : shp a = .inl 3) (ha : a < hn h) (hcat : catS st ≤ 8) (hd : decode M.2.1 pc = .ok (.invokevirtual 135, 3)) (hk : Kc mX3_quietOnTheRight d (.ref a :: [x1]) h Qk) (kk : ∀ (r1 : Option Value) (h1 : Hp), Qk r1 h1 → V M (d + 1) (pc + 3) la (r1.toList ++ st) h1 Q) : V M (d + 1) pc la (x1 :: .ref a :: st) h Q := v_callV (N := mX3_quietOnTheRight) (n := 1) [x1] rfl ok_X3_quietOnTheRight (hM ▸ lk_X0_135) im_X3_quietOnTheRight se_X3_quietOnTheRight (by decide +kernel) rfl okC_3.1 hs ha hcat hd hk kk
set_option maxRecDepth 100000 in
theorem lk_X0_141 : lnk RX0 141 yX0_isWet := Or.inl (gw_T4 139 rfl rfl)
set_option maxRecDepth 100000 in
theorem c_X0_141 {Qk : Option Value → Hp → Prop} (hM : M.1.cls = RX0) {x1 x2 x3 : Value} {a : Nat} (hs : shp a = .inl 0) (ha : a < hn h) (hcat : catS st ≤ 8) (hd : decode M.2.1 pc = .ok (.invokevirtual 141, 3)) (hk : Kc mX0_isWet d (.ref a :: [x1, x2, x3]) h Qk) (kk : ∀ (r1 : Option Value) (h1 : Hp), Qk r1 h1 → V M (d + 1) (pc + 3) la (r1.toList ++ st) h1 Q) : V M (d + 1) pc la (x3 :: x2 :: x1 :: .ref a :: st) h Q := v_callV (N := mX0_isWet) (n := 3) [x1, x2, x3] rfl ok_X0_isWet (hM ▸ lk_X0_141) im_X0_isWet se_X0_isWet (by decide +kernel) rfl okC_0.1 hs ha hcat hd hk kk
set_option maxRecDepth 100000 in
theorem lk_X0_149 : lnk RX0 149 yX0_lot := Or.inl (gw_T4 143 rfl rfl)
set_option maxRecDepth 100000 in
theorem c_X0_149 {Qk : Option Value → Hp → Prop} (hM : M.1.cls = RX0) {x1 x2 x3 : Value} (hcat : catS st ≤ 8) (hd : decode M.2.1 pc = .ok (.invokestatic 149, 3)) (hk : Kc mX0_lot d [x1, x2, x3] h Qk) (kk : ∀ (r1 : Option Value) (h1 : Hp), Qk r1 h1 → V M (d + 1) (pc + 3) la (r1.toList ++ st) h1 Q) : V M (d + 1) pc la (x3 :: x2 :: x1 :: st) h Q := v_callS (N := mX0_lot) (n := 3) [x1, x2, x3] rfl ok_X0_lot (hM ▸ lk_X0_149) sm_X0_lot (by decide +kernel) rfl hcat hd hk kk
set_option maxRecDepth 100000 in
theorem lk_X0_153 : lnk RX0 153 yX0_stirred := Or.inl (gw_T4 146 rfl rfl)
set_option maxRecDepth 100000 in
theorem c_X0_153 {Qk : Option Value → Hp → Prop} (hM : M.1.cls = RX0) {x1 x2 : Value} (hcat : catS st ≤ 8) (hd : decode M.2.1 pc = .ok (.invokestatic 153, 3)) (hk : Kc mX0_stirred d [x1, x2] h Qk) (kk : ∀ (r1 : Option Value) (h1 : Hp), Qk r1 h1 → V M (d + 1) (pc + 3) la (r1.toList ++ st) h1 Q) : V M (d + 1) pc la (x2 :: x1 :: st) h Q := v_callS (N := mX0_stirred) (n := 2) [x1, x2] rfl ok_X0_stirred (hM ▸ lk_X0_153) sm_X0_stirred (by decide +kernel) rfl hcat hd hk kk
set_option maxRecDepth 100000 in
theorem lk_X0_145 : lnk RX0 145 yX8_soundFromTheLeft := Or.inl (gw_T4 150 rfl rfl)
set_option maxRecDepth 100000 in
theorem c_X0_145 {Qk : Option Value → Hp → Prop} (hM : M.1.cls = RX0) {x1 : Value} {a : Nat} (hs : shp a = .inl 8) (ha : a < hn h) (hcat : catS st ≤ 8) (hd : decode M.2.1 pc = .ok (.invokevirtual 145, 3)) (hk : Kc mX8_soundFromTheLeft d (.ref a :: [x1]) h Qk) (kk : ∀ (r1 : Option Value) (h1 : Hp), Qk r1 h1 → V M (d + 1) (pc + 3) la (r1.toList ++ st) h1 Q) : V M (d + 1) pc la (x1 :: .ref a :: st) h Q := v_callV (N := mX8_soundFromTheLeft) (n := 1) [x1] rfl ok_X8_soundFromTheLeft (hM ▸ lk_X0_145) im_X8_soundFromTheLeft se_X8_soundFromTheLeft (by decide +kernel) rfl okC_8.1 hs ha hcat hd hk kk
set_option maxRecDepth 100000 in
theorem lk_X8_58 : lnk RX8 58 yX8_soundIn := Or.inl (gw_T4 154 rfl rfl)
set_option maxRecDepth 100000 in
theorem c_X8_58 {Qk : Option Value → Hp → Prop} (hM : M.1.cls = RX8) {x1 x2 x3 : Value} {a : Nat} (hs : shp a = .inl 8) (ha : a < hn h) (hcat : catS st ≤ 8) (hd : decode M.2.1 pc = .ok (.invokevirtual 58, 3)) (hk : Kc mX8_soundIn d (.ref a :: [x1, x2, x3]) h Qk) (kk : ∀ (r1 : Option Value) (h1 : Hp), Qk r1 h1 → V M (d + 1) (pc + 3) la (r1.toList ++ st) h1 Q) : V M (d + 1) pc la (x3 :: x2 :: x1 :: .ref a :: st) h Q := v_callV (N := mX8_soundIn) (n := 3) [x1, x2, x3] rfl ok_X8_soundIn (hM ▸ lk_X8_58) im_X8_soundIn se_X8_soundIn (by decide +kernel) rfl okC_8.1 hs ha hcat hd hk kk
set_option maxRecDepth 100000 in
theorem lk_L_59 : lnk RL 59 yX11_undo := Or.inl (gw_T4 155 rfl rfl)
set_option maxRecDepth 100000 in
theorem c_L_59 {Qk : Option Value → Hp → Prop} (hM : M.1.cls = RL) {a : Nat} (hs : shp a = .inl 11) (ha : a < hn h) (hcat : catS st ≤ 8) (hd : decode M.2.1 pc = .ok (.invokevirtual 59, 3)) (hk : Kc mX11_undo d (.ref a :: []) h Qk) (kk : ∀ (r1 : Option Value) (h1 : Hp), Qk r1 h1 → V M (d + 1) (pc + 3) la (r1.toList ++ st) h1 Q) : V M (d + 1) pc la (.ref a :: st) h Q := v_callV (N := mX11_undo) (n := 0) [] rfl ok_X11_undo (hM ▸ lk_L_59) im_X11_undo se_X11_undo (by decide +kernel) rfl okC_11.1 hs ha hcat hd hk kk
set_option maxRecDepth 100000 in
theorem lk_X11_233 : lnk RX11 233 yX6_takeBack := Or.inl (gw_T4 159 rfl rfl)
set_option maxRecDepth 100000 in
theorem c_X11_233 {Qk : Option Value → Hp → Prop} (hM : M.1.cls = RX11) {x1 : Value} {a : Nat} (hs : shp a = .inl 6) (ha : a < hn h) (hcat : catS st ≤ 8) (hd : decode M.2.1 pc = .ok (.invokevirtual 233, 3)) (hk : Kc mX6_takeBack d (.ref a :: [x1]) h Qk) (kk : ∀ (r1 : Option Value) (h1 : Hp), Qk r1 h1 → V M (d + 1) (pc + 3) la (r1.toList ++ st) h1 Q) : V M (d + 1) pc la (x1 :: .ref a :: st) h Q := v_callV (N := mX6_takeBack) (n := 1) [x1] rfl ok_X6_takeBack (hM ▸ lk_X11_233) im_X6_takeBack se_X6_takeBack (by decide +kernel) rfl okC_6.1 hs ha hcat hd hk kk
set_option maxRecDepth 100000 in
theorem lk_L_163 : lnk RL 163 yX11_hold := Or.inl (gw_T4 163 rfl rfl)
set_option maxRecDepth 100000 in
theorem c_L_163 {Qk : Option Value → Hp → Prop} (hM : M.1.cls = RL) {x1 : Value} {a : Nat} (hs : shp a = .inl 11) (ha : a < hn h) (hcat : catS st ≤ 8) (hd : decode M.2.1 pc = .ok (.invokevirtual 163, 3)) (hk : Kc mX11_hold d (.ref a :: [x1]) h Qk) (kk : ∀ (r1 : Option Value) (h1 : Hp), Qk r1 h1 → V M (d + 1) (pc + 3) la (r1.toList ++ st) h1 Q) : V M (d + 1) pc la (x1 :: .ref a :: st) h Q := v_callV (N := mX11_hold) (n := 1) [x1] rfl ok_X11_hold (hM ▸ lk_L_163) im_X11_hold se_X11_hold (by decide +kernel) rfl okC_11.1 hs ha hcat hd hk kk
set_option maxRecDepth 100000 in
theorem lk_L_168 : lnk RL 168 yX11_restore := Or.inl (gw_T4 167 rfl rfl)
set_option maxRecDepth 100000 in
theorem c_L_168 {Qk : Option Value → Hp → Prop} (hM : M.1.cls = RL) {x1 : Value} {a : Nat} (hs : shp a = .inl 11) (ha : a < hn h) (hcat : catS st ≤ 8) (hd : decode M.2.1 pc = .ok (.invokevirtual 168, 3)) (hk : Kc mX11_restore d (.ref a :: [x1]) h Qk) (kk : ∀ (r1 : Option Value) (h1 : Hp), Qk r1 h1 → V M (d + 1) (pc + 3) la (r1.toList ++ st) h1 Q) : V M (d + 1) pc la (x1 :: .ref a :: st) h Q := v_callV (N := mX11_restore) (n := 1) [x1] rfl ok_X11_restore (hM ▸ lk_L_168) im_X11_restore se_X11_restore (by decide +kernel) rfl okC_11.1 hs ha hcat hd hk kk
set_option maxRecDepth 100000 in
theorem lk_L_64 : lnk RL 64 yX11_next := Or.inl (gw_T4 171 rfl rfl)
set_option maxRecDepth 100000 in
theorem c_L_64 {Qk : Option Value → Hp → Prop} (hM : M.1.cls = RL) {x1 : Value} {a : Nat} (hs : shp a = .inl 11) (ha : a < hn h) (hcat : catS st ≤ 8) (hd : decode M.2.1 pc = .ok (.invokevirtual 64, 3)) (hk : Kc mX11_next d (.ref a :: [x1]) h Qk) (kk : ∀ (r1 : Option Value) (h1 : Hp), Qk r1 h1 → V M (d + 1) (pc + 3) la (r1.toList ++ st) h1 Q) : V M (d + 1) pc la (x1 :: .ref a :: st) h Q := v_callV (N := mX11_next) (n := 1) [x1] rfl ok_X11_next (hM ▸ lk_L_64) im_X11_next se_X11_next (by decide +kernel) rfl okC_11.1 hs ha hcat hd hk kk
set_option maxRecDepth 100000 in
theorem lk_L_68 : lnk RL 68 yX11_together := Or.inl (gw_T4 175 rfl rfl)
set_option maxRecDepth 100000 in
theorem c_L_68 {Qk : Option Value → Hp → Prop} (hM : M.1.cls = RL) {x1 x2 : Value} {a : Nat} (hs : shp a = .inl 11) (ha : a < hn h) (hcat : catS st ≤ 8) (hd : decode M.2.1 pc = .ok (.invokevirtual 68, 3)) (hk : Kc mX11_together d (.ref a :: [x1, x2]) h Qk) (kk : ∀ (r1 : Option Value) (h1 : Hp), Qk r1 h1 → V M (d + 1) (pc + 3) la (r1.toList ++ st) h1 Q) : V M (d + 1) pc la (x2 :: x1 :: .ref a :: st) h Q := v_callV (N := mX11_together) (n := 2) [x1, x2] rfl ok_X11_together (hM ▸ lk_L_68) im_X11_together se_X11_together (by decide +kernel) rfl okC_11.1 hs ha hcat hd hk kk
set_option maxRecDepth 100000 in
theorem lk_L_106 : lnk RL 106 yX11_loud := Or.inl (gw_T4 179 rfl rfl)
set_option maxRecDepth 100000 in
theorem c_L_106 {Qk : Option Value → Hp → Prop} (hM : M.1.cls = RL) {x1 : Value} {a : Nat} (hs : shp a = .inl 11) (ha : a < hn h) (hcat : catS st ≤ 8) (hd : decode M.2.1 pc = .ok (.invokevirtual 106, 3)) (hk : Kc mX11_loud d (.ref a :: [x1]) h Qk) (kk : ∀ (r1 : Option Value) (h1 : Hp), Qk r1 h1 → V M (d + 1) (pc + 3) la (r1.toList ++ st) h1 Q) : V M (d + 1) pc la (x1 :: .ref a :: st) h Q := v_callV (N := mX11_loud) (n := 1) [x1] rfl ok_X11_loud (hM ▸ lk_L_106) im_X11_loud se_X11_loud (by decide +kernel) rfl okC_11.1 hs ha hcat hd hk kk
set_option maxRecDepth 100000 in
theorem lk_L_110 : lnk RL 110 yX11_silence := Or.inl (gw_T4 183 rfl rfl)
set_option maxRecDepth 100000 in
theorem c_L_110 {Qk : Option Value → Hp → Prop} (hM : M.1.cls = RL) {x1 : Value} {a : Nat} (hs : shp a = .inl 11) (ha : a < hn h) (hcat : catS st ≤ 8) (hd : decode M.2.1 pc = .ok (.invokevirtual 110, 3)) (hk : Kc mX11_silence d (.ref a :: [x1]) h Qk) (kk : ∀ (r1 : Option Value) (h1 : Hp), Qk r1 h1 → V M (d + 1) (pc + 3) la (r1.toList ++ st) h1 Q) : V M (d + 1) pc la (x1 :: .ref a :: st) h Q := v_callV (N := mX11_silence) (n := 1) [x1] rfl ok_X11_silence (hM ▸ lk_L_110) im_X11_silence se_X11_silence (by decide +kernel) rfl okC_11.1 hs ha hcat hd hk kk
set_option maxRecDepth 100000 in
theorem lk_X11_237 : lnk RX11 237 yX11_isNoughtOrOne := Or.inl (gw_T4 187 rfl rfl)
set_option maxRecDepth 100000 in
theorem c_X11_237 {Qk : Option Value → Hp → Prop} (hM : M.1.cls = RX11) {x1 : Value} (hcat : catS st ≤ 8) (hd : decode M.2.1 pc = .ok (.invokestatic 237, 3)) (hk : Kc mX11_isNoughtOrOne d [x1] h Qk) (kk : ∀ (r1 : Option Value) (h1 : Hp), Qk r1 h1 → V M (d + 1) (pc + 3) la (r1.toList ++ st) h1 Q) : V M (d + 1) pc la (x1 :: st) h Q := v_callS (N := mX11_isNoughtOrOne) (n := 1) [x1] rfl ok_X11_isNoughtOrOne (hM ▸ lk_X11_237) sm_X11_isNoughtOrOne (by decide +kernel) rfl hcat hd hk kk
set_option maxRecDepth 100000 in
theorem lk_L_114 : lnk RL 114 yX11_chorus := Or.inl (gw_T4 190 rfl rfl)
set_option maxRecDepth 100000 in
theorem c_L_114 {Qk : Option Value → Hp → Prop} (hM : M.1.cls = RL) {x1 : Value} {a : Nat} (hs : shp a = .inl 11) (ha : a < hn h) (hcat : catS st ≤ 8) (hd : decode M.2.1 pc = .ok (.invokevirtual 114, 3)) (hk : Kc mX11_chorus d (.ref a :: [x1]) h Qk) (kk : ∀ (r1 : Option Value) (h1 : Hp), Qk r1 h1 → V M (d + 1) (pc + 3) la (r1.toList ++ st) h1 Q) : V M (d + 1) pc la (x1 :: .ref a :: st) h Q := v_callV (N := mX11_chorus) (n := 1) [x1] rfl ok_X11_chorus (hM ▸ lk_L_114) im_X11_chorus se_X11_chorus (by decide +kernel) rfl okC_11.1 hs ha hcat hd hk kk
set_option maxRecDepth 100000 in
theorem lk_L_118 : lnk RL 118 yX11_period := Or.inl (gw_T4 194 rfl rfl)
set_option maxRecDepth 100000 in
theorem c_L_118 {Qk : Option Value → Hp → Prop} (hM : M.1.cls = RL) {a : Nat} (hs : shp a = .inl 11) (ha : a < hn h) (hcat : catS st ≤ 8) (hd : decode M.2.1 pc = .ok (.invokevirtual 118, 3)) (hk : Kc mX11_period d (.ref a :: []) h Qk) (kk : ∀ (r1 : Option Value) (h1 : Hp), Qk r1 h1 → V M (d + 1) (pc + 3) la (r1.toList ++ st) h1 Q) : V M (d + 1) pc la (.ref a :: st) h Q := v_callV (N := mX11_period) (n := 0) [] rfl ok_X11_period (hM ▸ lk_L_118) im_X11_period se_X11_period (by decide +kernel) rfl okC_11.1 hs ha hcat hd hk kk
set_option maxRecDepth 100000 in
theorem lk_X11_240 : lnk RX11 240 yX8_allTunesDivide := Or.inl (gw_T4 198 rfl rfl)
set_option maxRecDepth 100000 in
theorem c_X11_240 {Qk : Option Value → Hp → Prop} (hM : M.1.cls = RX11) {x1 : Value} {a : Nat} (hs : shp a = .inl 8) (ha : a < hn h) (hcat : catS st ≤ 8) (hd : decode M.2.1 pc = .ok (.invokevirtual 240, 3)) (hk : Kc mX8_allTunesDivide d (.ref a :: [x1]) h Qk) (kk : ∀ (r1 : Option Value) (h1 : Hp), Qk r1 h1 → V M (d + 1) (pc + 3) la (r1.toList ++ st) h1 Q) : V M (d + 1) pc la (x1 :: .ref a :: st) h Q := v_callV (N := mX8_allTunesDivide) (n := 1) [x1] rfl ok_X8_allTunesDivide (hM ▸ lk_X11_240) im_X8_allTunesDivide se_X8_allTunesDivide (by decide +kernel) rfl okC_8.1 hs ha hcat hd hk kk
set_option maxRecDepth 100000 in
theorem lk_L_72 : lnk RL 72 yX11_way := Or.inl (gw_T4 202 rfl rfl)
set_option maxRecDepth 100000 in
theorem c_L_72 {Qk : Option Value → Hp → Prop} (hM : M.1.cls = RL) {x1 x2 x3 : Value} {a : Nat} (hs : shp a = .inl 11) (ha : a < hn h) (hcat : catS st ≤ 8) (hd : decode M.2.1 pc = .ok (.invokevirtual 72, 3)) (hk : Kc mX11_way d (.ref a :: [x1, x2, x3]) h Qk) (kk : ∀ (r1 : Option Value) (h1 : Hp), Qk r1 h1 → V M (d + 1) (pc + 3) la (r1.toList ++ st) h1 Q) : V M (d + 1) pc la (x3 :: x2 :: x1 :: .ref a :: st) h Q := v_callV (N := mX11_way) (n := 3) [x1, x2, x3] rfl ok_X11_way (hM ▸ lk_L_72) im_X11_way se_X11_way (by decide +kernel) rfl okC_11.1 hs ha hcat hd hk kk
set_option maxRecDepth 100000 in
theorem lk_X11_243 : lnk RX11 243 yX11_isFree := Or.inl (gw_T4 206 rfl rfl)
set_option maxRecDepth 100000 in
theorem c_X11_243 {Qk : Option Value → Hp → Prop} (hM : M.1.cls = RX11) {x1 : Value} {a : Nat} (hs : shp a = .inl 11) (ha : a < hn h) (hcat : catS st ≤ 8) (hd : decode M.2.1 pc = .ok (.invokevirtual 243, 3)) (hk : Kc mX11_isFree d (.ref a :: [x1]) h Qk) (kk : ∀ (r1 : Option Value) (h1 : Hp), Qk r1 h1 → V M (d + 1) (pc + 3) la (r1.toList ++ st) h1 Q) : V M (d + 1) pc la (x1 :: .ref a :: st) h Q := v_callV (N := mX11_isFree) (n := 1) [x1] rfl ok_X11_isFree (hM ▸ lk_X11_243) im_X11_isFree se_X11_isFree (by decide +kernel) rfl okC_11.1 hs ha hcat hd hk kk
set_option maxRecDepth 100000 in
theorem lk_X11_246 : lnk RX11 246 yX10_look := Or.inl (gw_T4 210 rfl rfl)
set_option maxRecDepth 100000 in
theorem c_X11_246 {Qk : Option Value → Hp → Prop} (hM : M.1.cls = RX11) {x1 : Value} {a : Nat} (hs : shp a = .inl 10) (ha : a < hn h) (hcat : catS st ≤ 8) (hd : decode M.2.1 pc = .ok (.invokevirtual 246, 3)) (hk : Kc mX10_look d (.ref a :: [x1]) h Qk) (kk : ∀ (r1 : Option Value) (h1 : Hp), Qk r1 h1 → V M (d + 1) (pc + 3) la (r1.toList ++ st) h1 Q) : V M (d + 1) pc la (x1 :: .ref a :: st) h Q := v_callV (N := mX10_look) (n := 1) [x1] rfl ok_X10_look (hM ▸ lk_X11_246) im_X10_look se_X10_look (by decide +kernel) rfl okC_10.1 hs ha hcat hd hk kk
set_option maxRecDepth 100000 in
theorem lk_X10_48 : lnk RX10 48 yJ7_fill_53178 := Or.inl (gw_T4 214 rfl rfl)
set_option maxRecDepth 100000 in
theorem c_X10_48 {Qk : Option Value → Hp → Prop} (hM : M.1.cls = RX10) {x1 x2 : Value} (hcat : catS st ≤ 8) (hd : decode M.2.1 pc = .ok (.invokestatic 48, 3)) (hk : Kc mJ7_fill_53178 d [x1, x2] h Qk) (kk : ∀ (r1 : Option Value) (h1 : Hp), Qk r1 h1 → V M (d + 1) (pc + 3) la (r1.toList ++ st) h1 Q) : V M (d + 1) pc la (x2 :: x1 :: st) h Q := v_callS (N := mJ7_fill_53178) (n := 2) [x1, x2] rfl ok_J7_fill_53178 (hM ▸ lk_X10_48) sm_J7_fill_53178 (by decide +kernel) rfl hcat hd hk kk
set_option maxRecDepth 100000 in
theorem lk_X10_61 : lnk RX10 61 yX8_beatOf := Or.inl (gw_T4 216 rfl rfl)
set_option maxRecDepth 100000 in
theorem c_X10_61 {Qk : Option Value → Hp → Prop} (hM : M.1.cls = RX10) {x1 : Value} {a : Nat} (hs : shp a = .inl 8) (ha : a < hn h) (hcat : catS st ≤ 8) (hd : decode M.2.1 pc = .ok (.invokevirtual 61, 3)) (hk : Kc mX8_beatOf d (.ref a :: [x1]) h Qk) (kk : ∀ (r1 : Option Value) (h1 : Hp), Qk r1 h1 → V M (d + 1) (pc + 3) la (r1.toList ++ st) h1 Q) : V M (d + 1) pc la (x1 :: .ref a :: st) h Q := v_callV (N := mX8_beatOf) (n := 1) [x1] rfl ok_X8_beatOf (hM ▸ lk_X10_61) im_X8_beatOf se_X8_beatOf (by decide +kernel) rfl okC_8.1 hs ha hcat hd hk kk
set_option maxRecDepth 100000 in
theorem lk_X10_64 : lnk RX10 64 yX8_offsetOf := Or.inl (gw_T4 217 rfl rfl)
set_option maxRecDepth 100000 in
theorem c_X10_64 {Qk : Option Value → Hp → Prop} (hM : M.1.cls = RX10) {x1 : Value} {a : Nat} (hs : shp a = .inl 8) (ha : a < hn h) (hcat : catS st ≤ 8) (hd : decode M.2.1 pc = .ok (.invokevirtual 64, 3)) (hk : Kc mX8_offsetOf d (.ref a :: [x1]) h Qk) (kk : ∀ (r1 : Option Value) (h1 : Hp), Qk r1 h1 → V M (d + 1) (pc + 3) la (r1.toList ++ st) h1 Q) : V M (d + 1) pc la (x1 :: .ref a :: st) h Q := v_callV (N := mX8_offsetOf) (n := 1) [x1] rfl ok_X8_offsetOf (hM ▸ lk_X10_64) im_X8_offsetOf se_X8_offsetOf (by decide +kernel) rfl okC_8.1 hs ha hcat hd hk kk
set_option maxRecDepth 100000 in
theorem lk_X11_249 : lnk RX11 249 yX10_fewest := Or.inl (gw_T4 218 rfl rfl)
set_option maxRecDepth 100000 in
theorem c_X11_249 {Qk : Option Value → Hp → Prop} (hM : M.1.cls = RX11) {x1 x2 x3 x4 x5 : Value} {a : Nat} (hs : shp a = .inl 10) (ha : a < hn h) (hcat : catS st ≤ 8) (hd : decode M.2.1 pc = .ok (.invokevirtual 249, 3)) (hk : Kc mX10_fewest d (.ref a :: [x1, x2, x3, x4, x5]) h Qk) (kk : ∀ (r1 : Option Value) (h1 : Hp), Qk r1 h1 → V M (d + 1) (pc + 3) la (r1.toList ++ st) h1 Q) : V M (d + 1) pc la (x5 :: x4 :: x3 :: x2 :: x1 :: .ref a :: st) h Q := v_callV (N := mX10_fewest) (n := 5) [x1, x2, x3, x4, x5] rfl ok_X10_fewest (hM ▸ lk_X11_249) im_X10_fewest se_X10_fewest (by decide +kernel) rfl okC_10.1 hs ha hcat hd hk kk
set_option maxRecDepth 100000 in
theorem lk_X10_79 : lnk RX10 79 yX10_onwards := Or.inl (gw_T4 222 rfl rfl)
set_option maxRecDepth 100000 in
theorem c_X10_79 {Qk : Option Value → Hp → Prop} (hM : M.1.cls = RX10) {x1 x2 x3 : Value} {a : Nat} (hs : shp a = .inl 10) (ha : a < hn h) (hcat : catS st ≤ 8) (hd : decode M.2.1 pc = .ok (.invokevirtual 79, 3)) (hk : Kc mX10_onwards d (.ref a :: [x1, x2, x3]) h Qk) (kk : ∀ (r1 : Option Value) (h1 : Hp), Qk r1 h1 → V M (d + 1) (pc + 3) la (r1.toList ++ st) h1 Q) : V M (d + 1) pc la (x3 :: x2 :: x1 :: .ref a :: st) h Q := v_callV (N := mX10_onwards) (n := 3) [x1, x2, x3] rfl ok_X10_onwards (hM ▸ lk_X10_79) im_X10_onwards se_X10_onwards (by decide +kernel) rfl okC_10.1 hs ha hcat hd hk kk
set_option maxRecDepth 100000 in
theorem lk_X10_73 : lnk RX10 73 yX3_grown := Or.inl (gw_T4 226 rfl rfl)
set_option maxRecDepth 100000 in
theorem c_X10_73 {Qk : Option Value → Hp → Prop} (hM : M.1.cls = RX10) {x1 : Value} {a : Nat} (hs : shp a = .inl 3) (ha : a < hn h) (hcat : catS st ≤ 8) (hd : decode M.2.1 pc = .ok (.invokevirtual 73, 3)) (hk : Kc mX3_grown d (.ref a :: [x1]) h Qk) (kk : ∀ (r1 : Option Value) (h1 : Hp), Qk r1 h1 → V M (d + 1) (pc + 3) la (r1.toList ++ st) h1 Q) : V M (d + 1) pc la (x1 :: .ref a :: st) h Q := v_callV (N := mX3_grown) (n := 1) [x1] rfl ok_X3_grown (hM ▸ lk_X10_73) im_X3_grown se_X3_grown (by decide +kernel) rfl okC_3.1 hs ha hcat hd hk kk
set_option maxRecDepth 100000 in
theorem lk_X10_76 : lnk RX10 76 yX10_quietAt := Or.inl (gw_T4 230 rfl rfl)
set_option maxRecDepth 100000 in
theorem c_X10_76 {Qk : Option Value → Hp → Prop} (hM : M.1.cls = RX10) {x1 x2 : Value} {a : Nat} (hs : shp a = .inl 10) (ha : a < hn h) (hcat : catS st ≤ 8) (hd : decode M.2.1 pc = .ok (.invokevirtual 76, 3)) (hk : Kc mX10_quietAt d (.ref a :: [x1, x2]) h Qk) (kk : ∀ (r1 : Option Value) (h1 : Hp), Qk r1 h1 → V M (d + 1) (pc + 3) la (r1.toList ++ st) h1 Q) : V M (d + 1) pc la (x2 :: x1 :: .ref a :: st) h Q := v_callV (N := mX10_quietAt) (n := 2) [x1, x2] rfl ok_X10_quietAt (hM ▸ lk_X10_76) im_X10_quietAt se_X10_quietAt (by decide +kernel) rfl okC_10.1 hs ha hcat hd hk kk
set_option maxRecDepth 100000 in
theorem ml_X10_67 : Cond.methodLink RX10 67 yJ9_floorMod_7cf53 ∈ gw := gw_T4 234 rfl rfl
set_option maxRecDepth 100000 in
theorem lk_X11_253 : lnk RX11 253 yX10_cellOnWay := Or.inl (gw_T4 237 rfl rfl)
set_option maxRecDepth 100000 in
theorem c_X11_253 {Qk : Option Value → Hp → Prop} (hM : M.1.cls = RX11) {x1 x2 x3 x4 : Value} {a : Nat} (hs : shp a = .inl 10) (ha : a < hn h) (hcat : catS st ≤ 8) (hd : decode M.2.1 pc = .ok (.invokevirtual 253, 3)) (hk : Kc mX10_cellOnWay d (.ref a :: [x1, x2, x3, x4]) h Qk) (kk : ∀ (r1 : Option Value) (h1 : Hp), Qk r1 h1 → V M (d + 1) (pc + 3) la (r1.toList ++ st) h1 Q) : V M (d + 1) pc la (x4 :: x3 :: x2 :: x1 :: .ref a :: st) h Q := v_callV (N := mX10_cellOnWay) (n := 4) [x1, x2, x3, x4] rfl ok_X10_cellOnWay (hM ▸ lk_X11_253) im_X10_cellOnWay se_X10_cellOnWay (by decide +kernel) rfl okC_10.1 hs ha hcat hd hk kk
set_option maxRecDepth 100000 in
theorem lk_X10_83 : lnk RX10 83 yX10_lookBack := Or.inl (gw_T5 1 rfl rfl)
set_option maxRecDepth 100000 in
theorem c_X10_83 {Qk : Option Value → Hp → Prop} (hM : M.1.cls = RX10) {x1 x2 : Value} {a : Nat} (hs : shp a = .inl 10) (ha : a < hn h) (hcat : catS st ≤ 8) (hd : decode M.2.1 pc = .ok (.invokevirtual 83, 3)) (hk : Kc mX10_lookBack d (.ref a :: [x1, x2]) h Qk) (kk : ∀ (r1 : Option Value) (h1 : Hp), Qk r1 h1 → V M (d + 1) (pc + 3) la (r1.toList ++ st) h1 Q) : V M (d + 1) pc la (x2 :: x1 :: .ref a :: st) h Q := v_callV (N := mX10_lookBack) (n := 2) [x1, x2] rfl ok_X10_lookBack (hM ▸ lk_X10_83) im_X10_lookBack se_X10_lookBack (by decide +kernel) rfl okC_10.1 hs ha hcat hd hk kk
set_option maxRecDepth 100000 in
theorem ml_X10_87 : Cond.methodLink RX10 87 yJ9_min_7cf53 ∈ gw := gw_T5 5 rfl rfl
set_option maxRecDepth 100000 in
theorem lk_L_77 : lnk RL 77 yX11_leave := Or.inl (gw_T5 6 rfl rfl)
set_option maxRecDepth 100000 in
theorem c_L_77 {Qk : Option Value → Hp → Prop} (hM : M.1.cls = RL) {x1 x2 x3 : Value} {a : Nat} (hs : shp a = .inl 11) (ha : a < hn h) (hcat : catS st ≤ 8) (hd : decode M.2.1 pc = .ok (.invokevirtual 77, 3)) (hk : Kc mX11_leave d (.ref a :: [x1, x2, x3]) h Qk) (kk : ∀ (r1 : Option Value) (h1 : Hp), Qk r1 h1 → V M (d + 1) (pc + 3) la (r1.toList ++ st) h1 Q) : V M (d + 1) pc la (x3 :: x2 :: x1 :: .ref a :: st) h Q := v_callV (N := mX11_leave) (n := 3) [x1, x2, x3] rfl ok_X11_leave (hM ▸ lk_L_77) im_X11_leave se_X11_leave (by decide +kernel) rfl okC_11.1 hs ha hcat hd hk kk
set_option maxRecDepth 100000 in
theorem lk_X11_257 : lnk RX11 257 yX10_bestWait := Or.inl (gw_T5 10 rfl rfl)
set_option maxRecDepth 100000 in
theorem c_X11_257 {Qk : Option Value → Hp → Prop} (hM : M.1.cls = RX11) {x1 x2 : Value} {a : Nat} (hs : shp a = .inl 10) (ha : a < hn h) (hcat : catS st ≤ 8) (hd : decode M.2.1 pc = .ok (.invokevirtual 257, 3)) (hk : Kc mX10_bestWait d (.ref a :: [x1, x2]) h Qk) (kk : ∀ (r1 : Option Value) (h1 : Hp), Qk r1 h1 → V M (d + 1) (pc + 3) la (r1.toList ++ st) h1 Q) : V M (d + 1) pc la (x2 :: x1 :: .ref a :: st) h Q := v_callV (N := mX10_bestWait) (n := 2) [x1, x2] rfl ok_X10_bestWait (hM ▸ lk_X11_257) im_X10_bestWait se_X10_bestWait (by decide +kernel) rfl okC_10.1 hs ha hcat hd hk kk
set_option maxRecDepth 100000 in
theorem lk_X10_90 : lnk RX10 90 yX10_fewest := Or.inl (gw_T5 14 rfl rfl)
set_option maxRecDepth 100000 in
theorem c_X10_90 {Qk : Option Value → Hp → Prop} (hM : M.1.cls = RX10) {x1 x2 x3 x4 x5 : Value} {a : Nat} (hs : shp a = .inl 10) (ha : a < hn h) (hcat : catS st ≤ 8) (hd : decode M.2.1 pc = .ok (.invokevirtual 90, 3)) (hk : Kc mX10_fewest d (.ref a :: [x1, x2, x3, x4, x5]) h Qk) (kk : ∀ (r1 : Option Value) (h1 : Hp), Qk r1 h1 → V M (d + 1) (pc + 3) la (r1.toList ++ st) h1 Q) : V M (d + 1) pc la (x5 :: x4 :: x3 :: x2 :: x1 :: .ref a :: st) h Q := v_callV (N := mX10_fewest) (n := 5) [x1, x2, x3, x4, x5] rfl ok_X10_fewest (hM ▸ lk_X10_90) im_X10_fewest se_X10_fewest (by decide +kernel) rfl okC_10.1 hs ha hcat hd hk kk
set_option maxRecDepth 100000 in
theorem lk_L_81 : lnk RL 81 yX11_mows := Or.inl (gw_T5 15 rfl rfl)
set_option maxRecDepth 100000 in
theorem c_L_81 {Qk : Option Value → Hp → Prop} (hM : M.1.cls = RL) {x1 x2 x3 x4 : Value} {a : Nat} (hs : shp a = .inl 11) (ha : a < hn h) (hcat : catS st ≤ 8) (hd : decode M.2.1 pc = .ok (.invokevirtual 81, 3)) (hk : Kc mX11_mows d (.ref a :: [x1, x2, x3, x4]) h Qk) (kk : ∀ (r1 : Option Value) (h1 : Hp), Qk r1 h1 → V M (d + 1) (pc + 3) la (r1.toList ++ st) h1 Q) : V M (d + 1) pc la (x4 :: x3 :: x2 :: x1 :: .ref a :: st) h Q := v_callV (N := mX11_mows) (n := 4) [x1, x2, x3, x4] rfl ok_X11_mows (hM ▸ lk_L_81) im_X11_mows se_X11_mows (by decide +kernel) rfl okC_11.1 hs ha hcat hd hk kk
set_option maxRecDepth 100000 in
theorem lk_X11_260 : lnk RX11 260 yX10_fewestMown := Or.inl (gw_T5 19 rfl rfl)
set_option maxRecDepth 100000 in
theorem c_X11_260 {Qk : Option Value → Hp → Prop} (hM : M.1.cls = RX11) {x1 x2 x3 x4 : Value} {a : Nat} (hs : shp a = .inl 10) (ha : a < hn h) (hcat : catS st ≤ 8) (hd : decode M.2.1 pc = .ok (.invokevirtual 260, 3)) (hk : Kc mX10_fewestMown d (.ref a :: [x1, x2, x3, x4]) h Qk) (kk : ∀ (r1 : Option Value) (h1 : Hp), Qk r1 h1 → V M (d + 1) (pc + 3) la (r1.toList ++ st) h1 Q) : V M (d + 1) pc la (x4 :: x3 :: x2 :: x1 :: .ref a :: st) h Q := v_callV (N := mX10_fewestMown) (n := 4) [x1, x2, x3, x4] rfl ok_X10_fewestMown (hM ▸ lk_X11_260) im_X10_fewestMown se_X10_fewestMown (by decide +kernel) rfl okC_10.1 hs ha hcat hd hk kk
set_option maxRecDepth 100000 in
theorem lk_X10_94 : lnk RX10 94 yJ6_bitCount_0f7a4 := Or.inl (gw_T5 23 rfl rfl)
set_option maxRecDepth 100000 in
theorem c_X10_94 {Qk : Option Value → Hp → Prop} (hM : M.1.cls = RX10) {x1 : Value} (hcat : catS st ≤ 8) (hd : decode M.2.1 pc = .ok (.invokestatic 94, 3)) (hk : Kc mJ6_bitCount_0f7a4 d [x1] h Qk) (kk : ∀ (r1 : Option Value) (h1 : Hp), Qk r1 h1 → V M (d + 1) (pc + 3) la (r1.toList ++ st) h1 Q) : V M (d + 1) pc la (x1 :: st) h Q := v_callS (N := mJ6_bitCount_0f7a4) (n := 1) [x1] rfl ok_J6_bitCount_0f7a4 (hM ▸ lk_X10_94) sm_J6_bitCount_0f7a4 (by decide +kernel) rfl hcat hd hk kk
set_option maxRecDepth 100000 in
theorem lk_X10_99 : lnk RX10 99 yX10_mownBy := Or.inl (gw_T5 24 rfl rfl)
set_option maxRecDepth 100000 in
theorem c_X10_99 {Qk : Option Value → Hp → Prop} (hM : M.1.cls = RX10) {x1 x2 x3 x4 x5 : Value} {a : Nat} (hs : shp a = .inl 10) (ha : a < hn h) (hcat : catS st ≤ 8) (hd : decode M.2.1 pc = .ok (.invokevirtual 99, 3)) (hk : Kc mX10_mownBy d (.ref a :: [x1, x2, x3, x4, x5]) h Qk) (kk : ∀ (r1 : Option Value) (h1 : Hp), Qk r1 h1 → V M (d + 1) (pc + 3) la (r1.toList ++ st) h1 Q) : V M (d + 1) pc la (x5 :: x4 :: x3 :: x2 :: x1 :: .ref a :: st) h Q := v_callV (N := mX10_mownBy) (n := 5) [x1, x2, x3, x4, x5] rfl ok_X10_mownBy (hM ▸ lk_X10_99) im_X10_mownBy se_X10_mownBy (by decide +kernel) rfl okC_10.1 hs ha hcat hd hk kk
set_option maxRecDepth 100000 in
theorem lk_L_90 : lnk RL 90 yX11_meet := Or.inl (gw_T5 28 rfl rfl)
set_option maxRecDepth 100000 in
theorem c_L_90 {Qk : Option Value → Hp → Prop} (hM : M.1.cls = RL) {x1 x2 x3 : Value} {a : Nat} (hs : shp a = .inl 11) (ha : a < hn h) (hcat : catS st ≤ 8) (hd : decode M.2.1 pc = .ok (.invokevirtual 90, 3)) (hk : Kc mX11_meet d (.ref a :: [x1, x2, x3]) h Qk) (kk : ∀ (r1 : Option Value) (h1 : Hp), Qk r1 h1 → V M (d + 1) (pc + 3) la (r1.toList ++ st) h1 Q) : V M (d + 1) pc la (x3 :: x2 :: x1 :: .ref a :: st) h Q := v_callV (N := mX11_meet) (n := 3) [x1, x2, x3] rfl ok_X11_meet (hM ▸ lk_L_90) im_X11_meet se_X11_meet (by decide +kernel) rfl okC_11.1 hs ha hcat hd hk kk
set_option maxRecDepth 100000 in
theorem lk_X11_263 : lnk RX11 263 yX10_findMeeting := Or.inl (gw_T5 32 rfl rfl)
set_option maxRecDepth 100000 in
theorem c_X11_263 {Qk : Option Value → Hp → Prop} (hM : M.1.cls = RX11) {x1 x2 : Value} {a : Nat} (hs : shp a = .inl 10) (ha : a < hn h) (hcat : catS st ≤ 8) (hd : decode M.2.1 pc = .ok (.invokevirtual 263, 3)) (hk : Kc mX10_findMeeting d (.ref a :: [x1, x2]) h Qk) (kk : ∀ (r1 : Option Value) (h1 : Hp), Qk r1 h1 → V M (d + 1) (pc + 3) la (r1.toList ++ st) h1 Q) : V M (d + 1) pc la (x2 :: x1 :: .ref a :: st) h Q := v_callV (N := mX10_findMeeting) (n := 2) [x1, x2] rfl ok_X10_findMeeting (hM ▸ lk_X11_263) im_X10_findMeeting se_X10_findMeeting (by decide +kernel) rfl okC_10.1 hs ha hcat hd hk kk
set_option maxRecDepth 100000 in
theorem lk_L_86 : lnk RL 86 yX11_part := Or.inl (gw_T5 36 rfl rfl)
set_option maxRecDepth 100000 in
theorem c_L_86 {Qk : Option Value → Hp → Prop} (hM : M.1.cls = RL) {x1 x2 : Value} {a : Nat} (hs : shp a = .inl 11) (ha : a < hn h) (hcat : catS st ≤ 8) (hd : decode M.2.1 pc = .ok (.invokevirtual 86, 3)) (hk : Kc mX11_part d (.ref a :: [x1, x2]) h Qk) (kk : ∀ (r1 : Option Value) (h1 : Hp), Qk r1 h1 → V M (d + 1) (pc + 3) la (r1.toList ++ st) h1 Q) : V M (d + 1) pc la (x2 :: x1 :: .ref a :: st) h Q := v_callV (N := mX11_part) (n := 2) [x1, x2] rfl ok_X11_part (hM ▸ lk_L_86) im_X11_part se_X11_part (by decide +kernel) rfl okC_11.1 hs ha hcat hd hk kk
set_option maxRecDepth 100000 in
theorem lk_X11_272 : lnk RX11 272 yX3_grown := Or.inl (gw_T5 40 rfl rfl)
set_option maxRecDepth 100000 in
theorem c_X11_272 {Qk : Option Value → Hp → Prop} (hM : M.1.cls = RX11) {x1 : Value} {a : Nat} (hs : shp a = .inl 3) (ha : a < hn h) (hcat : catS st ≤ 8) (hd : decode M.2.1 pc = .ok (.invokevirtual 272, 3)) (hk : Kc mX3_grown d (.ref a :: [x1]) h Qk) (kk : ∀ (r1 : Option Value) (h1 : Hp), Qk r1 h1 → V M (d + 1) (pc + 3) la (r1.toList ++ st) h1 Q) : V M (d + 1) pc la (x1 :: .ref a :: st) h Q := v_callV (N := mX3_grown) (n := 1) [x1] rfl ok_X3_grown (hM ▸ lk_X11_272) im_X3_grown se_X3_grown (by decide +kernel) rfl okC_3.1 hs ha hcat hd hk kk
set_option maxRecDepth 100000 in
theorem lk_X11_275 : lnk RX11 275 yX1_fewestRopes := Or.inl (gw_T5 41 rfl rfl)
set_option maxRecDepth 100000 in
theorem c_X11_275 {Qk : Option Value → Hp → Prop} (hM : M.1.cls = RX11) {x1 x2 x3 : Value} {a : Nat} (hs : shp a = .inl 1) (ha : a < hn h) (hcat : catS st ≤ 8) (hd : decode M.2.1 pc = .ok (.invokevirtual 275, 3)) (hk : Kc mX1_fewestRopes d (.ref a :: [x1, x2, x3]) h Qk) (kk : ∀ (r1 : Option Value) (h1 : Hp), Qk r1 h1 → V M (d + 1) (pc + 3) la (r1.toList ++ st) h1 Q) : V M (d + 1) pc la (x3 :: x2 :: x1 :: .ref a :: st) h Q := v_callV (N := mX1_fewestRopes) (n := 3) [x1, x2, x3] rfl ok_X1_fewestRopes (hM ▸ lk_X11_275) im_X1_fewestRopes se_X1_fewestRopes (by decide +kernel) rfl okC_1.1 hs ha hcat hd hk kk
set_option maxRecDepth 100000 in
theorem lk_X1_29 : lnk RX1 29 yJ7_fill_53178 := Or.inl (gw_T5 45 rfl rfl)
set_option maxRecDepth 100000 in
theorem c_X1_29 {Qk : Option Value → Hp → Prop} (hM : M.1.cls = RX1) {x1 x2 : Value} (hcat : catS st ≤ 8) (hd : decode M.2.1 pc = .ok (.invokestatic 29, 3)) (hk : Kc mJ7_fill_53178 d [x1, x2] h Qk) (kk : ∀ (r1 : Option Value) (h1 : Hp), Qk r1 h1 → V M (d + 1) (pc + 3) la (r1.toList ++ st) h1 Q) : V M (d + 1) pc la (x2 :: x1 :: st) h Q := v_callS (N := mJ7_fill_53178) (n := 2) [x1, x2] rfl ok_J7_fill_53178 (hM ▸ lk_X1_29) sm_J7_fill_53178 (by decide +kernel) rfl hcat hd hk kk
set_option maxRecDepth 100000 in
theorem lk_X1_35 : lnk RX1 35 yX1_search := Or.inl (gw_T5 46 rfl rfl)
set_option maxRecDepth 100000 in
theorem c_X1_35 {Qk : Option Value → Hp → Prop} (hM : M.1.cls = RX1) {x1 x2 x3 : Value} {a : Nat} (hs : shp a = .inl 1) (ha : a < hn h) (hcat : catS st ≤ 8) (hd : decode M.2.1 pc = .ok (.invokevirtual 35, 3)) (hk : Kc mX1_search d (.ref a :: [x1, x2, x3]) h Qk) (kk : ∀ (r1 : Option Value) (h1 : Hp), Qk r1 h1 → V M (d + 1) (pc + 3) la (r1.toList ++ st) h1 Q) : V M (d + 1) pc la (x3 :: x2 :: x1 :: .ref a :: st) h Q := v_callV (N := mX1_search) (n := 3) [x1, x2, x3] rfl ok_X1_search (hM ▸ lk_X1_35) im_X1_search se_X1_search (by decide +kernel) rfl okC_1.1 hs ha hcat hd hk kk
set_option maxRecDepth 100000 in
theorem lk_X1_43 : lnk RX1 43 yX1_find := Or.inl (gw_T5 50 rfl rfl)
set_option maxRecDepth 100000 in
theorem c_X1_43 {Qk : Option Value → Hp → Prop} (hM : M.1.cls = RX1) {x1 x2 : Value} {a : Nat} (hs : shp a = .inl 1) (ha : a < hn h) (hcat : catS st ≤ 8) (hd : decode M.2.1 pc = .ok (.invokevirtual 43, 3)) (hk : Kc mX1_find d (.ref a :: [x1, x2]) h Qk) (kk : ∀ (r1 : Option Value) (h1 : Hp), Qk r1 h1 → V M (d + 1) (pc + 3) la (r1.toList ++ st) h1 Q) : V M (d + 1) pc la (x2 :: x1 :: .ref a :: st) h Q := v_callV (N := mX1_find) (n := 2) [x1, x2] rfl ok_X1_find (hM ▸ lk_X1_43) im_X1_find se_X1_find (by decide +kernel) rfl okC_1.1 hs ha hcat hd hk kk
set_option maxRecDepth 100000 in
theorem lk_X1_46 : lnk RX1 46 yX1_leadOnFromEntry := Or.inl (gw_T5 54 rfl rfl)
set_option maxRecDepth 100000 in
theorem c_X1_46 {Qk : Option Value → Hp → Prop} (hM : M.1.cls = RX1) {x1 : Value} {a : Nat} (hs : shp a = .inl 1) (ha : a < hn h) (hcat : catS st ≤ 8) (hd : decode M.2.1 pc = .ok (.invokevirtual 46, 3)) (hk : Kc mX1_leadOnFromEntry d (.ref a :: [x1]) h Qk) (kk : ∀ (r1 : Option Value) (h1 : Hp), Qk r1 h1 → V M (d + 1) (pc + 3) la (r1.toList ++ st) h1 Q) : V M (d + 1) pc la (x1 :: .ref a :: st) h Q := v_callV (N := mX1_leadOnFromEntry) (n := 1) [x1] rfl ok_X1_leadOnFromEntry (hM ▸ lk_X1_46) im_X1_leadOnFromEntry se_X1_leadOnFromEntry (by decide +kernel) rfl okC_1.1 hs ha hcat hd hk kk
set_option maxRecDepth 100000 in
theorem lk_X1_50 : lnk RX1 50 yX1_leadOnFromExit := Or.inl (gw_T5 58 rfl rfl)
set_option maxRecDepth 100000 in
theorem c_X1_50 {Qk : Option Value → Hp → Prop} (hM : M.1.cls = RX1) {x1 x2 : Value} {a : Nat} (hs : shp a = .inl 1) (ha : a < hn h) (hcat : catS st ≤ 8) (hd : decode M.2.1 pc = .ok (.invokevirtual 50, 3)) (hk : Kc mX1_leadOnFromExit d (.ref a :: [x1, x2]) h Qk) (kk : ∀ (r1 : Option Value) (h1 : Hp), Qk r1 h1 → V M (d + 1) (pc + 3) la (r1.toList ++ st) h1 Q) : V M (d + 1) pc la (x2 :: x1 :: .ref a :: st) h Q := v_callV (N := mX1_leadOnFromExit) (n := 2) [x1, x2] rfl ok_X1_leadOnFromExit (hM ▸ lk_X1_50) im_X1_leadOnFromExit se_X1_leadOnFromExit (by decide +kernel) rfl okC_1.1 hs ha hcat hd hk kk
set_option maxRecDepth 100000 in
theorem lk_X1_53 : lnk RX1 53 yX3_grown := Or.inl (gw_T5 62 rfl rfl)
set_option maxRecDepth 100000 in
theorem c_X1_53 {Qk : Option Value → Hp → Prop} (hM : M.1.cls = RX1) {x1 : Value} {a : Nat} (hs : shp a = .inl 3) (ha : a < hn h) (hcat : catS st ≤ 8) (hd : decode M.2.1 pc = .ok (.invokevirtual 53, 3)) (hk : Kc mX3_grown d (.ref a :: [x1]) h Qk) (kk : ∀ (r1 : Option Value) (h1 : Hp), Qk r1 h1 → V M (d + 1) (pc + 3) la (r1.toList ++ st) h1 Q) : V M (d + 1) pc la (x1 :: .ref a :: st) h Q := v_callV (N := mX3_grown) (n := 1) [x1] rfl ok_X3_grown (hM ▸ lk_X1_53) im_X3_grown se_X3_grown (by decide +kernel) rfl okC_3.1 hs ha hcat hd hk kk
set_option maxRecDepth 100000 in
theorem lk_X1_39 : lnk RX1 39 yX1_layWay := Or.inl (gw_T5 63 rfl rfl)
set_option maxRecDepth 100000 in
theorem c_X1_39 {Qk : Option Value → Hp → Prop} (hM : M.1.cls = RX1) {x1 x2 : Value} {a : Nat} (hs : shp a = .inl 1) (ha : a < hn h) (hcat : catS st ≤ 8) (hd : decode M.2.1 pc = .ok (.invokevirtual 39, 3)) (hk : Kc mX1_layWay d (.ref a :: [x1, x2]) h Qk) (kk : ∀ (r1 : Option Value) (h1 : Hp), Qk r1 h1 → V M (d + 1) (pc + 3) la (r1.toList ++ st) h1 Q) : V M (d + 1) pc la (x2 :: x1 :: .ref a :: st) h Q := v_callV (N := mX1_layWay) (n := 2) [x1, x2] rfl ok_X1_layWay (hM ▸ lk_X1_39) im_X1_layWay se_X1_layWay (by decide +kernel) rfl okC_1.1 hs ha hcat hd hk kk
set_option maxRecDepth 100000 in
theorem lk_L_126 : lnk RL 126 yX11_far := Or.inl (gw_T5 67 rfl rfl)
set_option maxRecDepth 100000 in
theorem c_L_126 {Qk : Option Value → Hp → Prop} (hM : M.1.cls = RL) {x1 x2 : Value} {a : Nat} (hs : shp a = .inl 11) (ha : a < hn h) (hcat : catS st ≤ 8) (hd : decode M.2.1 pc = .ok (.invokevirtual 126, 3)) (hk : Kc mX11_far d (.ref a :: [x1, x2]) h Qk) (kk : ∀ (r1 : Option Value) (h1 : Hp), Qk r1 h1 → V M (d + 1) (pc + 3) la (r1.toList ++ st) h1 Q) : V M (d + 1) pc la (x2 :: x1 :: .ref a :: st) h Q := v_callV (N := mX11_far) (n := 2) [x1, x2] rfl ok_X11_far (hM ▸ lk_L_126) im_X11_far se_X11_far (by decide +kernel) rfl okC_11.1 hs ha hcat hd hk kk
set_option maxRecDepth 100000 in
theorem lk_X11_279 : lnk RX11 279 yX3_steps := Or.inl (gw_T5 71 rfl rfl)
set_option maxRecDepth 100000 in
theorem c_X11_279 {Qk : Option Value → Hp → Prop} (hM : M.1.cls = RX11) {x1 x2 x3 : Value} {a : Nat} (hs : shp a = .inl 3) (ha : a < hn h) (hcat : catS st ≤ 8) (hd : decode M.2.1 pc = .ok (.invokevirtual 279, 3)) (hk : Kc mX3_steps d (.ref a :: [x1, x2, x3]) h Qk) (kk : ∀ (r1 : Option Value) (h1 : Hp), Qk r1 h1 → V M (d + 1) (pc + 3) la (r1.toList ++ st) h1 Q) : V M (d + 1) pc la (x3 :: x2 :: x1 :: .ref a :: st) h Q := v_callV (N := mX3_steps) (n := 3) [x1, x2, x3] rfl ok_X3_steps (hM ▸ lk_X11_279) im_X3_steps se_X3_steps (by decide +kernel) rfl okC_3.1 hs ha hcat hd hk kk
set_option maxRecDepth 100000 in
theorem lk_X3_31 : lnk RX3 31 yX3_grown := Or.inl (gw_T5 75 rfl rfl)
set_option maxRecDepth 100000 in
theorem c_X3_31 {Qk : Option Value → Hp → Prop} (hM : M.1.cls = RX3) {x1 : Value} {a : Nat} (hs : shp a = .inl 3) (ha : a < hn h) (hcat : catS st ≤ 8) (hd : decode M.2.1 pc = .ok (.invokevirtual 31, 3)) (hk : Kc mX3_grown d (.ref a :: [x1]) h Qk) (kk : ∀ (r1 : Option Value) (h1 : Hp), Qk r1 h1 → V M (d + 1) (pc + 3) la (r1.toList ++ st) h1 Q) : V M (d + 1) pc la (x1 :: .ref a :: st) h Q := v_callV (N := mX3_grown) (n := 1) [x1] rfl ok_X3_grown (hM ▸ lk_X3_31) im_X3_grown se_X3_grown (by decide +kernel) rfl okC_3.1 hs ha hcat hd hk kk
set_option maxRecDepth 100000 in
theorem lk_L_122 : lnk RL 122 yX11_centre := Or.inl (gw_T5 76 rfl rfl)
set_option maxRecDepth 100000 in
theorem c_L_122 {Qk : Option Value → Hp → Prop} (hM : M.1.cls = RL) {x1 : Value} {a : Nat} (hs : shp a = .inl 11) (ha : a < hn h) (hcat : catS st ≤ 8) (hd : decode M.2.1 pc = .ok (.invokevirtual 122, 3)) (hk : Kc mX11_centre d (.ref a :: [x1]) h Qk) (kk : ∀ (r1 : Option Value) (h1 : Hp), Qk r1 h1 → V M (d + 1) (pc + 3) la (r1.toList ++ st) h1 Q) : V M (d + 1) pc la (x1 :: .ref a :: st) h Q := v_callV (N := mX11_centre) (n := 1) [x1] rfl ok_X11_centre (hM ▸ lk_L_122) im_X11_centre se_X11_centre (by decide +kernel) rfl okC_11.1 hs ha hcat hd hk kk
set_option maxRecDepth 100000 in
theorem lk_X11_282 : lnk RX11 282 yX3_farthest := Or.inl (gw_T5 80 rfl rfl)
set_option maxRecDepth 100000 in
theorem c_X11_282 {Qk : Option Value → Hp → Prop} (hM : M.1.cls = RX11) {x1 x2 : Value} {a : Nat} (hs : shp a = .inl 3) (ha : a < hn h) (hcat : catS st ≤ 8) (hd : decode M.2.1 pc = .ok (.invokevirtual 282, 3)) (hk : Kc mX3_farthest d (.ref a :: [x1, x2]) h Qk) (kk : ∀ (r1 : Option Value) (h1 : Hp), Qk r1 h1 → V M (d + 1) (pc + 3) la (r1.toList ++ st) h1 Q) : V M (d + 1) pc la (x2 :: x1 :: .ref a :: st) h Q := v_callV (N := mX3_farthest) (n := 2) [x1, x2] rfl ok_X3_farthest (hM ▸ lk_X11_282) im_X3_farthest se_X3_farthest (by decide +kernel) rfl okC_3.1 hs ha hcat hd hk kk
set_option maxRecDepth 100000 in
theorem lk_L_94 : lnk RL 94 yX11_returns := Or.inl (gw_T5 84 rfl rfl)
set_option maxRecDepth 100000 in
theorem c_L_94 {Qk : Option Value → Hp → Prop} (hM : M.1.cls = RL) {x1 : Value} {a : Nat} (hs : shp a = .inl 11) (ha : a < hn h) (hcat : catS st ≤ 8) (hd : decode M.2.1 pc = .ok (.invokevirtual 94, 3)) (hk : Kc mX11_returns d (.ref a :: [x1]) h Qk) (kk : ∀ (r1 : Option Value) (h1 : Hp), Qk r1 h1 → V M (d + 1) (pc + 3) la (r1.toList ++ st) h1 Q) : V M (d + 1) pc la (x1 :: .ref a :: st) h Q := v_callV (N := mX11_returns) (n := 1) [x1] rfl ok_X11_returns (hM ▸ lk_L_94) im_X11_returns se_X11_returns (by decide +kernel) rfl okC_11.1 hs ha hcat hd hk kk
set_option maxRecDepth 100000 in
theorem lk_X11_285 : lnk RX11 285 yX0_walk := Or.inl (gw_T5 88 rfl rfl)
set_option maxRecDepth 100000 in
theorem c_X11_285 {Qk : Option Value → Hp → Prop} (hM : M.1.cls = RX11) {x1 : Value} {a : Nat} (hs : shp a = .inl 0) (ha : a < hn h) (hcat : catS st ≤ 8) (hd : decode M.2.1 pc = .ok (.invokevirtual 285, 3)) (hk : Kc mX0_walk d (.ref a :: [x1]) h Qk) (kk : ∀ (r1 : Option Value) (h1 : Hp), Qk r1 h1 → V M (d + 1) (pc + 3) la (r1.toList ++ st) h1 Q) : V M (d + 1) pc la (x1 :: .ref a :: st) h Q := v_callV (N := mX0_walk) (n := 1) [x1] rfl ok_X0_walk (hM ▸ lk_X11_285) im_X0_walk se_X0_walk (by decide +kernel) rfl okC_0.1 hs ha hcat hd hk kk
set_option maxRecDepth 100000 in
theorem lk_L_98 : lnk RL 98 yX11_never := Or.inl (gw_T5 89 rfl rfl)
set_option maxRecDepth 100000 in
theorem c_L_98 {Qk : Option Value → Hp → Prop} (hM : M.1.cls = RL) {x1 : Value} {a : Nat} (hs : shp a = .inl 11) (ha : a < hn h) (hcat : catS st ≤ 8) (hd : decode M.2.1 pc = .ok (.invokevirtual 98, 3)) (hk : Kc mX11_never d (.ref a :: [x1]) h Qk) (kk : ∀ (r1 : Option Value) (h1 : Hp), Qk r1 h1 → V M (d + 1) (pc + 3) la (r1.toList ++ st) h1 Q) : V M (d + 1) pc la (x1 :: .ref a :: st) h Q := v_callV (N := mX11_never) (n := 1) [x1] rfl ok_X11_never (hM ▸ lk_L_98) im_X11_never se_X11_never (by decide +kernel) rfl okC_11.1 hs ha hcat hd hk kk
set_option maxRecDepth 100000 in
theorem lk_L_102 : lnk RL 102 yX11_stood := Or.inl (gw_T5 93 rfl rfl)
set_option maxRecDepth 100000 in
theorem c_L_102 {Qk : Option Value → Hp → Prop} (hM : M.1.cls = RL) {x1 x2 x3 : Value} {a : Nat} (hs : shp a = .inl 11) (ha : a < hn h) (hcat : catS st ≤ 8) (hd : decode M.2.1 pc = .ok (.invokevirtual 102, 3)) (hk : Kc mX11_stood d (.ref a :: [x1, x2, x3]) h Qk) (kk : ∀ (r1 : Option Value) (h1 : Hp), Qk r1 h1 → V M (d + 1) (pc + 3) la (r1.toList ++ st) h1 Q) : V M (d + 1) pc la (x3 :: x2 :: x1 :: .ref a :: st) h Q := v_callV (N := mX11_stood) (n := 3) [x1, x2, x3] rfl ok_X11_stood (hM ▸ lk_L_102) im_X11_stood se_X11_stood (by decide +kernel) rfl okC_11.1 hs ha hcat hd hk kk
set_option maxRecDepth 100000 in
theorem lk_L_134 : lnk RL 134 yX11_then := Or.inl (gw_T5 97 rfl rfl)
set_option maxRecDepth 100000 in
theorem c_L_134 {Qk : Option Value → Hp → Prop} (hM : M.1.cls = RL) {x1 x2 x3 : Value} {a : Nat} (hs : shp a = .inl 11) (ha : a < hn h) (hcat : catS st ≤ 8) (hd : decode M.2.1 pc = .ok (.invokevirtual 134, 3)) (hk : Kc mX11_then d (.ref a :: [x1, x2, x3]) h Qk) (kk : ∀ (r1 : Option Value) (h1 : Hp), Qk r1 h1 → V M (d + 1) (pc + 3) la (r1.toList ++ st) h1 Q) : V M (d + 1) pc la (x3 :: x2 :: x1 :: .ref a :: st) h Q := v_callV (N := mX11_then) (n := 3) [x1, x2, x3] rfl ok_X11_then (hM ▸ lk_L_134) im_X11_then se_X11_then (by decide +kernel) rfl okC_11.1 hs ha hcat hd hk kk
set_option maxRecDepth 100000 in
theorem lk_L_138 : lnk RL 138 yX11_tunesIn := Or.inl (gw_T5 101 rfl rfl)
set_option maxRecDepth 100000 in
theorem c_L_138 {Qk : Option Value → Hp → Prop} (hM : M.1.cls = RL) {x1 : Value} {a : Nat} (hs : shp a = .inl 11) (ha : a < hn h) (hcat : catS st ≤ 8) (hd : decode M.2.1 pc = .ok (.invokevirtual 138, 3)) (hk : Kc mX11_tunesIn d (.ref a :: [x1]) h Qk) (kk : ∀ (r1 : Option Value) (h1 : Hp), Qk r1 h1 → V M (d + 1) (pc + 3) la (r1.toList ++ st) h1 Q) : V M (d + 1) pc la (x1 :: .ref a :: st) h Q := v_callV (N := mX11_tunesIn) (n := 1) [x1] rfl ok_X11_tunesIn (hM ▸ lk_L_138) im_X11_tunesIn se_X11_tunesIn (by decide +kernel) rfl okC_11.1 hs ha hcat hd hk kk
set_option maxRecDepth 100000 in
theorem lk_X11_291 : lnk RX11 291 yX0_soak := Or.inl (gw_T5 105 rfl rfl)
set_option maxRecDepth 100000 in
theorem c_X11_291 {Qk : Option Value → Hp → Prop} (hM : M.1.cls = RX11) {x1 x2 x3 : Value} {a : Nat} (hs : shp a = .inl 0) (ha : a < hn h) (hcat : catS st ≤ 8) (hd : decode M.2.1 pc = .ok (.invokevirtual 291, 3)) (hk : Kc mX0_soak d (.ref a :: [x1, x2, x3]) h Qk) (kk : ∀ (r1 : Option Value) (h1 : Hp), Qk r1 h1 → V M (d + 1) (pc + 3) la (r1.toList ++ st) h1 Q) : V M (d + 1) pc la (x3 :: x2 :: x1 :: .ref a :: st) h Q := v_callV (N := mX0_soak) (n := 3) [x1, x2, x3] rfl ok_X0_soak (hM ▸ lk_X11_291) im_X0_soak se_X0_soak (by decide +kernel) rfl okC_0.1 hs ha hcat hd hk kk
set_option maxRecDepth 100000 in
theorem lk_X0_131 : lnk RX0 131 yX0_canSpread := Or.inl (gw_T5 109 rfl rfl)
set_option maxRecDepth 100000 in
theorem c_X0_131 {Qk : Option Value → Hp → Prop} (hM : M.1.cls = RX0) {x1 : Value} {a : Nat} (hs : shp a = .inl 0) (ha : a < hn h) (hcat : catS st ≤ 8) (hd : decode M.2.1 pc = .ok (.invokevirtual 131, 3)) (hk : Kc mX0_canSpread d (.ref a :: [x1]) h Qk) (kk : ∀ (r1 : Option Value) (h1 : Hp), Qk r1 h1 → V M (d + 1) (pc + 3) la (r1.toList ++ st) h1 Q) : V M (d + 1) pc la (x1 :: .ref a :: st) h Q := v_callV (N := mX0_canSpread) (n := 1) [x1] rfl ok_X0_canSpread (hM ▸ lk_X0_131) im_X0_canSpread se_X0_canSpread (by decide +kernel) rfl okC_0.1 hs ha hcat hd hk kk
set_option maxRecDepth 100000 in
theorem lk_L_142 : lnk RL 142 yX11_year := Or.inl (gw_T5 113 rfl rfl)
set_option maxRecDepth 100000 in
theorem c_L_142 {Qk : Option Value → Hp → Prop} (hM : M.1.cls = RL) {x1 x2 x3 : Value} {a : Nat} (hs : shp a = .inl 11) (ha : a < hn h) (hcat : catS st ≤ 8) (hd : decode M.2.1 pc = .ok (.invokevirtual 142, 3)) (hk : Kc mX11_year d (.ref a :: [x1, x2, x3]) h Qk) (kk : ∀ (r1 : Option Value) (h1 : Hp), Qk r1 h1 → V M (d + 1) (pc + 3) la (r1.toList ++ st) h1 Q) : V M (d + 1) pc la (x3 :: x2 :: x1 :: .ref a :: st) h Q := v_callV (N := mX11_year) (n := 3) [x1, x2, x3] rfl ok_X11_year (hM ▸ lk_L_142) im_X11_year se_X11_year (by decide +kernel) rfl okC_11.1 hs ha hcat hd hk kk
set_option maxRecDepth 100000 in
theorem lk_L_130 : lnk RL 130 yX11_pairs := Or.inl (gw_T5 117 rfl rfl)
set_option maxRecDepth 100000 in
theorem c_L_130 {Qk : Option Value → Hp → Prop} (hM : M.1.cls = RL) {x1 : Value} {a : Nat} (hs : shp a = .inl 11) (ha : a < hn h) (hcat : catS st ≤ 8) (hd : decode M.2.1 pc = .ok (.invokevirtual 130, 3)) (hk : Kc mX11_pairs d (.ref a :: [x1]) h Qk) (kk : ∀ (r1 : Option Value) (h1 : Hp), Qk r1 h1 → V M (d + 1) (pc + 3) la (r1.toList ++ st) h1 Q) : V M (d + 1) pc la (x1 :: .ref a :: st) h Q := v_callV (N := mX11_pairs) (n := 1) [x1] rfl ok_X11_pairs (hM ▸ lk_L_130) im_X11_pairs se_X11_pairs (by decide +kernel) rfl okC_11.1 hs ha hcat hd hk kk
set_option maxRecDepth 100000 in
theorem lk_X11_295 : lnk RX11 295 yX5_match := Or.inl (gw_T5 121 rfl rfl)
set_option maxRecDepth 100000 in
theorem c_X11_295 {Qk : Option Value → Hp → Prop} (hM : M.1.cls = RX11) {x1 x2 : Value} {a : Nat} (hs : shp a = .inl 5) (ha : a < hn h) (hcat : catS st ≤ 8) (hd : decode M.2.1 pc = .ok (.invokevirtual 295, 3)) (hk : Kc mX5_match d (.ref a :: [x1, x2]) h Qk) (kk : ∀ (r1 : Option Value) (h1 : Hp), Qk r1 h1 → V M (d + 1) (pc + 3) la (r1.toList ++ st) h1 Q) : V M (d + 1) pc la (x2 :: x1 :: .ref a :: st) h Q := v_callV (N := mX5_match) (n := 2) [x1, x2] rfl ok_X5_match (hM ▸ lk_X11_295) im_X5_match se_X5_match (by decide +kernel) rfl okC_5.1 hs ha hcat hd hk kk
set_option maxRecDepth 100000 in
theorem lk_X5_26 : lnk RX5 26 yX5_pairOff := Or.inl (gw_T5 125 rfl rfl)
set_option maxRecDepth 100000 in
theorem c_X5_26 {Qk : Option Value → Hp → Prop} (hM : M.1.cls = RX5) {x1 x2 x3 x4 : Value} {a : Nat} (hs : shp a = .inl 5) (ha : a < hn h) (hcat : catS st ≤ 8) (hd : decode M.2.1 pc = .ok (.invokevirtual 26, 3)) (hk : Kc mX5_pairOff d (.ref a :: [x1, x2, x3, x4]) h Qk) (kk : ∀ (r1 : Option Value) (h1 : Hp), Qk r1 h1 → V M (d + 1) (pc + 3) la (r1.toList ++ st) h1 Q) : V M (d + 1) pc la (x4 :: x3 :: x2 :: x1 :: .ref a :: st) h Q := v_callV (N := mX5_pairOff) (n := 4) [x1, x2, x3, x4] rfl ok_X5_pairOff (hM ▸ lk_X5_26) im_X5_pairOff se_X5_pairOff (by decide +kernel) rfl okC_5.1 hs ha hcat hd hk kk
set_option maxRecDepth 100000 in
theorem lk_X5_34 : lnk RX5 34 yX5_keepIfLess := Or.inl (gw_T5 130 rfl rfl)
set_option maxRecDepth 100000 in
theorem c_X5_34 {Qk : Option Value → Hp → Prop} (hM : M.1.cls = RX5) {x1 : Value} {a : Nat} (hs : shp a = .inl 5) (ha : a < hn h) (hcat : catS st ≤ 8) (hd : decode M.2.1 pc = .ok (.invokevirtual 34, 3)) (hk : Kc mX5_keepIfLess d (.ref a :: [x1]) h Qk) (kk : ∀ (r1 : Option Value) (h1 : Hp), Qk r1 h1 → V M (d + 1) (pc + 3) la (r1.toList ++ st) h1 Q) : V M (d + 1) pc la (x1 :: .ref a :: st) h Q := v_callV (N := mX5_keepIfLess) (n := 1) [x1] rfl ok_X5_keepIfLess (hM ▸ lk_X5_34) im_X5_keepIfLess se_X5_keepIfLess (by decide +kernel) rfl okC_5.1 hs ha hcat hd hk kk
set_option maxRecDepth 100000 in
theorem lk_X5_43 : lnk RX5 43 yX5_distance := Or.inl (gw_T5 135 rfl rfl)
set_option maxRecDepth 100000 in
theorem c_X5_43 {Qk : Option Value → Hp → Prop} (hM : M.1.cls = RX5) {x1 x2 : Value} {a : Nat} (hs : shp a = .inl 5) (ha : a < hn h) (hcat : catS st ≤ 8) (hd : decode M.2.1 pc = .ok (.invokevirtual 43, 3)) (hk : Kc mX5_distance d (.ref a :: [x1, x2]) h Qk) (kk : ∀ (r1 : Option Value) (h1 : Hp), Qk r1 h1 → V M (d + 1) (pc + 3) la (r1.toList ++ st) h1 Q) : V M (d + 1) pc la (x2 :: x1 :: .ref a :: st) h Q := v_callV (N := mX5_distance) (n := 2) [x1, x2] rfl ok_X5_distance (hM ▸ lk_X5_43) im_X5_distance se_X5_distance (by decide +kernel) rfl okC_5.1 hs ha hcat hd hk kk
set_option maxRecDepth 100000 in
theorem lk_X5_58 : lnk RX5 58 yX3_leftOf := Or.inl (gw_T5 139 rfl rfl)
set_option maxRecDepth 100000 in
theorem c_X5_58 {Qk : Option Value → Hp → Prop} (hM : M.1.cls = RX5) {x1 : Value} {a : Nat} (hs : shp a = .inl 3) (ha : a < hn h) (hcat : catS st ≤ 8) (hd : decode M.2.1 pc = .ok (.invokevirtual 58, 3)) (hk : Kc mX3_leftOf d (.ref a :: [x1]) h Qk) (kk : ∀ (r1 : Option Value) (h1 : Hp), Qk r1 h1 → V M (d + 1) (pc + 3) la (r1.toList ++ st) h1 Q) : V M (d + 1) pc la (x1 :: .ref a :: st) h Q := v_callV (N := mX3_leftOf) (n := 1) [x1] rfl ok_X3_leftOf (hM ▸ lk_X5_58) im_X3_leftOf se_X3_leftOf (by decide +kernel) rfl okC_3.1 hs ha hcat hd hk kk
set_option maxRecDepth 100000 in
theorem ml_X5_63 : Cond.methodLink RX5 63 yJ9_abs_0f7a4 ∈ gw := gw_T5 140 rfl rfl
set_option maxRecDepth 100000 in
theorem lk_X5_68 : lnk RX5 68 yX3_topOf := Or.inl (gw_T5 143 rfl rfl)
set_option maxRecDepth 100000 in
theorem c_X5_68 {Qk : Option Value → Hp → Prop} (hM : M.1.cls = RX5) {x1 : Value} {a : Nat} (hs : shp a = .inl 3) (ha : a < hn h) (hcat : catS st ≤ 8) (hd : decode M.2.1 pc = .ok (.invokevirtual 68, 3)) (hk : Kc mX3_topOf d (.ref a :: [x1]) h Qk) (kk : ∀ (r1 : Option Value) (h1 : Hp), Qk r1 h1 → V M (d + 1) (pc + 3) la (r1.toList ++ st) h1 Q) : V M (d + 1) pc la (x1 :: .ref a :: st) h Q := v_callV (N := mX3_topOf) (n := 1) [x1] rfl ok_X3_topOf (hM ▸ lk_X5_68) im_X3_topOf se_X3_topOf (by decide +kernel) rfl okC_3.1 hs ha hcat hd hk kk
set_option maxRecDepth 100000 in
theorem lk_X5_47 : lnk RX5 47 yJ6_bitCount_0f7a4 := Or.inl (gw_T5 144 rfl rfl)
set_option maxRecDepth 100000 in
theorem c_X5_47 {Qk : Option Value → Hp → Prop} (hM : M.1.cls = RX5) {x1 : Value} (hcat : catS st ≤ 8) (hd : decode M.2.1 pc = .ok (.invokestatic 47, 3)) (hk : Kc mJ6_bitCount_0f7a4 d [x1] h Qk) (kk : ∀ (r1 : Option Value) (h1 : Hp), Qk r1 h1 → V M (d + 1) (pc + 3) la (r1.toList ++ st) h1 Q) : V M (d + 1) pc la (x1 :: st) h Q := v_callS (N := mJ6_bitCount_0f7a4) (n := 1) [x1] rfl ok_J6_bitCount_0f7a4 (hM ▸ lk_X5_47) sm_J6_bitCount_0f7a4 (by decide +kernel) rfl hcat hd hk kk
set_option maxRecDepth 100000 in
theorem lk_L_146 : lnk RL 146 yX11_tell := Or.inl (gw_T5 145 rfl rfl)
set_option maxRecDepth 100000 in
theorem c_L_146 {Qk : Option Value → Hp → Prop} (hM : M.1.cls = RL) {x1 x2 : Value} {a : Nat} (hs : shp a = .inl 11) (ha : a < hn h) (hcat : catS st ≤ 8) (hd : decode M.2.1 pc = .ok (.invokevirtual 146, 3)) (hk : Kc mX11_tell d (.ref a :: [x1, x2]) h Qk) (kk : ∀ (r1 : Option Value) (h1 : Hp), Qk r1 h1 → V M (d + 1) (pc + 3) la (r1.toList ++ st) h1 Q) : V M (d + 1) pc la (x2 :: x1 :: .ref a :: st) h Q := v_callV (N := mX11_tell) (n := 2) [x1, x2] rfl ok_X11_tell (hM ▸ lk_L_146) im_X11_tell se_X11_tell (by decide +kernel) rfl okC_11.1 hs ha hcat hd hk kk
set_option maxRecDepth 100000 in
theorem lk_X11_304 : lnk RX11 304 yX2_keep := Or.inl (gw_T5 149 rfl rfl)
set_option maxRecDepth 100000 in
theorem c_X11_304 {Qk : Option Value → Hp → Prop} (hM : M.1.cls = RX11) {x1 x2 : Value} {a : Nat} (hs : shp a = .inl 2) (ha : a < hn h) (hcat : catS st ≤ 8) (hd : decode M.2.1 pc = .ok (.invokevirtual 304, 3)) (hk : Kc mX2_keep d (.ref a :: [x1, x2]) h Qk) (kk : ∀ (r1 : Option Value) (h1 : Hp), Qk r1 h1 → V M (d + 1) (pc + 3) la (r1.toList ++ st) h1 Q) : V M (d + 1) pc la (x2 :: x1 :: .ref a :: st) h Q := v_callV (N := mX2_keep) (n := 2) [x1, x2] rfl ok_X2_keep (hM ▸ lk_X11_304) im_X2_keep se_X2_keep (by decide +kernel) rfl okC_2.1 hs ha hcat hd hk kk
set_option maxRecDepth 100000 in
theorem lk_L_151 : lnk RL 151 yX11_forget := Or.inl (gw_T5 153 rfl rfl)
set_option maxRecDepth 100000 in
theorem c_L_151 {Qk : Option Value → Hp → Prop} (hM : M.1.cls = RL) {a : Nat} (hs : shp a = .inl 11) (ha : a < hn h) (hcat : catS st ≤ 8) (hd : decode M.2.1 pc = .ok (.invokevirtual 151, 3)) (hk : Kc mX11_forget d (.ref a :: []) h Qk) (kk : ∀ (r1 : Option Value) (h1 : Hp), Qk r1 h1 → V M (d + 1) (pc + 3) la (r1.toList ++ st) h1 Q) : V M (d + 1) pc la (.ref a :: st) h Q := v_callV (N := mX11_forget) (n := 0) [] rfl ok_X11_forget (hM ▸ lk_L_151) im_X11_forget se_X11_forget (by decide +kernel) rfl okC_11.1 hs ha hcat hd hk kk
set_option maxRecDepth 100000 in
theorem lk_L_155 : lnk RL 155 yX11_fits := Or.inl (gw_T5 157 rfl rfl)
set_option maxRecDepth 100000 in
theorem c_L_155 {Qk : Option Value → Hp → Prop} (hM : M.1.cls = RL) {x1 x2 : Value} {a : Nat} (hs : shp a = .inl 11) (ha : a < hn h) (hcat : catS st ≤ 8) (hd : decode M.2.1 pc = .ok (.invokevirtual 155, 3)) (hk : Kc mX11_fits d (.ref a :: [x1, x2]) h Qk) (kk : ∀ (r1 : Option Value) (h1 : Hp), Qk r1 h1 → V M (d + 1) (pc + 3) la (r1.toList ++ st) h1 Q) : V M (d + 1) pc la (x2 :: x1 :: .ref a :: st) h Q := v_callV (N := mX11_fits) (n := 2) [x1, x2] rfl ok_X11_fits (hM ▸ lk_L_155) im_X11_fits se_X11_fits (by decide +kernel) rfl okC_11.1 hs ha hcat hd hk kk
set_option maxRecDepth 100000 in
theorem lk_X11_307 : lnk RX11 307 yX2_knows := Or.inl (gw_T5 161 rfl rfl)
set_option maxRecDepth 100000 in
theorem c_X11_307 {Qk : Option Value → Hp → Prop} (hM : M.1.cls = RX11) {x1 : Value} {a : Nat} (hs : shp a = .inl 2) (ha : a < hn h) (hcat : catS st ≤ 8) (hd : decode M.2.1 pc = .ok (.invokevirtual 307, 3)) (hk : Kc mX2_knows d (.ref a :: [x1]) h Qk) (kk : ∀ (r1 : Option Value) (h1 : Hp), Qk r1 h1 → V M (d + 1) (pc + 3) la (r1.toList ++ st) h1 Q) : V M (d + 1) pc la (x1 :: .ref a :: st) h Q := v_callV (N := mX2_knows) (n := 1) [x1] rfl ok_X2_knows (hM ▸ lk_X11_307) im_X2_knows se_X2_knows (by decide +kernel) rfl okC_2.1 hs ha hcat hd hk kk
set_option maxRecDepth 100000 in
theorem lk_X11_310 : lnk RX11 310 yX2_fitting := Or.inl (gw_T5 165 rfl rfl)
set_option maxRecDepth 100000 in
theorem c_X11_310 {Qk : Option Value → Hp → Prop} (hM : M.1.cls = RX11) {x1 : Value} {a : Nat} (hs : shp a = .inl 2) (ha : a < hn h) (hcat : catS st ≤ 8) (hd : decode M.2.1 pc = .ok (.invokevirtual 310, 3)) (hk : Kc mX2_fitting d (.ref a :: [x1]) h Qk) (kk : ∀ (r1 : Option Value) (h1 : Hp), Qk r1 h1 → V M (d + 1) (pc + 3) la (r1.toList ++ st) h1 Q) : V M (d + 1) pc la (x1 :: .ref a :: st) h Q := v_callV (N := mX2_fitting) (n := 1) [x1] rfl ok_X2_fitting (hM ▸ lk_X11_310) im_X2_fitting se_X2_fitting (by decide +kernel) rfl okC_2.1 hs ha hcat hd hk kk
set_option maxRecDepth 100000 in
theorem lk_X2_24 : lnk RX2 24 yX2_soundingAt := Or.inl (gw_T5 170 rfl rfl)
set_option maxRecDepth 100000 in
theorem c_X2_24 {Qk : Option Value → Hp → Prop} (hM : M.1.cls = RX2) {x1 : Value} (hcat : catS st ≤ 8) (hd : decode M.2.1 pc = .ok (.invokestatic 24, 3)) (hk : Kc mX2_soundingAt d [x1] h Qk) (kk : ∀ (r1 : Option Value) (h1 : Hp), Qk r1 h1 → V M (d + 1) (pc + 3) la (r1.toList ++ st) h1 Q) : V M (d + 1) pc la (x1 :: st) h Q := v_callS (N := mX2_soundingAt) (n := 1) [x1] rfl ok_X2_soundingAt (hM ▸ lk_X2_24) sm_X2_soundingAt (by decide +kernel) rfl hcat hd hk kk
set_option maxRecDepth 100000 in
theorem lk_X11_313 : lnk RX11 313 yX2_firstTune := Or.inl (gw_T5 173 rfl rfl)
set_option maxRecDepth 100000 in
theorem c_X11_313 {Qk : Option Value → Hp → Prop} (hM : M.1.cls = RX11) {x1 : Value} (hcat : catS st ≤ 8) (hd : decode M.2.1 pc = .ok (.invokestatic 313, 3)) (hk : Kc mX2_firstTune d [x1] h Qk) (kk : ∀ (r1 : Option Value) (h1 : Hp), Qk r1 h1 → V M (d + 1) (pc + 3) la (r1.toList ++ st) h1 Q) : V M (d + 1) pc la (x1 :: st) h Q := v_callS (N := mX2_firstTune) (n := 1) [x1] rfl ok_X2_firstTune (hM ▸ lk_X11_313) sm_X2_firstTune (by decide +kernel) rfl hcat hd hk kk
set_option maxRecDepth 100000 in
theorem lk_L_159 : lnk RL 159 yX11_listen := Or.inl (gw_T5 177 rfl rfl)
set_option maxRecDepth 100000 in
theorem c_L_159 {Qk : Option Value → Hp → Prop} (hM : M.1.cls = RL) {x1 : Value} {a : Nat} (hs : shp a = .inl 11) (ha : a < hn h) (hcat : catS st ≤ 8) (hd : decode M.2.1 pc = .ok (.invokevirtual 159, 3)) (hk : Kc mX11_listen d (.ref a :: [x1]) h Qk) (kk : ∀ (r1 : Option Value) (h1 : Hp), Qk r1 h1 → V M (d + 1) (pc + 3) la (r1.toList ++ st) h1 Q) : V M (d + 1) pc la (x1 :: .ref a :: st) h Q := v_callV (N := mX11_listen) (n := 1) [x1] rfl ok_X11_listen (hM ▸ lk_L_159) im_X11_listen se_X11_listen (by decide +kernel) rfl okC_11.1 hs ha hcat hd hk kk
set_option maxRecDepth 100000 in
theorem lk_X11_316 : lnk RX11 316 yX2_bestTime := Or.inl (gw_T5 181 rfl rfl)
set_option maxRecDepth 100000 in
theorem c_X11_316 {Qk : Option Value → Hp → Prop} (hM : M.1.cls = RX11) {x1 : Value} (hcat : catS st ≤ 8) (hd : decode M.2.1 pc = .ok (.invokestatic 316, 3)) (hk : Kc mX2_bestTime d [x1] h Qk) (kk : ∀ (r1 : Option Value) (h1 : Hp), Qk r1 h1 → V M (d + 1) (pc + 3) la (r1.toList ++ st) h1 Q) : V M (d + 1) pc la (x1 :: st) h Q := v_callS (N := mX2_bestTime) (n := 1) [x1] rfl ok_X2_bestTime (hM ▸ lk_X11_316) sm_X2_bestTime (by decide +kernel) rfl hcat hd hk kk
set_option maxRecDepth 100000 in
theorem lk_X2_31 : lnk RX2 31 yJ6_bitCount_0f7a4 := Or.inl (gw_T5 184 rfl rfl)
set_option maxRecDepth 100000 in
theorem c_X2_31 {Qk : Option Value → Hp → Prop} (hM : M.1.cls = RX2) {x1 : Value} (hcat : catS st ≤ 8) (hd : decode M.2.1 pc = .ok (.invokestatic 31, 3)) (hk : Kc mJ6_bitCount_0f7a4 d [x1] h Qk) (kk : ∀ (r1 : Option Value) (h1 : Hp), Qk r1 h1 → V M (d + 1) (pc + 3) la (r1.toList ++ st) h1 Q) : V M (d + 1) pc la (x1 :: st) h Q := v_callS (N := mJ6_bitCount_0f7a4) (n := 1) [x1] rfl ok_J6_bitCount_0f7a4 (hM ▸ lk_X2_31) sm_J6_bitCount_0f7a4 (by decide +kernel) rfl hcat hd hk kk
set_option maxRecDepth 100000 in
theorem ml_X2_36 : Cond.methodLink RX2 36 yJ9_max_7cf53 ∈ gw := gw_T5 185 rfl rfl
set_option maxRecDepth 100000 in
theorem lk_L_12 : lnk RL 12 yX12_init := Or.inl (gw_T5 188 rfl rfl)
set_option maxRecDepth 100000 in
theorem c_L_12 {Qk : Option Value → Hp → Prop} (hM : M.1.cls = RL) {a : Nat} (hcat : catS st ≤ 8) (hd : decode M.2.1 pc = .ok (.invokespecial 12, 3)) (hk : Kc mX12_init d (.ref a :: []) h Qk) (kk : ∀ (r1 : Option Value) (h1 : Hp), Qk r1 h1 → V M (d + 1) (pc + 3) la (r1.toList ++ st) h1 Q) : V M (d + 1) pc la (.ref a :: st) h Q := v_callI (N := mX12_init) (n := 0) [] rfl ok_X12_init (hM ▸ lk_L_12) im_X12_init rfl rfl (by decide +kernel) rfl hcat hd hk kk
set_option maxRecDepth 100000 in
theorem ml_X12_7 : Cond.methodLink RX12 7 Lib.objectInit ∈ gw := gw_T5 191 rfl rfl
set_option maxRecDepth 100000 in
theorem lk_X12_164 : lnk RX12 164 yX12_plain := Or.inl (gw_T5 192 rfl rfl)
set_option maxRecDepth 100000 in
theorem c_X12_164 {Qk : Option Value → Hp → Prop} (hM : M.1.cls = RX12) {x1 : Value} {a : Nat} (hs : shp a = .inl 12) (ha : a < hn h) (hcat : catS st ≤ 8) (hd : decode M.2.1 pc = .ok (.invokevirtual 164, 3)) (hk : Kc mX12_plain d (.ref a :: [x1]) h Qk) (kk : ∀ (r1 : Option Value) (h1 : Hp), Qk r1 h1 → V M (d + 1) (pc + 3) la (r1.toList ++ st) h1 Q) : V M (d + 1) pc la (x1 :: .ref a :: st) h Q := v_callV (N := mX12_plain) (n := 1) [x1] rfl ok_X12_plain (hM ▸ lk_X12_164) im_X12_plain se_X12_plain (by decide +kernel) rfl okC_12.1 hs ha hcat hd hk kk
set_option maxRecDepth 100000 in
theorem lk_X12_168 : lnk RX12 168 yX12_letters := Or.inl (gw_T5 196 rfl rfl)
set_option maxRecDepth 100000 in
theorem c_X12_168 {Qk : Option Value → Hp → Prop} (hM : M.1.cls = RX12) {x1 x2 x3 x4 x5 x6 x7 : Value} (hcat : catS st ≤ 8) (hd : decode M.2.1 pc = .ok (.invokestatic 168, 3)) (hk : Kc mX12_letters d [x1, x2, x3, x4, x5, x6, x7] h Qk) (kk : ∀ (r1 : Option Value) (h1 : Hp), Qk r1 h1 → V M (d + 1) (pc + 3) la (r1.toList ++ st) h1 Q) : V M (d + 1) pc la (x7 :: x6 :: x5 :: x4 :: x3 :: x2 :: x1 :: st) h Q := v_callS (N := mX12_letters) (n := 7) [x1, x2, x3, x4, x5, x6, x7] rfl ok_X12_letters (hM ▸ lk_X12_168) sm_X12_letters (by decide +kernel) rfl hcat hd hk kk
set_option maxRecDepth 100000 in
theorem lk_X12_189 : lnk RX12 189 yX12_appends := Or.inl (gw_T5 199 rfl rfl)
set_option maxRecDepth 100000 in
theorem c_X12_189 {Qk : Option Value → Hp → Prop} (hM : M.1.cls = RX12) {x1 x2 : Value} (hcat : catS st ≤ 8) (hd : decode M.2.1 pc = .ok (.invokestatic 189, 3)) (hk : Kc mX12_appends d [x1, x2] h Qk) (kk : ∀ (r1 : Option Value) (h1 : Hp), Qk r1 h1 → V M (d + 1) (pc + 3) la (r1.toList ++ st) h1 Q) : V M (d + 1) pc la (x2 :: x1 :: st) h Q := v_callS (N := mX12_appends) (n := 2) [x1, x2] rfl ok_X12_appends (hM ▸ lk_X12_189) sm_X12_appends (by decide +kernel) rfl hcat hd hk kk
set_option maxRecDepth 100000 in
theorem lk_X12_172 : lnk RX12 172 yX12_begins := Or.inl (gw_T5 203 rfl rfl)
set_option maxRecDepth 100000 in
theorem c_X12_172 {Qk : Option Value → Hp → Prop} (hM : M.1.cls = RX12) {a : Nat} (hs : shp a = .inl 12) (ha : a < hn h) (hcat : catS st ≤ 8) (hd : decode M.2.1 pc = .ok (.invokevirtual 172, 3)) (hk : Kc mX12_begins d (.ref a :: []) h Qk) (kk : ∀ (r1 : Option Value) (h1 : Hp), Qk r1 h1 → V M (d + 1) (pc + 3) la (r1.toList ++ st) h1 Q) : V M (d + 1) pc la (.ref a :: st) h Q := v_callV (N := mX12_begins) (n := 0) [] rfl ok_X12_begins (hM ▸ lk_X12_172) im_X12_begins se_X12_begins (by decide +kernel) rfl okC_12.1 hs ha hcat hd hk kk
set_option maxRecDepth 100000 in
theorem lk_X12_334 : lnk RX12 334 yX12_cellAt := Or.inl (gw_T5 207 rfl rfl)
set_option maxRecDepth 100000 in
theorem c_X12_334 {Qk : Option Value → Hp → Prop} (hM : M.1.cls = RX12) {x1 x2 : Value} {a : Nat} (hs : shp a = .inl 12) (ha : a < hn h) (hcat : catS st ≤ 8) (hd : decode M.2.1 pc = .ok (.invokevirtual 334, 3)) (hk : Kc mX12_cellAt d (.ref a :: [x1, x2]) h Qk) (kk : ∀ (r1 : Option Value) (h1 : Hp), Qk r1 h1 → V M (d + 1) (pc + 3) la (r1.toList ++ st) h1 Q) : V M (d + 1) pc la (x2 :: x1 :: .ref a :: st) h Q := v_callV (N := mX12_cellAt) (n := 2) [x1, x2] rfl ok_X12_cellAt (hM ▸ lk_X12_334) im_X12_cellAt se_X12_cellAt (by decide +kernel) rfl okC_12.1 hs ha hcat hd hk kk
set_option maxRecDepth 100000 in
theorem lk_X12_343 : lnk RX12 343 yX12_fillsSides := Or.inl (gw_T5 211 rfl rfl)
end FW
