section FW
variable {M : MT} {d pc : Nat} {la : List (Option Value)} {st : List Value} {h : Hp} {Q : Option Value → Hp → Prop}
set_option maxRecDepth 100000 in
theorem fl_X3_9 : Cond.fieldLink RX3 9 (TX3 0).1 (TX3 0).2.1 (TX3 0).2.2.1 ∈ gw := gw_T1 48 rfl rfl
set_option maxRecDepth 100000 in
theorem g_X3_9 (hM : M.1.cls = RX3) {a : Nat} (hs : shp a = .inl 3) (ha : a < hn h) (hd : decode M.2.1 pc = .ok (.getfield 9, 3)) (k : V M d (pc + 3) la (.int (hi h a 0) :: st) h Q) : V M d pc la (.ref a :: st) h Q := v_getf okC_3 hs ha (by decide : 0 < 4) (hM ▸ fl_X3_9) rfl hd k
set_option maxRecDepth 100000 in
theorem p_X3_9 (hM : M.1.cls = RX3) {a : Nat} (hs : shp a = .inl 3) (ha : a < hn h) {x : Int32} (hd : decode M.2.1 pc = .ok (.putfield 9, 3)) (k : V M d (pc + 3) la st (wrI h a 0 x) Q) : V M d pc la (.int x :: .ref a :: st) h Q := v_puti okC_3 hs ha (by decide : 0 < 4) (hM ▸ fl_X3_9) rfl rfl hd k
set_option maxRecDepth 100000 in
theorem fl_X0_68 : Cond.fieldLink RX0 68 (TX3 0).1 (TX3 0).2.1 (TX3 0).2.2.1 ∈ gw := gw_T1 49 rfl rfl
set_option maxRecDepth 100000 in
theorem g_X0_68 (hM : M.1.cls = RX0) {a : Nat} (hs : shp a = .inl 3) (ha : a < hn h) (hd : decode M.2.1 pc = .ok (.getfield 68, 3)) (k : V M d (pc + 3) la (.int (hi h a 0) :: st) h Q) : V M d pc la (.ref a :: st) h Q := v_getf okC_3 hs ha (by decide : 0 < 4) (hM ▸ fl_X0_68) rfl hd k
set_option maxRecDepth 100000 in
theorem fl_X11_174 : Cond.fieldLink RX11 174 (TX3 0).1 (TX3 0).2.1 (TX3 0).2.2.1 ∈ gw := gw_T1 50 rfl rfl
set_option maxRecDepth 100000 in
theorem g_X11_174 (hM : M.1.cls = RX11) {a : Nat} (hs : shp a = .inl 3) (ha : a < hn h) (hd : decode M.2.1 pc = .ok (.getfield 174, 3)) (k : V M d (pc + 3) la (.int (hi h a 0) :: st) h Q) : V M d pc la (.ref a :: st) h Q := v_getf okC_3 hs ha (by decide : 0 < 4) (hM ▸ fl_X11_174) rfl hd k
set_option maxRecDepth 100000 in
theorem fl_X7_208 : Cond.fieldLink RX7 208 (TX3 0).1 (TX3 0).2.1 (TX3 0).2.2.1 ∈ gw := gw_T1 51 rfl rfl
set_option maxRecDepth 100000 in
theorem g_X7_208 (hM : M.1.cls = RX7) {a : Nat} (hs : shp a = .inl 3) (ha : a < hn h) (hd : decode M.2.1 pc = .ok (.getfield 208, 3)) (k : V M d (pc + 3) la (.int (hi h a 0) :: st) h Q) : V M d pc la (.ref a :: st) h Q := v_getf okC_3 hs ha (by decide : 0 < 4) (hM ▸ fl_X7_208) rfl hd k
set_option maxRecDepth 100000 in
theorem fl_X3_15 : Cond.fieldLink RX3 15 (TX3 1).1 (TX3 1).2.1 (TX3 1).2.2.1 ∈ gw := gw_T1 52 rfl rfl
set_option maxRecDepth 100000 in
theorem g_X3_15 (hM : M.1.cls = RX3) {a : Nat} (hs : shp a = .inl 3) (ha : a < hn h) (hd : decode M.2.1 pc = .ok (.getfield 15, 3)) (k : V M d (pc + 3) la (.int (hi h a 1) :: st) h Q) : V M d pc la (.ref a :: st) h Q := v_getf okC_3 hs ha (by decide : 1 < 4) (hM ▸ fl_X3_15) rfl hd k
set_option maxRecDepth 100000 in
theorem p_X3_15 (hM : M.1.cls = RX3) {a : Nat} (hs : shp a = .inl 3) (ha : a < hn h) {x : Int32} (hd : decode M.2.1 pc = .ok (.putfield 15, 3)) (k : V M d (pc + 3) la st (wrI h a 1 x) Q) : V M d pc la (.int x :: .ref a :: st) h Q := v_puti okC_3 hs ha (by decide : 1 < 4) (hM ▸ fl_X3_15) rfl rfl hd k
set_option maxRecDepth 100000 in
theorem fl_X0_71 : Cond.fieldLink RX0 71 (TX3 1).1 (TX3 1).2.1 (TX3 1).2.2.1 ∈ gw := gw_T1 53 rfl rfl
set_option maxRecDepth 100000 in
theorem g_X0_71 (hM : M.1.cls = RX0) {a : Nat} (hs : shp a = .inl 3) (ha : a < hn h) (hd : decode M.2.1 pc = .ok (.getfield 71, 3)) (k : V M d (pc + 3) la (.int (hi h a 1) :: st) h Q) : V M d pc la (.ref a :: st) h Q := v_getf okC_3 hs ha (by decide : 1 < 4) (hM ▸ fl_X0_71) rfl hd k
set_option maxRecDepth 100000 in
theorem fl_X11_177 : Cond.fieldLink RX11 177 (TX3 1).1 (TX3 1).2.1 (TX3 1).2.2.1 ∈ gw := gw_T1 54 rfl rfl
set_option maxRecDepth 100000 in
theorem g_X11_177 (hM : M.1.cls = RX11) {a : Nat} (hs : shp a = .inl 3) (ha : a < hn h) (hd : decode M.2.1 pc = .ok (.getfield 177, 3)) (k : V M d (pc + 3) la (.int (hi h a 1) :: st) h Q) : V M d pc la (.ref a :: st) h Q := v_getf okC_3 hs ha (by decide : 1 < 4) (hM ▸ fl_X11_177) rfl hd k
set_option maxRecDepth 100000 in
theorem fl_X7_211 : Cond.fieldLink RX7 211 (TX3 1).1 (TX3 1).2.1 (TX3 1).2.2.1 ∈ gw := gw_T1 55 rfl rfl
set_option maxRecDepth 100000 in
theorem g_X7_211 (hM : M.1.cls = RX7) {a : Nat} (hs : shp a = .inl 3) (ha : a < hn h) (hd : decode M.2.1 pc = .ok (.getfield 211, 3)) (k : V M d (pc + 3) la (.int (hi h a 1) :: st) h Q) : V M d pc la (.ref a :: st) h Q := v_getf okC_3 hs ha (by decide : 1 < 4) (hM ▸ fl_X7_211) rfl hd k
set_option maxRecDepth 100000 in
theorem fl_X3_18 : Cond.fieldLink RX3 18 (TX3 2).1 (TX3 2).2.1 (TX3 2).2.2.1 ∈ gw := gw_T1 56 rfl rfl
set_option maxRecDepth 100000 in
theorem g_X3_18 (hM : M.1.cls = RX3) {a : Nat} (hs : shp a = .inl 3) (ha : a < hn h) (hd : decode M.2.1 pc = .ok (.getfield 18, 3)) (k : V M d (pc + 3) la (.int (hi h a 2) :: st) h Q) : V M d pc la (.ref a :: st) h Q := v_getf okC_3 hs ha (by decide : 2 < 4) (hM ▸ fl_X3_18) rfl hd k
set_option maxRecDepth 100000 in
theorem p_X3_18 (hM : M.1.cls = RX3) {a : Nat} (hs : shp a = .inl 3) (ha : a < hn h) {x : Int32} (hd : decode M.2.1 pc = .ok (.putfield 18, 3)) (k : V M d (pc + 3) la st (wrI h a 2 x) Q) : V M d pc la (.int x :: .ref a :: st) h Q := v_puti okC_3 hs ha (by decide : 2 < 4) (hM ▸ fl_X3_18) rfl rfl hd k
set_option maxRecDepth 100000 in
theorem fl_X10_35 : Cond.fieldLink RX10 35 (TX3 2).1 (TX3 2).2.1 (TX3 2).2.2.1 ∈ gw := gw_T1 57 rfl rfl
set_option maxRecDepth 100000 in
theorem g_X10_35 (hM : M.1.cls = RX10) {a : Nat} (hs : shp a = .inl 3) (ha : a < hn h) (hd : decode M.2.1 pc = .ok (.getfield 35, 3)) (k : V M d (pc + 3) la (.int (hi h a 2) :: st) h Q) : V M d pc la (.ref a :: st) h Q := v_getf okC_3 hs ha (by decide : 2 < 4) (hM ▸ fl_X10_35) rfl hd k
set_option maxRecDepth 100000 in
theorem fl_X11_211 : Cond.fieldLink RX11 211 (TX3 2).1 (TX3 2).2.1 (TX3 2).2.2.1 ∈ gw := gw_T1 58 rfl rfl
set_option maxRecDepth 100000 in
theorem g_X11_211 (hM : M.1.cls = RX11) {a : Nat} (hs : shp a = .inl 3) (ha : a < hn h) (hd : decode M.2.1 pc = .ok (.getfield 211, 3)) (k : V M d (pc + 3) la (.int (hi h a 2) :: st) h Q) : V M d pc la (.ref a :: st) h Q := v_getf okC_3 hs ha (by decide : 2 < 4) (hM ▸ fl_X11_211) rfl hd k
set_option maxRecDepth 100000 in
theorem fl_X3_21 : Cond.fieldLink RX3 21 (TX3 3).1 (TX3 3).2.1 (TX3 3).2.2.1 ∈ gw := gw_T1 59 rfl rfl
set_option maxRecDepth 100000 in
theorem g_X3_21 (hM : M.1.cls = RX3) {a : Nat} (hs : shp a = .inl 3) (ha : a < hn h) (hd : decode M.2.1 pc = .ok (.getfield 21, 3)) (k : V M d (pc + 3) la (.int (hi h a 3) :: st) h Q) : V M d pc la (.ref a :: st) h Q := v_getf okC_3 hs ha (by decide : 3 < 4) (hM ▸ fl_X3_21) rfl hd k
set_option maxRecDepth 100000 in
theorem p_X3_21 (hM : M.1.cls = RX3) {a : Nat} (hs : shp a = .inl 3) (ha : a < hn h) {x : Int32} (hd : decode M.2.1 pc = .ok (.putfield 21, 3)) (k : V M d (pc + 3) la st (wrI h a 3 x) Q) : V M d pc la (.int x :: .ref a :: st) h Q := v_puti okC_3 hs ha (by decide : 3 < 4) (hM ▸ fl_X3_21) rfl rfl hd k
set_option maxRecDepth 100000 in
theorem fl_X4_11 : Cond.fieldLink RX4 11 (TX4 0).1 (TX4 0).2.1 (TX4 0).2.2.1 ∈ gw := gw_T1 76 rfl rfl
set_option maxRecDepth 100000 in
theorem g_X4_11 (hM : M.1.cls = RX4) {a : Nat} (hs : shp a = .inl 4) (ha : a < hn h) {q : Nat} (hq : hr h a 0 = some q) (hd : decode M.2.1 pc = .ok (.getfield 11, 3)) (k : V M d (pc + 3) la (.ref q :: st) h Q) : V M d pc la (.ref a :: st) h Q := v_getf okC_4 hs ha (by decide : 0 < 4) (hM ▸ fl_X4_11) (congrArg va_rf hq) hd k
set_option maxRecDepth 100000 in
theorem p_X4_11 (hM : M.1.cls = RX4) {a : Nat} (hs : shp a = .inl 4) (ha : a < hn h) (hI : M.1.name = "<init>") {q : Nat} (hd : decode M.2.1 pc = .ok (.putfield 11, 3)) (k : V M d (pc + 3) la st (wrR h a 0 (some q)) Q) : V M d pc la (.ref q :: .ref a :: st) h Q := v_putr okC_4 hs ha (by decide : 0 < 4) (hM ▸ fl_X4_11) (Or.inr ⟨hI, hM.symm ▸ rfl, rfl⟩) (Or.inr ⟨_, rfl⟩) hd k
set_option maxRecDepth 100000 in
theorem fl_X4_15 : Cond.fieldLink RX4 15 (TX4 1).1 (TX4 1).2.1 (TX4 1).2.2.1 ∈ gw := gw_T1 77 rfl rfl
set_option maxRecDepth 100000 in
theorem g_X4_15 (hM : M.1.cls = RX4) {a : Nat} (hs : shp a = .inl 4) (ha : a < hn h) {q : Nat} (hq : hr h a 1 = some q) (hd : decode M.2.1 pc = .ok (.getfield 15, 3)) (k : V M d (pc + 3) la (.ref q :: st) h Q) : V M d pc la (.ref a :: st) h Q := v_getf okC_4 hs ha (by decide : 1 < 4) (hM ▸ fl_X4_15) (congrArg va_rf hq) hd k
set_option maxRecDepth 100000 in
theorem p_X4_15 (hM : M.1.cls = RX4) {a : Nat} (hs : shp a = .inl 4) (ha : a < hn h) (hI : M.1.name = "<init>") {q : Nat} (hd : decode M.2.1 pc = .ok (.putfield 15, 3)) (k : V M d (pc + 3) la st (wrR h a 1 (some q)) Q) : V M d pc la (.ref q :: .ref a :: st) h Q := v_putr okC_4 hs ha (by decide : 1 < 4) (hM ▸ fl_X4_15) (Or.inr ⟨hI, hM.symm ▸ rfl, rfl⟩) (Or.inr ⟨_, rfl⟩) hd k
set_option maxRecDepth 100000 in
theorem fl_X4_18 : Cond.fieldLink RX4 18 (TX4 2).1 (TX4 2).2.1 (TX4 2).2.2.1 ∈ gw := gw_T1 78 rfl rfl
set_option maxRecDepth 100000 in
theorem g_X4_18 (hM : M.1.cls = RX4) {a : Nat} (hs : shp a = .inl 4) (ha : a < hn h) {q : Nat} (hq : hr h a 2 = some q) (hd : decode M.2.1 pc = .ok (.getfield 18, 3)) (k : V M d (pc + 3) la (.ref q :: st) h Q) : V M d pc la (.ref a :: st) h Q := v_getf okC_4 hs ha (by decide : 2 < 4) (hM ▸ fl_X4_18) (congrArg va_rf hq) hd k
set_option maxRecDepth 100000 in
theorem p_X4_18 (hM : M.1.cls = RX4) {a : Nat} (hs : shp a = .inl 4) (ha : a < hn h) (hI : M.1.name = "<init>") {q : Nat} (hd : decode M.2.1 pc = .ok (.putfield 18, 3)) (k : V M d (pc + 3) la st (wrR h a 2 (some q)) Q) : V M d pc la (.ref q :: .ref a :: st) h Q := v_putr okC_4 hs ha (by decide : 2 < 4) (hM ▸ fl_X4_18) (Or.inr ⟨hI, hM.symm ▸ rfl, rfl⟩) (Or.inr ⟨_, rfl⟩) hd k
set_option maxRecDepth 100000 in
theorem fl_X4_21 : Cond.fieldLink RX4 21 (TX4 3).1 (TX4 3).2.1 (TX4 3).2.2.1 ∈ gw := gw_T1 79 rfl rfl
set_option maxRecDepth 100000 in
theorem g_X4_21 (hM : M.1.cls = RX4) {a : Nat} (hs : shp a = .inl 4) (ha : a < hn h) (hd : decode M.2.1 pc = .ok (.getfield 21, 3)) (k : V M d (pc + 3) la (.int (hi h a 3) :: st) h Q) : V M d pc la (.ref a :: st) h Q := v_getf okC_4 hs ha (by decide : 3 < 4) (hM ▸ fl_X4_21) rfl hd k
set_option maxRecDepth 100000 in
theorem p_X4_21 (hM : M.1.cls = RX4) {a : Nat} (hs : shp a = .inl 4) (ha : a < hn h) {x : Int32} (hd : decode M.2.1 pc = .ok (.putfield 21, 3)) (k : V M d (pc + 3) la st (wrI h a 3 x) Q) : V M d pc la (.int x :: .ref a :: st) h Q := v_puti okC_4 hs ha (by decide : 3 < 4) (hM ▸ fl_X4_21) rfl rfl hd k
set_option maxRecDepth 100000 in
theorem fl_X0_12 : Cond.fieldLink RX0 12 (TX0 0).1 (TX0 0).2.1 (TX0 0).2.2.1 ∈ gw := gw_T1 90 rfl rfl
set_option maxRecDepth 100000 in
theorem g_X0_12 (hM : M.1.cls = RX0) {a : Nat} (hs : shp a = .inl 0) (ha : a < hn h) {q : Nat} (hq : hr h a 0 = some q) (hd : decode M.2.1 pc = .ok (.getfield 12, 3)) (k : V M d (pc + 3) la (.ref q :: st) h Q) : V M d pc la (.ref a :: st) h Q := v_getf okC_0 hs ha (by decide : 0 < 6) (hM ▸ fl_X0_12) (congrArg va_rf hq) hd k
set_option maxRecDepth 100000 in
theorem p_X0_12 (hM : M.1.cls = RX0) {a : Nat} (hs : shp a = .inl 0) (ha : a < hn h) (hI : M.1.name = "<init>") {q : Nat} (hd : decode M.2.1 pc = .ok (.putfield 12, 3)) (k : V M d (pc + 3) la st (wrR h a 0 (some q)) Q) : V M d pc la (.ref q :: .ref a :: st) h Q := v_putr okC_0 hs ha (by decide : 0 < 6) (hM ▸ fl_X0_12) (Or.inr ⟨hI, hM.symm ▸ rfl, rfl⟩) (Or.inl ⟨_, rfl⟩) hd k
set_option maxRecDepth 100000 in
theorem fl_X11_36 : Cond.fieldLink RX11 36 (TX0 0).1 (TX0 0).2.1 (TX0 0).2.2.1 ∈ gw := gw_T1 91 rfl rfl
set_option maxRecDepth 100000 in
theorem g_X11_36 (hM : M.1.cls = RX11) {a : Nat} (hs : shp a = .inl 0) (ha : a < hn h) {q : Nat} (hq : hr h a 0 = some q) (hd : decode M.2.1 pc = .ok (.getfield 36, 3)) (k : V M d (pc + 3) la (.ref q :: st) h Q) : V M d pc la (.ref a :: st) h Q := v_getf okC_0 hs ha (by decide : 0 < 6) (hM ▸ fl_X11_36) (congrArg va_rf hq) hd k
set_option maxRecDepth 100000 in
theorem fl_X7_153 : Cond.fieldLink RX7 153 (TX0 0).1 (TX0 0).2.1 (TX0 0).2.2.1 ∈ gw := gw_T1 92 rfl rfl
set_option maxRecDepth 100000 in
theorem g_X7_153 (hM : M.1.cls = RX7) {a : Nat} (hs : shp a = .inl 0) (ha : a < hn h) {q : Nat} (hq : hr h a 0 = some q) (hd : decode M.2.1 pc = .ok (.getfield 153, 3)) (k : V M d (pc + 3) la (.ref q :: st) h Q) : V M d pc la (.ref a :: st) h Q := v_getf okC_0 hs ha (by decide : 0 < 6) (hM ▸ fl_X7_153) (congrArg va_rf hq) hd k
set_option maxRecDepth 100000 in
theorem fl_X0_21 : Cond.fieldLink RX0 21 (TX0 1).1 (TX0 1).2.1 (TX0 1).2.2.1 ∈ gw := gw_T1 93 rfl rfl
set_option maxRecDepth 100000 in
theorem g_X0_21 (hM : M.1.cls = RX0) {a : Nat} (hs : shp a = .inl 0) (ha : a < hn h) {q : Nat} (hq : hr h a 1 = some q) (hd : decode M.2.1 pc = .ok (.getfield 21, 3)) (k : V M d (pc + 3) la (.ref q :: st) h Q) : V M d pc la (.ref a :: st) h Q := v_getf okC_0 hs ha (by decide : 1 < 6) (hM ▸ fl_X0_21) (congrArg va_rf hq) hd k
set_option maxRecDepth 100000 in
theorem p_X0_21 (hM : M.1.cls = RX0) {a : Nat} (hs : shp a = .inl 0) (ha : a < hn h) (hI : M.1.name = "<init>") {q : Nat} (hd : decode M.2.1 pc = .ok (.putfield 21, 3)) (k : V M d (pc + 3) la st (wrR h a 1 (some q)) Q) : V M d pc la (.ref q :: .ref a :: st) h Q := v_putr okC_0 hs ha (by decide : 1 < 6) (hM ▸ fl_X0_21) (Or.inr ⟨hI, hM.symm ▸ rfl, rfl⟩) (Or.inl ⟨_, rfl⟩) hd k
set_option maxRecDepth 100000 in
theorem fl_X7_168 : Cond.fieldLink RX7 168 (TX0 1).1 (TX0 1).2.1 (TX0 1).2.2.1 ∈ gw := gw_T1 94 rfl rfl
set_option maxRecDepth 100000 in
theorem g_X7_168 (hM : M.1.cls = RX7) {a : Nat} (hs : shp a = .inl 0) (ha : a < hn h) {q : Nat} (hq : hr h a 1 = some q) (hd : decode M.2.1 pc = .ok (.getfield 168, 3)) (k : V M d (pc + 3) la (.ref q :: st) h Q) : V M d pc la (.ref a :: st) h Q := v_getf okC_0 hs ha (by decide : 1 < 6) (hM ▸ fl_X7_168) (congrArg va_rf hq) hd k
set_option maxRecDepth 100000 in
theorem fl_X0_25 : Cond.fieldLink RX0 25 (TX0 2).1 (TX0 2).2.1 (TX0 2).2.2.1 ∈ gw := gw_T1 95 rfl rfl
set_option maxRecDepth 100000 in
theorem g_X0_25 (hM : M.1.cls = RX0) {a : Nat} (hs : shp a = .inl 0) (ha : a < hn h) (hd : decode M.2.1 pc = .ok (.getfield 25, 3)) (k : V M d (pc + 3) la (.int (hi h a 2) :: st) h Q) : V M d pc la (.ref a :: st) h Q := v_getf okC_0 hs ha (by decide : 2 < 6) (hM ▸ fl_X0_25) rfl hd k
set_option maxRecDepth 100000 in
theorem p_X0_25 (hM : M.1.cls = RX0) {a : Nat} (hs : shp a = .inl 0) (ha : a < hn h) {x : Int32} (hd : decode M.2.1 pc = .ok (.putfield 25, 3)) (k : V M d (pc + 3) la st (wrI h a 2 x) Q) : V M d pc la (.int x :: .ref a :: st) h Q := v_puti okC_0 hs ha (by decide : 2 < 6) (hM ▸ fl_X0_25) rfl rfl hd k
set_option maxRecDepth 100000 in
theorem fl_X11_149 : Cond.fieldLink RX11 149 (TX0 2).1 (TX0 2).2.1 (TX0 2).2.2.1 ∈ gw := gw_T1 96 rfl rfl
set_option maxRecDepth 100000 in
theorem g_X11_149 (hM : M.1.cls = RX11) {a : Nat} (hs : shp a = .inl 0) (ha : a < hn h) (hd : decode M.2.1 pc = .ok (.getfield 149, 3)) (k : V M d (pc + 3) la (.int (hi h a 2) :: st) h Q) : V M d pc la (.ref a :: st) h Q := v_getf okC_0 hs ha (by decide : 2 < 6) (hM ▸ fl_X11_149) rfl hd k
set_option maxRecDepth 100000 in
theorem fl_X7_165 : Cond.fieldLink RX7 165 (TX0 2).1 (TX0 2).2.1 (TX0 2).2.2.1 ∈ gw := gw_T1 97 rfl rfl
set_option maxRecDepth 100000 in
theorem g_X7_165 (hM : M.1.cls = RX7) {a : Nat} (hs : shp a = .inl 0) (ha : a < hn h) (hd : decode M.2.1 pc = .ok (.getfield 165, 3)) (k : V M d (pc + 3) la (.int (hi h a 2) :: st) h Q) : V M d pc la (.ref a :: st) h Q := v_getf okC_0 hs ha (by decide : 2 < 6) (hM ▸ fl_X7_165) rfl hd k
set_option maxRecDepth 100000 in
theorem p_X7_165 (hM : M.1.cls = RX7) {a : Nat} (hs : shp a = .inl 0) (ha : a < hn h) {x : Int32} (hd : decode M.2.1 pc = .ok (.putfield 165, 3)) (k : V M d (pc + 3) la st (wrI h a 2 x) Q) : V M d pc la (.int x :: .ref a :: st) h Q := v_puti okC_0 hs ha (by decide : 2 < 6) (hM ▸ fl_X7_165) rfl rfl hd k
set_option maxRecDepth 100000 in
theorem fl_X0_29 : Cond.fieldLink RX0 29 (TX0 3).1 (TX0 3).2.1 (TX0 3).2.2.1 ∈ gw := gw_T1 98 rfl rfl
set_option maxRecDepth 100000 in
theorem g_X0_29 (hM : M.1.cls = RX0) {a : Nat} (hs : shp a = .inl 0) (ha : a < hn h) (hd : decode M.2.1 pc = .ok (.getfield 29, 3)) (k : V M d (pc + 3) la (.int (hi h a 3) :: st) h Q) : V M d pc la (.ref a :: st) h Q := v_getf okC_0 hs ha (by decide : 3 < 6) (hM ▸ fl_X0_29) rfl hd k
set_option maxRecDepth 100000 in
theorem p_X0_29 (hM : M.1.cls = RX0) {a : Nat} (hs : shp a = .inl 0) (ha : a < hn h) {x : Int32} (hd : decode M.2.1 pc = .ok (.putfield 29, 3)) (k : V M d (pc + 3) la st (wrI h a 3 x) Q) : V M d pc la (.int x :: .ref a :: st) h Q := v_puti okC_0 hs ha (by decide : 3 < 6) (hM ▸ fl_X0_29) rfl rfl hd k
set_option maxRecDepth 100000 in
theorem fl_X7_128 : Cond.fieldLink RX7 128 (TX0 3).1 (TX0 3).2.1 (TX0 3).2.2.1 ∈ gw := gw_T1 99 rfl rfl
set_option maxRecDepth 100000 in
theorem p_X7_128 (hM : M.1.cls = RX7) {a : Nat} (hs : shp a = .inl 0) (ha : a < hn h) {x : Int32} (hd : decode M.2.1 pc = .ok (.putfield 128, 3)) (k : V M d (pc + 3) la st (wrI h a 3 x) Q) : V M d pc la (.int x :: .ref a :: st) h Q := v_puti okC_0 hs ha (by decide : 3 < 6) (hM ▸ fl_X7_128) rfl rfl hd k
set_option maxRecDepth 100000 in
theorem fl_X11_217 : Cond.fieldLink RX11 217 (TX0 3).1 (TX0 3).2.1 (TX0 3).2.2.1 ∈ gw := gw_T1 100 rfl rfl
set_option maxRecDepth 100000 in
theorem g_X11_217 (hM : M.1.cls = RX11) {a : Nat} (hs : shp a = .inl 0) (ha : a < hn h) (hd : decode M.2.1 pc = .ok (.getfield 217, 3)) (k : V M d (pc + 3) la (.int (hi h a 3) :: st) h Q) : V M d pc la (.ref a :: st) h Q := v_getf okC_0 hs ha (by decide : 3 < 6) (hM ▸ fl_X11_217) rfl hd k
set_option maxRecDepth 100000 in
theorem fl_X0_32 : Cond.fieldLink RX0 32 (TX0 4).1 (TX0 4).2.1 (TX0 4).2.2.1 ∈ gw := gw_T1 101 rfl rfl
set_option maxRecDepth 100000 in
theorem g_X0_32 (hM : M.1.cls = RX0) {a : Nat} (hs : shp a = .inl 0) (ha : a < hn h) (hd : decode M.2.1 pc = .ok (.getfield 32, 3)) (k : V M d (pc + 3) la (.int (hi h a 4) :: st) h Q) : V M d pc la (.ref a :: st) h Q := v_getf okC_0 hs ha (by decide : 4 < 6) (hM ▸ fl_X0_32) rfl hd k
set_option maxRecDepth 100000 in
theorem p_X0_32 (hM : M.1.cls = RX0) {a : Nat} (hs : shp a = .inl 0) (ha : a < hn h) {x : Int32} (hd : decode M.2.1 pc = .ok (.putfield 32, 3)) (k : V M d (pc + 3) la st (wrI h a 4 x) Q) : V M d pc la (.int x :: .ref a :: st) h Q := v_puti okC_0 hs ha (by decide : 4 < 6) (hM ▸ fl_X0_32) rfl rfl hd k
set_option maxRecDepth 100000 in
theorem fl_X7_131 : Cond.fieldLink RX7 131 (TX0 4).1 (TX0 4).2.1 (TX0 4).2.2.1 ∈ gw := gw_T1 102 rfl rfl
set_option maxRecDepth 100000 in
theorem p_X7_131 (hM : M.1.cls = RX7) {a : Nat} (hs : shp a = .inl 0) (ha : a < hn h) {x : Int32} (hd : decode M.2.1 pc = .ok (.putfield 131, 3)) (k : V M d (pc + 3) la st (wrI h a 4 x) Q) : V M d pc la (.int x :: .ref a :: st) h Q := v_puti okC_0 hs ha (by decide : 4 < 6) (hM ▸ fl_X7_131) rfl rfl hd k
set_option maxRecDepth 100000 in
theorem fl_X11_288 : Cond.fieldLink RX11 288 (TX0 4).1 (TX0 4).2.1 (TX0 4).2.2.1 ∈ gw := gw_T1 103 rfl rfl
set_option maxRecDepth 100000 in
theorem g_X11_288 (hM : M.1.cls = RX11) {a : Nat} (hs : shp a = .inl 0) (ha : a < hn h) (hd : decode M.2.1 pc = .ok (.getfield 288, 3)) (k : V M d (pc + 3) la (.int (hi h a 4) :: st) h Q) : V M d pc la (.ref a :: st) h Q := v_getf okC_0 hs ha (by decide : 4 < 6) (hM ▸ fl_X11_288) rfl hd k
set_option maxRecDepth 100000 in
theorem fl_X0_35 : Cond.fieldLink RX0 35 (TX0 5).1 (TX0 5).2.1 (TX0 5).2.2.1 ∈ gw := gw_T1 104 rfl rfl
set_option maxRecDepth 100000 in
theorem g_X0_35 (hM : M.1.cls = RX0) {a : Nat} (hs : shp a = .inl 0) (ha : a < hn h) {q : Nat} (hq : hr h a 5 = some q) (hd : decode M.2.1 pc = .ok (.getfield 35, 3)) (k : V M d (pc + 3) la (.ref q :: st) h Q) : V M d pc la (.ref a :: st) h Q := v_getf okC_0 hs ha (by decide : 5 < 6) (hM ▸ fl_X0_35) (congrArg va_rf hq) hd k
set_option maxRecDepth 100000 in
theorem p_X0_35 (hM : M.1.cls = RX0) {a : Nat} (hs : shp a = .inl 0) (ha : a < hn h) (hI : M.1.name = "<init>") {q : Nat} (hd : decode M.2.1 pc = .ok (.putfield 35, 3)) (k : V M d (pc + 3) la st (wrR h a 5 (some q)) Q) : V M d pc la (.ref q :: .ref a :: st) h Q := v_putr okC_0 hs ha (by decide : 5 < 6) (hM ▸ fl_X0_35) (Or.inr ⟨hI, hM.symm ▸ rfl, rfl⟩) (Or.inr ⟨_, rfl⟩) hd k
set_option maxRecDepth 100000 in
theorem fl_X8_9 : Cond.fieldLink RX8 9 (TX8 0).1 (TX8 0).2.1 (TX8 0).2.2.1 ∈ gw := gw_T1 124 rfl rfl
set_option maxRecDepth 100000 in
theorem g_X8_9 (hM : M.1.cls = RX8) {a : Nat} (hs : shp a = .inl 8) (ha : a < hn h) (hd : decode M.2.1 pc = .ok (.getfield 9, 3)) (k : V M d (pc + 3) la (.int (hi h a 0) :: st) h Q) : V M d pc la (.ref a :: st) h Q := v_getf okC_8 hs ha (by decide : 0 < 7) (hM ▸ fl_X8_9) rfl hd k
set_option maxRecDepth 100000 in
theorem p_X8_9 (hM : M.1.cls = RX8) {a : Nat} (hs : shp a = .inl 8) (ha : a < hn h) {x : Int32} (hd : decode M.2.1 pc = .ok (.putfield 9, 3)) (k : V M d (pc + 3) la st (wrI h a 0 x) Q) : V M d pc la (.int x :: .ref a :: st) h Q := v_puti okC_8 hs ha (by decide : 0 < 7) (hM ▸ fl_X8_9) rfl rfl hd k
set_option maxRecDepth 100000 in
theorem fl_X10_45 : Cond.fieldLink RX10 45 (TX8 0).1 (TX8 0).2.1 (TX8 0).2.2.1 ∈ gw := gw_T1 125 rfl rfl
set_option maxRecDepth 100000 in
theorem g_X10_45 (hM : M.1.cls = RX10) {a : Nat} (hs : shp a = .inl 8) (ha : a < hn h) (hd : decode M.2.1 pc = .ok (.getfield 45, 3)) (k : V M d (pc + 3) la (.int (hi h a 0) :: st) h Q) : V M d pc la (.ref a :: st) h Q := v_getf okC_8 hs ha (by decide : 0 < 7) (hM ▸ fl_X10_45) rfl hd k
set_option maxRecDepth 100000 in
theorem fl_X0_60 : Cond.fieldLink RX0 60 (TX8 0).1 (TX8 0).2.1 (TX8 0).2.2.1 ∈ gw := gw_T1 126 rfl rfl
set_option maxRecDepth 100000 in
theorem g_X0_60 (hM : M.1.cls = RX0) {a : Nat} (hs : shp a = .inl 8) (ha : a < hn h) (hd : decode M.2.1 pc = .ok (.getfield 60, 3)) (k : V M d (pc + 3) la (.int (hi h a 0) :: st) h Q) : V M d pc la (.ref a :: st) h Q := v_getf okC_8 hs ha (by decide : 0 < 7) (hM ▸ fl_X0_60) rfl hd k
set_option maxRecDepth 100000 in
theorem p_X0_60 (hM : M.1.cls = RX0) {a : Nat} (hs : shp a = .inl 8) (ha : a < hn h) {x : Int32} (hd : decode M.2.1 pc = .ok (.putfield 60, 3)) (k : V M d (pc + 3) la st (wrI h a 0 x) Q) : V M d pc la (.int x :: .ref a :: st) h Q := v_puti okC_8 hs ha (by decide : 0 < 7) (hM ▸ fl_X0_60) rfl rfl hd k
set_option maxRecDepth 100000 in
theorem fl_X11_139 : Cond.fieldLink RX11 139 (TX8 0).1 (TX8 0).2.1 (TX8 0).2.2.1 ∈ gw := gw_T1 127 rfl rfl
set_option maxRecDepth 100000 in
theorem g_X11_139 (hM : M.1.cls = RX11) {a : Nat} (hs : shp a = .inl 8) (ha : a < hn h) (hd : decode M.2.1 pc = .ok (.getfield 139, 3)) (k : V M d (pc + 3) la (.int (hi h a 0) :: st) h Q) : V M d pc la (.ref a :: st) h Q := v_getf okC_8 hs ha (by decide : 0 < 7) (hM ▸ fl_X11_139) rfl hd k
set_option maxRecDepth 100000 in
theorem fl_X8_15 : Cond.fieldLink RX8 15 (TX8 1).1 (TX8 1).2.1 (TX8 1).2.2.1 ∈ gw := gw_T1 128 rfl rfl
set_option maxRecDepth 100000 in
theorem g_X8_15 (hM : M.1.cls = RX8) {a : Nat} (hs : shp a = .inl 8) (ha : a < hn h) (hd : decode M.2.1 pc = .ok (.getfield 15, 3)) (k : V M d (pc + 3) la (.int (hi h a 1) :: st) h Q) : V M d pc la (.ref a :: st) h Q := v_getf okC_8 hs ha (by decide : 1 < 7) (hM ▸ fl_X8_15) rfl hd k
set_option maxRecDepth 100000 in
theorem p_X8_15 (hM : M.1.cls = RX8) {a : Nat} (hs : shp a = .inl 8) (ha : a < hn h) {x : Int32} (hd : decode M.2.1 pc = .ok (.putfield 15, 3)) (k : V M d (pc + 3) la st (wrI h a 1 x) Q) : V M d pc la (.int x :: .ref a :: st) h Q := v_puti okC_8 hs ha (by decide : 1 < 7) (hM ▸ fl_X8_15) rfl rfl hd k
set_option maxRecDepth 100000 in
theorem fl_X11_180 : Cond.fieldLink RX11 180 (TX8 1).1 (TX8 1).2.1 (TX8 1).2.2.1 ∈ gw := gw_T1 129 rfl rfl
set_option maxRecDepth 100000 in
theorem g_X11_180 (hM : M.1.cls = RX11) {a : Nat} (hs : shp a = .inl 8) (ha : a < hn h) (hd : decode M.2.1 pc = .ok (.getfield 180, 3)) (k : V M d (pc + 3) la (.int (hi h a 1) :: st) h Q) : V M d pc la (.ref a :: st) h Q := v_getf okC_8 hs ha (by decide : 1 < 7) (hM ▸ fl_X11_180) rfl hd k
set_option maxRecDepth 100000 in
theorem p_X11_180 (hM : M.1.cls = RX11) {a : Nat} (hs : shp a = .inl 8) (ha : a < hn h) {x : Int32} (hd : decode M.2.1 pc = .ok (.putfield 180, 3)) (k : V M d (pc + 3) la st (wrI h a 1 x) Q) : V M d pc la (.int x :: .ref a :: st) h Q := v_puti okC_8 hs ha (by decide : 1 < 7) (hM ▸ fl_X11_180) rfl rfl hd k
set_option maxRecDepth 100000 in
theorem fl_X8_18 : Cond.fieldLink RX8 18 (TX8 2).1 (TX8 2).2.1 (TX8 2).2.2.1 ∈ gw := gw_T1 130 rfl rfl
set_option maxRecDepth 100000 in
theorem g_X8_18 (hM : M.1.cls = RX8) {a : Nat} (hs : shp a = .inl 8) (ha : a < hn h) (hd : decode M.2.1 pc = .ok (.getfield 18, 3)) (k : V M d (pc + 3) la (.int (hi h a 2) :: st) h Q) : V M d pc la (.ref a :: st) h Q := v_getf okC_8 hs ha (by decide : 2 < 7) (hM ▸ fl_X8_18) rfl hd k
set_option maxRecDepth 100000 in
theorem p_X8_18 (hM : M.1.cls = RX8) {a : Nat} (hs : shp a = .inl 8) (ha : a < hn h) {x : Int32} (hd : decode M.2.1 pc = .ok (.putfield 18, 3)) (k : V M d (pc + 3) la st (wrI h a 2 x) Q) : V M d pc la (.int x :: .ref a :: st) h Q := v_puti okC_8 hs ha (by decide : 2 < 7) (hM ▸ fl_X8_18) rfl rfl hd k
set_option maxRecDepth 100000 in
theorem fl_X10_40 : Cond.fieldLink RX10 40 (TX8 2).1 (TX8 2).2.1 (TX8 2).2.2.1 ∈ gw := gw_T1 131 rfl rfl
set_option maxRecDepth 100000 in
theorem g_X10_40 (hM : M.1.cls = RX10) {a : Nat} (hs : shp a = .inl 8) (ha : a < hn h) (hd : decode M.2.1 pc = .ok (.getfield 40, 3)) (k : V M d (pc + 3) la (.int (hi h a 2) :: st) h Q) : V M d pc la (.ref a :: st) h Q := v_getf okC_8 hs ha (by decide : 2 < 7) (hM ▸ fl_X10_40) rfl hd k
set_option maxRecDepth 100000 in
theorem fl_X11_186 : Cond.fieldLink RX11 186 (TX8 2).1 (TX8 2).2.1 (TX8 2).2.2.1 ∈ gw := gw_T1 132 rfl rfl
set_option maxRecDepth 100000 in
theorem g_X11_186 (hM : M.1.cls = RX11) {a : Nat} (hs : shp a = .inl 8) (ha : a < hn h) (hd : decode M.2.1 pc = .ok (.getfield 186, 3)) (k : V M d (pc + 3) la (.int (hi h a 2) :: st) h Q) : V M d pc la (.ref a :: st) h Q := v_getf okC_8 hs ha (by decide : 2 < 7) (hM ▸ fl_X11_186) rfl hd k
set_option maxRecDepth 100000 in
theorem p_X11_186 (hM : M.1.cls = RX11) {a : Nat} (hs : shp a = .inl 8) (ha : a < hn h) {x : Int32} (hd : decode M.2.1 pc = .ok (.putfield 186, 3)) (k : V M d (pc + 3) la st (wrI h a 2 x) Q) : V M d pc la (.int x :: .ref a :: st) h Q := v_puti okC_8 hs ha (by decide : 2 < 7) (hM ▸ fl_X11_186) rfl rfl hd k
set_option maxRecDepth 100000 in
theorem fl_X7_195 : Cond.fieldLink RX7 195 (TX8 2).1 (TX8 2).2.1 (TX8 2).2.2.1 ∈ gw := gw_T1 133 rfl rfl
set_option maxRecDepth 100000 in
theorem g_X7_195 (hM : M.1.cls = RX7) {a : Nat} (hs : shp a = .inl 8) (ha : a < hn h) (hd : decode M.2.1 pc = .ok (.getfield 195, 3)) (k : V M d (pc + 3) la (.int (hi h a 2) :: st) h Q) : V M d pc la (.ref a :: st) h Q := v_getf okC_8 hs ha (by decide : 2 < 7) (hM ▸ fl_X7_195) rfl hd k
set_option maxRecDepth 100000 in
theorem p_X7_195 (hM : M.1.cls = RX7) {a : Nat} (hs : shp a = .inl 8) (ha : a < hn h) {x : Int32} (hd : decode M.2.1 pc = .ok (.putfield 195, 3)) (k : V M d (pc + 3) la st (wrI h a 2 x) Q) : V M d pc la (.int x :: .ref a :: st) h Q := v_puti okC_8 hs ha (by decide : 2 < 7) (hM ▸ fl_X7_195) rfl rfl hd k
set_option maxRecDepth 100000 in
theorem fl_X8_21 : Cond.fieldLink RX8 21 (TX8 3).1 (TX8 3).2.1 (TX8 3).2.2.1 ∈ gw := gw_T1 134 rfl rfl
set_option maxRecDepth 100000 in
theorem g_X8_21 (hM : M.1.cls = RX8) {a : Nat} (hs : shp a = .inl 8) (ha : a < hn h) (hd : decode M.2.1 pc = .ok (.getfield 21, 3)) (k : V M d (pc + 3) la (.int (hi h a 3) :: st) h Q) : V M d pc la (.ref a :: st) h Q := v_getf okC_8 hs ha (by decide : 3 < 7) (hM ▸ fl_X8_21) rfl hd k
set_option maxRecDepth 100000 in
theorem p_X8_21 (hM : M.1.cls = RX8) {a : Nat} (hs : shp a = .inl 8) (ha : a < hn h) {x : Int32} (hd : decode M.2.1 pc = .ok (.putfield 21, 3)) (k : V M d (pc + 3) la st (wrI h a 3 x) Q) : V M d pc la (.int x :: .ref a :: st) h Q := v_puti okC_8 hs ha (by decide : 3 < 7) (hM ▸ fl_X8_21) rfl rfl hd k
set_option maxRecDepth 100000 in
theorem fl_X10_54 : Cond.fieldLink RX10 54 (TX8 3).1 (TX8 3).2.1 (TX8 3).2.2.1 ∈ gw := gw_T1 135 rfl rfl
set_option maxRecDepth 100000 in
theorem g_X10_54 (hM : M.1.cls = RX10) {a : Nat} (hs : shp a = .inl 8) (ha : a < hn h) (hd : decode M.2.1 pc = .ok (.getfield 54, 3)) (k : V M d (pc + 3) la (.int (hi h a 3) :: st) h Q) : V M d pc la (.ref a :: st) h Q := v_getf okC_8 hs ha (by decide : 3 < 7) (hM ▸ fl_X10_54) rfl hd k
set_option maxRecDepth 100000 in
theorem fl_X0_74 : Cond.fieldLink RX0 74 (TX8 3).1 (TX8 3).2.1 (TX8 3).2.2.1 ∈ gw := gw_T1 136 rfl rfl
set_option maxRecDepth 100000 in
theorem g_X0_74 (hM : M.1.cls = RX0) {a : Nat} (hs : shp a = .inl 8) (ha : a < hn h) (hd : decode M.2.1 pc = .ok (.getfield 74, 3)) (k : V M d (pc + 3) la (.int (hi h a 3) :: st) h Q) : V M d pc la (.ref a :: st) h Q := v_getf okC_8 hs ha (by decide : 3 < 7) (hM ▸ fl_X0_74) rfl hd k
set_option maxRecDepth 100000 in
theorem fl_X11_183 : Cond.fieldLink RX11 183 (TX8 3).1 (TX8 3).2.1 (TX8 3).2.2.1 ∈ gw := gw_T1 137 rfl rfl
set_option maxRecDepth 100000 in
theorem g_X11_183 (hM : M.1.cls = RX11) {a : Nat} (hs : shp a = .inl 8) (ha : a < hn h) (hd : decode M.2.1 pc = .ok (.getfield 183, 3)) (k : V M d (pc + 3) la (.int (hi h a 3) :: st) h Q) : V M d pc la (.ref a :: st) h Q := v_getf okC_8 hs ha (by decide : 3 < 7) (hM ▸ fl_X11_183) rfl hd k
set_option maxRecDepth 100000 in
theorem fl_X8_24 : Cond.fieldLink RX8 24 (TX8 4).1 (TX8 4).2.1 (TX8 4).2.2.1 ∈ gw := gw_T1 138 rfl rfl
set_option maxRecDepth 100000 in
theorem g_X8_24 (hM : M.1.cls = RX8) {a : Nat} (hs : shp a = .inl 8) (ha : a < hn h) {q : Nat} (hq : hr h a 4 = some q) (hd : decode M.2.1 pc = .ok (.getfield 24, 3)) (k : V M d (pc + 3) la (.ref q :: st) h Q) : V M d pc la (.ref a :: st) h Q := v_getf okC_8 hs ha (by decide : 4 < 7) (hM ▸ fl_X8_24) (congrArg va_rf hq) hd k
set_option maxRecDepth 100000 in
theorem p_X8_24 (hM : M.1.cls = RX8) {a : Nat} (hs : shp a = .inl 8) (ha : a < hn h) (hI : M.1.name = "<init>") {q : Nat} (hd : decode M.2.1 pc = .ok (.putfield 24, 3)) (k : V M d (pc + 3) la st (wrR h a 4 (some q)) Q) : V M d pc la (.ref q :: .ref a :: st) h Q := v_putr okC_8 hs ha (by decide : 4 < 7) (hM ▸ fl_X8_24) (Or.inr ⟨hI, hM.symm ▸ rfl, rfl⟩) (Or.inr ⟨_, rfl⟩) hd k
set_option maxRecDepth 100000 in
theorem fl_X8_28 : Cond.fieldLink RX8 28 (TX8 5).1 (TX8 5).2.1 (TX8 5).2.2.1 ∈ gw := gw_T1 139 rfl rfl
set_option maxRecDepth 100000 in
theorem g_X8_28 (hM : M.1.cls = RX8) {a : Nat} (hs : shp a = .inl 8) (ha : a < hn h) {q : Nat} (hq : hr h a 5 = some q) (hd : decode M.2.1 pc = .ok (.getfield 28, 3)) (k : V M d (pc + 3) la (.ref q :: st) h Q) : V M d pc la (.ref a :: st) h Q := v_getf okC_8 hs ha (by decide : 5 < 7) (hM ▸ fl_X8_28) (congrArg va_rf hq) hd k
set_option maxRecDepth 100000 in
theorem p_X8_28 (hM : M.1.cls = RX8) {a : Nat} (hs : shp a = .inl 8) (ha : a < hn h) (hI : M.1.name = "<init>") {q : Nat} (hd : decode M.2.1 pc = .ok (.putfield 28, 3)) (k : V M d (pc + 3) la st (wrR h a 5 (some q)) Q) : V M d pc la (.ref q :: .ref a :: st) h Q := v_putr okC_8 hs ha (by decide : 5 < 7) (hM ▸ fl_X8_28) (Or.inr ⟨hI, hM.symm ▸ rfl, rfl⟩) (Or.inr ⟨_, rfl⟩) hd k
set_option maxRecDepth 100000 in
theorem fl_X5_38 : Cond.fieldLink RX5 38 (TX8 5).1 (TX8 5).2.1 (TX8 5).2.2.1 ∈ gw := gw_T1 140 rfl rfl
set_option maxRecDepth 100000 in
theorem g_X5_38 (hM : M.1.cls = RX5) {a : Nat} (hs : shp a = .inl 8) (ha : a < hn h) {q : Nat} (hq : hr h a 5 = some q) (hd : decode M.2.1 pc = .ok (.getfield 38, 3)) (k : V M d (pc + 3) la (.ref q :: st) h Q) : V M d pc la (.ref a :: st) h Q := v_getf okC_8 hs ha (by decide : 5 < 7) (hM ▸ fl_X5_38) (congrArg va_rf hq) hd k
set_option maxRecDepth 100000 in
theorem fl_X0_103 : Cond.fieldLink RX0 103 (TX8 5).1 (TX8 5).2.1 (TX8 5).2.2.1 ∈ gw := gw_T1 141 rfl rfl
set_option maxRecDepth 100000 in
theorem g_X0_103 (hM : M.1.cls = RX0) {a : Nat} (hs : shp a = .inl 8) (ha : a < hn h) {q : Nat} (hq : hr h a 5 = some q) (hd : decode M.2.1 pc = .ok (.getfield 103, 3)) (k : V M d (pc + 3) la (.ref q :: st) h Q) : V M d pc la (.ref a :: st) h Q := v_getf okC_8 hs ha (by decide : 5 < 7) (hM ▸ fl_X0_103) (congrArg va_rf hq) hd k
set_option maxRecDepth 100000 in
theorem fl_X11_163 : Cond.fieldLink RX11 163 (TX8 5).1 (TX8 5).2.1 (TX8 5).2.2.1 ∈ gw := gw_T1 142 rfl rfl
set_option maxRecDepth 100000 in
theorem g_X11_163 (hM : M.1.cls = RX11) {a : Nat} (hs : shp a = .inl 8) (ha : a < hn h) {q : Nat} (hq : hr h a 5 = some q) (hd : decode M.2.1 pc = .ok (.getfield 163, 3)) (k : V M d (pc + 3) la (.ref q :: st) h Q) : V M d pc la (.ref a :: st) h Q := v_getf okC_8 hs ha (by decide : 5 < 7) (hM ▸ fl_X11_163) (congrArg va_rf hq) hd k
set_option maxRecDepth 100000 in
theorem fl_X7_205 : Cond.fieldLink RX7 205 (TX8 5).1 (TX8 5).2.1 (TX8 5).2.2.1 ∈ gw := gw_T1 143 rfl rfl
set_option maxRecDepth 100000 in
theorem g_X7_205 (hM : M.1.cls = RX7) {a : Nat} (hs : shp a = .inl 8) (ha : a < hn h) {q : Nat} (hq : hr h a 5 = some q) (hd : decode M.2.1 pc = .ok (.getfield 205, 3)) (k : V M d (pc + 3) la (.ref q :: st) h Q) : V M d pc la (.ref a :: st) h Q := v_getf okC_8 hs ha (by decide : 5 < 7) (hM ▸ fl_X7_205) (congrArg va_rf hq) hd k
set_option maxRecDepth 100000 in
theorem fl_X8_32 : Cond.fieldLink RX8 32 (TX8 6).1 (TX8 6).2.1 (TX8 6).2.2.1 ∈ gw := gw_T1 144 rfl rfl
set_option maxRecDepth 100000 in
theorem g_X8_32 (hM : M.1.cls = RX8) {a : Nat} (hs : shp a = .inl 8) (ha : a < hn h) {q : Nat} (hq : hr h a 6 = some q) (hd : decode M.2.1 pc = .ok (.getfield 32, 3)) (k : V M d (pc + 3) la (.ref q :: st) h Q) : V M d pc la (.ref a :: st) h Q := v_getf okC_8 hs ha (by decide : 6 < 7) (hM ▸ fl_X8_32) (congrArg va_rf hq) hd k
set_option maxRecDepth 100000 in
theorem p_X8_32 (hM : M.1.cls = RX8) {a : Nat} (hs : shp a = .inl 8) (ha : a < hn h) (hI : M.1.name = "<init>") {q : Nat} (hd : decode M.2.1 pc = .ok (.putfield 32, 3)) (k : V M d (pc + 3) la st (wrR h a 6 (some q)) Q) : V M d pc la (.ref q :: .ref a :: st) h Q := v_putr okC_8 hs ha (by decide : 6 < 7) (hM ▸ fl_X8_32) (Or.inr ⟨hI, hM.symm ▸ rfl, rfl⟩) (Or.inr ⟨_, rfl⟩) hd k
set_option maxRecDepth 100000 in
theorem fl_X0_106 : Cond.fieldLink RX0 106 (TX8 6).1 (TX8 6).2.1 (TX8 6).2.2.1 ∈ gw := gw_T1 145 rfl rfl
set_option maxRecDepth 100000 in
theorem g_X0_106 (hM : M.1.cls = RX0) {a : Nat} (hs : shp a = .inl 8) (ha : a < hn h) {q : Nat} (hq : hr h a 6 = some q) (hd : decode M.2.1 pc = .ok (.getfield 106, 3)) (k : V M d (pc + 3) la (.ref q :: st) h Q) : V M d pc la (.ref a :: st) h Q := v_getf okC_8 hs ha (by decide : 6 < 7) (hM ▸ fl_X0_106) (congrArg va_rf hq) hd k
set_option maxRecDepth 100000 in
theorem fl_X11_167 : Cond.fieldLink RX11 167 (TX8 6).1 (TX8 6).2.1 (TX8 6).2.2.1 ∈ gw := gw_T1 146 rfl rfl
set_option maxRecDepth 100000 in
theorem g_X11_167 (hM : M.1.cls = RX11) {a : Nat} (hs : shp a = .inl 8) (ha : a < hn h) {q : Nat} (hq : hr h a 6 = some q) (hd : decode M.2.1 pc = .ok (.getfield 167, 3)) (k : V M d (pc + 3) la (.ref q :: st) h Q) : V M d pc la (.ref a :: st) h Q := v_getf okC_8 hs ha (by decide : 6 < 7) (hM ▸ fl_X11_167) (congrArg va_rf hq) hd k
set_option maxRecDepth 100000 in
theorem fl_X9_33 : Cond.fieldLink RX9 33 (TX9 0).1 (TX9 0).2.1 (TX9 0).2.2.1 ∈ gw := gw_T1 221 rfl rfl
set_option maxRecDepth 100000 in
theorem g_X9_33 (hM : M.1.cls = RX9) {a : Nat} (hs : shp a = .inl 9) (ha : a < hn h) {q : Nat} (hq : hr h a 0 = some q) (hd : decode M.2.1 pc = .ok (.getfield 33, 3)) (k : V M d (pc + 3) la (.ref q :: st) h Q) : V M d pc la (.ref a :: st) h Q := v_getf okC_9 hs ha (by decide : 0 < 7) (hM ▸ fl_X9_33) (congrArg va_rf hq) hd k
set_option maxRecDepth 100000 in
theorem p_X9_33 (hM : M.1.cls = RX9) {a : Nat} (hs : shp a = .inl 9) (ha : a < hn h) (hI : M.1.name = "<init>") {q : Nat} (hd : decode M.2.1 pc = .ok (.putfield 33, 3)) (k : V M d (pc + 3) la st (wrR h a 0 (some q)) Q) : V M d pc la (.ref q :: .ref a :: st) h Q := v_putr okC_9 hs ha (by decide : 0 < 7) (hM ▸ fl_X9_33) (Or.inr ⟨hI, hM.symm ▸ rfl, rfl⟩) (Or.inr ⟨_, rfl⟩) hd k
set_option maxRecDepth 100000 in
theorem fl_X9_11 : Cond.fieldLink RX9 11 (TX9 1).1 (TX9 1).2.1 (TX9 1).2.2.1 ∈ gw := gw_T1 222 rfl rfl
set_option maxRecDepth 100000 in
theorem g_X9_11 (hM : M.1.cls = RX9) {a : Nat} (hs : shp a = .inl 9) (ha : a < hn h) {q : Nat} (hq : hr h a 1 = some q) (hd : decode M.2.1 pc = .ok (.getfield 11, 3)) (k : V M d (pc + 3) la (.ref q :: st) h Q) : V M d pc la (.ref a :: st) h Q := v_getf okC_9 hs ha (by decide : 1 < 7) (hM ▸ fl_X9_11) (congrArg va_rf hq) hd k
set_option maxRecDepth 100000 in
theorem p_X9_11 (hM : M.1.cls = RX9) {a : Nat} (hs : shp a = .inl 9) (ha : a < hn h) (hI : M.1.name = "<init>") {q : Nat} (hd : decode M.2.1 pc = .ok (.putfield 11, 3)) (k : V M d (pc + 3) la st (wrR h a 1 (some q)) Q) : V M d pc la (.ref q :: .ref a :: st) h Q := v_putr okC_9 hs ha (by decide : 1 < 7) (hM ▸ fl_X9_11) (Or.inr ⟨hI, hM.symm ▸ rfl, rfl⟩) (Or.inr ⟨_, rfl⟩) hd k
set_option maxRecDepth 100000 in
theorem fl_X9_15 : Cond.fieldLink RX9 15 (TX9 2).1 (TX9 2).2.1 (TX9 2).2.2.1 ∈ gw := gw_T1 223 rfl rfl
set_option maxRecDepth 100000 in
theorem g_X9_15 (hM : M.1.cls = RX9) {a : Nat} (hs : shp a = .inl 9) (ha : a < hn h) {q : Nat} (hq : hr h a 2 = some q) (hd : decode M.2.1 pc = .ok (.getfield 15, 3)) (k : V M d (pc + 3) la (.ref q :: st) h Q) : V M d pc la (.ref a :: st) h Q := v_getf okC_9 hs ha (by decide : 2 < 7) (hM ▸ fl_X9_15) (congrArg va_rf hq) hd k
set_option maxRecDepth 100000 in
theorem p_X9_15 (hM : M.1.cls = RX9) {a : Nat} (hs : shp a = .inl 9) (ha : a < hn h) (hI : M.1.name = "<init>") {q : Nat} (hd : decode M.2.1 pc = .ok (.putfield 15, 3)) (k : V M d (pc + 3) la st (wrR h a 2 (some q)) Q) : V M d pc la (.ref q :: .ref a :: st) h Q := v_putr okC_9 hs ha (by decide : 2 < 7) (hM ▸ fl_X9_15) (Or.inr ⟨hI, hM.symm ▸ rfl, rfl⟩) (Or.inr ⟨_, rfl⟩) hd k
set_option maxRecDepth 100000 in
theorem fl_X9_19 : Cond.fieldLink RX9 19 (TX9 3).1 (TX9 3).2.1 (TX9 3).2.2.1 ∈ gw := gw_T1 224 rfl rfl
set_option maxRecDepth 100000 in
theorem g_X9_19 (hM : M.1.cls = RX9) {a : Nat} (hs : shp a = .inl 9) (ha : a < hn h) {q : Nat} (hq : hr h a 3 = some q) (hd : decode M.2.1 pc = .ok (.getfield 19, 3)) (k : V M d (pc + 3) la (.ref q :: st) h Q) : V M d pc la (.ref a :: st) h Q := v_getf okC_9 hs ha (by decide : 3 < 7) (hM ▸ fl_X9_19) (congrArg va_rf hq) hd k
set_option maxRecDepth 100000 in
theorem p_X9_19 (hM : M.1.cls = RX9) {a : Nat} (hs : shp a = .inl 9) (ha : a < hn h) (hI : M.1.name = "<init>") {q : Nat} (hd : decode M.2.1 pc = .ok (.putfield 19, 3)) (k : V M d (pc + 3) la st (wrR h a 3 (some q)) Q) : V M d pc la (.ref q :: .ref a :: st) h Q := v_putr okC_9 hs ha (by decide : 3 < 7) (hM ▸ fl_X9_19) (Or.inr ⟨hI, hM.symm ▸ rfl, rfl⟩) (Or.inr ⟨_, rfl⟩) hd k
set_option maxRecDepth 100000 in
theorem fl_X9_23 : Cond.fieldLink RX9 23 (TX9 4).1 (TX9 4).2.1 (TX9 4).2.2.1 ∈ gw := gw_T1 225 rfl rfl
set_option maxRecDepth 100000 in
theorem g_X9_23 (hM : M.1.cls = RX9) {a : Nat} (hs : shp a = .inl 9) (ha : a < hn h) {q : Nat} (hq : hr h a 4 = some q) (hd : decode M.2.1 pc = .ok (.getfield 23, 3)) (k : V M d (pc + 3) la (.ref q :: st) h Q) : V M d pc la (.ref a :: st) h Q := v_getf okC_9 hs ha (by decide : 4 < 7) (hM ▸ fl_X9_23) (congrArg va_rf hq) hd k
set_option maxRecDepth 100000 in
theorem p_X9_23 (hM : M.1.cls = RX9) {a : Nat} (hs : shp a = .inl 9) (ha : a < hn h) (hI : M.1.name = "<init>") {q : Nat} (hd : decode M.2.1 pc = .ok (.putfield 23, 3)) (k : V M d (pc + 3) la st (wrR h a 4 (some q)) Q) : V M d pc la (.ref q :: .ref a :: st) h Q := v_putr okC_9 hs ha (by decide : 4 < 7) (hM ▸ fl_X9_23) (Or.inr ⟨hI, hM.symm ▸ rfl, rfl⟩) (Or.inr ⟨_, rfl⟩) hd k
set_option maxRecDepth 100000 in
theorem fl_X9_26 : Cond.fieldLink RX9 26 (TX9 5).1 (TX9 5).2.1 (TX9 5).2.2.1 ∈ gw := gw_T1 226 rfl rfl
set_option maxRecDepth 100000 in
theorem g_X9_26 (hM : M.1.cls = RX9) {a : Nat} (hs : shp a = .inl 9) (ha : a < hn h) (hd : decode M.2.1 pc = .ok (.getfield 26, 3)) (k : V M d (pc + 3) la (.int (hi h a 5) :: st) h Q) : V M d pc la (.ref a :: st) h Q := v_getf okC_9 hs ha (by decide : 5 < 7) (hM ▸ fl_X9_26) rfl hd k
set_option maxRecDepth 100000 in
theorem p_X9_26 (hM : M.1.cls = RX9) {a : Nat} (hs : shp a = .inl 9) (ha : a < hn h) {x : Int32} (hd : decode M.2.1 pc = .ok (.putfield 26, 3)) (k : V M d (pc + 3) la st (wrI h a 5 x) Q) : V M d pc la (.int x :: .ref a :: st) h Q := v_puti okC_9 hs ha (by decide : 5 < 7) (hM ▸ fl_X9_26) rfl rfl hd k
set_option maxRecDepth 100000 in
theorem fl_X9_30 : Cond.fieldLink RX9 30 (TX9 6).1 (TX9 6).2.1 (TX9 6).2.2.1 ∈ gw := gw_T1 227 rfl rfl
set_option maxRecDepth 100000 in
theorem g_X9_30 (hM : M.1.cls = RX9) {a : Nat} (hs : shp a = .inl 9) (ha : a < hn h) (hd : decode M.2.1 pc = .ok (.getfield 30, 3)) (k : V M d (pc + 3) la (.int (hi h a 6) :: st) h Q) : V M d pc la (.ref a :: st) h Q := v_getf okC_9 hs ha (by decide : 6 < 7) (hM ▸ fl_X9_30) rfl hd k
set_option maxRecDepth 100000 in
theorem p_X9_30 (hM : M.1.cls = RX9) {a : Nat} (hs : shp a = .inl 9) (ha : a < hn h) {x : Int32} (hd : decode M.2.1 pc = .ok (.putfield 30, 3)) (k : V M d (pc + 3) la st (wrI h a 6 x) Q) : V M d pc la (.int x :: .ref a :: st) h Q := v_puti okC_9 hs ha (by decide : 6 < 7) (hM ▸ fl_X9_30) rfl rfl hd k
set_option maxRecDepth 100000 in
theorem fl_X7_12 : Cond.fieldLink RX7 12 (TX7 0).1 (TX7 0).2.1 (TX7 0).2.2.1 ∈ gw := gw_T2 5 rfl rfl
set_option maxRecDepth 100000 in
theorem g_X7_12 (hM : M.1.cls = RX7) {a : Nat} (hs : shp a = .inl 7) (ha : a < hn h) {q : Nat} (hq : hr h a 0 = some q) (hd : decode M.2.1 pc = .ok (.getfield 12, 3)) (k : V M d (pc + 3) la (.ref q :: st) h Q) : V M d pc la (.ref a :: st) h Q := v_getf okC_7 hs ha (by decide : 0 < 15) (hM ▸ fl_X7_12) (congrArg va_rf hq) hd k
set_option maxRecDepth 100000 in
theorem p_X7_12 (hM : M.1.cls = RX7) {a : Nat} (hs : shp a = .inl 7) (ha : a < hn h) (hI : M.1.name = "<init>") {q : Nat} (hd : decode M.2.1 pc = .ok (.putfield 12, 3)) (k : V M d (pc + 3) la st (wrR h a 0 (some q)) Q) : V M d pc la (.ref q :: .ref a :: st) h Q := v_putr okC_7 hs ha (by decide : 0 < 15) (hM ▸ fl_X7_12) (Or.inr ⟨hI, hM.symm ▸ rfl, rfl⟩) (Or.inl ⟨_, rfl⟩) hd k
set_option maxRecDepth 100000 in
theorem fl_X11_109 : Cond.fieldLink RX11 109 (TX7 0).1 (TX7 0).2.1 (TX7 0).2.2.1 ∈ gw := gw_T2 6 rfl rfl
set_option maxRecDepth 100000 in
theorem g_X11_109 (hM : M.1.cls = RX11) {a : Nat} (hs : shp a = .inl 7) (ha : a < hn h) {q : Nat} (hq : hr h a 0 = some q) (hd : decode M.2.1 pc = .ok (.getfield 109, 3)) (k : V M d (pc + 3) la (.ref q :: st) h Q) : V M d pc la (.ref a :: st) h Q := v_getf okC_7 hs ha (by decide : 0 < 15) (hM ▸ fl_X11_109) (congrArg va_rf hq) hd k
set_option maxRecDepth 100000 in
theorem fl_X7_21 : Cond.fieldLink RX7 21 (TX7 1).1 (TX7 1).2.1 (TX7 1).2.2.1 ∈ gw := gw_T2 7 rfl rfl
set_option maxRecDepth 100000 in
theorem g_X7_21 (hM : M.1.cls = RX7) {a : Nat} (hs : shp a = .inl 7) (ha : a < hn h) {q : Nat} (hq : hr h a 1 = some q) (hd : decode M.2.1 pc = .ok (.getfield 21, 3)) (k : V M d (pc + 3) la (.ref q :: st) h Q) : V M d pc la (.ref a :: st) h Q := v_getf okC_7 hs ha (by decide : 1 < 15) (hM ▸ fl_X7_21) (congrArg va_rf hq) hd k
set_option maxRecDepth 100000 in
theorem p_X7_21 (hM : M.1.cls = RX7) {a : Nat} (hs : shp a = .inl 7) (ha : a < hn h) (hI : M.1.name = "<init>") {q : Nat} (hd : decode M.2.1 pc = .ok (.putfield 21, 3)) (k : V M d (pc + 3) la st (wrR h a 1 (some q)) Q) : V M d pc la (.ref q :: .ref a :: st) h Q := v_putr okC_7 hs ha (by decide : 1 < 15) (hM ▸ fl_X7_21) (Or.inr ⟨hI, hM.symm ▸ rfl, rfl⟩) (Or.inl ⟨_, rfl⟩) hd k
set_option maxRecDepth 100000 in
theorem fl_X11_116 : Cond.fieldLink RX11 116 (TX7 1).1 (TX7 1).2.1 (TX7 1).2.2.1 ∈ gw := gw_T2 8 rfl rfl
set_option maxRecDepth 100000 in
theorem g_X11_116 (hM : M.1.cls = RX11) {a : Nat} (hs : shp a = .inl 7) (ha : a < hn h) {q : Nat} (hq : hr h a 1 = some q) (hd : decode M.2.1 pc = .ok (.getfield 116, 3)) (k : V M d (pc + 3) la (.ref q :: st) h Q) : V M d pc la (.ref a :: st) h Q := v_getf okC_7 hs ha (by decide : 1 < 15) (hM ▸ fl_X11_116) (congrArg va_rf hq) hd k
set_option maxRecDepth 100000 in
theorem fl_X7_25 : Cond.fieldLink RX7 25 (TX7 2).1 (TX7 2).2.1 (TX7 2).2.2.1 ∈ gw := gw_T2 9 rfl rfl
set_option maxRecDepth 100000 in
theorem p_X7_25 (hM : M.1.cls = RX7) {a : Nat} (hs : shp a = .inl 7) (ha : a < hn h) {x : Int32} (hd : decode M.2.1 pc = .ok (.putfield 25, 3)) (k : V M d (pc + 3) la st (wrI h a 2 x) Q) : V M d pc la (.int x :: .ref a :: st) h Q := v_puti okC_7 hs ha (by decide : 2 < 15) (hM ▸ fl_X7_25) rfl rfl hd k
set_option maxRecDepth 100000 in
theorem fl_X11_106 : Cond.fieldLink RX11 106 (TX7 2).1 (TX7 2).2.1 (TX7 2).2.2.1 ∈ gw := gw_T2 10 rfl rfl
set_option maxRecDepth 100000 in
theorem g_X11_106 (hM : M.1.cls = RX11) {a : Nat} (hs : shp a = .inl 7) (ha : a < hn h) (hd : decode M.2.1 pc = .ok (.getfield 106, 3)) (k : V M d (pc + 3) la (.int (hi h a 2) :: st) h Q) : V M d pc la (.ref a :: st) h Q := v_getf okC_7 hs ha (by decide : 2 < 15) (hM ▸ fl_X11_106) rfl hd k
set_option maxRecDepth 100000 in
theorem fl_X7_69 : Cond.fieldLink RX7 69 (TX7 3).1 (TX7 3).2.1 (TX7 3).2.2.1 ∈ gw := gw_T2 11 rfl rfl
set_option maxRecDepth 100000 in
theorem g_X7_69 (hM : M.1.cls = RX7) {a : Nat} (hs : shp a = .inl 7) (ha : a < hn h) {q : Nat} (hq : hr h a 3 = some q) (hd : decode M.2.1 pc = .ok (.getfield 69, 3)) (k : V M d (pc + 3) la (.ref q :: st) h Q) : V M d pc la (.ref a :: st) h Q := v_getf okC_7 hs ha (by decide : 3 < 15) (hM ▸ fl_X7_69) (congrArg va_rf hq) hd k
set_option maxRecDepth 100000 in
theorem p_X7_69 (hM : M.1.cls = RX7) {a : Nat} (hs : shp a = .inl 7) (ha : a < hn h) (hI : M.1.name = "<init>") {q : Nat} (hd : decode M.2.1 pc = .ok (.putfield 69, 3)) (k : V M d (pc + 3) la st (wrR h a 3 (some q)) Q) : V M d pc la (.ref q :: .ref a :: st) h Q := v_putr okC_7 hs ha (by decide : 3 < 15) (hM ▸ fl_X7_69) (Or.inr ⟨hI, hM.symm ▸ rfl, rfl⟩) (Or.inl ⟨_, rfl⟩) hd k
set_option maxRecDepth 100000 in
theorem fl_X7_29 : Cond.fieldLink RX7 29 (TX7 4).1 (TX7 4).2.1 (TX7 4).2.2.1 ∈ gw := gw_T2 12 rfl rfl
set_option maxRecDepth 100000 in
theorem g_X7_29 (hM : M.1.cls = RX7) {a : Nat} (hs : shp a = .inl 7) (ha : a < hn h) (hd : decode M.2.1 pc = .ok (.getfield 29, 3)) (k : V M d (pc + 3) la (.int (hi h a 4) :: st) h Q) : V M d pc la (.ref a :: st) h Q := v_getf okC_7 hs ha (by decide : 4 < 15) (hM ▸ fl_X7_29) rfl hd k
set_option maxRecDepth 100000 in
theorem p_X7_29 (hM : M.1.cls = RX7) {a : Nat} (hs : shp a = .inl 7) (ha : a < hn h) {x : Int32} (hd : decode M.2.1 pc = .ok (.putfield 29, 3)) (k : V M d (pc + 3) la st (wrI h a 4 x) Q) : V M d pc la (.int x :: .ref a :: st) h Q := v_puti okC_7 hs ha (by decide : 4 < 15) (hM ▸ fl_X7_29) rfl rfl hd k
set_option maxRecDepth 100000 in
theorem fl_X7_32 : Cond.fieldLink RX7 32 (TX7 5).1 (TX7 5).2.1 (TX7 5).2.2.1 ∈ gw := gw_T2 13 rfl rfl
set_option maxRecDepth 100000 in
theorem g_X7_32 (hM : M.1.cls = RX7) {a : Nat} (hs : shp a = .inl 7) (ha : a < hn h) (hd : decode M.2.1 pc = .ok (.getfield 32, 3)) (k : V M d (pc + 3) la (.int (hi h a 5) :: st) h Q) : V M d pc la (.ref a :: st) h Q := v_getf okC_7 hs ha (by decide : 5 < 15) (hM ▸ fl_X7_32) rfl hd k
set_option maxRecDepth 100000 in
theorem p_X7_32 (hM : M.1.cls = RX7) {a : Nat} (hs : shp a = .inl 7) (ha : a < hn h) {x : Int32} (hd : decode M.2.1 pc = .ok (.putfield 32, 3)) (k : V M d (pc + 3) la st (wrI h a 5 x) Q) : V M d pc la (.int x :: .ref a :: st) h Q := v_puti okC_7 hs ha (by decide : 5 < 15) (hM ▸ fl_X7_32) rfl rfl hd k
set_option maxRecDepth 100000 in
theorem fl_X7_35 : Cond.fieldLink RX7 35 (TX7 6).1 (TX7 6).2.1 (TX7 6).2.2.1 ∈ gw := gw_T2 14 rfl rfl
set_option maxRecDepth 100000 in
theorem g_X7_35 (hM : M.1.cls = RX7) {a : Nat} (hs : shp a = .inl 7) (ha : a < hn h) (hd : decode M.2.1 pc = .ok (.getfield 35, 3)) (k : V M d (pc + 3) la (.int (hi h a 6) :: st) h Q) : V M d pc la (.ref a :: st) h Q := v_getf okC_7 hs ha (by decide : 6 < 15) (hM ▸ fl_X7_35) rfl hd k
set_option maxRecDepth 100000 in
theorem p_X7_35 (hM : M.1.cls = RX7) {a : Nat} (hs : shp a = .inl 7) (ha : a < hn h) {x : Int32} (hd : decode M.2.1 pc = .ok (.putfield 35, 3)) (k : V M d (pc + 3) la st (wrI h a 6 x) Q) : V M d pc la (.int x :: .ref a :: st) h Q := v_puti okC_7 hs ha (by decide : 6 < 15) (hM ▸ fl_X7_35) rfl rfl hd k
set_option maxRecDepth 100000 in
theorem fl_X7_38 : Cond.fieldLink RX7 38 (TX7 7).1 (TX7 7).2.1 (TX7 7).2.2.1 ∈ gw := gw_T2 15 rfl rfl
set_option maxRecDepth 100000 in
theorem g_X7_38 (hM : M.1.cls = RX7) {a : Nat} (hs : shp a = .inl 7) (ha : a < hn h) (hd : decode M.2.1 pc = .ok (.getfield 38, 3)) (k : V M d (pc + 3) la (.int (hi h a 7) :: st) h Q) : V M d pc la (.ref a :: st) h Q := v_getf okC_7 hs ha (by decide : 7 < 15) (hM ▸ fl_X7_38) rfl hd k
set_option maxRecDepth 100000 in
theorem p_X7_38 (hM : M.1.cls = RX7) {a : Nat} (hs : shp a = .inl 7) (ha : a < hn h) {x : Int32} (hd : decode M.2.1 pc = .ok (.putfield 38, 3)) (k : V M d (pc + 3) la st (wrI h a 7 x) Q) : V M d pc la (.int x :: .ref a :: st) h Q := v_puti okC_7 hs ha (by decide : 7 < 15) (hM ▸ fl_X7_38) rfl rfl hd k
set_option maxRecDepth 100000 in
theorem fl_X7_41 : Cond.fieldLink RX7 41 (TX7 8).1 (TX7 8).2.1 (TX7 8).2.2.1 ∈ gw := gw_T2 16 rfl rfl
set_option maxRecDepth 100000 in
theorem g_X7_41 (hM : M.1.cls = RX7) {a : Nat} (hs : shp a = .inl 7) (ha : a < hn h) {q : Nat} (hq : hr h a 8 = some q) (hd : decode M.2.1 pc = .ok (.getfield 41, 3)) (k : V M d (pc + 3) la (.ref q :: st) h Q) : V M d pc la (.ref a :: st) h Q := v_getf okC_7 hs ha (by decide : 8 < 15) (hM ▸ fl_X7_41) (congrArg va_rf hq) hd k
set_option maxRecDepth 100000 in
theorem p_X7_41 (hM : M.1.cls = RX7) {a : Nat} (hs : shp a = .inl 7) (ha : a < hn h) (hI : M.1.name = "<init>") {q : Nat} (hd : decode M.2.1 pc = .ok (.putfield 41, 3)) (k : V M d (pc + 3) la st (wrR h a 8 (some q)) Q) : V M d pc la (.ref q :: .ref a :: st) h Q := v_putr okC_7 hs ha (by decide : 8 < 15) (hM ▸ fl_X7_41) (Or.inr ⟨hI, hM.symm ▸ rfl, rfl⟩) (Or.inr ⟨_, rfl⟩) hd k
set_option maxRecDepth 100000 in
theorem fl_X7_45 : Cond.fieldLink RX7 45 (TX7 9).1 (TX7 9).2.1 (TX7 9).2.2.1 ∈ gw := gw_T2 17 rfl rfl
set_option maxRecDepth 100000 in
theorem g_X7_45 (hM : M.1.cls = RX7) {a : Nat} (hs : shp a = .inl 7) (ha : a < hn h) {q : Nat} (hq : hr h a 9 = some q) (hd : decode M.2.1 pc = .ok (.getfield 45, 3)) (k : V M d (pc + 3) la (.ref q :: st) h Q) : V M d pc la (.ref a :: st) h Q := v_getf okC_7 hs ha (by decide : 9 < 15) (hM ▸ fl_X7_45) (congrArg va_rf hq) hd k
set_option maxRecDepth 100000 in
theorem p_X7_45 (hM : M.1.cls = RX7) {a : Nat} (hs : shp a = .inl 7) (ha : a < hn h) (hI : M.1.name = "<init>") {q : Nat} (hd : decode M.2.1 pc = .ok (.putfield 45, 3)) (k : V M d (pc + 3) la st (wrR h a 9 (some q)) Q) : V M d pc la (.ref q :: .ref a :: st) h Q := v_putr okC_7 hs ha (by decide : 9 < 15) (hM ▸ fl_X7_45) (Or.inr ⟨hI, hM.symm ▸ rfl, rfl⟩) (Or.inr ⟨_, rfl⟩) hd k
set_option maxRecDepth 100000 in
theorem fl_X7_49 : Cond.fieldLink RX7 49 (TX7 10).1 (TX7 10).2.1 (TX7 10).2.2.1 ∈ gw := gw_T2 18 rfl rfl
set_option maxRecDepth 100000 in
theorem g_X7_49 (hM : M.1.cls = RX7) {a : Nat} (hs : shp a = .inl 7) (ha : a < hn h) {q : Nat} (hq : hr h a 10 = some q) (hd : decode M.2.1 pc = .ok (.getfield 49, 3)) (k : V M d (pc + 3) la (.ref q :: st) h Q) : V M d pc la (.ref a :: st) h Q := v_getf okC_7 hs ha (by decide : 10 < 15) (hM ▸ fl_X7_49) (congrArg va_rf hq) hd k
set_option maxRecDepth 100000 in
theorem p_X7_49 (hM : M.1.cls = RX7) {a : Nat} (hs : shp a = .inl 7) (ha : a < hn h) (hI : M.1.name = "<init>") {q : Nat} (hd : decode M.2.1 pc = .ok (.putfield 49, 3)) (k : V M d (pc + 3) la st (wrR h a 10 (some q)) Q) : V M d pc la (.ref q :: .ref a :: st) h Q := v_putr okC_7 hs ha (by decide : 10 < 15) (hM ▸ fl_X7_49) (Or.inr ⟨hI, hM.symm ▸ rfl, rfl⟩) (Or.inr ⟨_, rfl⟩) hd k
set_option maxRecDepth 100000 in
theorem fl_X7_52 : Cond.fieldLink RX7 52 (TX7 11).1 (TX7 11).2.1 (TX7 11).2.2.1 ∈ gw := gw_T2 19 rfl rfl
set_option maxRecDepth 100000 in
theorem g_X7_52 (hM : M.1.cls = RX7) {a : Nat} (hs : shp a = .inl 7) (ha : a < hn h) {q : Nat} (hq : hr h a 11 = some q) (hd : decode M.2.1 pc = .ok (.getfield 52, 3)) (k : V M d (pc + 3) la (.ref q :: st) h Q) : V M d pc la (.ref a :: st) h Q := v_getf okC_7 hs ha (by decide : 11 < 15) (hM ▸ fl_X7_52) (congrArg va_rf hq) hd k
set_option maxRecDepth 100000 in
theorem p_X7_52 (hM : M.1.cls = RX7) {a : Nat} (hs : shp a = .inl 7) (ha : a < hn h) (hI : M.1.name = "<init>") {q : Nat} (hd : decode M.2.1 pc = .ok (.putfield 52, 3)) (k : V M d (pc + 3) la st (wrR h a 11 (some q)) Q) : V M d pc la (.ref q :: .ref a :: st) h Q := v_putr okC_7 hs ha (by decide : 11 < 15) (hM ▸ fl_X7_52) (Or.inr ⟨hI, hM.symm ▸ rfl, rfl⟩) (Or.inr ⟨_, rfl⟩) hd k
set_option maxRecDepth 100000 in
theorem fl_X7_55 : Cond.fieldLink RX7 55 (TX7 12).1 (TX7 12).2.1 (TX7 12).2.2.1 ∈ gw := gw_T2 20 rfl rfl
set_option maxRecDepth 100000 in
theorem g_X7_55 (hM : M.1.cls = RX7) {a : Nat} (hs : shp a = .inl 7) (ha : a < hn h) (hd : decode M.2.1 pc = .ok (.getfield 55, 3)) (k : V M d (pc + 3) la (.int (hi h a 12) :: st) h Q) : V M d pc la (.ref a :: st) h Q := v_getf okC_7 hs ha (by decide : 12 < 15) (hM ▸ fl_X7_55) rfl hd k
set_option maxRecDepth 100000 in
theorem p_X7_55 (hM : M.1.cls = RX7) {a : Nat} (hs : shp a = .inl 7) (ha : a < hn h) {x : Int32} (hd : decode M.2.1 pc = .ok (.putfield 55, 3)) (k : V M d (pc + 3) la st (wrI h a 12 x) Q) : V M d pc la (.int x :: .ref a :: st) h Q := v_puti okC_7 hs ha (by decide : 12 < 15) (hM ▸ fl_X7_55) rfl rfl hd k
set_option maxRecDepth 100000 in
theorem fl_X7_58 : Cond.fieldLink RX7 58 (TX7 13).1 (TX7 13).2.1 (TX7 13).2.2.1 ∈ gw := gw_T2 21 rfl rfl
set_option maxRecDepth 100000 in
theorem g_X7_58 (hM : M.1.cls = RX7) {a : Nat} (hs : shp a = .inl 7) (ha : a < hn h) (hd : decode M.2.1 pc = .ok (.getfield 58, 3)) (k : V M d (pc + 3) la (.int (hi h a 13) :: st) h Q) : V M d pc la (.ref a :: st) h Q := v_getf okC_7 hs ha (by decide : 13 < 15) (hM ▸ fl_X7_58) rfl hd k
set_option maxRecDepth 100000 in
theorem p_X7_58 (hM : M.1.cls = RX7) {a : Nat} (hs : shp a = .inl 7) (ha : a < hn h) {x : Int32} (hd : decode M.2.1 pc = .ok (.putfield 58, 3)) (k : V M d (pc + 3) la st (wrI h a 13 x) Q) : V M d pc la (.int x :: .ref a :: st) h Q := v_puti okC_7 hs ha (by decide : 13 < 15) (hM ▸ fl_X7_58) rfl rfl hd k
set_option maxRecDepth 100000 in
theorem fl_X7_61 : Cond.fieldLink RX7 61 (TX7 14).1 (TX7 14).2.1 (TX7 14).2.2.1 ∈ gw := gw_T2 22 rfl rfl
set_option maxRecDepth 100000 in
theorem g_X7_61 (hM : M.1.cls = RX7) {a : Nat} (hs : shp a = .inl 7) (ha : a < hn h) (hd : decode M.2.1 pc = .ok (.getfield 61, 3)) (k : V M d (pc + 3) la (.int (hi h a 14) :: st) h Q) : V M d pc la (.ref a :: st) h Q := v_getf okC_7 hs ha (by decide : 14 < 15) (hM ▸ fl_X7_61) rfl hd k
set_option maxRecDepth 100000 in
theorem p_X7_61 (hM : M.1.cls = RX7) {a : Nat} (hs : shp a = .inl 7) (ha : a < hn h) {x : Int32} (hd : decode M.2.1 pc = .ok (.putfield 61, 3)) (k : V M d (pc + 3) la st (wrI h a 14 x) Q) : V M d pc la (.int x :: .ref a :: st) h Q := v_puti okC_7 hs ha (by decide : 14 < 15) (hM ▸ fl_X7_61) rfl rfl hd k
set_option maxRecDepth 100000 in
theorem fl_X6_11 : Cond.fieldLink RX6 11 (TX6 0).1 (TX6 0).2.1 (TX6 0).2.2.1 ∈ gw := gw_T2 67 rfl rfl
set_option maxRecDepth 100000 in
theorem g_X6_11 (hM : M.1.cls = RX6) {a : Nat} (hs : shp a = .inl 6) (ha : a < hn h) {q : Nat} (hq : hr h a 0 = some q) (hd : decode M.2.1 pc = .ok (.getfield 11, 3)) (k : V M d (pc + 3) la (.ref q :: st) h Q) : V M d pc la (.ref a :: st) h Q := v_getf okC_6 hs ha (by decide : 0 < 3) (hM ▸ fl_X6_11) (congrArg va_rf hq) hd k
set_option maxRecDepth 100000 in
theorem p_X6_11 (hM : M.1.cls = RX6) {a : Nat} (hs : shp a = .inl 6) (ha : a < hn h) (hI : M.1.name = "<init>") {q : Nat} (hd : decode M.2.1 pc = .ok (.putfield 11, 3)) (k : V M d (pc + 3) la st (wrR h a 0 (some q)) Q) : V M d pc la (.ref q :: .ref a :: st) h Q := v_putr okC_6 hs ha (by decide : 0 < 3) (hM ▸ fl_X6_11) (Or.inr ⟨hI, hM.symm ▸ rfl, rfl⟩) (Or.inr ⟨_, rfl⟩) hd k
set_option maxRecDepth 100000 in
theorem fl_X6_17 : Cond.fieldLink RX6 17 (TX6 1).1 (TX6 1).2.1 (TX6 1).2.2.1 ∈ gw := gw_T2 68 rfl rfl
set_option maxRecDepth 100000 in
theorem g_X6_17 (hM : M.1.cls = RX6) {a : Nat} (hs : shp a = .inl 6) (ha : a < hn h) (hd : decode M.2.1 pc = .ok (.getfield 17, 3)) (k : V M d (pc + 3) la (.int (hi h a 1) :: st) h Q) : V M d pc la (.ref a :: st) h Q := v_getf okC_6 hs ha (by decide : 1 < 3) (hM ▸ fl_X6_17) rfl hd k
set_option maxRecDepth 100000 in
theorem p_X6_17 (hM : M.1.cls = RX6) {a : Nat} (hs : shp a = .inl 6) (ha : a < hn h) {x : Int32} (hd : decode M.2.1 pc = .ok (.putfield 17, 3)) (k : V M d (pc + 3) la st (wrI h a 1 x) Q) : V M d pc la (.int x :: .ref a :: st) h Q := v_puti okC_6 hs ha (by decide : 1 < 3) (hM ▸ fl_X6_17) rfl rfl hd k
set_option maxRecDepth 100000 in
theorem fl_X6_21 : Cond.fieldLink RX6 21 (TX6 2).1 (TX6 2).2.1 (TX6 2).2.2.1 ∈ gw := gw_T2 69 rfl rfl
set_option maxRecDepth 100000 in
theorem g_X6_21 (hM : M.1.cls = RX6) {a : Nat} (hs : shp a = .inl 6) (ha : a < hn h) (hd : decode M.2.1 pc = .ok (.getfield 21, 3)) (k : V M d (pc + 3) la (.int (hi h a 2) :: st) h Q) : V M d pc la (.ref a :: st) h Q := v_getf okC_6 hs ha (by decide : 2 < 3) (hM ▸ fl_X6_21) rfl hd k
set_option maxRecDepth 100000 in
theorem p_X6_21 (hM : M.1.cls = RX6) {a : Nat} (hs : shp a = .inl 6) (ha : a < hn h) {x : Int32} (hd : decode M.2.1 pc = .ok (.putfield 21, 3)) (k : V M d (pc + 3) la st (wrI h a 2 x) Q) : V M d pc la (.int x :: .ref a :: st) h Q := v_puti okC_6 hs ha (by decide : 2 < 3) (hM ▸ fl_X6_21) rfl rfl hd k
set_option maxRecDepth 100000 in
theorem fl_X11_192 : Cond.fieldLink RX11 192 (TX6 2).1 (TX6 2).2.1 (TX6 2).2.2.1 ∈ gw := gw_T2 70 rfl rfl
set_option maxRecDepth 100000 in
theorem g_X11_192 (hM : M.1.cls = RX11) {a : Nat} (hs : shp a = .inl 6) (ha : a < hn h) (hd : decode M.2.1 pc = .ok (.getfield 192, 3)) (k : V M d (pc + 3) la (.int (hi h a 2) :: st) h Q) : V M d pc la (.ref a :: st) h Q := v_getf okC_6 hs ha (by decide : 2 < 3) (hM ▸ fl_X11_192) rfl hd k
set_option maxRecDepth 100000 in
theorem fl_X2_9 : Cond.fieldLink RX2 9 (TX2 0).1 (TX2 0).2.1 (TX2 0).2.2.1 ∈ gw := gw_T2 84 rfl rfl
set_option maxRecDepth 100000 in
theorem g_X2_9 (hM : M.1.cls = RX2) {a : Nat} (hs : shp a = .inl 2) (ha : a < hn h) {q : Nat} (hq : hr h a 0 = some q) (hd : decode M.2.1 pc = .ok (.getfield 9, 3)) (k : V M d (pc + 3) la (.ref q :: st) h Q) : V M d pc la (.ref a :: st) h Q := v_getf okC_2 hs ha (by decide : 0 < 3) (hM ▸ fl_X2_9) (congrArg va_rf hq) hd k
set_option maxRecDepth 100000 in
theorem p_X2_9 (hM : M.1.cls = RX2) {a : Nat} (hs : shp a = .inl 2) (ha : a < hn h) (hI : M.1.name = "<init>") {q : Nat} (hd : decode M.2.1 pc = .ok (.putfield 9, 3)) (k : V M d (pc + 3) la st (wrR h a 0 (some q)) Q) : V M d pc la (.ref q :: .ref a :: st) h Q := v_putr okC_2 hs ha (by decide : 0 < 3) (hM ▸ fl_X2_9) (Or.inr ⟨hI, hM.symm ▸ rfl, rfl⟩) (Or.inr ⟨_, rfl⟩) hd k
set_option maxRecDepth 100000 in
theorem fl_X2_15 : Cond.fieldLink RX2 15 (TX2 1).1 (TX2 1).2.1 (TX2 1).2.2.1 ∈ gw := gw_T2 85 rfl rfl
set_option maxRecDepth 100000 in
theorem g_X2_15 (hM : M.1.cls = RX2) {a : Nat} (hs : shp a = .inl 2) (ha : a < hn h) {q : Nat} (hq : hr h a 1 = some q) (hd : decode M.2.1 pc = .ok (.getfield 15, 3)) (k : V M d (pc + 3) la (.ref q :: st) h Q) : V M d pc la (.ref a :: st) h Q := v_getf okC_2 hs ha (by decide : 1 < 3) (hM ▸ fl_X2_15) (congrArg va_rf hq) hd k
set_option maxRecDepth 100000 in
theorem p_X2_15 (hM : M.1.cls = RX2) {a : Nat} (hs : shp a = .inl 2) (ha : a < hn h) (hI : M.1.name = "<init>") {q : Nat} (hd : decode M.2.1 pc = .ok (.putfield 15, 3)) (k : V M d (pc + 3) la st (wrR h a 1 (some q)) Q) : V M d pc la (.ref q :: .ref a :: st) h Q := v_putr okC_2 hs ha (by decide : 1 < 3) (hM ▸ fl_X2_15) (Or.inr ⟨hI, hM.symm ▸ rfl, rfl⟩) (Or.inr ⟨_, rfl⟩) hd k
set_option maxRecDepth 100000 in
theorem fl_X2_19 : Cond.fieldLink RX2 19 (TX2 2).1 (TX2 2).2.1 (TX2 2).2.2.1 ∈ gw := gw_T2 86 rfl rfl
set_option maxRecDepth 100000 in
theorem g_X2_19 (hM : M.1.cls = RX2) {a : Nat} (hs : shp a = .inl 2) (ha : a < hn h) (hd : decode M.2.1 pc = .ok (.getfield 19, 3)) (k : V M d (pc + 3) la (.int (hi h a 2) :: st) h Q) : V M d pc la (.ref a :: st) h Q := v_getf okC_2 hs ha (by decide : 2 < 3) (hM ▸ fl_X2_19) rfl hd k
set_option maxRecDepth 100000 in
theorem p_X2_19 (hM : M.1.cls = RX2) {a : Nat} (hs : shp a = .inl 2) (ha : a < hn h) {x : Int32} (hd : decode M.2.1 pc = .ok (.putfield 19, 3)) (k : V M d (pc + 3) la st (wrI h a 2 x) Q) : V M d pc la (.int x :: .ref a :: st) h Q := v_puti okC_2 hs ha (by decide : 2 < 3) (hM ▸ fl_X2_19) rfl rfl hd k
set_option maxRecDepth 100000 in
theorem fl_X11_195 : Cond.fieldLink RX11 195 (TX2 2).1 (TX2 2).2.1 (TX2 2).2.2.1 ∈ gw := gw_T2 87 rfl rfl
set_option maxRecDepth 100000 in
theorem g_X11_195 (hM : M.1.cls = RX11) {a : Nat} (hs : shp a = .inl 2) (ha : a < hn h) (hd : decode M.2.1 pc = .ok (.getfield 195, 3)) (k : V M d (pc + 3) la (.int (hi h a 2) :: st) h Q) : V M d pc la (.ref a :: st) h Q := v_getf okC_2 hs ha (by decide : 2 < 3) (hM ▸ fl_X11_195) rfl hd k
set_option maxRecDepth 100000 in
theorem fl_X10_31 : Cond.fieldLink RX10 31 (TX10 0).1 (TX10 0).2.1 (TX10 0).2.2.1 ∈ gw := gw_T2 102 rfl rfl
set_option maxRecDepth 100000 in
theorem g_X10_31 (hM : M.1.cls = RX10) {a : Nat} (hs : shp a = .inl 10) (ha : a < hn h) {q : Nat} (hq : hr h a 0 = some q) (hd : decode M.2.1 pc = .ok (.getfield 31, 3)) (k : V M d (pc + 3) la (.ref q :: st) h Q) : V M d pc la (.ref a :: st) h Q := v_getf okC_10 hs ha (by decide : 0 < 7) (hM ▸ fl_X10_31) (congrArg va_rf hq) hd k
set_option maxRecDepth 100000 in
theorem p_X10_31 (hM : M.1.cls = RX10) {a : Nat} (hs : shp a = .inl 10) (ha : a < hn h) (hI : M.1.name = "<init>") {q : Nat} (hd : decode M.2.1 pc = .ok (.putfield 31, 3)) (k : V M d (pc + 3) la st (wrR h a 0 (some q)) Q) : V M d pc la (.ref q :: .ref a :: st) h Q := v_putr okC_10 hs ha (by decide : 0 < 7) (hM ▸ fl_X10_31) (Or.inr ⟨hI, hM.symm ▸ rfl, rfl⟩) (Or.inl ⟨_, rfl⟩) hd k
set_option maxRecDepth 100000 in
theorem fl_X10_9 : Cond.fieldLink RX10 9 (TX10 1).1 (TX10 1).2.1 (TX10 1).2.2.1 ∈ gw := gw_T2 103 rfl rfl
set_option maxRecDepth 100000 in
theorem g_X10_9 (hM : M.1.cls = RX10) {a : Nat} (hs : shp a = .inl 10) (ha : a < hn h) {q : Nat} (hq : hr h a 1 = some q) (hd : decode M.2.1 pc = .ok (.getfield 9, 3)) (k : V M d (pc + 3) la (.ref q :: st) h Q) : V M d pc la (.ref a :: st) h Q := v_getf okC_10 hs ha (by decide : 1 < 7) (hM ▸ fl_X10_9) (congrArg va_rf hq) hd k
set_option maxRecDepth 100000 in
theorem p_X10_9 (hM : M.1.cls = RX10) {a : Nat} (hs : shp a = .inl 10) (ha : a < hn h) (hI : M.1.name = "<init>") {q : Nat} (hd : decode M.2.1 pc = .ok (.putfield 9, 3)) (k : V M d (pc + 3) la st (wrR h a 1 (some q)) Q) : V M d pc la (.ref q :: .ref a :: st) h Q := v_putr okC_10 hs ha (by decide : 1 < 7) (hM ▸ fl_X10_9) (Or.inr ⟨hI, hM.symm ▸ rfl, rfl⟩) (Or.inr ⟨_, rfl⟩) hd k
set_option maxRecDepth 100000 in
theorem fl_X10_15 : Cond.fieldLink RX10 15 (TX10 2).1 (TX10 2).2.1 (TX10 2).2.2.1 ∈ gw := gw_T2 104 rfl rfl
set_option maxRecDepth 100000 in
theorem g_X10_15 (hM : M.1.cls = RX10) {a : Nat} (hs : shp a = .inl 10) (ha : a < hn h) {q : Nat} (hq : hr h a 2 = some q) (hd : decode M.2.1 pc = .ok (.getfield 15, 3)) (k : V M d (pc + 3) la (.ref q :: st) h Q) : V M d pc la (.ref a :: st) h Q := v_getf okC_10 hs ha (by decide : 2 < 7) (hM ▸ fl_X10_15) (congrArg va_rf hq) hd k
set_option maxRecDepth 100000 in
theorem p_X10_15 (hM : M.1.cls = RX10) {a : Nat} (hs : shp a = .inl 10) (ha : a < hn h) (hI : M.1.name = "<init>") {q : Nat} (hd : decode M.2.1 pc = .ok (.putfield 15, 3)) (k : V M d (pc + 3) la st (wrR h a 2 (some q)) Q) : V M d pc la (.ref q :: .ref a :: st) h Q := v_putr okC_10 hs ha (by decide : 2 < 7) (hM ▸ fl_X10_15) (Or.inr ⟨hI, hM.symm ▸ rfl, rfl⟩) (Or.inr ⟨_, rfl⟩) hd k
set_option maxRecDepth 100000 in
theorem fl_X10_18 : Cond.fieldLink RX10 18 (TX10 3).1 (TX10 3).2.1 (TX10 3).2.2.1 ∈ gw := gw_T2 105 rfl rfl
set_option maxRecDepth 100000 in
theorem g_X10_18 (hM : M.1.cls = RX10) {a : Nat} (hs : shp a = .inl 10) (ha : a < hn h) (hd : decode M.2.1 pc = .ok (.getfield 18, 3)) (k : V M d (pc + 3) la (.int (hi h a 3) :: st) h Q) : V M d pc la (.ref a :: st) h Q := v_getf okC_10 hs ha (by decide : 3 < 7) (hM ▸ fl_X10_18) rfl hd k
set_option maxRecDepth 100000 in
theorem p_X10_18 (hM : M.1.cls = RX10) {a : Nat} (hs : shp a = .inl 10) (ha : a < hn h) {x : Int32} (hd : decode M.2.1 pc = .ok (.putfield 18, 3)) (k : V M d (pc + 3) la st (wrI h a 3 x) Q) : V M d pc la (.int x :: .ref a :: st) h Q := v_puti okC_10 hs ha (by decide : 3 < 7) (hM ▸ fl_X10_18) rfl rfl hd k
set_option maxRecDepth 100000 in
theorem fl_X10_22 : Cond.fieldLink RX10 22 (TX10 4).1 (TX10 4).2.1 (TX10 4).2.2.1 ∈ gw := gw_T2 106 rfl rfl
set_option maxRecDepth 100000 in
theorem g_X10_22 (hM : M.1.cls = RX10) {a : Nat} (hs : shp a = .inl 10) (ha : a < hn h) (hd : decode M.2.1 pc = .ok (.getfield 22, 3)) (k : V M d (pc + 3) la (.int (hi h a 4) :: st) h Q) : V M d pc la (.ref a :: st) h Q := v_getf okC_10 hs ha (by decide : 4 < 7) (hM ▸ fl_X10_22) rfl hd k
set_option maxRecDepth 100000 in
theorem p_X10_22 (hM : M.1.cls = RX10) {a : Nat} (hs : shp a = .inl 10) (ha : a < hn h) {x : Int32} (hd : decode M.2.1 pc = .ok (.putfield 22, 3)) (k : V M d (pc + 3) la st (wrI h a 4 x) Q) : V M d pc la (.int x :: .ref a :: st) h Q := v_puti okC_10 hs ha (by decide : 4 < 7) (hM ▸ fl_X10_22) rfl rfl hd k
set_option maxRecDepth 100000 in
theorem fl_X10_25 : Cond.fieldLink RX10 25 (TX10 5).1 (TX10 5).2.1 (TX10 5).2.2.1 ∈ gw := gw_T2 107 rfl rfl
set_option maxRecDepth 100000 in
theorem p_X10_25 (hM : M.1.cls = RX10) {a : Nat} (hs : shp a = .inl 10) (ha : a < hn h) {x : Int32} (hd : decode M.2.1 pc = .ok (.putfield 25, 3)) (k : V M d (pc + 3) la st (wrI h a 5 x) Q) : V M d pc la (.int x :: .ref a :: st) h Q := v_puti okC_10 hs ha (by decide : 5 < 7) (hM ▸ fl_X10_25) rfl rfl hd k
set_option maxRecDepth 100000 in
theorem fl_X11_266 : Cond.fieldLink RX11 266 (TX10 5).1 (TX10 5).2.1 (TX10 5).2.2.1 ∈ gw := gw_T2 108 rfl rfl
set_option maxRecDepth 100000 in
theorem g_X11_266 (hM : M.1.cls = RX11) {a : Nat} (hs : shp a = .inl 10) (ha : a < hn h) (hd : decode M.2.1 pc = .ok (.getfield 266, 3)) (k : V M d (pc + 3) la (.int (hi h a 5) :: st) h Q) : V M d pc la (.ref a :: st) h Q := v_getf okC_10 hs ha (by decide : 5 < 7) (hM ▸ fl_X11_266) rfl hd k
set_option maxRecDepth 100000 in
theorem fl_X10_28 : Cond.fieldLink RX10 28 (TX10 6).1 (TX10 6).2.1 (TX10 6).2.2.1 ∈ gw := gw_T2 109 rfl rfl
set_option maxRecDepth 100000 in
theorem p_X10_28 (hM : M.1.cls = RX10) {a : Nat} (hs : shp a = .inl 10) (ha : a < hn h) {x : Int32} (hd : decode M.2.1 pc = .ok (.putfield 28, 3)) (k : V M d (pc + 3) la st (wrI h a 6 x) Q) : V M d pc la (.int x :: .ref a :: st) h Q := v_puti okC_10 hs ha (by decide : 6 < 7) (hM ▸ fl_X10_28) rfl rfl hd k
set_option maxRecDepth 100000 in
theorem fl_X11_269 : Cond.fieldLink RX11 269 (TX10 6).1 (TX10 6).2.1 (TX10 6).2.2.1 ∈ gw := gw_T2 110 rfl rfl
set_option maxRecDepth 100000 in
theorem g_X11_269 (hM : M.1.cls = RX11) {a : Nat} (hs : shp a = .inl 10) (ha : a < hn h) (hd : decode M.2.1 pc = .ok (.getfield 269, 3)) (k : V M d (pc + 3) la (.int (hi h a 6) :: st) h Q) : V M d pc la (.ref a :: st) h Q := v_getf okC_10 hs ha (by decide : 6 < 7) (hM ▸ fl_X11_269) rfl hd k
set_option maxRecDepth 100000 in
theorem fl_X1_25 : Cond.fieldLink RX1 25 (TX1 0).1 (TX1 0).2.1 (TX1 0).2.2.1 ∈ gw := gw_T2 132 rfl rfl
set_option maxRecDepth 100000 in
theorem g_X1_25 (hM : M.1.cls = RX1) {a : Nat} (hs : shp a = .inl 1) (ha : a < hn h) {q : Nat} (hq : hr h a 0 = some q) (hd : decode M.2.1 pc = .ok (.getfield 25, 3)) (k : V M d (pc + 3) la (.ref q :: st) h Q) : V M d pc la (.ref a :: st) h Q := v_getf okC_1 hs ha (by decide : 0 < 5) (hM ▸ fl_X1_25) (congrArg va_rf hq) hd k
set_option maxRecDepth 100000 in
theorem p_X1_25 (hM : M.1.cls = RX1) {a : Nat} (hs : shp a = .inl 1) (ha : a < hn h) (hI : M.1.name = "<init>") {q : Nat} (hd : decode M.2.1 pc = .ok (.putfield 25, 3)) (k : V M d (pc + 3) la st (wrR h a 0 (some q)) Q) : V M d pc la (.ref q :: .ref a :: st) h Q := v_putr okC_1 hs ha (by decide : 0 < 5) (hM ▸ fl_X1_25) (Or.inr ⟨hI, hM.symm ▸ rfl, rfl⟩) (Or.inl ⟨_, rfl⟩) hd k
set_option maxRecDepth 100000 in
theorem fl_X1_9 : Cond.fieldLink RX1 9 (TX1 1).1 (TX1 1).2.1 (TX1 1).2.2.1 ∈ gw := gw_T2 133 rfl rfl
set_option maxRecDepth 100000 in
theorem g_X1_9 (hM : M.1.cls = RX1) {a : Nat} (hs : shp a = .inl 1) (ha : a < hn h) {q : Nat} (hq : hr h a 1 = some q) (hd : decode M.2.1 pc = .ok (.getfield 9, 3)) (k : V M d (pc + 3) la (.ref q :: st) h Q) : V M d pc la (.ref a :: st) h Q := v_getf okC_1 hs ha (by decide : 1 < 5) (hM ▸ fl_X1_9) (congrArg va_rf hq) hd k
set_option maxRecDepth 100000 in
theorem p_X1_9 (hM : M.1.cls = RX1) {a : Nat} (hs : shp a = .inl 1) (ha : a < hn h) (hI : M.1.name = "<init>") {q : Nat} (hd : decode M.2.1 pc = .ok (.putfield 9, 3)) (k : V M d (pc + 3) la st (wrR h a 1 (some q)) Q) : V M d pc la (.ref q :: .ref a :: st) h Q := v_putr okC_1 hs ha (by decide : 1 < 5) (hM ▸ fl_X1_9) (Or.inr ⟨hI, hM.symm ▸ rfl, rfl⟩) (Or.inr ⟨_, rfl⟩) hd k
set_option maxRecDepth 100000 in
theorem fl_X1_15 : Cond.fieldLink RX1 15 (TX1 2).1 (TX1 2).2.1 (TX1 2).2.2.1 ∈ gw := gw_T2 134 rfl rfl
set_option maxRecDepth 100000 in
theorem g_X1_15 (hM : M.1.cls = RX1) {a : Nat} (hs : shp a = .inl 1) (ha : a < hn h) {q : Nat} (hq : hr h a 2 = some q) (hd : decode M.2.1 pc = .ok (.getfield 15, 3)) (k : V M d (pc + 3) la (.ref q :: st) h Q) : V M d pc la (.ref a :: st) h Q := v_getf okC_1 hs ha (by decide : 2 < 5) (hM ▸ fl_X1_15) (congrArg va_rf hq) hd k
set_option maxRecDepth 100000 in
theorem p_X1_15 (hM : M.1.cls = RX1) {a : Nat} (hs : shp a = .inl 1) (ha : a < hn h) (hI : M.1.name = "<init>") {q : Nat} (hd : decode M.2.1 pc = .ok (.putfield 15, 3)) (k : V M d (pc + 3) la st (wrR h a 2 (some q)) Q) : V M d pc la (.ref q :: .ref a :: st) h Q := v_putr okC_1 hs ha (by decide : 2 < 5) (hM ▸ fl_X1_15) (Or.inr ⟨hI, hM.symm ▸ rfl, rfl⟩) (Or.inr ⟨_, rfl⟩) hd k
set_option maxRecDepth 100000 in
theorem fl_X1_18 : Cond.fieldLink RX1 18 (TX1 3).1 (TX1 3).2.1 (TX1 3).2.2.1 ∈ gw := gw_T2 135 rfl rfl
set_option maxRecDepth 100000 in
theorem g_X1_18 (hM : M.1.cls = RX1) {a : Nat} (hs : shp a = .inl 1) (ha : a < hn h) {q : Nat} (hq : hr h a 3 = some q) (hd : decode M.2.1 pc = .ok (.getfield 18, 3)) (k : V M d (pc + 3) la (.ref q :: st) h Q) : V M d pc la (.ref a :: st) h Q := v_getf okC_1 hs ha (by decide : 3 < 5) (hM ▸ fl_X1_18) (congrArg va_rf hq) hd k
set_option maxRecDepth 100000 in
theorem p_X1_18 (hM : M.1.cls = RX1) {a : Nat} (hs : shp a = .inl 1) (ha : a < hn h) (hI : M.1.name = "<init>") {q : Nat} (hd : decode M.2.1 pc = .ok (.putfield 18, 3)) (k : V M d (pc + 3) la st (wrR h a 3 (some q)) Q) : V M d pc la (.ref q :: .ref a :: st) h Q := v_putr okC_1 hs ha (by decide : 3 < 5) (hM ▸ fl_X1_18) (Or.inr ⟨hI, hM.symm ▸ rfl, rfl⟩) (Or.inr ⟨_, rfl⟩) hd k
set_option maxRecDepth 100000 in
theorem fl_X1_21 : Cond.fieldLink RX1 21 (TX1 4).1 (TX1 4).2.1 (TX1 4).2.2.1 ∈ gw := gw_T2 136 rfl rfl
set_option maxRecDepth 100000 in
theorem g_X1_21 (hM : M.1.cls = RX1) {a : Nat} (hs : shp a = .inl 1) (ha : a < hn h) (hd : decode M.2.1 pc = .ok (.getfield 21, 3)) (k : V M d (pc + 3) la (.int (hi h a 4) :: st) h Q) : V M d pc la (.ref a :: st) h Q := v_getf okC_1 hs ha (by decide : 4 < 5) (hM ▸ fl_X1_21) rfl hd k
set_option maxRecDepth 100000 in
theorem p_X1_21 (hM : M.1.cls = RX1) {a : Nat} (hs : shp a = .inl 1) (ha : a < hn h) {x : Int32} (hd : decode M.2.1 pc = .ok (.putfield 21, 3)) (k : V M d (pc + 3) la st (wrI h a 4 x) Q) : V M d pc la (.int x :: .ref a :: st) h Q := v_puti okC_1 hs ha (by decide : 4 < 5) (hM ▸ fl_X1_21) rfl rfl hd k
set_option maxRecDepth 100000 in
theorem fl_X5_22 : Cond.fieldLink RX5 22 (TX5 0).1 (TX5 0).2.1 (TX5 0).2.2.1 ∈ gw := gw_T2 154 rfl rfl
set_option maxRecDepth 100000 in
theorem g_X5_22 (hM : M.1.cls = RX5) {a : Nat} (hs : shp a = .inl 5) (ha : a < hn h) {q : Nat} (hq : hr h a 0 = some q) (hd : decode M.2.1 pc = .ok (.getfield 22, 3)) (k : V M d (pc + 3) la (.ref q :: st) h Q) : V M d pc la (.ref a :: st) h Q := v_getf okC_5 hs ha (by decide : 0 < 4) (hM ▸ fl_X5_22) (congrArg va_rf hq) hd k
set_option maxRecDepth 100000 in
theorem p_X5_22 (hM : M.1.cls = RX5) {a : Nat} (hs : shp a = .inl 5) (ha : a < hn h) (hI : M.1.name = "<init>") {q : Nat} (hd : decode M.2.1 pc = .ok (.putfield 22, 3)) (k : V M d (pc + 3) la st (wrR h a 0 (some q)) Q) : V M d pc la (.ref q :: .ref a :: st) h Q := v_putr okC_5 hs ha (by decide : 0 < 4) (hM ▸ fl_X5_22) (Or.inr ⟨hI, hM.symm ▸ rfl, rfl⟩) (Or.inl ⟨_, rfl⟩) hd k
set_option maxRecDepth 100000 in
theorem fl_X5_9 : Cond.fieldLink RX5 9 (TX5 1).1 (TX5 1).2.1 (TX5 1).2.2.1 ∈ gw := gw_T2 155 rfl rfl
set_option maxRecDepth 100000 in
theorem g_X5_9 (hM : M.1.cls = RX5) {a : Nat} (hs : shp a = .inl 5) (ha : a < hn h) {q : Nat} (hq : hr h a 1 = some q) (hd : decode M.2.1 pc = .ok (.getfield 9, 3)) (k : V M d (pc + 3) la (.ref q :: st) h Q) : V M d pc la (.ref a :: st) h Q := v_getf okC_5 hs ha (by decide : 1 < 4) (hM ▸ fl_X5_9) (congrArg va_rf hq) hd k
set_option maxRecDepth 100000 in
theorem p_X5_9 (hM : M.1.cls = RX5) {a : Nat} (hs : shp a = .inl 5) (ha : a < hn h) (hI : M.1.name = "<init>") {q : Nat} (hd : decode M.2.1 pc = .ok (.putfield 9, 3)) (k : V M d (pc + 3) la st (wrR h a 1 (some q)) Q) : V M d pc la (.ref q :: .ref a :: st) h Q := v_putr okC_5 hs ha (by decide : 1 < 4) (hM ▸ fl_X5_9) (Or.inr ⟨hI, hM.symm ▸ rfl, rfl⟩) (Or.inr ⟨_, rfl⟩) hd k
set_option maxRecDepth 100000 in
theorem fl_X5_15 : Cond.fieldLink RX5 15 (TX5 2).1 (TX5 2).2.1 (TX5 2).2.2.1 ∈ gw := gw_T2 156 rfl rfl
set_option maxRecDepth 100000 in
theorem g_X5_15 (hM : M.1.cls = RX5) {a : Nat} (hs : shp a = .inl 5) (ha : a < hn h) {q : Nat} (hq : hr h a 2 = some q) (hd : decode M.2.1 pc = .ok (.getfield 15, 3)) (k : V M d (pc + 3) la (.ref q :: st) h Q) : V M d pc la (.ref a :: st) h Q := v_getf okC_5 hs ha (by decide : 2 < 4) (hM ▸ fl_X5_15) (congrArg va_rf hq) hd k
set_option maxRecDepth 100000 in
theorem p_X5_15 (hM : M.1.cls = RX5) {a : Nat} (hs : shp a = .inl 5) (ha : a < hn h) (hI : M.1.name = "<init>") {q : Nat} (hd : decode M.2.1 pc = .ok (.putfield 15, 3)) (k : V M d (pc + 3) la st (wrR h a 2 (some q)) Q) : V M d pc la (.ref q :: .ref a :: st) h Q := v_putr okC_5 hs ha (by decide : 2 < 4) (hM ▸ fl_X5_15) (Or.inr ⟨hI, hM.symm ▸ rfl, rfl⟩) (Or.inr ⟨_, rfl⟩) hd k
set_option maxRecDepth 100000 in
theorem fl_X11_301 : Cond.fieldLink RX11 301 (TX5 2).1 (TX5 2).2.1 (TX5 2).2.2.1 ∈ gw := gw_T2 157 rfl rfl
set_option maxRecDepth 100000 in
theorem g_X11_301 (hM : M.1.cls = RX11) {a : Nat} (hs : shp a = .inl 5) (ha : a < hn h) {q : Nat} (hq : hr h a 2 = some q) (hd : decode M.2.1 pc = .ok (.getfield 301, 3)) (k : V M d (pc + 3) la (.ref q :: st) h Q) : V M d pc la (.ref a :: st) h Q := v_getf okC_5 hs ha (by decide : 2 < 4) (hM ▸ fl_X11_301) (congrArg va_rf hq) hd k
set_option maxRecDepth 100000 in
theorem fl_X5_18 : Cond.fieldLink RX5 18 (TX5 3).1 (TX5 3).2.1 (TX5 3).2.2.1 ∈ gw := gw_T2 158 rfl rfl
set_option maxRecDepth 100000 in
theorem g_X5_18 (hM : M.1.cls = RX5) {a : Nat} (hs : shp a = .inl 5) (ha : a < hn h) (hd : decode M.2.1 pc = .ok (.getfield 18, 3)) (k : V M d (pc + 3) la (.int (hi h a 3) :: st) h Q) : V M d pc la (.ref a :: st) h Q := v_getf okC_5 hs ha (by decide : 3 < 4) (hM ▸ fl_X5_18) rfl hd k
set_option maxRecDepth 100000 in
theorem p_X5_18 (hM : M.1.cls = RX5) {a : Nat} (hs : shp a = .inl 5) (ha : a < hn h) {x : Int32} (hd : decode M.2.1 pc = .ok (.putfield 18, 3)) (k : V M d (pc + 3) la st (wrI h a 3 x) Q) : V M d pc la (.int x :: .ref a :: st) h Q := v_puti okC_5 hs ha (by decide : 3 < 4) (hM ▸ fl_X5_18) rfl rfl hd k
set_option maxRecDepth 100000 in
theorem fl_X11_298 : Cond.fieldLink RX11 298 (TX5 3).1 (TX5 3).2.1 (TX5 3).2.2.1 ∈ gw := gw_T2 159 rfl rfl
set_option maxRecDepth 100000 in
theorem g_X11_298 (hM : M.1.cls = RX11) {a : Nat} (hs : shp a = .inl 5) (ha : a < hn h) (hd : decode M.2.1 pc = .ok (.getfield 298, 3)) (k : V M d (pc + 3) la (.int (hi h a 3) :: st) h Q) : V M d pc la (.ref a :: st) h Q := v_getf okC_5 hs ha (by decide : 3 < 4) (hM ▸ fl_X11_298) rfl hd k
set_option maxRecDepth 100000 in
theorem fl_X11_9 : Cond.fieldLink RX11 9 (TX11 0).1 (TX11 0).2.1 (TX11 0).2.2.1 ∈ gw := gw_T2 189 rfl rfl
set_option maxRecDepth 100000 in
theorem g_X11_9 (hM : M.1.cls = RX11) {a : Nat} (hs : shp a = .inl 11) (ha : a < hn h) {q : Nat} (hq : hr h a 0 = some q) (hd : decode M.2.1 pc = .ok (.getfield 9, 3)) (k : V M d (pc + 3) la (.ref q :: st) h Q) : V M d pc la (.ref a :: st) h Q := v_getf okC_11 hs ha (by decide : 0 < 15) (hM ▸ fl_X11_9) (congrArg va_rf hq) hd k
set_option maxRecDepth 100000 in
theorem p_X11_9 (hM : M.1.cls = RX11) {a : Nat} (hs : shp a = .inl 11) (ha : a < hn h) (hI : M.1.name = "<init>") {q : Nat} (hd : decode M.2.1 pc = .ok (.putfield 9, 3)) (k : V M d (pc + 3) la st (wrR h a 0 (some q)) Q) : V M d pc la (.ref q :: .ref a :: st) h Q := v_putr okC_11 hs ha (by decide : 0 < 15) (hM ▸ fl_X11_9) (Or.inr ⟨hI, hM.symm ▸ rfl, rfl⟩) (Or.inr ⟨_, rfl⟩) hd k
set_option maxRecDepth 100000 in
theorem fl_X11_13 : Cond.fieldLink RX11 13 (TX11 1).1 (TX11 1).2.1 (TX11 1).2.2.1 ∈ gw := gw_T2 190 rfl rfl
set_option maxRecDepth 100000 in
theorem g_X11_13 (hM : M.1.cls = RX11) {a : Nat} (hs : shp a = .inl 11) (ha : a < hn h) (hd : decode M.2.1 pc = .ok (.getfield 13, 3)) (k : V M d (pc + 3) la (.int (hi h a 1) :: st) h Q) : V M d pc la (.ref a :: st) h Q := v_getf okC_11 hs ha (by decide : 1 < 15) (hM ▸ fl_X11_13) rfl hd k
set_option maxRecDepth 100000 in
theorem p_X11_13 (hM : M.1.cls = RX11) {a : Nat} (hs : shp a = .inl 11) (ha : a < hn h) {x : Int32} (hd : decode M.2.1 pc = .ok (.putfield 13, 3)) (k : V M d (pc + 3) la st (wrI h a 1 x) Q) : V M d pc la (.int x :: .ref a :: st) h Q := v_puti okC_11 hs ha (by decide : 1 < 15) (hM ▸ fl_X11_13) rfl rfl hd k
set_option maxRecDepth 100000 in
theorem fl_X11_17 : Cond.fieldLink RX11 17 (TX11 2).1 (TX11 2).2.1 (TX11 2).2.2.1 ∈ gw := gw_T2 191 rfl rfl
set_option maxRecDepth 100000 in
theorem g_X11_17 (hM : M.1.cls = RX11) {a : Nat} (hs : shp a = .inl 11) (ha : a < hn h) (hd : decode M.2.1 pc = .ok (.getfield 17, 3)) (k : V M d (pc + 3) la (.int (hi h a 2) :: st) h Q) : V M d pc la (.ref a :: st) h Q := v_getf okC_11 hs ha (by decide : 2 < 15) (hM ▸ fl_X11_17) rfl hd k
set_option maxRecDepth 100000 in
theorem p_X11_17 (hM : M.1.cls = RX11) {a : Nat} (hs : shp a = .inl 11) (ha : a < hn h) {x : Int32} (hd : decode M.2.1 pc = .ok (.putfield 17, 3)) (k : V M d (pc + 3) la st (wrI h a 2 x) Q) : V M d pc la (.int x :: .ref a :: st) h Q := v_puti okC_11 hs ha (by decide : 2 < 15) (hM ▸ fl_X11_17) rfl rfl hd k
set_option maxRecDepth 100000 in
theorem fl_X11_25 : Cond.fieldLink RX11 25 (TX11 3).1 (TX11 3).2.1 (TX11 3).2.2.1 ∈ gw := gw_T2 192 rfl rfl
set_option maxRecDepth 100000 in
theorem g_X11_25 (hM : M.1.cls = RX11) {a : Nat} (hs : shp a = .inl 11) (ha : a < hn h) {q : Nat} (hq : hr h a 3 = some q) (hd : decode M.2.1 pc = .ok (.getfield 25, 3)) (k : V M d (pc + 3) la (.ref q :: st) h Q) : V M d pc la (.ref a :: st) h Q := v_getf okC_11 hs ha (by decide : 3 < 15) (hM ▸ fl_X11_25) (congrArg va_rf hq) hd k
set_option maxRecDepth 100000 in
theorem p_X11_25 (hM : M.1.cls = RX11) {a : Nat} (hs : shp a = .inl 11) (ha : a < hn h) (hI : M.1.name = "<init>") {q : Nat} (hd : decode M.2.1 pc = .ok (.putfield 25, 3)) (k : V M d (pc + 3) la st (wrR h a 3 (some q)) Q) : V M d pc la (.ref q :: .ref a :: st) h Q := v_putr okC_11 hs ha (by decide : 3 < 15) (hM ▸ fl_X11_25) (Or.inr ⟨hI, hM.symm ▸ rfl, rfl⟩) (Or.inl ⟨_, rfl⟩) hd k
set_option maxRecDepth 100000 in
theorem fl_X11_32 : Cond.fieldLink RX11 32 (TX11 4).1 (TX11 4).2.1 (TX11 4).2.2.1 ∈ gw := gw_T2 193 rfl rfl
set_option maxRecDepth 100000 in
theorem g_X11_32 (hM : M.1.cls = RX11) {a : Nat} (hs : shp a = .inl 11) (ha : a < hn h) {q : Nat} (hq : hr h a 4 = some q) (hd : decode M.2.1 pc = .ok (.getfield 32, 3)) (k : V M d (pc + 3) la (.ref q :: st) h Q) : V M d pc la (.ref a :: st) h Q := v_getf okC_11 hs ha (by decide : 4 < 15) (hM ▸ fl_X11_32) (congrArg va_rf hq) hd k
set_option maxRecDepth 100000 in
theorem p_X11_32 (hM : M.1.cls = RX11) {a : Nat} (hs : shp a = .inl 11) (ha : a < hn h) (hI : M.1.name = "<init>") {q : Nat} (hd : decode M.2.1 pc = .ok (.putfield 32, 3)) (k : V M d (pc + 3) la st (wrR h a 4 (some q)) Q) : V M d pc la (.ref q :: .ref a :: st) h Q := v_putr okC_11 hs ha (by decide : 4 < 15) (hM ▸ fl_X11_32) (Or.inr ⟨hI, hM.symm ▸ rfl, rfl⟩) (Or.inl ⟨_, rfl⟩) hd k
set_option maxRecDepth 100000 in
theorem fl_X11_40 : Cond.fieldLink RX11 40 (TX11 5).1 (TX11 5).2.1 (TX11 5).2.2.1 ∈ gw := gw_T2 194 rfl rfl
set_option maxRecDepth 100000 in
theorem g_X11_40 (hM : M.1.cls = RX11) {a : Nat} (hs : shp a = .inl 11) (ha : a < hn h) {q : Nat} (hq : hr h a 5 = some q) (hd : decode M.2.1 pc = .ok (.getfield 40, 3)) (k : V M d (pc + 3) la (.ref q :: st) h Q) : V M d pc la (.ref a :: st) h Q := v_getf okC_11 hs ha (by decide : 5 < 15) (hM ▸ fl_X11_40) (congrArg va_rf hq) hd k
set_option maxRecDepth 100000 in
theorem p_X11_40 (hM : M.1.cls = RX11) {a : Nat} (hs : shp a = .inl 11) (ha : a < hn h) (hI : M.1.name = "<init>") {q : Nat} (hd : decode M.2.1 pc = .ok (.putfield 40, 3)) (k : V M d (pc + 3) la st (wrR h a 5 (some q)) Q) : V M d pc la (.ref q :: .ref a :: st) h Q := v_putr okC_11 hs ha (by decide : 5 < 15) (hM ▸ fl_X11_40) (Or.inr ⟨hI, hM.symm ▸ rfl, rfl⟩) (Or.inl ⟨_, rfl⟩) hd k
set_option maxRecDepth 100000 in
theorem fl_X11_44 : Cond.fieldLink RX11 44 (TX11 6).1 (TX11 6).2.1 (TX11 6).2.2.1 ∈ gw := gw_T2 195 rfl rfl
set_option maxRecDepth 100000 in
theorem g_X11_44 (hM : M.1.cls = RX11) {a : Nat} (hs : shp a = .inl 11) (ha : a < hn h) {q : Nat} (hq : hr h a 6 = some q) (hd : decode M.2.1 pc = .ok (.getfield 44, 3)) (k : V M d (pc + 3) la (.ref q :: st) h Q) : V M d pc la (.ref a :: st) h Q := v_getf okC_11 hs ha (by decide : 6 < 15) (hM ▸ fl_X11_44) (congrArg va_rf hq) hd k
set_option maxRecDepth 100000 in
theorem p_X11_44 (hM : M.1.cls = RX11) {a : Nat} (hs : shp a = .inl 11) (ha : a < hn h) (hI : M.1.name = "<init>") {q : Nat} (hd : decode M.2.1 pc = .ok (.putfield 44, 3)) (k : V M d (pc + 3) la st (wrR h a 6 (some q)) Q) : V M d pc la (.ref q :: .ref a :: st) h Q := v_putr okC_11 hs ha (by decide : 6 < 15) (hM ▸ fl_X11_44) (Or.inr ⟨hI, hM.symm ▸ rfl, rfl⟩) (Or.inl ⟨_, rfl⟩) hd k
set_option maxRecDepth 100000 in
theorem fl_X11_48 : Cond.fieldLink RX11 48 (TX11 7).1 (TX11 7).2.1 (TX11 7).2.2.1 ∈ gw := gw_T2 196 rfl rfl
set_option maxRecDepth 100000 in
theorem g_X11_48 (hM : M.1.cls = RX11) {a : Nat} (hs : shp a = .inl 11) (ha : a < hn h) {q : Nat} (hq : hr h a 7 = some q) (hd : decode M.2.1 pc = .ok (.getfield 48, 3)) (k : V M d (pc + 3) la (.ref q :: st) h Q) : V M d pc la (.ref a :: st) h Q := v_getf okC_11 hs ha (by decide : 7 < 15) (hM ▸ fl_X11_48) (congrArg va_rf hq) hd k
set_option maxRecDepth 100000 in
theorem p_X11_48 (hM : M.1.cls = RX11) {a : Nat} (hs : shp a = .inl 11) (ha : a < hn h) (hI : M.1.name = "<init>") {q : Nat} (hd : decode M.2.1 pc = .ok (.putfield 48, 3)) (k : V M d (pc + 3) la st (wrR h a 7 (some q)) Q) : V M d pc la (.ref q :: .ref a :: st) h Q := v_putr okC_11 hs ha (by decide : 7 < 15) (hM ▸ fl_X11_48) (Or.inr ⟨hI, hM.symm ▸ rfl, rfl⟩) (Or.inl ⟨_, rfl⟩) hd k
set_option maxRecDepth 100000 in
theorem fl_X11_54 : Cond.fieldLink RX11 54 (TX11 8).1 (TX11 8).2.1 (TX11 8).2.2.1 ∈ gw := gw_T2 197 rfl rfl
set_option maxRecDepth 100000 in
theorem g_X11_54 (hM : M.1.cls = RX11) {a : Nat} (hs : shp a = .inl 11) (ha : a < hn h) {q : Nat} (hq : hr h a 8 = some q) (hd : decode M.2.1 pc = .ok (.getfield 54, 3)) (k : V M d (pc + 3) la (.ref q :: st) h Q) : V M d pc la (.ref a :: st) h Q := v_getf okC_11 hs ha (by decide : 8 < 15) (hM ▸ fl_X11_54) (congrArg va_rf hq) hd k
set_option maxRecDepth 100000 in
theorem p_X11_54 (hM : M.1.cls = RX11) {a : Nat} (hs : shp a = .inl 11) (ha : a < hn h) (hI : M.1.name = "<init>") {q : Nat} (hd : decode M.2.1 pc = .ok (.putfield 54, 3)) (k : V M d (pc + 3) la st (wrR h a 8 (some q)) Q) : V M d pc la (.ref q :: .ref a :: st) h Q := v_putr okC_11 hs ha (by decide : 8 < 15) (hM ▸ fl_X11_54) (Or.inr ⟨hI, hM.symm ▸ rfl, rfl⟩) (Or.inl ⟨_, rfl⟩) hd k
set_option maxRecDepth 100000 in
theorem fl_X11_58 : Cond.fieldLink RX11 58 (TX11 9).1 (TX11 9).2.1 (TX11 9).2.2.1 ∈ gw := gw_T2 198 rfl rfl
set_option maxRecDepth 100000 in
theorem g_X11_58 (hM : M.1.cls = RX11) {a : Nat} (hs : shp a = .inl 11) (ha : a < hn h) {q : Nat} (hq : hr h a 9 = some q) (hd : decode M.2.1 pc = .ok (.getfield 58, 3)) (k : V M d (pc + 3) la (.ref q :: st) h Q) : V M d pc la (.ref a :: st) h Q := v_getf okC_11 hs ha (by decide : 9 < 15) (hM ▸ fl_X11_58) (congrArg va_rf hq) hd k
set_option maxRecDepth 100000 in
theorem p_X11_58 (hM : M.1.cls = RX11) {a : Nat} (hs : shp a = .inl 11) (ha : a < hn h) (hI : M.1.name = "<init>") {q : Nat} (hd : decode M.2.1 pc = .ok (.putfield 58, 3)) (k : V M d (pc + 3) la st (wrR h a 9 (some q)) Q) : V M d pc la (.ref q :: .ref a :: st) h Q := v_putr okC_11 hs ha (by decide : 9 < 15) (hM ▸ fl_X11_58) (Or.inr ⟨hI, hM.symm ▸ rfl, rfl⟩) (Or.inr ⟨_, rfl⟩) hd k
set_option maxRecDepth 100000 in
theorem fl_X11_62 : Cond.fieldLink RX11 62 (TX11 10).1 (TX11 10).2.1 (TX11 10).2.2.1 ∈ gw := gw_T2 199 rfl rfl
set_option maxRecDepth 100000 in
theorem g_X11_62 (hM : M.1.cls = RX11) {a : Nat} (hs : shp a = .inl 11) (ha : a < hn h) (hd : decode M.2.1 pc = .ok (.getfield 62, 3)) (k : V M d (pc + 3) la (.int (hi h a 10) :: st) h Q) : V M d pc la (.ref a :: st) h Q := v_getf okC_11 hs ha (by decide : 10 < 15) (hM ▸ fl_X11_62) rfl hd k
set_option maxRecDepth 100000 in
theorem p_X11_62 (hM : M.1.cls = RX11) {a : Nat} (hs : shp a = .inl 11) (ha : a < hn h) {x : Int32} (hd : decode M.2.1 pc = .ok (.putfield 62, 3)) (k : V M d (pc + 3) la st (wrI h a 10 x) Q) : V M d pc la (.int x :: .ref a :: st) h Q := v_puti okC_11 hs ha (by decide : 10 < 15) (hM ▸ fl_X11_62) rfl rfl hd k
set_option maxRecDepth 100000 in
theorem fl_X11_68 : Cond.fieldLink RX11 68 (TX11 11).1 (TX11 11).2.1 (TX11 11).2.2.1 ∈ gw := gw_T2 200 rfl rfl
set_option maxRecDepth 100000 in
theorem g_X11_68 (hM : M.1.cls = RX11) {a : Nat} (hs : shp a = .inl 11) (ha : a < hn h) {q : Nat} (hq : hr h a 11 = some q) (hd : decode M.2.1 pc = .ok (.getfield 68, 3)) (k : V M d (pc + 3) la (.ref q :: st) h Q) : V M d pc la (.ref a :: st) h Q := v_getf okC_11 hs ha (by decide : 11 < 15) (hM ▸ fl_X11_68) (congrArg va_rf hq) hd k
set_option maxRecDepth 100000 in
theorem p_X11_68 (hM : M.1.cls = RX11) {a : Nat} (hs : shp a = .inl 11) (ha : a < hn h) (hI : M.1.name = "<init>") {q : Nat} (hd : decode M.2.1 pc = .ok (.putfield 68, 3)) (k : V M d (pc + 3) la st (wrR h a 11 (some q)) Q) : V M d pc la (.ref q :: .ref a :: st) h Q := v_putr okC_11 hs ha (by decide : 11 < 15) (hM ▸ fl_X11_68) (Or.inr ⟨hI, hM.symm ▸ rfl, rfl⟩) (Or.inl ⟨_, rfl⟩) hd k
set_option maxRecDepth 100000 in
theorem fl_X11_77 : Cond.fieldLink RX11 77 (TX11 12).1 (TX11 12).2.1 (TX11 12).2.2.1 ∈ gw := gw_T2 201 rfl rfl
set_option maxRecDepth 100000 in
theorem g_X11_77 (hM : M.1.cls = RX11) {a : Nat} (hs : shp a = .inl 11) (ha : a < hn h) {q : Nat} (hq : hr h a 12 = some q) (hd : decode M.2.1 pc = .ok (.getfield 77, 3)) (k : V M d (pc + 3) la (.ref q :: st) h Q) : V M d pc la (.ref a :: st) h Q := v_getf okC_11 hs ha (by decide : 12 < 15) (hM ▸ fl_X11_77) (congrArg va_rf hq) hd k
set_option maxRecDepth 100000 in
theorem p_X11_77 (hM : M.1.cls = RX11) {a : Nat} (hs : shp a = .inl 11) (ha : a < hn h) (hI : M.1.name = "<init>") {q : Nat} (hd : decode M.2.1 pc = .ok (.putfield 77, 3)) (k : V M d (pc + 3) la st (wrR h a 12 (some q)) Q) : V M d pc la (.ref q :: .ref a :: st) h Q := v_putr okC_11 hs ha (by decide : 12 < 15) (hM ▸ fl_X11_77) (Or.inr ⟨hI, hM.symm ▸ rfl, rfl⟩) (Or.inl ⟨_, rfl⟩) hd k
set_option maxRecDepth 100000 in
theorem fl_X11_84 : Cond.fieldLink RX11 84 (TX11 13).1 (TX11 13).2.1 (TX11 13).2.2.1 ∈ gw := gw_T2 202 rfl rfl
set_option maxRecDepth 100000 in
theorem g_X11_84 (hM : M.1.cls = RX11) {a : Nat} (hs : shp a = .inl 11) (ha : a < hn h) {q : Nat} (hq : hr h a 13 = some q) (hd : decode M.2.1 pc = .ok (.getfield 84, 3)) (k : V M d (pc + 3) la (.ref q :: st) h Q) : V M d pc la (.ref a :: st) h Q := v_getf okC_11 hs ha (by decide : 13 < 15) (hM ▸ fl_X11_84) (congrArg va_rf hq) hd k
set_option maxRecDepth 100000 in
theorem p_X11_84 (hM : M.1.cls = RX11) {a : Nat} (hs : shp a = .inl 11) (ha : a < hn h) (hI : M.1.name = "<init>") {q : Nat} (hd : decode M.2.1 pc = .ok (.putfield 84, 3)) (k : V M d (pc + 3) la st (wrR h a 13 (some q)) Q) : V M d pc la (.ref q :: .ref a :: st) h Q := v_putr okC_11 hs ha (by decide : 13 < 15) (hM ▸ fl_X11_84) (Or.inr ⟨hI, hM.symm ▸ rfl, rfl⟩) (Or.inl ⟨_, rfl⟩) hd k
set_option maxRecDepth 100000 in
theorem fl_X11_91 : Cond.fieldLink RX11 91 (TX11 14).1 (TX11 14).2.1 (TX11 14).2.2.1 ∈ gw := gw_T2 203 rfl rfl
set_option maxRecDepth 100000 in
theorem g_X11_91 (hM : M.1.cls = RX11) {a : Nat} (hs : shp a = .inl 11) (ha : a < hn h) {q : Nat} (hq : hr h a 14 = some q) (hd : decode M.2.1 pc = .ok (.getfield 91, 3)) (k : V M d (pc + 3) la (.ref q :: st) h Q) : V M d pc la (.ref a :: st) h Q := v_getf okC_11 hs ha (by decide : 14 < 15) (hM ▸ fl_X11_91) (congrArg va_rf hq) hd k
set_option maxRecDepth 100000 in
theorem p_X11_91 (hM : M.1.cls = RX11) {a : Nat} (hs : shp a = .inl 11) (ha : a < hn h) (hI : M.1.name = "<init>") {q : Nat} (hd : decode M.2.1 pc = .ok (.putfield 91, 3)) (k : V M d (pc + 3) la st (wrR h a 14 (some q)) Q) : V M d pc la (.ref q :: .ref a :: st) h Q := v_putr okC_11 hs ha (by decide : 14 < 15) (hM ▸ fl_X11_91) (Or.inr ⟨hI, hM.symm ▸ rfl, rfl⟩) (Or.inl ⟨_, rfl⟩) hd k
set_option maxRecDepth 100000 in
theorem fl_X12_13 : Cond.fieldLink RX12 13 (TX12 1).1 (TX12 1).2.1 (TX12 1).2.2.1 ∈ gw := gw_T5 223 rfl rfl
set_option maxRecDepth 100000 in
theorem g_X12_13 (hM : M.1.cls = RX12) {a : Nat} (hs : shp a = .inl 12) (ha : a < hn h) {q : Nat} (hq : hr h a 1 = some q) (hd : decode M.2.1 pc = .ok (.getfield 13, 3)) (k : V M d (pc + 3) la (.ref q :: st) h Q) : V M d pc la (.ref a :: st) h Q := v_getf okC_12 hs ha (by decide : 1 < 70) (hM ▸ fl_X12_13) (congrArg va_rf hq) hd k
set_option maxRecDepth 100000 in
theorem p_X12_13 (hM : M.1.cls = RX12) {a : Nat} (hs : shp a = .inl 12) (ha : a < hn h) (hI : M.1.name = "<init>") {q : Nat} (hd : decode M.2.1 pc = .ok (.putfield 13, 3)) (k : V M d (pc + 3) la st (wrR h a 1 (some q)) Q) : V M d pc la (.ref q :: .ref a :: st) h Q := v_putr okC_12 hs ha (by decide : 1 < 70) (hM ▸ fl_X12_13) (Or.inr ⟨hI, hM.symm ▸ rfl, rfl⟩) (Or.inr ⟨_, rfl⟩) hd k
set_option maxRecDepth 100000 in
theorem fl_X12_178 : Cond.fieldLink RX12 178 (TX12 2).1 (TX12 2).2.1 (TX12 2).2.2.1 ∈ gw := gw_T5 224 rfl rfl
end FW
