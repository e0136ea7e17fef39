section FW
variable {M : MT} {d pc : Nat} {la : List (Option Value)} {st : List Value} {h : Hp} {Q : Option Value → Hp → Prop}
set_option maxRecDepth 100000 in
theorem g_X12_178 (hM : M.1.cls = RX12) {a : Nat} (hs : shp a = .inl 12) (ha : a < hn h) (hd : decode M.2.1 pc = .ok (.getfield 178, 3)) (k : V M d (pc + 3) la (.int (hi h a 2) :: st) h Q) : V M d pc la (.ref a :: st) h Q := v_getf okC_12 hs ha (by decide : 2 < 70) (hM ▸ fl_X12_178) rfl hd k
set_option maxRecDepth 100000 in
theorem p_X12_178 (hM : M.1.cls = RX12) {a : Nat} (hs : shp a = .inl 12) (ha : a < hn h) {x : Int32} (hd : decode M.2.1 pc = .ok (.putfield 178, 3)) (k : V M d (pc + 3) la st (wrI h a 2 x) Q) : V M d pc la (.int x :: .ref a :: st) h Q := v_puti okC_12 hs ha (by decide : 2 < 70) (hM ▸ fl_X12_178) rfl rfl hd k
set_option maxRecDepth 100000 in
theorem fl_X12_17 : Cond.fieldLink RX12 17 (TX12 3).1 (TX12 3).2.1 (TX12 3).2.2.1 ∈ gw := gw_T5 225 rfl rfl
set_option maxRecDepth 100000 in
theorem g_X12_17 (hM : M.1.cls = RX12) {a : Nat} (hs : shp a = .inl 12) (ha : a < hn h) {q : Nat} (hq : hr h a 3 = some q) (hd : decode M.2.1 pc = .ok (.getfield 17, 3)) (k : V M d (pc + 3) la (.ref q :: st) h Q) : V M d pc la (.ref a :: st) h Q := v_getf okC_12 hs ha (by decide : 3 < 70) (hM ▸ fl_X12_17) (congrArg va_rf hq) hd k
set_option maxRecDepth 100000 in
theorem p_X12_17 (hM : M.1.cls = RX12) {a : Nat} (hs : shp a = .inl 12) (ha : a < hn h) (hI : M.1.name = "<init>") {q : Nat} (hd : decode M.2.1 pc = .ok (.putfield 17, 3)) (k : V M d (pc + 3) la st (wrR h a 3 (some q)) Q) : V M d pc la (.ref q :: .ref a :: st) h Q := v_putr okC_12 hs ha (by decide : 3 < 70) (hM ▸ fl_X12_17) (Or.inr ⟨hI, hM.symm ▸ rfl, rfl⟩) (Or.inr ⟨_, rfl⟩) hd k
set_option maxRecDepth 100000 in
theorem fl_X12_184 : Cond.fieldLink RX12 184 (TX12 4).1 (TX12 4).2.1 (TX12 4).2.2.1 ∈ gw := gw_T5 226 rfl rfl
set_option maxRecDepth 100000 in
theorem g_X12_184 (hM : M.1.cls = RX12) {a : Nat} (hs : shp a = .inl 12) (ha : a < hn h) (hd : decode M.2.1 pc = .ok (.getfield 184, 3)) (k : V M d (pc + 3) la (.int (hi h a 4) :: st) h Q) : V M d pc la (.ref a :: st) h Q := v_getf okC_12 hs ha (by decide : 4 < 70) (hM ▸ fl_X12_184) rfl hd k
set_option maxRecDepth 100000 in
theorem p_X12_184 (hM : M.1.cls = RX12) {a : Nat} (hs : shp a = .inl 12) (ha : a < hn h) {x : Int32} (hd : decode M.2.1 pc = .ok (.putfield 184, 3)) (k : V M d (pc + 3) la st (wrI h a 4 x) Q) : V M d pc la (.int x :: .ref a :: st) h Q := v_puti okC_12 hs ha (by decide : 4 < 70) (hM ▸ fl_X12_184) rfl rfl hd k
set_option maxRecDepth 100000 in
theorem fl_X12_20 : Cond.fieldLink RX12 20 (TX12 5).1 (TX12 5).2.1 (TX12 5).2.2.1 ∈ gw := gw_T5 227 rfl rfl
set_option maxRecDepth 100000 in
theorem g_X12_20 (hM : M.1.cls = RX12) {a : Nat} (hs : shp a = .inl 12) (ha : a < hn h) {q : Nat} (hq : hr h a 5 = some q) (hd : decode M.2.1 pc = .ok (.getfield 20, 3)) (k : V M d (pc + 3) la (.ref q :: st) h Q) : V M d pc la (.ref a :: st) h Q := v_getf okC_12 hs ha (by decide : 5 < 70) (hM ▸ fl_X12_20) (congrArg va_rf hq) hd k
set_option maxRecDepth 100000 in
theorem p_X12_20 (hM : M.1.cls = RX12) {a : Nat} (hs : shp a = .inl 12) (ha : a < hn h) (hI : M.1.name = "<init>") {q : Nat} (hd : decode M.2.1 pc = .ok (.putfield 20, 3)) (k : V M d (pc + 3) la st (wrR h a 5 (some q)) Q) : V M d pc la (.ref q :: .ref a :: st) h Q := v_putr okC_12 hs ha (by decide : 5 < 70) (hM ▸ fl_X12_20) (Or.inr ⟨hI, hM.symm ▸ rfl, rfl⟩) (Or.inr ⟨_, rfl⟩) hd k
set_option maxRecDepth 100000 in
theorem fl_X12_24 : Cond.fieldLink RX12 24 (TX12 6).1 (TX12 6).2.1 (TX12 6).2.2.1 ∈ gw := gw_T5 228 rfl rfl
set_option maxRecDepth 100000 in
theorem g_X12_24 (hM : M.1.cls = RX12) {a : Nat} (hs : shp a = .inl 12) (ha : a < hn h) {q : Nat} (hq : hr h a 6 = some q) (hd : decode M.2.1 pc = .ok (.getfield 24, 3)) (k : V M d (pc + 3) la (.ref q :: st) h Q) : V M d pc la (.ref a :: st) h Q := v_getf okC_12 hs ha (by decide : 6 < 70) (hM ▸ fl_X12_24) (congrArg va_rf hq) hd k
set_option maxRecDepth 100000 in
theorem p_X12_24 (hM : M.1.cls = RX12) {a : Nat} (hs : shp a = .inl 12) (ha : a < hn h) (hI : M.1.name = "<init>") {q : Nat} (hd : decode M.2.1 pc = .ok (.putfield 24, 3)) (k : V M d (pc + 3) la st (wrR h a 6 (some q)) Q) : V M d pc la (.ref q :: .ref a :: st) h Q := v_putr okC_12 hs ha (by decide : 6 < 70) (hM ▸ fl_X12_24) (Or.inr ⟨hI, hM.symm ▸ rfl, rfl⟩) (Or.inr ⟨_, rfl⟩) hd k
set_option maxRecDepth 100000 in
theorem fl_X12_27 : Cond.fieldLink RX12 27 (TX12 7).1 (TX12 7).2.1 (TX12 7).2.2.1 ∈ gw := gw_T5 229 rfl rfl
set_option maxRecDepth 100000 in
theorem g_X12_27 (hM : M.1.cls = RX12) {a : Nat} (hs : shp a = .inl 12) (ha : a < hn h) {q : Nat} (hq : hr h a 7 = some q) (hd : decode M.2.1 pc = .ok (.getfield 27, 3)) (k : V M d (pc + 3) la (.ref q :: st) h Q) : V M d pc la (.ref a :: st) h Q := v_getf okC_12 hs ha (by decide : 7 < 70) (hM ▸ fl_X12_27) (congrArg va_rf hq) hd k
set_option maxRecDepth 100000 in
theorem p_X12_27 (hM : M.1.cls = RX12) {a : Nat} (hs : shp a = .inl 12) (ha : a < hn h) (hI : M.1.name = "<init>") {q : Nat} (hd : decode M.2.1 pc = .ok (.putfield 27, 3)) (k : V M d (pc + 3) la st (wrR h a 7 (some q)) Q) : V M d pc la (.ref q :: .ref a :: st) h Q := v_putr okC_12 hs ha (by decide : 7 < 70) (hM ▸ fl_X12_27) (Or.inr ⟨hI, hM.symm ▸ rfl, rfl⟩) (Or.inr ⟨_, rfl⟩) hd k
set_option maxRecDepth 100000 in
theorem fl_X12_30 : Cond.fieldLink RX12 30 (TX12 8).1 (TX12 8).2.1 (TX12 8).2.2.1 ∈ gw := gw_T5 230 rfl rfl
set_option maxRecDepth 100000 in
theorem g_X12_30 (hM : M.1.cls = RX12) {a : Nat} (hs : shp a = .inl 12) (ha : a < hn h) {q : Nat} (hq : hr h a 8 = some q) (hd : decode M.2.1 pc = .ok (.getfield 30, 3)) (k : V M d (pc + 3) la (.ref q :: st) h Q) : V M d pc la (.ref a :: st) h Q := v_getf okC_12 hs ha (by decide : 8 < 70) (hM ▸ fl_X12_30) (congrArg va_rf hq) hd k
set_option maxRecDepth 100000 in
theorem p_X12_30 (hM : M.1.cls = RX12) {a : Nat} (hs : shp a = .inl 12) (ha : a < hn h) (hI : M.1.name = "<init>") {q : Nat} (hd : decode M.2.1 pc = .ok (.putfield 30, 3)) (k : V M d (pc + 3) la st (wrR h a 8 (some q)) Q) : V M d pc la (.ref q :: .ref a :: st) h Q := v_putr okC_12 hs ha (by decide : 8 < 70) (hM ▸ fl_X12_30) (Or.inr ⟨hI, hM.symm ▸ rfl, rfl⟩) (Or.inr ⟨_, rfl⟩) hd k
set_option maxRecDepth 100000 in
theorem fl_X12_34 : Cond.fieldLink RX12 34 (TX12 9).1 (TX12 9).2.1 (TX12 9).2.2.1 ∈ gw := gw_T5 231 rfl rfl
set_option maxRecDepth 100000 in
theorem g_X12_34 (hM : M.1.cls = RX12) {a : Nat} (hs : shp a = .inl 12) (ha : a < hn h) {q : Nat} (hq : hr h a 9 = some q) (hd : decode M.2.1 pc = .ok (.getfield 34, 3)) (k : V M d (pc + 3) la (.ref q :: st) h Q) : V M d pc la (.ref a :: st) h Q := v_getf okC_12 hs ha (by decide : 9 < 70) (hM ▸ fl_X12_34) (congrArg va_rf hq) hd k
set_option maxRecDepth 100000 in
theorem p_X12_34 (hM : M.1.cls = RX12) {a : Nat} (hs : shp a = .inl 12) (ha : a < hn h) (hI : M.1.name = "<init>") {q : Nat} (hd : decode M.2.1 pc = .ok (.putfield 34, 3)) (k : V M d (pc + 3) la st (wrR h a 9 (some q)) Q) : V M d pc la (.ref q :: .ref a :: st) h Q := v_putr okC_12 hs ha (by decide : 9 < 70) (hM ▸ fl_X12_34) (Or.inr ⟨hI, hM.symm ▸ rfl, rfl⟩) (Or.inr ⟨_, rfl⟩) hd k
set_option maxRecDepth 100000 in
theorem fl_X12_193 : Cond.fieldLink RX12 193 (TX12 10).1 (TX12 10).2.1 (TX12 10).2.2.1 ∈ gw := gw_T5 232 rfl rfl
set_option maxRecDepth 100000 in
theorem g_X12_193 (hM : M.1.cls = RX12) {a : Nat} (hs : shp a = .inl 12) (ha : a < hn h) (hd : decode M.2.1 pc = .ok (.getfield 193, 3)) (k : V M d (pc + 3) la (.int (hi h a 10) :: st) h Q) : V M d pc la (.ref a :: st) h Q := v_getf okC_12 hs ha (by decide : 10 < 70) (hM ▸ fl_X12_193) rfl hd k
set_option maxRecDepth 100000 in
theorem p_X12_193 (hM : M.1.cls = RX12) {a : Nat} (hs : shp a = .inl 12) (ha : a < hn h) {x : Int32} (hd : decode M.2.1 pc = .ok (.putfield 193, 3)) (k : V M d (pc + 3) la st (wrI h a 10 x) Q) : V M d pc la (.int x :: .ref a :: st) h Q := v_puti okC_12 hs ha (by decide : 10 < 70) (hM ▸ fl_X12_193) rfl rfl hd k
set_option maxRecDepth 100000 in
theorem fl_X12_218 : Cond.fieldLink RX12 218 (TX12 11).1 (TX12 11).2.1 (TX12 11).2.2.1 ∈ gw := gw_T5 233 rfl rfl
set_option maxRecDepth 100000 in
theorem g_X12_218 (hM : M.1.cls = RX12) {a : Nat} (hs : shp a = .inl 12) (ha : a < hn h) (hd : decode M.2.1 pc = .ok (.getfield 218, 3)) (k : V M d (pc + 3) la (.int (hi h a 11) :: st) h Q) : V M d pc la (.ref a :: st) h Q := v_getf okC_12 hs ha (by decide : 11 < 70) (hM ▸ fl_X12_218) rfl hd k
set_option maxRecDepth 100000 in
theorem p_X12_218 (hM : M.1.cls = RX12) {a : Nat} (hs : shp a = .inl 12) (ha : a < hn h) {x : Int32} (hd : decode M.2.1 pc = .ok (.putfield 218, 3)) (k : V M d (pc + 3) la st (wrI h a 11 x) Q) : V M d pc la (.int x :: .ref a :: st) h Q := v_puti okC_12 hs ha (by decide : 11 < 70) (hM ▸ fl_X12_218) rfl rfl hd k
set_option maxRecDepth 100000 in
theorem fl_X12_242 : Cond.fieldLink RX12 242 (TX12 12).1 (TX12 12).2.1 (TX12 12).2.2.1 ∈ gw := gw_T5 234 rfl rfl
set_option maxRecDepth 100000 in
theorem g_X12_242 (hM : M.1.cls = RX12) {a : Nat} (hs : shp a = .inl 12) (ha : a < hn h) (hd : decode M.2.1 pc = .ok (.getfield 242, 3)) (k : V M d (pc + 3) la (.int (hi h a 12) :: st) h Q) : V M d pc la (.ref a :: st) h Q := v_getf okC_12 hs ha (by decide : 12 < 70) (hM ▸ fl_X12_242) rfl hd k
set_option maxRecDepth 100000 in
theorem p_X12_242 (hM : M.1.cls = RX12) {a : Nat} (hs : shp a = .inl 12) (ha : a < hn h) {x : Int32} (hd : decode M.2.1 pc = .ok (.putfield 242, 3)) (k : V M d (pc + 3) la st (wrI h a 12 x) Q) : V M d pc la (.int x :: .ref a :: st) h Q := v_puti okC_12 hs ha (by decide : 12 < 70) (hM ▸ fl_X12_242) rfl rfl hd k
set_option maxRecDepth 100000 in
theorem fl_X12_215 : Cond.fieldLink RX12 215 (TX12 13).1 (TX12 13).2.1 (TX12 13).2.2.1 ∈ gw := gw_T5 235 rfl rfl
set_option maxRecDepth 100000 in
theorem g_X12_215 (hM : M.1.cls = RX12) {a : Nat} (hs : shp a = .inl 12) (ha : a < hn h) (hd : decode M.2.1 pc = .ok (.getfield 215, 3)) (k : V M d (pc + 3) la (.int (hi h a 13) :: st) h Q) : V M d pc la (.ref a :: st) h Q := v_getf okC_12 hs ha (by decide : 13 < 70) (hM ▸ fl_X12_215) rfl hd k
set_option maxRecDepth 100000 in
theorem p_X12_215 (hM : M.1.cls = RX12) {a : Nat} (hs : shp a = .inl 12) (ha : a < hn h) {x : Int32} (hd : decode M.2.1 pc = .ok (.putfield 215, 3)) (k : V M d (pc + 3) la st (wrI h a 13 x) Q) : V M d pc la (.int x :: .ref a :: st) h Q := v_puti okC_12 hs ha (by decide : 13 < 70) (hM ▸ fl_X12_215) rfl rfl hd k
set_option maxRecDepth 100000 in
theorem fl_X12_221 : Cond.fieldLink RX12 221 (TX12 14).1 (TX12 14).2.1 (TX12 14).2.2.1 ∈ gw := gw_T5 236 rfl rfl
set_option maxRecDepth 100000 in
theorem g_X12_221 (hM : M.1.cls = RX12) {a : Nat} (hs : shp a = .inl 12) (ha : a < hn h) (hd : decode M.2.1 pc = .ok (.getfield 221, 3)) (k : V M d (pc + 3) la (.int (hi h a 14) :: st) h Q) : V M d pc la (.ref a :: st) h Q := v_getf okC_12 hs ha (by decide : 14 < 70) (hM ▸ fl_X12_221) rfl hd k
set_option maxRecDepth 100000 in
theorem p_X12_221 (hM : M.1.cls = RX12) {a : Nat} (hs : shp a = .inl 12) (ha : a < hn h) {x : Int32} (hd : decode M.2.1 pc = .ok (.putfield 221, 3)) (k : V M d (pc + 3) la st (wrI h a 14 x) Q) : V M d pc la (.int x :: .ref a :: st) h Q := v_puti okC_12 hs ha (by decide : 14 < 70) (hM ▸ fl_X12_221) rfl rfl hd k
set_option maxRecDepth 100000 in
theorem fl_X12_224 : Cond.fieldLink RX12 224 (TX12 15).1 (TX12 15).2.1 (TX12 15).2.2.1 ∈ gw := gw_T5 237 rfl rfl
set_option maxRecDepth 100000 in
theorem g_X12_224 (hM : M.1.cls = RX12) {a : Nat} (hs : shp a = .inl 12) (ha : a < hn h) (hd : decode M.2.1 pc = .ok (.getfield 224, 3)) (k : V M d (pc + 3) la (.int (hi h a 15) :: st) h Q) : V M d pc la (.ref a :: st) h Q := v_getf okC_12 hs ha (by decide : 15 < 70) (hM ▸ fl_X12_224) rfl hd k
set_option maxRecDepth 100000 in
theorem p_X12_224 (hM : M.1.cls = RX12) {a : Nat} (hs : shp a = .inl 12) (ha : a < hn h) {x : Int32} (hd : decode M.2.1 pc = .ok (.putfield 224, 3)) (k : V M d (pc + 3) la st (wrI h a 15 x) Q) : V M d pc la (.int x :: .ref a :: st) h Q := v_puti okC_12 hs ha (by decide : 15 < 70) (hM ▸ fl_X12_224) rfl rfl hd k
set_option maxRecDepth 100000 in
theorem fl_X12_227 : Cond.fieldLink RX12 227 (TX12 16).1 (TX12 16).2.1 (TX12 16).2.2.1 ∈ gw := gw_T5 238 rfl rfl
set_option maxRecDepth 100000 in
theorem g_X12_227 (hM : M.1.cls = RX12) {a : Nat} (hs : shp a = .inl 12) (ha : a < hn h) (hd : decode M.2.1 pc = .ok (.getfield 227, 3)) (k : V M d (pc + 3) la (.int (hi h a 16) :: st) h Q) : V M d pc la (.ref a :: st) h Q := v_getf okC_12 hs ha (by decide : 16 < 70) (hM ▸ fl_X12_227) rfl hd k
set_option maxRecDepth 100000 in
theorem p_X12_227 (hM : M.1.cls = RX12) {a : Nat} (hs : shp a = .inl 12) (ha : a < hn h) {x : Int32} (hd : decode M.2.1 pc = .ok (.putfield 227, 3)) (k : V M d (pc + 3) la st (wrI h a 16 x) Q) : V M d pc la (.int x :: .ref a :: st) h Q := v_puti okC_12 hs ha (by decide : 16 < 70) (hM ▸ fl_X12_227) rfl rfl hd k
set_option maxRecDepth 100000 in
theorem fl_X12_37 : Cond.fieldLink RX12 37 (TX12 17).1 (TX12 17).2.1 (TX12 17).2.2.1 ∈ gw := gw_T5 239 rfl rfl
set_option maxRecDepth 100000 in
theorem g_X12_37 (hM : M.1.cls = RX12) {a : Nat} (hs : shp a = .inl 12) (ha : a < hn h) (hd : decode M.2.1 pc = .ok (.getfield 37, 3)) (k : V M d (pc + 3) la (.int (hi h a 17) :: st) h Q) : V M d pc la (.ref a :: st) h Q := v_getf okC_12 hs ha (by decide : 17 < 70) (hM ▸ fl_X12_37) rfl hd k
set_option maxRecDepth 100000 in
theorem p_X12_37 (hM : M.1.cls = RX12) {a : Nat} (hs : shp a = .inl 12) (ha : a < hn h) {x : Int32} (hd : decode M.2.1 pc = .ok (.putfield 37, 3)) (k : V M d (pc + 3) la st (wrI h a 17 x) Q) : V M d pc la (.int x :: .ref a :: st) h Q := v_puti okC_12 hs ha (by decide : 17 < 70) (hM ▸ fl_X12_37) rfl rfl hd k
set_option maxRecDepth 100000 in
theorem fl_X12_245 : Cond.fieldLink RX12 245 (TX12 18).1 (TX12 18).2.1 (TX12 18).2.2.1 ∈ gw := gw_T6 0 rfl rfl
set_option maxRecDepth 100000 in
theorem g_X12_245 (hM : M.1.cls = RX12) {a : Nat} (hs : shp a = .inl 12) (ha : a < hn h) (hd : decode M.2.1 pc = .ok (.getfield 245, 3)) (k : V M d (pc + 3) la (.int (hi h a 18) :: st) h Q) : V M d pc la (.ref a :: st) h Q := v_getf okC_12 hs ha (by decide : 18 < 70) (hM ▸ fl_X12_245) rfl hd k
set_option maxRecDepth 100000 in
theorem p_X12_245 (hM : M.1.cls = RX12) {a : Nat} (hs : shp a = .inl 12) (ha : a < hn h) {x : Int32} (hd : decode M.2.1 pc = .ok (.putfield 245, 3)) (k : V M d (pc + 3) la st (wrI h a 18 x) Q) : V M d pc la (.int x :: .ref a :: st) h Q := v_puti okC_12 hs ha (by decide : 18 < 70) (hM ▸ fl_X12_245) rfl rfl hd k
set_option maxRecDepth 100000 in
theorem fl_X12_248 : Cond.fieldLink RX12 248 (TX12 19).1 (TX12 19).2.1 (TX12 19).2.2.1 ∈ gw := gw_T6 1 rfl rfl
set_option maxRecDepth 100000 in
theorem g_X12_248 (hM : M.1.cls = RX12) {a : Nat} (hs : shp a = .inl 12) (ha : a < hn h) (hd : decode M.2.1 pc = .ok (.getfield 248, 3)) (k : V M d (pc + 3) la (.int (hi h a 19) :: st) h Q) : V M d pc la (.ref a :: st) h Q := v_getf okC_12 hs ha (by decide : 19 < 70) (hM ▸ fl_X12_248) rfl hd k
set_option maxRecDepth 100000 in
theorem p_X12_248 (hM : M.1.cls = RX12) {a : Nat} (hs : shp a = .inl 12) (ha : a < hn h) {x : Int32} (hd : decode M.2.1 pc = .ok (.putfield 248, 3)) (k : V M d (pc + 3) la st (wrI h a 19 x) Q) : V M d pc la (.int x :: .ref a :: st) h Q := v_puti okC_12 hs ha (by decide : 19 < 70) (hM ▸ fl_X12_248) rfl rfl hd k
set_option maxRecDepth 100000 in
theorem fl_X12_251 : Cond.fieldLink RX12 251 (TX12 20).1 (TX12 20).2.1 (TX12 20).2.2.1 ∈ gw := gw_T6 2 rfl rfl
set_option maxRecDepth 100000 in
theorem g_X12_251 (hM : M.1.cls = RX12) {a : Nat} (hs : shp a = .inl 12) (ha : a < hn h) (hd : decode M.2.1 pc = .ok (.getfield 251, 3)) (k : V M d (pc + 3) la (.int (hi h a 20) :: st) h Q) : V M d pc la (.ref a :: st) h Q := v_getf okC_12 hs ha (by decide : 20 < 70) (hM ▸ fl_X12_251) rfl hd k
set_option maxRecDepth 100000 in
theorem p_X12_251 (hM : M.1.cls = RX12) {a : Nat} (hs : shp a = .inl 12) (ha : a < hn h) {x : Int32} (hd : decode M.2.1 pc = .ok (.putfield 251, 3)) (k : V M d (pc + 3) la st (wrI h a 20 x) Q) : V M d pc la (.int x :: .ref a :: st) h Q := v_puti okC_12 hs ha (by decide : 20 < 70) (hM ▸ fl_X12_251) rfl rfl hd k
set_option maxRecDepth 100000 in
theorem fl_X12_40 : Cond.fieldLink RX12 40 (TX12 21).1 (TX12 21).2.1 (TX12 21).2.2.1 ∈ gw := gw_T6 3 rfl rfl
set_option maxRecDepth 100000 in
theorem g_X12_40 (hM : M.1.cls = RX12) {a : Nat} (hs : shp a = .inl 12) (ha : a < hn h) {q : Nat} (hq : hr h a 21 = some q) (hd : decode M.2.1 pc = .ok (.getfield 40, 3)) (k : V M d (pc + 3) la (.ref q :: st) h Q) : V M d pc la (.ref a :: st) h Q := v_getf okC_12 hs ha (by decide : 21 < 70) (hM ▸ fl_X12_40) (congrArg va_rf hq) hd k
set_option maxRecDepth 100000 in
theorem p_X12_40 (hM : M.1.cls = RX12) {a : Nat} (hs : shp a = .inl 12) (ha : a < hn h) (hI : M.1.name = "<init>") {q : Nat} (hd : decode M.2.1 pc = .ok (.putfield 40, 3)) (k : V M d (pc + 3) la st (wrR h a 21 (some q)) Q) : V M d pc la (.ref q :: .ref a :: st) h Q := v_putr okC_12 hs ha (by decide : 21 < 70) (hM ▸ fl_X12_40) (Or.inr ⟨hI, hM.symm ▸ rfl, rfl⟩) (Or.inr ⟨_, rfl⟩) hd k
set_option maxRecDepth 100000 in
theorem fl_X12_43 : Cond.fieldLink RX12 43 (TX12 22).1 (TX12 22).2.1 (TX12 22).2.2.1 ∈ gw := gw_T6 4 rfl rfl
set_option maxRecDepth 100000 in
theorem g_X12_43 (hM : M.1.cls = RX12) {a : Nat} (hs : shp a = .inl 12) (ha : a < hn h) {q : Nat} (hq : hr h a 22 = some q) (hd : decode M.2.1 pc = .ok (.getfield 43, 3)) (k : V M d (pc + 3) la (.ref q :: st) h Q) : V M d pc la (.ref a :: st) h Q := v_getf okC_12 hs ha (by decide : 22 < 70) (hM ▸ fl_X12_43) (congrArg va_rf hq) hd k
set_option maxRecDepth 100000 in
theorem p_X12_43 (hM : M.1.cls = RX12) {a : Nat} (hs : shp a = .inl 12) (ha : a < hn h) (hI : M.1.name = "<init>") {q : Nat} (hd : decode M.2.1 pc = .ok (.putfield 43, 3)) (k : V M d (pc + 3) la st (wrR h a 22 (some q)) Q) : V M d pc la (.ref q :: .ref a :: st) h Q := v_putr okC_12 hs ha (by decide : 22 < 70) (hM ▸ fl_X12_43) (Or.inr ⟨hI, hM.symm ▸ rfl, rfl⟩) (Or.inr ⟨_, rfl⟩) hd k
set_option maxRecDepth 100000 in
theorem fl_X12_46 : Cond.fieldLink RX12 46 (TX12 23).1 (TX12 23).2.1 (TX12 23).2.2.1 ∈ gw := gw_T6 5 rfl rfl
set_option maxRecDepth 100000 in
theorem g_X12_46 (hM : M.1.cls = RX12) {a : Nat} (hs : shp a = .inl 12) (ha : a < hn h) {q : Nat} (hq : hr h a 23 = some q) (hd : decode M.2.1 pc = .ok (.getfield 46, 3)) (k : V M d (pc + 3) la (.ref q :: st) h Q) : V M d pc la (.ref a :: st) h Q := v_getf okC_12 hs ha (by decide : 23 < 70) (hM ▸ fl_X12_46) (congrArg va_rf hq) hd k
set_option maxRecDepth 100000 in
theorem p_X12_46 (hM : M.1.cls = RX12) {a : Nat} (hs : shp a = .inl 12) (ha : a < hn h) (hI : M.1.name = "<init>") {q : Nat} (hd : decode M.2.1 pc = .ok (.putfield 46, 3)) (k : V M d (pc + 3) la st (wrR h a 23 (some q)) Q) : V M d pc la (.ref q :: .ref a :: st) h Q := v_putr okC_12 hs ha (by decide : 23 < 70) (hM ▸ fl_X12_46) (Or.inr ⟨hI, hM.symm ▸ rfl, rfl⟩) (Or.inr ⟨_, rfl⟩) hd k
set_option maxRecDepth 100000 in
theorem fl_X12_49 : Cond.fieldLink RX12 49 (TX12 24).1 (TX12 24).2.1 (TX12 24).2.2.1 ∈ gw := gw_T6 6 rfl rfl
set_option maxRecDepth 100000 in
theorem g_X12_49 (hM : M.1.cls = RX12) {a : Nat} (hs : shp a = .inl 12) (ha : a < hn h) {q : Nat} (hq : hr h a 24 = some q) (hd : decode M.2.1 pc = .ok (.getfield 49, 3)) (k : V M d (pc + 3) la (.ref q :: st) h Q) : V M d pc la (.ref a :: st) h Q := v_getf okC_12 hs ha (by decide : 24 < 70) (hM ▸ fl_X12_49) (congrArg va_rf hq) hd k
set_option maxRecDepth 100000 in
theorem p_X12_49 (hM : M.1.cls = RX12) {a : Nat} (hs : shp a = .inl 12) (ha : a < hn h) (hI : M.1.name = "<init>") {q : Nat} (hd : decode M.2.1 pc = .ok (.putfield 49, 3)) (k : V M d (pc + 3) la st (wrR h a 24 (some q)) Q) : V M d pc la (.ref q :: .ref a :: st) h Q := v_putr okC_12 hs ha (by decide : 24 < 70) (hM ▸ fl_X12_49) (Or.inr ⟨hI, hM.symm ▸ rfl, rfl⟩) (Or.inr ⟨_, rfl⟩) hd k
set_option maxRecDepth 100000 in
theorem fl_X12_52 : Cond.fieldLink RX12 52 (TX12 25).1 (TX12 25).2.1 (TX12 25).2.2.1 ∈ gw := gw_T6 7 rfl rfl
set_option maxRecDepth 100000 in
theorem g_X12_52 (hM : M.1.cls = RX12) {a : Nat} (hs : shp a = .inl 12) (ha : a < hn h) {q : Nat} (hq : hr h a 25 = some q) (hd : decode M.2.1 pc = .ok (.getfield 52, 3)) (k : V M d (pc + 3) la (.ref q :: st) h Q) : V M d pc la (.ref a :: st) h Q := v_getf okC_12 hs ha (by decide : 25 < 70) (hM ▸ fl_X12_52) (congrArg va_rf hq) hd k
set_option maxRecDepth 100000 in
theorem p_X12_52 (hM : M.1.cls = RX12) {a : Nat} (hs : shp a = .inl 12) (ha : a < hn h) (hI : M.1.name = "<init>") {q : Nat} (hd : decode M.2.1 pc = .ok (.putfield 52, 3)) (k : V M d (pc + 3) la st (wrR h a 25 (some q)) Q) : V M d pc la (.ref q :: .ref a :: st) h Q := v_putr okC_12 hs ha (by decide : 25 < 70) (hM ▸ fl_X12_52) (Or.inr ⟨hI, hM.symm ▸ rfl, rfl⟩) (Or.inr ⟨_, rfl⟩) hd k
set_option maxRecDepth 100000 in
theorem fl_X12_55 : Cond.fieldLink RX12 55 (TX12 26).1 (TX12 26).2.1 (TX12 26).2.2.1 ∈ gw := gw_T6 8 rfl rfl
set_option maxRecDepth 100000 in
theorem g_X12_55 (hM : M.1.cls = RX12) {a : Nat} (hs : shp a = .inl 12) (ha : a < hn h) {q : Nat} (hq : hr h a 26 = some q) (hd : decode M.2.1 pc = .ok (.getfield 55, 3)) (k : V M d (pc + 3) la (.ref q :: st) h Q) : V M d pc la (.ref a :: st) h Q := v_getf okC_12 hs ha (by decide : 26 < 70) (hM ▸ fl_X12_55) (congrArg va_rf hq) hd k
set_option maxRecDepth 100000 in
theorem p_X12_55 (hM : M.1.cls = RX12) {a : Nat} (hs : shp a = .inl 12) (ha : a < hn h) (hI : M.1.name = "<init>") {q : Nat} (hd : decode M.2.1 pc = .ok (.putfield 55, 3)) (k : V M d (pc + 3) la st (wrR h a 26 (some q)) Q) : V M d pc la (.ref q :: .ref a :: st) h Q := v_putr okC_12 hs ha (by decide : 26 < 70) (hM ▸ fl_X12_55) (Or.inr ⟨hI, hM.symm ▸ rfl, rfl⟩) (Or.inr ⟨_, rfl⟩) hd k
set_option maxRecDepth 100000 in
theorem fl_X12_58 : Cond.fieldLink RX12 58 (TX12 27).1 (TX12 27).2.1 (TX12 27).2.2.1 ∈ gw := gw_T6 9 rfl rfl
set_option maxRecDepth 100000 in
theorem g_X12_58 (hM : M.1.cls = RX12) {a : Nat} (hs : shp a = .inl 12) (ha : a < hn h) {q : Nat} (hq : hr h a 27 = some q) (hd : decode M.2.1 pc = .ok (.getfield 58, 3)) (k : V M d (pc + 3) la (.ref q :: st) h Q) : V M d pc la (.ref a :: st) h Q := v_getf okC_12 hs ha (by decide : 27 < 70) (hM ▸ fl_X12_58) (congrArg va_rf hq) hd k
set_option maxRecDepth 100000 in
theorem p_X12_58 (hM : M.1.cls = RX12) {a : Nat} (hs : shp a = .inl 12) (ha : a < hn h) (hI : M.1.name = "<init>") {q : Nat} (hd : decode M.2.1 pc = .ok (.putfield 58, 3)) (k : V M d (pc + 3) la st (wrR h a 27 (some q)) Q) : V M d pc la (.ref q :: .ref a :: st) h Q := v_putr okC_12 hs ha (by decide : 27 < 70) (hM ▸ fl_X12_58) (Or.inr ⟨hI, hM.symm ▸ rfl, rfl⟩) (Or.inr ⟨_, rfl⟩) hd k
set_option maxRecDepth 100000 in
theorem fl_X12_61 : Cond.fieldLink RX12 61 (TX12 28).1 (TX12 28).2.1 (TX12 28).2.2.1 ∈ gw := gw_T6 10 rfl rfl
set_option maxRecDepth 100000 in
theorem g_X12_61 (hM : M.1.cls = RX12) {a : Nat} (hs : shp a = .inl 12) (ha : a < hn h) {q : Nat} (hq : hr h a 28 = some q) (hd : decode M.2.1 pc = .ok (.getfield 61, 3)) (k : V M d (pc + 3) la (.ref q :: st) h Q) : V M d pc la (.ref a :: st) h Q := v_getf okC_12 hs ha (by decide : 28 < 70) (hM ▸ fl_X12_61) (congrArg va_rf hq) hd k
set_option maxRecDepth 100000 in
theorem p_X12_61 (hM : M.1.cls = RX12) {a : Nat} (hs : shp a = .inl 12) (ha : a < hn h) (hI : M.1.name = "<init>") {q : Nat} (hd : decode M.2.1 pc = .ok (.putfield 61, 3)) (k : V M d (pc + 3) la st (wrR h a 28 (some q)) Q) : V M d pc la (.ref q :: .ref a :: st) h Q := v_putr okC_12 hs ha (by decide : 28 < 70) (hM ▸ fl_X12_61) (Or.inr ⟨hI, hM.symm ▸ rfl, rfl⟩) (Or.inr ⟨_, rfl⟩) hd k
set_option maxRecDepth 100000 in
theorem fl_X12_64 : Cond.fieldLink RX12 64 (TX12 29).1 (TX12 29).2.1 (TX12 29).2.2.1 ∈ gw := gw_T6 11 rfl rfl
set_option maxRecDepth 100000 in
theorem g_X12_64 (hM : M.1.cls = RX12) {a : Nat} (hs : shp a = .inl 12) (ha : a < hn h) {q : Nat} (hq : hr h a 29 = some q) (hd : decode M.2.1 pc = .ok (.getfield 64, 3)) (k : V M d (pc + 3) la (.ref q :: st) h Q) : V M d pc la (.ref a :: st) h Q := v_getf okC_12 hs ha (by decide : 29 < 70) (hM ▸ fl_X12_64) (congrArg va_rf hq) hd k
set_option maxRecDepth 100000 in
theorem p_X12_64 (hM : M.1.cls = RX12) {a : Nat} (hs : shp a = .inl 12) (ha : a < hn h) (hI : M.1.name = "<init>") {q : Nat} (hd : decode M.2.1 pc = .ok (.putfield 64, 3)) (k : V M d (pc + 3) la st (wrR h a 29 (some q)) Q) : V M d pc la (.ref q :: .ref a :: st) h Q := v_putr okC_12 hs ha (by decide : 29 < 70) (hM ▸ fl_X12_64) (Or.inr ⟨hI, hM.symm ▸ rfl, rfl⟩) (Or.inr ⟨_, rfl⟩) hd k
set_option maxRecDepth 100000 in
theorem fl_X12_67 : Cond.fieldLink RX12 67 (TX12 30).1 (TX12 30).2.1 (TX12 30).2.2.1 ∈ gw := gw_T6 12 rfl rfl
set_option maxRecDepth 100000 in
theorem g_X12_67 (hM : M.1.cls = RX12) {a : Nat} (hs : shp a = .inl 12) (ha : a < hn h) {q : Nat} (hq : hr h a 30 = some q) (hd : decode M.2.1 pc = .ok (.getfield 67, 3)) (k : V M d (pc + 3) la (.ref q :: st) h Q) : V M d pc la (.ref a :: st) h Q := v_getf okC_12 hs ha (by decide : 30 < 70) (hM ▸ fl_X12_67) (congrArg va_rf hq) hd k
set_option maxRecDepth 100000 in
theorem p_X12_67 (hM : M.1.cls = RX12) {a : Nat} (hs : shp a = .inl 12) (ha : a < hn h) (hI : M.1.name = "<init>") {q : Nat} (hd : decode M.2.1 pc = .ok (.putfield 67, 3)) (k : V M d (pc + 3) la st (wrR h a 30 (some q)) Q) : V M d pc la (.ref q :: .ref a :: st) h Q := v_putr okC_12 hs ha (by decide : 30 < 70) (hM ▸ fl_X12_67) (Or.inr ⟨hI, hM.symm ▸ rfl, rfl⟩) (Or.inr ⟨_, rfl⟩) hd k
set_option maxRecDepth 100000 in
theorem fl_X12_70 : Cond.fieldLink RX12 70 (TX12 31).1 (TX12 31).2.1 (TX12 31).2.2.1 ∈ gw := gw_T6 13 rfl rfl
set_option maxRecDepth 100000 in
theorem g_X12_70 (hM : M.1.cls = RX12) {a : Nat} (hs : shp a = .inl 12) (ha : a < hn h) {q : Nat} (hq : hr h a 31 = some q) (hd : decode M.2.1 pc = .ok (.getfield 70, 3)) (k : V M d (pc + 3) la (.ref q :: st) h Q) : V M d pc la (.ref a :: st) h Q := v_getf okC_12 hs ha (by decide : 31 < 70) (hM ▸ fl_X12_70) (congrArg va_rf hq) hd k
set_option maxRecDepth 100000 in
theorem p_X12_70 (hM : M.1.cls = RX12) {a : Nat} (hs : shp a = .inl 12) (ha : a < hn h) (hI : M.1.name = "<init>") {q : Nat} (hd : decode M.2.1 pc = .ok (.putfield 70, 3)) (k : V M d (pc + 3) la st (wrR h a 31 (some q)) Q) : V M d pc la (.ref q :: .ref a :: st) h Q := v_putr okC_12 hs ha (by decide : 31 < 70) (hM ▸ fl_X12_70) (Or.inr ⟨hI, hM.symm ▸ rfl, rfl⟩) (Or.inr ⟨_, rfl⟩) hd k
set_option maxRecDepth 100000 in
theorem fl_X12_73 : Cond.fieldLink RX12 73 (TX12 32).1 (TX12 32).2.1 (TX12 32).2.2.1 ∈ gw := gw_T6 14 rfl rfl
set_option maxRecDepth 100000 in
theorem g_X12_73 (hM : M.1.cls = RX12) {a : Nat} (hs : shp a = .inl 12) (ha : a < hn h) {q : Nat} (hq : hr h a 32 = some q) (hd : decode M.2.1 pc = .ok (.getfield 73, 3)) (k : V M d (pc + 3) la (.ref q :: st) h Q) : V M d pc la (.ref a :: st) h Q := v_getf okC_12 hs ha (by decide : 32 < 70) (hM ▸ fl_X12_73) (congrArg va_rf hq) hd k
set_option maxRecDepth 100000 in
theorem p_X12_73 (hM : M.1.cls = RX12) {a : Nat} (hs : shp a = .inl 12) (ha : a < hn h) (hI : M.1.name = "<init>") {q : Nat} (hd : decode M.2.1 pc = .ok (.putfield 73, 3)) (k : V M d (pc + 3) la st (wrR h a 32 (some q)) Q) : V M d pc la (.ref q :: .ref a :: st) h Q := v_putr okC_12 hs ha (by decide : 32 < 70) (hM ▸ fl_X12_73) (Or.inr ⟨hI, hM.symm ▸ rfl, rfl⟩) (Or.inr ⟨_, rfl⟩) hd k
set_option maxRecDepth 100000 in
theorem fl_X12_76 : Cond.fieldLink RX12 76 (TX12 33).1 (TX12 33).2.1 (TX12 33).2.2.1 ∈ gw := gw_T6 15 rfl rfl
set_option maxRecDepth 100000 in
theorem g_X12_76 (hM : M.1.cls = RX12) {a : Nat} (hs : shp a = .inl 12) (ha : a < hn h) {q : Nat} (hq : hr h a 33 = some q) (hd : decode M.2.1 pc = .ok (.getfield 76, 3)) (k : V M d (pc + 3) la (.ref q :: st) h Q) : V M d pc la (.ref a :: st) h Q := v_getf okC_12 hs ha (by decide : 33 < 70) (hM ▸ fl_X12_76) (congrArg va_rf hq) hd k
set_option maxRecDepth 100000 in
theorem p_X12_76 (hM : M.1.cls = RX12) {a : Nat} (hs : shp a = .inl 12) (ha : a < hn h) (hI : M.1.name = "<init>") {q : Nat} (hd : decode M.2.1 pc = .ok (.putfield 76, 3)) (k : V M d (pc + 3) la st (wrR h a 33 (some q)) Q) : V M d pc la (.ref q :: .ref a :: st) h Q := v_putr okC_12 hs ha (by decide : 33 < 70) (hM ▸ fl_X12_76) (Or.inr ⟨hI, hM.symm ▸ rfl, rfl⟩) (Or.inr ⟨_, rfl⟩) hd k
set_option maxRecDepth 100000 in
theorem fl_X12_79 : Cond.fieldLink RX12 79 (TX12 34).1 (TX12 34).2.1 (TX12 34).2.2.1 ∈ gw := gw_T6 16 rfl rfl
set_option maxRecDepth 100000 in
theorem g_X12_79 (hM : M.1.cls = RX12) {a : Nat} (hs : shp a = .inl 12) (ha : a < hn h) {q : Nat} (hq : hr h a 34 = some q) (hd : decode M.2.1 pc = .ok (.getfield 79, 3)) (k : V M d (pc + 3) la (.ref q :: st) h Q) : V M d pc la (.ref a :: st) h Q := v_getf okC_12 hs ha (by decide : 34 < 70) (hM ▸ fl_X12_79) (congrArg va_rf hq) hd k
set_option maxRecDepth 100000 in
theorem p_X12_79 (hM : M.1.cls = RX12) {a : Nat} (hs : shp a = .inl 12) (ha : a < hn h) (hI : M.1.name = "<init>") {q : Nat} (hd : decode M.2.1 pc = .ok (.putfield 79, 3)) (k : V M d (pc + 3) la st (wrR h a 34 (some q)) Q) : V M d pc la (.ref q :: .ref a :: st) h Q := v_putr okC_12 hs ha (by decide : 34 < 70) (hM ▸ fl_X12_79) (Or.inr ⟨hI, hM.symm ▸ rfl, rfl⟩) (Or.inr ⟨_, rfl⟩) hd k
set_option maxRecDepth 100000 in
theorem fl_X12_82 : Cond.fieldLink RX12 82 (TX12 35).1 (TX12 35).2.1 (TX12 35).2.2.1 ∈ gw := gw_T6 17 rfl rfl
set_option maxRecDepth 100000 in
theorem g_X12_82 (hM : M.1.cls = RX12) {a : Nat} (hs : shp a = .inl 12) (ha : a < hn h) {q : Nat} (hq : hr h a 35 = some q) (hd : decode M.2.1 pc = .ok (.getfield 82, 3)) (k : V M d (pc + 3) la (.ref q :: st) h Q) : V M d pc la (.ref a :: st) h Q := v_getf okC_12 hs ha (by decide : 35 < 70) (hM ▸ fl_X12_82) (congrArg va_rf hq) hd k
set_option maxRecDepth 100000 in
theorem p_X12_82 (hM : M.1.cls = RX12) {a : Nat} (hs : shp a = .inl 12) (ha : a < hn h) (hI : M.1.name = "<init>") {q : Nat} (hd : decode M.2.1 pc = .ok (.putfield 82, 3)) (k : V M d (pc + 3) la st (wrR h a 35 (some q)) Q) : V M d pc la (.ref q :: .ref a :: st) h Q := v_putr okC_12 hs ha (by decide : 35 < 70) (hM ▸ fl_X12_82) (Or.inr ⟨hI, hM.symm ▸ rfl, rfl⟩) (Or.inr ⟨_, rfl⟩) hd k
set_option maxRecDepth 100000 in
theorem fl_X12_85 : Cond.fieldLink RX12 85 (TX12 36).1 (TX12 36).2.1 (TX12 36).2.2.1 ∈ gw := gw_T6 18 rfl rfl
set_option maxRecDepth 100000 in
theorem g_X12_85 (hM : M.1.cls = RX12) {a : Nat} (hs : shp a = .inl 12) (ha : a < hn h) {q : Nat} (hq : hr h a 36 = some q) (hd : decode M.2.1 pc = .ok (.getfield 85, 3)) (k : V M d (pc + 3) la (.ref q :: st) h Q) : V M d pc la (.ref a :: st) h Q := v_getf okC_12 hs ha (by decide : 36 < 70) (hM ▸ fl_X12_85) (congrArg va_rf hq) hd k
set_option maxRecDepth 100000 in
theorem p_X12_85 (hM : M.1.cls = RX12) {a : Nat} (hs : shp a = .inl 12) (ha : a < hn h) (hI : M.1.name = "<init>") {q : Nat} (hd : decode M.2.1 pc = .ok (.putfield 85, 3)) (k : V M d (pc + 3) la st (wrR h a 36 (some q)) Q) : V M d pc la (.ref q :: .ref a :: st) h Q := v_putr okC_12 hs ha (by decide : 36 < 70) (hM ▸ fl_X12_85) (Or.inr ⟨hI, hM.symm ▸ rfl, rfl⟩) (Or.inr ⟨_, rfl⟩) hd k
set_option maxRecDepth 100000 in
theorem fl_X12_88 : Cond.fieldLink RX12 88 (TX12 37).1 (TX12 37).2.1 (TX12 37).2.2.1 ∈ gw := gw_T6 19 rfl rfl
set_option maxRecDepth 100000 in
theorem g_X12_88 (hM : M.1.cls = RX12) {a : Nat} (hs : shp a = .inl 12) (ha : a < hn h) {q : Nat} (hq : hr h a 37 = some q) (hd : decode M.2.1 pc = .ok (.getfield 88, 3)) (k : V M d (pc + 3) la (.ref q :: st) h Q) : V M d pc la (.ref a :: st) h Q := v_getf okC_12 hs ha (by decide : 37 < 70) (hM ▸ fl_X12_88) (congrArg va_rf hq) hd k
set_option maxRecDepth 100000 in
theorem p_X12_88 (hM : M.1.cls = RX12) {a : Nat} (hs : shp a = .inl 12) (ha : a < hn h) (hI : M.1.name = "<init>") {q : Nat} (hd : decode M.2.1 pc = .ok (.putfield 88, 3)) (k : V M d (pc + 3) la st (wrR h a 37 (some q)) Q) : V M d pc la (.ref q :: .ref a :: st) h Q := v_putr okC_12 hs ha (by decide : 37 < 70) (hM ▸ fl_X12_88) (Or.inr ⟨hI, hM.symm ▸ rfl, rfl⟩) (Or.inr ⟨_, rfl⟩) hd k
set_option maxRecDepth 100000 in
theorem fl_X12_91 : Cond.fieldLink RX12 91 (TX12 38).1 (TX12 38).2.1 (TX12 38).2.2.1 ∈ gw := gw_T6 20 rfl rfl
set_option maxRecDepth 100000 in
theorem g_X12_91 (hM : M.1.cls = RX12) {a : Nat} (hs : shp a = .inl 12) (ha : a < hn h) {q : Nat} (hq : hr h a 38 = some q) (hd : decode M.2.1 pc = .ok (.getfield 91, 3)) (k : V M d (pc + 3) la (.ref q :: st) h Q) : V M d pc la (.ref a :: st) h Q := v_getf okC_12 hs ha (by decide : 38 < 70) (hM ▸ fl_X12_91) (congrArg va_rf hq) hd k
set_option maxRecDepth 100000 in
theorem p_X12_91 (hM : M.1.cls = RX12) {a : Nat} (hs : shp a = .inl 12) (ha : a < hn h) (hI : M.1.name = "<init>") {q : Nat} (hd : decode M.2.1 pc = .ok (.putfield 91, 3)) (k : V M d (pc + 3) la st (wrR h a 38 (some q)) Q) : V M d pc la (.ref q :: .ref a :: st) h Q := v_putr okC_12 hs ha (by decide : 38 < 70) (hM ▸ fl_X12_91) (Or.inr ⟨hI, hM.symm ▸ rfl, rfl⟩) (Or.inr ⟨_, rfl⟩) hd k
set_option maxRecDepth 100000 in
theorem fl_X12_254 : Cond.fieldLink RX12 254 (TX12 39).1 (TX12 39).2.1 (TX12 39).2.2.1 ∈ gw := gw_T6 21 rfl rfl
set_option maxRecDepth 100000 in
theorem g_X12_254 (hM : M.1.cls = RX12) {a : Nat} (hs : shp a = .inl 12) (ha : a < hn h) (hd : decode M.2.1 pc = .ok (.getfield 254, 3)) (k : V M d (pc + 3) la (.int (hi h a 39) :: st) h Q) : V M d pc la (.ref a :: st) h Q := v_getf okC_12 hs ha (by decide : 39 < 70) (hM ▸ fl_X12_254) rfl hd k
set_option maxRecDepth 100000 in
theorem p_X12_254 (hM : M.1.cls = RX12) {a : Nat} (hs : shp a = .inl 12) (ha : a < hn h) {x : Int32} (hd : decode M.2.1 pc = .ok (.putfield 254, 3)) (k : V M d (pc + 3) la st (wrI h a 39 x) Q) : V M d pc la (.int x :: .ref a :: st) h Q := v_puti okC_12 hs ha (by decide : 39 < 70) (hM ▸ fl_X12_254) rfl rfl hd k
set_option maxRecDepth 100000 in
theorem fl_X12_94 : Cond.fieldLink RX12 94 (TX12 40).1 (TX12 40).2.1 (TX12 40).2.2.1 ∈ gw := gw_T6 22 rfl rfl
set_option maxRecDepth 100000 in
theorem g_X12_94 (hM : M.1.cls = RX12) {a : Nat} (hs : shp a = .inl 12) (ha : a < hn h) {q : Nat} (hq : hr h a 40 = some q) (hd : decode M.2.1 pc = .ok (.getfield 94, 3)) (k : V M d (pc + 3) la (.ref q :: st) h Q) : V M d pc la (.ref a :: st) h Q := v_getf okC_12 hs ha (by decide : 40 < 70) (hM ▸ fl_X12_94) (congrArg va_rf hq) hd k
set_option maxRecDepth 100000 in
theorem p_X12_94 (hM : M.1.cls = RX12) {a : Nat} (hs : shp a = .inl 12) (ha : a < hn h) (hI : M.1.name = "<init>") {q : Nat} (hd : decode M.2.1 pc = .ok (.putfield 94, 3)) (k : V M d (pc + 3) la st (wrR h a 40 (some q)) Q) : V M d pc la (.ref q :: .ref a :: st) h Q := v_putr okC_12 hs ha (by decide : 40 < 70) (hM ▸ fl_X12_94) (Or.inr ⟨hI, hM.symm ▸ rfl, rfl⟩) (Or.inr ⟨_, rfl⟩) hd k
set_option maxRecDepth 100000 in
theorem fl_X12_98 : Cond.fieldLink RX12 98 (TX12 41).1 (TX12 41).2.1 (TX12 41).2.2.1 ∈ gw := gw_T6 23 rfl rfl
set_option maxRecDepth 100000 in
theorem g_X12_98 (hM : M.1.cls = RX12) {a : Nat} (hs : shp a = .inl 12) (ha : a < hn h) {q : Nat} (hq : hr h a 41 = some q) (hd : decode M.2.1 pc = .ok (.getfield 98, 3)) (k : V M d (pc + 3) la (.ref q :: st) h Q) : V M d pc la (.ref a :: st) h Q := v_getf okC_12 hs ha (by decide : 41 < 70) (hM ▸ fl_X12_98) (congrArg va_rf hq) hd k
set_option maxRecDepth 100000 in
theorem p_X12_98 (hM : M.1.cls = RX12) {a : Nat} (hs : shp a = .inl 12) (ha : a < hn h) (hI : M.1.name = "<init>") {q : Nat} (hd : decode M.2.1 pc = .ok (.putfield 98, 3)) (k : V M d (pc + 3) la st (wrR h a 41 (some q)) Q) : V M d pc la (.ref q :: .ref a :: st) h Q := v_putr okC_12 hs ha (by decide : 41 < 70) (hM ▸ fl_X12_98) (Or.inr ⟨hI, hM.symm ▸ rfl, rfl⟩) (Or.inr ⟨_, rfl⟩) hd k
set_option maxRecDepth 100000 in
theorem fl_X12_101 : Cond.fieldLink RX12 101 (TX12 42).1 (TX12 42).2.1 (TX12 42).2.2.1 ∈ gw := gw_T6 24 rfl rfl
set_option maxRecDepth 100000 in
theorem g_X12_101 (hM : M.1.cls = RX12) {a : Nat} (hs : shp a = .inl 12) (ha : a < hn h) {q : Nat} (hq : hr h a 42 = some q) (hd : decode M.2.1 pc = .ok (.getfield 101, 3)) (k : V M d (pc + 3) la (.ref q :: st) h Q) : V M d pc la (.ref a :: st) h Q := v_getf okC_12 hs ha (by decide : 42 < 70) (hM ▸ fl_X12_101) (congrArg va_rf hq) hd k
set_option maxRecDepth 100000 in
theorem p_X12_101 (hM : M.1.cls = RX12) {a : Nat} (hs : shp a = .inl 12) (ha : a < hn h) (hI : M.1.name = "<init>") {q : Nat} (hd : decode M.2.1 pc = .ok (.putfield 101, 3)) (k : V M d (pc + 3) la st (wrR h a 42 (some q)) Q) : V M d pc la (.ref q :: .ref a :: st) h Q := v_putr okC_12 hs ha (by decide : 42 < 70) (hM ▸ fl_X12_101) (Or.inr ⟨hI, hM.symm ▸ rfl, rfl⟩) (Or.inr ⟨_, rfl⟩) hd k
set_option maxRecDepth 100000 in
theorem fl_X12_104 : Cond.fieldLink RX12 104 (TX12 43).1 (TX12 43).2.1 (TX12 43).2.2.1 ∈ gw := gw_T6 25 rfl rfl
set_option maxRecDepth 100000 in
theorem g_X12_104 (hM : M.1.cls = RX12) {a : Nat} (hs : shp a = .inl 12) (ha : a < hn h) {q : Nat} (hq : hr h a 43 = some q) (hd : decode M.2.1 pc = .ok (.getfield 104, 3)) (k : V M d (pc + 3) la (.ref q :: st) h Q) : V M d pc la (.ref a :: st) h Q := v_getf okC_12 hs ha (by decide : 43 < 70) (hM ▸ fl_X12_104) (congrArg va_rf hq) hd k
set_option maxRecDepth 100000 in
theorem p_X12_104 (hM : M.1.cls = RX12) {a : Nat} (hs : shp a = .inl 12) (ha : a < hn h) (hI : M.1.name = "<init>") {q : Nat} (hd : decode M.2.1 pc = .ok (.putfield 104, 3)) (k : V M d (pc + 3) la st (wrR h a 43 (some q)) Q) : V M d pc la (.ref q :: .ref a :: st) h Q := v_putr okC_12 hs ha (by decide : 43 < 70) (hM ▸ fl_X12_104) (Or.inr ⟨hI, hM.symm ▸ rfl, rfl⟩) (Or.inr ⟨_, rfl⟩) hd k
set_option maxRecDepth 100000 in
theorem fl_X12_107 : Cond.fieldLink RX12 107 (TX12 44).1 (TX12 44).2.1 (TX12 44).2.2.1 ∈ gw := gw_T6 26 rfl rfl
set_option maxRecDepth 100000 in
theorem g_X12_107 (hM : M.1.cls = RX12) {a : Nat} (hs : shp a = .inl 12) (ha : a < hn h) {q : Nat} (hq : hr h a 44 = some q) (hd : decode M.2.1 pc = .ok (.getfield 107, 3)) (k : V M d (pc + 3) la (.ref q :: st) h Q) : V M d pc la (.ref a :: st) h Q := v_getf okC_12 hs ha (by decide : 44 < 70) (hM ▸ fl_X12_107) (congrArg va_rf hq) hd k
set_option maxRecDepth 100000 in
theorem p_X12_107 (hM : M.1.cls = RX12) {a : Nat} (hs : shp a = .inl 12) (ha : a < hn h) (hI : M.1.name = "<init>") {q : Nat} (hd : decode M.2.1 pc = .ok (.putfield 107, 3)) (k : V M d (pc + 3) la st (wrR h a 44 (some q)) Q) : V M d pc la (.ref q :: .ref a :: st) h Q := v_putr okC_12 hs ha (by decide : 44 < 70) (hM ▸ fl_X12_107) (Or.inr ⟨hI, hM.symm ▸ rfl, rfl⟩) (Or.inr ⟨_, rfl⟩) hd k
set_option maxRecDepth 100000 in
theorem fl_X12_257 : Cond.fieldLink RX12 257 (TX12 45).1 (TX12 45).2.1 (TX12 45).2.2.1 ∈ gw := gw_T6 27 rfl rfl
set_option maxRecDepth 100000 in
theorem g_X12_257 (hM : M.1.cls = RX12) {a : Nat} (hs : shp a = .inl 12) (ha : a < hn h) (hd : decode M.2.1 pc = .ok (.getfield 257, 3)) (k : V M d (pc + 3) la (.int (hi h a 45) :: st) h Q) : V M d pc la (.ref a :: st) h Q := v_getf okC_12 hs ha (by decide : 45 < 70) (hM ▸ fl_X12_257) rfl hd k
set_option maxRecDepth 100000 in
theorem p_X12_257 (hM : M.1.cls = RX12) {a : Nat} (hs : shp a = .inl 12) (ha : a < hn h) {x : Int32} (hd : decode M.2.1 pc = .ok (.putfield 257, 3)) (k : V M d (pc + 3) la st (wrI h a 45 x) Q) : V M d pc la (.int x :: .ref a :: st) h Q := v_puti okC_12 hs ha (by decide : 45 < 70) (hM ▸ fl_X12_257) rfl rfl hd k
set_option maxRecDepth 100000 in
theorem fl_X12_110 : Cond.fieldLink RX12 110 (TX12 46).1 (TX12 46).2.1 (TX12 46).2.2.1 ∈ gw := gw_T6 28 rfl rfl
set_option maxRecDepth 100000 in
theorem g_X12_110 (hM : M.1.cls = RX12) {a : Nat} (hs : shp a = .inl 12) (ha : a < hn h) {q : Nat} (hq : hr h a 46 = some q) (hd : decode M.2.1 pc = .ok (.getfield 110, 3)) (k : V M d (pc + 3) la (.ref q :: st) h Q) : V M d pc la (.ref a :: st) h Q := v_getf okC_12 hs ha (by decide : 46 < 70) (hM ▸ fl_X12_110) (congrArg va_rf hq) hd k
set_option maxRecDepth 100000 in
theorem p_X12_110 (hM : M.1.cls = RX12) {a : Nat} (hs : shp a = .inl 12) (ha : a < hn h) (hI : M.1.name = "<init>") {q : Nat} (hd : decode M.2.1 pc = .ok (.putfield 110, 3)) (k : V M d (pc + 3) la st (wrR h a 46 (some q)) Q) : V M d pc la (.ref q :: .ref a :: st) h Q := v_putr okC_12 hs ha (by decide : 46 < 70) (hM ▸ fl_X12_110) (Or.inr ⟨hI, hM.symm ▸ rfl, rfl⟩) (Or.inr ⟨_, rfl⟩) hd k
set_option maxRecDepth 100000 in
theorem fl_X12_113 : Cond.fieldLink RX12 113 (TX12 47).1 (TX12 47).2.1 (TX12 47).2.2.1 ∈ gw := gw_T6 29 rfl rfl
set_option maxRecDepth 100000 in
theorem g_X12_113 (hM : M.1.cls = RX12) {a : Nat} (hs : shp a = .inl 12) (ha : a < hn h) {q : Nat} (hq : hr h a 47 = some q) (hd : decode M.2.1 pc = .ok (.getfield 113, 3)) (k : V M d (pc + 3) la (.ref q :: st) h Q) : V M d pc la (.ref a :: st) h Q := v_getf okC_12 hs ha (by decide : 47 < 70) (hM ▸ fl_X12_113) (congrArg va_rf hq) hd k
set_option maxRecDepth 100000 in
theorem p_X12_113 (hM : M.1.cls = RX12) {a : Nat} (hs : shp a = .inl 12) (ha : a < hn h) (hI : M.1.name = "<init>") {q : Nat} (hd : decode M.2.1 pc = .ok (.putfield 113, 3)) (k : V M d (pc + 3) la st (wrR h a 47 (some q)) Q) : V M d pc la (.ref q :: .ref a :: st) h Q := v_putr okC_12 hs ha (by decide : 47 < 70) (hM ▸ fl_X12_113) (Or.inr ⟨hI, hM.symm ▸ rfl, rfl⟩) (Or.inr ⟨_, rfl⟩) hd k
set_option maxRecDepth 100000 in
theorem fl_X12_116 : Cond.fieldLink RX12 116 (TX12 48).1 (TX12 48).2.1 (TX12 48).2.2.1 ∈ gw := gw_T6 30 rfl rfl
set_option maxRecDepth 100000 in
theorem g_X12_116 (hM : M.1.cls = RX12) {a : Nat} (hs : shp a = .inl 12) (ha : a < hn h) {q : Nat} (hq : hr h a 48 = some q) (hd : decode M.2.1 pc = .ok (.getfield 116, 3)) (k : V M d (pc + 3) la (.ref q :: st) h Q) : V M d pc la (.ref a :: st) h Q := v_getf okC_12 hs ha (by decide : 48 < 70) (hM ▸ fl_X12_116) (congrArg va_rf hq) hd k
set_option maxRecDepth 100000 in
theorem p_X12_116 (hM : M.1.cls = RX12) {a : Nat} (hs : shp a = .inl 12) (ha : a < hn h) (hI : M.1.name = "<init>") {q : Nat} (hd : decode M.2.1 pc = .ok (.putfield 116, 3)) (k : V M d (pc + 3) la st (wrR h a 48 (some q)) Q) : V M d pc la (.ref q :: .ref a :: st) h Q := v_putr okC_12 hs ha (by decide : 48 < 70) (hM ▸ fl_X12_116) (Or.inr ⟨hI, hM.symm ▸ rfl, rfl⟩) (Or.inr ⟨_, rfl⟩) hd k
set_option maxRecDepth 100000 in
theorem fl_X12_309 : Cond.fieldLink RX12 309 (TX12 49).1 (TX12 49).2.1 (TX12 49).2.2.1 ∈ gw := gw_T6 31 rfl rfl
set_option maxRecDepth 100000 in
theorem g_X12_309 (hM : M.1.cls = RX12) {a : Nat} (hs : shp a = .inl 12) (ha : a < hn h) (hd : decode M.2.1 pc = .ok (.getfield 309, 3)) (k : V M d (pc + 3) la (.int (hi h a 49) :: st) h Q) : V M d pc la (.ref a :: st) h Q := v_getf okC_12 hs ha (by decide : 49 < 70) (hM ▸ fl_X12_309) rfl hd k
set_option maxRecDepth 100000 in
theorem p_X12_309 (hM : M.1.cls = RX12) {a : Nat} (hs : shp a = .inl 12) (ha : a < hn h) {x : Int32} (hd : decode M.2.1 pc = .ok (.putfield 309, 3)) (k : V M d (pc + 3) la st (wrI h a 49 x) Q) : V M d pc la (.int x :: .ref a :: st) h Q := v_puti okC_12 hs ha (by decide : 49 < 70) (hM ▸ fl_X12_309) rfl rfl hd k
set_option maxRecDepth 100000 in
theorem fl_X12_119 : Cond.fieldLink RX12 119 (TX12 50).1 (TX12 50).2.1 (TX12 50).2.2.1 ∈ gw := gw_T6 32 rfl rfl
set_option maxRecDepth 100000 in
theorem g_X12_119 (hM : M.1.cls = RX12) {a : Nat} (hs : shp a = .inl 12) (ha : a < hn h) {q : Nat} (hq : hr h a 50 = some q) (hd : decode M.2.1 pc = .ok (.getfield 119, 3)) (k : V M d (pc + 3) la (.ref q :: st) h Q) : V M d pc la (.ref a :: st) h Q := v_getf okC_12 hs ha (by decide : 50 < 70) (hM ▸ fl_X12_119) (congrArg va_rf hq) hd k
set_option maxRecDepth 100000 in
theorem p_X12_119 (hM : M.1.cls = RX12) {a : Nat} (hs : shp a = .inl 12) (ha : a < hn h) (hI : M.1.name = "<init>") {q : Nat} (hd : decode M.2.1 pc = .ok (.putfield 119, 3)) (k : V M d (pc + 3) la st (wrR h a 50 (some q)) Q) : V M d pc la (.ref q :: .ref a :: st) h Q := v_putr okC_12 hs ha (by decide : 50 < 70) (hM ▸ fl_X12_119) (Or.inr ⟨hI, hM.symm ▸ rfl, rfl⟩) (Or.inr ⟨_, rfl⟩) hd k
set_option maxRecDepth 100000 in
theorem fl_X12_122 : Cond.fieldLink RX12 122 (TX12 51).1 (TX12 51).2.1 (TX12 51).2.2.1 ∈ gw := gw_T6 33 rfl rfl
set_option maxRecDepth 100000 in
theorem g_X12_122 (hM : M.1.cls = RX12) {a : Nat} (hs : shp a = .inl 12) (ha : a < hn h) {q : Nat} (hq : hr h a 51 = some q) (hd : decode M.2.1 pc = .ok (.getfield 122, 3)) (k : V M d (pc + 3) la (.ref q :: st) h Q) : V M d pc la (.ref a :: st) h Q := v_getf okC_12 hs ha (by decide : 51 < 70) (hM ▸ fl_X12_122) (congrArg va_rf hq) hd k
set_option maxRecDepth 100000 in
theorem p_X12_122 (hM : M.1.cls = RX12) {a : Nat} (hs : shp a = .inl 12) (ha : a < hn h) (hI : M.1.name = "<init>") {q : Nat} (hd : decode M.2.1 pc = .ok (.putfield 122, 3)) (k : V M d (pc + 3) la st (wrR h a 51 (some q)) Q) : V M d pc la (.ref q :: .ref a :: st) h Q := v_putr okC_12 hs ha (by decide : 51 < 70) (hM ▸ fl_X12_122) (Or.inr ⟨hI, hM.symm ▸ rfl, rfl⟩) (Or.inr ⟨_, rfl⟩) hd k
set_option maxRecDepth 100000 in
theorem fl_X12_322 : Cond.fieldLink RX12 322 (TX12 52).1 (TX12 52).2.1 (TX12 52).2.2.1 ∈ gw := gw_T6 34 rfl rfl
set_option maxRecDepth 100000 in
theorem g_X12_322 (hM : M.1.cls = RX12) {a : Nat} (hs : shp a = .inl 12) (ha : a < hn h) (hd : decode M.2.1 pc = .ok (.getfield 322, 3)) (k : V M d (pc + 3) la (.int (vp_nar .boolean (hi h a 52)) :: st) h Q) : V M d pc la (.ref a :: st) h Q := v_getf okC_12 hs ha (by decide : 52 < 70) (hM ▸ fl_X12_322) rfl hd k
set_option maxRecDepth 100000 in
theorem p_X12_322 (hM : M.1.cls = RX12) {a : Nat} (hs : shp a = .inl 12) (ha : a < hn h) {x : Int32} (hx : x = 0 ∨ x = 1) (hd : decode M.2.1 pc = .ok (.putfield 322, 3)) (k : V M d (pc + 3) la st (wrI h a 52 x) Q) : V M d pc la (.int x :: .ref a :: st) h Q := v_putz okC_12 hs ha (by decide : 52 < 70) (hM ▸ fl_X12_322) rfl rfl hx hd k
set_option maxRecDepth 100000 in
theorem fl_X12_125 : Cond.fieldLink RX12 125 (TX12 53).1 (TX12 53).2.1 (TX12 53).2.2.1 ∈ gw := gw_T6 35 rfl rfl
set_option maxRecDepth 100000 in
theorem g_X12_125 (hM : M.1.cls = RX12) {a : Nat} (hs : shp a = .inl 12) (ha : a < hn h) {q : Nat} (hq : hr h a 53 = some q) (hd : decode M.2.1 pc = .ok (.getfield 125, 3)) (k : V M d (pc + 3) la (.ref q :: st) h Q) : V M d pc la (.ref a :: st) h Q := v_getf okC_12 hs ha (by decide : 53 < 70) (hM ▸ fl_X12_125) (congrArg va_rf hq) hd k
set_option maxRecDepth 100000 in
theorem p_X12_125 (hM : M.1.cls = RX12) {a : Nat} (hs : shp a = .inl 12) (ha : a < hn h) (hI : M.1.name = "<init>") {q : Nat} (hd : decode M.2.1 pc = .ok (.putfield 125, 3)) (k : V M d (pc + 3) la st (wrR h a 53 (some q)) Q) : V M d pc la (.ref q :: .ref a :: st) h Q := v_putr okC_12 hs ha (by decide : 53 < 70) (hM ▸ fl_X12_125) (Or.inr ⟨hI, hM.symm ▸ rfl, rfl⟩) (Or.inr ⟨_, rfl⟩) hd k
set_option maxRecDepth 100000 in
theorem fl_X12_128 : Cond.fieldLink RX12 128 (TX12 54).1 (TX12 54).2.1 (TX12 54).2.2.1 ∈ gw := gw_T6 36 rfl rfl
set_option maxRecDepth 100000 in
theorem g_X12_128 (hM : M.1.cls = RX12) {a : Nat} (hs : shp a = .inl 12) (ha : a < hn h) {q : Nat} (hq : hr h a 54 = some q) (hd : decode M.2.1 pc = .ok (.getfield 128, 3)) (k : V M d (pc + 3) la (.ref q :: st) h Q) : V M d pc la (.ref a :: st) h Q := v_getf okC_12 hs ha (by decide : 54 < 70) (hM ▸ fl_X12_128) (congrArg va_rf hq) hd k
set_option maxRecDepth 100000 in
theorem p_X12_128 (hM : M.1.cls = RX12) {a : Nat} (hs : shp a = .inl 12) (ha : a < hn h) (hI : M.1.name = "<init>") {q : Nat} (hd : decode M.2.1 pc = .ok (.putfield 128, 3)) (k : V M d (pc + 3) la st (wrR h a 54 (some q)) Q) : V M d pc la (.ref q :: .ref a :: st) h Q := v_putr okC_12 hs ha (by decide : 54 < 70) (hM ▸ fl_X12_128) (Or.inr ⟨hI, hM.symm ▸ rfl, rfl⟩) (Or.inr ⟨_, rfl⟩) hd k
set_option maxRecDepth 100000 in
theorem fl_X12_337 : Cond.fieldLink RX12 337 (TX12 55).1 (TX12 55).2.1 (TX12 55).2.2.1 ∈ gw := gw_T6 37 rfl rfl
set_option maxRecDepth 100000 in
theorem g_X12_337 (hM : M.1.cls = RX12) {a : Nat} (hs : shp a = .inl 12) (ha : a < hn h) (hd : decode M.2.1 pc = .ok (.getfield 337, 3)) (k : V M d (pc + 3) la (.int (hi h a 55) :: st) h Q) : V M d pc la (.ref a :: st) h Q := v_getf okC_12 hs ha (by decide : 55 < 70) (hM ▸ fl_X12_337) rfl hd k
set_option maxRecDepth 100000 in
theorem p_X12_337 (hM : M.1.cls = RX12) {a : Nat} (hs : shp a = .inl 12) (ha : a < hn h) {x : Int32} (hd : decode M.2.1 pc = .ok (.putfield 337, 3)) (k : V M d (pc + 3) la st (wrI h a 55 x) Q) : V M d pc la (.int x :: .ref a :: st) h Q := v_puti okC_12 hs ha (by decide : 55 < 70) (hM ▸ fl_X12_337) rfl rfl hd k
set_option maxRecDepth 100000 in
theorem fl_X12_340 : Cond.fieldLink RX12 340 (TX12 56).1 (TX12 56).2.1 (TX12 56).2.2.1 ∈ gw := gw_T6 38 rfl rfl
set_option maxRecDepth 100000 in
theorem g_X12_340 (hM : M.1.cls = RX12) {a : Nat} (hs : shp a = .inl 12) (ha : a < hn h) (hd : decode M.2.1 pc = .ok (.getfield 340, 3)) (k : V M d (pc + 3) la (.int (vp_nar .boolean (hi h a 56)) :: st) h Q) : V M d pc la (.ref a :: st) h Q := v_getf okC_12 hs ha (by decide : 56 < 70) (hM ▸ fl_X12_340) rfl hd k
set_option maxRecDepth 100000 in
theorem p_X12_340 (hM : M.1.cls = RX12) {a : Nat} (hs : shp a = .inl 12) (ha : a < hn h) {x : Int32} (hx : x = 0 ∨ x = 1) (hd : decode M.2.1 pc = .ok (.putfield 340, 3)) (k : V M d (pc + 3) la st (wrI h a 56 x) Q) : V M d pc la (.int x :: .ref a :: st) h Q := v_putz okC_12 hs ha (by decide : 56 < 70) (hM ▸ fl_X12_340) rfl rfl hx hd k
set_option maxRecDepth 100000 in
theorem fl_X12_131 : Cond.fieldLink RX12 131 (TX12 57).1 (TX12 57).2.1 (TX12 57).2.2.1 ∈ gw := gw_T6 39 rfl rfl
set_option maxRecDepth 100000 in
theorem g_X12_131 (hM : M.1.cls = RX12) {a : Nat} (hs : shp a = .inl 12) (ha : a < hn h) {q : Nat} (hq : hr h a 57 = some q) (hd : decode M.2.1 pc = .ok (.getfield 131, 3)) (k : V M d (pc + 3) la (.ref q :: st) h Q) : V M d pc la (.ref a :: st) h Q := v_getf okC_12 hs ha (by decide : 57 < 70) (hM ▸ fl_X12_131) (congrArg va_rf hq) hd k
set_option maxRecDepth 100000 in
theorem p_X12_131 (hM : M.1.cls = RX12) {a : Nat} (hs : shp a = .inl 12) (ha : a < hn h) (hI : M.1.name = "<init>") {q : Nat} (hd : decode M.2.1 pc = .ok (.putfield 131, 3)) (k : V M d (pc + 3) la st (wrR h a 57 (some q)) Q) : V M d pc la (.ref q :: .ref a :: st) h Q := v_putr okC_12 hs ha (by decide : 57 < 70) (hM ▸ fl_X12_131) (Or.inr ⟨hI, hM.symm ▸ rfl, rfl⟩) (Or.inr ⟨_, rfl⟩) hd k
set_option maxRecDepth 100000 in
theorem fl_X12_134 : Cond.fieldLink RX12 134 (TX12 58).1 (TX12 58).2.1 (TX12 58).2.2.1 ∈ gw := gw_T6 40 rfl rfl
set_option maxRecDepth 100000 in
theorem g_X12_134 (hM : M.1.cls = RX12) {a : Nat} (hs : shp a = .inl 12) (ha : a < hn h) {q : Nat} (hq : hr h a 58 = some q) (hd : decode M.2.1 pc = .ok (.getfield 134, 3)) (k : V M d (pc + 3) la (.ref q :: st) h Q) : V M d pc la (.ref a :: st) h Q := v_getf okC_12 hs ha (by decide : 58 < 70) (hM ▸ fl_X12_134) (congrArg va_rf hq) hd k
set_option maxRecDepth 100000 in
theorem p_X12_134 (hM : M.1.cls = RX12) {a : Nat} (hs : shp a = .inl 12) (ha : a < hn h) (hI : M.1.name = "<init>") {q : Nat} (hd : decode M.2.1 pc = .ok (.putfield 134, 3)) (k : V M d (pc + 3) la st (wrR h a 58 (some q)) Q) : V M d pc la (.ref q :: .ref a :: st) h Q := v_putr okC_12 hs ha (by decide : 58 < 70) (hM ▸ fl_X12_134) (Or.inr ⟨hI, hM.symm ▸ rfl, rfl⟩) (Or.inr ⟨_, rfl⟩) hd k
set_option maxRecDepth 100000 in
theorem fl_X12_271 : Cond.fieldLink RX12 271 (TX12 59).1 (TX12 59).2.1 (TX12 59).2.2.1 ∈ gw := gw_T6 41 rfl rfl
set_option maxRecDepth 100000 in
theorem g_X12_271 (hM : M.1.cls = RX12) {a : Nat} (hs : shp a = .inl 12) (ha : a < hn h) (hd : decode M.2.1 pc = .ok (.getfield 271, 3)) (k : V M d (pc + 3) la (.int (hi h a 59) :: st) h Q) : V M d pc la (.ref a :: st) h Q := v_getf okC_12 hs ha (by decide : 59 < 70) (hM ▸ fl_X12_271) rfl hd k
set_option maxRecDepth 100000 in
theorem p_X12_271 (hM : M.1.cls = RX12) {a : Nat} (hs : shp a = .inl 12) (ha : a < hn h) {x : Int32} (hd : decode M.2.1 pc = .ok (.putfield 271, 3)) (k : V M d (pc + 3) la st (wrI h a 59 x) Q) : V M d pc la (.int x :: .ref a :: st) h Q := v_puti okC_12 hs ha (by decide : 59 < 70) (hM ▸ fl_X12_271) rfl rfl hd k
set_option maxRecDepth 100000 in
theorem fl_X12_137 : Cond.fieldLink RX12 137 (TX12 60).1 (TX12 60).2.1 (TX12 60).2.2.1 ∈ gw := gw_T6 42 rfl rfl
set_option maxRecDepth 100000 in
theorem g_X12_137 (hM : M.1.cls = RX12) {a : Nat} (hs : shp a = .inl 12) (ha : a < hn h) {q : Nat} (hq : hr h a 60 = some q) (hd : decode M.2.1 pc = .ok (.getfield 137, 3)) (k : V M d (pc + 3) la (.ref q :: st) h Q) : V M d pc la (.ref a :: st) h Q := v_getf okC_12 hs ha (by decide : 60 < 70) (hM ▸ fl_X12_137) (congrArg va_rf hq) hd k
set_option maxRecDepth 100000 in
theorem p_X12_137 (hM : M.1.cls = RX12) {a : Nat} (hs : shp a = .inl 12) (ha : a < hn h) (hI : M.1.name = "<init>") {q : Nat} (hd : decode M.2.1 pc = .ok (.putfield 137, 3)) (k : V M d (pc + 3) la st (wrR h a 60 (some q)) Q) : V M d pc la (.ref q :: .ref a :: st) h Q := v_putr okC_12 hs ha (by decide : 60 < 70) (hM ▸ fl_X12_137) (Or.inr ⟨hI, hM.symm ▸ rfl, rfl⟩) (Or.inr ⟨_, rfl⟩) hd k
set_option maxRecDepth 100000 in
theorem fl_X12_140 : Cond.fieldLink RX12 140 (TX12 61).1 (TX12 61).2.1 (TX12 61).2.2.1 ∈ gw := gw_T6 43 rfl rfl
set_option maxRecDepth 100000 in
theorem g_X12_140 (hM : M.1.cls = RX12) {a : Nat} (hs : shp a = .inl 12) (ha : a < hn h) {q : Nat} (hq : hr h a 61 = some q) (hd : decode M.2.1 pc = .ok (.getfield 140, 3)) (k : V M d (pc + 3) la (.ref q :: st) h Q) : V M d pc la (.ref a :: st) h Q := v_getf okC_12 hs ha (by decide : 61 < 70) (hM ▸ fl_X12_140) (congrArg va_rf hq) hd k
set_option maxRecDepth 100000 in
theorem p_X12_140 (hM : M.1.cls = RX12) {a : Nat} (hs : shp a = .inl 12) (ha : a < hn h) (hI : M.1.name = "<init>") {q : Nat} (hd : decode M.2.1 pc = .ok (.putfield 140, 3)) (k : V M d (pc + 3) la st (wrR h a 61 (some q)) Q) : V M d pc la (.ref q :: .ref a :: st) h Q := v_putr okC_12 hs ha (by decide : 61 < 70) (hM ▸ fl_X12_140) (Or.inr ⟨hI, hM.symm ▸ rfl, rfl⟩) (Or.inr ⟨_, rfl⟩) hd k
set_option maxRecDepth 100000 in
theorem fl_X12_143 : Cond.fieldLink RX12 143 (TX12 62).1 (TX12 62).2.1 (TX12 62).2.2.1 ∈ gw := gw_T6 44 rfl rfl
set_option maxRecDepth 100000 in
theorem g_X12_143 (hM : M.1.cls = RX12) {a : Nat} (hs : shp a = .inl 12) (ha : a < hn h) {q : Nat} (hq : hr h a 62 = some q) (hd : decode M.2.1 pc = .ok (.getfield 143, 3)) (k : V M d (pc + 3) la (.ref q :: st) h Q) : V M d pc la (.ref a :: st) h Q := v_getf okC_12 hs ha (by decide : 62 < 70) (hM ▸ fl_X12_143) (congrArg va_rf hq) hd k
set_option maxRecDepth 100000 in
theorem p_X12_143 (hM : M.1.cls = RX12) {a : Nat} (hs : shp a = .inl 12) (ha : a < hn h) (hI : M.1.name = "<init>") {q : Nat} (hd : decode M.2.1 pc = .ok (.putfield 143, 3)) (k : V M d (pc + 3) la st (wrR h a 62 (some q)) Q) : V M d pc la (.ref q :: .ref a :: st) h Q := v_putr okC_12 hs ha (by decide : 62 < 70) (hM ▸ fl_X12_143) (Or.inr ⟨hI, hM.symm ▸ rfl, rfl⟩) (Or.inr ⟨_, rfl⟩) hd k
set_option maxRecDepth 100000 in
theorem fl_X12_146 : Cond.fieldLink RX12 146 (TX12 63).1 (TX12 63).2.1 (TX12 63).2.2.1 ∈ gw := gw_T6 45 rfl rfl
set_option maxRecDepth 100000 in
theorem g_X12_146 (hM : M.1.cls = RX12) {a : Nat} (hs : shp a = .inl 12) (ha : a < hn h) {q : Nat} (hq : hr h a 63 = some q) (hd : decode M.2.1 pc = .ok (.getfield 146, 3)) (k : V M d (pc + 3) la (.ref q :: st) h Q) : V M d pc la (.ref a :: st) h Q := v_getf okC_12 hs ha (by decide : 63 < 70) (hM ▸ fl_X12_146) (congrArg va_rf hq) hd k
set_option maxRecDepth 100000 in
theorem p_X12_146 (hM : M.1.cls = RX12) {a : Nat} (hs : shp a = .inl 12) (ha : a < hn h) (hI : M.1.name = "<init>") {q : Nat} (hd : decode M.2.1 pc = .ok (.putfield 146, 3)) (k : V M d (pc + 3) la st (wrR h a 63 (some q)) Q) : V M d pc la (.ref q :: .ref a :: st) h Q := v_putr okC_12 hs ha (by decide : 63 < 70) (hM ▸ fl_X12_146) (Or.inr ⟨hI, hM.symm ▸ rfl, rfl⟩) (Or.inr ⟨_, rfl⟩) hd k
set_option maxRecDepth 100000 in
theorem fl_X12_149 : Cond.fieldLink RX12 149 (TX12 64).1 (TX12 64).2.1 (TX12 64).2.2.1 ∈ gw := gw_T6 46 rfl rfl
set_option maxRecDepth 100000 in
theorem g_X12_149 (hM : M.1.cls = RX12) {a : Nat} (hs : shp a = .inl 12) (ha : a < hn h) {q : Nat} (hq : hr h a 64 = some q) (hd : decode M.2.1 pc = .ok (.getfield 149, 3)) (k : V M d (pc + 3) la (.ref q :: st) h Q) : V M d pc la (.ref a :: st) h Q := v_getf okC_12 hs ha (by decide : 64 < 70) (hM ▸ fl_X12_149) (congrArg va_rf hq) hd k
set_option maxRecDepth 100000 in
theorem p_X12_149 (hM : M.1.cls = RX12) {a : Nat} (hs : shp a = .inl 12) (ha : a < hn h) (hI : M.1.name = "<init>") {q : Nat} (hd : decode M.2.1 pc = .ok (.putfield 149, 3)) (k : V M d (pc + 3) la st (wrR h a 64 (some q)) Q) : V M d pc la (.ref q :: .ref a :: st) h Q := v_putr okC_12 hs ha (by decide : 64 < 70) (hM ▸ fl_X12_149) (Or.inr ⟨hI, hM.symm ▸ rfl, rfl⟩) (Or.inr ⟨_, rfl⟩) hd k
set_option maxRecDepth 100000 in
theorem fl_X12_274 : Cond.fieldLink RX12 274 (TX12 65).1 (TX12 65).2.1 (TX12 65).2.2.1 ∈ gw := gw_T6 47 rfl rfl
set_option maxRecDepth 100000 in
theorem g_X12_274 (hM : M.1.cls = RX12) {a : Nat} (hs : shp a = .inl 12) (ha : a < hn h) (hd : decode M.2.1 pc = .ok (.getfield 274, 3)) (k : V M d (pc + 3) la (.int (hi h a 65) :: st) h Q) : V M d pc la (.ref a :: st) h Q := v_getf okC_12 hs ha (by decide : 65 < 70) (hM ▸ fl_X12_274) rfl hd k
set_option maxRecDepth 100000 in
theorem p_X12_274 (hM : M.1.cls = RX12) {a : Nat} (hs : shp a = .inl 12) (ha : a < hn h) {x : Int32} (hd : decode M.2.1 pc = .ok (.putfield 274, 3)) (k : V M d (pc + 3) la st (wrI h a 65 x) Q) : V M d pc la (.int x :: .ref a :: st) h Q := v_puti okC_12 hs ha (by decide : 65 < 70) (hM ▸ fl_X12_274) rfl rfl hd k
set_option maxRecDepth 100000 in
theorem fl_X12_152 : Cond.fieldLink RX12 152 (TX12 66).1 (TX12 66).2.1 (TX12 66).2.2.1 ∈ gw := gw_T6 48 rfl rfl
set_option maxRecDepth 100000 in
theorem g_X12_152 (hM : M.1.cls = RX12) {a : Nat} (hs : shp a = .inl 12) (ha : a < hn h) {q : Nat} (hq : hr h a 66 = some q) (hd : decode M.2.1 pc = .ok (.getfield 152, 3)) (k : V M d (pc + 3) la (.ref q :: st) h Q) : V M d pc la (.ref a :: st) h Q := v_getf okC_12 hs ha (by decide : 66 < 70) (hM ▸ fl_X12_152) (congrArg va_rf hq) hd k
set_option maxRecDepth 100000 in
theorem p_X12_152 (hM : M.1.cls = RX12) {a : Nat} (hs : shp a = .inl 12) (ha : a < hn h) (hI : M.1.name = "<init>") {q : Nat} (hd : decode M.2.1 pc = .ok (.putfield 152, 3)) (k : V M d (pc + 3) la st (wrR h a 66 (some q)) Q) : V M d pc la (.ref q :: .ref a :: st) h Q := v_putr okC_12 hs ha (by decide : 66 < 70) (hM ▸ fl_X12_152) (Or.inr ⟨hI, hM.symm ▸ rfl, rfl⟩) (Or.inr ⟨_, rfl⟩) hd k
set_option maxRecDepth 100000 in
theorem fl_X12_155 : Cond.fieldLink RX12 155 (TX12 67).1 (TX12 67).2.1 (TX12 67).2.2.1 ∈ gw := gw_T6 49 rfl rfl
set_option maxRecDepth 100000 in
theorem g_X12_155 (hM : M.1.cls = RX12) {a : Nat} (hs : shp a = .inl 12) (ha : a < hn h) {q : Nat} (hq : hr h a 67 = some q) (hd : decode M.2.1 pc = .ok (.getfield 155, 3)) (k : V M d (pc + 3) la (.ref q :: st) h Q) : V M d pc la (.ref a :: st) h Q := v_getf okC_12 hs ha (by decide : 67 < 70) (hM ▸ fl_X12_155) (congrArg va_rf hq) hd k
set_option maxRecDepth 100000 in
theorem p_X12_155 (hM : M.1.cls = RX12) {a : Nat} (hs : shp a = .inl 12) (ha : a < hn h) (hI : M.1.name = "<init>") {q : Nat} (hd : decode M.2.1 pc = .ok (.putfield 155, 3)) (k : V M d (pc + 3) la st (wrR h a 67 (some q)) Q) : V M d pc la (.ref q :: .ref a :: st) h Q := v_putr okC_12 hs ha (by decide : 67 < 70) (hM ▸ fl_X12_155) (Or.inr ⟨hI, hM.symm ▸ rfl, rfl⟩) (Or.inr ⟨_, rfl⟩) hd k
set_option maxRecDepth 100000 in
theorem fl_X12_158 : Cond.fieldLink RX12 158 (TX12 68).1 (TX12 68).2.1 (TX12 68).2.2.1 ∈ gw := gw_T6 50 rfl rfl
set_option maxRecDepth 100000 in
theorem g_X12_158 (hM : M.1.cls = RX12) {a : Nat} (hs : shp a = .inl 12) (ha : a < hn h) {q : Nat} (hq : hr h a 68 = some q) (hd : decode M.2.1 pc = .ok (.getfield 158, 3)) (k : V M d (pc + 3) la (.ref q :: st) h Q) : V M d pc la (.ref a :: st) h Q := v_getf okC_12 hs ha (by decide : 68 < 70) (hM ▸ fl_X12_158) (congrArg va_rf hq) hd k
set_option maxRecDepth 100000 in
theorem p_X12_158 (hM : M.1.cls = RX12) {a : Nat} (hs : shp a = .inl 12) (ha : a < hn h) (hI : M.1.name = "<init>") {q : Nat} (hd : decode M.2.1 pc = .ok (.putfield 158, 3)) (k : V M d (pc + 3) la st (wrR h a 68 (some q)) Q) : V M d pc la (.ref q :: .ref a :: st) h Q := v_putr okC_12 hs ha (by decide : 68 < 70) (hM ▸ fl_X12_158) (Or.inr ⟨hI, hM.symm ▸ rfl, rfl⟩) (Or.inr ⟨_, rfl⟩) hd k
set_option maxRecDepth 100000 in
theorem fl_X12_161 : Cond.fieldLink RX12 161 (TX12 69).1 (TX12 69).2.1 (TX12 69).2.2.1 ∈ gw := gw_T6 51 rfl rfl
set_option maxRecDepth 100000 in
theorem g_X12_161 (hM : M.1.cls = RX12) {a : Nat} (hs : shp a = .inl 12) (ha : a < hn h) {q : Nat} (hq : hr h a 69 = some q) (hd : decode M.2.1 pc = .ok (.getfield 161, 3)) (k : V M d (pc + 3) la (.ref q :: st) h Q) : V M d pc la (.ref a :: st) h Q := v_getf okC_12 hs ha (by decide : 69 < 70) (hM ▸ fl_X12_161) (congrArg va_rf hq) hd k
set_option maxRecDepth 100000 in
theorem p_X12_161 (hM : M.1.cls = RX12) {a : Nat} (hs : shp a = .inl 12) (ha : a < hn h) (hI : M.1.name = "<init>") {q : Nat} (hd : decode M.2.1 pc = .ok (.putfield 161, 3)) (k : V M d (pc + 3) la st (wrR h a 69 (some q)) Q) : V M d pc la (.ref q :: .ref a :: st) h Q := v_putr okC_12 hs ha (by decide : 69 < 70) (hM ▸ fl_X12_161) (Or.inr ⟨hI, hM.symm ▸ rfl, rfl⟩) (Or.inr ⟨_, rfl⟩) hd k
set_option maxRecDepth 100000 in
theorem lk_L_9 : lnk RL 9 yX11_init := Or.inl (gw_T1 24 rfl rfl)
set_option maxRecDepth 100000 in
theorem c_L_9 {Qk : Option Value → Hp → Prop} (hM : M.1.cls = RL) {a : Nat} (hcat : catS st ≤ 8) (hd : decode M.2.1 pc = .ok (.invokespecial 9, 3)) (hk : Kc mX11_init d (.ref a :: []) h Qk) (kk : ∀ (r1 : Option Value) (h1 : Hp), Qk r1 h1 → V M (d + 1) (pc + 3) la (r1.toList ++ st) h1 Q) : V M (d + 1) pc la (.ref a :: st) h Q := v_callI (N := mX11_init) (n := 0) [] rfl ok_X11_init (hM ▸ lk_L_9) im_X11_init rfl rfl (by decide +kernel) rfl hcat hd hk kk
set_option maxRecDepth 100000 in
theorem ml_X11_1 : Cond.methodLink RX11 1 Lib.objectInit ∈ gw := gw_T1 27 rfl rfl
set_option maxRecDepth 100000 in
theorem lk_X11_22 : lnk RX11 22 yX7_init := Or.inl (gw_T1 32 rfl rfl)
set_option maxRecDepth 100000 in
theorem c_X11_22 {Qk : Option Value → Hp → Prop} (hM : M.1.cls = RX11) {x1 : Value} {a : Nat} (hcat : catS st ≤ 8) (hd : decode M.2.1 pc = .ok (.invokespecial 22, 3)) (hk : Kc mX7_init d (.ref a :: [x1]) h Qk) (kk : ∀ (r1 : Option Value) (h1 : Hp), Qk r1 h1 → V M (d + 1) (pc + 3) la (r1.toList ++ st) h1 Q) : V M (d + 1) pc la (x1 :: .ref a :: st) h Q := v_callI (N := mX7_init) (n := 1) [x1] rfl ok_X7_init (hM ▸ lk_X11_22) im_X7_init rfl rfl (by decide +kernel) rfl hcat hd hk kk
set_option maxRecDepth 100000 in
theorem ml_X7_3 : Cond.methodLink RX7 3 Lib.objectInit ∈ gw := gw_T1 35 rfl rfl
set_option maxRecDepth 100000 in
theorem ml_X0_3 : Cond.methodLink RX0 3 Lib.objectInit ∈ gw := gw_T1 41 rfl rfl
set_option maxRecDepth 100000 in
theorem ml_X3_3 : Cond.methodLink RX3 3 Lib.objectInit ∈ gw := gw_T1 47 rfl rfl
set_option maxRecDepth 100000 in
theorem ml_X4_3 : Cond.methodLink RX4 3 Lib.objectInit ∈ gw := gw_T1 75 rfl rfl
set_option maxRecDepth 100000 in
theorem ml_X8_3 : Cond.methodLink RX8 3 Lib.objectInit ∈ gw := gw_T1 123 rfl rfl
set_option maxRecDepth 100000 in
theorem lk_X7_66 : lnk RX7 66 yX9_init := Or.inl (gw_T1 164 rfl rfl)
set_option maxRecDepth 100000 in
theorem c_X7_66 {Qk : Option Value → Hp → Prop} (hM : M.1.cls = RX7) {x1 : Value} {a : Nat} (hcat : catS st ≤ 8) (hd : decode M.2.1 pc = .ok (.invokespecial 66, 3)) (hk : Kc mX9_init d (.ref a :: [x1]) h Qk) (kk : ∀ (r1 : Option Value) (h1 : Hp), Qk r1 h1 → V M (d + 1) (pc + 3) la (r1.toList ++ st) h1 Q) : V M (d + 1) pc la (x1 :: .ref a :: st) h Q := v_callI (N := mX9_init) (n := 1) [x1] rfl ok_X9_init (hM ▸ lk_X7_66) im_X9_init rfl rfl (by decide +kernel) rfl hcat hd hk kk
set_option maxRecDepth 100000 in
theorem ml_X9_3 : Cond.methodLink RX9 3 Lib.objectInit ∈ gw := gw_T1 167 rfl rfl
set_option maxRecDepth 100000 in
theorem lk_X9_38 : lnk RX9 38 yJ0_length_8abf5 := Or.inl (gw_T1 169 rfl rfl)
set_option maxRecDepth 100000 in
theorem lk_J0_335 : lnk RJ0 335 yJ0_coder_7d493 := Or.inl (gw_T1 173 rfl rfl)
set_option maxRecDepth 100000 in
theorem lk_X9_43 : lnk RX9 43 yJ0_charAt_5068e := Or.inl (gw_T1 179 rfl rfl)
set_option maxRecDepth 100000 in
theorem lk_J0_492 : lnk RJ0 492 yJ0_isLatin1_aae02 := Or.inl (gw_T1 183 rfl rfl)
set_option maxRecDepth 100000 in
theorem lk_J0_495 : lnk RJ0 495 yJ1_charAt_3b067 := Or.inl (gw_T1 187 rfl rfl)
set_option maxRecDepth 100000 in
theorem c_J0_495 {Qk : Option Value → Hp → Prop} (hM : M.1.cls = RJ0) {x1 x2 : Value} (hcat : catS st ≤ 8) (hd : decode M.2.1 pc = .ok (.invokestatic 495, 3)) (hk : Kc mJ1_charAt_3b067 d [x1, x2] h Qk) (kk : ∀ (r1 : Option Value) (h1 : Hp), Qk r1 h1 → V M (d + 1) (pc + 3) la (r1.toList ++ st) h1 Q) : V M (d + 1) pc la (x2 :: x1 :: st) h Q := v_callS (N := mJ1_charAt_3b067) (n := 2) [x1, x2] rfl ok_J1_charAt_3b067 (hM ▸ lk_J0_495) sm_J1_charAt_3b067 (by decide +kernel) rfl hcat hd hk kk
set_option maxRecDepth 100000 in
theorem lk_J1_9 : lnk RJ1 9 yJ0_checkIndex_df160 := Or.inl (gw_T1 190 rfl rfl)
set_option maxRecDepth 100000 in
theorem c_J1_9 {Qk : Option Value → Hp → Prop} (hM : M.1.cls = RJ1) {x1 x2 : Value} (hcat : catS st ≤ 8) (hd : decode M.2.1 pc = .ok (.invokestatic 9, 3)) (hk : Kc mJ0_checkIndex_df160 d [x1, x2] h Qk) (kk : ∀ (r1 : Option Value) (h1 : Hp), Qk r1 h1 → V M (d + 1) (pc + 3) la (r1.toList ++ st) h1 Q) : V M (d + 1) pc la (x2 :: x1 :: st) h Q := v_callS (N := mJ0_checkIndex_df160) (n := 2) [x1, x2] rfl ok_J0_checkIndex_df160 (hM ▸ lk_J1_9) sm_J0_checkIndex_df160 (by decide +kernel) rfl hcat hd hk kk
set_option maxRecDepth 100000 in
theorem lk_J0_1059 : lnk RJ0 1059 yJ3_checkIndex_8e157 := Or.inl (gw_T1 195 rfl rfl)
set_option maxRecDepth 100000 in
theorem c_J0_1059 {Qk : Option Value → Hp → Prop} (hM : M.1.cls = RJ0) {x1 x2 x3 : Value} (hcat : catS st ≤ 8) (hd : decode M.2.1 pc = .ok (.invokestatic 1059, 3)) (hk : Kc mJ3_checkIndex_8e157 d [x1, x2, x3] h Qk) (kk : ∀ (r1 : Option Value) (h1 : Hp), Qk r1 h1 → V M (d + 1) (pc + 3) la (r1.toList ++ st) h1 Q) : V M (d + 1) pc la (x3 :: x2 :: x1 :: st) h Q := v_callS (N := mJ3_checkIndex_8e157) (n := 3) [x1, x2, x3] rfl ok_J3_checkIndex_8e157 (hM ▸ lk_J0_1059) sm_J3_checkIndex_8e157 (by decide +kernel) rfl hcat hd hk kk
set_option maxRecDepth 100000 in
theorem lk_J0_498 : lnk RJ0 498 yJ2_charAt_3b067 := Or.inl (gw_T1 198 rfl rfl)
set_option maxRecDepth 100000 in
theorem c_J0_498 {Qk : Option Value → Hp → Prop} (hM : M.1.cls = RJ0) {x1 x2 : Value} (hcat : catS st ≤ 8) (hd : decode M.2.1 pc = .ok (.invokestatic 498, 3)) (hk : Kc mJ2_charAt_3b067 d [x1, x2] h Qk) (kk : ∀ (r1 : Option Value) (h1 : Hp), Qk r1 h1 → V M (d + 1) (pc + 3) la (r1.toList ++ st) h1 Q) : V M (d + 1) pc la (x2 :: x1 :: st) h Q := v_callS (N := mJ2_charAt_3b067) (n := 2) [x1, x2] rfl ok_J2_charAt_3b067 (hM ▸ lk_J0_498) sm_J2_charAt_3b067 (by decide +kernel) rfl hcat hd hk kk
set_option maxRecDepth 100000 in
theorem lk_J2_67 : lnk RJ2 67 yJ2_checkIndex_2214a := Or.inl (gw_T1 201 rfl rfl)
set_option maxRecDepth 100000 in
theorem c_J2_67 {Qk : Option Value → Hp → Prop} (hM : M.1.cls = RJ2) {x1 x2 : Value} (hcat : catS st ≤ 8) (hd : decode M.2.1 pc = .ok (.invokestatic 67, 3)) (hk : Kc mJ2_checkIndex_2214a d [x1, x2] h Qk) (kk : ∀ (r1 : Option Value) (h1 : Hp), Qk r1 h1 → V M (d + 1) (pc + 3) la (r1.toList ++ st) h1 Q) : V M (d + 1) pc la (x2 :: x1 :: st) h Q := v_callS (N := mJ2_checkIndex_2214a) (n := 2) [x1, x2] rfl ok_J2_checkIndex_2214a (hM ▸ lk_J2_67) sm_J2_checkIndex_2214a (by decide +kernel) rfl hcat hd hk kk
set_option maxRecDepth 100000 in
theorem lk_J2_48 : lnk RJ2 48 yJ2_length_9d52b := Or.inl (gw_T1 204 rfl rfl)
set_option maxRecDepth 100000 in
theorem c_J2_48 {Qk : Option Value → Hp → Prop} (hM : M.1.cls = RJ2) {x1 : Value} (hcat : catS st ≤ 8) (hd : decode M.2.1 pc = .ok (.invokestatic 48, 3)) (hk : Kc mJ2_length_9d52b d [x1] h Qk) (kk : ∀ (r1 : Option Value) (h1 : Hp), Qk r1 h1 → V M (d + 1) (pc + 3) la (r1.toList ++ st) h1 Q) : V M (d + 1) pc la (x1 :: st) h Q := v_callS (N := mJ2_length_9d52b) (n := 1) [x1] rfl ok_J2_length_9d52b (hM ▸ lk_J2_48) sm_J2_length_9d52b (by decide +kernel) rfl hcat hd hk kk
set_option maxRecDepth 100000 in
theorem lk_J2_414 : lnk RJ2 414 yJ0_checkIndex_df160 := Or.inl (gw_T1 207 rfl rfl)
set_option maxRecDepth 100000 in
theorem c_J2_414 {Qk : Option Value → Hp → Prop} (hM : M.1.cls = RJ2) {x1 x2 : Value} (hcat : catS st ≤ 8) (hd : decode M.2.1 pc = .ok (.invokestatic 414, 3)) (hk : Kc mJ0_checkIndex_df160 d [x1, x2] h Qk) (kk : ∀ (r1 : Option Value) (h1 : Hp), Qk r1 h1 → V M (d + 1) (pc + 3) la (r1.toList ++ st) h1 Q) : V M (d + 1) pc la (x2 :: x1 :: st) h Q := v_callS (N := mJ0_checkIndex_df160) (n := 2) [x1, x2] rfl ok_J0_checkIndex_df160 (hM ▸ lk_J2_414) sm_J0_checkIndex_df160 (by decide +kernel) rfl hcat hd hk kk
set_option maxRecDepth 100000 in
theorem lk_J2_71 : lnk RJ2 71 yJ2_getChar_3b067 := Or.inl (gw_T1 208 rfl rfl)
set_option maxRecDepth 100000 in
theorem c_J2_71 {Qk : Option Value → Hp → Prop} (hM : M.1.cls = RJ2) {x1 x2 : Value} (hcat : catS st ≤ 8) (hd : decode M.2.1 pc = .ok (.invokestatic 71, 3)) (hk : Kc mJ2_getChar_3b067 d [x1, x2] h Qk) (kk : ∀ (r1 : Option Value) (h1 : Hp), Qk r1 h1 → V M (d + 1) (pc + 3) la (r1.toList ++ st) h1 Q) : V M (d + 1) pc la (x2 :: x1 :: st) h Q := v_callS (N := mJ2_getChar_3b067) (n := 2) [x1, x2] rfl ok_J2_getChar_3b067 (hM ▸ lk_J2_71) sm_J2_getChar_3b067 (by decide +kernel) rfl hcat hd hk kk
set_option maxRecDepth 100000 in
theorem lk_X9_47 : lnk RX9 47 yX9_withLetter := Or.inl (gw_T1 217 rfl rfl)
set_option maxRecDepth 100000 in
theorem c_X9_47 {Qk : Option Value → Hp → Prop} (hM : M.1.cls = RX9) {x1 x2 : Value} (hcat : catS st ≤ 8) (hd : decode M.2.1 pc = .ok (.invokestatic 47, 3)) (hk : Kc mX9_withLetter d [x1, x2] h Qk) (kk : ∀ (r1 : Option Value) (h1 : Hp), Qk r1 h1 → V M (d + 1) (pc + 3) la (r1.toList ++ st) h1 Q) : V M (d + 1) pc la (x2 :: x1 :: st) h Q := v_callS (N := mX9_withLetter) (n := 2) [x1, x2] rfl ok_X9_withLetter (hM ▸ lk_X9_47) sm_X9_withLetter (by decide +kernel) rfl hcat hd hk kk
set_option maxRecDepth 100000 in
theorem lk_X11_53 : lnk RX11 53 yX6_init := Or.inl (gw_T2 60 rfl rfl)
set_option maxRecDepth 100000 in
theorem c_X11_53 {Qk : Option Value → Hp → Prop} (hM : M.1.cls = RX11) {a : Nat} (hcat : catS st ≤ 8) (hd : decode M.2.1 pc = .ok (.invokespecial 53, 3)) (hk : Kc mX6_init d (.ref a :: []) h Qk) (kk : ∀ (r1 : Option Value) (h1 : Hp), Qk r1 h1 → V M (d + 1) (pc + 3) la (r1.toList ++ st) h1 Q) : V M (d + 1) pc la (.ref a :: st) h Q := v_callI (N := mX6_init) (n := 0) [] rfl ok_X6_init (hM ▸ lk_X11_53) im_X6_init rfl rfl (by decide +kernel) rfl hcat hd hk kk
set_option maxRecDepth 100000 in
theorem ml_X6_3 : Cond.methodLink RX6 3 Lib.objectInit ∈ gw := gw_T2 63 rfl rfl
set_option maxRecDepth 100000 in
theorem ml_X2_3 : Cond.methodLink RX2 3 Lib.objectInit ∈ gw := gw_T2 83 rfl rfl
set_option maxRecDepth 100000 in
theorem lk_X11_74 : lnk RX11 74 yX10_init := Or.inl (gw_T2 98 rfl rfl)
set_option maxRecDepth 100000 in
theorem c_X11_74 {Qk : Option Value → Hp → Prop} (hM : M.1.cls = RX11) {x1 : Value} {a : Nat} (hcat : catS st ≤ 8) (hd : decode M.2.1 pc = .ok (.invokespecial 74, 3)) (hk : Kc mX10_init d (.ref a :: [x1]) h Qk) (kk : ∀ (r1 : Option Value) (h1 : Hp), Qk r1 h1 → V M (d + 1) (pc + 3) la (r1.toList ++ st) h1 Q) : V M (d + 1) pc la (x1 :: .ref a :: st) h Q := v_callI (N := mX10_init) (n := 1) [x1] rfl ok_X10_init (hM ▸ lk_X11_74) im_X10_init rfl rfl (by decide +kernel) rfl hcat hd hk kk
set_option maxRecDepth 100000 in
theorem ml_X10_3 : Cond.methodLink RX10 3 Lib.objectInit ∈ gw := gw_T2 101 rfl rfl
set_option maxRecDepth 100000 in
theorem lk_X11_83 : lnk RX11 83 yX1_init := Or.inl (gw_T2 128 rfl rfl)
set_option maxRecDepth 100000 in
theorem c_X11_83 {Qk : Option Value → Hp → Prop} (hM : M.1.cls = RX11) {x1 : Value} {a : Nat} (hcat : catS st ≤ 8) (hd : decode M.2.1 pc = .ok (.invokespecial 83, 3)) (hk : Kc mX1_init d (.ref a :: [x1]) h Qk) (kk : ∀ (r1 : Option Value) (h1 : Hp), Qk r1 h1 → V M (d + 1) (pc + 3) la (r1.toList ++ st) h1 Q) : V M (d + 1) pc la (x1 :: .ref a :: st) h Q := v_callI (N := mX1_init) (n := 1) [x1] rfl ok_X1_init (hM ▸ lk_X11_83) im_X1_init rfl rfl (by decide +kernel) rfl hcat hd hk kk
set_option maxRecDepth 100000 in
theorem ml_X1_3 : Cond.methodLink RX1 3 Lib.objectInit ∈ gw := gw_T2 131 rfl rfl
set_option maxRecDepth 100000 in
theorem lk_X11_90 : lnk RX11 90 yX5_init := Or.inl (gw_T2 150 rfl rfl)
set_option maxRecDepth 100000 in
theorem c_X11_90 {Qk : Option Value → Hp → Prop} (hM : M.1.cls = RX11) {x1 : Value} {a : Nat} (hcat : catS st ≤ 8) (hd : decode M.2.1 pc = .ok (.invokespecial 90, 3)) (hk : Kc mX5_init d (.ref a :: [x1]) h Qk) (kk : ∀ (r1 : Option Value) (h1 : Hp), Qk r1 h1 → V M (d + 1) (pc + 3) la (r1.toList ++ st) h1 Q) : V M (d + 1) pc la (x1 :: .ref a :: st) h Q := v_callI (N := mX5_init) (n := 1) [x1] rfl ok_X5_init (hM ▸ lk_X11_90) im_X5_init rfl rfl (by decide +kernel) rfl hcat hd hk kk
set_option maxRecDepth 100000 in
theorem ml_X5_3 : Cond.methodLink RX5 3 Lib.objectInit ∈ gw := gw_T2 153 rfl rfl
set_option maxRecDepth 100000 in
theorem lk_X11_95 : lnk RX11 95 yX0_clear := Or.inl (gw_T2 169 rfl rfl)
set_option maxRecDepth 100000 in
theorem c_X11_95 {Qk : Option Value → Hp → Prop} (hM : M.1.cls = RX11) {a : Nat} (hs : shp a = .inl 0) (ha : a < hn h) (hcat : catS st ≤ 8) (hd : decode M.2.1 pc = .ok (.invokevirtual 95, 3)) (hk : Kc mX0_clear d (.ref a :: []) h Qk) (kk : ∀ (r1 : Option Value) (h1 : Hp), Qk r1 h1 → V M (d + 1) (pc + 3) la (r1.toList ++ st) h1 Q) : V M (d + 1) pc la (.ref a :: st) h Q := v_callV (N := mX0_clear) (n := 0) [] rfl ok_X0_clear (hM ▸ lk_X11_95) im_X0_clear se_X0_clear (by decide +kernel) rfl okC_0.1 hs ha hcat hd hk kk
set_option maxRecDepth 100000 in
theorem lk_X0_39 : lnk RX0 39 yX3_lay := Or.inl (gw_T2 173 rfl rfl)
set_option maxRecDepth 100000 in
theorem c_X0_39 {Qk : Option Value → Hp → Prop} (hM : M.1.cls = RX0) {x1 x2 : Value} {a : Nat} (hs : shp a = .inl 3) (ha : a < hn h) (hcat : catS st ≤ 8) (hd : decode M.2.1 pc = .ok (.invokevirtual 39, 3)) (hk : Kc mX3_lay d (.ref a :: [x1, x2]) h Qk) (kk : ∀ (r1 : Option Value) (h1 : Hp), Qk r1 h1 → V M (d + 1) (pc + 3) la (r1.toList ++ st) h1 Q) : V M (d + 1) pc la (x2 :: x1 :: .ref a :: st) h Q := v_callV (N := mX3_lay) (n := 2) [x1, x2] rfl ok_X3_lay (hM ▸ lk_X0_39) im_X3_lay se_X3_lay (by decide +kernel) rfl okC_3.1 hs ha hcat hd hk kk
set_option maxRecDepth 100000 in
theorem lk_X0_43 : lnk RX0 43 yX4_clear := Or.inl (gw_T2 177 rfl rfl)
set_option maxRecDepth 100000 in
theorem c_X0_43 {Qk : Option Value → Hp → Prop} (hM : M.1.cls = RX0) {a : Nat} (hs : shp a = .inl 4) (ha : a < hn h) (hcat : catS st ≤ 8) (hd : decode M.2.1 pc = .ok (.invokevirtual 43, 3)) (hk : Kc mX4_clear d (.ref a :: []) h Qk) (kk : ∀ (r1 : Option Value) (h1 : Hp), Qk r1 h1 → V M (d + 1) (pc + 3) la (r1.toList ++ st) h1 Q) : V M (d + 1) pc la (.ref a :: st) h Q := v_callV (N := mX4_clear) (n := 0) [] rfl ok_X4_clear (hM ▸ lk_X0_43) im_X4_clear se_X4_clear (by decide +kernel) rfl okC_4.1 hs ha hcat hd hk kk
set_option maxRecDepth 100000 in
theorem lk_X4_25 : lnk RX4 25 yX4_begin := Or.inl (gw_T2 181 rfl rfl)
set_option maxRecDepth 100000 in
theorem c_X4_25 {Qk : Option Value → Hp → Prop} (hM : M.1.cls = RX4) {x1 : Value} {a : Nat} (hs : shp a = .inl 4) (ha : a < hn h) (hcat : catS st ≤ 8) (hd : decode M.2.1 pc = .ok (.invokevirtual 25, 3)) (hk : Kc mX4_begin d (.ref a :: [x1]) h Qk) (kk : ∀ (r1 : Option Value) (h1 : Hp), Qk r1 h1 → V M (d + 1) (pc + 3) la (r1.toList ++ st) h1 Q) : V M (d + 1) pc la (x1 :: .ref a :: st) h Q := v_callV (N := mX4_begin) (n := 1) [x1] rfl ok_X4_begin (hM ▸ lk_X4_25) im_X4_begin se_X4_begin (by decide +kernel) rfl okC_4.1 hs ha hcat hd hk kk
set_option maxRecDepth 100000 in
theorem lk_X4_29 : lnk RX4 29 yX4_add := Or.inl (gw_T2 185 rfl rfl)
set_option maxRecDepth 100000 in
theorem c_X4_29 {Qk : Option Value → Hp → Prop} (hM : M.1.cls = RX4) {x1 : Value} {a : Nat} (hs : shp a = .inl 4) (ha : a < hn h) (hcat : catS st ≤ 8) (hd : decode M.2.1 pc = .ok (.invokevirtual 29, 3)) (hk : Kc mX4_add d (.ref a :: [x1]) h Qk) (kk : ∀ (r1 : Option Value) (h1 : Hp), Qk r1 h1 → V M (d + 1) (pc + 3) la (r1.toList ++ st) h1 Q) : V M (d + 1) pc la (x1 :: .ref a :: st) h Q := v_callV (N := mX4_add) (n := 1) [x1] rfl ok_X4_add (hM ▸ lk_X4_29) im_X4_add se_X4_add (by decide +kernel) rfl okC_4.1 hs ha hcat hd hk kk
set_option maxRecDepth 100000 in
theorem lk_L_13 : lnk RL 13 yX11_feed := Or.inl (gw_T2 235 rfl rfl)
set_option maxRecDepth 100000 in
theorem c_L_13 {Qk : Option Value → Hp → Prop} (hM : M.1.cls = RL) {x1 x2 x3 x4 x5 : Value} {a : Nat} (hs : shp a = .inl 11) (ha : a < hn h) (hcat : catS st ≤ 8) (hd : decode M.2.1 pc = .ok (.invokevirtual 13, 3)) (hk : Kc mX11_feed d (.ref a :: [x1, x2, x3, x4, x5]) h Qk) (kk : ∀ (r1 : Option Value) (h1 : Hp), Qk r1 h1 → V M (d + 1) (pc + 3) la (r1.toList ++ st) h1 Q) : V M (d + 1) pc la (x5 :: x4 :: x3 :: x2 :: x1 :: .ref a :: st) h Q := v_callV (N := mX11_feed) (n := 5) [x1, x2, x3, x4, x5] rfl ok_X11_feed (hM ▸ lk_L_13) im_X11_feed se_X11_feed (by decide +kernel) rfl okC_11.1 hs ha hcat hd hk kk
set_option maxRecDepth 100000 in
theorem lk_X11_98 : lnk RX11 98 yX11_putOnTape := Or.inl (gw_T2 239 rfl rfl)
set_option maxRecDepth 100000 in
theorem c_X11_98 {Qk : Option Value → Hp → Prop} (hM : M.1.cls = RX11) {x1 : Value} {a : Nat} (hs : shp a = .inl 11) (ha : a < hn h) (hcat : catS st ≤ 8) (hd : decode M.2.1 pc = .ok (.invokevirtual 98, 3)) (hk : Kc mX11_putOnTape d (.ref a :: [x1]) h Qk) (kk : ∀ (r1 : Option Value) (h1 : Hp), Qk r1 h1 → V M (d + 1) (pc + 3) la (r1.toList ++ st) h1 Q) : V M (d + 1) pc la (x1 :: .ref a :: st) h Q := v_callV (N := mX11_putOnTape) (n := 1) [x1] rfl ok_X11_putOnTape (hM ▸ lk_X11_98) im_X11_putOnTape se_X11_putOnTape (by decide +kernel) rfl okC_11.1 hs ha hcat hd hk kk
set_option maxRecDepth 100000 in
theorem lk_L_18 : lnk RL 18 yX11_back := Or.inl (gw_T3 3 rfl rfl)
set_option maxRecDepth 100000 in
theorem c_L_18 {Qk : Option Value → Hp → Prop} (hM : M.1.cls = RL) {x1 : Value} {a : Nat} (hs : shp a = .inl 11) (ha : a < hn h) (hcat : catS st ≤ 8) (hd : decode M.2.1 pc = .ok (.invokevirtual 18, 3)) (hk : Kc mX11_back d (.ref a :: [x1]) h Qk) (kk : ∀ (r1 : Option Value) (h1 : Hp), Qk r1 h1 → V M (d + 1) (pc + 3) la (r1.toList ++ st) h1 Q) : V M (d + 1) pc la (x1 :: .ref a :: st) h Q := v_callV (N := mX11_back) (n := 1) [x1] rfl ok_X11_back (hM ▸ lk_L_18) im_X11_back se_X11_back (by decide +kernel) rfl okC_11.1 hs ha hcat hd hk kk
set_option maxRecDepth 100000 in
theorem lk_L_23 : lnk RL 23 yX11_read := Or.inl (gw_T3 7 rfl rfl)
set_option maxRecDepth 100000 in
theorem c_L_23 {Qk : Option Value → Hp → Prop} (hM : M.1.cls = RL) {a : Nat} (hs : shp a = .inl 11) (ha : a < hn h) (hcat : catS st ≤ 8) (hd : decode M.2.1 pc = .ok (.invokevirtual 23, 3)) (hk : Kc mX11_read d (.ref a :: []) h Qk) (kk : ∀ (r1 : Option Value) (h1 : Hp), Qk r1 h1 → V M (d + 1) (pc + 3) la (r1.toList ++ st) h1 Q) : V M (d + 1) pc la (.ref a :: st) h Q := v_callV (N := mX11_read) (n := 0) [] rfl ok_X11_read (hM ▸ lk_L_23) im_X11_read se_X11_read (by decide +kernel) rfl okC_11.1 hs ha hcat hd hk kk
set_option maxRecDepth 100000 in
theorem lk_X11_102 : lnk RX11 102 yX7_readText := Or.inl (gw_T3 11 rfl rfl)
set_option maxRecDepth 100000 in
theorem c_X11_102 {Qk : Option Value → Hp → Prop} (hM : M.1.cls = RX11) {x1 : Value} {a : Nat} (hs : shp a = .inl 7) (ha : a < hn h) (hcat : catS st ≤ 8) (hd : decode M.2.1 pc = .ok (.invokevirtual 102, 3)) (hk : Kc mX7_readText d (.ref a :: [x1]) h Qk) (kk : ∀ (r1 : Option Value) (h1 : Hp), Qk r1 h1 → V M (d + 1) (pc + 3) la (r1.toList ++ st) h1 Q) : V M (d + 1) pc la (x1 :: .ref a :: st) h Q := v_callV (N := mX7_readText) (n := 1) [x1] rfl ok_X7_readText (hM ▸ lk_X11_102) im_X7_readText se_X7_readText (by decide +kernel) rfl okC_7.1 hs ha hcat hd hk kk
set_option maxRecDepth 100000 in
theorem lk_X7_73 : lnk RX7 73 yX7_clear := Or.inl (gw_T3 15 rfl rfl)
set_option maxRecDepth 100000 in
theorem c_X7_73 {Qk : Option Value → Hp → Prop} (hM : M.1.cls = RX7) {a : Nat} (hs : shp a = .inl 7) (ha : a < hn h) (hcat : catS st ≤ 8) (hd : decode M.2.1 pc = .ok (.invokevirtual 73, 3)) (hk : Kc mX7_clear d (.ref a :: []) h Qk) (kk : ∀ (r1 : Option Value) (h1 : Hp), Qk r1 h1 → V M (d + 1) (pc + 3) la (r1.toList ++ st) h1 Q) : V M (d + 1) pc la (.ref a :: st) h Q := v_callV (N := mX7_clear) (n := 0) [] rfl ok_X7_clear (hM ▸ lk_X7_73) im_X7_clear se_X7_clear (by decide +kernel) rfl okC_7.1 hs ha hcat hd hk kk
set_option maxRecDepth 100000 in
theorem lk_X7_94 : lnk RX7 94 yX0_clear := Or.inl (gw_T3 19 rfl rfl)
set_option maxRecDepth 100000 in
theorem c_X7_94 {Qk : Option Value → Hp → Prop} (hM : M.1.cls = RX7) {a : Nat} (hs : shp a = .inl 0) (ha : a < hn h) (hcat : catS st ≤ 8) (hd : decode M.2.1 pc = .ok (.invokevirtual 94, 3)) (hk : Kc mX0_clear d (.ref a :: []) h Qk) (kk : ∀ (r1 : Option Value) (h1 : Hp), Qk r1 h1 → V M (d + 1) (pc + 3) la (r1.toList ++ st) h1 Q) : V M (d + 1) pc la (.ref a :: st) h Q := v_callV (N := mX0_clear) (n := 0) [] rfl ok_X0_clear (hM ▸ lk_X7_94) im_X0_clear se_X0_clear (by decide +kernel) rfl okC_0.1 hs ha hcat hd hk kk
set_option maxRecDepth 100000 in
theorem lk_X7_95 : lnk RX7 95 yX8_clear := Or.inl (gw_T3 20 rfl rfl)
set_option maxRecDepth 100000 in
theorem c_X7_95 {Qk : Option Value → Hp → Prop} (hM : M.1.cls = RX7) {a : Nat} (hs : shp a = .inl 8) (ha : a < hn h) (hcat : catS st ≤ 8) (hd : decode M.2.1 pc = .ok (.invokevirtual 95, 3)) (hk : Kc mX8_clear d (.ref a :: []) h Qk) (kk : ∀ (r1 : Option Value) (h1 : Hp), Qk r1 h1 → V M (d + 1) (pc + 3) la (r1.toList ++ st) h1 Q) : V M (d + 1) pc la (.ref a :: st) h Q := v_callV (N := mX8_clear) (n := 0) [] rfl ok_X8_clear (hM ▸ lk_X7_95) im_X8_clear se_X8_clear (by decide +kernel) rfl okC_8.1 hs ha hcat hd hk kk
set_option maxRecDepth 100000 in
theorem lk_X8_35 : lnk RX8 35 yJ7_fill_53178 := Or.inl (gw_T3 24 rfl rfl)
set_option maxRecDepth 100000 in
theorem c_X8_35 {Qk : Option Value → Hp → Prop} (hM : M.1.cls = RX8) {x1 x2 : Value} (hcat : catS st ≤ 8) (hd : decode M.2.1 pc = .ok (.invokestatic 35, 3)) (hk : Kc mJ7_fill_53178 d [x1, x2] h Qk) (kk : ∀ (r1 : Option Value) (h1 : Hp), Qk r1 h1 → V M (d + 1) (pc + 3) la (r1.toList ++ st) h1 Q) : V M (d + 1) pc la (x2 :: x1 :: st) h Q := v_callS (N := mJ7_fill_53178) (n := 2) [x1, x2] rfl ok_J7_fill_53178 (hM ▸ lk_X8_35) sm_J7_fill_53178 (by decide +kernel) rfl hcat hd hk kk
set_option maxRecDepth 100000 in
theorem lk_X7_96 : lnk RX7 96 yJ7_fill_53178 := Or.inl (gw_T3 27 rfl rfl)
set_option maxRecDepth 100000 in
theorem c_X7_96 {Qk : Option Value → Hp → Prop} (hM : M.1.cls = RX7) {x1 x2 : Value} (hcat : catS st ≤ 8) (hd : decode M.2.1 pc = .ok (.invokestatic 96, 3)) (hk : Kc mJ7_fill_53178 d [x1, x2] h Qk) (kk : ∀ (r1 : Option Value) (h1 : Hp), Qk r1 h1 → V M (d + 1) (pc + 3) la (r1.toList ++ st) h1 Q) : V M (d + 1) pc la (x2 :: x1 :: st) h Q := v_callS (N := mJ7_fill_53178) (n := 2) [x1, x2] rfl ok_J7_fill_53178 (hM ▸ lk_X7_96) sm_J7_fill_53178 (by decide +kernel) rfl hcat hd hk kk
set_option maxRecDepth 100000 in
theorem lk_X7_76 : lnk RX7 76 yX9_scan := Or.inl (gw_T3 28 rfl rfl)
set_option maxRecDepth 100000 in
theorem c_X7_76 {Qk : Option Value → Hp → Prop} (hM : M.1.cls = RX7) {x1 : Value} {a : Nat} (hs : shp a = .inl 9) (ha : a < hn h) (hcat : catS st ≤ 8) (hd : decode M.2.1 pc = .ok (.invokevirtual 76, 3)) (hk : Kc mX9_scan d (.ref a :: [x1]) h Qk) (kk : ∀ (r1 : Option Value) (h1 : Hp), Qk r1 h1 → V M (d + 1) (pc + 3) la (r1.toList ++ st) h1 Q) : V M (d + 1) pc la (x1 :: .ref a :: st) h Q := v_callV (N := mX9_scan) (n := 1) [x1] rfl ok_X9_scan (hM ▸ lk_X7_76) im_X9_scan se_X9_scan (by decide +kernel) rfl okC_9.1 hs ha hcat hd hk kk
set_option maxRecDepth 100000 in
theorem ml_X9_53 : Cond.methodLink RX9 53 yJ9_min_7cf53 ∈ gw := gw_T3 32 rfl rfl
set_option maxRecDepth 100000 in
theorem ml_X9_59 : Cond.methodLink RX9 59 yJ9_max_7cf53 ∈ gw := gw_T3 35 rfl rfl
set_option maxRecDepth 100000 in
theorem lk_X9_62 : lnk RX9 62 yX9_behindBlanks := Or.inl (gw_T3 38 rfl rfl)
set_option maxRecDepth 100000 in
theorem c_X9_62 {Qk : Option Value → Hp → Prop} (hM : M.1.cls = RX9) {x1 : Value} {a : Nat} (hs : shp a = .inl 9) (ha : a < hn h) (hcat : catS st ≤ 8) (hd : decode M.2.1 pc = .ok (.invokevirtual 62, 3)) (hk : Kc mX9_behindBlanks d (.ref a :: [x1]) h Qk) (kk : ∀ (r1 : Option Value) (h1 : Hp), Qk r1 h1 → V M (d + 1) (pc + 3) la (r1.toList ++ st) h1 Q) : V M (d + 1) pc la (x1 :: .ref a :: st) h Q := v_callV (N := mX9_behindBlanks) (n := 1) [x1] rfl ok_X9_behindBlanks (hM ▸ lk_X9_62) im_X9_behindBlanks se_X9_behindBlanks (by decide +kernel) rfl okC_9.1 hs ha hcat hd hk kk
set_option maxRecDepth 100000 in
theorem lk_X9_69 : lnk RX9 69 yX9_signAt := Or.inl (gw_T3 42 rfl rfl)
set_option maxRecDepth 100000 in
theorem c_X9_69 {Qk : Option Value → Hp → Prop} (hM : M.1.cls = RX9) {x1 : Value} {a : Nat} (hs : shp a = .inl 9) (ha : a < hn h) (hcat : catS st ≤ 8) (hd : decode M.2.1 pc = .ok (.invokevirtual 69, 3)) (hk : Kc mX9_signAt d (.ref a :: [x1]) h Qk) (kk : ∀ (r1 : Option Value) (h1 : Hp), Qk r1 h1 → V M (d + 1) (pc + 3) la (r1.toList ++ st) h1 Q) : V M (d + 1) pc la (x1 :: .ref a :: st) h Q := v_callV (N := mX9_signAt) (n := 1) [x1] rfl ok_X9_signAt (hM ▸ lk_X9_69) im_X9_signAt se_X9_signAt (by decide +kernel) rfl okC_9.1 hs ha hcat hd hk kk
set_option maxRecDepth 100000 in
theorem lk_X9_99 : lnk RX9 99 yX9_isBlank := Or.inl (gw_T3 46 rfl rfl)
set_option maxRecDepth 100000 in
theorem c_X9_99 {Qk : Option Value → Hp → Prop} (hM : M.1.cls = RX9) {x1 : Value} (hcat : catS st ≤ 8) (hd : decode M.2.1 pc = .ok (.invokestatic 99, 3)) (hk : Kc mX9_isBlank d [x1] h Qk) (kk : ∀ (r1 : Option Value) (h1 : Hp), Qk r1 h1 → V M (d + 1) (pc + 3) la (r1.toList ++ st) h1 Q) : V M (d + 1) pc la (x1 :: st) h Q := v_callS (N := mX9_isBlank) (n := 1) [x1] rfl ok_X9_isBlank (hM ▸ lk_X9_99) sm_X9_isBlank (by decide +kernel) rfl hcat hd hk kk
set_option maxRecDepth 100000 in
theorem lk_X9_66 : lnk RX9 66 yX9_keep := Or.inl (gw_T3 49 rfl rfl)
set_option maxRecDepth 100000 in
theorem c_X9_66 {Qk : Option Value → Hp → Prop} (hM : M.1.cls = RX9) {x1 : Value} {a : Nat} (hs : shp a = .inl 9) (ha : a < hn h) (hcat : catS st ≤ 8) (hd : decode M.2.1 pc = .ok (.invokevirtual 66, 3)) (hk : Kc mX9_keep d (.ref a :: [x1]) h Qk) (kk : ∀ (r1 : Option Value) (h1 : Hp), Qk r1 h1 → V M (d + 1) (pc + 3) la (r1.toList ++ st) h1 Q) : V M (d + 1) pc la (x1 :: .ref a :: st) h Q := v_callV (N := mX9_keep) (n := 1) [x1] rfl ok_X9_keep (hM ▸ lk_X9_66) im_X9_keep se_X9_keep (by decide +kernel) rfl okC_9.1 hs ha hcat hd hk kk
set_option maxRecDepth 100000 in
theorem lk_X9_72 : lnk RX9 72 yX9_isLetter := Or.inl (gw_T3 53 rfl rfl)
set_option maxRecDepth 100000 in
theorem c_X9_72 {Qk : Option Value → Hp → Prop} (hM : M.1.cls = RX9) {x1 : Value} (hcat : catS st ≤ 8) (hd : decode M.2.1 pc = .ok (.invokestatic 72, 3)) (hk : Kc mX9_isLetter d [x1] h Qk) (kk : ∀ (r1 : Option Value) (h1 : Hp), Qk r1 h1 → V M (d + 1) (pc + 3) la (r1.toList ++ st) h1 Q) : V M (d + 1) pc la (x1 :: st) h Q := v_callS (N := mX9_isLetter) (n := 1) [x1] rfl ok_X9_isLetter (hM ▸ lk_X9_72) sm_X9_isLetter (by decide +kernel) rfl hcat hd hk kk
set_option maxRecDepth 100000 in
theorem lk_X9_76 : lnk RX9 76 yX9_behindLetters := Or.inl (gw_T3 56 rfl rfl)
set_option maxRecDepth 100000 in
theorem c_X9_76 {Qk : Option Value → Hp → Prop} (hM : M.1.cls = RX9) {x1 : Value} {a : Nat} (hs : shp a = .inl 9) (ha : a < hn h) (hcat : catS st ≤ 8) (hd : decode M.2.1 pc = .ok (.invokevirtual 76, 3)) (hk : Kc mX9_behindLetters d (.ref a :: [x1]) h Qk) (kk : ∀ (r1 : Option Value) (h1 : Hp), Qk r1 h1 → V M (d + 1) (pc + 3) la (r1.toList ++ st) h1 Q) : V M (d + 1) pc la (x1 :: .ref a :: st) h Q := v_callV (N := mX9_behindLetters) (n := 1) [x1] rfl ok_X9_behindLetters (hM ▸ lk_X9_76) im_X9_behindLetters se_X9_behindLetters (by decide +kernel) rfl okC_9.1 hs ha hcat hd hk kk
set_option maxRecDepth 100000 in
theorem lk_X9_79 : lnk RX9 79 yX9_lettersOf := Or.inl (gw_T3 60 rfl rfl)
set_option maxRecDepth 100000 in
theorem c_X9_79 {Qk : Option Value → Hp → Prop} (hM : M.1.cls = RX9) {x1 x2 : Value} {a : Nat} (hs : shp a = .inl 9) (ha : a < hn h) (hcat : catS st ≤ 8) (hd : decode M.2.1 pc = .ok (.invokevirtual 79, 3)) (hk : Kc mX9_lettersOf d (.ref a :: [x1, x2]) h Qk) (kk : ∀ (r1 : Option Value) (h1 : Hp), Qk r1 h1 → V M (d + 1) (pc + 3) la (r1.toList ++ st) h1 Q) : V M (d + 1) pc la (x2 :: x1 :: .ref a :: st) h Q := v_callV (N := mX9_lettersOf) (n := 2) [x1, x2] rfl ok_X9_lettersOf (hM ▸ lk_X9_79) im_X9_lettersOf se_X9_lettersOf (by decide +kernel) rfl okC_9.1 hs ha hcat hd hk kk
set_option maxRecDepth 100000 in
theorem lk_X9_83 : lnk RX9 83 yX9_kindOfLetters := Or.inl (gw_T3 64 rfl rfl)
set_option maxRecDepth 100000 in
theorem c_X9_83 {Qk : Option Value → Hp → Prop} (hM : M.1.cls = RX9) {x1 : Value} {a : Nat} (hs : shp a = .inl 9) (ha : a < hn h) (hcat : catS st ≤ 8) (hd : decode M.2.1 pc = .ok (.invokevirtual 83, 3)) (hk : Kc mX9_kindOfLetters d (.ref a :: [x1]) h Qk) (kk : ∀ (r1 : Option Value) (h1 : Hp), Qk r1 h1 → V M (d + 1) (pc + 3) la (r1.toList ++ st) h1 Q) : V M (d + 1) pc la (x1 :: .ref a :: st) h Q := v_callV (N := mX9_kindOfLetters) (n := 1) [x1] rfl ok_X9_kindOfLetters (hM ▸ lk_X9_83) im_X9_kindOfLetters se_X9_kindOfLetters (by decide +kernel) rfl okC_9.1 hs ha hcat hd hk kk
set_option maxRecDepth 100000 in
theorem lk_X9_87 : lnk RX9 87 yX9_isDigit := Or.inl (gw_T3 68 rfl rfl)
set_option maxRecDepth 100000 in
theorem c_X9_87 {Qk : Option Value → Hp → Prop} (hM : M.1.cls = RX9) {x1 : Value} (hcat : catS st ≤ 8) (hd : decode M.2.1 pc = .ok (.invokestatic 87, 3)) (hk : Kc mX9_isDigit d [x1] h Qk) (kk : ∀ (r1 : Option Value) (h1 : Hp), Qk r1 h1 → V M (d + 1) (pc + 3) la (r1.toList ++ st) h1 Q) : V M (d + 1) pc la (x1 :: st) h Q := v_callS (N := mX9_isDigit) (n := 1) [x1] rfl ok_X9_isDigit (hM ▸ lk_X9_87) sm_X9_isDigit (by decide +kernel) rfl hcat hd hk kk
set_option maxRecDepth 100000 in
theorem lk_X9_90 : lnk RX9 90 yX9_behindDigits := Or.inl (gw_T3 71 rfl rfl)
set_option maxRecDepth 100000 in
theorem c_X9_90 {Qk : Option Value → Hp → Prop} (hM : M.1.cls = RX9) {x1 : Value} {a : Nat} (hs : shp a = .inl 9) (ha : a < hn h) (hcat : catS st ≤ 8) (hd : decode M.2.1 pc = .ok (.invokevirtual 90, 3)) (hk : Kc mX9_behindDigits d (.ref a :: [x1]) h Qk) (kk : ∀ (r1 : Option Value) (h1 : Hp), Qk r1 h1 → V M (d + 1) (pc + 3) la (r1.toList ++ st) h1 Q) : V M (d + 1) pc la (x1 :: .ref a :: st) h Q := v_callV (N := mX9_behindDigits) (n := 1) [x1] rfl ok_X9_behindDigits (hM ▸ lk_X9_90) im_X9_behindDigits se_X9_behindDigits (by decide +kernel) rfl okC_9.1 hs ha hcat hd hk kk
set_option maxRecDepth 100000 in
theorem lk_X9_93 : lnk RX9 93 yX9_numberOf := Or.inl (gw_T3 75 rfl rfl)
set_option maxRecDepth 100000 in
theorem c_X9_93 {Qk : Option Value → Hp → Prop} (hM : M.1.cls = RX9) {x1 x2 : Value} {a : Nat} (hs : shp a = .inl 9) (ha : a < hn h) (hcat : catS st ≤ 8) (hd : decode M.2.1 pc = .ok (.invokevirtual 93, 3)) (hk : Kc mX9_numberOf d (.ref a :: [x1, x2]) h Qk) (kk : ∀ (r1 : Option Value) (h1 : Hp), Qk r1 h1 → V M (d + 1) (pc + 3) la (r1.toList ++ st) h1 Q) : V M (d + 1) pc la (x2 :: x1 :: .ref a :: st) h Q := v_callV (N := mX9_numberOf) (n := 2) [x1, x2] rfl ok_X9_numberOf (hM ▸ lk_X9_93) im_X9_numberOf se_X9_numberOf (by decide +kernel) rfl okC_9.1 hs ha hcat hd hk kk
set_option maxRecDepth 100000 in
theorem lk_X9_96 : lnk RX9 96 yX9_isSign := Or.inl (gw_T3 79 rfl rfl)
set_option maxRecDepth 100000 in
theorem c_X9_96 {Qk : Option Value → Hp → Prop} (hM : M.1.cls = RX9) {x1 : Value} (hcat : catS st ≤ 8) (hd : decode M.2.1 pc = .ok (.invokestatic 96, 3)) (hk : Kc mX9_isSign d [x1] h Qk) (kk : ∀ (r1 : Option Value) (h1 : Hp), Qk r1 h1 → V M (d + 1) (pc + 3) la (r1.toList ++ st) h1 Q) : V M (d + 1) pc la (x1 :: st) h Q := v_callS (N := mX9_isSign) (n := 1) [x1] rfl ok_X9_isSign (hM ▸ lk_X9_96) sm_X9_isSign (by decide +kernel) rfl hcat hd hk kk
set_option maxRecDepth 100000 in
theorem lk_X7_80 : lnk RX7 80 yX7_kind := Or.inl (gw_T3 82 rfl rfl)
set_option maxRecDepth 100000 in
theorem c_X7_80 {Qk : Option Value → Hp → Prop} (hM : M.1.cls = RX7) {a : Nat} (hs : shp a = .inl 7) (ha : a < hn h) (hcat : catS st ≤ 8) (hd : decode M.2.1 pc = .ok (.invokevirtual 80, 3)) (hk : Kc mX7_kind d (.ref a :: []) h Qk) (kk : ∀ (r1 : Option Value) (h1 : Hp), Qk r1 h1 → V M (d + 1) (pc + 3) la (r1.toList ++ st) h1 Q) : V M (d + 1) pc la (.ref a :: st) h Q := v_callV (N := mX7_kind) (n := 0) [] rfl ok_X7_kind (hM ▸ lk_X7_80) im_X7_kind se_X7_kind (by decide +kernel) rfl okC_7.1 hs ha hcat hd hk kk
set_option maxRecDepth 100000 in
theorem lk_X7_102 : lnk RX7 102 yX9_kindOf := Or.inl (gw_T3 86 rfl rfl)
set_option maxRecDepth 100000 in
theorem c_X7_102 {Qk : Option Value → Hp → Prop} (hM : M.1.cls = RX7) {x1 : Value} {a : Nat} (hs : shp a = .inl 9) (ha : a < hn h) (hcat : catS st ≤ 8) (hd : decode M.2.1 pc = .ok (.invokevirtual 102, 3)) (hk : Kc mX9_kindOf d (.ref a :: [x1]) h Qk) (kk : ∀ (r1 : Option Value) (h1 : Hp), Qk r1 h1 → V M (d + 1) (pc + 3) la (r1.toList ++ st) h1 Q) : V M (d + 1) pc la (x1 :: .ref a :: st) h Q := v_callV (N := mX9_kindOf) (n := 1) [x1] rfl ok_X9_kindOf (hM ▸ lk_X7_102) im_X9_kindOf se_X9_kindOf (by decide +kernel) rfl okC_9.1 hs ha hcat hd hk kk
set_option maxRecDepth 100000 in
theorem lk_X7_84 : lnk RX7 84 yX7_readTell := Or.inl (gw_T3 90 rfl rfl)
set_option maxRecDepth 100000 in
theorem c_X7_84 {Qk : Option Value → Hp → Prop} (hM : M.1.cls = RX7) {x1 : Value} {a : Nat} (hs : shp a = .inl 7) (ha : a < hn h) (hcat : catS st ≤ 8) (hd : decode M.2.1 pc = .ok (.invokevirtual 84, 3)) (hk : Kc mX7_readTell d (.ref a :: [x1]) h Qk) (kk : ∀ (r1 : Option Value) (h1 : Hp), Qk r1 h1 → V M (d + 1) (pc + 3) la (r1.toList ++ st) h1 Q) : V M (d + 1) pc la (x1 :: .ref a :: st) h Q := v_callV (N := mX7_readTell) (n := 1) [x1] rfl ok_X7_readTell (hM ▸ lk_X7_84) im_X7_readTell se_X7_readTell (by decide +kernel) rfl okC_7.1 hs ha hcat hd hk kk
set_option maxRecDepth 100000 in
theorem lk_X7_108 : lnk RX7 108 yX7_readLawn := Or.inl (gw_T3 94 rfl rfl)
set_option maxRecDepth 100000 in
theorem c_X7_108 {Qk : Option Value → Hp → Prop} (hM : M.1.cls = RX7) {a : Nat} (hs : shp a = .inl 7) (ha : a < hn h) (hcat : catS st ≤ 8) (hd : decode M.2.1 pc = .ok (.invokevirtual 108, 3)) (hk : Kc mX7_readLawn d (.ref a :: []) h Qk) (kk : ∀ (r1 : Option Value) (h1 : Hp), Qk r1 h1 → V M (d + 1) (pc + 3) la (r1.toList ++ st) h1 Q) : V M (d + 1) pc la (.ref a :: st) h Q := v_callV (N := mX7_readLawn) (n := 0) [] rfl ok_X7_readLawn (hM ▸ lk_X7_108) im_X7_readLawn se_X7_readLawn (by decide +kernel) rfl okC_7.1 hs ha hcat hd hk kk
set_option maxRecDepth 100000 in
theorem lk_X7_120 : lnk RX7 120 yX7_take := Or.inl (gw_T3 98 rfl rfl)
set_option maxRecDepth 100000 in
theorem c_X7_120 {Qk : Option Value → Hp → Prop} (hM : M.1.cls = RX7) {x1 : Value} {a : Nat} (hs : shp a = .inl 7) (ha : a < hn h) (hcat : catS st ≤ 8) (hd : decode M.2.1 pc = .ok (.invokevirtual 120, 3)) (hk : Kc mX7_take d (.ref a :: [x1]) h Qk) (kk : ∀ (r1 : Option Value) (h1 : Hp), Qk r1 h1 → V M (d + 1) (pc + 3) la (r1.toList ++ st) h1 Q) : V M (d + 1) pc la (x1 :: .ref a :: st) h Q := v_callV (N := mX7_take) (n := 1) [x1] rfl ok_X7_take (hM ▸ lk_X7_120) im_X7_take se_X7_take (by decide +kernel) rfl okC_7.1 hs ha hcat hd hk kk
set_option maxRecDepth 100000 in
theorem lk_X7_105 : lnk RX7 105 yX7_stop := Or.inl (gw_T3 102 rfl rfl)
set_option maxRecDepth 100000 in
theorem c_X7_105 {Qk : Option Value → Hp → Prop} (hM : M.1.cls = RX7) {x1 : Value} {a : Nat} (hs : shp a = .inl 7) (ha : a < hn h) (hcat : catS st ≤ 8) (hd : decode M.2.1 pc = .ok (.invokevirtual 105, 3)) (hk : Kc mX7_stop d (.ref a :: [x1]) h Qk) (kk : ∀ (r1 : Option Value) (h1 : Hp), Qk r1 h1 → V M (d + 1) (pc + 3) la (r1.toList ++ st) h1 Q) : V M (d + 1) pc la (x1 :: .ref a :: st) h Q := v_callV (N := mX7_stop) (n := 1) [x1] rfl ok_X7_stop (hM ▸ lk_X7_105) im_X7_stop se_X7_stop (by decide +kernel) rfl okC_7.1 hs ha hcat hd hk kk
set_option maxRecDepth 100000 in
theorem lk_X7_124 : lnk RX7 124 yX7_takeNumber := Or.inl (gw_T3 106 rfl rfl)
set_option maxRecDepth 100000 in
theorem c_X7_124 {Qk : Option Value → Hp → Prop} (hM : M.1.cls = RX7) {x1 x2 : Value} {a : Nat} (hs : shp a = .inl 7) (ha : a < hn h) (hcat : catS st ≤ 8) (hd : decode M.2.1 pc = .ok (.invokevirtual 124, 3)) (hk : Kc mX7_takeNumber d (.ref a :: [x1, x2]) h Qk) (kk : ∀ (r1 : Option Value) (h1 : Hp), Qk r1 h1 → V M (d + 1) (pc + 3) la (r1.toList ++ st) h1 Q) : V M (d + 1) pc la (x2 :: x1 :: .ref a :: st) h Q := v_callV (N := mX7_takeNumber) (n := 2) [x1, x2] rfl ok_X7_takeNumber (hM ▸ lk_X7_124) im_X7_takeNumber se_X7_takeNumber (by decide +kernel) rfl okC_7.1 hs ha hcat hd hk kk
set_option maxRecDepth 100000 in
theorem lk_X7_137 : lnk RX7 137 yX9_valueOf := Or.inl (gw_T3 110 rfl rfl)
set_option maxRecDepth 100000 in
theorem c_X7_137 {Qk : Option Value → Hp → Prop} (hM : M.1.cls = RX7) {x1 : Value} {a : Nat} (hs : shp a = .inl 9) (ha : a < hn h) (hcat : catS st ≤ 8) (hd : decode M.2.1 pc = .ok (.invokevirtual 137, 3)) (hk : Kc mX9_valueOf d (.ref a :: [x1]) h Qk) (kk : ∀ (r1 : Option Value) (h1 : Hp), Qk r1 h1 → V M (d + 1) (pc + 3) la (r1.toList ++ st) h1 Q) : V M (d + 1) pc la (x1 :: .ref a :: st) h Q := v_callV (N := mX9_valueOf) (n := 1) [x1] rfl ok_X9_valueOf (hM ▸ lk_X7_137) im_X9_valueOf se_X9_valueOf (by decide +kernel) rfl okC_9.1 hs ha hcat hd hk kk
set_option maxRecDepth 100000 in
theorem lk_X7_87 : lnk RX7 87 yX9_placeOf := Or.inl (gw_T3 114 rfl rfl)
set_option maxRecDepth 100000 in
theorem c_X7_87 {Qk : Option Value → Hp → Prop} (hM : M.1.cls = RX7) {x1 : Value} {a : Nat} (hs : shp a = .inl 9) (ha : a < hn h) (hcat : catS st ≤ 8) (hd : decode M.2.1 pc = .ok (.invokevirtual 87, 3)) (hk : Kc mX9_placeOf d (.ref a :: [x1]) h Qk) (kk : ∀ (r1 : Option Value) (h1 : Hp), Qk r1 h1 → V M (d + 1) (pc + 3) la (r1.toList ++ st) h1 Q) : V M (d + 1) pc la (x1 :: .ref a :: st) h Q := v_callV (N := mX9_placeOf) (n := 1) [x1] rfl ok_X9_placeOf (hM ▸ lk_X7_87) im_X9_placeOf se_X9_placeOf (by decide +kernel) rfl okC_9.1 hs ha hcat hd hk kk
set_option maxRecDepth 100000 in
theorem lk_X7_141 : lnk RX7 141 yX7_blame := Or.inl (gw_T3 118 rfl rfl)
set_option maxRecDepth 100000 in
theorem c_X7_141 {Qk : Option Value → Hp → Prop} (hM : M.1.cls = RX7) {x1 x2 : Value} {a : Nat} (hs : shp a = .inl 7) (ha : a < hn h) (hcat : catS st ≤ 8) (hd : decode M.2.1 pc = .ok (.invokevirtual 141, 3)) (hk : Kc mX7_blame d (.ref a :: [x1, x2]) h Qk) (kk : ∀ (r1 : Option Value) (h1 : Hp), Qk r1 h1 → V M (d + 1) (pc + 3) la (r1.toList ++ st) h1 Q) : V M (d + 1) pc la (x2 :: x1 :: .ref a :: st) h Q := v_callV (N := mX7_blame) (n := 2) [x1, x2] rfl ok_X7_blame (hM ▸ lk_X7_141) im_X7_blame se_X7_blame (by decide +kernel) rfl okC_7.1 hs ha hcat hd hk kk
set_option maxRecDepth 100000 in
theorem ml_X7_145 : Cond.methodLink RX7 145 yJ9_min_7cf53 ∈ gw := gw_T3 122 rfl rfl
end FW
