/-! READING: TOKENS -/
def jC (h0 h : Hp) : Prop := (∀ a k, a ≠ 229 → a ≠ 230 → a ≠ 231 → ¬ (a = 226 ∧ k = 10) → hi h a k = hi h0 a k) ∧ (∀ a k, a ≠ 232 → hl h a k = hl h0 a k) ∧ (∀ k, 0 ≤ (hi h 229 k).toInt)
section JC
variable {h0 h h1 : Hp}
theorem szR (s0 : 0 ≤ (hi h0 226 4).toInt ∧ (hi h0 226 4).toInt ≤ 2000) (j : jC h0 h) : (hi h 226 4).toInt = (hi h0 226 4).toInt ∧ 0 ≤ (hi h0 226 4).toInt ∧ (hi h0 226 4).toInt ≤ 2000 := by
  rw [j.1 226 4 (by decide) (by decide) (by decide) (by decide)]
  exact ⟨rfl, s0⟩
theorem JC29 {k : Nat} {v : Int32} (e : wrI h 229 k v = h1) (j : jC h0 h) (r : 0 ≤ v.toInt) : jC h0 h1 := by
  subst e
  refine ⟨fun a z n1 n2 n3 n4 => ?_, fun a z n => j.2.1 a z n, fun z => ?_⟩
  · rw [hi_wrI, if_neg (fun w => n1 w.1)]
    exact j.1 a z n1 n2 n3 n4
  · rw [hi_wrI]
    by_cases q : (229 : Nat) = 229 ∧ z = k
    · rw [if_pos q]; exact r
    · rw [if_neg q]; exact j.2.2 z
theorem JCw {a0 k : Nat} {v : Int32} (e : wrI h a0 k v = h1) (j : jC h0 h) (r : a0 = 230 ∨ a0 = 231) : jC h0 h1 := by
  subst e
  refine ⟨fun a z n1 n2 n3 n4 => ?_, fun a z n => j.2.1 a z n, fun z => ?_⟩
  · rw [hi_wrI, if_neg (by omega)]
    exact j.1 a z n1 n2 n3 n4
  · rw [hi_wrI, if_neg (by omega)]
    exact j.2.2 z
theorem JC10 {v : Int32} (e : wrI h 226 10 v = h1) (j : jC h0 h) : jC h0 h1 := by
  subst e
  refine ⟨fun a z n1 n2 n3 n4 => ?_, fun a z n => j.2.1 a z n, fun z => ?_⟩
  · rw [hi_wrI, if_neg n4]
    exact j.1 a z n1 n2 n3 n4
  · rw [hi_wrI, if_neg (by omega)]
    exact j.2.2 z
theorem JCl {k : Nat} {v : Int64} (e : wrL h 232 k v = h1) (j : jC h0 h) : jC h0 h1 := by
  subst e
  refine ⟨fun a z n1 n2 n3 n4 => j.1 a z n1 n2 n3 n4, fun a z n => ?_, fun z => j.2.2 z⟩
  show up2 (hl h) 232 k v a z = _
  unfold up2
  rw [if_neg (fun w => n w.1)]
  exact j.2.1 a z n
end JC
theorem lit_255 : (255 : Int32).toInt = 255 := by decide
set_option maxRecDepth 100000 in
set_option maxHeartbeats 4000000 in
theorem sf_X12_byteAt {h0 : Hp} (s0 : 0 ≤ (hi h0 226 4).toInt ∧ (hi h0 226 4).toInt ≤ 2000) (n : Nat) (h : Hp) (x1 : Int32) (hn : 1 ≤ n) (j : jC h0 h) (p0 : 0 ≤ x1.toInt) : Ok (F_X12_byteAt n h x1) (fun q => q.2 = h ∧ (0 ≤ q.1.toInt ∧ q.1.toInt ≤ 255 ∧ ((hi h 226 4).toInt ≤ x1.toInt → q.1.toInt = 0))) := by
  unfold F_X12_byteAt
  have f1 := szR s0 j
  have f2 := rgT (hi h 226 4)
  have f3 := rgT (x1)
  refine Ok.le (fun c4 => ?_) (fun c4 => ?_)
  · have f5 := lit_0
    refine Ok.ret ⟨rfl, ?_⟩
    show (0 ≤ ((0) : Int32).toInt ∧ ((0) : Int32).toInt ≤ 255 ∧ ((hi h 226 4).toInt ≤ x1.toInt → ((0) : Int32).toInt = 0))
    omega
  · refine Ok.chk (ixT (by omega) (by omega)) (fun c6 => ?_)
    have f7 := and_rg ((vp_nar .byte (hi h 228 (Int32.toNatClampNeg x1))) : Int32) (255 : Int32) 255 lit_255 (by decide)
    refine Ok.ret ⟨rfl, ?_⟩
    show (0 ≤ ((((vp_nar .byte (hi h 228 (Int32.toNatClampNeg x1))) : Int32) &&& (255 : Int32)) : Int32).toInt ∧ ((((vp_nar .byte (hi h 228 (Int32.toNatClampNeg x1))) : Int32) &&& (255 : Int32)) : Int32).toInt ≤ 255 ∧ ((hi h 226 4).toInt ≤ x1.toInt → ((((vp_nar .byte (hi h 228 (Int32.toNatClampNeg x1))) : Int32) &&& (255 : Int32)) : Int32).toInt = 0))
    omega
set_option maxRecDepth 100000 in
set_option maxHeartbeats 4000000 in
theorem sf_X12_isLetter {h0 : Hp} (s0 : 0 ≤ (hi h0 226 4).toInt ∧ (hi h0 226 4).toInt ≤ 2000) (n : Nat) (h : Hp) (x1 : Int32) (hn : 1 ≤ n) (j : jC h0 h) : Ok (F_X12_isLetter n h x1) (fun q => q.2 = h ∧ (q.1.toInt ≠ 0 → 97 ≤ x1.toInt)) := by
  unfold F_X12_isLetter
  have f1 := rgT (x1)
  have f2 := lit_97
  refine Ok.lt (fun c3 => ?_) (fun c3 => ?_)
  · have f4 := lit_0
    refine Ok.ret ⟨rfl, ?_⟩
    show (((0) : Int32).toInt ≠ 0 → 97 ≤ x1.toInt)
    omega
  · have f5 := lit_122
    refine Ok.lt (fun c6 => ?_) (fun c6 => ?_)
    · have f7 := lit_0
      refine Ok.ret ⟨rfl, ?_⟩
      show (((0) : Int32).toInt ≠ 0 → 97 ≤ x1.toInt)
      omega
    · have f8 := lit_1
      refine Ok.ret ⟨rfl, ?_⟩
      show (((1) : Int32).toInt ≠ 0 → 97 ≤ x1.toInt)
      omega
set_option maxRecDepth 100000 in
set_option maxHeartbeats 4000000 in
theorem sf_X12_isDigit {h0 : Hp} (s0 : 0 ≤ (hi h0 226 4).toInt ∧ (hi h0 226 4).toInt ≤ 2000) (n : Nat) (h : Hp) (x1 : Int32) (hn : 1 ≤ n) (j : jC h0 h) : Ok (F_X12_isDigit n h x1) (fun q => q.2 = h ∧ (q.1.toInt ≠ 0 → 48 ≤ x1.toInt)) := by
  unfold F_X12_isDigit
  have f1 := rgT (x1)
  have f2 := lit_48
  refine Ok.lt (fun c3 => ?_) (fun c3 => ?_)
  · have f4 := lit_0
    refine Ok.ret ⟨rfl, ?_⟩
    show (((0) : Int32).toInt ≠ 0 → 48 ≤ x1.toInt)
    omega
  · have f5 := lit_57
    refine Ok.lt (fun c6 => ?_) (fun c6 => ?_)
    · have f7 := lit_0
      refine Ok.ret ⟨rfl, ?_⟩
      show (((0) : Int32).toInt ≠ 0 → 48 ≤ x1.toInt)
      omega
    · have f8 := lit_1
      refine Ok.ret ⟨rfl, ?_⟩
      show (((1) : Int32).toInt ≠ 0 → 48 ≤ x1.toInt)
      omega
set_option maxRecDepth 100000 in
set_option maxHeartbeats 4000000 in
theorem sf_X12_token {h0 : Hp} (s0 : 0 ≤ (hi h0 226 4).toInt ∧ (hi h0 226 4).toInt ≤ 2000) (n : Nat) (h : Hp) (x1 : Int32) (x2 : Int32) (x3 : Int32) (x4 : Int64) (hn : 1 ≤ n) (j : jC h0 h) (p0 : 0 ≤ (hi h 226 10).toInt) (p1 : (hi h 226 10).toInt ≤ 401) (p2 : 0 ≤ x1.toInt) : Ok (F_X12_token n h x1 x2 x3 x4) (fun q => jC h0 q ∧ (hi q 226 10).toInt = (hi h 226 10).toInt + 1) := by
  unfold F_X12_token
  have f1 := rgT (hi h 226 10)
  refine Ok.chk (ixT (by omega) (by omega)) (fun c2 => ?_)
  generalize eg3 : wrI h 229 (Int32.toNatClampNeg (hi h 226 10)) x1 = g3
  have f4 := rgT (x1)
  have jg3 : jC h0 g3 := JC29 eg3 j (by omega)
  have f5 := congrArg Int32.toInt (hiA eg3 226 10 (by decide))
  have f6 := rgT (hi g3 226 10)
  refine Ok.chk (ixT (by omega) (by omega)) (fun c7 => ?_)
  generalize eg8 : wrI g3 230 (Int32.toNatClampNeg (hi g3 226 10)) x2 = g8
  have jg8 : jC h0 g8 := JCw eg8 jg3 (by decide)
  have f9 := congrArg Int32.toInt (hiA eg8 226 10 (by decide))
  have f10 := rgT (hi g8 226 10)
  refine Ok.chk (ixT (by omega) (by omega)) (fun c11 => ?_)
  generalize eg12 : wrI g8 231 (Int32.toNatClampNeg (hi g8 226 10)) x3 = g12
  have jg12 : jC h0 g12 := JCw eg12 jg8 (by decide)
  have f13 := congrArg Int32.toInt (hiA eg12 226 10 (by decide))
  have f14 := rgT (hi g12 226 10)
  refine Ok.chk (ixT (by omega) (by omega)) (fun c15 => ?_)
  generalize eg16 : wrL g12 232 (Int32.toNatClampNeg (hi g12 226 10)) x4 = g16
  have jg16 : jC h0 g16 := JCl eg16 jg12
  generalize eg17 : wrI g16 226 10 ((hi g16 226 10) + 1) = g17
  have jg17 : jC h0 g17 := JC10 eg17 jg16
  have f18 := congrArg Int32.toInt (hiE eg17)
  have f19 := congrArg Int32.toInt (hiLL eg16 226 10)
  have f20 := rgT (hi g16 226 10)
  have f21 := lit_1
  first | have f22 := adT (hi g16 226 10) (1) (by omega) (by omega) | have f22 := adT (hi g16 226 10) (1)
  have f23 := rgT ((hi g16 226 10) + 1)
  refine Ok.ret ⟨jg17, ?_⟩
  show (hi g17 226 10).toInt = (hi h 226 10).toInt + 1
  omega
set_option maxRecDepth 100000 in
set_option maxHeartbeats 4000000 in
theorem sf_X12_sign {h0 : Hp} (s0 : 0 ≤ (hi h0 226 4).toInt ∧ (hi h0 226 4).toInt ≤ 2000) (n : Nat) (h : Hp) (x1 : Int32) (x2 : Int32) (x3 : Int32) (hn : 1 ≤ n) (j : jC h0 h) (p0 : 0 ≤ (hi h 226 10).toInt) (p1 : (hi h 226 10).toInt ≤ 401) : Ok (F_X12_sign n h x1 x2 x3) (fun q => jC h0 q.2 ∧ ((hi q.2 226 10).toInt = (hi h 226 10).toInt + 1 ∧ q.1.toInt = 1)) := by
  unfold F_X12_sign
  have f1 := rgT (x2)
  have f2 := lit_59
  refine Ok.eq (fun c3 => ?_) (fun c3 => ?_)
  · have f4 := lit_43
    refine Ok.eq (fun c5 => ?_) (fun c5 => ?_)
    · have f6 := lit_45
      refine Ok.eq (fun c7 => ?_) (fun c7 => ?_)
      · have f8 := lit_42
        refine Ok.eq (fun c9 => ?_) (fun c9 => ?_)
        · have f10 := lit_47
          refine Ok.eq (fun c11 => ?_) (fun c11 => ?_)
          · have f12 := lit_60
            refine Ok.eq (fun c13 => ?_) (fun c13 => ?_)
            · have f14 := lit_13
              have f15 := rgT (x1)
              have f16 := lit_0
              refine Ok.bind (sf_X12_token (h0 := h0) s0 n h 13 x1 0 0 (by omega) j (by omega) (by omega) (by omega)) (fun q478 hq478 => ?_)
              obtain ⟨jq478, xq478⟩ := hq478
              have f17 := lit_1
              refine Ok.ret ⟨jq478, ?_⟩
              show ((hi q478 226 10).toInt = (hi h 226 10).toInt + 1 ∧ ((1) : Int32).toInt = 1)
              omega
            · have f18 := lit_15
              have f19 := rgT (x1)
              have f20 := lit_0
              refine Ok.bind (sf_X12_token (h0 := h0) s0 n h 15 x1 0 0 (by omega) j (by omega) (by omega) (by omega)) (fun q476 hq476 => ?_)
              obtain ⟨jq476, xq476⟩ := hq476
              have f21 := lit_1
              refine Ok.ret ⟨jq476, ?_⟩
              show ((hi q476 226 10).toInt = (hi h 226 10).toInt + 1 ∧ ((1) : Int32).toInt = 1)
              omega
          · have f22 := lit_60
            refine Ok.eq (fun c23 => ?_) (fun c23 => ?_)
            · have f24 := lit_13
              have f25 := rgT (x1)
              have f26 := lit_0
              refine Ok.bind (sf_X12_token (h0 := h0) s0 n h 13 x1 0 0 (by omega) j (by omega) (by omega) (by omega)) (fun q473 hq473 => ?_)
              obtain ⟨jq473, xq473⟩ := hq473
              have f27 := lit_1
              refine Ok.ret ⟨jq473, ?_⟩
              show ((hi q473 226 10).toInt = (hi h 226 10).toInt + 1 ∧ ((1) : Int32).toInt = 1)
              omega
            · have f28 := lit_10
              have f29 := rgT (x1)
              have f30 := lit_0
              refine Ok.bind (sf_X12_token (h0 := h0) s0 n h 10 x1 0 0 (by omega) j (by omega) (by omega) (by omega)) (fun q471 hq471 => ?_)
              obtain ⟨jq471, xq471⟩ := hq471
              have f31 := lit_1
              refine Ok.ret ⟨jq471, ?_⟩
              show ((hi q471 226 10).toInt = (hi h 226 10).toInt + 1 ∧ ((1) : Int32).toInt = 1)
              omega
        · have f32 := lit_47
          refine Ok.eq (fun c33 => ?_) (fun c33 => ?_)
          · have f34 := lit_60
            refine Ok.eq (fun c35 => ?_) (fun c35 => ?_)
            · have f36 := lit_13
              have f37 := rgT (x1)
              have f38 := lit_0
              refine Ok.bind (sf_X12_token (h0 := h0) s0 n h 13 x1 0 0 (by omega) j (by omega) (by omega) (by omega)) (fun q467 hq467 => ?_)
              obtain ⟨jq467, xq467⟩ := hq467
              have f39 := lit_1
              refine Ok.ret ⟨jq467, ?_⟩
              show ((hi q467 226 10).toInt = (hi h 226 10).toInt + 1 ∧ ((1) : Int32).toInt = 1)
              omega
            · have f40 := lit_15
              have f41 := rgT (x1)
              have f42 := lit_0
              refine Ok.bind (sf_X12_token (h0 := h0) s0 n h 15 x1 0 0 (by omega) j (by omega) (by omega) (by omega)) (fun q465 hq465 => ?_)
              obtain ⟨jq465, xq465⟩ := hq465
              have f43 := lit_1
              refine Ok.ret ⟨jq465, ?_⟩
              show ((hi q465 226 10).toInt = (hi h 226 10).toInt + 1 ∧ ((1) : Int32).toInt = 1)
              omega
          · have f44 := lit_60
            refine Ok.eq (fun c45 => ?_) (fun c45 => ?_)
            · have f46 := lit_13
              have f47 := rgT (x1)
              have f48 := lit_0
              refine Ok.bind (sf_X12_token (h0 := h0) s0 n h 13 x1 0 0 (by omega) j (by omega) (by omega) (by omega)) (fun q462 hq462 => ?_)
              obtain ⟨jq462, xq462⟩ := hq462
              have f49 := lit_1
              refine Ok.ret ⟨jq462, ?_⟩
              show ((hi q462 226 10).toInt = (hi h 226 10).toInt + 1 ∧ ((1) : Int32).toInt = 1)
              omega
            · have f50 := lit_9
              have f51 := rgT (x1)
              have f52 := lit_0
              refine Ok.bind (sf_X12_token (h0 := h0) s0 n h 9 x1 0 0 (by omega) j (by omega) (by omega) (by omega)) (fun q460 hq460 => ?_)
              obtain ⟨jq460, xq460⟩ := hq460
              have f53 := lit_1
              refine Ok.ret ⟨jq460, ?_⟩
              show ((hi q460 226 10).toInt = (hi h 226 10).toInt + 1 ∧ ((1) : Int32).toInt = 1)
              omega
      · have f54 := lit_42
        refine Ok.eq (fun c55 => ?_) (fun c55 => ?_)
        · have f56 := lit_47
          refine Ok.eq (fun c57 => ?_) (fun c57 => ?_)
          · have f58 := lit_60
            refine Ok.eq (fun c59 => ?_) (fun c59 => ?_)
            · have f60 := lit_13
              have f61 := rgT (x1)
              have f62 := lit_0
              refine Ok.bind (sf_X12_token (h0 := h0) s0 n h 13 x1 0 0 (by omega) j (by omega) (by omega) (by omega)) (fun q455 hq455 => ?_)
              obtain ⟨jq455, xq455⟩ := hq455
              have f63 := lit_1
              refine Ok.ret ⟨jq455, ?_⟩
              show ((hi q455 226 10).toInt = (hi h 226 10).toInt + 1 ∧ ((1) : Int32).toInt = 1)
              omega
            · have f64 := lit_15
              have f65 := rgT (x1)
              have f66 := lit_0
              refine Ok.bind (sf_X12_token (h0 := h0) s0 n h 15 x1 0 0 (by omega) j (by omega) (by omega) (by omega)) (fun q453 hq453 => ?_)
              obtain ⟨jq453, xq453⟩ := hq453
              have f67 := lit_1
              refine Ok.ret ⟨jq453, ?_⟩
              show ((hi q453 226 10).toInt = (hi h 226 10).toInt + 1 ∧ ((1) : Int32).toInt = 1)
              omega
          · have f68 := lit_60
            refine Ok.eq (fun c69 => ?_) (fun c69 => ?_)
            · have f70 := lit_13
              have f71 := rgT (x1)
              have f72 := lit_0
              refine Ok.bind (sf_X12_token (h0 := h0) s0 n h 13 x1 0 0 (by omega) j (by omega) (by omega) (by omega)) (fun q450 hq450 => ?_)
              obtain ⟨jq450, xq450⟩ := hq450
              have f73 := lit_1
              refine Ok.ret ⟨jq450, ?_⟩
              show ((hi q450 226 10).toInt = (hi h 226 10).toInt + 1 ∧ ((1) : Int32).toInt = 1)
              omega
            · have f74 := lit_10
              have f75 := rgT (x1)
              have f76 := lit_0
              refine Ok.bind (sf_X12_token (h0 := h0) s0 n h 10 x1 0 0 (by omega) j (by omega) (by omega) (by omega)) (fun q448 hq448 => ?_)
              obtain ⟨jq448, xq448⟩ := hq448
              have f77 := lit_1
              refine Ok.ret ⟨jq448, ?_⟩
              show ((hi q448 226 10).toInt = (hi h 226 10).toInt + 1 ∧ ((1) : Int32).toInt = 1)
              omega
        · have f78 := lit_47
          refine Ok.eq (fun c79 => ?_) (fun c79 => ?_)
          · have f80 := lit_60
            refine Ok.eq (fun c81 => ?_) (fun c81 => ?_)
            · have f82 := lit_13
              have f83 := rgT (x1)
              have f84 := lit_0
              refine Ok.bind (sf_X12_token (h0 := h0) s0 n h 13 x1 0 0 (by omega) j (by omega) (by omega) (by omega)) (fun q444 hq444 => ?_)
              obtain ⟨jq444, xq444⟩ := hq444
              have f85 := lit_1
              refine Ok.ret ⟨jq444, ?_⟩
              show ((hi q444 226 10).toInt = (hi h 226 10).toInt + 1 ∧ ((1) : Int32).toInt = 1)
              omega
            · have f86 := lit_15
              have f87 := rgT (x1)
              have f88 := lit_0
              refine Ok.bind (sf_X12_token (h0 := h0) s0 n h 15 x1 0 0 (by omega) j (by omega) (by omega) (by omega)) (fun q442 hq442 => ?_)
              obtain ⟨jq442, xq442⟩ := hq442
              have f89 := lit_1
              refine Ok.ret ⟨jq442, ?_⟩
              show ((hi q442 226 10).toInt = (hi h 226 10).toInt + 1 ∧ ((1) : Int32).toInt = 1)
              omega
          · have f90 := lit_60
            refine Ok.eq (fun c91 => ?_) (fun c91 => ?_)
            · have f92 := lit_13
              have f93 := rgT (x1)
              have f94 := lit_0
              refine Ok.bind (sf_X12_token (h0 := h0) s0 n h 13 x1 0 0 (by omega) j (by omega) (by omega) (by omega)) (fun q439 hq439 => ?_)
              obtain ⟨jq439, xq439⟩ := hq439
              have f95 := lit_1
              refine Ok.ret ⟨jq439, ?_⟩
              show ((hi q439 226 10).toInt = (hi h 226 10).toInt + 1 ∧ ((1) : Int32).toInt = 1)
              omega
            · have f96 := lit_8
              have f97 := rgT (x1)
              have f98 := lit_0
              refine Ok.bind (sf_X12_token (h0 := h0) s0 n h 8 x1 0 0 (by omega) j (by omega) (by omega) (by omega)) (fun q437 hq437 => ?_)
              obtain ⟨jq437, xq437⟩ := hq437
              have f99 := lit_1
              refine Ok.ret ⟨jq437, ?_⟩
              show ((hi q437 226 10).toInt = (hi h 226 10).toInt + 1 ∧ ((1) : Int32).toInt = 1)
              omega
    · have f100 := lit_45
      refine Ok.eq (fun c101 => ?_) (fun c101 => ?_)
      · have f102 := lit_42
        refine Ok.eq (fun c103 => ?_) (fun c103 => ?_)
        · have f104 := lit_47
          refine Ok.eq (fun c105 => ?_) (fun c105 => ?_)
          · have f106 := lit_60
            refine Ok.eq (fun c107 => ?_) (fun c107 => ?_)
            · have f108 := lit_13
              have f109 := rgT (x1)
              have f110 := lit_0
              refine Ok.bind (sf_X12_token (h0 := h0) s0 n h 13 x1 0 0 (by omega) j (by omega) (by omega) (by omega)) (fun q431 hq431 => ?_)
              obtain ⟨jq431, xq431⟩ := hq431
              have f111 := lit_1
              refine Ok.ret ⟨jq431, ?_⟩
              show ((hi q431 226 10).toInt = (hi h 226 10).toInt + 1 ∧ ((1) : Int32).toInt = 1)
              omega
            · have f112 := lit_15
              have f113 := rgT (x1)
              have f114 := lit_0
              refine Ok.bind (sf_X12_token (h0 := h0) s0 n h 15 x1 0 0 (by omega) j (by omega) (by omega) (by omega)) (fun q429 hq429 => ?_)
              obtain ⟨jq429, xq429⟩ := hq429
              have f115 := lit_1
              refine Ok.ret ⟨jq429, ?_⟩
              show ((hi q429 226 10).toInt = (hi h 226 10).toInt + 1 ∧ ((1) : Int32).toInt = 1)
              omega
          · have f116 := lit_60
            refine Ok.eq (fun c117 => ?_) (fun c117 => ?_)
            · have f118 := lit_13
              have f119 := rgT (x1)
              have f120 := lit_0
              refine Ok.bind (sf_X12_token (h0 := h0) s0 n h 13 x1 0 0 (by omega) j (by omega) (by omega) (by omega)) (fun q426 hq426 => ?_)
              obtain ⟨jq426, xq426⟩ := hq426
              have f121 := lit_1
              refine Ok.ret ⟨jq426, ?_⟩
              show ((hi q426 226 10).toInt = (hi h 226 10).toInt + 1 ∧ ((1) : Int32).toInt = 1)
              omega
            · have f122 := lit_10
              have f123 := rgT (x1)
              have f124 := lit_0
              refine Ok.bind (sf_X12_token (h0 := h0) s0 n h 10 x1 0 0 (by omega) j (by omega) (by omega) (by omega)) (fun q424 hq424 => ?_)
              obtain ⟨jq424, xq424⟩ := hq424
              have f125 := lit_1
              refine Ok.ret ⟨jq424, ?_⟩
              show ((hi q424 226 10).toInt = (hi h 226 10).toInt + 1 ∧ ((1) : Int32).toInt = 1)
              omega
        · have f126 := lit_47
          refine Ok.eq (fun c127 => ?_) (fun c127 => ?_)
          · have f128 := lit_60
            refine Ok.eq (fun c129 => ?_) (fun c129 => ?_)
            · have f130 := lit_13
              have f131 := rgT (x1)
              have f132 := lit_0
              refine Ok.bind (sf_X12_token (h0 := h0) s0 n h 13 x1 0 0 (by omega) j (by omega) (by omega) (by omega)) (fun q420 hq420 => ?_)
              obtain ⟨jq420, xq420⟩ := hq420
              have f133 := lit_1
              refine Ok.ret ⟨jq420, ?_⟩
              show ((hi q420 226 10).toInt = (hi h 226 10).toInt + 1 ∧ ((1) : Int32).toInt = 1)
              omega
            · have f134 := lit_15
              have f135 := rgT (x1)
              have f136 := lit_0
              refine Ok.bind (sf_X12_token (h0 := h0) s0 n h 15 x1 0 0 (by omega) j (by omega) (by omega) (by omega)) (fun q418 hq418 => ?_)
              obtain ⟨jq418, xq418⟩ := hq418
              have f137 := lit_1
              refine Ok.ret ⟨jq418, ?_⟩
              show ((hi q418 226 10).toInt = (hi h 226 10).toInt + 1 ∧ ((1) : Int32).toInt = 1)
              omega
          · have f138 := lit_60
            refine Ok.eq (fun c139 => ?_) (fun c139 => ?_)
            · have f140 := lit_13
              have f141 := rgT (x1)
              have f142 := lit_0
              refine Ok.bind (sf_X12_token (h0 := h0) s0 n h 13 x1 0 0 (by omega) j (by omega) (by omega) (by omega)) (fun q415 hq415 => ?_)
              obtain ⟨jq415, xq415⟩ := hq415
              have f143 := lit_1
              refine Ok.ret ⟨jq415, ?_⟩
              show ((hi q415 226 10).toInt = (hi h 226 10).toInt + 1 ∧ ((1) : Int32).toInt = 1)
              omega
            · have f144 := lit_9
              have f145 := rgT (x1)
              have f146 := lit_0
              refine Ok.bind (sf_X12_token (h0 := h0) s0 n h 9 x1 0 0 (by omega) j (by omega) (by omega) (by omega)) (fun q413 hq413 => ?_)
              obtain ⟨jq413, xq413⟩ := hq413
              have f147 := lit_1
              refine Ok.ret ⟨jq413, ?_⟩
              show ((hi q413 226 10).toInt = (hi h 226 10).toInt + 1 ∧ ((1) : Int32).toInt = 1)
              omega
      · have f148 := lit_42
        refine Ok.eq (fun c149 => ?_) (fun c149 => ?_)
        · have f150 := lit_47
          refine Ok.eq (fun c151 => ?_) (fun c151 => ?_)
          · have f152 := lit_60
            refine Ok.eq (fun c153 => ?_) (fun c153 => ?_)
            · have f154 := lit_13
              have f155 := rgT (x1)
              have f156 := lit_0
              refine Ok.bind (sf_X12_token (h0 := h0) s0 n h 13 x1 0 0 (by omega) j (by omega) (by omega) (by omega)) (fun q408 hq408 => ?_)
              obtain ⟨jq408, xq408⟩ := hq408
              have f157 := lit_1
              refine Ok.ret ⟨jq408, ?_⟩
              show ((hi q408 226 10).toInt = (hi h 226 10).toInt + 1 ∧ ((1) : Int32).toInt = 1)
              omega
            · have f158 := lit_15
              have f159 := rgT (x1)
              have f160 := lit_0
              refine Ok.bind (sf_X12_token (h0 := h0) s0 n h 15 x1 0 0 (by omega) j (by omega) (by omega) (by omega)) (fun q406 hq406 => ?_)
              obtain ⟨jq406, xq406⟩ := hq406
              have f161 := lit_1
              refine Ok.ret ⟨jq406, ?_⟩
              show ((hi q406 226 10).toInt = (hi h 226 10).toInt + 1 ∧ ((1) : Int32).toInt = 1)
              omega
          · have f162 := lit_60
            refine Ok.eq (fun c163 => ?_) (fun c163 => ?_)
            · have f164 := lit_13
              have f165 := rgT (x1)
              have f166 := lit_0
              refine Ok.bind (sf_X12_token (h0 := h0) s0 n h 13 x1 0 0 (by omega) j (by omega) (by omega) (by omega)) (fun q403 hq403 => ?_)
              obtain ⟨jq403, xq403⟩ := hq403
              have f167 := lit_1
              refine Ok.ret ⟨jq403, ?_⟩
              show ((hi q403 226 10).toInt = (hi h 226 10).toInt + 1 ∧ ((1) : Int32).toInt = 1)
              omega
            · have f168 := lit_10
              have f169 := rgT (x1)
              have f170 := lit_0
              refine Ok.bind (sf_X12_token (h0 := h0) s0 n h 10 x1 0 0 (by omega) j (by omega) (by omega) (by omega)) (fun q401 hq401 => ?_)
              obtain ⟨jq401, xq401⟩ := hq401
              have f171 := lit_1
              refine Ok.ret ⟨jq401, ?_⟩
              show ((hi q401 226 10).toInt = (hi h 226 10).toInt + 1 ∧ ((1) : Int32).toInt = 1)
              omega
        · have f172 := lit_47
          refine Ok.eq (fun c173 => ?_) (fun c173 => ?_)
          · have f174 := lit_60
            refine Ok.eq (fun c175 => ?_) (fun c175 => ?_)
            · have f176 := lit_13
              have f177 := rgT (x1)
              have f178 := lit_0
              refine Ok.bind (sf_X12_token (h0 := h0) s0 n h 13 x1 0 0 (by omega) j (by omega) (by omega) (by omega)) (fun q397 hq397 => ?_)
              obtain ⟨jq397, xq397⟩ := hq397
              have f179 := lit_1
              refine Ok.ret ⟨jq397, ?_⟩
              show ((hi q397 226 10).toInt = (hi h 226 10).toInt + 1 ∧ ((1) : Int32).toInt = 1)
              omega
            · have f180 := lit_15
              have f181 := rgT (x1)
              have f182 := lit_0
              refine Ok.bind (sf_X12_token (h0 := h0) s0 n h 15 x1 0 0 (by omega) j (by omega) (by omega) (by omega)) (fun q395 hq395 => ?_)
              obtain ⟨jq395, xq395⟩ := hq395
              have f183 := lit_1
              refine Ok.ret ⟨jq395, ?_⟩
              show ((hi q395 226 10).toInt = (hi h 226 10).toInt + 1 ∧ ((1) : Int32).toInt = 1)
              omega
          · have f184 := lit_60
            refine Ok.eq (fun c185 => ?_) (fun c185 => ?_)
            · have f186 := lit_13
              have f187 := rgT (x1)
              have f188 := lit_0
              refine Ok.bind (sf_X12_token (h0 := h0) s0 n h 13 x1 0 0 (by omega) j (by omega) (by omega) (by omega)) (fun q392 hq392 => ?_)
              obtain ⟨jq392, xq392⟩ := hq392
              have f189 := lit_1
              refine Ok.ret ⟨jq392, ?_⟩
              show ((hi q392 226 10).toInt = (hi h 226 10).toInt + 1 ∧ ((1) : Int32).toInt = 1)
              omega
            · have f190 := lit_4
              have f191 := rgT (x1)
              have f192 := lit_0
              refine Ok.bind (sf_X12_token (h0 := h0) s0 n h 4 x1 0 0 (by omega) j (by omega) (by omega) (by omega)) (fun q390 hq390 => ?_)
              obtain ⟨jq390, xq390⟩ := hq390
              have f193 := lit_1
              refine Ok.ret ⟨jq390, ?_⟩
              show ((hi q390 226 10).toInt = (hi h 226 10).toInt + 1 ∧ ((1) : Int32).toInt = 1)
              omega
  · have f194 := lit_61
    refine Ok.eq (fun c195 => ?_) (fun c195 => ?_)
    · have f196 := lit_43
      refine Ok.eq (fun c197 => ?_) (fun c197 => ?_)
      · have f198 := lit_45
        refine Ok.eq (fun c199 => ?_) (fun c199 => ?_)
        · have f200 := lit_42
          refine Ok.eq (fun c201 => ?_) (fun c201 => ?_)
          · have f202 := lit_47
            refine Ok.eq (fun c203 => ?_) (fun c203 => ?_)
            · have f204 := lit_60
              refine Ok.eq (fun c205 => ?_) (fun c205 => ?_)
              · have f206 := lit_13
                have f207 := rgT (x1)
                have f208 := lit_0
                refine Ok.bind (sf_X12_token (h0 := h0) s0 n h 13 x1 0 0 (by omega) j (by omega) (by omega) (by omega)) (fun q383 hq383 => ?_)
                obtain ⟨jq383, xq383⟩ := hq383
                have f209 := lit_1
                refine Ok.ret ⟨jq383, ?_⟩
                show ((hi q383 226 10).toInt = (hi h 226 10).toInt + 1 ∧ ((1) : Int32).toInt = 1)
                omega
              · have f210 := lit_15
                have f211 := rgT (x1)
                have f212 := lit_0
                refine Ok.bind (sf_X12_token (h0 := h0) s0 n h 15 x1 0 0 (by omega) j (by omega) (by omega) (by omega)) (fun q381 hq381 => ?_)
                obtain ⟨jq381, xq381⟩ := hq381
                have f213 := lit_1
                refine Ok.ret ⟨jq381, ?_⟩
                show ((hi q381 226 10).toInt = (hi h 226 10).toInt + 1 ∧ ((1) : Int32).toInt = 1)
                omega
            · have f214 := lit_60
              refine Ok.eq (fun c215 => ?_) (fun c215 => ?_)
              · have f216 := lit_13
                have f217 := rgT (x1)
                have f218 := lit_0
                refine Ok.bind (sf_X12_token (h0 := h0) s0 n h 13 x1 0 0 (by omega) j (by omega) (by omega) (by omega)) (fun q378 hq378 => ?_)
                obtain ⟨jq378, xq378⟩ := hq378
                have f219 := lit_1
                refine Ok.ret ⟨jq378, ?_⟩
                show ((hi q378 226 10).toInt = (hi h 226 10).toInt + 1 ∧ ((1) : Int32).toInt = 1)
                omega
              · have f220 := lit_10
                have f221 := rgT (x1)
                have f222 := lit_0
                refine Ok.bind (sf_X12_token (h0 := h0) s0 n h 10 x1 0 0 (by omega) j (by omega) (by omega) (by omega)) (fun q376 hq376 => ?_)
                obtain ⟨jq376, xq376⟩ := hq376
                have f223 := lit_1
                refine Ok.ret ⟨jq376, ?_⟩
                show ((hi q376 226 10).toInt = (hi h 226 10).toInt + 1 ∧ ((1) : Int32).toInt = 1)
                omega
          · have f224 := lit_47
            refine Ok.eq (fun c225 => ?_) (fun c225 => ?_)
            · have f226 := lit_60
              refine Ok.eq (fun c227 => ?_) (fun c227 => ?_)
              · have f228 := lit_13
                have f229 := rgT (x1)
                have f230 := lit_0
                refine Ok.bind (sf_X12_token (h0 := h0) s0 n h 13 x1 0 0 (by omega) j (by omega) (by omega) (by omega)) (fun q372 hq372 => ?_)
                obtain ⟨jq372, xq372⟩ := hq372
                have f231 := lit_1
                refine Ok.ret ⟨jq372, ?_⟩
                show ((hi q372 226 10).toInt = (hi h 226 10).toInt + 1 ∧ ((1) : Int32).toInt = 1)
                omega
              · have f232 := lit_15
                have f233 := rgT (x1)
                have f234 := lit_0
                refine Ok.bind (sf_X12_token (h0 := h0) s0 n h 15 x1 0 0 (by omega) j (by omega) (by omega) (by omega)) (fun q370 hq370 => ?_)
                obtain ⟨jq370, xq370⟩ := hq370
                have f235 := lit_1
                refine Ok.ret ⟨jq370, ?_⟩
                show ((hi q370 226 10).toInt = (hi h 226 10).toInt + 1 ∧ ((1) : Int32).toInt = 1)
                omega
            · have f236 := lit_60
              refine Ok.eq (fun c237 => ?_) (fun c237 => ?_)
              · have f238 := lit_13
                have f239 := rgT (x1)
                have f240 := lit_0
                refine Ok.bind (sf_X12_token (h0 := h0) s0 n h 13 x1 0 0 (by omega) j (by omega) (by omega) (by omega)) (fun q367 hq367 => ?_)
                obtain ⟨jq367, xq367⟩ := hq367
                have f241 := lit_1
                refine Ok.ret ⟨jq367, ?_⟩
                show ((hi q367 226 10).toInt = (hi h 226 10).toInt + 1 ∧ ((1) : Int32).toInt = 1)
                omega
              · have f242 := lit_9
                have f243 := rgT (x1)
                have f244 := lit_0
                refine Ok.bind (sf_X12_token (h0 := h0) s0 n h 9 x1 0 0 (by omega) j (by omega) (by omega) (by omega)) (fun q365 hq365 => ?_)
                obtain ⟨jq365, xq365⟩ := hq365
                have f245 := lit_1
                refine Ok.ret ⟨jq365, ?_⟩
                show ((hi q365 226 10).toInt = (hi h 226 10).toInt + 1 ∧ ((1) : Int32).toInt = 1)
                omega
        · have f246 := lit_42
          refine Ok.eq (fun c247 => ?_) (fun c247 => ?_)
          · have f248 := lit_47
            refine Ok.eq (fun c249 => ?_) (fun c249 => ?_)
            · have f250 := lit_60
              refine Ok.eq (fun c251 => ?_) (fun c251 => ?_)
              · have f252 := lit_13
                have f253 := rgT (x1)
                have f254 := lit_0
                refine Ok.bind (sf_X12_token (h0 := h0) s0 n h 13 x1 0 0 (by omega) j (by omega) (by omega) (by omega)) (fun q360 hq360 => ?_)
                obtain ⟨jq360, xq360⟩ := hq360
                have f255 := lit_1
                refine Ok.ret ⟨jq360, ?_⟩
                show ((hi q360 226 10).toInt = (hi h 226 10).toInt + 1 ∧ ((1) : Int32).toInt = 1)
                omega
              · have f256 := lit_15
                have f257 := rgT (x1)
                have f258 := lit_0
                refine Ok.bind (sf_X12_token (h0 := h0) s0 n h 15 x1 0 0 (by omega) j (by omega) (by omega) (by omega)) (fun q358 hq358 => ?_)
                obtain ⟨jq358, xq358⟩ := hq358
                have f259 := lit_1
                refine Ok.ret ⟨jq358, ?_⟩
                show ((hi q358 226 10).toInt = (hi h 226 10).toInt + 1 ∧ ((1) : Int32).toInt = 1)
                omega
            · have f260 := lit_60
              refine Ok.eq (fun c261 => ?_) (fun c261 => ?_)
              · have f262 := lit_13
                have f263 := rgT (x1)
                have f264 := lit_0
                refine Ok.bind (sf_X12_token (h0 := h0) s0 n h 13 x1 0 0 (by omega) j (by omega) (by omega) (by omega)) (fun q355 hq355 => ?_)
                obtain ⟨jq355, xq355⟩ := hq355
                have f265 := lit_1
                refine Ok.ret ⟨jq355, ?_⟩
                show ((hi q355 226 10).toInt = (hi h 226 10).toInt + 1 ∧ ((1) : Int32).toInt = 1)
                omega
              · have f266 := lit_10
                have f267 := rgT (x1)
                have f268 := lit_0
                refine Ok.bind (sf_X12_token (h0 := h0) s0 n h 10 x1 0 0 (by omega) j (by omega) (by omega) (by omega)) (fun q353 hq353 => ?_)
                obtain ⟨jq353, xq353⟩ := hq353
                have f269 := lit_1
                refine Ok.ret ⟨jq353, ?_⟩
                show ((hi q353 226 10).toInt = (hi h 226 10).toInt + 1 ∧ ((1) : Int32).toInt = 1)
                omega
          · have f270 := lit_47
            refine Ok.eq (fun c271 => ?_) (fun c271 => ?_)
            · have f272 := lit_60
              refine Ok.eq (fun c273 => ?_) (fun c273 => ?_)
              · have f274 := lit_13
                have f275 := rgT (x1)
                have f276 := lit_0
                refine Ok.bind (sf_X12_token (h0 := h0) s0 n h 13 x1 0 0 (by omega) j (by omega) (by omega) (by omega)) (fun q349 hq349 => ?_)
                obtain ⟨jq349, xq349⟩ := hq349
                have f277 := lit_1
                refine Ok.ret ⟨jq349, ?_⟩
                show ((hi q349 226 10).toInt = (hi h 226 10).toInt + 1 ∧ ((1) : Int32).toInt = 1)
                omega
              · have f278 := lit_15
                have f279 := rgT (x1)
                have f280 := lit_0
                refine Ok.bind (sf_X12_token (h0 := h0) s0 n h 15 x1 0 0 (by omega) j (by omega) (by omega) (by omega)) (fun q347 hq347 => ?_)
                obtain ⟨jq347, xq347⟩ := hq347
                have f281 := lit_1
                refine Ok.ret ⟨jq347, ?_⟩
                show ((hi q347 226 10).toInt = (hi h 226 10).toInt + 1 ∧ ((1) : Int32).toInt = 1)
                omega
            · have f282 := lit_60
              refine Ok.eq (fun c283 => ?_) (fun c283 => ?_)
              · have f284 := lit_13
                have f285 := rgT (x1)
                have f286 := lit_0
                refine Ok.bind (sf_X12_token (h0 := h0) s0 n h 13 x1 0 0 (by omega) j (by omega) (by omega) (by omega)) (fun q344 hq344 => ?_)
                obtain ⟨jq344, xq344⟩ := hq344
                have f287 := lit_1
                refine Ok.ret ⟨jq344, ?_⟩
                show ((hi q344 226 10).toInt = (hi h 226 10).toInt + 1 ∧ ((1) : Int32).toInt = 1)
                omega
              · have f288 := lit_8
                have f289 := rgT (x1)
                have f290 := lit_0
                refine Ok.bind (sf_X12_token (h0 := h0) s0 n h 8 x1 0 0 (by omega) j (by omega) (by omega) (by omega)) (fun q342 hq342 => ?_)
                obtain ⟨jq342, xq342⟩ := hq342
                have f291 := lit_1
                refine Ok.ret ⟨jq342, ?_⟩
                show ((hi q342 226 10).toInt = (hi h 226 10).toInt + 1 ∧ ((1) : Int32).toInt = 1)
                omega
      · have f292 := lit_45
        refine Ok.eq (fun c293 => ?_) (fun c293 => ?_)
        · have f294 := lit_42
          refine Ok.eq (fun c295 => ?_) (fun c295 => ?_)
          · have f296 := lit_47
            refine Ok.eq (fun c297 => ?_) (fun c297 => ?_)
            · have f298 := lit_60
              refine Ok.eq (fun c299 => ?_) (fun c299 => ?_)
              · have f300 := lit_13
                have f301 := rgT (x1)
                have f302 := lit_0
                refine Ok.bind (sf_X12_token (h0 := h0) s0 n h 13 x1 0 0 (by omega) j (by omega) (by omega) (by omega)) (fun q336 hq336 => ?_)
                obtain ⟨jq336, xq336⟩ := hq336
                have f303 := lit_1
                refine Ok.ret ⟨jq336, ?_⟩
                show ((hi q336 226 10).toInt = (hi h 226 10).toInt + 1 ∧ ((1) : Int32).toInt = 1)
                omega
              · have f304 := lit_15
                have f305 := rgT (x1)
                have f306 := lit_0
                refine Ok.bind (sf_X12_token (h0 := h0) s0 n h 15 x1 0 0 (by omega) j (by omega) (by omega) (by omega)) (fun q334 hq334 => ?_)
                obtain ⟨jq334, xq334⟩ := hq334
                have f307 := lit_1
                refine Ok.ret ⟨jq334, ?_⟩
                show ((hi q334 226 10).toInt = (hi h 226 10).toInt + 1 ∧ ((1) : Int32).toInt = 1)
                omega
            · have f308 := lit_60
              refine Ok.eq (fun c309 => ?_) (fun c309 => ?_)
              · have f310 := lit_13
                have f311 := rgT (x1)
                have f312 := lit_0
                refine Ok.bind (sf_X12_token (h0 := h0) s0 n h 13 x1 0 0 (by omega) j (by omega) (by omega) (by omega)) (fun q331 hq331 => ?_)
                obtain ⟨jq331, xq331⟩ := hq331
                have f313 := lit_1
                refine Ok.ret ⟨jq331, ?_⟩
                show ((hi q331 226 10).toInt = (hi h 226 10).toInt + 1 ∧ ((1) : Int32).toInt = 1)
                omega
              · have f314 := lit_10
                have f315 := rgT (x1)
                have f316 := lit_0
                refine Ok.bind (sf_X12_token (h0 := h0) s0 n h 10 x1 0 0 (by omega) j (by omega) (by omega) (by omega)) (fun q329 hq329 => ?_)
                obtain ⟨jq329, xq329⟩ := hq329
                have f317 := lit_1
                refine Ok.ret ⟨jq329, ?_⟩
                show ((hi q329 226 10).toInt = (hi h 226 10).toInt + 1 ∧ ((1) : Int32).toInt = 1)
                omega
          · have f318 := lit_47
            refine Ok.eq (fun c319 => ?_) (fun c319 => ?_)
            · have f320 := lit_60
              refine Ok.eq (fun c321 => ?_) (fun c321 => ?_)
              · have f322 := lit_13
                have f323 := rgT (x1)
                have f324 := lit_0
                refine Ok.bind (sf_X12_token (h0 := h0) s0 n h 13 x1 0 0 (by omega) j (by omega) (by omega) (by omega)) (fun q325 hq325 => ?_)
                obtain ⟨jq325, xq325⟩ := hq325
                have f325 := lit_1
                refine Ok.ret ⟨jq325, ?_⟩
                show ((hi q325 226 10).toInt = (hi h 226 10).toInt + 1 ∧ ((1) : Int32).toInt = 1)
                omega
              · have f326 := lit_15
                have f327 := rgT (x1)
                have f328 := lit_0
                refine Ok.bind (sf_X12_token (h0 := h0) s0 n h 15 x1 0 0 (by omega) j (by omega) (by omega) (by omega)) (fun q323 hq323 => ?_)
                obtain ⟨jq323, xq323⟩ := hq323
                have f329 := lit_1
                refine Ok.ret ⟨jq323, ?_⟩
                show ((hi q323 226 10).toInt = (hi h 226 10).toInt + 1 ∧ ((1) : Int32).toInt = 1)
                omega
            · have f330 := lit_60
              refine Ok.eq (fun c331 => ?_) (fun c331 => ?_)
              · have f332 := lit_13
                have f333 := rgT (x1)
                have f334 := lit_0
                refine Ok.bind (sf_X12_token (h0 := h0) s0 n h 13 x1 0 0 (by omega) j (by omega) (by omega) (by omega)) (fun q320 hq320 => ?_)
                obtain ⟨jq320, xq320⟩ := hq320
                have f335 := lit_1
                refine Ok.ret ⟨jq320, ?_⟩
                show ((hi q320 226 10).toInt = (hi h 226 10).toInt + 1 ∧ ((1) : Int32).toInt = 1)
                omega
              · have f336 := lit_9
                have f337 := rgT (x1)
                have f338 := lit_0
                refine Ok.bind (sf_X12_token (h0 := h0) s0 n h 9 x1 0 0 (by omega) j (by omega) (by omega) (by omega)) (fun q318 hq318 => ?_)
                obtain ⟨jq318, xq318⟩ := hq318
                have f339 := lit_1
                refine Ok.ret ⟨jq318, ?_⟩
                show ((hi q318 226 10).toInt = (hi h 226 10).toInt + 1 ∧ ((1) : Int32).toInt = 1)
                omega
        · have f340 := lit_42
          refine Ok.eq (fun c341 => ?_) (fun c341 => ?_)
          · have f342 := lit_47
            refine Ok.eq (fun c343 => ?_) (fun c343 => ?_)
            · have f344 := lit_60
              refine Ok.eq (fun c345 => ?_) (fun c345 => ?_)
              · have f346 := lit_13
                have f347 := rgT (x1)
                have f348 := lit_0
                refine Ok.bind (sf_X12_token (h0 := h0) s0 n h 13 x1 0 0 (by omega) j (by omega) (by omega) (by omega)) (fun q313 hq313 => ?_)
                obtain ⟨jq313, xq313⟩ := hq313
                have f349 := lit_1
                refine Ok.ret ⟨jq313, ?_⟩
                show ((hi q313 226 10).toInt = (hi h 226 10).toInt + 1 ∧ ((1) : Int32).toInt = 1)
                omega
              · have f350 := lit_15
                have f351 := rgT (x1)
                have f352 := lit_0
                refine Ok.bind (sf_X12_token (h0 := h0) s0 n h 15 x1 0 0 (by omega) j (by omega) (by omega) (by omega)) (fun q311 hq311 => ?_)
                obtain ⟨jq311, xq311⟩ := hq311
                have f353 := lit_1
                refine Ok.ret ⟨jq311, ?_⟩
                show ((hi q311 226 10).toInt = (hi h 226 10).toInt + 1 ∧ ((1) : Int32).toInt = 1)
                omega
            · have f354 := lit_60
              refine Ok.eq (fun c355 => ?_) (fun c355 => ?_)
              · have f356 := lit_13
                have f357 := rgT (x1)
                have f358 := lit_0
                refine Ok.bind (sf_X12_token (h0 := h0) s0 n h 13 x1 0 0 (by omega) j (by omega) (by omega) (by omega)) (fun q308 hq308 => ?_)
                obtain ⟨jq308, xq308⟩ := hq308
                have f359 := lit_1
                refine Ok.ret ⟨jq308, ?_⟩
                show ((hi q308 226 10).toInt = (hi h 226 10).toInt + 1 ∧ ((1) : Int32).toInt = 1)
                omega
              · have f360 := lit_10
                have f361 := rgT (x1)
                have f362 := lit_0
                refine Ok.bind (sf_X12_token (h0 := h0) s0 n h 10 x1 0 0 (by omega) j (by omega) (by omega) (by omega)) (fun q306 hq306 => ?_)
                obtain ⟨jq306, xq306⟩ := hq306
                have f363 := lit_1
                refine Ok.ret ⟨jq306, ?_⟩
                show ((hi q306 226 10).toInt = (hi h 226 10).toInt + 1 ∧ ((1) : Int32).toInt = 1)
                omega
          · have f364 := lit_47
            refine Ok.eq (fun c365 => ?_) (fun c365 => ?_)
            · have f366 := lit_60
              refine Ok.eq (fun c367 => ?_) (fun c367 => ?_)
              · have f368 := lit_13
                have f369 := rgT (x1)
                have f370 := lit_0
                refine Ok.bind (sf_X12_token (h0 := h0) s0 n h 13 x1 0 0 (by omega) j (by omega) (by omega) (by omega)) (fun q302 hq302 => ?_)
                obtain ⟨jq302, xq302⟩ := hq302
                have f371 := lit_1
                refine Ok.ret ⟨jq302, ?_⟩
                show ((hi q302 226 10).toInt = (hi h 226 10).toInt + 1 ∧ ((1) : Int32).toInt = 1)
                omega
              · have f372 := lit_15
                have f373 := rgT (x1)
                have f374 := lit_0
                refine Ok.bind (sf_X12_token (h0 := h0) s0 n h 15 x1 0 0 (by omega) j (by omega) (by omega) (by omega)) (fun q300 hq300 => ?_)
                obtain ⟨jq300, xq300⟩ := hq300
                have f375 := lit_1
                refine Ok.ret ⟨jq300, ?_⟩
                show ((hi q300 226 10).toInt = (hi h 226 10).toInt + 1 ∧ ((1) : Int32).toInt = 1)
                omega
            · have f376 := lit_60
              refine Ok.eq (fun c377 => ?_) (fun c377 => ?_)
              · have f378 := lit_13
                have f379 := rgT (x1)
                have f380 := lit_0
                refine Ok.bind (sf_X12_token (h0 := h0) s0 n h 13 x1 0 0 (by omega) j (by omega) (by omega) (by omega)) (fun q297 hq297 => ?_)
                obtain ⟨jq297, xq297⟩ := hq297
                have f381 := lit_1
                refine Ok.ret ⟨jq297, ?_⟩
                show ((hi q297 226 10).toInt = (hi h 226 10).toInt + 1 ∧ ((1) : Int32).toInt = 1)
                omega
              · have f382 := lit_5
                have f383 := rgT (x1)
                have f384 := lit_0
                refine Ok.bind (sf_X12_token (h0 := h0) s0 n h 5 x1 0 0 (by omega) j (by omega) (by omega) (by omega)) (fun q295 hq295 => ?_)
                obtain ⟨jq295, xq295⟩ := hq295
                have f385 := lit_1
                refine Ok.ret ⟨jq295, ?_⟩
                show ((hi q295 226 10).toInt = (hi h 226 10).toInt + 1 ∧ ((1) : Int32).toInt = 1)
                omega
    · have f386 := lit_40
      refine Ok.eq (fun c387 => ?_) (fun c387 => ?_)
      · have f388 := lit_43
        refine Ok.eq (fun c389 => ?_) (fun c389 => ?_)
        · have f390 := lit_45
          refine Ok.eq (fun c391 => ?_) (fun c391 => ?_)
          · have f392 := lit_42
            refine Ok.eq (fun c393 => ?_) (fun c393 => ?_)
            · have f394 := lit_47
              refine Ok.eq (fun c395 => ?_) (fun c395 => ?_)
              · have f396 := lit_60
                refine Ok.eq (fun c397 => ?_) (fun c397 => ?_)
                · have f398 := lit_13
                  have f399 := rgT (x1)
                  have f400 := lit_0
                  refine Ok.bind (sf_X12_token (h0 := h0) s0 n h 13 x1 0 0 (by omega) j (by omega) (by omega) (by omega)) (fun q288 hq288 => ?_)
                  obtain ⟨jq288, xq288⟩ := hq288
                  have f401 := lit_1
                  refine Ok.ret ⟨jq288, ?_⟩
                  show ((hi q288 226 10).toInt = (hi h 226 10).toInt + 1 ∧ ((1) : Int32).toInt = 1)
                  omega
                · have f402 := lit_15
                  have f403 := rgT (x1)
                  have f404 := lit_0
                  refine Ok.bind (sf_X12_token (h0 := h0) s0 n h 15 x1 0 0 (by omega) j (by omega) (by omega) (by omega)) (fun q286 hq286 => ?_)
                  obtain ⟨jq286, xq286⟩ := hq286
                  have f405 := lit_1
                  refine Ok.ret ⟨jq286, ?_⟩
                  show ((hi q286 226 10).toInt = (hi h 226 10).toInt + 1 ∧ ((1) : Int32).toInt = 1)
                  omega
              · have f406 := lit_60
                refine Ok.eq (fun c407 => ?_) (fun c407 => ?_)
                · have f408 := lit_13
                  have f409 := rgT (x1)
                  have f410 := lit_0
                  refine Ok.bind (sf_X12_token (h0 := h0) s0 n h 13 x1 0 0 (by omega) j (by omega) (by omega) (by omega)) (fun q283 hq283 => ?_)
                  obtain ⟨jq283, xq283⟩ := hq283
                  have f411 := lit_1
                  refine Ok.ret ⟨jq283, ?_⟩
                  show ((hi q283 226 10).toInt = (hi h 226 10).toInt + 1 ∧ ((1) : Int32).toInt = 1)
                  omega
                · have f412 := lit_10
                  have f413 := rgT (x1)
                  have f414 := lit_0
                  refine Ok.bind (sf_X12_token (h0 := h0) s0 n h 10 x1 0 0 (by omega) j (by omega) (by omega) (by omega)) (fun q281 hq281 => ?_)
                  obtain ⟨jq281, xq281⟩ := hq281
                  have f415 := lit_1
                  refine Ok.ret ⟨jq281, ?_⟩
                  show ((hi q281 226 10).toInt = (hi h 226 10).toInt + 1 ∧ ((1) : Int32).toInt = 1)
                  omega
            · have f416 := lit_47
              refine Ok.eq (fun c417 => ?_) (fun c417 => ?_)
              · have f418 := lit_60
                refine Ok.eq (fun c419 => ?_) (fun c419 => ?_)
                · have f420 := lit_13
                  have f421 := rgT (x1)
                  have f422 := lit_0
                  refine Ok.bind (sf_X12_token (h0 := h0) s0 n h 13 x1 0 0 (by omega) j (by omega) (by omega) (by omega)) (fun q277 hq277 => ?_)
                  obtain ⟨jq277, xq277⟩ := hq277
                  have f423 := lit_1
                  refine Ok.ret ⟨jq277, ?_⟩
                  show ((hi q277 226 10).toInt = (hi h 226 10).toInt + 1 ∧ ((1) : Int32).toInt = 1)
                  omega
                · have f424 := lit_15
                  have f425 := rgT (x1)
                  have f426 := lit_0
                  refine Ok.bind (sf_X12_token (h0 := h0) s0 n h 15 x1 0 0 (by omega) j (by omega) (by omega) (by omega)) (fun q275 hq275 => ?_)
                  obtain ⟨jq275, xq275⟩ := hq275
                  have f427 := lit_1
                  refine Ok.ret ⟨jq275, ?_⟩
                  show ((hi q275 226 10).toInt = (hi h 226 10).toInt + 1 ∧ ((1) : Int32).toInt = 1)
                  omega
              · have f428 := lit_60
                refine Ok.eq (fun c429 => ?_) (fun c429 => ?_)
                · have f430 := lit_13
                  have f431 := rgT (x1)
                  have f432 := lit_0
                  refine Ok.bind (sf_X12_token (h0 := h0) s0 n h 13 x1 0 0 (by omega) j (by omega) (by omega) (by omega)) (fun q272 hq272 => ?_)
                  obtain ⟨jq272, xq272⟩ := hq272
                  have f433 := lit_1
                  refine Ok.ret ⟨jq272, ?_⟩
                  show ((hi q272 226 10).toInt = (hi h 226 10).toInt + 1 ∧ ((1) : Int32).toInt = 1)
                  omega
                · have f434 := lit_9
                  have f435 := rgT (x1)
                  have f436 := lit_0
                  refine Ok.bind (sf_X12_token (h0 := h0) s0 n h 9 x1 0 0 (by omega) j (by omega) (by omega) (by omega)) (fun q270 hq270 => ?_)
                  obtain ⟨jq270, xq270⟩ := hq270
                  have f437 := lit_1
                  refine Ok.ret ⟨jq270, ?_⟩
                  show ((hi q270 226 10).toInt = (hi h 226 10).toInt + 1 ∧ ((1) : Int32).toInt = 1)
                  omega
          · have f438 := lit_42
            refine Ok.eq (fun c439 => ?_) (fun c439 => ?_)
            · have f440 := lit_47
              refine Ok.eq (fun c441 => ?_) (fun c441 => ?_)
              · have f442 := lit_60
                refine Ok.eq (fun c443 => ?_) (fun c443 => ?_)
                · have f444 := lit_13
                  have f445 := rgT (x1)
                  have f446 := lit_0
                  refine Ok.bind (sf_X12_token (h0 := h0) s0 n h 13 x1 0 0 (by omega) j (by omega) (by omega) (by omega)) (fun q265 hq265 => ?_)
                  obtain ⟨jq265, xq265⟩ := hq265
                  have f447 := lit_1
                  refine Ok.ret ⟨jq265, ?_⟩
                  show ((hi q265 226 10).toInt = (hi h 226 10).toInt + 1 ∧ ((1) : Int32).toInt = 1)
                  omega
                · have f448 := lit_15
                  have f449 := rgT (x1)
                  have f450 := lit_0
                  refine Ok.bind (sf_X12_token (h0 := h0) s0 n h 15 x1 0 0 (by omega) j (by omega) (by omega) (by omega)) (fun q263 hq263 => ?_)
                  obtain ⟨jq263, xq263⟩ := hq263
                  have f451 := lit_1
                  refine Ok.ret ⟨jq263, ?_⟩
                  show ((hi q263 226 10).toInt = (hi h 226 10).toInt + 1 ∧ ((1) : Int32).toInt = 1)
                  omega
              · have f452 := lit_60
                refine Ok.eq (fun c453 => ?_) (fun c453 => ?_)
                · have f454 := lit_13
                  have f455 := rgT (x1)
                  have f456 := lit_0
                  refine Ok.bind (sf_X12_token (h0 := h0) s0 n h 13 x1 0 0 (by omega) j (by omega) (by omega) (by omega)) (fun q260 hq260 => ?_)
                  obtain ⟨jq260, xq260⟩ := hq260
                  have f457 := lit_1
                  refine Ok.ret ⟨jq260, ?_⟩
                  show ((hi q260 226 10).toInt = (hi h 226 10).toInt + 1 ∧ ((1) : Int32).toInt = 1)
                  omega
                · have f458 := lit_10
                  have f459 := rgT (x1)
                  have f460 := lit_0
                  refine Ok.bind (sf_X12_token (h0 := h0) s0 n h 10 x1 0 0 (by omega) j (by omega) (by omega) (by omega)) (fun q258 hq258 => ?_)
                  obtain ⟨jq258, xq258⟩ := hq258
                  have f461 := lit_1
                  refine Ok.ret ⟨jq258, ?_⟩
                  show ((hi q258 226 10).toInt = (hi h 226 10).toInt + 1 ∧ ((1) : Int32).toInt = 1)
                  omega
            · have f462 := lit_47
              refine Ok.eq (fun c463 => ?_) (fun c463 => ?_)
              · have f464 := lit_60
                refine Ok.eq (fun c465 => ?_) (fun c465 => ?_)
                · have f466 := lit_13
                  have f467 := rgT (x1)
                  have f468 := lit_0
                  refine Ok.bind (sf_X12_token (h0 := h0) s0 n h 13 x1 0 0 (by omega) j (by omega) (by omega) (by omega)) (fun q254 hq254 => ?_)
                  obtain ⟨jq254, xq254⟩ := hq254
                  have f469 := lit_1
                  refine Ok.ret ⟨jq254, ?_⟩
                  show ((hi q254 226 10).toInt = (hi h 226 10).toInt + 1 ∧ ((1) : Int32).toInt = 1)
                  omega
                · have f470 := lit_15
                  have f471 := rgT (x1)
                  have f472 := lit_0
                  refine Ok.bind (sf_X12_token (h0 := h0) s0 n h 15 x1 0 0 (by omega) j (by omega) (by omega) (by omega)) (fun q252 hq252 => ?_)
                  obtain ⟨jq252, xq252⟩ := hq252
                  have f473 := lit_1
                  refine Ok.ret ⟨jq252, ?_⟩
                  show ((hi q252 226 10).toInt = (hi h 226 10).toInt + 1 ∧ ((1) : Int32).toInt = 1)
                  omega
              · have f474 := lit_60
                refine Ok.eq (fun c475 => ?_) (fun c475 => ?_)
                · have f476 := lit_13
                  have f477 := rgT (x1)
                  have f478 := lit_0
                  refine Ok.bind (sf_X12_token (h0 := h0) s0 n h 13 x1 0 0 (by omega) j (by omega) (by omega) (by omega)) (fun q249 hq249 => ?_)
                  obtain ⟨jq249, xq249⟩ := hq249
                  have f479 := lit_1
                  refine Ok.ret ⟨jq249, ?_⟩
                  show ((hi q249 226 10).toInt = (hi h 226 10).toInt + 1 ∧ ((1) : Int32).toInt = 1)
                  omega
                · have f480 := lit_8
                  have f481 := rgT (x1)
                  have f482 := lit_0
                  refine Ok.bind (sf_X12_token (h0 := h0) s0 n h 8 x1 0 0 (by omega) j (by omega) (by omega) (by omega)) (fun q247 hq247 => ?_)
                  obtain ⟨jq247, xq247⟩ := hq247
                  have f483 := lit_1
                  refine Ok.ret ⟨jq247, ?_⟩
                  show ((hi q247 226 10).toInt = (hi h 226 10).toInt + 1 ∧ ((1) : Int32).toInt = 1)
                  omega
        · have f484 := lit_45
          refine Ok.eq (fun c485 => ?_) (fun c485 => ?_)
          · have f486 := lit_42
            refine Ok.eq (fun c487 => ?_) (fun c487 => ?_)
            · have f488 := lit_47
              refine Ok.eq (fun c489 => ?_) (fun c489 => ?_)
              · have f490 := lit_60
                refine Ok.eq (fun c491 => ?_) (fun c491 => ?_)
                · have f492 := lit_13
                  have f493 := rgT (x1)
                  have f494 := lit_0
                  refine Ok.bind (sf_X12_token (h0 := h0) s0 n h 13 x1 0 0 (by omega) j (by omega) (by omega) (by omega)) (fun q241 hq241 => ?_)
                  obtain ⟨jq241, xq241⟩ := hq241
                  have f495 := lit_1
                  refine Ok.ret ⟨jq241, ?_⟩
                  show ((hi q241 226 10).toInt = (hi h 226 10).toInt + 1 ∧ ((1) : Int32).toInt = 1)
                  omega
                · have f496 := lit_15
                  have f497 := rgT (x1)
                  have f498 := lit_0
                  refine Ok.bind (sf_X12_token (h0 := h0) s0 n h 15 x1 0 0 (by omega) j (by omega) (by omega) (by omega)) (fun q239 hq239 => ?_)
                  obtain ⟨jq239, xq239⟩ := hq239
                  have f499 := lit_1
                  refine Ok.ret ⟨jq239, ?_⟩
                  show ((hi q239 226 10).toInt = (hi h 226 10).toInt + 1 ∧ ((1) : Int32).toInt = 1)
                  omega
              · have f500 := lit_60
                refine Ok.eq (fun c501 => ?_) (fun c501 => ?_)
                · have f502 := lit_13
                  have f503 := rgT (x1)
                  have f504 := lit_0
                  refine Ok.bind (sf_X12_token (h0 := h0) s0 n h 13 x1 0 0 (by omega) j (by omega) (by omega) (by omega)) (fun q236 hq236 => ?_)
                  obtain ⟨jq236, xq236⟩ := hq236
                  have f505 := lit_1
                  refine Ok.ret ⟨jq236, ?_⟩
                  show ((hi q236 226 10).toInt = (hi h 226 10).toInt + 1 ∧ ((1) : Int32).toInt = 1)
                  omega
                · have f506 := lit_10
                  have f507 := rgT (x1)
                  have f508 := lit_0
                  refine Ok.bind (sf_X12_token (h0 := h0) s0 n h 10 x1 0 0 (by omega) j (by omega) (by omega) (by omega)) (fun q234 hq234 => ?_)
                  obtain ⟨jq234, xq234⟩ := hq234
                  have f509 := lit_1
                  refine Ok.ret ⟨jq234, ?_⟩
                  show ((hi q234 226 10).toInt = (hi h 226 10).toInt + 1 ∧ ((1) : Int32).toInt = 1)
                  omega
            · have f510 := lit_47
              refine Ok.eq (fun c511 => ?_) (fun c511 => ?_)
              · have f512 := lit_60
                refine Ok.eq (fun c513 => ?_) (fun c513 => ?_)
                · have f514 := lit_13
                  have f515 := rgT (x1)
                  have f516 := lit_0
                  refine Ok.bind (sf_X12_token (h0 := h0) s0 n h 13 x1 0 0 (by omega) j (by omega) (by omega) (by omega)) (fun q230 hq230 => ?_)
                  obtain ⟨jq230, xq230⟩ := hq230
                  have f517 := lit_1
                  refine Ok.ret ⟨jq230, ?_⟩
                  show ((hi q230 226 10).toInt = (hi h 226 10).toInt + 1 ∧ ((1) : Int32).toInt = 1)
                  omega
                · have f518 := lit_15
                  have f519 := rgT (x1)
                  have f520 := lit_0
                  refine Ok.bind (sf_X12_token (h0 := h0) s0 n h 15 x1 0 0 (by omega) j (by omega) (by omega) (by omega)) (fun q228 hq228 => ?_)
                  obtain ⟨jq228, xq228⟩ := hq228
                  have f521 := lit_1
                  refine Ok.ret ⟨jq228, ?_⟩
                  show ((hi q228 226 10).toInt = (hi h 226 10).toInt + 1 ∧ ((1) : Int32).toInt = 1)
                  omega
              · have f522 := lit_60
                refine Ok.eq (fun c523 => ?_) (fun c523 => ?_)
                · have f524 := lit_13
                  have f525 := rgT (x1)
                  have f526 := lit_0
                  refine Ok.bind (sf_X12_token (h0 := h0) s0 n h 13 x1 0 0 (by omega) j (by omega) (by omega) (by omega)) (fun q225 hq225 => ?_)
                  obtain ⟨jq225, xq225⟩ := hq225
                  have f527 := lit_1
                  refine Ok.ret ⟨jq225, ?_⟩
                  show ((hi q225 226 10).toInt = (hi h 226 10).toInt + 1 ∧ ((1) : Int32).toInt = 1)
                  omega
                · have f528 := lit_9
                  have f529 := rgT (x1)
                  have f530 := lit_0
                  refine Ok.bind (sf_X12_token (h0 := h0) s0 n h 9 x1 0 0 (by omega) j (by omega) (by omega) (by omega)) (fun q223 hq223 => ?_)
                  obtain ⟨jq223, xq223⟩ := hq223
                  have f531 := lit_1
                  refine Ok.ret ⟨jq223, ?_⟩
                  show ((hi q223 226 10).toInt = (hi h 226 10).toInt + 1 ∧ ((1) : Int32).toInt = 1)
                  omega
          · have f532 := lit_42
            refine Ok.eq (fun c533 => ?_) (fun c533 => ?_)
            · have f534 := lit_47
              refine Ok.eq (fun c535 => ?_) (fun c535 => ?_)
              · have f536 := lit_60
                refine Ok.eq (fun c537 => ?_) (fun c537 => ?_)
                · have f538 := lit_13
                  have f539 := rgT (x1)
                  have f540 := lit_0
                  refine Ok.bind (sf_X12_token (h0 := h0) s0 n h 13 x1 0 0 (by omega) j (by omega) (by omega) (by omega)) (fun q218 hq218 => ?_)
                  obtain ⟨jq218, xq218⟩ := hq218
                  have f541 := lit_1
                  refine Ok.ret ⟨jq218, ?_⟩
                  show ((hi q218 226 10).toInt = (hi h 226 10).toInt + 1 ∧ ((1) : Int32).toInt = 1)
                  omega
                · have f542 := lit_15
                  have f543 := rgT (x1)
                  have f544 := lit_0
                  refine Ok.bind (sf_X12_token (h0 := h0) s0 n h 15 x1 0 0 (by omega) j (by omega) (by omega) (by omega)) (fun q216 hq216 => ?_)
                  obtain ⟨jq216, xq216⟩ := hq216
                  have f545 := lit_1
                  refine Ok.ret ⟨jq216, ?_⟩
                  show ((hi q216 226 10).toInt = (hi h 226 10).toInt + 1 ∧ ((1) : Int32).toInt = 1)
                  omega
              · have f546 := lit_60
                refine Ok.eq (fun c547 => ?_) (fun c547 => ?_)
                · have f548 := lit_13
                  have f549 := rgT (x1)
                  have f550 := lit_0
                  refine Ok.bind (sf_X12_token (h0 := h0) s0 n h 13 x1 0 0 (by omega) j (by omega) (by omega) (by omega)) (fun q213 hq213 => ?_)
                  obtain ⟨jq213, xq213⟩ := hq213
                  have f551 := lit_1
                  refine Ok.ret ⟨jq213, ?_⟩
                  show ((hi q213 226 10).toInt = (hi h 226 10).toInt + 1 ∧ ((1) : Int32).toInt = 1)
                  omega
                · have f552 := lit_10
                  have f553 := rgT (x1)
                  have f554 := lit_0
                  refine Ok.bind (sf_X12_token (h0 := h0) s0 n h 10 x1 0 0 (by omega) j (by omega) (by omega) (by omega)) (fun q211 hq211 => ?_)
                  obtain ⟨jq211, xq211⟩ := hq211
                  have f555 := lit_1
                  refine Ok.ret ⟨jq211, ?_⟩
                  show ((hi q211 226 10).toInt = (hi h 226 10).toInt + 1 ∧ ((1) : Int32).toInt = 1)
                  omega
            · have f556 := lit_47
              refine Ok.eq (fun c557 => ?_) (fun c557 => ?_)
              · have f558 := lit_60
                refine Ok.eq (fun c559 => ?_) (fun c559 => ?_)
                · have f560 := lit_13
                  have f561 := rgT (x1)
                  have f562 := lit_0
                  refine Ok.bind (sf_X12_token (h0 := h0) s0 n h 13 x1 0 0 (by omega) j (by omega) (by omega) (by omega)) (fun q207 hq207 => ?_)
                  obtain ⟨jq207, xq207⟩ := hq207
                  have f563 := lit_1
                  refine Ok.ret ⟨jq207, ?_⟩
                  show ((hi q207 226 10).toInt = (hi h 226 10).toInt + 1 ∧ ((1) : Int32).toInt = 1)
                  omega
                · have f564 := lit_15
                  have f565 := rgT (x1)
                  have f566 := lit_0
                  refine Ok.bind (sf_X12_token (h0 := h0) s0 n h 15 x1 0 0 (by omega) j (by omega) (by omega) (by omega)) (fun q205 hq205 => ?_)
                  obtain ⟨jq205, xq205⟩ := hq205
                  have f567 := lit_1
                  refine Ok.ret ⟨jq205, ?_⟩
                  show ((hi q205 226 10).toInt = (hi h 226 10).toInt + 1 ∧ ((1) : Int32).toInt = 1)
                  omega
              · have f568 := lit_60
                refine Ok.eq (fun c569 => ?_) (fun c569 => ?_)
                · have f570 := lit_13
                  have f571 := rgT (x1)
                  have f572 := lit_0
                  refine Ok.bind (sf_X12_token (h0 := h0) s0 n h 13 x1 0 0 (by omega) j (by omega) (by omega) (by omega)) (fun q202 hq202 => ?_)
                  obtain ⟨jq202, xq202⟩ := hq202
                  have f573 := lit_1
                  refine Ok.ret ⟨jq202, ?_⟩
                  show ((hi q202 226 10).toInt = (hi h 226 10).toInt + 1 ∧ ((1) : Int32).toInt = 1)
                  omega
                · have f574 := lit_6
                  have f575 := rgT (x1)
                  have f576 := lit_0
                  refine Ok.bind (sf_X12_token (h0 := h0) s0 n h 6 x1 0 0 (by omega) j (by omega) (by omega) (by omega)) (fun q200 hq200 => ?_)
                  obtain ⟨jq200, xq200⟩ := hq200
                  have f577 := lit_1
                  refine Ok.ret ⟨jq200, ?_⟩
                  show ((hi q200 226 10).toInt = (hi h 226 10).toInt + 1 ∧ ((1) : Int32).toInt = 1)
                  omega
      · have f578 := lit_41
        refine Ok.eq (fun c579 => ?_) (fun c579 => ?_)
        · have f580 := lit_43
          refine Ok.eq (fun c581 => ?_) (fun c581 => ?_)
          · have f582 := lit_45
            refine Ok.eq (fun c583 => ?_) (fun c583 => ?_)
            · have f584 := lit_42
              refine Ok.eq (fun c585 => ?_) (fun c585 => ?_)
              · have f586 := lit_47
                refine Ok.eq (fun c587 => ?_) (fun c587 => ?_)
                · have f588 := lit_60
                  refine Ok.eq (fun c589 => ?_) (fun c589 => ?_)
                  · have f590 := lit_13
                    have f591 := rgT (x1)
                    have f592 := lit_0
                    refine Ok.bind (sf_X12_token (h0 := h0) s0 n h 13 x1 0 0 (by omega) j (by omega) (by omega) (by omega)) (fun q193 hq193 => ?_)
                    obtain ⟨jq193, xq193⟩ := hq193
                    have f593 := lit_1
                    refine Ok.ret ⟨jq193, ?_⟩
                    show ((hi q193 226 10).toInt = (hi h 226 10).toInt + 1 ∧ ((1) : Int32).toInt = 1)
                    omega
                  · have f594 := lit_15
                    have f595 := rgT (x1)
                    have f596 := lit_0
                    refine Ok.bind (sf_X12_token (h0 := h0) s0 n h 15 x1 0 0 (by omega) j (by omega) (by omega) (by omega)) (fun q191 hq191 => ?_)
                    obtain ⟨jq191, xq191⟩ := hq191
                    have f597 := lit_1
                    refine Ok.ret ⟨jq191, ?_⟩
                    show ((hi q191 226 10).toInt = (hi h 226 10).toInt + 1 ∧ ((1) : Int32).toInt = 1)
                    omega
                · have f598 := lit_60
                  refine Ok.eq (fun c599 => ?_) (fun c599 => ?_)
                  · have f600 := lit_13
                    have f601 := rgT (x1)
                    have f602 := lit_0
                    refine Ok.bind (sf_X12_token (h0 := h0) s0 n h 13 x1 0 0 (by omega) j (by omega) (by omega) (by omega)) (fun q188 hq188 => ?_)
                    obtain ⟨jq188, xq188⟩ := hq188
                    have f603 := lit_1
                    refine Ok.ret ⟨jq188, ?_⟩
                    show ((hi q188 226 10).toInt = (hi h 226 10).toInt + 1 ∧ ((1) : Int32).toInt = 1)
                    omega
                  · have f604 := lit_10
                    have f605 := rgT (x1)
                    have f606 := lit_0
                    refine Ok.bind (sf_X12_token (h0 := h0) s0 n h 10 x1 0 0 (by omega) j (by omega) (by omega) (by omega)) (fun q186 hq186 => ?_)
                    obtain ⟨jq186, xq186⟩ := hq186
                    have f607 := lit_1
                    refine Ok.ret ⟨jq186, ?_⟩
                    show ((hi q186 226 10).toInt = (hi h 226 10).toInt + 1 ∧ ((1) : Int32).toInt = 1)
                    omega
              · have f608 := lit_47
                refine Ok.eq (fun c609 => ?_) (fun c609 => ?_)
                · have f610 := lit_60
                  refine Ok.eq (fun c611 => ?_) (fun c611 => ?_)
                  · have f612 := lit_13
                    have f613 := rgT (x1)
                    have f614 := lit_0
                    refine Ok.bind (sf_X12_token (h0 := h0) s0 n h 13 x1 0 0 (by omega) j (by omega) (by omega) (by omega)) (fun q182 hq182 => ?_)
                    obtain ⟨jq182, xq182⟩ := hq182
                    have f615 := lit_1
                    refine Ok.ret ⟨jq182, ?_⟩
                    show ((hi q182 226 10).toInt = (hi h 226 10).toInt + 1 ∧ ((1) : Int32).toInt = 1)
                    omega
                  · have f616 := lit_15
                    have f617 := rgT (x1)
                    have f618 := lit_0
                    refine Ok.bind (sf_X12_token (h0 := h0) s0 n h 15 x1 0 0 (by omega) j (by omega) (by omega) (by omega)) (fun q180 hq180 => ?_)
                    obtain ⟨jq180, xq180⟩ := hq180
                    have f619 := lit_1
                    refine Ok.ret ⟨jq180, ?_⟩
                    show ((hi q180 226 10).toInt = (hi h 226 10).toInt + 1 ∧ ((1) : Int32).toInt = 1)
                    omega
                · have f620 := lit_60
                  refine Ok.eq (fun c621 => ?_) (fun c621 => ?_)
                  · have f622 := lit_13
                    have f623 := rgT (x1)
                    have f624 := lit_0
                    refine Ok.bind (sf_X12_token (h0 := h0) s0 n h 13 x1 0 0 (by omega) j (by omega) (by omega) (by omega)) (fun q177 hq177 => ?_)
                    obtain ⟨jq177, xq177⟩ := hq177
                    have f625 := lit_1
                    refine Ok.ret ⟨jq177, ?_⟩
                    show ((hi q177 226 10).toInt = (hi h 226 10).toInt + 1 ∧ ((1) : Int32).toInt = 1)
                    omega
                  · have f626 := lit_9
                    have f627 := rgT (x1)
                    have f628 := lit_0
                    refine Ok.bind (sf_X12_token (h0 := h0) s0 n h 9 x1 0 0 (by omega) j (by omega) (by omega) (by omega)) (fun q175 hq175 => ?_)
                    obtain ⟨jq175, xq175⟩ := hq175
                    have f629 := lit_1
                    refine Ok.ret ⟨jq175, ?_⟩
                    show ((hi q175 226 10).toInt = (hi h 226 10).toInt + 1 ∧ ((1) : Int32).toInt = 1)
                    omega
            · have f630 := lit_42
              refine Ok.eq (fun c631 => ?_) (fun c631 => ?_)
              · have f632 := lit_47
                refine Ok.eq (fun c633 => ?_) (fun c633 => ?_)
                · have f634 := lit_60
                  refine Ok.eq (fun c635 => ?_) (fun c635 => ?_)
                  · have f636 := lit_13
                    have f637 := rgT (x1)
                    have f638 := lit_0
                    refine Ok.bind (sf_X12_token (h0 := h0) s0 n h 13 x1 0 0 (by omega) j (by omega) (by omega) (by omega)) (fun q170 hq170 => ?_)
                    obtain ⟨jq170, xq170⟩ := hq170
                    have f639 := lit_1
                    refine Ok.ret ⟨jq170, ?_⟩
                    show ((hi q170 226 10).toInt = (hi h 226 10).toInt + 1 ∧ ((1) : Int32).toInt = 1)
                    omega
                  · have f640 := lit_15
                    have f641 := rgT (x1)
                    have f642 := lit_0
                    refine Ok.bind (sf_X12_token (h0 := h0) s0 n h 15 x1 0 0 (by omega) j (by omega) (by omega) (by omega)) (fun q168 hq168 => ?_)
                    obtain ⟨jq168, xq168⟩ := hq168
                    have f643 := lit_1
                    refine Ok.ret ⟨jq168, ?_⟩
                    show ((hi q168 226 10).toInt = (hi h 226 10).toInt + 1 ∧ ((1) : Int32).toInt = 1)
                    omega
                · have f644 := lit_60
                  refine Ok.eq (fun c645 => ?_) (fun c645 => ?_)
                  · have f646 := lit_13
                    have f647 := rgT (x1)
                    have f648 := lit_0
                    refine Ok.bind (sf_X12_token (h0 := h0) s0 n h 13 x1 0 0 (by omega) j (by omega) (by omega) (by omega)) (fun q165 hq165 => ?_)
                    obtain ⟨jq165, xq165⟩ := hq165
                    have f649 := lit_1
                    refine Ok.ret ⟨jq165, ?_⟩
                    show ((hi q165 226 10).toInt = (hi h 226 10).toInt + 1 ∧ ((1) : Int32).toInt = 1)
                    omega
                  · have f650 := lit_10
                    have f651 := rgT (x1)
                    have f652 := lit_0
                    refine Ok.bind (sf_X12_token (h0 := h0) s0 n h 10 x1 0 0 (by omega) j (by omega) (by omega) (by omega)) (fun q163 hq163 => ?_)
                    obtain ⟨jq163, xq163⟩ := hq163
                    have f653 := lit_1
                    refine Ok.ret ⟨jq163, ?_⟩
                    show ((hi q163 226 10).toInt = (hi h 226 10).toInt + 1 ∧ ((1) : Int32).toInt = 1)
                    omega
              · have f654 := lit_47
                refine Ok.eq (fun c655 => ?_) (fun c655 => ?_)
                · have f656 := lit_60
                  refine Ok.eq (fun c657 => ?_) (fun c657 => ?_)
                  · have f658 := lit_13
                    have f659 := rgT (x1)
                    have f660 := lit_0
                    refine Ok.bind (sf_X12_token (h0 := h0) s0 n h 13 x1 0 0 (by omega) j (by omega) (by omega) (by omega)) (fun q159 hq159 => ?_)
                    obtain ⟨jq159, xq159⟩ := hq159
                    have f661 := lit_1
                    refine Ok.ret ⟨jq159, ?_⟩
                    show ((hi q159 226 10).toInt = (hi h 226 10).toInt + 1 ∧ ((1) : Int32).toInt = 1)
                    omega
                  · have f662 := lit_15
                    have f663 := rgT (x1)
                    have f664 := lit_0
                    refine Ok.bind (sf_X12_token (h0 := h0) s0 n h 15 x1 0 0 (by omega) j (by omega) (by omega) (by omega)) (fun q157 hq157 => ?_)
                    obtain ⟨jq157, xq157⟩ := hq157
                    have f665 := lit_1
                    refine Ok.ret ⟨jq157, ?_⟩
                    show ((hi q157 226 10).toInt = (hi h 226 10).toInt + 1 ∧ ((1) : Int32).toInt = 1)
                    omega
                · have f666 := lit_60
                  refine Ok.eq (fun c667 => ?_) (fun c667 => ?_)
                  · have f668 := lit_13
                    have f669 := rgT (x1)
                    have f670 := lit_0
                    refine Ok.bind (sf_X12_token (h0 := h0) s0 n h 13 x1 0 0 (by omega) j (by omega) (by omega) (by omega)) (fun q154 hq154 => ?_)
                    obtain ⟨jq154, xq154⟩ := hq154
                    have f671 := lit_1
                    refine Ok.ret ⟨jq154, ?_⟩
                    show ((hi q154 226 10).toInt = (hi h 226 10).toInt + 1 ∧ ((1) : Int32).toInt = 1)
                    omega
                  · have f672 := lit_8
                    have f673 := rgT (x1)
                    have f674 := lit_0
                    refine Ok.bind (sf_X12_token (h0 := h0) s0 n h 8 x1 0 0 (by omega) j (by omega) (by omega) (by omega)) (fun q152 hq152 => ?_)
                    obtain ⟨jq152, xq152⟩ := hq152
                    have f675 := lit_1
                    refine Ok.ret ⟨jq152, ?_⟩
                    show ((hi q152 226 10).toInt = (hi h 226 10).toInt + 1 ∧ ((1) : Int32).toInt = 1)
                    omega
          · have f676 := lit_45
            refine Ok.eq (fun c677 => ?_) (fun c677 => ?_)
            · have f678 := lit_42
              refine Ok.eq (fun c679 => ?_) (fun c679 => ?_)
              · have f680 := lit_47
                refine Ok.eq (fun c681 => ?_) (fun c681 => ?_)
                · have f682 := lit_60
                  refine Ok.eq (fun c683 => ?_) (fun c683 => ?_)
                  · have f684 := lit_13
                    have f685 := rgT (x1)
                    have f686 := lit_0
                    refine Ok.bind (sf_X12_token (h0 := h0) s0 n h 13 x1 0 0 (by omega) j (by omega) (by omega) (by omega)) (fun q146 hq146 => ?_)
                    obtain ⟨jq146, xq146⟩ := hq146
                    have f687 := lit_1
                    refine Ok.ret ⟨jq146, ?_⟩
                    show ((hi q146 226 10).toInt = (hi h 226 10).toInt + 1 ∧ ((1) : Int32).toInt = 1)
                    omega
                  · have f688 := lit_15
                    have f689 := rgT (x1)
                    have f690 := lit_0
                    refine Ok.bind (sf_X12_token (h0 := h0) s0 n h 15 x1 0 0 (by omega) j (by omega) (by omega) (by omega)) (fun q144 hq144 => ?_)
                    obtain ⟨jq144, xq144⟩ := hq144
                    have f691 := lit_1
                    refine Ok.ret ⟨jq144, ?_⟩
                    show ((hi q144 226 10).toInt = (hi h 226 10).toInt + 1 ∧ ((1) : Int32).toInt = 1)
                    omega
                · have f692 := lit_60
                  refine Ok.eq (fun c693 => ?_) (fun c693 => ?_)
                  · have f694 := lit_13
                    have f695 := rgT (x1)
                    have f696 := lit_0
                    refine Ok.bind (sf_X12_token (h0 := h0) s0 n h 13 x1 0 0 (by omega) j (by omega) (by omega) (by omega)) (fun q141 hq141 => ?_)
                    obtain ⟨jq141, xq141⟩ := hq141
                    have f697 := lit_1
                    refine Ok.ret ⟨jq141, ?_⟩
                    show ((hi q141 226 10).toInt = (hi h 226 10).toInt + 1 ∧ ((1) : Int32).toInt = 1)
                    omega
                  · have f698 := lit_10
                    have f699 := rgT (x1)
                    have f700 := lit_0
                    refine Ok.bind (sf_X12_token (h0 := h0) s0 n h 10 x1 0 0 (by omega) j (by omega) (by omega) (by omega)) (fun q139 hq139 => ?_)
                    obtain ⟨jq139, xq139⟩ := hq139
                    have f701 := lit_1
                    refine Ok.ret ⟨jq139, ?_⟩
                    show ((hi q139 226 10).toInt = (hi h 226 10).toInt + 1 ∧ ((1) : Int32).toInt = 1)
                    omega
              · have f702 := lit_47
                refine Ok.eq (fun c703 => ?_) (fun c703 => ?_)
                · have f704 := lit_60
                  refine Ok.eq (fun c705 => ?_) (fun c705 => ?_)
                  · have f706 := lit_13
                    have f707 := rgT (x1)
                    have f708 := lit_0
                    refine Ok.bind (sf_X12_token (h0 := h0) s0 n h 13 x1 0 0 (by omega) j (by omega) (by omega) (by omega)) (fun q135 hq135 => ?_)
                    obtain ⟨jq135, xq135⟩ := hq135
                    have f709 := lit_1
                    refine Ok.ret ⟨jq135, ?_⟩
                    show ((hi q135 226 10).toInt = (hi h 226 10).toInt + 1 ∧ ((1) : Int32).toInt = 1)
                    omega
                  · have f710 := lit_15
                    have f711 := rgT (x1)
                    have f712 := lit_0
                    refine Ok.bind (sf_X12_token (h0 := h0) s0 n h 15 x1 0 0 (by omega) j (by omega) (by omega) (by omega)) (fun q133 hq133 => ?_)
                    obtain ⟨jq133, xq133⟩ := hq133
                    have f713 := lit_1
                    refine Ok.ret ⟨jq133, ?_⟩
                    show ((hi q133 226 10).toInt = (hi h 226 10).toInt + 1 ∧ ((1) : Int32).toInt = 1)
                    omega
                · have f714 := lit_60
                  refine Ok.eq (fun c715 => ?_) (fun c715 => ?_)
                  · have f716 := lit_13
                    have f717 := rgT (x1)
                    have f718 := lit_0
                    refine Ok.bind (sf_X12_token (h0 := h0) s0 n h 13 x1 0 0 (by omega) j (by omega) (by omega) (by omega)) (fun q130 hq130 => ?_)
                    obtain ⟨jq130, xq130⟩ := hq130
                    have f719 := lit_1
                    refine Ok.ret ⟨jq130, ?_⟩
                    show ((hi q130 226 10).toInt = (hi h 226 10).toInt + 1 ∧ ((1) : Int32).toInt = 1)
                    omega
                  · have f720 := lit_9
                    have f721 := rgT (x1)
                    have f722 := lit_0
                    refine Ok.bind (sf_X12_token (h0 := h0) s0 n h 9 x1 0 0 (by omega) j (by omega) (by omega) (by omega)) (fun q128 hq128 => ?_)
                    obtain ⟨jq128, xq128⟩ := hq128
                    have f723 := lit_1
                    refine Ok.ret ⟨jq128, ?_⟩
                    show ((hi q128 226 10).toInt = (hi h 226 10).toInt + 1 ∧ ((1) : Int32).toInt = 1)
                    omega
            · have f724 := lit_42
              refine Ok.eq (fun c725 => ?_) (fun c725 => ?_)
              · have f726 := lit_47
                refine Ok.eq (fun c727 => ?_) (fun c727 => ?_)
                · have f728 := lit_60
                  refine Ok.eq (fun c729 => ?_) (fun c729 => ?_)
                  · have f730 := lit_13
                    have f731 := rgT (x1)
                    have f732 := lit_0
                    refine Ok.bind (sf_X12_token (h0 := h0) s0 n h 13 x1 0 0 (by omega) j (by omega) (by omega) (by omega)) (fun q123 hq123 => ?_)
                    obtain ⟨jq123, xq123⟩ := hq123
                    have f733 := lit_1
                    refine Ok.ret ⟨jq123, ?_⟩
                    show ((hi q123 226 10).toInt = (hi h 226 10).toInt + 1 ∧ ((1) : Int32).toInt = 1)
                    omega
                  · have f734 := lit_15
                    have f735 := rgT (x1)
                    have f736 := lit_0
                    refine Ok.bind (sf_X12_token (h0 := h0) s0 n h 15 x1 0 0 (by omega) j (by omega) (by omega) (by omega)) (fun q121 hq121 => ?_)
                    obtain ⟨jq121, xq121⟩ := hq121
                    have f737 := lit_1
                    refine Ok.ret ⟨jq121, ?_⟩
                    show ((hi q121 226 10).toInt = (hi h 226 10).toInt + 1 ∧ ((1) : Int32).toInt = 1)
                    omega
                · have f738 := lit_60
                  refine Ok.eq (fun c739 => ?_) (fun c739 => ?_)
                  · have f740 := lit_13
                    have f741 := rgT (x1)
                    have f742 := lit_0
                    refine Ok.bind (sf_X12_token (h0 := h0) s0 n h 13 x1 0 0 (by omega) j (by omega) (by omega) (by omega)) (fun q118 hq118 => ?_)
                    obtain ⟨jq118, xq118⟩ := hq118
                    have f743 := lit_1
                    refine Ok.ret ⟨jq118, ?_⟩
                    show ((hi q118 226 10).toInt = (hi h 226 10).toInt + 1 ∧ ((1) : Int32).toInt = 1)
                    omega
                  · have f744 := lit_10
                    have f745 := rgT (x1)
                    have f746 := lit_0
                    refine Ok.bind (sf_X12_token (h0 := h0) s0 n h 10 x1 0 0 (by omega) j (by omega) (by omega) (by omega)) (fun q116 hq116 => ?_)
                    obtain ⟨jq116, xq116⟩ := hq116
                    have f747 := lit_1
                    refine Ok.ret ⟨jq116, ?_⟩
                    show ((hi q116 226 10).toInt = (hi h 226 10).toInt + 1 ∧ ((1) : Int32).toInt = 1)
                    omega
              · have f748 := lit_47
                refine Ok.eq (fun c749 => ?_) (fun c749 => ?_)
                · have f750 := lit_60
                  refine Ok.eq (fun c751 => ?_) (fun c751 => ?_)
                  · have f752 := lit_13
                    have f753 := rgT (x1)
                    have f754 := lit_0
                    refine Ok.bind (sf_X12_token (h0 := h0) s0 n h 13 x1 0 0 (by omega) j (by omega) (by omega) (by omega)) (fun q112 hq112 => ?_)
                    obtain ⟨jq112, xq112⟩ := hq112
                    have f755 := lit_1
                    refine Ok.ret ⟨jq112, ?_⟩
                    show ((hi q112 226 10).toInt = (hi h 226 10).toInt + 1 ∧ ((1) : Int32).toInt = 1)
                    omega
                  · have f756 := lit_15
                    have f757 := rgT (x1)
                    have f758 := lit_0
                    refine Ok.bind (sf_X12_token (h0 := h0) s0 n h 15 x1 0 0 (by omega) j (by omega) (by omega) (by omega)) (fun q110 hq110 => ?_)
                    obtain ⟨jq110, xq110⟩ := hq110
                    have f759 := lit_1
                    refine Ok.ret ⟨jq110, ?_⟩
                    show ((hi q110 226 10).toInt = (hi h 226 10).toInt + 1 ∧ ((1) : Int32).toInt = 1)
                    omega
                · have f760 := lit_60
                  refine Ok.eq (fun c761 => ?_) (fun c761 => ?_)
                  · have f762 := lit_13
                    have f763 := rgT (x1)
                    have f764 := lit_0
                    refine Ok.bind (sf_X12_token (h0 := h0) s0 n h 13 x1 0 0 (by omega) j (by omega) (by omega) (by omega)) (fun q107 hq107 => ?_)
                    obtain ⟨jq107, xq107⟩ := hq107
                    have f765 := lit_1
                    refine Ok.ret ⟨jq107, ?_⟩
                    show ((hi q107 226 10).toInt = (hi h 226 10).toInt + 1 ∧ ((1) : Int32).toInt = 1)
                    omega
                  · have f766 := lit_7
                    have f767 := rgT (x1)
                    have f768 := lit_0
                    refine Ok.bind (sf_X12_token (h0 := h0) s0 n h 7 x1 0 0 (by omega) j (by omega) (by omega) (by omega)) (fun q105 hq105 => ?_)
                    obtain ⟨jq105, xq105⟩ := hq105
                    have f769 := lit_1
                    refine Ok.ret ⟨jq105, ?_⟩
                    show ((hi q105 226 10).toInt = (hi h 226 10).toInt + 1 ∧ ((1) : Int32).toInt = 1)
                    omega
        · have f770 := lit_43
          refine Ok.eq (fun c771 => ?_) (fun c771 => ?_)
          · have f772 := lit_45
            refine Ok.eq (fun c773 => ?_) (fun c773 => ?_)
            · have f774 := lit_42
              refine Ok.eq (fun c775 => ?_) (fun c775 => ?_)
              · have f776 := lit_47
                refine Ok.eq (fun c777 => ?_) (fun c777 => ?_)
                · have f778 := lit_60
                  refine Ok.eq (fun c779 => ?_) (fun c779 => ?_)
                  · have f780 := lit_13
                    have f781 := rgT (x1)
                    have f782 := lit_0
                    refine Ok.bind (sf_X12_token (h0 := h0) s0 n h 13 x1 0 0 (by omega) j (by omega) (by omega) (by omega)) (fun q98 hq98 => ?_)
                    obtain ⟨jq98, xq98⟩ := hq98
                    have f783 := lit_1
                    refine Ok.ret ⟨jq98, ?_⟩
                    show ((hi q98 226 10).toInt = (hi h 226 10).toInt + 1 ∧ ((1) : Int32).toInt = 1)
                    omega
                  · have f784 := lit_15
                    have f785 := rgT (x1)
                    have f786 := lit_0
                    refine Ok.bind (sf_X12_token (h0 := h0) s0 n h 15 x1 0 0 (by omega) j (by omega) (by omega) (by omega)) (fun q96 hq96 => ?_)
                    obtain ⟨jq96, xq96⟩ := hq96
                    have f787 := lit_1
                    refine Ok.ret ⟨jq96, ?_⟩
                    show ((hi q96 226 10).toInt = (hi h 226 10).toInt + 1 ∧ ((1) : Int32).toInt = 1)
                    omega
                · have f788 := lit_60
                  refine Ok.eq (fun c789 => ?_) (fun c789 => ?_)
                  · have f790 := lit_13
                    have f791 := rgT (x1)
                    have f792 := lit_0
                    refine Ok.bind (sf_X12_token (h0 := h0) s0 n h 13 x1 0 0 (by omega) j (by omega) (by omega) (by omega)) (fun q93 hq93 => ?_)
                    obtain ⟨jq93, xq93⟩ := hq93
                    have f793 := lit_1
                    refine Ok.ret ⟨jq93, ?_⟩
                    show ((hi q93 226 10).toInt = (hi h 226 10).toInt + 1 ∧ ((1) : Int32).toInt = 1)
                    omega
                  · have f794 := lit_10
                    have f795 := rgT (x1)
                    have f796 := lit_0
                    refine Ok.bind (sf_X12_token (h0 := h0) s0 n h 10 x1 0 0 (by omega) j (by omega) (by omega) (by omega)) (fun q91 hq91 => ?_)
                    obtain ⟨jq91, xq91⟩ := hq91
                    have f797 := lit_1
                    refine Ok.ret ⟨jq91, ?_⟩
                    show ((hi q91 226 10).toInt = (hi h 226 10).toInt + 1 ∧ ((1) : Int32).toInt = 1)
                    omega
              · have f798 := lit_47
                refine Ok.eq (fun c799 => ?_) (fun c799 => ?_)
                · have f800 := lit_60
                  refine Ok.eq (fun c801 => ?_) (fun c801 => ?_)
                  · have f802 := lit_13
                    have f803 := rgT (x1)
                    have f804 := lit_0
                    refine Ok.bind (sf_X12_token (h0 := h0) s0 n h 13 x1 0 0 (by omega) j (by omega) (by omega) (by omega)) (fun q87 hq87 => ?_)
                    obtain ⟨jq87, xq87⟩ := hq87
                    have f805 := lit_1
                    refine Ok.ret ⟨jq87, ?_⟩
                    show ((hi q87 226 10).toInt = (hi h 226 10).toInt + 1 ∧ ((1) : Int32).toInt = 1)
                    omega
                  · have f806 := lit_15
                    have f807 := rgT (x1)
                    have f808 := lit_0
                    refine Ok.bind (sf_X12_token (h0 := h0) s0 n h 15 x1 0 0 (by omega) j (by omega) (by omega) (by omega)) (fun q85 hq85 => ?_)
                    obtain ⟨jq85, xq85⟩ := hq85
                    have f809 := lit_1
                    refine Ok.ret ⟨jq85, ?_⟩
                    show ((hi q85 226 10).toInt = (hi h 226 10).toInt + 1 ∧ ((1) : Int32).toInt = 1)
                    omega
                · have f810 := lit_60
                  refine Ok.eq (fun c811 => ?_) (fun c811 => ?_)
                  · have f812 := lit_13
                    have f813 := rgT (x1)
                    have f814 := lit_0
                    refine Ok.bind (sf_X12_token (h0 := h0) s0 n h 13 x1 0 0 (by omega) j (by omega) (by omega) (by omega)) (fun q82 hq82 => ?_)
                    obtain ⟨jq82, xq82⟩ := hq82
                    have f815 := lit_1
                    refine Ok.ret ⟨jq82, ?_⟩
                    show ((hi q82 226 10).toInt = (hi h 226 10).toInt + 1 ∧ ((1) : Int32).toInt = 1)
                    omega
                  · have f816 := lit_9
                    have f817 := rgT (x1)
                    have f818 := lit_0
                    refine Ok.bind (sf_X12_token (h0 := h0) s0 n h 9 x1 0 0 (by omega) j (by omega) (by omega) (by omega)) (fun q80 hq80 => ?_)
                    obtain ⟨jq80, xq80⟩ := hq80
                    have f819 := lit_1
                    refine Ok.ret ⟨jq80, ?_⟩
                    show ((hi q80 226 10).toInt = (hi h 226 10).toInt + 1 ∧ ((1) : Int32).toInt = 1)
                    omega
            · have f820 := lit_42
              refine Ok.eq (fun c821 => ?_) (fun c821 => ?_)
              · have f822 := lit_47
                refine Ok.eq (fun c823 => ?_) (fun c823 => ?_)
                · have f824 := lit_60
                  refine Ok.eq (fun c825 => ?_) (fun c825 => ?_)
                  · have f826 := lit_13
                    have f827 := rgT (x1)
                    have f828 := lit_0
                    refine Ok.bind (sf_X12_token (h0 := h0) s0 n h 13 x1 0 0 (by omega) j (by omega) (by omega) (by omega)) (fun q75 hq75 => ?_)
                    obtain ⟨jq75, xq75⟩ := hq75
                    have f829 := lit_1
                    refine Ok.ret ⟨jq75, ?_⟩
                    show ((hi q75 226 10).toInt = (hi h 226 10).toInt + 1 ∧ ((1) : Int32).toInt = 1)
                    omega
                  · have f830 := lit_15
                    have f831 := rgT (x1)
                    have f832 := lit_0
                    refine Ok.bind (sf_X12_token (h0 := h0) s0 n h 15 x1 0 0 (by omega) j (by omega) (by omega) (by omega)) (fun q73 hq73 => ?_)
                    obtain ⟨jq73, xq73⟩ := hq73
                    have f833 := lit_1
                    refine Ok.ret ⟨jq73, ?_⟩
                    show ((hi q73 226 10).toInt = (hi h 226 10).toInt + 1 ∧ ((1) : Int32).toInt = 1)
                    omega
                · have f834 := lit_60
                  refine Ok.eq (fun c835 => ?_) (fun c835 => ?_)
                  · have f836 := lit_13
                    have f837 := rgT (x1)
                    have f838 := lit_0
                    refine Ok.bind (sf_X12_token (h0 := h0) s0 n h 13 x1 0 0 (by omega) j (by omega) (by omega) (by omega)) (fun q70 hq70 => ?_)
                    obtain ⟨jq70, xq70⟩ := hq70
                    have f839 := lit_1
                    refine Ok.ret ⟨jq70, ?_⟩
                    show ((hi q70 226 10).toInt = (hi h 226 10).toInt + 1 ∧ ((1) : Int32).toInt = 1)
                    omega
                  · have f840 := lit_10
                    have f841 := rgT (x1)
                    have f842 := lit_0
                    refine Ok.bind (sf_X12_token (h0 := h0) s0 n h 10 x1 0 0 (by omega) j (by omega) (by omega) (by omega)) (fun q68 hq68 => ?_)
                    obtain ⟨jq68, xq68⟩ := hq68
                    have f843 := lit_1
                    refine Ok.ret ⟨jq68, ?_⟩
                    show ((hi q68 226 10).toInt = (hi h 226 10).toInt + 1 ∧ ((1) : Int32).toInt = 1)
                    omega
              · have f844 := lit_47
                refine Ok.eq (fun c845 => ?_) (fun c845 => ?_)
                · have f846 := lit_60
                  refine Ok.eq (fun c847 => ?_) (fun c847 => ?_)
                  · have f848 := lit_13
                    have f849 := rgT (x1)
                    have f850 := lit_0
                    refine Ok.bind (sf_X12_token (h0 := h0) s0 n h 13 x1 0 0 (by omega) j (by omega) (by omega) (by omega)) (fun q64 hq64 => ?_)
                    obtain ⟨jq64, xq64⟩ := hq64
                    have f851 := lit_1
                    refine Ok.ret ⟨jq64, ?_⟩
                    show ((hi q64 226 10).toInt = (hi h 226 10).toInt + 1 ∧ ((1) : Int32).toInt = 1)
                    omega
                  · have f852 := lit_15
                    have f853 := rgT (x1)
                    have f854 := lit_0
                    refine Ok.bind (sf_X12_token (h0 := h0) s0 n h 15 x1 0 0 (by omega) j (by omega) (by omega) (by omega)) (fun q62 hq62 => ?_)
                    obtain ⟨jq62, xq62⟩ := hq62
                    have f855 := lit_1
                    refine Ok.ret ⟨jq62, ?_⟩
                    show ((hi q62 226 10).toInt = (hi h 226 10).toInt + 1 ∧ ((1) : Int32).toInt = 1)
                    omega
                · have f856 := lit_60
                  refine Ok.eq (fun c857 => ?_) (fun c857 => ?_)
                  · have f858 := lit_13
                    have f859 := rgT (x1)
                    have f860 := lit_0
                    refine Ok.bind (sf_X12_token (h0 := h0) s0 n h 13 x1 0 0 (by omega) j (by omega) (by omega) (by omega)) (fun q59 hq59 => ?_)
                    obtain ⟨jq59, xq59⟩ := hq59
                    have f861 := lit_1
                    refine Ok.ret ⟨jq59, ?_⟩
                    show ((hi q59 226 10).toInt = (hi h 226 10).toInt + 1 ∧ ((1) : Int32).toInt = 1)
                    omega
                  · have f862 := lit_8
                    have f863 := rgT (x1)
                    have f864 := lit_0
                    refine Ok.bind (sf_X12_token (h0 := h0) s0 n h 8 x1 0 0 (by omega) j (by omega) (by omega) (by omega)) (fun q57 hq57 => ?_)
                    obtain ⟨jq57, xq57⟩ := hq57
                    have f865 := lit_1
                    refine Ok.ret ⟨jq57, ?_⟩
                    show ((hi q57 226 10).toInt = (hi h 226 10).toInt + 1 ∧ ((1) : Int32).toInt = 1)
                    omega
          · have f866 := lit_45
            refine Ok.eq (fun c867 => ?_) (fun c867 => ?_)
            · have f868 := lit_42
              refine Ok.eq (fun c869 => ?_) (fun c869 => ?_)
              · have f870 := lit_47
                refine Ok.eq (fun c871 => ?_) (fun c871 => ?_)
                · have f872 := lit_60
                  refine Ok.eq (fun c873 => ?_) (fun c873 => ?_)
                  · have f874 := lit_13
                    have f875 := rgT (x1)
                    have f876 := lit_0
                    refine Ok.bind (sf_X12_token (h0 := h0) s0 n h 13 x1 0 0 (by omega) j (by omega) (by omega) (by omega)) (fun q51 hq51 => ?_)
                    obtain ⟨jq51, xq51⟩ := hq51
                    have f877 := lit_1
                    refine Ok.ret ⟨jq51, ?_⟩
                    show ((hi q51 226 10).toInt = (hi h 226 10).toInt + 1 ∧ ((1) : Int32).toInt = 1)
                    omega
                  · have f878 := lit_15
                    have f879 := rgT (x1)
                    have f880 := lit_0
                    refine Ok.bind (sf_X12_token (h0 := h0) s0 n h 15 x1 0 0 (by omega) j (by omega) (by omega) (by omega)) (fun q49 hq49 => ?_)
                    obtain ⟨jq49, xq49⟩ := hq49
                    have f881 := lit_1
                    refine Ok.ret ⟨jq49, ?_⟩
                    show ((hi q49 226 10).toInt = (hi h 226 10).toInt + 1 ∧ ((1) : Int32).toInt = 1)
                    omega
                · have f882 := lit_60
                  refine Ok.eq (fun c883 => ?_) (fun c883 => ?_)
                  · have f884 := lit_13
                    have f885 := rgT (x1)
                    have f886 := lit_0
                    refine Ok.bind (sf_X12_token (h0 := h0) s0 n h 13 x1 0 0 (by omega) j (by omega) (by omega) (by omega)) (fun q46 hq46 => ?_)
                    obtain ⟨jq46, xq46⟩ := hq46
                    have f887 := lit_1
                    refine Ok.ret ⟨jq46, ?_⟩
                    show ((hi q46 226 10).toInt = (hi h 226 10).toInt + 1 ∧ ((1) : Int32).toInt = 1)
                    omega
                  · have f888 := lit_10
                    have f889 := rgT (x1)
                    have f890 := lit_0
                    refine Ok.bind (sf_X12_token (h0 := h0) s0 n h 10 x1 0 0 (by omega) j (by omega) (by omega) (by omega)) (fun q44 hq44 => ?_)
                    obtain ⟨jq44, xq44⟩ := hq44
                    have f891 := lit_1
                    refine Ok.ret ⟨jq44, ?_⟩
                    show ((hi q44 226 10).toInt = (hi h 226 10).toInt + 1 ∧ ((1) : Int32).toInt = 1)
                    omega
              · have f892 := lit_47
                refine Ok.eq (fun c893 => ?_) (fun c893 => ?_)
                · have f894 := lit_60
                  refine Ok.eq (fun c895 => ?_) (fun c895 => ?_)
                  · have f896 := lit_13
                    have f897 := rgT (x1)
                    have f898 := lit_0
                    refine Ok.bind (sf_X12_token (h0 := h0) s0 n h 13 x1 0 0 (by omega) j (by omega) (by omega) (by omega)) (fun q40 hq40 => ?_)
                    obtain ⟨jq40, xq40⟩ := hq40
                    have f899 := lit_1
                    refine Ok.ret ⟨jq40, ?_⟩
                    show ((hi q40 226 10).toInt = (hi h 226 10).toInt + 1 ∧ ((1) : Int32).toInt = 1)
                    omega
                  · have f900 := lit_15
                    have f901 := rgT (x1)
                    have f902 := lit_0
                    refine Ok.bind (sf_X12_token (h0 := h0) s0 n h 15 x1 0 0 (by omega) j (by omega) (by omega) (by omega)) (fun q38 hq38 => ?_)
                    obtain ⟨jq38, xq38⟩ := hq38
                    have f903 := lit_1
                    refine Ok.ret ⟨jq38, ?_⟩
                    show ((hi q38 226 10).toInt = (hi h 226 10).toInt + 1 ∧ ((1) : Int32).toInt = 1)
                    omega
                · have f904 := lit_60
                  refine Ok.eq (fun c905 => ?_) (fun c905 => ?_)
                  · have f906 := lit_13
                    have f907 := rgT (x1)
                    have f908 := lit_0
                    refine Ok.bind (sf_X12_token (h0 := h0) s0 n h 13 x1 0 0 (by omega) j (by omega) (by omega) (by omega)) (fun q35 hq35 => ?_)
                    obtain ⟨jq35, xq35⟩ := hq35
                    have f909 := lit_1
                    refine Ok.ret ⟨jq35, ?_⟩
                    show ((hi q35 226 10).toInt = (hi h 226 10).toInt + 1 ∧ ((1) : Int32).toInt = 1)
                    omega
                  · have f910 := lit_9
                    have f911 := rgT (x1)
                    have f912 := lit_0
                    refine Ok.bind (sf_X12_token (h0 := h0) s0 n h 9 x1 0 0 (by omega) j (by omega) (by omega) (by omega)) (fun q33 hq33 => ?_)
                    obtain ⟨jq33, xq33⟩ := hq33
                    have f913 := lit_1
                    refine Ok.ret ⟨jq33, ?_⟩
                    show ((hi q33 226 10).toInt = (hi h 226 10).toInt + 1 ∧ ((1) : Int32).toInt = 1)
                    omega
            · have f914 := lit_42
              refine Ok.eq (fun c915 => ?_) (fun c915 => ?_)
              · have f916 := lit_47
                refine Ok.eq (fun c917 => ?_) (fun c917 => ?_)
                · have f918 := lit_60
                  refine Ok.eq (fun c919 => ?_) (fun c919 => ?_)
                  · have f920 := lit_13
                    have f921 := rgT (x1)
                    have f922 := lit_0
                    refine Ok.bind (sf_X12_token (h0 := h0) s0 n h 13 x1 0 0 (by omega) j (by omega) (by omega) (by omega)) (fun q28 hq28 => ?_)
                    obtain ⟨jq28, xq28⟩ := hq28
                    have f923 := lit_1
                    refine Ok.ret ⟨jq28, ?_⟩
                    show ((hi q28 226 10).toInt = (hi h 226 10).toInt + 1 ∧ ((1) : Int32).toInt = 1)
                    omega
                  · have f924 := lit_15
                    have f925 := rgT (x1)
                    have f926 := lit_0
                    refine Ok.bind (sf_X12_token (h0 := h0) s0 n h 15 x1 0 0 (by omega) j (by omega) (by omega) (by omega)) (fun q26 hq26 => ?_)
                    obtain ⟨jq26, xq26⟩ := hq26
                    have f927 := lit_1
                    refine Ok.ret ⟨jq26, ?_⟩
                    show ((hi q26 226 10).toInt = (hi h 226 10).toInt + 1 ∧ ((1) : Int32).toInt = 1)
                    omega
                · have f928 := lit_60
                  refine Ok.eq (fun c929 => ?_) (fun c929 => ?_)
                  · have f930 := lit_13
                    have f931 := rgT (x1)
                    have f932 := lit_0
                    refine Ok.bind (sf_X12_token (h0 := h0) s0 n h 13 x1 0 0 (by omega) j (by omega) (by omega) (by omega)) (fun q23 hq23 => ?_)
                    obtain ⟨jq23, xq23⟩ := hq23
                    have f933 := lit_1
                    refine Ok.ret ⟨jq23, ?_⟩
                    show ((hi q23 226 10).toInt = (hi h 226 10).toInt + 1 ∧ ((1) : Int32).toInt = 1)
                    omega
                  · have f934 := lit_10
                    have f935 := rgT (x1)
                    have f936 := lit_0
                    refine Ok.bind (sf_X12_token (h0 := h0) s0 n h 10 x1 0 0 (by omega) j (by omega) (by omega) (by omega)) (fun q21 hq21 => ?_)
                    obtain ⟨jq21, xq21⟩ := hq21
                    have f937 := lit_1
                    refine Ok.ret ⟨jq21, ?_⟩
                    show ((hi q21 226 10).toInt = (hi h 226 10).toInt + 1 ∧ ((1) : Int32).toInt = 1)
                    omega
              · have f938 := lit_47
                refine Ok.eq (fun c939 => ?_) (fun c939 => ?_)
                · have f940 := lit_60
                  refine Ok.eq (fun c941 => ?_) (fun c941 => ?_)
                  · have f942 := lit_13
                    have f943 := rgT (x1)
                    have f944 := lit_0
                    refine Ok.bind (sf_X12_token (h0 := h0) s0 n h 13 x1 0 0 (by omega) j (by omega) (by omega) (by omega)) (fun q17 hq17 => ?_)
                    obtain ⟨jq17, xq17⟩ := hq17
                    have f945 := lit_1
                    refine Ok.ret ⟨jq17, ?_⟩
                    show ((hi q17 226 10).toInt = (hi h 226 10).toInt + 1 ∧ ((1) : Int32).toInt = 1)
                    omega
                  · have f946 := lit_15
                    have f947 := rgT (x1)
                    have f948 := lit_0
                    refine Ok.bind (sf_X12_token (h0 := h0) s0 n h 15 x1 0 0 (by omega) j (by omega) (by omega) (by omega)) (fun q15 hq15 => ?_)
                    obtain ⟨jq15, xq15⟩ := hq15
                    have f949 := lit_1
                    refine Ok.ret ⟨jq15, ?_⟩
                    show ((hi q15 226 10).toInt = (hi h 226 10).toInt + 1 ∧ ((1) : Int32).toInt = 1)
                    omega
                · have f950 := lit_60
                  refine Ok.eq (fun c951 => ?_) (fun c951 => ?_)
                  · have f952 := lit_13
                    have f953 := rgT (x1)
                    have f954 := lit_0
                    refine Ok.bind (sf_X12_token (h0 := h0) s0 n h 13 x1 0 0 (by omega) j (by omega) (by omega) (by omega)) (fun q12 hq12 => ?_)
                    obtain ⟨jq12, xq12⟩ := hq12
                    have f955 := lit_1
                    refine Ok.ret ⟨jq12, ?_⟩
                    show ((hi q12 226 10).toInt = (hi h 226 10).toInt + 1 ∧ ((1) : Int32).toInt = 1)
                    omega
                  · have f956 := lit_3
                    have f957 := rgT (x1)
                    have f958 := lit_0
                    refine Ok.bind (sf_X12_token (h0 := h0) s0 n h 3 x1 0 0 (by omega) j (by omega) (by omega) (by omega)) (fun q10 hq10 => ?_)
                    obtain ⟨jq10, xq10⟩ := hq10
                    have f959 := lit_1
                    refine Ok.ret ⟨jq10, ?_⟩
                    show ((hi q10 226 10).toInt = (hi h 226 10).toInt + 1 ∧ ((1) : Int32).toInt = 1)
                    omega
set_option maxRecDepth 100000 in
set_option maxHeartbeats 4000000 in
theorem sf_X12_appends {h0 : Hp} (s0 : 0 ≤ (hi h0 226 4).toInt ∧ (hi h0 226 4).toInt ≤ 2000) (n : Nat) (h : Hp) (x1 : Int64) (x2 : Int32) (hn : 1 ≤ n) (j : jC h0 h) : Ok (F_X12_appends n h x1 x2) (fun q => q.2 = h ∧ True) := by
  unfold F_X12_appends
  have f1 := rgT (x2)
  have f2 := lit_0
  refine Ok.eq (fun c3 => ?_) (fun c3 => ?_)
  · exact Ok.ret ⟨rfl, trivial⟩
  · exact Ok.ret ⟨rfl, trivial⟩
set_option maxRecDepth 100000 in
set_option maxHeartbeats 4000000 in
theorem sfG_X12_cut_7 {h0 : Hp} (s0 : 0 ≤ (hi h0 226 4).toInt ∧ (hi h0 226 4).toInt ≤ 2000) : ∀ (n : Nat), (∀ (h : Hp) (l1 : Int32) (l2 : Int32) (l3 : Int32) (l4i : Int32) (l4l : Int64) (l6 : Int32) (l7 : Int32), jC h0 h → 0 ≤ l1.toInt → l1.toInt ≤ (hi h 226 4).toInt → 0 ≤ (hi h 226 10).toInt → (hi h 226 10).toInt ≤ 401 → (1 : Int) < n → (1 : Int) + (20000 * (403 - (hi h 226 10).toInt) + 2 * (2001 - l1.toInt)) < n → Ok (W_X12_cut n 7 h l1 l2 l3 l4i l4l l6 l7) (fun q => jC h0 q ∧ True)) ∧ (∀ (h : Hp) (l1 : Int32) (l2 : Int32) (l3 : Int32) (l4i : Int32) (l4l : Int64) (l6 : Int32) (l7 : Int32), jC h0 h → 0 ≤ l1.toInt → 0 ≤ l3.toInt → l1.toInt + l3.toInt ≤ (hi h 226 4).toInt → 0 ≤ (hi h 226 10).toInt → (hi h 226 10).toInt ≤ 400 → (1 : Int) < n → (1 : Int) + (20000 * (403 - (hi h 226 10).toInt) - 5000 + (2001 - l1.toInt - l3.toInt)) < n → Ok (W_X12_cut n 85 h l1 l2 l3 l4i l4l l6 l7) (fun q => jC h0 q ∧ True)) ∧ (∀ (h : Hp) (l1 : Int32) (l2 : Int32) (l3 : Int32) (l4i : Int32) (l4l : Int64) (l6 : Int32) (l7 : Int32), jC h0 h → 0 ≤ l1.toInt → 0 ≤ l3.toInt → l1.toInt + l3.toInt ≤ (hi h 226 4).toInt → 0 ≤ (hi h 226 10).toInt → (hi h 226 10).toInt ≤ 400 → 0 ≤ l6.toInt → 0 ≤ l7.toInt → l7.toInt ≤ 22 → (1 : Int) < n → (1 : Int) + (20000 * (403 - (hi h 226 10).toInt) - 8000 + (22 - l7.toInt)) < n → Ok (W_X12_cut n 146 h l1 l2 l3 l4i l4l l6 l7) (fun q => jC h0 q ∧ True)) ∧ (∀ (h : Hp) (l1 : Int32) (l2 : Int32) (l3 : Int32) (l4i : Int32) (l4l : Int64) (l6 : Int32) (l7 : Int32), jC h0 h → 0 ≤ l1.toInt → 0 ≤ l3.toInt → l1.toInt + l3.toInt ≤ (hi h 226 4).toInt → 0 ≤ (hi h 226 10).toInt → (hi h 226 10).toInt ≤ 400 → (1 : Int) < n → (1 : Int) + (20000 * (403 - (hi h 226 10).toInt) - 5000 + (2001 - l1.toInt - l3.toInt)) < n → Ok (W_X12_cut n 208 h l1 l2 l3 l4i l4l l6 l7) (fun q => jC h0 q ∧ True)) := by
  intro n
  induction n with
  | zero => exact ⟨by intro h l1 l2 l3 l4i l4l l6 l7 j i0 i1 i2 i3 hB hM; exfalso; omega, by intro h l1 l2 l3 l4i l4l l6 l7 j i0 i1 i2 i3 i4 hB hM; exfalso; omega, by intro h l1 l2 l3 l4i l4l l6 l7 j i0 i1 i2 i3 i4 i5 i6 i7 hB hM; exfalso; omega, by intro h l1 l2 l3 l4i l4l l6 l7 j i0 i1 i2 i3 i4 hB hM; exfalso; omega⟩
  | succ n ih =>
    refine ⟨?_, ?_, ?_, ?_⟩
    · intro h l1 l2 l3 l4i l4l l6 l7 j i0 i1 i2 i3 hB hM
      rw [u_X12_cut]
      have sz0 := szR s0 j
      refine Ok.pos rfl ?_
      have f1 := lit_400
      have f2 := rgT (hi h 226 10)
      refine Ok.lt (fun c3 => ?_) (fun c3 => ?_)
      · exact Ok.ret ⟨j, trivial⟩
      · have f4 := rgT (l1)
        have f5 := szR s0 j
        refine Ok.bind (sf_X12_byteAt (h0 := h0) s0 n h l1 (by omega) j (by omega)) (fun q2 hq2 => ?_)
        obtain ⟨eq2, xq2⟩ := hq2
        rw [eq2]
        have f6 := rgT (hi h 226 4)
        refine Ok.lt (fun c7 => ?_) (fun c7 => ?_)
        · have f8 := rgT (q2.1)
          have f9 := lit_9
          refine Ok.eq (fun c10 => ?_) (fun c10 => ?_)
          · have f11 := lit_1
            first | have f12 := adT (l1) (1) (by omega) (by omega) | have f12 := adT (l1) (1)
            have f13 := rgT (l1 + 1)
            exact ih.1 h (l1 + 1) 0 0 0 0 0 0 j (by omega) (by omega) (by omega) (by omega) (by omega) (by omega)
          · have f14 := lit_10
            refine Ok.eq (fun c15 => ?_) (fun c15 => ?_)
            · have f16 := lit_1
              first | have f17 := adT (l1) (1) (by omega) (by omega) | have f17 := adT (l1) (1)
              have f18 := rgT (l1 + 1)
              exact ih.1 h (l1 + 1) 0 0 0 0 0 0 j (by omega) (by omega) (by omega) (by omega) (by omega) (by omega)
            · have f19 := lit_13
              refine Ok.eq (fun c20 => ?_) (fun c20 => ?_)
              · have f21 := lit_1
                first | have f22 := adT (l1) (1) (by omega) (by omega) | have f22 := adT (l1) (1)
                have f23 := rgT (l1 + 1)
                exact ih.1 h (l1 + 1) 0 0 0 0 0 0 j (by omega) (by omega) (by omega) (by omega) (by omega) (by omega)
              · have f24 := lit_32
                refine Ok.eq (fun c25 => ?_) (fun c25 => ?_)
                · have f26 := lit_1
                  first | have f27 := adT (l1) (1) (by omega) (by omega) | have f27 := adT (l1) (1)
                  have f28 := rgT (l1 + 1)
                  exact ih.1 h (l1 + 1) 0 0 0 0 0 0 j (by omega) (by omega) (by omega) (by omega) (by omega) (by omega)
                · refine Ok.bind (sf_X12_isLetter (h0 := h0) s0 n h q2.1 (by omega) j ) (fun q9 hq9 => ?_)
                  obtain ⟨eq9, xq9⟩ := hq9
                  rw [eq9]
                  have f29 := rgT (q9.1)
                  have f30 := lit_0
                  refine Ok.eq (fun c31 => ?_) (fun c31 => ?_)
                  · refine Ok.bind (sf_X12_isDigit (h0 := h0) s0 n h q2.1 (by omega) j ) (fun q12 hq12 => ?_)
                    obtain ⟨eq12, xq12⟩ := hq12
                    rw [eq12]
                    have f32 := rgT (q12.1)
                    refine Ok.eq (fun c33 => ?_) (fun c33 => ?_)
                    · have f34 := lit_1
                      first | have f35 := adT (l1) (1) (by omega) (by omega) | have f35 := adT (l1) (1)
                      have f36 := rgT (l1 + 1)
                      refine Ok.bind (sf_X12_byteAt (h0 := h0) s0 n h (l1 + 1) (by omega) j (by omega)) (fun q15 hq15 => ?_)
                      obtain ⟨eq15, xq15⟩ := hq15
                      rw [eq15]
                      have f37 := rgT (q15.1)
                      refine Ok.bind (sf_X12_sign (h0 := h0) s0 n h l1 q2.1 q15.1 (by omega) j (by omega) (by omega)) (fun q17 hq17 => ?_)
                      obtain ⟨jq17, xq17⟩ := hq17
                      have f38 := rgT (q17.1)
                      first | have f39 := adT (l1) (q17.1) (by omega) (by omega) | have f39 := adT (l1) (q17.1)
                      have f40 := rgT (l1 + q17.1)
                      have f41 := szR s0 jq17
                      exact ih.1 q17.2 (l1 + q17.1) 0 0 0 0 0 0 jq17 (by omega) (by omega) (by omega) (by omega) (by omega) (by omega)
                    · exact ih.2.2.2 h l1 q2.1 0 0 0 0 0 j (by omega) (by omega) (by omega) (by omega) (by omega) (by omega) (by omega)
                  · exact ih.2.1 h l1 q2.1 0 0 0 0 0 j (by omega) (by omega) (by omega) (by omega) (by omega) (by omega) (by omega)
        · have f42 := lit_0
          refine Ok.bind (sf_X12_token (h0 := h0) s0 n h 0 (hi h 226 4) 0 0 (by omega) j (by omega) (by omega) (by omega)) (fun q19 hq19 => ?_)
          obtain ⟨jq19, xq19⟩ := hq19
          exact Ok.ret ⟨jq19, trivial⟩
    · intro h l1 l2 l3 l4i l4l l6 l7 j i0 i1 i2 i3 i4 hB hM
      rw [u_X12_cut]
      have sz0 := szR s0 j
      refine Ok.neg (by decide) ?_
      refine Ok.pos rfl ?_
      have f1 := rgT (l1)
      have f2 := rgT (l3)
      first | have f3 := adT (l1) (l3) (by omega) (by omega) | have f3 := adT (l1) (l3)
      have f4 := rgT (l1 + l3)
      have f5 := szR s0 j
      refine Ok.bind (sf_X12_byteAt (h0 := h0) s0 n h (l1 + l3) (by omega) j (by omega)) (fun q21 hq21 => ?_)
      obtain ⟨eq21, xq21⟩ := hq21
      rw [eq21]
      have f6 := rgT (q21.1)
      refine Ok.bind (sf_X12_isLetter (h0 := h0) s0 n h q21.1 (by omega) j ) (fun q23 hq23 => ?_)
      obtain ⟨eq23, xq23⟩ := hq23
      rw [eq23]
      have f7 := rgT (q23.1)
      have f8 := lit_0
      refine Ok.eq (fun c9 => ?_) (fun c9 => ?_)
      · have f10 := lit_8
        refine Ok.le (fun c11 => ?_) (fun c11 => ?_)
        · refine Ok.lt (fun c12 => ?_) (fun c12 => ?_)
          · have f13 := lit_1
            refine Ok.bind (sf_X12_token (h0 := h0) s0 n h 1 l1 0 l4l (by omega) j (by omega) (by omega) (by omega)) (fun q28 hq28 => ?_)
            obtain ⟨jq28, xq28⟩ := hq28
            have f14 := szR s0 jq28
            exact ih.1 q28 (l1 + l3) 0 0 0 0 0 0 jq28 (by omega) (by omega) (by omega) (by omega) (by omega) (by omega)
          · have f15 := lit_1
            exact ih.2.2.1 h l1 l2 l3 0 l4l 1 0 j (by omega) (by omega) (by omega) (by omega) (by omega) (by omega) (by omega) (by omega) (by omega) (by omega)
        · refine Ok.lt (fun c16 => ?_) (fun c16 => ?_)
          · have f17 := lit_3
            refine Ok.bind (sf_X12_token (h0 := h0) s0 n h 3 l1 0 l4l (by omega) j (by omega) (by omega) (by omega)) (fun q31 hq31 => ?_)
            obtain ⟨jq31, xq31⟩ := hq31
            have f18 := szR s0 jq31
            exact ih.1 q31 (l1 + l3) 0 0 0 0 0 0 jq31 (by omega) (by omega) (by omega) (by omega) (by omega) (by omega)
          · have f19 := lit_3
            exact ih.2.2.1 h l1 l2 l3 0 l4l 3 0 j (by omega) (by omega) (by omega) (by omega) (by omega) (by omega) (by omega) (by omega) (by omega) (by omega)
      · have f20 := lit_8
        refine Ok.le (fun c21 => ?_) (fun c21 => ?_)
        · have f22 := lit_1
          first | have f23 := adT (l3) (1) (by omega) (by omega) | have f23 := adT (l3) (1)
          have f24 := rgT (l3 + 1)
          exact ih.2.1 h l1 l2 (l3 + 1) 0 l4l 0 0 j (by omega) (by omega) (by omega) (by omega) (by omega) (by omega) (by omega)
        · refine Ok.bind (sf_X12_byteAt (h0 := h0) s0 n h (l1 + l3) (by omega) j (by omega)) (fun q34 hq34 => ?_)
          obtain ⟨eq34, xq34⟩ := hq34
          rw [eq34]
          refine Ok.bind (sf_X12_appends (h0 := h0) s0 n h l4l q34.1 (by omega) j ) (fun q36 hq36 => ?_)
          obtain ⟨eq36, xq36⟩ := hq36
          rw [eq36]
          have f25 := lit_1
          first | have f26 := adT (l3) (1) (by omega) (by omega) | have f26 := adT (l3) (1)
          have f27 := rgT (l3 + 1)
          exact ih.2.1 h l1 l2 (l3 + 1) 0 q36.1 0 0 j (by omega) (by omega) (by omega) (by omega) (by omega) (by omega) (by omega)
    · intro h l1 l2 l3 l4i l4l l6 l7 j i0 i1 i2 i3 i4 i5 i6 i7 hB hM
      rw [u_X12_cut]
      have sz0 := szR s0 j
      refine Ok.neg (by decide) ?_
      refine Ok.neg (by decide) ?_
      refine Ok.pos rfl ?_
      have f1 := lit_22
      have f2 := rgT (l7)
      refine Ok.le (fun c3 => ?_) (fun c3 => ?_)
      · have f4 := rgT (l6)
        have f5 := rgT (l1)
        have f6 := lit_0
        refine Ok.bind (sf_X12_token (h0 := h0) s0 n h l6 l1 0 l4l (by omega) j (by omega) (by omega) (by omega)) (fun q39 hq39 => ?_)
        obtain ⟨jq39, xq39⟩ := hq39
        have f7 := rgT (l3)
        first | have f8 := adT (l1) (l3) (by omega) (by omega) | have f8 := adT (l1) (l3)
        have f9 := rgT (l1 + l3)
        have f10 := szR s0 jq39
        exact ih.1 q39 (l1 + l3) 0 0 0 0 0 0 jq39 (by omega) (by omega) (by omega) (by omega) (by omega) (by omega)
      · refine Ok.chk (ixT (by omega) (by omega)) (fun c11 => ?_)
        have f12 := rgT (lg_cmp (hl h 233 (Int32.toNatClampNeg l7)) l4l)
        have f13 := lit_0
        refine Ok.eq (fun c14 => ?_) (fun c14 => ?_)
        · have f15 := rgT (l1)
          have f16 := rgT (l3)
          have f17 := lit_20
          first | have f18 := adT (20) (l7) (by omega) (by omega) | have f18 := adT (20) (l7)
          have f19 := rgT (20 + l7)
          have f20 := lit_1
          first | have f21 := adT (l7) (1) (by omega) (by omega) | have f21 := adT (l7) (1)
          have f22 := rgT (l7 + 1)
          have f23 := szR s0 j
          exact ih.2.2.1 h l1 l2 l3 0 l4l (20 + l7) (l7 + 1) j (by omega) (by omega) (by omega) (by omega) (by omega) (by omega) (by omega) (by omega) (by omega) (by omega)
        · have f24 := rgT (l1)
          have f25 := rgT (l3)
          have f26 := rgT (l6)
          have f27 := lit_1
          first | have f28 := adT (l7) (1) (by omega) (by omega) | have f28 := adT (l7) (1)
          have f29 := rgT (l7 + 1)
          have f30 := szR s0 j
          exact ih.2.2.1 h l1 l2 l3 0 l4l l6 (l7 + 1) j (by omega) (by omega) (by omega) (by omega) (by omega) (by omega) (by omega) (by omega) (by omega) (by omega)
    · intro h l1 l2 l3 l4i l4l l6 l7 j i0 i1 i2 i3 i4 hB hM
      rw [u_X12_cut]
      have sz0 := szR s0 j
      refine Ok.neg (by decide) ?_
      refine Ok.neg (by decide) ?_
      refine Ok.neg (by decide) ?_
      refine Ok.pos rfl ?_
      have f1 := rgT (l1)
      have f2 := rgT (l3)
      first | have f3 := adT (l1) (l3) (by omega) (by omega) | have f3 := adT (l1) (l3)
      have f4 := rgT (l1 + l3)
      have f5 := szR s0 j
      refine Ok.bind (sf_X12_byteAt (h0 := h0) s0 n h (l1 + l3) (by omega) j (by omega)) (fun q43 hq43 => ?_)
      obtain ⟨eq43, xq43⟩ := hq43
      rw [eq43]
      have f6 := rgT (q43.1)
      refine Ok.bind (sf_X12_isDigit (h0 := h0) s0 n h q43.1 (by omega) j ) (fun q45 hq45 => ?_)
      obtain ⟨eq45, xq45⟩ := hq45
      rw [eq45]
      have f7 := rgT (q45.1)
      have f8 := lit_0
      refine Ok.eq (fun c9 => ?_) (fun c9 => ?_)
      · have f10 := lit_4
        refine Ok.le (fun c11 => ?_) (fun c11 => ?_)
        · have f12 := lit_2
          have f13 := rgT (l4i)
          refine Ok.bind (sf_X12_token (h0 := h0) s0 n h 2 l1 l4i 0 (by omega) j (by omega) (by omega) (by omega)) (fun q49 hq49 => ?_)
          obtain ⟨jq49, xq49⟩ := hq49
          have f14 := szR s0 jq49
          exact ih.1 q49 (l1 + l3) 0 0 0 0 0 0 jq49 (by omega) (by omega) (by omega) (by omega) (by omega) (by omega)
        · have f15 := lit_3
          have f16 := rgT (l4i)
          refine Ok.bind (sf_X12_token (h0 := h0) s0 n h 3 l1 l4i 0 (by omega) j (by omega) (by omega) (by omega)) (fun q51 hq51 => ?_)
          obtain ⟨jq51, xq51⟩ := hq51
          have f17 := szR s0 jq51
          exact ih.1 q51 (l1 + l3) 0 0 0 0 0 0 jq51 (by omega) (by omega) (by omega) (by omega) (by omega) (by omega)
      · have f18 := lit_4
        refine Ok.le (fun c19 => ?_) (fun c19 => ?_)
        · have f20 := lit_1
          first | have f21 := adT (l3) (1) (by omega) (by omega) | have f21 := adT (l3) (1)
          have f22 := rgT (l3 + 1)
          exact ih.2.2.2 h l1 l2 (l3 + 1) l4i 0 0 0 j (by omega) (by omega) (by omega) (by omega) (by omega) (by omega) (by omega)
        · refine Ok.bind (sf_X12_byteAt (h0 := h0) s0 n h (l1 + l3) (by omega) j (by omega)) (fun q54 hq54 => ?_)
          obtain ⟨eq54, xq54⟩ := hq54
          rw [eq54]
          have f23 := lit_1
          first | have f24 := adT (l3) (1) (by omega) (by omega) | have f24 := adT (l3) (1)
          have f25 := rgT (l3 + 1)
          exact ih.2.2.2 h l1 l2 (l3 + 1) (((10 * l4i) + q54.1) - 48) 0 0 0 j (by omega) (by omega) (by omega) (by omega) (by omega) (by omega) (by omega)
theorem sfW_X12_cut_7 {h0 : Hp} (s0 : 0 ≤ (hi h0 226 4).toInt ∧ (hi h0 226 4).toInt ≤ 2000) (n : Nat) : ∀ (h : Hp) (l1 : Int32) (l2 : Int32) (l3 : Int32) (l4i : Int32) (l4l : Int64) (l6 : Int32) (l7 : Int32), jC h0 h → 0 ≤ l1.toInt → l1.toInt ≤ (hi h 226 4).toInt → 0 ≤ (hi h 226 10).toInt → (hi h 226 10).toInt ≤ 401 → (1 : Int) < n → (1 : Int) + (20000 * (403 - (hi h 226 10).toInt) + 2 * (2001 - l1.toInt)) < n → Ok (W_X12_cut n 7 h l1 l2 l3 l4i l4l l6 l7) (fun q => jC h0 q ∧ True) := (sfG_X12_cut_7 (h0 := h0) s0 n).1
theorem sfW_X12_cut_85 {h0 : Hp} (s0 : 0 ≤ (hi h0 226 4).toInt ∧ (hi h0 226 4).toInt ≤ 2000) (n : Nat) : ∀ (h : Hp) (l1 : Int32) (l2 : Int32) (l3 : Int32) (l4i : Int32) (l4l : Int64) (l6 : Int32) (l7 : Int32), jC h0 h → 0 ≤ l1.toInt → 0 ≤ l3.toInt → l1.toInt + l3.toInt ≤ (hi h 226 4).toInt → 0 ≤ (hi h 226 10).toInt → (hi h 226 10).toInt ≤ 400 → (1 : Int) < n → (1 : Int) + (20000 * (403 - (hi h 226 10).toInt) - 5000 + (2001 - l1.toInt - l3.toInt)) < n → Ok (W_X12_cut n 85 h l1 l2 l3 l4i l4l l6 l7) (fun q => jC h0 q ∧ True) := (sfG_X12_cut_7 (h0 := h0) s0 n).2.1
theorem sfW_X12_cut_146 {h0 : Hp} (s0 : 0 ≤ (hi h0 226 4).toInt ∧ (hi h0 226 4).toInt ≤ 2000) (n : Nat) : ∀ (h : Hp) (l1 : Int32) (l2 : Int32) (l3 : Int32) (l4i : Int32) (l4l : Int64) (l6 : Int32) (l7 : Int32), jC h0 h → 0 ≤ l1.toInt → 0 ≤ l3.toInt → l1.toInt + l3.toInt ≤ (hi h 226 4).toInt → 0 ≤ (hi h 226 10).toInt → (hi h 226 10).toInt ≤ 400 → 0 ≤ l6.toInt → 0 ≤ l7.toInt → l7.toInt ≤ 22 → (1 : Int) < n → (1 : Int) + (20000 * (403 - (hi h 226 10).toInt) - 8000 + (22 - l7.toInt)) < n → Ok (W_X12_cut n 146 h l1 l2 l3 l4i l4l l6 l7) (fun q => jC h0 q ∧ True) := (sfG_X12_cut_7 (h0 := h0) s0 n).2.2.1
theorem sfW_X12_cut_208 {h0 : Hp} (s0 : 0 ≤ (hi h0 226 4).toInt ∧ (hi h0 226 4).toInt ≤ 2000) (n : Nat) : ∀ (h : Hp) (l1 : Int32) (l2 : Int32) (l3 : Int32) (l4i : Int32) (l4l : Int64) (l6 : Int32) (l7 : Int32), jC h0 h → 0 ≤ l1.toInt → 0 ≤ l3.toInt → l1.toInt + l3.toInt ≤ (hi h 226 4).toInt → 0 ≤ (hi h 226 10).toInt → (hi h 226 10).toInt ≤ 400 → (1 : Int) < n → (1 : Int) + (20000 * (403 - (hi h 226 10).toInt) - 5000 + (2001 - l1.toInt - l3.toInt)) < n → Ok (W_X12_cut n 208 h l1 l2 l3 l4i l4l l6 l7) (fun q => jC h0 q ∧ True) := (sfG_X12_cut_7 (h0 := h0) s0 n).2.2.2
set_option maxRecDepth 100000 in
set_option maxHeartbeats 4000000 in
theorem sf_X12_cut {h0 : Hp} (s0 : 0 ≤ (hi h0 226 4).toInt ∧ (hi h0 226 4).toInt ≤ 2000) (n : Nat) (h : Hp) (hn : 68719476737 ≤ n) (j : jC h0 h) : Ok (F_X12_cut n h) (fun q => jC h0 q ∧ True) := by
  unfold F_X12_cut
  generalize eg1 : wrI h 226 10 0 = g1
  have jg1 : jC h0 g1 := JC10 eg1 j
  have f2 := lit_0
  have f3 := szR s0 jg1
  have f4 := congrArg Int32.toInt (hiE eg1)
  exact sfW_X12_cut_7 (h0 := h0) s0 n g1 0 0 0 0 0 0 0 jg1 (by omega) (by omega) (by omega) (by omega) (by omega) (by omega)
