/-! the class comes to its end, 3 -/
set_option maxRecDepth 100000 in
set_option maxHeartbeats 4000000 in
theorem sfW_X9_scan_30 {h0 : Hp} : ∀ (n : Nat), (∀ (h : Hp) (l1 : Int32) (l2 : Int32) (l3 : Int32), J h0 h → (17179869185 : Int) < n → (17179869185 : Int) + (401 - l3.toInt) < n → Ok (W_X9_scan n 30 h l1 l2 l3) (fun q => J h0 q ∧ True)) := by
  intro n
  induction n with
  | zero => intro h l1 l2 l3 j hB hM; exfalso; omega
  | succ n ih =>
    intro h l1 l2 l3 j hB hM
    rw [u_X9_scan]
    refine Ok.pos rfl ?_
    have f1 := lit_401
    have f2 := rgT (l3)
    refine Ok.le (fun c3 => ?_) (fun c3 => ?_)
    · exact Ok.ret ⟨j, trivial⟩
    · have f4 := cR 18 6 0 2000 (by decide) j
      have f5 := rgT (hi h 18 6)
      have f6 := rgT (l2)
      refine Ok.le (fun c7 => ?_) (fun c7 => ?_)
      · exact Ok.ret ⟨j, trivial⟩
      · refine Ok.bind (sf_X9_keep (h0 := h0) n h l2 (by omega) j ) (fun q3 hq3 => ?_)
        obtain ⟨jq3, xq3⟩ := hq3
        refine Ok.bind (sf_X9_behindBlanks (h0 := h0) n q3.2 q3.1 (by omega) jq3 ) (fun q5 hq5 => ?_)
        obtain ⟨eq5, xq5⟩ := hq5
        rw [eq5]
        have f8 := lit_1
        first | have f9 := adT (l3) (1) (by omega) (by omega) | have f9 := adT (l3) (1)
        have f10 := rgT (l3 + 1)
        exact ih q3.2 l1 q5.1 (l3 + 1) jq3   (by omega) (by omega)
set_option maxRecDepth 100000 in
set_option maxHeartbeats 4000000 in
theorem sf_X9_scan {h0 : Hp} (n : Nat) (h : Hp) (x1 : Int32) (hn : 34359738369 ≤ n) (j : J h0 h) : Ok (F_X9_scan n h x1) (fun q => J h0 q ∧ True) := by
  unfold F_X9_scan
  generalize eg1 : wrI h 18 6 (if 0 < (if 2000 < x1 then 2000 else x1) then (if 2000 < x1 then 2000 else x1) else 0) = g1
  have f2 := rgT (if 0 < (if 2000 < x1 then 2000 else x1) then (if 2000 < x1 then 2000 else x1) else 0)
  have jg1 : J h0 g1 := JwC 0 2000 eg1 j (by decide) (clampT (N := 2000) (by decide) x1) (by decide)
  generalize eg3 : wrI g1 18 5 0 = g3
  have f4 := lit_0
  have jg3 : J h0 g3 := JwC 0 401 eg3 jg1 (by decide) ⟨by omega, by omega⟩ (by decide)
  refine Ok.bind (sf_X9_behindBlanks (h0 := h0) n g3 0 (by omega) jg3 ) (fun q7 hq7 => ?_)
  obtain ⟨eq7, xq7⟩ := hq7
  rw [eq7]
  exact sfW_X9_scan_30 (h0 := h0) n g3 x1 q7.1 0 jg3   (by omega) (by omega)
set_option maxRecDepth 100000 in
set_option maxHeartbeats 4000000 in
theorem sf_X7_cellOf {h0 : Hp} (n : Nat) (h : Hp) (x1 : Int32) (hn : 1 ≤ n) (j : J h0 h) : Ok (F_X7_cellOf n h x1) (fun q => q.2 = h ∧ True) := by
  unfold F_X7_cellOf
  exact Ok.ret ⟨rfl, trivial⟩
set_option maxRecDepth 100000 in
set_option maxHeartbeats 4000000 in
theorem sf_X8_soundIn {h0 : Hp} (n : Nat) (h : Hp) (a : Nat) (x1 : Int32) (x2 : Int32) (x3 : Int32) (hn : 1 ≤ n) (j : J h0 h) (hs : Sc a) : Ok (F_X8_soundIn n h a x1 x2 x3) (fun q => J h0 q ∧ True) := by
  unfold F_X8_soundIn
  have f1 := rgT (x1)
  have f2 := lit_0
  refine Ok.lt (fun c3 => ?_) (fun c3 => ?_)
  · exact Ok.ret ⟨j, trivial⟩
  · have f4 := lit_25
    refine Ok.le (fun c5 => ?_) (fun c5 => ?_)
    · exact Ok.ret ⟨j, trivial⟩
    · refine Ok.chk (ixT (by omega) (by omega)) (fun c6 => ?_)
      generalize eg7 : wrI h (a + 1) (Int32.toNatClampNeg x1) (((8 * x2) + x3) : Int32).toInt8.toInt32 = g7
      have jg7 : J h0 g7 := JwI eg7 j (ncO_nc (scO hs).2.1)
      generalize eg8 : wrI g7 a 3 (((hi g7 a 3) : Int32) ||| (((1 : Int32) <<< ((x1 : Int32) &&& 31)) : Int32)) = g8
      have jg8 : J h0 g8 := JwI eg8 jg7 (ncO_nc (scO hs).1)
      exact Ok.ret ⟨jg8, trivial⟩
set_option maxRecDepth 100000 in
set_option maxHeartbeats 4000000 in
theorem sf_X7_onLawn {h0 : Hp} (n : Nat) (h : Hp) (x1 : Int32) (hn : 1 ≤ n) (j : J h0 h) : Ok (F_X7_onLawn n h x1) (fun q => q.2 = h ∧ True) := by
  unfold F_X7_onLawn
  have f1 := rgT (hi h 4 0)
  have f2 := rgT (x1)
  first | have f3 := rmI (x1) (5) 5 lit_5 (by decide) (by omega) | have f3 := rmI (x1) (5) 5 lit_5 (by decide)
  have f4 := rgT (x1 - x1 / 5 * 5)
  refine Ok.le (fun c5 => ?_) (fun c5 => ?_)
  · exact Ok.ret ⟨rfl, trivial⟩
  · have f6 := rgT (hi h 4 1)
    have f7 := rgT (x1 / 5)
    refine Ok.le (fun c8 => ?_) (fun c8 => ?_)
    · exact Ok.ret ⟨rfl, trivial⟩
    · exact Ok.ret ⟨rfl, trivial⟩
set_option maxRecDepth 100000 in
set_option maxHeartbeats 4000000 in
theorem sf_X7_blame {h0 : Hp} (n : Nat) (h : Hp) (x1 : Int32) (x2 : Int32) (hn : 1 ≤ n) (j : J h0 h) : Ok (F_X7_blame n h x1 x2) (fun q => J h0 q ∧ (hi q 3 2).toInt = (hi h 3 2).toInt) := by
  unfold F_X7_blame
  have f1 := rgT (hi h 2 6)
  have f2 := lit_0
  refine Ok.eq (fun c3 => ?_) (fun c3 => ?_)
  · generalize eg4 : wrI h 2 6 x1 = g4
    have jg4 : J h0 g4 := JwI eg4 j (by decide)
    generalize eg5 : wrI g4 2 7 x2 = g5
    have jg5 : J h0 g5 := JwI eg5 jg4 (by decide)
    have f6 := congrArg Int32.toInt (hiA eg5 3 2 (by decide))
    have f7 := congrArg Int32.toInt (hiA eg4 3 2 (by decide))
    have f8 := cR 3 2 0 5 (by decide) j
    refine Ok.ret ⟨jg5, ?_⟩
    show (hi g5 3 2).toInt = (hi h 3 2).toInt
    omega
  · have f9 := cR 3 2 0 5 (by decide) j
    refine Ok.ret ⟨j, ?_⟩
    show (hi h 3 2).toInt = (hi h 3 2).toInt
    omega
set_option maxRecDepth 100000 in
set_option maxHeartbeats 4000000 in
theorem sfW_X7_layOut_128 {h0 : Hp} : ∀ (n : Nat), (∀ (h : Hp) (l1 : Int32) (l2 : Int32), J h0 h → 0 ≤ l2.toInt → (1 : Int) < n → (1 : Int) + (5 - l2.toInt) < n → Ok (W_X7_layOut n 128 h l1 l2) (fun q => J h0 q ∧ True)) := by
  intro n
  induction n with
  | zero => intro h l1 l2 j i0 hB hM; exfalso; omega
  | succ n ih =>
    intro h l1 l2 j i0 hB hM
    rw [u_X7_layOut]
    refine Ok.neg (by decide) ?_
    refine Ok.pos rfl ?_
    have f1 := cR 3 2 0 5 (by decide) j
    have f2 := rgT (hi h 3 2)
    have f3 := rgT (l2)
    refine Ok.le (fun c4 => ?_) (fun c4 => ?_)
    · exact Ok.ret ⟨j, trivial⟩
    · have f5 := lit_5
      refine Ok.le (fun c6 => ?_) (fun c6 => ?_)
      · exact Ok.ret ⟨j, trivial⟩
      · refine Ok.chk (ixT (by omega) (by omega)) (fun c7 => ?_)
        refine Ok.bind (sf_X7_onLawn (h0 := h0) n h (hi h 15 (Int32.toNatClampNeg l2)) (by omega) j ) (fun q318 hq318 => ?_)
        obtain ⟨eq318, xq318⟩ := hq318
        rw [eq318]
        have f8 := rgT (q318.1)
        have f9 := lit_0
        refine Ok.eq (fun c10 => ?_) (fun c10 => ?_)
        · refine Ok.bind (sf_X7_blame (h0 := h0) n h 6 l1 (by omega) j ) (fun q321 hq321 => ?_)
          obtain ⟨jq321, xq321⟩ := hq321
          refine Ok.bind (sf_X7_cellOf (h0 := h0) n q321 (hi h 15 (Int32.toNatClampNeg l2)) (by omega) jq321 ) (fun q323 hq323 => ?_)
          obtain ⟨eq323, xq323⟩ := hq323
          rw [eq323]
          refine Ok.pos c7 ?_
          generalize eg11 : wrI q321 12 (Int32.toNatClampNeg l2) q323.1 = g11
          have jg11 : J h0 g11 := JwI eg11 jq321 (ncO_nc (by decide))
          have f12 := lit_1
          first | have f13 := adT (l2) (1) (by omega) (by omega) | have f13 := adT (l2) (1)
          have f14 := rgT (l2 + 1)
          exact ih g11 l1 (l2 + 1) jg11  (by omega) (by omega) (by omega)
        · have f15 := and_rg (((((hi h 2 12) : Int32).toUInt32 >>> (((hi h 15 (Int32.toNatClampNeg l2)) : Int32).toUInt32 &&& Int32.toUInt32 31)).toInt32) : Int32) (1 : Int32) 1 lit_1 (by decide)
          refine Ok.eq (fun c16 => ?_) (fun c16 => ?_)
          · refine Ok.bind (sf_X7_cellOf (h0 := h0) n h (hi h 15 (Int32.toNatClampNeg l2)) (by omega) j ) (fun q327 hq327 => ?_)
            obtain ⟨eq327, xq327⟩ := hq327
            rw [eq327]
            refine Ok.pos c7 ?_
            generalize eg17 : wrI h 12 (Int32.toNatClampNeg l2) q327.1 = g17
            have jg17 : J h0 g17 := JwI eg17 j (ncO_nc (by decide))
            have f18 := lit_1
            first | have f19 := adT (l2) (1) (by omega) (by omega) | have f19 := adT (l2) (1)
            have f20 := rgT (l2 + 1)
            exact ih g17 l1 (l2 + 1) jg17  (by omega) (by omega) (by omega)
          · refine Ok.bind (sf_X7_blame (h0 := h0) n h 6 l1 (by omega) j ) (fun q330 hq330 => ?_)
            obtain ⟨jq330, xq330⟩ := hq330
            refine Ok.bind (sf_X7_cellOf (h0 := h0) n q330 (hi h 15 (Int32.toNatClampNeg l2)) (by omega) jq330 ) (fun q332 hq332 => ?_)
            obtain ⟨eq332, xq332⟩ := hq332
            rw [eq332]
            refine Ok.pos c7 ?_
            generalize eg21 : wrI q330 12 (Int32.toNatClampNeg l2) q332.1 = g21
            have jg21 : J h0 g21 := JwI eg21 jq330 (ncO_nc (by decide))
            have f22 := lit_1
            first | have f23 := adT (l2) (1) (by omega) (by omega) | have f23 := adT (l2) (1)
            have f24 := rgT (l2 + 1)
            exact ih g21 l1 (l2 + 1) jg21  (by omega) (by omega) (by omega)
set_option maxRecDepth 100000 in
set_option maxHeartbeats 4000000 in
theorem sfW_X7_layOut_2 {h0 : Hp} : ∀ (n : Nat), (∀ (h : Hp) (l1 : Int32) (l2 : Int32), J h0 h → 0 ≤ l2.toInt → (17179869185 : Int) < n → (17179869185 : Int) + (25 - l2.toInt) < n → Ok (W_X7_layOut n 2 h l1 l2) (fun q => J h0 q ∧ True)) := by
  intro n
  induction n with
  | zero => intro h l1 l2 j i0 hB hM; exfalso; omega
  | succ n ih =>
    intro h l1 l2 j i0 hB hM
    rw [u_X7_layOut]
    refine Ok.pos rfl ?_
    have f1 := lit_25
    have f2 := rgT (l2)
    refine Ok.le (fun c3 => ?_) (fun c3 => ?_)
    · have f4 := lit_0
      exact sfW_X7_layOut_128 (h0 := h0) n h l1 0 j  (by omega) (by omega) (by omega)
    · have f5 := and_rg (((((hi h 2 12) : Int32).toUInt32 >>> ((l2 : Int32).toUInt32 &&& Int32.toUInt32 31)).toInt32) : Int32) (1 : Int32) 1 lit_1 (by decide)
      have f6 := lit_0
      refine Ok.eq (fun c7 => ?_) (fun c7 => ?_)
      · refine Ok.chk (ixT (by omega) (by omega)) (fun c8 => ?_)
        have f9 := rgT (hi h 16 (Int32.toNatClampNeg l2))
        refine Ok.le (fun c10 => ?_) (fun c10 => ?_)
        · refine Ok.eq (fun c11 => ?_) (fun c11 => ?_)
          · refine Ok.eq (fun c12 => ?_) (fun c12 => ?_)
            · refine Ok.eq (fun c13 => ?_) (fun c13 => ?_)
              · refine Ok.eq (fun c14 => ?_) (fun c14 => ?_)
                · have f15 := lit_1
                  first | have f16 := adT (l2) (1) (by omega) (by omega) | have f16 := adT (l2) (1)
                  have f17 := rgT (l2 + 1)
                  exact ih h l1 (l2 + 1) j  (by omega) (by omega) (by omega)
                · refine Ok.bind (sf_X7_cellOf (h0 := h0) n h l2 (by omega) j ) (fun q38 hq38 => ?_)
                  obtain ⟨eq38, xq38⟩ := hq38
                  rw [eq38]
                  refine Ok.pos c8 ?_
                  refine Ok.pos c8 ?_
                  refine Ok.bind (sf_X8_soundIn (h0 := h0) n h 10 q38.1 (hi h 16 (Int32.toNatClampNeg l2)) (hi h 17 (Int32.toNatClampNeg l2)) (by omega) j sc_10) (fun q42 hq42 => ?_)
                  obtain ⟨jq42, xq42⟩ := hq42
                  have f18 := lit_1
                  first | have f19 := adT (l2) (1) (by omega) (by omega) | have f19 := adT (l2) (1)
                  have f20 := rgT (l2 + 1)
                  exact ih q42 l1 (l2 + 1) jq42  (by omega) (by omega) (by omega)
              · refine Ok.bind (sf_X7_cellOf (h0 := h0) n h l2 (by omega) j ) (fun q44 hq44 => ?_)
                obtain ⟨eq44, xq44⟩ := hq44
                rw [eq44]
                refine Ok.eq (fun c21 => ?_) (fun c21 => ?_)
                · generalize eg22 : wrI h 10 2 (((hi h 10 2) : Int32) ||| (((1 : Int32) <<< ((q44.1 : Int32) &&& 31)) : Int32)) = g22
                  have jg22 : J h0 g22 := JwI eg22 j (by decide)
                  have f23 := lit_1
                  first | have f24 := adT (l2) (1) (by omega) (by omega) | have f24 := adT (l2) (1)
                  have f25 := rgT (l2 + 1)
                  exact ih g22 l1 (l2 + 1) jg22  (by omega) (by omega) (by omega)
                · generalize eg26 : wrI h 10 2 (((hi h 10 2) : Int32) ||| (((1 : Int32) <<< ((q44.1 : Int32) &&& 31)) : Int32)) = g26
                  have jg26 : J h0 g26 := JwI eg26 j (by decide)
                  refine Ok.bind (sf_X7_cellOf (h0 := h0) n g26 l2 (by omega) jg26 ) (fun q47 hq47 => ?_)
                  obtain ⟨eq47, xq47⟩ := hq47
                  rw [eq47]
                  refine Ok.pos c8 ?_
                  refine Ok.pos c8 ?_
                  refine Ok.bind (sf_X8_soundIn (h0 := h0) n g26 10 q47.1 (hi g26 16 (Int32.toNatClampNeg l2)) (hi g26 17 (Int32.toNatClampNeg l2)) (by omega) jg26 sc_10) (fun q51 hq51 => ?_)
                  obtain ⟨jq51, xq51⟩ := hq51
                  have f27 := lit_1
                  first | have f28 := adT (l2) (1) (by omega) (by omega) | have f28 := adT (l2) (1)
                  have f29 := rgT (l2 + 1)
                  exact ih q51 l1 (l2 + 1) jq51  (by omega) (by omega) (by omega)
            · refine Ok.bind (sf_X7_onLawn (h0 := h0) n h l2 (by omega) j ) (fun q53 hq53 => ?_)
              obtain ⟨eq53, xq53⟩ := hq53
              rw [eq53]
              have f30 := rgT (q53.1)
              refine Ok.eq (fun c31 => ?_) (fun c31 => ?_)
              · have f32 := cR 3 2 0 5 (by decide) j
                refine Ok.bind (sf_X7_blame (h0 := h0) n h 6 l1 (by omega) j ) (fun q73 hq73 => ?_)
                obtain ⟨jq73, xq73⟩ := hq73
                refine Ok.eq (fun c33 => ?_) (fun c33 => ?_)
                · have f34 := lit_1
                  first | have f35 := adT (l2) (1) (by omega) (by omega) | have f35 := adT (l2) (1)
                  have f36 := rgT (l2 + 1)
                  exact ih q73 l1 (l2 + 1) jq73  (by omega) (by omega) (by omega)
                · refine Ok.bind (sf_X7_cellOf (h0 := h0) n q73 l2 (by omega) jq73 ) (fun q76 hq76 => ?_)
                  obtain ⟨eq76, xq76⟩ := hq76
                  rw [eq76]
                  refine Ok.pos c8 ?_
                  refine Ok.pos c8 ?_
                  refine Ok.bind (sf_X8_soundIn (h0 := h0) n q73 10 q76.1 (hi q73 16 (Int32.toNatClampNeg l2)) (hi q73 17 (Int32.toNatClampNeg l2)) (by omega) jq73 sc_10) (fun q80 hq80 => ?_)
                  obtain ⟨jq80, xq80⟩ := hq80
                  have f37 := lit_1
                  first | have f38 := adT (l2) (1) (by omega) (by omega) | have f38 := adT (l2) (1)
                  have f39 := rgT (l2 + 1)
                  exact ih q80 l1 (l2 + 1) jq80  (by omega) (by omega) (by omega)
              · refine Ok.eq (fun c40 => ?_) (fun c40 => ?_)
                · refine Ok.eq (fun c41 => ?_) (fun c41 => ?_)
                  · have f42 := lit_1
                    first | have f43 := adT (l2) (1) (by omega) (by omega) | have f43 := adT (l2) (1)
                    have f44 := rgT (l2 + 1)
                    exact ih h l1 (l2 + 1) j  (by omega) (by omega) (by omega)
                  · refine Ok.bind (sf_X7_cellOf (h0 := h0) n h l2 (by omega) j ) (fun q58 hq58 => ?_)
                    obtain ⟨eq58, xq58⟩ := hq58
                    rw [eq58]
                    refine Ok.pos c8 ?_
                    refine Ok.pos c8 ?_
                    refine Ok.bind (sf_X8_soundIn (h0 := h0) n h 10 q58.1 (hi h 16 (Int32.toNatClampNeg l2)) (hi h 17 (Int32.toNatClampNeg l2)) (by omega) j sc_10) (fun q62 hq62 => ?_)
                    obtain ⟨jq62, xq62⟩ := hq62
                    have f45 := lit_1
                    first | have f46 := adT (l2) (1) (by omega) (by omega) | have f46 := adT (l2) (1)
                    have f47 := rgT (l2 + 1)
                    exact ih q62 l1 (l2 + 1) jq62  (by omega) (by omega) (by omega)
                · refine Ok.bind (sf_X7_cellOf (h0 := h0) n h l2 (by omega) j ) (fun q64 hq64 => ?_)
                  obtain ⟨eq64, xq64⟩ := hq64
                  rw [eq64]
                  refine Ok.eq (fun c48 => ?_) (fun c48 => ?_)
                  · generalize eg49 : wrI h 10 2 (((hi h 10 2) : Int32) ||| (((1 : Int32) <<< ((q64.1 : Int32) &&& 31)) : Int32)) = g49
                    have jg49 : J h0 g49 := JwI eg49 j (by decide)
                    have f50 := lit_1
                    first | have f51 := adT (l2) (1) (by omega) (by omega) | have f51 := adT (l2) (1)
                    have f52 := rgT (l2 + 1)
                    exact ih g49 l1 (l2 + 1) jg49  (by omega) (by omega) (by omega)
                  · generalize eg53 : wrI h 10 2 (((hi h 10 2) : Int32) ||| (((1 : Int32) <<< ((q64.1 : Int32) &&& 31)) : Int32)) = g53
                    have jg53 : J h0 g53 := JwI eg53 j (by decide)
                    refine Ok.bind (sf_X7_cellOf (h0 := h0) n g53 l2 (by omega) jg53 ) (fun q67 hq67 => ?_)
                    obtain ⟨eq67, xq67⟩ := hq67
                    rw [eq67]
                    refine Ok.pos c8 ?_
                    refine Ok.pos c8 ?_
                    refine Ok.bind (sf_X8_soundIn (h0 := h0) n g53 10 q67.1 (hi g53 16 (Int32.toNatClampNeg l2)) (hi g53 17 (Int32.toNatClampNeg l2)) (by omega) jg53 sc_10) (fun q71 hq71 => ?_)
                    obtain ⟨jq71, xq71⟩ := hq71
                    have f54 := lit_1
                    first | have f55 := adT (l2) (1) (by omega) (by omega) | have f55 := adT (l2) (1)
                    have f56 := rgT (l2 + 1)
                    exact ih q71 l1 (l2 + 1) jq71  (by omega) (by omega) (by omega)
          · refine Ok.bind (sf_X7_onLawn (h0 := h0) n h l2 (by omega) j ) (fun q6 hq6 => ?_)
            obtain ⟨eq6, xq6⟩ := hq6
            rw [eq6]
            have f57 := rgT (q6.1)
            refine Ok.eq (fun c58 => ?_) (fun c58 => ?_)
            · have f59 := cR 3 2 0 5 (by decide) j
              refine Ok.bind (sf_X7_blame (h0 := h0) n h 6 l1 (by omega) j ) (fun q26 hq26 => ?_)
              obtain ⟨jq26, xq26⟩ := hq26
              refine Ok.eq (fun c60 => ?_) (fun c60 => ?_)
              · have f61 := lit_1
                first | have f62 := adT (l2) (1) (by omega) (by omega) | have f62 := adT (l2) (1)
                have f63 := rgT (l2 + 1)
                exact ih q26 l1 (l2 + 1) jq26  (by omega) (by omega) (by omega)
              · refine Ok.bind (sf_X7_cellOf (h0 := h0) n q26 l2 (by omega) jq26 ) (fun q29 hq29 => ?_)
                obtain ⟨eq29, xq29⟩ := hq29
                rw [eq29]
                refine Ok.pos c8 ?_
                refine Ok.pos c8 ?_
                refine Ok.bind (sf_X8_soundIn (h0 := h0) n q26 10 q29.1 (hi q26 16 (Int32.toNatClampNeg l2)) (hi q26 17 (Int32.toNatClampNeg l2)) (by omega) jq26 sc_10) (fun q33 hq33 => ?_)
                obtain ⟨jq33, xq33⟩ := hq33
                have f64 := lit_1
                first | have f65 := adT (l2) (1) (by omega) (by omega) | have f65 := adT (l2) (1)
                have f66 := rgT (l2 + 1)
                exact ih q33 l1 (l2 + 1) jq33  (by omega) (by omega) (by omega)
            · refine Ok.eq (fun c67 => ?_) (fun c67 => ?_)
              · refine Ok.eq (fun c68 => ?_) (fun c68 => ?_)
                · have f69 := lit_1
                  first | have f70 := adT (l2) (1) (by omega) (by omega) | have f70 := adT (l2) (1)
                  have f71 := rgT (l2 + 1)
                  exact ih h l1 (l2 + 1) j  (by omega) (by omega) (by omega)
                · refine Ok.bind (sf_X7_cellOf (h0 := h0) n h l2 (by omega) j ) (fun q11 hq11 => ?_)
                  obtain ⟨eq11, xq11⟩ := hq11
                  rw [eq11]
                  refine Ok.pos c8 ?_
                  refine Ok.pos c8 ?_
                  refine Ok.bind (sf_X8_soundIn (h0 := h0) n h 10 q11.1 (hi h 16 (Int32.toNatClampNeg l2)) (hi h 17 (Int32.toNatClampNeg l2)) (by omega) j sc_10) (fun q15 hq15 => ?_)
                  obtain ⟨jq15, xq15⟩ := hq15
                  have f72 := lit_1
                  first | have f73 := adT (l2) (1) (by omega) (by omega) | have f73 := adT (l2) (1)
                  have f74 := rgT (l2 + 1)
                  exact ih q15 l1 (l2 + 1) jq15  (by omega) (by omega) (by omega)
              · refine Ok.bind (sf_X7_cellOf (h0 := h0) n h l2 (by omega) j ) (fun q17 hq17 => ?_)
                obtain ⟨eq17, xq17⟩ := hq17
                rw [eq17]
                refine Ok.eq (fun c75 => ?_) (fun c75 => ?_)
                · generalize eg76 : wrI h 10 2 (((hi h 10 2) : Int32) ||| (((1 : Int32) <<< ((q17.1 : Int32) &&& 31)) : Int32)) = g76
                  have jg76 : J h0 g76 := JwI eg76 j (by decide)
                  have f77 := lit_1
                  first | have f78 := adT (l2) (1) (by omega) (by omega) | have f78 := adT (l2) (1)
                  have f79 := rgT (l2 + 1)
                  exact ih g76 l1 (l2 + 1) jg76  (by omega) (by omega) (by omega)
                · generalize eg80 : wrI h 10 2 (((hi h 10 2) : Int32) ||| (((1 : Int32) <<< ((q17.1 : Int32) &&& 31)) : Int32)) = g80
                  have jg80 : J h0 g80 := JwI eg80 j (by decide)
                  refine Ok.bind (sf_X7_cellOf (h0 := h0) n g80 l2 (by omega) jg80 ) (fun q20 hq20 => ?_)
                  obtain ⟨eq20, xq20⟩ := hq20
                  rw [eq20]
                  refine Ok.pos c8 ?_
                  refine Ok.pos c8 ?_
                  refine Ok.bind (sf_X8_soundIn (h0 := h0) n g80 10 q20.1 (hi g80 16 (Int32.toNatClampNeg l2)) (hi g80 17 (Int32.toNatClampNeg l2)) (by omega) jg80 sc_10) (fun q24 hq24 => ?_)
                  obtain ⟨jq24, xq24⟩ := hq24
                  have f81 := lit_1
                  first | have f82 := adT (l2) (1) (by omega) (by omega) | have f82 := adT (l2) (1)
                  have f83 := rgT (l2 + 1)
                  exact ih q24 l1 (l2 + 1) jq24  (by omega) (by omega) (by omega)
        · refine Ok.eq (fun c84 => ?_) (fun c84 => ?_)
          · have f85 := lit_1
            refine Ok.eq (fun c86 => ?_) (fun c86 => ?_)
            · refine Ok.eq (fun c87 => ?_) (fun c87 => ?_)
              · refine Ok.eq (fun c88 => ?_) (fun c88 => ?_)
                · first | have f89 := adT (l2) (1) (by omega) (by omega) | have f89 := adT (l2) (1)
                  have f90 := rgT (l2 + 1)
                  exact ih h l1 (l2 + 1) j  (by omega) (by omega) (by omega)
                · refine Ok.bind (sf_X7_cellOf (h0 := h0) n h l2 (by omega) j ) (fun q115 hq115 => ?_)
                  obtain ⟨eq115, xq115⟩ := hq115
                  rw [eq115]
                  refine Ok.pos c8 ?_
                  refine Ok.pos c8 ?_
                  refine Ok.bind (sf_X8_soundIn (h0 := h0) n h 10 q115.1 (hi h 16 (Int32.toNatClampNeg l2)) (hi h 17 (Int32.toNatClampNeg l2)) (by omega) j sc_10) (fun q119 hq119 => ?_)
                  obtain ⟨jq119, xq119⟩ := hq119
                  first | have f91 := adT (l2) (1) (by omega) (by omega) | have f91 := adT (l2) (1)
                  have f92 := rgT (l2 + 1)
                  exact ih q119 l1 (l2 + 1) jq119  (by omega) (by omega) (by omega)
              · refine Ok.bind (sf_X7_cellOf (h0 := h0) n h l2 (by omega) j ) (fun q121 hq121 => ?_)
                obtain ⟨eq121, xq121⟩ := hq121
                rw [eq121]
                refine Ok.eq (fun c93 => ?_) (fun c93 => ?_)
                · generalize eg94 : wrI h 10 2 (((hi h 10 2) : Int32) ||| (((1 : Int32) <<< ((q121.1 : Int32) &&& 31)) : Int32)) = g94
                  have jg94 : J h0 g94 := JwI eg94 j (by decide)
                  first | have f95 := adT (l2) (1) (by omega) (by omega) | have f95 := adT (l2) (1)
                  have f96 := rgT (l2 + 1)
                  exact ih g94 l1 (l2 + 1) jg94  (by omega) (by omega) (by omega)
                · generalize eg97 : wrI h 10 2 (((hi h 10 2) : Int32) ||| (((1 : Int32) <<< ((q121.1 : Int32) &&& 31)) : Int32)) = g97
                  have jg97 : J h0 g97 := JwI eg97 j (by decide)
                  refine Ok.bind (sf_X7_cellOf (h0 := h0) n g97 l2 (by omega) jg97 ) (fun q124 hq124 => ?_)
                  obtain ⟨eq124, xq124⟩ := hq124
                  rw [eq124]
                  refine Ok.pos c8 ?_
                  refine Ok.pos c8 ?_
                  refine Ok.bind (sf_X8_soundIn (h0 := h0) n g97 10 q124.1 (hi g97 16 (Int32.toNatClampNeg l2)) (hi g97 17 (Int32.toNatClampNeg l2)) (by omega) jg97 sc_10) (fun q128 hq128 => ?_)
                  obtain ⟨jq128, xq128⟩ := hq128
                  first | have f98 := adT (l2) (1) (by omega) (by omega) | have f98 := adT (l2) (1)
                  have f99 := rgT (l2 + 1)
                  exact ih q128 l1 (l2 + 1) jq128  (by omega) (by omega) (by omega)
            · refine Ok.bind (sf_X7_onLawn (h0 := h0) n h l2 (by omega) j ) (fun q130 hq130 => ?_)
              obtain ⟨eq130, xq130⟩ := hq130
              rw [eq130]
              have f100 := rgT (q130.1)
              refine Ok.eq (fun c101 => ?_) (fun c101 => ?_)
              · have f102 := cR 3 2 0 5 (by decide) j
                refine Ok.bind (sf_X7_blame (h0 := h0) n h 6 l1 (by omega) j ) (fun q150 hq150 => ?_)
                obtain ⟨jq150, xq150⟩ := hq150
                refine Ok.eq (fun c103 => ?_) (fun c103 => ?_)
                · first | have f104 := adT (l2) (1) (by omega) (by omega) | have f104 := adT (l2) (1)
                  have f105 := rgT (l2 + 1)
                  exact ih q150 l1 (l2 + 1) jq150  (by omega) (by omega) (by omega)
                · refine Ok.bind (sf_X7_cellOf (h0 := h0) n q150 l2 (by omega) jq150 ) (fun q153 hq153 => ?_)
                  obtain ⟨eq153, xq153⟩ := hq153
                  rw [eq153]
                  refine Ok.pos c8 ?_
                  refine Ok.pos c8 ?_
                  refine Ok.bind (sf_X8_soundIn (h0 := h0) n q150 10 q153.1 (hi q150 16 (Int32.toNatClampNeg l2)) (hi q150 17 (Int32.toNatClampNeg l2)) (by omega) jq150 sc_10) (fun q157 hq157 => ?_)
                  obtain ⟨jq157, xq157⟩ := hq157
                  first | have f106 := adT (l2) (1) (by omega) (by omega) | have f106 := adT (l2) (1)
                  have f107 := rgT (l2 + 1)
                  exact ih q157 l1 (l2 + 1) jq157  (by omega) (by omega) (by omega)
              · refine Ok.eq (fun c108 => ?_) (fun c108 => ?_)
                · refine Ok.eq (fun c109 => ?_) (fun c109 => ?_)
                  · first | have f110 := adT (l2) (1) (by omega) (by omega) | have f110 := adT (l2) (1)
                    have f111 := rgT (l2 + 1)
                    exact ih h l1 (l2 + 1) j  (by omega) (by omega) (by omega)
                  · refine Ok.bind (sf_X7_cellOf (h0 := h0) n h l2 (by omega) j ) (fun q135 hq135 => ?_)
                    obtain ⟨eq135, xq135⟩ := hq135
                    rw [eq135]
                    refine Ok.pos c8 ?_
                    refine Ok.pos c8 ?_
                    refine Ok.bind (sf_X8_soundIn (h0 := h0) n h 10 q135.1 (hi h 16 (Int32.toNatClampNeg l2)) (hi h 17 (Int32.toNatClampNeg l2)) (by omega) j sc_10) (fun q139 hq139 => ?_)
                    obtain ⟨jq139, xq139⟩ := hq139
                    first | have f112 := adT (l2) (1) (by omega) (by omega) | have f112 := adT (l2) (1)
                    have f113 := rgT (l2 + 1)
                    exact ih q139 l1 (l2 + 1) jq139  (by omega) (by omega) (by omega)
                · refine Ok.bind (sf_X7_cellOf (h0 := h0) n h l2 (by omega) j ) (fun q141 hq141 => ?_)
                  obtain ⟨eq141, xq141⟩ := hq141
                  rw [eq141]
                  refine Ok.eq (fun c114 => ?_) (fun c114 => ?_)
                  · generalize eg115 : wrI h 10 2 (((hi h 10 2) : Int32) ||| (((1 : Int32) <<< ((q141.1 : Int32) &&& 31)) : Int32)) = g115
                    have jg115 : J h0 g115 := JwI eg115 j (by decide)
                    first | have f116 := adT (l2) (1) (by omega) (by omega) | have f116 := adT (l2) (1)
                    have f117 := rgT (l2 + 1)
                    exact ih g115 l1 (l2 + 1) jg115  (by omega) (by omega) (by omega)
                  · generalize eg118 : wrI h 10 2 (((hi h 10 2) : Int32) ||| (((1 : Int32) <<< ((q141.1 : Int32) &&& 31)) : Int32)) = g118
                    have jg118 : J h0 g118 := JwI eg118 j (by decide)
                    refine Ok.bind (sf_X7_cellOf (h0 := h0) n g118 l2 (by omega) jg118 ) (fun q144 hq144 => ?_)
                    obtain ⟨eq144, xq144⟩ := hq144
                    rw [eq144]
                    refine Ok.pos c8 ?_
                    refine Ok.pos c8 ?_
                    refine Ok.bind (sf_X8_soundIn (h0 := h0) n g118 10 q144.1 (hi g118 16 (Int32.toNatClampNeg l2)) (hi g118 17 (Int32.toNatClampNeg l2)) (by omega) jg118 sc_10) (fun q148 hq148 => ?_)
                    obtain ⟨jq148, xq148⟩ := hq148
                    first | have f119 := adT (l2) (1) (by omega) (by omega) | have f119 := adT (l2) (1)
                    have f120 := rgT (l2 + 1)
                    exact ih q148 l1 (l2 + 1) jq148  (by omega) (by omega) (by omega)
          · refine Ok.bind (sf_X7_onLawn (h0 := h0) n h l2 (by omega) j ) (fun q83 hq83 => ?_)
            obtain ⟨eq83, xq83⟩ := hq83
            rw [eq83]
            have f121 := rgT (q83.1)
            refine Ok.eq (fun c122 => ?_) (fun c122 => ?_)
            · have f123 := cR 3 2 0 5 (by decide) j
              refine Ok.bind (sf_X7_blame (h0 := h0) n h 6 l1 (by omega) j ) (fun q103 hq103 => ?_)
              obtain ⟨jq103, xq103⟩ := hq103
              have f124 := lit_1
              refine Ok.eq (fun c125 => ?_) (fun c125 => ?_)
              · first | have f126 := adT (l2) (1) (by omega) (by omega) | have f126 := adT (l2) (1)
                have f127 := rgT (l2 + 1)
                exact ih q103 l1 (l2 + 1) jq103  (by omega) (by omega) (by omega)
              · refine Ok.bind (sf_X7_cellOf (h0 := h0) n q103 l2 (by omega) jq103 ) (fun q106 hq106 => ?_)
                obtain ⟨eq106, xq106⟩ := hq106
                rw [eq106]
                refine Ok.pos c8 ?_
                refine Ok.pos c8 ?_
                refine Ok.bind (sf_X8_soundIn (h0 := h0) n q103 10 q106.1 (hi q103 16 (Int32.toNatClampNeg l2)) (hi q103 17 (Int32.toNatClampNeg l2)) (by omega) jq103 sc_10) (fun q110 hq110 => ?_)
                obtain ⟨jq110, xq110⟩ := hq110
                first | have f128 := adT (l2) (1) (by omega) (by omega) | have f128 := adT (l2) (1)
                have f129 := rgT (l2 + 1)
                exact ih q110 l1 (l2 + 1) jq110  (by omega) (by omega) (by omega)
            · refine Ok.eq (fun c130 => ?_) (fun c130 => ?_)
              · have f131 := lit_1
                refine Ok.eq (fun c132 => ?_) (fun c132 => ?_)
                · first | have f133 := adT (l2) (1) (by omega) (by omega) | have f133 := adT (l2) (1)
                  have f134 := rgT (l2 + 1)
                  exact ih h l1 (l2 + 1) j  (by omega) (by omega) (by omega)
                · refine Ok.bind (sf_X7_cellOf (h0 := h0) n h l2 (by omega) j ) (fun q88 hq88 => ?_)
                  obtain ⟨eq88, xq88⟩ := hq88
                  rw [eq88]
                  refine Ok.pos c8 ?_
                  refine Ok.pos c8 ?_
                  refine Ok.bind (sf_X8_soundIn (h0 := h0) n h 10 q88.1 (hi h 16 (Int32.toNatClampNeg l2)) (hi h 17 (Int32.toNatClampNeg l2)) (by omega) j sc_10) (fun q92 hq92 => ?_)
                  obtain ⟨jq92, xq92⟩ := hq92
                  first | have f135 := adT (l2) (1) (by omega) (by omega) | have f135 := adT (l2) (1)
                  have f136 := rgT (l2 + 1)
                  exact ih q92 l1 (l2 + 1) jq92  (by omega) (by omega) (by omega)
              · refine Ok.bind (sf_X7_cellOf (h0 := h0) n h l2 (by omega) j ) (fun q94 hq94 => ?_)
                obtain ⟨eq94, xq94⟩ := hq94
                rw [eq94]
                have f137 := lit_1
                refine Ok.eq (fun c138 => ?_) (fun c138 => ?_)
                · generalize eg139 : wrI h 10 2 (((hi h 10 2) : Int32) ||| (((1 : Int32) <<< ((q94.1 : Int32) &&& 31)) : Int32)) = g139
                  have jg139 : J h0 g139 := JwI eg139 j (by decide)
                  first | have f140 := adT (l2) (1) (by omega) (by omega) | have f140 := adT (l2) (1)
                  have f141 := rgT (l2 + 1)
                  exact ih g139 l1 (l2 + 1) jg139  (by omega) (by omega) (by omega)
                · generalize eg142 : wrI h 10 2 (((hi h 10 2) : Int32) ||| (((1 : Int32) <<< ((q94.1 : Int32) &&& 31)) : Int32)) = g142
                  have jg142 : J h0 g142 := JwI eg142 j (by decide)
                  refine Ok.bind (sf_X7_cellOf (h0 := h0) n g142 l2 (by omega) jg142 ) (fun q97 hq97 => ?_)
                  obtain ⟨eq97, xq97⟩ := hq97
                  rw [eq97]
                  refine Ok.pos c8 ?_
                  refine Ok.pos c8 ?_
                  refine Ok.bind (sf_X8_soundIn (h0 := h0) n g142 10 q97.1 (hi g142 16 (Int32.toNatClampNeg l2)) (hi g142 17 (Int32.toNatClampNeg l2)) (by omega) jg142 sc_10) (fun q101 hq101 => ?_)
                  obtain ⟨jq101, xq101⟩ := hq101
                  first | have f143 := adT (l2) (1) (by omega) (by omega) | have f143 := adT (l2) (1)
                  have f144 := rgT (l2 + 1)
                  exact ih q101 l1 (l2 + 1) jq101  (by omega) (by omega) (by omega)
      · refine Ok.chk (ixT (by omega) (by omega)) (fun c145 => ?_)
        have f146 := rgT (hi h 16 (Int32.toNatClampNeg l2))
        refine Ok.le (fun c147 => ?_) (fun c147 => ?_)
        · have f148 := lit_1
          refine Ok.eq (fun c149 => ?_) (fun c149 => ?_)
          · refine Ok.eq (fun c150 => ?_) (fun c150 => ?_)
            · refine Ok.eq (fun c151 => ?_) (fun c151 => ?_)
              · refine Ok.eq (fun c152 => ?_) (fun c152 => ?_)
                · first | have f153 := adT (l2) (1) (by omega) (by omega) | have f153 := adT (l2) (1)
                  have f154 := rgT (l2 + 1)
                  exact ih h l1 (l2 + 1) j  (by omega) (by omega) (by omega)
                · refine Ok.bind (sf_X7_cellOf (h0 := h0) n h l2 (by omega) j ) (fun q194 hq194 => ?_)
                  obtain ⟨eq194, xq194⟩ := hq194
                  rw [eq194]
                  refine Ok.pos c145 ?_
                  refine Ok.pos c145 ?_
                  refine Ok.bind (sf_X8_soundIn (h0 := h0) n h 10 q194.1 (hi h 16 (Int32.toNatClampNeg l2)) (hi h 17 (Int32.toNatClampNeg l2)) (by omega) j sc_10) (fun q198 hq198 => ?_)
                  obtain ⟨jq198, xq198⟩ := hq198
                  first | have f155 := adT (l2) (1) (by omega) (by omega) | have f155 := adT (l2) (1)
                  have f156 := rgT (l2 + 1)
                  exact ih q198 l1 (l2 + 1) jq198  (by omega) (by omega) (by omega)
              · refine Ok.bind (sf_X7_cellOf (h0 := h0) n h l2 (by omega) j ) (fun q200 hq200 => ?_)
                obtain ⟨eq200, xq200⟩ := hq200
                rw [eq200]
                refine Ok.eq (fun c157 => ?_) (fun c157 => ?_)
                · generalize eg158 : wrI h 10 2 (((hi h 10 2) : Int32) ||| (((1 : Int32) <<< ((q200.1 : Int32) &&& 31)) : Int32)) = g158
                  have jg158 : J h0 g158 := JwI eg158 j (by decide)
                  first | have f159 := adT (l2) (1) (by omega) (by omega) | have f159 := adT (l2) (1)
                  have f160 := rgT (l2 + 1)
                  exact ih g158 l1 (l2 + 1) jg158  (by omega) (by omega) (by omega)
                · generalize eg161 : wrI h 10 2 (((hi h 10 2) : Int32) ||| (((1 : Int32) <<< ((q200.1 : Int32) &&& 31)) : Int32)) = g161
                  have jg161 : J h0 g161 := JwI eg161 j (by decide)
                  refine Ok.bind (sf_X7_cellOf (h0 := h0) n g161 l2 (by omega) jg161 ) (fun q203 hq203 => ?_)
                  obtain ⟨eq203, xq203⟩ := hq203
                  rw [eq203]
                  refine Ok.pos c145 ?_
                  refine Ok.pos c145 ?_
                  refine Ok.bind (sf_X8_soundIn (h0 := h0) n g161 10 q203.1 (hi g161 16 (Int32.toNatClampNeg l2)) (hi g161 17 (Int32.toNatClampNeg l2)) (by omega) jg161 sc_10) (fun q207 hq207 => ?_)
                  obtain ⟨jq207, xq207⟩ := hq207
                  first | have f162 := adT (l2) (1) (by omega) (by omega) | have f162 := adT (l2) (1)
                  have f163 := rgT (l2 + 1)
                  exact ih q207 l1 (l2 + 1) jq207  (by omega) (by omega) (by omega)
            · refine Ok.bind (sf_X7_onLawn (h0 := h0) n h l2 (by omega) j ) (fun q209 hq209 => ?_)
              obtain ⟨eq209, xq209⟩ := hq209
              rw [eq209]
              have f164 := rgT (q209.1)
              refine Ok.eq (fun c165 => ?_) (fun c165 => ?_)
              · have f166 := cR 3 2 0 5 (by decide) j
                refine Ok.bind (sf_X7_blame (h0 := h0) n h 6 l1 (by omega) j ) (fun q229 hq229 => ?_)
                obtain ⟨jq229, xq229⟩ := hq229
                refine Ok.eq (fun c167 => ?_) (fun c167 => ?_)
                · first | have f168 := adT (l2) (1) (by omega) (by omega) | have f168 := adT (l2) (1)
                  have f169 := rgT (l2 + 1)
                  exact ih q229 l1 (l2 + 1) jq229  (by omega) (by omega) (by omega)
                · refine Ok.bind (sf_X7_cellOf (h0 := h0) n q229 l2 (by omega) jq229 ) (fun q232 hq232 => ?_)
                  obtain ⟨eq232, xq232⟩ := hq232
                  rw [eq232]
                  refine Ok.pos c145 ?_
                  refine Ok.pos c145 ?_
                  refine Ok.bind (sf_X8_soundIn (h0 := h0) n q229 10 q232.1 (hi q229 16 (Int32.toNatClampNeg l2)) (hi q229 17 (Int32.toNatClampNeg l2)) (by omega) jq229 sc_10) (fun q236 hq236 => ?_)
                  obtain ⟨jq236, xq236⟩ := hq236
                  first | have f170 := adT (l2) (1) (by omega) (by omega) | have f170 := adT (l2) (1)
                  have f171 := rgT (l2 + 1)
                  exact ih q236 l1 (l2 + 1) jq236  (by omega) (by omega) (by omega)
              · refine Ok.eq (fun c172 => ?_) (fun c172 => ?_)
                · refine Ok.eq (fun c173 => ?_) (fun c173 => ?_)
                  · first | have f174 := adT (l2) (1) (by omega) (by omega) | have f174 := adT (l2) (1)
                    have f175 := rgT (l2 + 1)
                    exact ih h l1 (l2 + 1) j  (by omega) (by omega) (by omega)
                  · refine Ok.bind (sf_X7_cellOf (h0 := h0) n h l2 (by omega) j ) (fun q214 hq214 => ?_)
                    obtain ⟨eq214, xq214⟩ := hq214
                    rw [eq214]
                    refine Ok.pos c145 ?_
                    refine Ok.pos c145 ?_
                    refine Ok.bind (sf_X8_soundIn (h0 := h0) n h 10 q214.1 (hi h 16 (Int32.toNatClampNeg l2)) (hi h 17 (Int32.toNatClampNeg l2)) (by omega) j sc_10) (fun q218 hq218 => ?_)
                    obtain ⟨jq218, xq218⟩ := hq218
                    first | have f176 := adT (l2) (1) (by omega) (by omega) | have f176 := adT (l2) (1)
                    have f177 := rgT (l2 + 1)
                    exact ih q218 l1 (l2 + 1) jq218  (by omega) (by omega) (by omega)
                · refine Ok.bind (sf_X7_cellOf (h0 := h0) n h l2 (by omega) j ) (fun q220 hq220 => ?_)
                  obtain ⟨eq220, xq220⟩ := hq220
                  rw [eq220]
                  refine Ok.eq (fun c178 => ?_) (fun c178 => ?_)
                  · generalize eg179 : wrI h 10 2 (((hi h 10 2) : Int32) ||| (((1 : Int32) <<< ((q220.1 : Int32) &&& 31)) : Int32)) = g179
                    have jg179 : J h0 g179 := JwI eg179 j (by decide)
                    first | have f180 := adT (l2) (1) (by omega) (by omega) | have f180 := adT (l2) (1)
                    have f181 := rgT (l2 + 1)
                    exact ih g179 l1 (l2 + 1) jg179  (by omega) (by omega) (by omega)
                  · generalize eg182 : wrI h 10 2 (((hi h 10 2) : Int32) ||| (((1 : Int32) <<< ((q220.1 : Int32) &&& 31)) : Int32)) = g182
                    have jg182 : J h0 g182 := JwI eg182 j (by decide)
                    refine Ok.bind (sf_X7_cellOf (h0 := h0) n g182 l2 (by omega) jg182 ) (fun q223 hq223 => ?_)
                    obtain ⟨eq223, xq223⟩ := hq223
                    rw [eq223]
                    refine Ok.pos c145 ?_
                    refine Ok.pos c145 ?_
                    refine Ok.bind (sf_X8_soundIn (h0 := h0) n g182 10 q223.1 (hi g182 16 (Int32.toNatClampNeg l2)) (hi g182 17 (Int32.toNatClampNeg l2)) (by omega) jg182 sc_10) (fun q227 hq227 => ?_)
                    obtain ⟨jq227, xq227⟩ := hq227
                    first | have f183 := adT (l2) (1) (by omega) (by omega) | have f183 := adT (l2) (1)
                    have f184 := rgT (l2 + 1)
                    exact ih q227 l1 (l2 + 1) jq227  (by omega) (by omega) (by omega)
          · refine Ok.bind (sf_X7_onLawn (h0 := h0) n h l2 (by omega) j ) (fun q162 hq162 => ?_)
            obtain ⟨eq162, xq162⟩ := hq162
            rw [eq162]
            have f185 := rgT (q162.1)
            refine Ok.eq (fun c186 => ?_) (fun c186 => ?_)
            · have f187 := cR 3 2 0 5 (by decide) j
              refine Ok.bind (sf_X7_blame (h0 := h0) n h 6 l1 (by omega) j ) (fun q182 hq182 => ?_)
              obtain ⟨jq182, xq182⟩ := hq182
              refine Ok.eq (fun c188 => ?_) (fun c188 => ?_)
              · first | have f189 := adT (l2) (1) (by omega) (by omega) | have f189 := adT (l2) (1)
                have f190 := rgT (l2 + 1)
                exact ih q182 l1 (l2 + 1) jq182  (by omega) (by omega) (by omega)
              · refine Ok.bind (sf_X7_cellOf (h0 := h0) n q182 l2 (by omega) jq182 ) (fun q185 hq185 => ?_)
                obtain ⟨eq185, xq185⟩ := hq185
                rw [eq185]
                refine Ok.pos c145 ?_
                refine Ok.pos c145 ?_
                refine Ok.bind (sf_X8_soundIn (h0 := h0) n q182 10 q185.1 (hi q182 16 (Int32.toNatClampNeg l2)) (hi q182 17 (Int32.toNatClampNeg l2)) (by omega) jq182 sc_10) (fun q189 hq189 => ?_)
                obtain ⟨jq189, xq189⟩ := hq189
                first | have f191 := adT (l2) (1) (by omega) (by omega) | have f191 := adT (l2) (1)
                have f192 := rgT (l2 + 1)
                exact ih q189 l1 (l2 + 1) jq189  (by omega) (by omega) (by omega)
            · refine Ok.eq (fun c193 => ?_) (fun c193 => ?_)
              · refine Ok.eq (fun c194 => ?_) (fun c194 => ?_)
                · first | have f195 := adT (l2) (1) (by omega) (by omega) | have f195 := adT (l2) (1)
                  have f196 := rgT (l2 + 1)
                  exact ih h l1 (l2 + 1) j  (by omega) (by omega) (by omega)
                · refine Ok.bind (sf_X7_cellOf (h0 := h0) n h l2 (by omega) j ) (fun q167 hq167 => ?_)
                  obtain ⟨eq167, xq167⟩ := hq167
                  rw [eq167]
                  refine Ok.pos c145 ?_
                  refine Ok.pos c145 ?_
                  refine Ok.bind (sf_X8_soundIn (h0 := h0) n h 10 q167.1 (hi h 16 (Int32.toNatClampNeg l2)) (hi h 17 (Int32.toNatClampNeg l2)) (by omega) j sc_10) (fun q171 hq171 => ?_)
                  obtain ⟨jq171, xq171⟩ := hq171
                  first | have f197 := adT (l2) (1) (by omega) (by omega) | have f197 := adT (l2) (1)
                  have f198 := rgT (l2 + 1)
                  exact ih q171 l1 (l2 + 1) jq171  (by omega) (by omega) (by omega)
              · refine Ok.bind (sf_X7_cellOf (h0 := h0) n h l2 (by omega) j ) (fun q173 hq173 => ?_)
                obtain ⟨eq173, xq173⟩ := hq173
                rw [eq173]
                refine Ok.eq (fun c199 => ?_) (fun c199 => ?_)
                · generalize eg200 : wrI h 10 2 (((hi h 10 2) : Int32) ||| (((1 : Int32) <<< ((q173.1 : Int32) &&& 31)) : Int32)) = g200
                  have jg200 : J h0 g200 := JwI eg200 j (by decide)
                  first | have f201 := adT (l2) (1) (by omega) (by omega) | have f201 := adT (l2) (1)
                  have f202 := rgT (l2 + 1)
                  exact ih g200 l1 (l2 + 1) jg200  (by omega) (by omega) (by omega)
                · generalize eg203 : wrI h 10 2 (((hi h 10 2) : Int32) ||| (((1 : Int32) <<< ((q173.1 : Int32) &&& 31)) : Int32)) = g203
                  have jg203 : J h0 g203 := JwI eg203 j (by decide)
                  refine Ok.bind (sf_X7_cellOf (h0 := h0) n g203 l2 (by omega) jg203 ) (fun q176 hq176 => ?_)
                  obtain ⟨eq176, xq176⟩ := hq176
                  rw [eq176]
                  refine Ok.pos c145 ?_
                  refine Ok.pos c145 ?_
                  refine Ok.bind (sf_X8_soundIn (h0 := h0) n g203 10 q176.1 (hi g203 16 (Int32.toNatClampNeg l2)) (hi g203 17 (Int32.toNatClampNeg l2)) (by omega) jg203 sc_10) (fun q180 hq180 => ?_)
                  obtain ⟨jq180, xq180⟩ := hq180
                  first | have f204 := adT (l2) (1) (by omega) (by omega) | have f204 := adT (l2) (1)
                  have f205 := rgT (l2 + 1)
                  exact ih q180 l1 (l2 + 1) jq180  (by omega) (by omega) (by omega)
        · have f206 := lit_1
          refine Ok.eq (fun c207 => ?_) (fun c207 => ?_)
          · refine Ok.eq (fun c208 => ?_) (fun c208 => ?_)
            · refine Ok.eq (fun c209 => ?_) (fun c209 => ?_)
              · refine Ok.eq (fun c210 => ?_) (fun c210 => ?_)
                · first | have f211 := adT (l2) (1) (by omega) (by omega) | have f211 := adT (l2) (1)
                  have f212 := rgT (l2 + 1)
                  exact ih h l1 (l2 + 1) j  (by omega) (by omega) (by omega)
                · refine Ok.bind (sf_X7_cellOf (h0 := h0) n h l2 (by omega) j ) (fun q271 hq271 => ?_)
                  obtain ⟨eq271, xq271⟩ := hq271
                  rw [eq271]
                  refine Ok.pos c145 ?_
                  refine Ok.pos c145 ?_
                  refine Ok.bind (sf_X8_soundIn (h0 := h0) n h 10 q271.1 (hi h 16 (Int32.toNatClampNeg l2)) (hi h 17 (Int32.toNatClampNeg l2)) (by omega) j sc_10) (fun q275 hq275 => ?_)
                  obtain ⟨jq275, xq275⟩ := hq275
                  first | have f213 := adT (l2) (1) (by omega) (by omega) | have f213 := adT (l2) (1)
                  have f214 := rgT (l2 + 1)
                  exact ih q275 l1 (l2 + 1) jq275  (by omega) (by omega) (by omega)
              · refine Ok.bind (sf_X7_cellOf (h0 := h0) n h l2 (by omega) j ) (fun q277 hq277 => ?_)
                obtain ⟨eq277, xq277⟩ := hq277
                rw [eq277]
                refine Ok.eq (fun c215 => ?_) (fun c215 => ?_)
                · generalize eg216 : wrI h 10 2 (((hi h 10 2) : Int32) ||| (((1 : Int32) <<< ((q277.1 : Int32) &&& 31)) : Int32)) = g216
                  have jg216 : J h0 g216 := JwI eg216 j (by decide)
                  first | have f217 := adT (l2) (1) (by omega) (by omega) | have f217 := adT (l2) (1)
                  have f218 := rgT (l2 + 1)
                  exact ih g216 l1 (l2 + 1) jg216  (by omega) (by omega) (by omega)
                · generalize eg219 : wrI h 10 2 (((hi h 10 2) : Int32) ||| (((1 : Int32) <<< ((q277.1 : Int32) &&& 31)) : Int32)) = g219
                  have jg219 : J h0 g219 := JwI eg219 j (by decide)
                  refine Ok.bind (sf_X7_cellOf (h0 := h0) n g219 l2 (by omega) jg219 ) (fun q280 hq280 => ?_)
                  obtain ⟨eq280, xq280⟩ := hq280
                  rw [eq280]
                  refine Ok.pos c145 ?_
                  refine Ok.pos c145 ?_
                  refine Ok.bind (sf_X8_soundIn (h0 := h0) n g219 10 q280.1 (hi g219 16 (Int32.toNatClampNeg l2)) (hi g219 17 (Int32.toNatClampNeg l2)) (by omega) jg219 sc_10) (fun q284 hq284 => ?_)
                  obtain ⟨jq284, xq284⟩ := hq284
                  first | have f220 := adT (l2) (1) (by omega) (by omega) | have f220 := adT (l2) (1)
                  have f221 := rgT (l2 + 1)
                  exact ih q284 l1 (l2 + 1) jq284  (by omega) (by omega) (by omega)
            · refine Ok.bind (sf_X7_onLawn (h0 := h0) n h l2 (by omega) j ) (fun q286 hq286 => ?_)
              obtain ⟨eq286, xq286⟩ := hq286
              rw [eq286]
              have f222 := rgT (q286.1)
              refine Ok.eq (fun c223 => ?_) (fun c223 => ?_)
              · have f224 := cR 3 2 0 5 (by decide) j
                refine Ok.bind (sf_X7_blame (h0 := h0) n h 6 l1 (by omega) j ) (fun q306 hq306 => ?_)
                obtain ⟨jq306, xq306⟩ := hq306
                refine Ok.eq (fun c225 => ?_) (fun c225 => ?_)
                · first | have f226 := adT (l2) (1) (by omega) (by omega) | have f226 := adT (l2) (1)
                  have f227 := rgT (l2 + 1)
                  exact ih q306 l1 (l2 + 1) jq306  (by omega) (by omega) (by omega)
                · refine Ok.bind (sf_X7_cellOf (h0 := h0) n q306 l2 (by omega) jq306 ) (fun q309 hq309 => ?_)
                  obtain ⟨eq309, xq309⟩ := hq309
                  rw [eq309]
                  refine Ok.pos c145 ?_
                  refine Ok.pos c145 ?_
                  refine Ok.bind (sf_X8_soundIn (h0 := h0) n q306 10 q309.1 (hi q306 16 (Int32.toNatClampNeg l2)) (hi q306 17 (Int32.toNatClampNeg l2)) (by omega) jq306 sc_10) (fun q313 hq313 => ?_)
                  obtain ⟨jq313, xq313⟩ := hq313
                  first | have f228 := adT (l2) (1) (by omega) (by omega) | have f228 := adT (l2) (1)
                  have f229 := rgT (l2 + 1)
                  exact ih q313 l1 (l2 + 1) jq313  (by omega) (by omega) (by omega)
              · refine Ok.eq (fun c230 => ?_) (fun c230 => ?_)
                · refine Ok.eq (fun c231 => ?_) (fun c231 => ?_)
                  · first | have f232 := adT (l2) (1) (by omega) (by omega) | have f232 := adT (l2) (1)
                    have f233 := rgT (l2 + 1)
                    exact ih h l1 (l2 + 1) j  (by omega) (by omega) (by omega)
                  · refine Ok.bind (sf_X7_cellOf (h0 := h0) n h l2 (by omega) j ) (fun q291 hq291 => ?_)
                    obtain ⟨eq291, xq291⟩ := hq291
                    rw [eq291]
                    refine Ok.pos c145 ?_
                    refine Ok.pos c145 ?_
                    refine Ok.bind (sf_X8_soundIn (h0 := h0) n h 10 q291.1 (hi h 16 (Int32.toNatClampNeg l2)) (hi h 17 (Int32.toNatClampNeg l2)) (by omega) j sc_10) (fun q295 hq295 => ?_)
                    obtain ⟨jq295, xq295⟩ := hq295
                    first | have f234 := adT (l2) (1) (by omega) (by omega) | have f234 := adT (l2) (1)
                    have f235 := rgT (l2 + 1)
                    exact ih q295 l1 (l2 + 1) jq295  (by omega) (by omega) (by omega)
                · refine Ok.bind (sf_X7_cellOf (h0 := h0) n h l2 (by omega) j ) (fun q297 hq297 => ?_)
                  obtain ⟨eq297, xq297⟩ := hq297
                  rw [eq297]
                  refine Ok.eq (fun c236 => ?_) (fun c236 => ?_)
                  · generalize eg237 : wrI h 10 2 (((hi h 10 2) : Int32) ||| (((1 : Int32) <<< ((q297.1 : Int32) &&& 31)) : Int32)) = g237
                    have jg237 : J h0 g237 := JwI eg237 j (by decide)
                    first | have f238 := adT (l2) (1) (by omega) (by omega) | have f238 := adT (l2) (1)
                    have f239 := rgT (l2 + 1)
                    exact ih g237 l1 (l2 + 1) jg237  (by omega) (by omega) (by omega)
                  · generalize eg240 : wrI h 10 2 (((hi h 10 2) : Int32) ||| (((1 : Int32) <<< ((q297.1 : Int32) &&& 31)) : Int32)) = g240
                    have jg240 : J h0 g240 := JwI eg240 j (by decide)
                    refine Ok.bind (sf_X7_cellOf (h0 := h0) n g240 l2 (by omega) jg240 ) (fun q300 hq300 => ?_)
                    obtain ⟨eq300, xq300⟩ := hq300
                    rw [eq300]
                    refine Ok.pos c145 ?_
                    refine Ok.pos c145 ?_
                    refine Ok.bind (sf_X8_soundIn (h0 := h0) n g240 10 q300.1 (hi g240 16 (Int32.toNatClampNeg l2)) (hi g240 17 (Int32.toNatClampNeg l2)) (by omega) jg240 sc_10) (fun q304 hq304 => ?_)
                    obtain ⟨jq304, xq304⟩ := hq304
                    first | have f241 := adT (l2) (1) (by omega) (by omega) | have f241 := adT (l2) (1)
                    have f242 := rgT (l2 + 1)
                    exact ih q304 l1 (l2 + 1) jq304  (by omega) (by omega) (by omega)
          · refine Ok.bind (sf_X7_onLawn (h0 := h0) n h l2 (by omega) j ) (fun q239 hq239 => ?_)
            obtain ⟨eq239, xq239⟩ := hq239
            rw [eq239]
            have f243 := rgT (q239.1)
            refine Ok.eq (fun c244 => ?_) (fun c244 => ?_)
            · have f245 := cR 3 2 0 5 (by decide) j
              refine Ok.bind (sf_X7_blame (h0 := h0) n h 6 l1 (by omega) j ) (fun q259 hq259 => ?_)
              obtain ⟨jq259, xq259⟩ := hq259
              refine Ok.eq (fun c246 => ?_) (fun c246 => ?_)
              · first | have f247 := adT (l2) (1) (by omega) (by omega) | have f247 := adT (l2) (1)
                have f248 := rgT (l2 + 1)
                exact ih q259 l1 (l2 + 1) jq259  (by omega) (by omega) (by omega)
              · refine Ok.bind (sf_X7_cellOf (h0 := h0) n q259 l2 (by omega) jq259 ) (fun q262 hq262 => ?_)
                obtain ⟨eq262, xq262⟩ := hq262
                rw [eq262]
                refine Ok.pos c145 ?_
                refine Ok.pos c145 ?_
                refine Ok.bind (sf_X8_soundIn (h0 := h0) n q259 10 q262.1 (hi q259 16 (Int32.toNatClampNeg l2)) (hi q259 17 (Int32.toNatClampNeg l2)) (by omega) jq259 sc_10) (fun q266 hq266 => ?_)
                obtain ⟨jq266, xq266⟩ := hq266
                first | have f249 := adT (l2) (1) (by omega) (by omega) | have f249 := adT (l2) (1)
                have f250 := rgT (l2 + 1)
                exact ih q266 l1 (l2 + 1) jq266  (by omega) (by omega) (by omega)
            · refine Ok.eq (fun c251 => ?_) (fun c251 => ?_)
              · refine Ok.eq (fun c252 => ?_) (fun c252 => ?_)
                · first | have f253 := adT (l2) (1) (by omega) (by omega) | have f253 := adT (l2) (1)
                  have f254 := rgT (l2 + 1)
                  exact ih h l1 (l2 + 1) j  (by omega) (by omega) (by omega)
                · refine Ok.bind (sf_X7_cellOf (h0 := h0) n h l2 (by omega) j ) (fun q244 hq244 => ?_)
                  obtain ⟨eq244, xq244⟩ := hq244
                  rw [eq244]
                  refine Ok.pos c145 ?_
                  refine Ok.pos c145 ?_
                  refine Ok.bind (sf_X8_soundIn (h0 := h0) n h 10 q244.1 (hi h 16 (Int32.toNatClampNeg l2)) (hi h 17 (Int32.toNatClampNeg l2)) (by omega) j sc_10) (fun q248 hq248 => ?_)
                  obtain ⟨jq248, xq248⟩ := hq248
                  first | have f255 := adT (l2) (1) (by omega) (by omega) | have f255 := adT (l2) (1)
                  have f256 := rgT (l2 + 1)
                  exact ih q248 l1 (l2 + 1) jq248  (by omega) (by omega) (by omega)
              · refine Ok.bind (sf_X7_cellOf (h0 := h0) n h l2 (by omega) j ) (fun q250 hq250 => ?_)
                obtain ⟨eq250, xq250⟩ := hq250
                rw [eq250]
                refine Ok.eq (fun c257 => ?_) (fun c257 => ?_)
                · generalize eg258 : wrI h 10 2 (((hi h 10 2) : Int32) ||| (((1 : Int32) <<< ((q250.1 : Int32) &&& 31)) : Int32)) = g258
                  have jg258 : J h0 g258 := JwI eg258 j (by decide)
                  first | have f259 := adT (l2) (1) (by omega) (by omega) | have f259 := adT (l2) (1)
                  have f260 := rgT (l2 + 1)
                  exact ih g258 l1 (l2 + 1) jg258  (by omega) (by omega) (by omega)
                · generalize eg261 : wrI h 10 2 (((hi h 10 2) : Int32) ||| (((1 : Int32) <<< ((q250.1 : Int32) &&& 31)) : Int32)) = g261
                  have jg261 : J h0 g261 := JwI eg261 j (by decide)
                  refine Ok.bind (sf_X7_cellOf (h0 := h0) n g261 l2 (by omega) jg261 ) (fun q253 hq253 => ?_)
                  obtain ⟨eq253, xq253⟩ := hq253
                  rw [eq253]
                  refine Ok.pos c145 ?_
                  refine Ok.pos c145 ?_
                  refine Ok.bind (sf_X8_soundIn (h0 := h0) n g261 10 q253.1 (hi g261 16 (Int32.toNatClampNeg l2)) (hi g261 17 (Int32.toNatClampNeg l2)) (by omega) jg261 sc_10) (fun q257 hq257 => ?_)
                  obtain ⟨jq257, xq257⟩ := hq257
                  first | have f262 := adT (l2) (1) (by omega) (by omega) | have f262 := adT (l2) (1)
                  have f263 := rgT (l2 + 1)
                  exact ih q257 l1 (l2 + 1) jq257  (by omega) (by omega) (by omega)
