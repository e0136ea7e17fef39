/-! the class comes to its end, 6 -/
set_option maxRecDepth 100000 in
set_option maxHeartbeats 4000000 in
theorem sf_X7_readSum {h0 : Hp} {e : Nat} {S : Nat → Hp → Int32 → Option Hp} (hS : ∀ (n : Nat) (h : Hp) (x1 : Int32), 17179869184 * (19 + e) ≤ n → J h0 h → 0 ≤ x1.toInt → x1.toInt ≤ 6 → 7 - x1.toInt ≤ e - 1 → Ok (S n h x1) (fun q => J h0 q ∧ True)) (n : Nat) (h : Hp) (x1 : Int32) (hn : 17179869184 * (20 + e) ≤ n) (j : J h0 h) (p0 : 0 ≤ x1.toInt) (p1 : x1.toInt ≤ 6) (p2 : 7 - x1.toInt ≤ e) : Ok (F_X7_readSum S n h x1) (fun q => J h0 q ∧ True) := by
  unfold F_X7_readSum
  have f1 := rgT (x1)
  refine Ok.bind (sf_X7_readUnit (h0 := h0) hS n h x1 (by omega) j (by omega) (by omega) (by omega)) (fun q61 hq61 => ?_)
  obtain ⟨jq61, xq61⟩ := hq61
  have f2 := lit_0
  exact sfW_X7_readSum_9 (h0 := h0) hS n q61 x1 0 0 jq61  (by omega) (by omega) (by omega) (by omega) (by omega)
theorem sfL_X7_readSum {h0 : Hp} : ∀ (l : Nat) (n : Nat) (h : Hp) (x1 : Int32), 17179869184 * (20 + l) ≤ n → J h0 h → 0 ≤ x1.toInt → x1.toInt ≤ 6 → 7 - x1.toInt ≤ l → Ok (L_X7_readSum l n h x1) (fun q => J h0 q ∧ True) := by
  intro l
  induction l with
  | zero => intro n h x1 hn j p0 p1 p2; exfalso; omega
  | succ l ih =>
    intro n h x1 hn j p0 p1 p2
    show Ok (F_X7_readSum (L_X7_readSum l) n h x1) _
    exact sf_X7_readSum (h0 := h0) (e := l + 1) (fun n h x1 hn j q0 q1 q2 => ih n h x1 (by omega) j q0 q1 (by omega)) n h x1 (by omega) j p0 p1 (by omega)
theorem sf_X7_readSumT {h0 : Hp} (n : Nat) (h : Hp) (x1 : Int32) (hn : 584115552256 ≤ n) (j : J h0 h) (p0 : x1.toInt = 0) : Ok (F_X7_readSumT n h x1) (fun q => J h0 q ∧ True) := by
  unfold F_X7_readSumT
  exact sfL_X7_readSum 9 n h x1 (by omega) j (by omega) (by omega) (by omega)
set_option maxRecDepth 100000 in
set_option maxHeartbeats 4000000 in
theorem sf_X4_addLess {h0 : Hp} (n : Nat) (h : Hp) (a : Nat) (hn : 1 ≤ n) (j : J h0 h) (hs : IsLw a) : Ok (F_X4_addLess n h a) (fun q => J h0 q.2 ∧ True) := by
  unfold F_X4_addLess
  refine Ok.bind (sf_X4_add (h0 := h0) n h a (-14) (by omega) j hs) (fun q1 hq1 => ?_)
  obtain ⟨jq1, xq1⟩ := hq1
  refine Ok.bind (sf_X4_add (h0 := h0) n q1 a 0 (by omega) jq1 hs) (fun q3 hq3 => ?_)
  obtain ⟨jq3, xq3⟩ := hq3
  exact Ok.ret ⟨jq3, trivial⟩
set_option maxRecDepth 100000 in
set_option maxHeartbeats 4000000 in
theorem sf_X4_elseHere {h0 : Hp} (n : Nat) (h : Hp) (a : Nat) (x1 : Int32) (hn : 1 ≤ n) (j : J h0 h) (hs : IsLw a) : Ok (F_X4_elseHere n h a x1) (fun q => J h0 q ∧ True) := by
  unfold F_X4_elseHere
  have f1 := rgT (x1)
  have f2 := lit_0
  refine Ok.lt (fun c3 => ?_) (fun c3 => ?_)
  · exact Ok.ret ⟨j, trivial⟩
  · have f4 := lit_404
    refine Ok.le (fun c5 => ?_) (fun c5 => ?_)
    · exact Ok.ret ⟨j, trivial⟩
    · refine Ok.chk (ixT (by omega) (by omega)) (fun c6 => ?_)
      generalize eg7 : wrI h (a + 1) (Int32.toNatClampNeg x1) (hi h a 3) = g7
      have jg7 : J h0 g7 := JwI eg7 j (ncO_nc (lwO hs).2.1)
      exact Ok.ret ⟨jg7, trivial⟩
set_option maxRecDepth 100000 in
set_option maxHeartbeats 4000000 in
theorem sfW_X7_readLaw_20 {h0 : Hp} : ∀ (n : Nat), (∀ (h : Hp) (l1 : Int32) (l2 : Int32), J h0 h → (584115552256 : Int) < n → (584115552256 : Int) + (6 - l2.toInt) < n → Ok (W_X7_readLaw n 20 h l1 l2) (fun q => J h0 q ∧ True)) := by
  intro n
  induction n with
  | zero => intro h l1 l2 j hB hM; exfalso; omega
  | succ n ih =>
    intro h l1 l2 j hB hM
    rw [u_X7_readLaw]
    refine Ok.pos rfl ?_
    have f1 := rgT (hi h 2 5)
    have f2 := lit_0
    refine Ok.eq (fun c3 => ?_) (fun c3 => ?_)
    · refine Ok.bind (sf_X7_kind (h0 := h0) n h  (by omega) j ) (fun q6 hq6 => ?_)
      obtain ⟨eq6, xq6⟩ := hq6
      rw [eq6]
      have f4 := rgT (q6.1)
      have f5 := lit_19
      refine Ok.eq (fun c6 => ?_) (fun c6 => ?_)
      · have f7 := lit_4
        have f8 := rgT (l2)
        refine Ok.lt (fun c9 => ?_) (fun c9 => ?_)
        · refine Ok.bind (sf_X7_readSumT (h0 := h0) n h 0 (by omega) j (by omega)) (fun q14 hq14 => ?_)
          obtain ⟨jq14, xq14⟩ := hq14
          refine Ok.bind (sf_X4_add (h0 := h0) n q14 5 (-15) (by omega) jq14 lw_5) (fun q16 hq16 => ?_)
          obtain ⟨jq16, xq16⟩ := hq16
          exact Ok.ret ⟨jq16, trivial⟩
        · refine Ok.lt (fun c10 => ?_) (fun c10 => ?_)
          · have f11 := cR 3 2 0 5 (by decide) j
            refine Ok.bind (sf_X7_take (h0 := h0) n h 19 (by omega) j ) (fun q19 hq19 => ?_)
            obtain ⟨jq19, xq19⟩ := hq19
            refine Ok.bind (sf_X7_readSumT (h0 := h0) n q19.2 0 (by omega) jq19 (by omega)) (fun q21 hq21 => ?_)
            obtain ⟨jq21, xq21⟩ := hq21
            have f12 := cR 3 2 0 5 (by decide) jq21
            refine Ok.bind (sf_X7_take (h0 := h0) n q21 60 (by omega) jq21 ) (fun q23 hq23 => ?_)
            obtain ⟨jq23, xq23⟩ := hq23
            refine Ok.bind (sf_X7_readSumT (h0 := h0) n q23.2 0 (by omega) jq23 (by omega)) (fun q25 hq25 => ?_)
            obtain ⟨jq25, xq25⟩ := hq25
            have f13 := cR 3 2 0 5 (by decide) jq25
            refine Ok.bind (sf_X7_take (h0 := h0) n q25 20 (by omega) jq25 ) (fun q27 hq27 => ?_)
            obtain ⟨jq27, xq27⟩ := hq27
            refine Ok.bind (sf_X4_addLess (h0 := h0) n q27.2 5 (by omega) jq27 lw_5) (fun q29 hq29 => ?_)
            obtain ⟨jq29, xq29⟩ := hq29
            refine Ok.bind (sf_X7_readSumT (h0 := h0) n q29.2 0 (by omega) jq29 (by omega)) (fun q31 hq31 => ?_)
            obtain ⟨jq31, xq31⟩ := hq31
            have f14 := cR 3 2 0 5 (by decide) jq31
            refine Ok.bind (sf_X7_take (h0 := h0) n q31 21 (by omega) jq31 ) (fun q33 hq33 => ?_)
            obtain ⟨jq33, xq33⟩ := hq33
            refine Ok.bind (sf_X4_add (h0 := h0) n q33.2 5 (-15) (by omega) jq33 lw_5) (fun q35 hq35 => ?_)
            obtain ⟨jq35, xq35⟩ := hq35
            refine Ok.bind (sf_X4_elseHere (h0 := h0) n q35 5 q29.1 (by omega) jq35 lw_5) (fun q37 hq37 => ?_)
            obtain ⟨jq37, xq37⟩ := hq37
            have f15 := lit_1
            first | have f16 := adT (l2) (1) (by omega) (by omega) | have f16 := adT (l2) (1)
            have f17 := rgT (l2 + 1)
            exact ih q37 l1 (l2 + 1) jq37   (by omega) (by omega)
          · have f18 := lit_2
            have f19 := cR 3 2 0 5 (by decide) j
            refine Ok.bind (sf_X7_stop (h0 := h0) n h 2 (by omega) j ) (fun q39 hq39 => ?_)
            obtain ⟨jq39, xq39⟩ := hq39
            have f20 := cR 3 2 0 5 (by decide) jq39
            refine Ok.bind (sf_X7_take (h0 := h0) n q39 19 (by omega) jq39 ) (fun q41 hq41 => ?_)
            obtain ⟨jq41, xq41⟩ := hq41
            refine Ok.bind (sf_X7_readSumT (h0 := h0) n q41.2 0 (by omega) jq41 (by omega)) (fun q43 hq43 => ?_)
            obtain ⟨jq43, xq43⟩ := hq43
            have f21 := cR 3 2 0 5 (by decide) jq43
            refine Ok.bind (sf_X7_take (h0 := h0) n q43 60 (by omega) jq43 ) (fun q45 hq45 => ?_)
            obtain ⟨jq45, xq45⟩ := hq45
            refine Ok.bind (sf_X7_readSumT (h0 := h0) n q45.2 0 (by omega) jq45 (by omega)) (fun q47 hq47 => ?_)
            obtain ⟨jq47, xq47⟩ := hq47
            have f22 := cR 3 2 0 5 (by decide) jq47
            refine Ok.bind (sf_X7_take (h0 := h0) n q47 20 (by omega) jq47 ) (fun q49 hq49 => ?_)
            obtain ⟨jq49, xq49⟩ := hq49
            refine Ok.bind (sf_X4_addLess (h0 := h0) n q49.2 5 (by omega) jq49 lw_5) (fun q51 hq51 => ?_)
            obtain ⟨jq51, xq51⟩ := hq51
            refine Ok.bind (sf_X7_readSumT (h0 := h0) n q51.2 0 (by omega) jq51 (by omega)) (fun q53 hq53 => ?_)
            obtain ⟨jq53, xq53⟩ := hq53
            have f23 := cR 3 2 0 5 (by decide) jq53
            refine Ok.bind (sf_X7_take (h0 := h0) n q53 21 (by omega) jq53 ) (fun q55 hq55 => ?_)
            obtain ⟨jq55, xq55⟩ := hq55
            refine Ok.bind (sf_X4_add (h0 := h0) n q55.2 5 (-15) (by omega) jq55 lw_5) (fun q57 hq57 => ?_)
            obtain ⟨jq57, xq57⟩ := hq57
            refine Ok.bind (sf_X4_elseHere (h0 := h0) n q57 5 q51.1 (by omega) jq57 lw_5) (fun q59 hq59 => ?_)
            obtain ⟨jq59, xq59⟩ := hq59
            have f24 := lit_1
            first | have f25 := adT (l2) (1) (by omega) (by omega) | have f25 := adT (l2) (1)
            have f26 := rgT (l2 + 1)
            exact ih q59 l1 (l2 + 1) jq59   (by omega) (by omega)
      · refine Ok.bind (sf_X7_readSumT (h0 := h0) n h 0 (by omega) j (by omega)) (fun q9 hq9 => ?_)
        obtain ⟨jq9, xq9⟩ := hq9
        refine Ok.bind (sf_X4_add (h0 := h0) n q9 5 (-15) (by omega) jq9 lw_5) (fun q11 hq11 => ?_)
        obtain ⟨jq11, xq11⟩ := hq11
        exact Ok.ret ⟨jq11, trivial⟩
    · refine Ok.bind (sf_X7_readSumT (h0 := h0) n h 0 (by omega) j (by omega)) (fun q2 hq2 => ?_)
      obtain ⟨jq2, xq2⟩ := hq2
      refine Ok.bind (sf_X4_add (h0 := h0) n q2 5 (-15) (by omega) jq2 lw_5) (fun q4 hq4 => ?_)
      obtain ⟨jq4, xq4⟩ := hq4
      exact Ok.ret ⟨jq4, trivial⟩
set_option maxRecDepth 100000 in
set_option maxHeartbeats 4000000 in
theorem sf_X7_readLaw {h0 : Hp} (n : Nat) (h : Hp) (x1 : Int32) (hn : 601295421440 ≤ n) (j : J h0 h) : Ok (F_X7_readLaw n h x1) (fun q => J h0 q ∧ True) := by
  unfold F_X7_readLaw
  have f1 := cR 3 2 0 5 (by decide) j
  refine Ok.bind (sf_X7_take (h0 := h0) n h 61 (by omega) j ) (fun q61 hq61 => ?_)
  obtain ⟨jq61, xq61⟩ := hq61
  refine Ok.bind (sf_X4_begin (h0 := h0) n q61.2 5 x1 (by omega) jq61 lw_5) (fun q63 hq63 => ?_)
  obtain ⟨jq63, xq63⟩ := hq63
  have f2 := lit_0
  exact sfW_X7_readLaw_20 (h0 := h0) n q63 x1 0 jq63   (by omega) (by omega)
set_option maxRecDepth 100000 in
set_option maxHeartbeats 4000000 in
theorem sf_X7_readTell {h0 : Hp} (n : Nat) (h : Hp) (x1 : Int32) (hn : 601295421440 ≤ n) (j : J h0 h) : Ok (F_X7_readTell n h x1) (fun q => J h0 q ∧ True) := by
  unfold F_X7_readTell
  have f1 := rgT (x1)
  have f2 := lit_9
  refine Ok.eq (fun c3 => ?_) (fun c3 => ?_)
  · refine Ok.bind (sf_X7_readLawn (h0 := h0) n h  (by omega) j ) (fun q2 hq2 => ?_)
    obtain ⟨jq2, xq2⟩ := hq2
    have f4 := cR 3 2 0 5 (by decide) jq2
    refine Ok.bind (sf_X7_take (h0 := h0) n q2 59 (by omega) jq2 ) (fun q4 hq4 => ?_)
    obtain ⟨jq4, xq4⟩ := hq4
    exact Ok.ret ⟨jq4, trivial⟩
  · have f5 := lit_10
    refine Ok.eq (fun c6 => ?_) (fun c6 => ?_)
    · refine Ok.bind (sf_X7_readTune (h0 := h0) n h  (by omega) j ) (fun q7 hq7 => ?_)
      obtain ⟨jq7, xq7⟩ := hq7
      have f7 := cR 3 2 0 5 (by decide) jq7
      refine Ok.bind (sf_X7_take (h0 := h0) n q7 59 (by omega) jq7 ) (fun q9 hq9 => ?_)
      obtain ⟨jq9, xq9⟩ := hq9
      exact Ok.ret ⟨jq9, trivial⟩
    · have f8 := lit_11
      refine Ok.eq (fun c9 => ?_) (fun c9 => ?_)
      · refine Ok.bind (sf_X7_readGoer (h0 := h0) n h  (by omega) j ) (fun q12 hq12 => ?_)
        obtain ⟨jq12, xq12⟩ := hq12
        have f10 := cR 3 2 0 5 (by decide) jq12
        refine Ok.bind (sf_X7_take (h0 := h0) n q12 59 (by omega) jq12 ) (fun q14 hq14 => ?_)
        obtain ⟨jq14, xq14⟩ := hq14
        exact Ok.ret ⟨jq14, trivial⟩
      · have f11 := lit_12
        refine Ok.eq (fun c12 => ?_) (fun c12 => ?_)
        · refine Ok.bind (sf_X7_readRope (h0 := h0) n h  (by omega) j ) (fun q17 hq17 => ?_)
          obtain ⟨jq17, xq17⟩ := hq17
          have f13 := cR 3 2 0 5 (by decide) jq17
          refine Ok.bind (sf_X7_take (h0 := h0) n q17 59 (by omega) jq17 ) (fun q19 hq19 => ?_)
          obtain ⟨jq19, xq19⟩ := hq19
          exact Ok.ret ⟨jq19, trivial⟩
        · have f14 := lit_13
          refine Ok.eq (fun c15 => ?_) (fun c15 => ?_)
          · refine Ok.lt (fun c16 => ?_) (fun c16 => ?_)
            · have f17 := lit_1
              have f18 := cR 3 2 0 5 (by decide) j
              refine Ok.bind (sf_X7_stop (h0 := h0) n h 1 (by omega) j ) (fun q23 hq23 => ?_)
              obtain ⟨jq23, xq23⟩ := hq23
              exact Ok.ret ⟨jq23, trivial⟩
            · have f19 := lit_16
              refine Ok.le (fun c20 => ?_) (fun c20 => ?_)
              · have f21 := cR 3 2 0 5 (by decide) j
                refine Ok.bind (sf_X7_take (h0 := h0) n h x1 (by omega) j ) (fun q26 hq26 => ?_)
                obtain ⟨jq26, xq26⟩ := hq26
                refine Ok.bind (sf_X7_readLaw (h0 := h0) n q26.2 (x1 - 13) (by omega) jq26 ) (fun q28 hq28 => ?_)
                obtain ⟨jq28, xq28⟩ := hq28
                have f22 := cR 3 2 0 5 (by decide) jq28
                refine Ok.bind (sf_X7_take (h0 := h0) n q28 59 (by omega) jq28 ) (fun q30 hq30 => ?_)
                obtain ⟨jq30, xq30⟩ := hq30
                exact Ok.ret ⟨jq30, trivial⟩
              · have f23 := lit_1
                have f24 := cR 3 2 0 5 (by decide) j
                refine Ok.bind (sf_X7_stop (h0 := h0) n h 1 (by omega) j ) (fun q32 hq32 => ?_)
                obtain ⟨jq32, xq32⟩ := hq32
                exact Ok.ret ⟨jq32, trivial⟩
          · have f25 := lit_14
            refine Ok.eq (fun c26 => ?_) (fun c26 => ?_)
            · refine Ok.lt (fun c27 => ?_) (fun c27 => ?_)
              · have f28 := lit_1
                have f29 := cR 3 2 0 5 (by decide) j
                refine Ok.bind (sf_X7_stop (h0 := h0) n h 1 (by omega) j ) (fun q36 hq36 => ?_)
                obtain ⟨jq36, xq36⟩ := hq36
                exact Ok.ret ⟨jq36, trivial⟩
              · have f30 := lit_16
                refine Ok.le (fun c31 => ?_) (fun c31 => ?_)
                · have f32 := cR 3 2 0 5 (by decide) j
                  refine Ok.bind (sf_X7_take (h0 := h0) n h x1 (by omega) j ) (fun q39 hq39 => ?_)
                  obtain ⟨jq39, xq39⟩ := hq39
                  refine Ok.bind (sf_X7_readLaw (h0 := h0) n q39.2 (x1 - 13) (by omega) jq39 ) (fun q41 hq41 => ?_)
                  obtain ⟨jq41, xq41⟩ := hq41
                  have f33 := cR 3 2 0 5 (by decide) jq41
                  refine Ok.bind (sf_X7_take (h0 := h0) n q41 59 (by omega) jq41 ) (fun q43 hq43 => ?_)
                  obtain ⟨jq43, xq43⟩ := hq43
                  exact Ok.ret ⟨jq43, trivial⟩
                · have f34 := lit_1
                  have f35 := cR 3 2 0 5 (by decide) j
                  refine Ok.bind (sf_X7_stop (h0 := h0) n h 1 (by omega) j ) (fun q45 hq45 => ?_)
                  obtain ⟨jq45, xq45⟩ := hq45
                  exact Ok.ret ⟨jq45, trivial⟩
            · have f36 := lit_15
              refine Ok.eq (fun c37 => ?_) (fun c37 => ?_)
              · refine Ok.lt (fun c38 => ?_) (fun c38 => ?_)
                · have f39 := lit_1
                  have f40 := cR 3 2 0 5 (by decide) j
                  refine Ok.bind (sf_X7_stop (h0 := h0) n h 1 (by omega) j ) (fun q49 hq49 => ?_)
                  obtain ⟨jq49, xq49⟩ := hq49
                  exact Ok.ret ⟨jq49, trivial⟩
                · have f41 := lit_16
                  refine Ok.le (fun c42 => ?_) (fun c42 => ?_)
                  · have f43 := cR 3 2 0 5 (by decide) j
                    refine Ok.bind (sf_X7_take (h0 := h0) n h x1 (by omega) j ) (fun q52 hq52 => ?_)
                    obtain ⟨jq52, xq52⟩ := hq52
                    refine Ok.bind (sf_X7_readLaw (h0 := h0) n q52.2 (x1 - 13) (by omega) jq52 ) (fun q54 hq54 => ?_)
                    obtain ⟨jq54, xq54⟩ := hq54
                    have f44 := cR 3 2 0 5 (by decide) jq54
                    refine Ok.bind (sf_X7_take (h0 := h0) n q54 59 (by omega) jq54 ) (fun q56 hq56 => ?_)
                    obtain ⟨jq56, xq56⟩ := hq56
                    exact Ok.ret ⟨jq56, trivial⟩
                  · have f45 := lit_1
                    have f46 := cR 3 2 0 5 (by decide) j
                    refine Ok.bind (sf_X7_stop (h0 := h0) n h 1 (by omega) j ) (fun q58 hq58 => ?_)
                    obtain ⟨jq58, xq58⟩ := hq58
                    exact Ok.ret ⟨jq58, trivial⟩
              · have f47 := lit_16
                refine Ok.eq (fun c48 => ?_) (fun c48 => ?_)
                · refine Ok.lt (fun c49 => ?_) (fun c49 => ?_)
                  · have f50 := lit_1
                    have f51 := cR 3 2 0 5 (by decide) j
                    refine Ok.bind (sf_X7_stop (h0 := h0) n h 1 (by omega) j ) (fun q62 hq62 => ?_)
                    obtain ⟨jq62, xq62⟩ := hq62
                    exact Ok.ret ⟨jq62, trivial⟩
                  · refine Ok.le (fun c52 => ?_) (fun c52 => ?_)
                    · have f53 := cR 3 2 0 5 (by decide) j
                      refine Ok.bind (sf_X7_take (h0 := h0) n h x1 (by omega) j ) (fun q65 hq65 => ?_)
                      obtain ⟨jq65, xq65⟩ := hq65
                      refine Ok.bind (sf_X7_readLaw (h0 := h0) n q65.2 (x1 - 13) (by omega) jq65 ) (fun q67 hq67 => ?_)
                      obtain ⟨jq67, xq67⟩ := hq67
                      have f54 := cR 3 2 0 5 (by decide) jq67
                      refine Ok.bind (sf_X7_take (h0 := h0) n q67 59 (by omega) jq67 ) (fun q69 hq69 => ?_)
                      obtain ⟨jq69, xq69⟩ := hq69
                      exact Ok.ret ⟨jq69, trivial⟩
                    · have f55 := lit_1
                      have f56 := cR 3 2 0 5 (by decide) j
                      refine Ok.bind (sf_X7_stop (h0 := h0) n h 1 (by omega) j ) (fun q71 hq71 => ?_)
                      obtain ⟨jq71, xq71⟩ := hq71
                      exact Ok.ret ⟨jq71, trivial⟩
                · have f57 := lit_17
                  refine Ok.eq (fun c58 => ?_) (fun c58 => ?_)
                  · have f59 := cR 3 2 0 5 (by decide) j
                    refine Ok.bind (sf_X7_take (h0 := h0) n h x1 (by omega) j ) (fun q74 hq74 => ?_)
                    obtain ⟨jq74, xq74⟩ := hq74
                    have f60 := cR 3 2 0 5 (by decide) jq74
                    refine Ok.bind (sf_X7_takeNumber (h0 := h0) n q74.2 0 100 (by omega) jq74 ) (fun q76 hq76 => ?_)
                    obtain ⟨jq76, xq76⟩ := hq76
                    generalize eg61 : wrI q76.2 3 3 q76.1 = g61
                    have jg61 : J h0 g61 := JwI eg61 jq76 (by decide)
                    have f62 := congrArg Int32.toInt (hiK eg61 3 2 (by decide))
                    have f63 := cR 3 2 0 5 (by decide) jq76
                    have f64 := congrArg Int32.toInt (hiA eg61 2 5 (by decide))
                    refine Ok.bind (sf_X7_take (h0 := h0) n g61 59 (by omega) jg61 ) (fun q78 hq78 => ?_)
                    obtain ⟨jq78, xq78⟩ := hq78
                    exact Ok.ret ⟨jq78, trivial⟩
                  · have f65 := lit_18
                    refine Ok.eq (fun c66 => ?_) (fun c66 => ?_)
                    · have f67 := cR 3 2 0 5 (by decide) j
                      refine Ok.bind (sf_X7_take (h0 := h0) n h x1 (by omega) j ) (fun q81 hq81 => ?_)
                      obtain ⟨jq81, xq81⟩ := hq81
                      have f68 := cR 3 2 0 5 (by decide) jq81
                      refine Ok.bind (sf_X7_takeNumber (h0 := h0) n q81.2 0 9999 (by omega) jq81 ) (fun q83 hq83 => ?_)
                      obtain ⟨jq83, xq83⟩ := hq83
                      generalize eg69 : wrI q83.2 3 4 q83.1 = g69
                      have jg69 : J h0 g69 := JwI eg69 jq83 (by decide)
                      have f70 := congrArg Int32.toInt (hiK eg69 3 2 (by decide))
                      have f71 := cR 3 2 0 5 (by decide) jq83
                      have f72 := congrArg Int32.toInt (hiA eg69 2 5 (by decide))
                      refine Ok.bind (sf_X7_take (h0 := h0) n g69 59 (by omega) jg69 ) (fun q85 hq85 => ?_)
                      obtain ⟨jq85, xq85⟩ := hq85
                      exact Ok.ret ⟨jq85, trivial⟩
                    · refine Ok.lt (fun c73 => ?_) (fun c73 => ?_)
                      · have f74 := lit_1
                        have f75 := cR 3 2 0 5 (by decide) j
                        refine Ok.bind (sf_X7_stop (h0 := h0) n h 1 (by omega) j ) (fun q88 hq88 => ?_)
                        obtain ⟨jq88, xq88⟩ := hq88
                        exact Ok.ret ⟨jq88, trivial⟩
                      · refine Ok.le (fun c76 => ?_) (fun c76 => ?_)
                        · have f77 := cR 3 2 0 5 (by decide) j
                          refine Ok.bind (sf_X7_take (h0 := h0) n h x1 (by omega) j ) (fun q91 hq91 => ?_)
                          obtain ⟨jq91, xq91⟩ := hq91
                          refine Ok.bind (sf_X7_readLaw (h0 := h0) n q91.2 (x1 - 13) (by omega) jq91 ) (fun q93 hq93 => ?_)
                          obtain ⟨jq93, xq93⟩ := hq93
                          have f78 := cR 3 2 0 5 (by decide) jq93
                          refine Ok.bind (sf_X7_take (h0 := h0) n q93 59 (by omega) jq93 ) (fun q95 hq95 => ?_)
                          obtain ⟨jq95, xq95⟩ := hq95
                          exact Ok.ret ⟨jq95, trivial⟩
                        · have f79 := lit_1
                          have f80 := cR 3 2 0 5 (by decide) j
                          refine Ok.bind (sf_X7_stop (h0 := h0) n h 1 (by omega) j ) (fun q97 hq97 => ?_)
                          obtain ⟨jq97, xq97⟩ := hq97
                          exact Ok.ret ⟨jq97, trivial⟩
