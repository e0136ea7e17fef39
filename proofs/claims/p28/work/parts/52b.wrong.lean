/-! WHAT IS WRONG STAYS WRONG: the reference -/
/-- there is no fault -/
def ZR (h : Hp) : Prop := (hi h 226 13).toInt = 0 ∧ (hi h 226 15).toInt = 0
def NN (h : Hp) : Prop := 0 ≤ (hi h 226 13).toInt ∧ 0 ≤ (hi h 226 15).toInt
def zr (h q : Hp) : Prop := (ZR q → ZR h) ∧ (zR q → zR h) ∧ (NN h → NN q)
section ZRS
variable {h0 h h1 h2 q : Hp} {n : Nat} {x1 x2 : Int32}
theorem zr.rf (h : Hp) : zr h h := ⟨fun z => z, fun z => z, fun z => z⟩
theorem zr.tr (a : zr h0 h1) (b : zr h1 h2) : zr h0 h2 := ⟨fun z => a.1 (b.1 z), fun z => a.2.1 (b.2.1 z), fun z => b.2.2 (a.2.2 z)⟩
theorem zr.of (a : hi q 226 13 = hi h 226 13) (b : hi q 226 15 = hi h 226 15) : zr h q := ⟨fun z => by unfold ZR at z ⊢; rw [← a, ← b]; exact z, fun z => by unfold zR at z ⊢; rw [← a]; exact z, fun z => by unfold NN at z ⊢; rw [a, b]; exact z⟩
theorem zr.w (f : zr h q) {a k : Nat} {v : Int32} (n : ¬ (a = 226 ∧ (k = 13 ∨ k = 15))) : zr h (wrI q a k v) := f.tr (zr.of (by rw [hi_wrI, if_neg (by omega)]) (by rw [hi_wrI, if_neg (by omega)]))
theorem zr.wL (f : zr h q) {a k : Nat} {v : Int64} : zr h (wrL q a k v) := f.tr (zr.of rfl rfl)
theorem zr.fr {A : Nat → Nat → Prop} (f : frZ A h q) (n5 : ¬ A 226 13) (n6 : ¬ A 226 15) : zr h q := zr.of (f.1 226 13 n5) (f.1 226 15 n6)
theorem zb_X12_fail (nz : 0 < x1.toInt) : Pc (F_X12_fail n h x1) (fun q => zr h q) := by
  have f0 := lit_0
  unfold F_X12_fail
  refine Pc.le (fun c => Pc.chk (fun _ => Pc.ret ?_)) (fun c => Pc.ret (zr.rf h))
  generalize eg : wrI (wrI h 226 13 x1) 226 14 _ = g
  have e3 : hi g 226 13 = x1 := by rw [← eg, hi_wrI, if_neg (by decide), hi_wrI, if_pos ⟨rfl, rfl⟩]
  have e5 : hi g 226 15 = hi h 226 15 := by rw [← eg, hi_wrI, if_neg (by decide), hi_wrI, if_neg (by decide)]
  refine ⟨fun z => ?_, fun z => ?_, fun z => ⟨by rw [e3]; omega, by rw [e5]; exact z.2⟩⟩
  · exfalso
    have := z.1
    rw [e3] at this
    omega
  · exfalso
    unfold zR at z
    rw [e3] at z
    omega
theorem zb_X12_wrong (nz : 0 < x1.toInt) : Pc (F_X12_wrong n h x1 x2) (fun q => zr h q) := by
  have f0 := lit_0
  have go (v : Int32) : zr h (wrI (wrI h 226 15 x1) 226 16 v) := by
    generalize eg : wrI (wrI h 226 15 x1) 226 16 v = g
    have e3 : hi g 226 13 = hi h 226 13 := by rw [← eg, hi_wrI, if_neg (by decide), hi_wrI, if_neg (by decide)]
    have e5 : hi g 226 15 = x1 := by rw [← eg, hi_wrI, if_neg (by decide), hi_wrI, if_pos ⟨rfl, rfl⟩]
    refine ⟨fun z => ?_, fun z => ?_, fun z => ⟨by rw [e3]; exact z.1, by rw [e5]; omega⟩⟩
    · exfalso
      have := z.2
      rw [e5] at this
      omega
    · unfold zR at z ⊢
      rw [e3] at z
      exact z
  unfold F_X12_wrong
  refine Pc.chk (fun _ => Pc.ite (fun _ => Pc.ret (zr.rf h)) (fun _ => Pc.ite (fun _ => Pc.ret (go _)) (fun _ => Pc.ite (fun _ => Pc.ret (zr.rf h)) (fun _ => Pc.ite (fun _ => Pc.ite (fun _ => Pc.ret (go _)) (fun _ => Pc.ret (zr.rf h))) (fun _ => Pc.ret (go _))))))
end ZRS
theorem zb_X12_goesOn {n : Nat} {h : Hp} : Pc (F_X12_goesOn n h) (fun q => zr h q) := by
  unfold F_X12_goesOn
  refine Pc.ite (fun _ => ?_) (fun _ => ?_)
  · refine Pc.bind (zb_X12_fail (by decide)) (fun q1 h2 => ?_)
    have f3 : zr h q1 := zr.tr (zr.rf h) h2
    exact Pc.ret f3
  · exact Pc.ret (zr.w (zr.rf h) (by omega))
theorem zb_X12_bounded {n : Nat} {h : Hp} {x1 : Int32} {x2 : Int32} : Pc (F_X12_bounded n h x1 x2) (fun q => zr h q.2) := by
  unfold F_X12_bounded
  refine Pc.ite (fun _ => ?_) (fun _ => ?_)
  · refine Pc.bind (zb_X12_fail (by decide)) (fun q1 h2 => ?_)
    have f3 : zr h q1 := zr.tr (zr.rf h) h2
    exact Pc.ret f3
  · refine Pc.bind zf_X12_is (fun q4 h5 => ?_)
    have f6 : zr h q4.2 := zr.tr (zr.rf h) (zr.fr h5 (fun z => z) (fun z => z))
    refine Pc.ite (fun _ => ?_) (fun _ => ?_)
    · refine Pc.bind (zb_X12_fail (by decide)) (fun q7 h8 => ?_)
      have f9 : zr h q7 := zr.tr f6 h8
      exact Pc.ret f9
    · refine Pc.chk (fun c10 => ?_)
      refine Pc.ite (fun _ => ?_) (fun _ => ?_)
      · refine Pc.bind (zb_X12_wrong (by decide)) (fun q11 h12 => ?_)
        have f13 : zr h q11 := zr.tr f6 h12
        refine Pc.bind zb_X12_goesOn (fun q14 h15 => ?_)
        have f16 : zr h q14 := zr.tr f13 h15
        exact Pc.ret f16
      · refine Pc.ite (fun _ => ?_) (fun _ => ?_)
        · refine Pc.bind zb_X12_goesOn (fun q17 h18 => ?_)
          have f19 : zr h q17 := zr.tr f6 h18
          exact Pc.ret f19
        · refine Pc.bind (zb_X12_wrong (by decide)) (fun q20 h21 => ?_)
          have f22 : zr h q20 := zr.tr f6 h21
          refine Pc.bind zb_X12_goesOn (fun q23 h24 => ?_)
          have f25 : zr h q23 := zr.tr f22 h24
          exact Pc.ret f25
theorem zb_X12_must {n : Nat} {h : Hp} {x1 : Int32} : Pc (F_X12_must n h x1) (fun q => zr h q) := by
  unfold F_X12_must
  refine Pc.bind zf_X12_is (fun q1 h2 => ?_)
  have f3 : zr h q1.2 := zr.tr (zr.rf h) (zr.fr h2 (fun z => z) (fun z => z))
  refine Pc.ite (fun _ => ?_) (fun _ => ?_)
  · refine Pc.bind (zb_X12_fail (by decide)) (fun q4 h5 => ?_)
    have f6 : zr h q4 := zr.tr f3 h5
    exact Pc.ret f6
  · refine Pc.bind zb_X12_goesOn (fun q7 h8 => ?_)
    have f9 : zr h q7 := zr.tr f3 h8
    exact Pc.ret f9
theorem zb_X12_roomFor {n : Nat} {h : Hp} {x1 : Int32} {x2 : Int32} : Pc (F_X12_roomFor n h x1 x2) (fun q => zr h q) := by
  unfold F_X12_roomFor
  refine Pc.ite (fun _ => ?_) (fun _ => ?_)
  · refine Pc.bind (zb_X12_fail (by decide)) (fun q1 h2 => ?_)
    have f3 : zr h q1 := zr.tr (zr.rf h) h2
    refine Pc.ite (fun _ => ?_) (fun _ => ?_)
    · refine Pc.bind zb_X12_goesOn (fun q4 h5 => ?_)
      have f6 : zr h q4 := zr.tr f3 h5
      exact Pc.ret f6
    · exact Pc.ret f3
  · refine Pc.ite (fun _ => ?_) (fun _ => ?_)
    · refine Pc.bind zb_X12_goesOn (fun q7 h8 => ?_)
      have f9 : zr h q7 := zr.tr (zr.rf h) h8
      exact Pc.ret f9
    · exact Pc.ret (zr.rf h)
theorem zb_X12_tellTune {n : Nat} {h : Hp} : Pc (F_X12_tellTune n h) (fun q => zr h q) := by
  unfold F_X12_tellTune
  refine Pc.chk (fun c1 => ?_)
  refine Pc.bind zb_X12_bounded (fun q2 h3 => ?_)
  have f4 : zr h q2.2 := zr.tr (zr.rf h) h3
  refine Pc.chk (fun c5 => ?_)
  refine Pc.bind zb_X12_bounded (fun q6 h7 => ?_)
  have f8 : zr h q6.2 := zr.tr (zr.w f4 (by omega)) h7
  refine Pc.chk (fun c9 => ?_)
  refine Pc.bind zb_X12_bounded (fun q10 h11 => ?_)
  have f12 : zr h q10.2 := zr.tr (zr.w f8 (by omega)) h11
  refine Pc.chk (fun c13 => ?_)
  refine Pc.chk (fun c14 => ?_)
  refine Pc.ite (fun _ => ?_) (fun _ => ?_)
  · refine Pc.bind zb_X12_bounded (fun q15 h16 => ?_)
    have f17 : zr h q15.2 := zr.tr (zr.w f12 (by omega)) h16
    refine Pc.chk (fun c18 => ?_)
    refine Pc.bind zb_X12_must (fun q19 h20 => ?_)
    have f21 : zr h q19 := zr.tr (zr.w f17 (by omega)) h20
    refine Pc.ite (fun _ => ?_) (fun _ => ?_)
    · refine Pc.chk (fun c22 => ?_)
      refine Pc.chk (fun c23 => ?_)
      exact Pc.ret (zr.w f21 (by omega))
    · exact Pc.ret f21
  · refine Pc.chk (fun c24 => ?_)
    refine Pc.bind zb_X12_bounded (fun q25 h26 => ?_)
    have f27 : zr h q25.2 := zr.tr (zr.w f12 (by omega)) h26
    refine Pc.chk (fun c28 => ?_)
    refine Pc.bind zb_X12_must (fun q29 h30 => ?_)
    have f31 : zr h q29 := zr.tr (zr.w f27 (by omega)) h30
    refine Pc.ite (fun _ => ?_) (fun _ => ?_)
    · refine Pc.chk (fun c32 => ?_)
      refine Pc.chk (fun c33 => ?_)
      exact Pc.ret (zr.w f31 (by omega))
    · exact Pc.ret f31
theorem zv_X12_tellGoer : ∀ (n : Nat) (hd : Nat) (h : Hp) (l1 : Int32) (l2 : Int32) (l3 : Int32), Pc (W_X12_tellGoer n hd h l1 l2 l3) (fun q => zr h q) := by
  intro n
  induction n with
  | zero => intro hd h l1 l2 l3; exact Pc.no
  | succ n ih =>
    intro hd h l1 l2 l3
    rw [u_X12_tellGoer]
    refine Pc.chk (fun _ => ?_)
    refine Pc.ite (fun _ => ?_) (fun _ => ?_)
    · refine Pc.bind zb_X12_bounded (fun q2 h3 => ?_)
      have f4 : zr h q2.2 := zr.tr (zr.rf h) h3
      refine Pc.chk (fun c5 => ?_)
      refine Pc.bind zb_X12_bounded (fun q6 h7 => ?_)
      have f8 : zr h q6.2 := zr.tr (zr.w f4 (by omega)) h7
      refine Pc.chk (fun c9 => ?_)
      refine Pc.bind zb_X12_must (fun q10 h11 => ?_)
      have f12 : zr h q10 := zr.tr (zr.w f8 (by omega)) h11
      refine Pc.ite (fun _ => ?_) (fun _ => ?_)
      · refine Pc.chk (fun c13 => ?_)
        refine Pc.chk (fun c14 => ?_)
        refine Pc.chk (fun c15 => ?_)
        refine Pc.chk (fun c16 => ?_)
        exact Pc.ret (zr.w (zr.w (zr.wL f12) (by omega)) (by omega))
      · exact Pc.ret f12
    · refine Pc.ite (fun _ => ?_) (fun _ => ?_)
      · refine Pc.chk (fun c17 => ?_)
        refine Pc.chk (fun c18 => ?_)
        refine Pc.ite (fun _ => ?_) (fun _ => ?_)
        · refine Pc.bind (zb_X12_wrong (by decide)) (fun q19 h20 => ?_)
          have f21 : zr h q19 := zr.tr (zr.rf h) h20
          exact Pc.mono (ih _ _ _ _ _) (fun _ hq => zr.tr f21 hq)
        · exact Pc.mono (ih _ _ _ _ _) (fun _ hq => zr.tr (zr.rf h) hq)
      · refine Pc.bind zb_X12_bounded (fun q24 h25 => ?_)
        have f26 : zr h q24.2 := zr.tr (zr.rf h) h25
        refine Pc.chk (fun c27 => ?_)
        refine Pc.bind zb_X12_bounded (fun q28 h29 => ?_)
        have f30 : zr h q28.2 := zr.tr (zr.w f26 (by omega)) h29
        refine Pc.chk (fun c31 => ?_)
        refine Pc.bind zb_X12_must (fun q32 h33 => ?_)
        have f34 : zr h q32 := zr.tr (zr.w f30 (by omega)) h33
        refine Pc.ite (fun _ => ?_) (fun _ => ?_)
        · refine Pc.chk (fun c35 => ?_)
          refine Pc.chk (fun c36 => ?_)
          refine Pc.chk (fun c37 => ?_)
          refine Pc.chk (fun c38 => ?_)
          exact Pc.ret (zr.w (zr.w (zr.wL f34) (by omega)) (by omega))
        · exact Pc.ret f34
theorem zb_X12_tellGoer {n : Nat} {h : Hp} : Pc (F_X12_tellGoer n h) (fun q => zr h q) := by
  unfold F_X12_tellGoer
  refine Pc.chk (fun c1 => ?_)
  refine Pc.bind zb_X12_must (fun q2 h3 => ?_)
  have f4 : zr h q2 := zr.tr (zr.rf h) h3
  exact Pc.mono (zv_X12_tellGoer _ _ _ _ _ _) (fun _ hq => zr.tr f4 hq)
theorem zb_X12_tellRope {n : Nat} {h : Hp} : Pc (F_X12_tellRope n h) (fun q => zr h q) := by
  unfold F_X12_tellRope
  refine Pc.chk (fun c1 => ?_)
  refine Pc.bind zb_X12_bounded (fun q2 h3 => ?_)
  have f4 : zr h q2.2 := zr.tr (zr.rf h) h3
  refine Pc.chk (fun c5 => ?_)
  refine Pc.bind zb_X12_bounded (fun q6 h7 => ?_)
  have f8 : zr h q6.2 := zr.tr (zr.w f4 (by omega)) h7
  refine Pc.chk (fun c9 => ?_)
  refine Pc.bind zb_X12_must (fun q10 h11 => ?_)
  have f12 : zr h q10 := zr.tr (zr.w f8 (by omega)) h11
  refine Pc.ite (fun _ => ?_) (fun _ => ?_)
  · refine Pc.chk (fun c13 => ?_)
    refine Pc.chk (fun c14 => ?_)
    exact Pc.ret (zr.w f12 (by omega))
  · exact Pc.ret f12
theorem zb_X12_unit {n : Nat} {h : Hp} : Pc (F_X12_unit n h) (fun q => zr h q) := by
  unfold F_X12_unit
  refine Pc.bind zf_X12_is (fun q1 h2 => ?_)
  have f3 : zr h q1.2 := zr.tr (zr.rf h) (zr.fr h2 (fun z => z) (fun z => z))
  refine Pc.ite (fun _ => ?_) (fun _ => ?_)
  · refine Pc.ite (fun _ => ?_) (fun _ => ?_)
    · refine Pc.chk (fun c4 => ?_)
      refine Pc.ite (fun _ => ?_) (fun _ => ?_)
      · refine Pc.bind (zb_X12_fail (by decide)) (fun q5 h6 => ?_)
        have f7 : zr h q5 := zr.tr f3 h6
        exact Pc.ret f7
      · refine Pc.chk (fun c8 => ?_)
        refine Pc.ite (fun _ => ?_) (fun _ => ?_)
        · refine Pc.bind (zb_X12_fail (by decide)) (fun q9 h10 => ?_)
          have f11 : zr h q9 := zr.tr f3 h10
          exact Pc.ret f11
        · refine Pc.chk (fun c12 => ?_)
          refine Pc.bind zf_X12_emit (fun q13 h14 => ?_)
          have f15 : zr h q13 := zr.tr f3 (zr.fr h14 (by intro z; omega) (by intro z; omega))
          refine Pc.bind zb_X12_goesOn (fun q16 h17 => ?_)
          have f18 : zr h q16 := zr.tr f15 h17
          exact Pc.ret f18
    · refine Pc.bind (zb_X12_fail (by decide)) (fun q19 h20 => ?_)
      have f21 : zr h q19 := zr.tr f3 h20
      exact Pc.ret f21
  · refine Pc.chk (fun c22 => ?_)
    refine Pc.bind zf_X12_emit (fun q23 h24 => ?_)
    have f25 : zr h q23 := zr.tr f3 (zr.fr h24 (by intro z; omega) (by intro z; omega))
    refine Pc.bind zb_X12_goesOn (fun q26 h27 => ?_)
    have f28 : zr h q26 := zr.tr f25 h27
    exact Pc.ret f28
theorem zv_X12_expression : ∀ (n : Nat) (hd : Nat) (h : Hp) (l1 : Int32) (l2 : Int32), Pc (W_X12_expression n hd h l1 l2) (fun q => zr h q) := by
  intro n
  induction n with
  | zero => intro hd h l1 l2; exact Pc.no
  | succ n ih =>
    intro hd h l1 l2
    rw [u_X12_expression]
    refine Pc.ite (fun _ => ?_) (fun _ => ?_)
    · refine Pc.ite (fun _ => ?_) (fun _ => ?_)
      · exact Pc.ret (zr.rf h)
      · refine Pc.ite (fun _ => ?_) (fun _ => ?_)
        · exact Pc.mono (ih _ _ _ _) (fun _ hq => zr.tr (zr.rf h) hq)
        · exact Pc.ret (zr.rf h)
    · refine Pc.ite (fun _ => ?_) (fun _ => ?_)
      · refine Pc.bind zf_X12_is (fun q2 h3 => ?_)
        have f4 : zr h q2.2 := zr.tr (zr.rf h) (zr.fr h3 (fun z => z) (fun z => z))
        refine Pc.ite (fun _ => ?_) (fun _ => ?_)
        · refine Pc.bind zb_X12_unit (fun q5 h6 => ?_)
          have f7 : zr h q5 := zr.tr f4 h6
          refine Pc.ite (fun _ => ?_) (fun _ => ?_)
          · exact Pc.mono (ih _ _ _ _) (fun _ hq => zr.tr f7 hq)
          · exact Pc.ret f7
        · refine Pc.ite (fun _ => ?_) (fun _ => ?_)
          · refine Pc.bind (zb_X12_fail (by decide)) (fun q9 h10 => ?_)
            have f11 : zr h q9 := zr.tr f4 h10
            refine Pc.bind zb_X12_goesOn (fun q12 h13 => ?_)
            have f14 : zr h q12 := zr.tr (zr.w f11 (by omega)) h13
            refine Pc.chk (fun c15 => ?_)
            exact Pc.mono (ih _ _ _ _) (fun _ hq => zr.tr (zr.w (zr.w f14 (by omega)) (by omega)) hq)
          · refine Pc.bind zb_X12_goesOn (fun q17 h18 => ?_)
            have f19 : zr h q17 := zr.tr (zr.w f4 (by omega)) h18
            refine Pc.chk (fun c20 => ?_)
            exact Pc.mono (ih _ _ _ _) (fun _ hq => zr.tr (zr.w (zr.w f19 (by omega)) (by omega)) hq)
      · refine Pc.chk (fun _ => ?_)
        refine Pc.bind zf_X12_is (fun q23 h24 => ?_)
        have f25 : zr h q23.2 := zr.tr (zr.rf h) (zr.fr h24 (fun z => z) (fun z => z))
        refine Pc.ite (fun _ => ?_) (fun _ => ?_)
        · refine Pc.bind zf_X12_is (fun q26 h27 => ?_)
          have f28 : zr h q26.2 := zr.tr f25 (zr.fr h27 (fun z => z) (fun z => z))
          refine Pc.ite (fun _ => ?_) (fun _ => ?_)
          · refine Pc.bind zf_X12_is (fun q29 h30 => ?_)
            have f31 : zr h q29.2 := zr.tr f28 (zr.fr h30 (fun z => z) (fun z => z))
            refine Pc.ite (fun _ => ?_) (fun _ => ?_)
            · refine Pc.bind zf_X12_is (fun q32 h33 => ?_)
              have f34 : zr h q32.2 := zr.tr f31 (zr.fr h33 (fun z => z) (fun z => z))
              refine Pc.ite (fun _ => ?_) (fun _ => ?_)
              · refine Pc.bind zf_X12_is (fun q35 h36 => ?_)
                have f37 : zr h q35.2 := zr.tr f34 (zr.fr h36 (fun z => z) (fun z => z))
                refine Pc.ite (fun _ => ?_) (fun _ => ?_)
                · refine Pc.ite (fun _ => ?_) (fun _ => ?_)
                  · refine Pc.ite (fun _ => ?_) (fun _ => ?_)
                    · refine Pc.bind zf_X12_comesOut (fun q38 h39 => ?_)
                      have f40 : zr h q38 := zr.tr f37 (zr.fr h39 (by intro z; omega) (by intro z; omega))
                      exact Pc.ret f40
                    · refine Pc.bind (zb_X12_fail (by decide)) (fun q41 h42 => ?_)
                      have f43 : zr h q41 := zr.tr f37 h42
                      refine Pc.bind zf_X12_comesOut (fun q44 h45 => ?_)
                      have f46 : zr h q44 := zr.tr f43 (zr.fr h45 (by intro z; omega) (by intro z; omega))
                      exact Pc.ret f46
                  · refine Pc.bind zf_X12_is (fun q47 h48 => ?_)
                    have f49 : zr h q47.2 := zr.tr f37 (zr.fr h48 (fun z => z) (fun z => z))
                    refine Pc.ite (fun _ => ?_) (fun _ => ?_)
                    · refine Pc.bind zf_X12_is (fun q50 h51 => ?_)
                      have f52 : zr h q50.2 := zr.tr f49 (zr.fr h51 (fun z => z) (fun z => z))
                      refine Pc.ite (fun _ => ?_) (fun _ => ?_)
                      · refine Pc.bind zf_X12_comesOut (fun q53 h54 => ?_)
                        have f55 : zr h q53 := zr.tr f52 (zr.fr h54 (by intro z; omega) (by intro z; omega))
                        refine Pc.chk (fun c56 => ?_)
                        refine Pc.chk (fun c57 => ?_)
                        refine Pc.bind zb_X12_goesOn (fun q58 h59 => ?_)
                        have f60 : zr h q58 := zr.tr (zr.w (zr.w f55 (by omega)) (by omega)) h59
                        exact Pc.mono (ih _ _ _ _) (fun _ hq => zr.tr f60 hq)
                      · refine Pc.bind zf_X12_comesOut (fun q62 h63 => ?_)
                        have f64 : zr h q62 := zr.tr f52 (zr.fr h63 (by intro z; omega) (by intro z; omega))
                        refine Pc.chk (fun c65 => ?_)
                        refine Pc.chk (fun c66 => ?_)
                        refine Pc.bind zb_X12_goesOn (fun q67 h68 => ?_)
                        have f69 : zr h q67 := zr.tr (zr.w (zr.w f64 (by omega)) (by omega)) h68
                        exact Pc.mono (ih _ _ _ _) (fun _ hq => zr.tr f69 hq)
                    · refine Pc.bind zf_X12_comesOut (fun q71 h72 => ?_)
                      have f73 : zr h q71 := zr.tr f49 (zr.fr h72 (by intro z; omega) (by intro z; omega))
                      refine Pc.chk (fun c74 => ?_)
                      refine Pc.chk (fun c75 => ?_)
                      refine Pc.bind zb_X12_goesOn (fun q76 h77 => ?_)
                      have f78 : zr h q76 := zr.tr (zr.w (zr.w f73 (by omega)) (by omega)) h77
                      exact Pc.mono (ih _ _ _ _) (fun _ hq => zr.tr f78 hq)
                · refine Pc.ite (fun _ => ?_) (fun _ => ?_)
                  · refine Pc.ite (fun _ => ?_) (fun _ => ?_)
                    · refine Pc.bind zf_X12_comesOut (fun q80 h81 => ?_)
                      have f82 : zr h q80 := zr.tr f37 (zr.fr h81 (by intro z; omega) (by intro z; omega))
                      exact Pc.ret f82
                    · refine Pc.bind (zb_X12_fail (by decide)) (fun q83 h84 => ?_)
                      have f85 : zr h q83 := zr.tr f37 h84
                      refine Pc.bind zf_X12_comesOut (fun q86 h87 => ?_)
                      have f88 : zr h q86 := zr.tr f85 (zr.fr h87 (by intro z; omega) (by intro z; omega))
                      exact Pc.ret f88
                  · refine Pc.bind zf_X12_is (fun q89 h90 => ?_)
                    have f91 : zr h q89.2 := zr.tr f37 (zr.fr h90 (fun z => z) (fun z => z))
                    refine Pc.ite (fun _ => ?_) (fun _ => ?_)
                    · refine Pc.bind zf_X12_is (fun q92 h93 => ?_)
                      have f94 : zr h q92.2 := zr.tr f91 (zr.fr h93 (fun z => z) (fun z => z))
                      refine Pc.ite (fun _ => ?_) (fun _ => ?_)
                      · refine Pc.bind zf_X12_comesOut (fun q95 h96 => ?_)
                        have f97 : zr h q95 := zr.tr f94 (zr.fr h96 (by intro z; omega) (by intro z; omega))
                        refine Pc.chk (fun c98 => ?_)
                        refine Pc.chk (fun c99 => ?_)
                        refine Pc.bind zb_X12_goesOn (fun q100 h101 => ?_)
                        have f102 : zr h q100 := zr.tr (zr.w (zr.w f97 (by omega)) (by omega)) h101
                        exact Pc.mono (ih _ _ _ _) (fun _ hq => zr.tr f102 hq)
                      · refine Pc.bind zf_X12_comesOut (fun q104 h105 => ?_)
                        have f106 : zr h q104 := zr.tr f94 (zr.fr h105 (by intro z; omega) (by intro z; omega))
                        refine Pc.chk (fun c107 => ?_)
                        refine Pc.chk (fun c108 => ?_)
                        refine Pc.bind zb_X12_goesOn (fun q109 h110 => ?_)
                        have f111 : zr h q109 := zr.tr (zr.w (zr.w f106 (by omega)) (by omega)) h110
                        exact Pc.mono (ih _ _ _ _) (fun _ hq => zr.tr f111 hq)
                    · refine Pc.bind zf_X12_comesOut (fun q113 h114 => ?_)
                      have f115 : zr h q113 := zr.tr f91 (zr.fr h114 (by intro z; omega) (by intro z; omega))
                      refine Pc.chk (fun c116 => ?_)
                      refine Pc.chk (fun c117 => ?_)
                      refine Pc.bind zb_X12_goesOn (fun q118 h119 => ?_)
                      have f120 : zr h q118 := zr.tr (zr.w (zr.w f115 (by omega)) (by omega)) h119
                      exact Pc.mono (ih _ _ _ _) (fun _ hq => zr.tr f120 hq)
              · refine Pc.ite (fun _ => ?_) (fun _ => ?_)
                · refine Pc.ite (fun _ => ?_) (fun _ => ?_)
                  · refine Pc.bind zf_X12_comesOut (fun q122 h123 => ?_)
                    have f124 : zr h q122 := zr.tr f34 (zr.fr h123 (by intro z; omega) (by intro z; omega))
                    exact Pc.ret f124
                  · refine Pc.bind (zb_X12_fail (by decide)) (fun q125 h126 => ?_)
                    have f127 : zr h q125 := zr.tr f34 h126
                    refine Pc.bind zf_X12_comesOut (fun q128 h129 => ?_)
                    have f130 : zr h q128 := zr.tr f127 (zr.fr h129 (by intro z; omega) (by intro z; omega))
                    exact Pc.ret f130
                · refine Pc.bind zf_X12_is (fun q131 h132 => ?_)
                  have f133 : zr h q131.2 := zr.tr f34 (zr.fr h132 (fun z => z) (fun z => z))
                  refine Pc.ite (fun _ => ?_) (fun _ => ?_)
                  · refine Pc.bind zf_X12_is (fun q134 h135 => ?_)
                    have f136 : zr h q134.2 := zr.tr f133 (zr.fr h135 (fun z => z) (fun z => z))
                    refine Pc.ite (fun _ => ?_) (fun _ => ?_)
                    · refine Pc.bind zf_X12_comesOut (fun q137 h138 => ?_)
                      have f139 : zr h q137 := zr.tr f136 (zr.fr h138 (by intro z; omega) (by intro z; omega))
                      refine Pc.chk (fun c140 => ?_)
                      refine Pc.chk (fun c141 => ?_)
                      refine Pc.bind zb_X12_goesOn (fun q142 h143 => ?_)
                      have f144 : zr h q142 := zr.tr (zr.w (zr.w f139 (by omega)) (by omega)) h143
                      exact Pc.mono (ih _ _ _ _) (fun _ hq => zr.tr f144 hq)
                    · refine Pc.bind zf_X12_comesOut (fun q146 h147 => ?_)
                      have f148 : zr h q146 := zr.tr f136 (zr.fr h147 (by intro z; omega) (by intro z; omega))
                      refine Pc.chk (fun c149 => ?_)
                      refine Pc.chk (fun c150 => ?_)
                      refine Pc.bind zb_X12_goesOn (fun q151 h152 => ?_)
                      have f153 : zr h q151 := zr.tr (zr.w (zr.w f148 (by omega)) (by omega)) h152
                      exact Pc.mono (ih _ _ _ _) (fun _ hq => zr.tr f153 hq)
                  · refine Pc.bind zf_X12_comesOut (fun q155 h156 => ?_)
                    have f157 : zr h q155 := zr.tr f133 (zr.fr h156 (by intro z; omega) (by intro z; omega))
                    refine Pc.chk (fun c158 => ?_)
                    refine Pc.chk (fun c159 => ?_)
                    refine Pc.bind zb_X12_goesOn (fun q160 h161 => ?_)
                    have f162 : zr h q160 := zr.tr (zr.w (zr.w f157 (by omega)) (by omega)) h161
                    exact Pc.mono (ih _ _ _ _) (fun _ hq => zr.tr f162 hq)
            · refine Pc.ite (fun _ => ?_) (fun _ => ?_)
              · refine Pc.ite (fun _ => ?_) (fun _ => ?_)
                · refine Pc.bind zf_X12_comesOut (fun q164 h165 => ?_)
                  have f166 : zr h q164 := zr.tr f31 (zr.fr h165 (by intro z; omega) (by intro z; omega))
                  exact Pc.ret f166
                · refine Pc.bind (zb_X12_fail (by decide)) (fun q167 h168 => ?_)
                  have f169 : zr h q167 := zr.tr f31 h168
                  refine Pc.bind zf_X12_comesOut (fun q170 h171 => ?_)
                  have f172 : zr h q170 := zr.tr f169 (zr.fr h171 (by intro z; omega) (by intro z; omega))
                  exact Pc.ret f172
              · refine Pc.bind zf_X12_is (fun q173 h174 => ?_)
                have f175 : zr h q173.2 := zr.tr f31 (zr.fr h174 (fun z => z) (fun z => z))
                refine Pc.ite (fun _ => ?_) (fun _ => ?_)
                · refine Pc.bind zf_X12_is (fun q176 h177 => ?_)
                  have f178 : zr h q176.2 := zr.tr f175 (zr.fr h177 (fun z => z) (fun z => z))
                  refine Pc.ite (fun _ => ?_) (fun _ => ?_)
                  · refine Pc.bind zf_X12_comesOut (fun q179 h180 => ?_)
                    have f181 : zr h q179 := zr.tr f178 (zr.fr h180 (by intro z; omega) (by intro z; omega))
                    refine Pc.chk (fun c182 => ?_)
                    refine Pc.chk (fun c183 => ?_)
                    refine Pc.bind zb_X12_goesOn (fun q184 h185 => ?_)
                    have f186 : zr h q184 := zr.tr (zr.w (zr.w f181 (by omega)) (by omega)) h185
                    exact Pc.mono (ih _ _ _ _) (fun _ hq => zr.tr f186 hq)
                  · refine Pc.bind zf_X12_comesOut (fun q188 h189 => ?_)
                    have f190 : zr h q188 := zr.tr f178 (zr.fr h189 (by intro z; omega) (by intro z; omega))
                    refine Pc.chk (fun c191 => ?_)
                    refine Pc.chk (fun c192 => ?_)
                    refine Pc.bind zb_X12_goesOn (fun q193 h194 => ?_)
                    have f195 : zr h q193 := zr.tr (zr.w (zr.w f190 (by omega)) (by omega)) h194
                    exact Pc.mono (ih _ _ _ _) (fun _ hq => zr.tr f195 hq)
                · refine Pc.bind zf_X12_comesOut (fun q197 h198 => ?_)
                  have f199 : zr h q197 := zr.tr f175 (zr.fr h198 (by intro z; omega) (by intro z; omega))
                  refine Pc.chk (fun c200 => ?_)
                  refine Pc.chk (fun c201 => ?_)
                  refine Pc.bind zb_X12_goesOn (fun q202 h203 => ?_)
                  have f204 : zr h q202 := zr.tr (zr.w (zr.w f199 (by omega)) (by omega)) h203
                  exact Pc.mono (ih _ _ _ _) (fun _ hq => zr.tr f204 hq)
          · refine Pc.ite (fun _ => ?_) (fun _ => ?_)
            · refine Pc.ite (fun _ => ?_) (fun _ => ?_)
              · refine Pc.bind zf_X12_comesOut (fun q206 h207 => ?_)
                have f208 : zr h q206 := zr.tr f28 (zr.fr h207 (by intro z; omega) (by intro z; omega))
                exact Pc.ret f208
              · refine Pc.bind (zb_X12_fail (by decide)) (fun q209 h210 => ?_)
                have f211 : zr h q209 := zr.tr f28 h210
                refine Pc.bind zf_X12_comesOut (fun q212 h213 => ?_)
                have f214 : zr h q212 := zr.tr f211 (zr.fr h213 (by intro z; omega) (by intro z; omega))
                exact Pc.ret f214
            · refine Pc.bind zf_X12_is (fun q215 h216 => ?_)
              have f217 : zr h q215.2 := zr.tr f28 (zr.fr h216 (fun z => z) (fun z => z))
              refine Pc.ite (fun _ => ?_) (fun _ => ?_)
              · refine Pc.bind zf_X12_is (fun q218 h219 => ?_)
                have f220 : zr h q218.2 := zr.tr f217 (zr.fr h219 (fun z => z) (fun z => z))
                refine Pc.ite (fun _ => ?_) (fun _ => ?_)
                · refine Pc.bind zf_X12_comesOut (fun q221 h222 => ?_)
                  have f223 : zr h q221 := zr.tr f220 (zr.fr h222 (by intro z; omega) (by intro z; omega))
                  refine Pc.chk (fun c224 => ?_)
                  refine Pc.chk (fun c225 => ?_)
                  refine Pc.bind zb_X12_goesOn (fun q226 h227 => ?_)
                  have f228 : zr h q226 := zr.tr (zr.w (zr.w f223 (by omega)) (by omega)) h227
                  exact Pc.mono (ih _ _ _ _) (fun _ hq => zr.tr f228 hq)
                · refine Pc.bind zf_X12_comesOut (fun q230 h231 => ?_)
                  have f232 : zr h q230 := zr.tr f220 (zr.fr h231 (by intro z; omega) (by intro z; omega))
                  refine Pc.chk (fun c233 => ?_)
                  refine Pc.chk (fun c234 => ?_)
                  refine Pc.bind zb_X12_goesOn (fun q235 h236 => ?_)
                  have f237 : zr h q235 := zr.tr (zr.w (zr.w f232 (by omega)) (by omega)) h236
                  exact Pc.mono (ih _ _ _ _) (fun _ hq => zr.tr f237 hq)
              · refine Pc.bind zf_X12_comesOut (fun q239 h240 => ?_)
                have f241 : zr h q239 := zr.tr f217 (zr.fr h240 (by intro z; omega) (by intro z; omega))
                refine Pc.chk (fun c242 => ?_)
                refine Pc.chk (fun c243 => ?_)
                refine Pc.bind zb_X12_goesOn (fun q244 h245 => ?_)
                have f246 : zr h q244 := zr.tr (zr.w (zr.w f241 (by omega)) (by omega)) h245
                exact Pc.mono (ih _ _ _ _) (fun _ hq => zr.tr f246 hq)
        · refine Pc.ite (fun _ => ?_) (fun _ => ?_)
          · refine Pc.bind zf_X12_is (fun q248 h249 => ?_)
            have f250 : zr h q248.2 := zr.tr f25 (zr.fr h249 (fun z => z) (fun z => z))
            refine Pc.ite (fun _ => ?_) (fun _ => ?_)
            · refine Pc.bind zf_X12_is (fun q251 h252 => ?_)
              have f253 : zr h q251.2 := zr.tr f250 (zr.fr h252 (fun z => z) (fun z => z))
              refine Pc.ite (fun _ => ?_) (fun _ => ?_)
              · refine Pc.bind zf_X12_is (fun q254 h255 => ?_)
                have f256 : zr h q254.2 := zr.tr f253 (zr.fr h255 (fun z => z) (fun z => z))
                refine Pc.ite (fun _ => ?_) (fun _ => ?_)
                · refine Pc.bind zf_X12_is (fun q257 h258 => ?_)
                  have f259 : zr h q257.2 := zr.tr f256 (zr.fr h258 (fun z => z) (fun z => z))
                  refine Pc.ite (fun _ => ?_) (fun _ => ?_)
                  · refine Pc.ite (fun _ => ?_) (fun _ => ?_)
                    · refine Pc.ite (fun _ => ?_) (fun _ => ?_)
                      · refine Pc.bind zf_X12_comesOut (fun q260 h261 => ?_)
                        have f262 : zr h q260 := zr.tr f259 (zr.fr h261 (by intro z; omega) (by intro z; omega))
                        exact Pc.ret f262
                      · refine Pc.bind (zb_X12_fail (by decide)) (fun q263 h264 => ?_)
                        have f265 : zr h q263 := zr.tr f259 h264
                        refine Pc.bind zf_X12_comesOut (fun q266 h267 => ?_)
                        have f268 : zr h q266 := zr.tr f265 (zr.fr h267 (by intro z; omega) (by intro z; omega))
                        exact Pc.ret f268
                    · refine Pc.bind zf_X12_is (fun q269 h270 => ?_)
                      have f271 : zr h q269.2 := zr.tr f259 (zr.fr h270 (fun z => z) (fun z => z))
                      refine Pc.ite (fun _ => ?_) (fun _ => ?_)
                      · refine Pc.bind zf_X12_is (fun q272 h273 => ?_)
                        have f274 : zr h q272.2 := zr.tr f271 (zr.fr h273 (fun z => z) (fun z => z))
                        refine Pc.ite (fun _ => ?_) (fun _ => ?_)
                        · refine Pc.bind zf_X12_comesOut (fun q275 h276 => ?_)
                          have f277 : zr h q275 := zr.tr f274 (zr.fr h276 (by intro z; omega) (by intro z; omega))
                          refine Pc.chk (fun c278 => ?_)
                          refine Pc.chk (fun c279 => ?_)
                          refine Pc.bind zb_X12_goesOn (fun q280 h281 => ?_)
                          have f282 : zr h q280 := zr.tr (zr.w (zr.w f277 (by omega)) (by omega)) h281
                          exact Pc.mono (ih _ _ _ _) (fun _ hq => zr.tr f282 hq)
                        · refine Pc.bind zf_X12_comesOut (fun q284 h285 => ?_)
                          have f286 : zr h q284 := zr.tr f274 (zr.fr h285 (by intro z; omega) (by intro z; omega))
                          refine Pc.chk (fun c287 => ?_)
                          refine Pc.chk (fun c288 => ?_)
                          refine Pc.bind zb_X12_goesOn (fun q289 h290 => ?_)
                          have f291 : zr h q289 := zr.tr (zr.w (zr.w f286 (by omega)) (by omega)) h290
                          exact Pc.mono (ih _ _ _ _) (fun _ hq => zr.tr f291 hq)
                      · refine Pc.bind zf_X12_comesOut (fun q293 h294 => ?_)
                        have f295 : zr h q293 := zr.tr f271 (zr.fr h294 (by intro z; omega) (by intro z; omega))
                        refine Pc.chk (fun c296 => ?_)
                        refine Pc.chk (fun c297 => ?_)
                        refine Pc.bind zb_X12_goesOn (fun q298 h299 => ?_)
                        have f300 : zr h q298 := zr.tr (zr.w (zr.w f295 (by omega)) (by omega)) h299
                        exact Pc.mono (ih _ _ _ _) (fun _ hq => zr.tr f300 hq)
                  · refine Pc.ite (fun _ => ?_) (fun _ => ?_)
                    · refine Pc.ite (fun _ => ?_) (fun _ => ?_)
                      · refine Pc.bind zf_X12_comesOut (fun q302 h303 => ?_)
                        have f304 : zr h q302 := zr.tr f259 (zr.fr h303 (by intro z; omega) (by intro z; omega))
                        exact Pc.ret f304
                      · refine Pc.bind (zb_X12_fail (by decide)) (fun q305 h306 => ?_)
                        have f307 : zr h q305 := zr.tr f259 h306
                        refine Pc.bind zf_X12_comesOut (fun q308 h309 => ?_)
                        have f310 : zr h q308 := zr.tr f307 (zr.fr h309 (by intro z; omega) (by intro z; omega))
                        exact Pc.ret f310
                    · refine Pc.bind zf_X12_is (fun q311 h312 => ?_)
                      have f313 : zr h q311.2 := zr.tr f259 (zr.fr h312 (fun z => z) (fun z => z))
                      refine Pc.ite (fun _ => ?_) (fun _ => ?_)
                      · refine Pc.bind zf_X12_is (fun q314 h315 => ?_)
                        have f316 : zr h q314.2 := zr.tr f313 (zr.fr h315 (fun z => z) (fun z => z))
                        refine Pc.ite (fun _ => ?_) (fun _ => ?_)
                        · refine Pc.bind zf_X12_comesOut (fun q317 h318 => ?_)
                          have f319 : zr h q317 := zr.tr f316 (zr.fr h318 (by intro z; omega) (by intro z; omega))
                          refine Pc.chk (fun c320 => ?_)
                          refine Pc.chk (fun c321 => ?_)
                          refine Pc.bind zb_X12_goesOn (fun q322 h323 => ?_)
                          have f324 : zr h q322 := zr.tr (zr.w (zr.w f319 (by omega)) (by omega)) h323
                          exact Pc.mono (ih _ _ _ _) (fun _ hq => zr.tr f324 hq)
                        · refine Pc.bind zf_X12_comesOut (fun q326 h327 => ?_)
                          have f328 : zr h q326 := zr.tr f316 (zr.fr h327 (by intro z; omega) (by intro z; omega))
                          refine Pc.chk (fun c329 => ?_)
                          refine Pc.chk (fun c330 => ?_)
                          refine Pc.bind zb_X12_goesOn (fun q331 h332 => ?_)
                          have f333 : zr h q331 := zr.tr (zr.w (zr.w f328 (by omega)) (by omega)) h332
                          exact Pc.mono (ih _ _ _ _) (fun _ hq => zr.tr f333 hq)
                      · refine Pc.bind zf_X12_comesOut (fun q335 h336 => ?_)
                        have f337 : zr h q335 := zr.tr f313 (zr.fr h336 (by intro z; omega) (by intro z; omega))
                        refine Pc.chk (fun c338 => ?_)
                        refine Pc.chk (fun c339 => ?_)
                        refine Pc.bind zb_X12_goesOn (fun q340 h341 => ?_)
                        have f342 : zr h q340 := zr.tr (zr.w (zr.w f337 (by omega)) (by omega)) h341
                        exact Pc.mono (ih _ _ _ _) (fun _ hq => zr.tr f342 hq)
                · refine Pc.ite (fun _ => ?_) (fun _ => ?_)
                  · refine Pc.ite (fun _ => ?_) (fun _ => ?_)
                    · refine Pc.bind zf_X12_comesOut (fun q344 h345 => ?_)
                      have f346 : zr h q344 := zr.tr f256 (zr.fr h345 (by intro z; omega) (by intro z; omega))
                      exact Pc.ret f346
                    · refine Pc.bind (zb_X12_fail (by decide)) (fun q347 h348 => ?_)
                      have f349 : zr h q347 := zr.tr f256 h348
                      refine Pc.bind zf_X12_comesOut (fun q350 h351 => ?_)
                      have f352 : zr h q350 := zr.tr f349 (zr.fr h351 (by intro z; omega) (by intro z; omega))
                      exact Pc.ret f352
                  · refine Pc.bind zf_X12_is (fun q353 h354 => ?_)
                    have f355 : zr h q353.2 := zr.tr f256 (zr.fr h354 (fun z => z) (fun z => z))
                    refine Pc.ite (fun _ => ?_) (fun _ => ?_)
                    · refine Pc.bind zf_X12_is (fun q356 h357 => ?_)
                      have f358 : zr h q356.2 := zr.tr f355 (zr.fr h357 (fun z => z) (fun z => z))
                      refine Pc.ite (fun _ => ?_) (fun _ => ?_)
                      · refine Pc.bind zf_X12_comesOut (fun q359 h360 => ?_)
                        have f361 : zr h q359 := zr.tr f358 (zr.fr h360 (by intro z; omega) (by intro z; omega))
                        refine Pc.chk (fun c362 => ?_)
                        refine Pc.chk (fun c363 => ?_)
                        refine Pc.bind zb_X12_goesOn (fun q364 h365 => ?_)
                        have f366 : zr h q364 := zr.tr (zr.w (zr.w f361 (by omega)) (by omega)) h365
                        exact Pc.mono (ih _ _ _ _) (fun _ hq => zr.tr f366 hq)
                      · refine Pc.bind zf_X12_comesOut (fun q368 h369 => ?_)
                        have f370 : zr h q368 := zr.tr f358 (zr.fr h369 (by intro z; omega) (by intro z; omega))
                        refine Pc.chk (fun c371 => ?_)
                        refine Pc.chk (fun c372 => ?_)
                        refine Pc.bind zb_X12_goesOn (fun q373 h374 => ?_)
                        have f375 : zr h q373 := zr.tr (zr.w (zr.w f370 (by omega)) (by omega)) h374
                        exact Pc.mono (ih _ _ _ _) (fun _ hq => zr.tr f375 hq)
                    · refine Pc.bind zf_X12_comesOut (fun q377 h378 => ?_)
                      have f379 : zr h q377 := zr.tr f355 (zr.fr h378 (by intro z; omega) (by intro z; omega))
                      refine Pc.chk (fun c380 => ?_)
                      refine Pc.chk (fun c381 => ?_)
                      refine Pc.bind zb_X12_goesOn (fun q382 h383 => ?_)
                      have f384 : zr h q382 := zr.tr (zr.w (zr.w f379 (by omega)) (by omega)) h383
                      exact Pc.mono (ih _ _ _ _) (fun _ hq => zr.tr f384 hq)
              · refine Pc.ite (fun _ => ?_) (fun _ => ?_)
                · refine Pc.ite (fun _ => ?_) (fun _ => ?_)
                  · refine Pc.bind zf_X12_comesOut (fun q386 h387 => ?_)
                    have f388 : zr h q386 := zr.tr f253 (zr.fr h387 (by intro z; omega) (by intro z; omega))
                    exact Pc.ret f388
                  · refine Pc.bind (zb_X12_fail (by decide)) (fun q389 h390 => ?_)
                    have f391 : zr h q389 := zr.tr f253 h390
                    refine Pc.bind zf_X12_comesOut (fun q392 h393 => ?_)
                    have f394 : zr h q392 := zr.tr f391 (zr.fr h393 (by intro z; omega) (by intro z; omega))
                    exact Pc.ret f394
                · refine Pc.bind zf_X12_is (fun q395 h396 => ?_)
                  have f397 : zr h q395.2 := zr.tr f253 (zr.fr h396 (fun z => z) (fun z => z))
                  refine Pc.ite (fun _ => ?_) (fun _ => ?_)
                  · refine Pc.bind zf_X12_is (fun q398 h399 => ?_)
                    have f400 : zr h q398.2 := zr.tr f397 (zr.fr h399 (fun z => z) (fun z => z))
                    refine Pc.ite (fun _ => ?_) (fun _ => ?_)
                    · refine Pc.bind zf_X12_comesOut (fun q401 h402 => ?_)
                      have f403 : zr h q401 := zr.tr f400 (zr.fr h402 (by intro z; omega) (by intro z; omega))
                      refine Pc.chk (fun c404 => ?_)
                      refine Pc.chk (fun c405 => ?_)
                      refine Pc.bind zb_X12_goesOn (fun q406 h407 => ?_)
                      have f408 : zr h q406 := zr.tr (zr.w (zr.w f403 (by omega)) (by omega)) h407
                      exact Pc.mono (ih _ _ _ _) (fun _ hq => zr.tr f408 hq)
                    · refine Pc.bind zf_X12_comesOut (fun q410 h411 => ?_)
                      have f412 : zr h q410 := zr.tr f400 (zr.fr h411 (by intro z; omega) (by intro z; omega))
                      refine Pc.chk (fun c413 => ?_)
                      refine Pc.chk (fun c414 => ?_)
                      refine Pc.bind zb_X12_goesOn (fun q415 h416 => ?_)
                      have f417 : zr h q415 := zr.tr (zr.w (zr.w f412 (by omega)) (by omega)) h416
                      exact Pc.mono (ih _ _ _ _) (fun _ hq => zr.tr f417 hq)
                  · refine Pc.bind zf_X12_comesOut (fun q419 h420 => ?_)
                    have f421 : zr h q419 := zr.tr f397 (zr.fr h420 (by intro z; omega) (by intro z; omega))
                    refine Pc.chk (fun c422 => ?_)
                    refine Pc.chk (fun c423 => ?_)
                    refine Pc.bind zb_X12_goesOn (fun q424 h425 => ?_)
                    have f426 : zr h q424 := zr.tr (zr.w (zr.w f421 (by omega)) (by omega)) h425
                    exact Pc.mono (ih _ _ _ _) (fun _ hq => zr.tr f426 hq)
            · refine Pc.ite (fun _ => ?_) (fun _ => ?_)
              · refine Pc.ite (fun _ => ?_) (fun _ => ?_)
                · refine Pc.bind zf_X12_comesOut (fun q428 h429 => ?_)
                  have f430 : zr h q428 := zr.tr f250 (zr.fr h429 (by intro z; omega) (by intro z; omega))
                  exact Pc.ret f430
                · refine Pc.bind (zb_X12_fail (by decide)) (fun q431 h432 => ?_)
                  have f433 : zr h q431 := zr.tr f250 h432
                  refine Pc.bind zf_X12_comesOut (fun q434 h435 => ?_)
                  have f436 : zr h q434 := zr.tr f433 (zr.fr h435 (by intro z; omega) (by intro z; omega))
                  exact Pc.ret f436
              · refine Pc.bind zf_X12_is (fun q437 h438 => ?_)
                have f439 : zr h q437.2 := zr.tr f250 (zr.fr h438 (fun z => z) (fun z => z))
                refine Pc.ite (fun _ => ?_) (fun _ => ?_)
                · refine Pc.bind zf_X12_is (fun q440 h441 => ?_)
                  have f442 : zr h q440.2 := zr.tr f439 (zr.fr h441 (fun z => z) (fun z => z))
                  refine Pc.ite (fun _ => ?_) (fun _ => ?_)
                  · refine Pc.bind zf_X12_comesOut (fun q443 h444 => ?_)
                    have f445 : zr h q443 := zr.tr f442 (zr.fr h444 (by intro z; omega) (by intro z; omega))
                    refine Pc.chk (fun c446 => ?_)
                    refine Pc.chk (fun c447 => ?_)
                    refine Pc.bind zb_X12_goesOn (fun q448 h449 => ?_)
                    have f450 : zr h q448 := zr.tr (zr.w (zr.w f445 (by omega)) (by omega)) h449
                    exact Pc.mono (ih _ _ _ _) (fun _ hq => zr.tr f450 hq)
                  · refine Pc.bind zf_X12_comesOut (fun q452 h453 => ?_)
                    have f454 : zr h q452 := zr.tr f442 (zr.fr h453 (by intro z; omega) (by intro z; omega))
                    refine Pc.chk (fun c455 => ?_)
                    refine Pc.chk (fun c456 => ?_)
                    refine Pc.bind zb_X12_goesOn (fun q457 h458 => ?_)
                    have f459 : zr h q457 := zr.tr (zr.w (zr.w f454 (by omega)) (by omega)) h458
                    exact Pc.mono (ih _ _ _ _) (fun _ hq => zr.tr f459 hq)
                · refine Pc.bind zf_X12_comesOut (fun q461 h462 => ?_)
                  have f463 : zr h q461 := zr.tr f439 (zr.fr h462 (by intro z; omega) (by intro z; omega))
                  refine Pc.chk (fun c464 => ?_)
                  refine Pc.chk (fun c465 => ?_)
                  refine Pc.bind zb_X12_goesOn (fun q466 h467 => ?_)
                  have f468 : zr h q466 := zr.tr (zr.w (zr.w f463 (by omega)) (by omega)) h467
                  exact Pc.mono (ih _ _ _ _) (fun _ hq => zr.tr f468 hq)
          · refine Pc.bind zf_X12_comesOut (fun q470 h471 => ?_)
            have f472 : zr h q470 := zr.tr f25 (zr.fr h471 (by intro z; omega) (by intro z; omega))
            refine Pc.bind zb_X12_goesOn (fun q473 h474 => ?_)
            have f475 : zr h q473 := zr.tr (zr.w (zr.w f472 (by omega)) (by omega)) h474
            exact Pc.mono (ih _ _ _ _) (fun _ hq => zr.tr f475 hq)
theorem zb_X12_expression {n : Nat} {h : Hp} : Pc (F_X12_expression n h) (fun q => zr h q) := by
  unfold F_X12_expression
  exact Pc.mono (zv_X12_expression _ _ _ _ _) (fun _ hq => zr.tr (zr.w (zr.rf h) (by omega)) hq)
theorem zb_X12_term {n : Nat} {h : Hp} : Pc (F_X12_term n h) (fun q => zr h q) := by
  unfold F_X12_term
  refine Pc.chk (fun c1 => ?_)
  refine Pc.ite (fun _ => ?_) (fun _ => ?_)
  · refine Pc.bind zb_X12_expression (fun q2 h3 => ?_)
    have f4 : zr h q2 := zr.tr (zr.w (zr.rf h) (by omega)) h3
    refine Pc.chk (fun c5 => ?_)
    exact Pc.ret (zr.w (zr.w f4 (by omega)) (by omega))
  · refine Pc.chk (fun c6 => ?_)
    exact Pc.ret (zr.w (zr.w (zr.w (zr.rf h) (by omega)) (by omega)) (by omega))
theorem zv_X12_tellLaw : ∀ (n : Nat) (hd : Nat) (h : Hp) (l1 : Int32) (l2 : Int32) (l3 : Int32), Pc (W_X12_tellLaw n hd h l1 l2 l3) (fun q => zr h q) := by
  intro n
  induction n with
  | zero => intro hd h l1 l2 l3; exact Pc.no
  | succ n ih =>
    intro hd h l1 l2 l3
    rw [u_X12_tellLaw]
    refine Pc.chk (fun _ => ?_)
    refine Pc.ite (fun _ => ?_) (fun _ => ?_)
    · refine Pc.bind zf_X12_is (fun q2 h3 => ?_)
      have f4 : zr h q2.2 := zr.tr (zr.rf h) (zr.fr h3 (fun z => z) (fun z => z))
      refine Pc.ite (fun _ => ?_) (fun _ => ?_)
      · refine Pc.chk (fun c5 => ?_)
        refine Pc.bind zb_X12_term (fun q6 h7 => ?_)
        have f8 : zr h q6 := zr.tr (zr.w f4 (by omega)) h7
        refine Pc.bind zb_X12_must (fun q9 h10 => ?_)
        have f11 : zr h q9 := zr.tr f8 h10
        refine Pc.ite (fun _ => ?_) (fun _ => ?_)
        · refine Pc.chk (fun c12 => ?_)
          refine Pc.chk (fun c13 => ?_)
          exact Pc.ret (zr.w (zr.w f11 (by omega)) (by omega))
        · exact Pc.ret f11
      · refine Pc.ite (fun _ => ?_) (fun _ => ?_)
        · refine Pc.bind (zb_X12_fail (by decide)) (fun q14 h15 => ?_)
          have f16 : zr h q14 := zr.tr f4 h15
          refine Pc.ite (fun _ => ?_) (fun _ => ?_)
          · refine Pc.bind zb_X12_goesOn (fun q17 h18 => ?_)
            have f19 : zr h q17 := zr.tr f16 h18
            refine Pc.chk (fun c20 => ?_)
            refine Pc.chk (fun c21 => ?_)
            refine Pc.bind zb_X12_expression (fun q22 h23 => ?_)
            have f24 : zr h q22 := zr.tr (zr.w (zr.w f19 (by omega)) (by omega)) h23
            refine Pc.bind zb_X12_must (fun q25 h26 => ?_)
            have f27 : zr h q25 := zr.tr f24 h26
            refine Pc.chk (fun c28 => ?_)
            refine Pc.ite (fun _ => ?_) (fun _ => ?_)
            · refine Pc.bind zb_X12_expression (fun q29 h30 => ?_)
              have f31 : zr h q29 := zr.tr (zr.w f27 (by omega)) h30
              refine Pc.bind zb_X12_must (fun q32 h33 => ?_)
              have f34 : zr h q32 := zr.tr f31 h33
              refine Pc.bind zb_X12_term (fun q35 h36 => ?_)
              have f37 : zr h q35 := zr.tr f34 h36
              refine Pc.bind zb_X12_must (fun q38 h39 => ?_)
              have f40 : zr h q38 := zr.tr f37 h39
              exact Pc.mono (ih _ _ _ _ _) (fun _ hq => zr.tr f40 hq)
            · refine Pc.bind zb_X12_must (fun q42 h43 => ?_)
              have f44 : zr h q42 := zr.tr (zr.w f27 (by omega)) h43
              refine Pc.bind zb_X12_term (fun q45 h46 => ?_)
              have f47 : zr h q45 := zr.tr f44 h46
              refine Pc.bind zb_X12_must (fun q48 h49 => ?_)
              have f50 : zr h q48 := zr.tr f47 h49
              exact Pc.mono (ih _ _ _ _ _) (fun _ hq => zr.tr f50 hq)
          · exact Pc.ret f16
        · refine Pc.ite (fun _ => ?_) (fun _ => ?_)
          · refine Pc.bind zb_X12_goesOn (fun q52 h53 => ?_)
            have f54 : zr h q52 := zr.tr f4 h53
            refine Pc.chk (fun c55 => ?_)
            refine Pc.chk (fun c56 => ?_)
            refine Pc.bind zb_X12_expression (fun q57 h58 => ?_)
            have f59 : zr h q57 := zr.tr (zr.w (zr.w f54 (by omega)) (by omega)) h58
            refine Pc.bind zb_X12_must (fun q60 h61 => ?_)
            have f62 : zr h q60 := zr.tr f59 h61
            refine Pc.chk (fun c63 => ?_)
            refine Pc.ite (fun _ => ?_) (fun _ => ?_)
            · refine Pc.bind zb_X12_expression (fun q64 h65 => ?_)
              have f66 : zr h q64 := zr.tr (zr.w f62 (by omega)) h65
              refine Pc.bind zb_X12_must (fun q67 h68 => ?_)
              have f69 : zr h q67 := zr.tr f66 h68
              refine Pc.bind zb_X12_term (fun q70 h71 => ?_)
              have f72 : zr h q70 := zr.tr f69 h71
              refine Pc.bind zb_X12_must (fun q73 h74 => ?_)
              have f75 : zr h q73 := zr.tr f72 h74
              exact Pc.mono (ih _ _ _ _ _) (fun _ hq => zr.tr f75 hq)
            · refine Pc.bind zb_X12_must (fun q77 h78 => ?_)
              have f79 : zr h q77 := zr.tr (zr.w f62 (by omega)) h78
              refine Pc.bind zb_X12_term (fun q80 h81 => ?_)
              have f82 : zr h q80 := zr.tr f79 h81
              refine Pc.bind zb_X12_must (fun q83 h84 => ?_)
              have f85 : zr h q83 := zr.tr f82 h84
              exact Pc.mono (ih _ _ _ _ _) (fun _ hq => zr.tr f85 hq)
          · exact Pc.ret f4
    · refine Pc.chk (fun c87 => ?_)
      refine Pc.bind zb_X12_term (fun q88 h89 => ?_)
      have f90 : zr h q88 := zr.tr (zr.w (zr.rf h) (by omega)) h89
      refine Pc.bind zb_X12_must (fun q91 h92 => ?_)
      have f93 : zr h q91 := zr.tr f90 h92
      refine Pc.ite (fun _ => ?_) (fun _ => ?_)
      · refine Pc.chk (fun c94 => ?_)
        refine Pc.chk (fun c95 => ?_)
        exact Pc.ret (zr.w (zr.w f93 (by omega)) (by omega))
      · exact Pc.ret f93
theorem zb_X12_tellLaw {n : Nat} {h : Hp} {x1 : Int32} : Pc (F_X12_tellLaw n h x1) (fun q => zr h q) := by
  unfold F_X12_tellLaw
  refine Pc.bind zb_X12_must (fun q1 h2 => ?_)
  have f3 : zr h q1 := zr.tr (zr.rf h) h2
  exact Pc.mono (zv_X12_tellLaw _ _ _ _ _ _) (fun _ hq => zr.tr f3 hq)
theorem zb_X12_tellOne {n : Nat} {h : Hp} : Pc (F_X12_tellOne n h) (fun q => zr h q) := by
  unfold F_X12_tellOne
  refine Pc.chk (fun c1 => ?_)
  refine Pc.ite (fun _ => ?_) (fun _ => ?_)
  · refine Pc.bind zb_X12_goesOn (fun q2 h3 => ?_)
    have f4 : zr h q2 := zr.tr (zr.rf h) h3
    refine Pc.bind zb_X12_bounded (fun q5 h6 => ?_)
    have f7 : zr h q5.2 := zr.tr f4 h6
    refine Pc.chk (fun c8 => ?_)
    refine Pc.bind zb_X12_bounded (fun q9 h10 => ?_)
    have f11 : zr h q9.2 := zr.tr (zr.w f7 (by omega)) h10
    refine Pc.chk (fun c12 => ?_)
    refine Pc.bind zb_X12_must (fun q13 h14 => ?_)
    have f15 : zr h q13 := zr.tr (zr.w f11 (by omega)) h14
    exact Pc.ret f15
  · refine Pc.ite (fun _ => ?_) (fun _ => ?_)
    · refine Pc.chk (fun c16 => ?_)
      refine Pc.bind zb_X12_roomFor (fun q17 h18 => ?_)
      have f19 : zr h q17 := zr.tr (zr.rf h) h18
      refine Pc.ite (fun _ => ?_) (fun _ => ?_)
      · refine Pc.bind zb_X12_tellTune (fun q20 h21 => ?_)
        have f22 : zr h q20 := zr.tr f19 h21
        exact Pc.ret f22
      · exact Pc.ret f19
    · refine Pc.ite (fun _ => ?_) (fun _ => ?_)
      · refine Pc.chk (fun c23 => ?_)
        refine Pc.bind zb_X12_roomFor (fun q24 h25 => ?_)
        have f26 : zr h q24 := zr.tr (zr.rf h) h25
        refine Pc.ite (fun _ => ?_) (fun _ => ?_)
        · refine Pc.bind zb_X12_tellGoer (fun q27 h28 => ?_)
          have f29 : zr h q27 := zr.tr f26 h28
          exact Pc.ret f29
        · exact Pc.ret f26
      · refine Pc.ite (fun _ => ?_) (fun _ => ?_)
        · refine Pc.chk (fun c30 => ?_)
          refine Pc.bind zb_X12_roomFor (fun q31 h32 => ?_)
          have f33 : zr h q31 := zr.tr (zr.rf h) h32
          refine Pc.ite (fun _ => ?_) (fun _ => ?_)
          · refine Pc.bind zb_X12_tellRope (fun q34 h35 => ?_)
            have f36 : zr h q34 := zr.tr f33 h35
            exact Pc.ret f36
          · exact Pc.ret f33
        · refine Pc.ite (fun _ => ?_) (fun _ => ?_)
          · refine Pc.chk (fun c37 => ?_)
            refine Pc.ite (fun _ => ?_) (fun _ => ?_)
            · refine Pc.bind (zb_X12_fail (by decide)) (fun q38 h39 => ?_)
              have f40 : zr h q38 := zr.tr (zr.rf h) h39
              refine Pc.ite (fun _ => ?_) (fun _ => ?_)
              · refine Pc.bind zb_X12_goesOn (fun q41 h42 => ?_)
                have f43 : zr h q41 := zr.tr f40 h42
                refine Pc.bind zb_X12_tellLaw (fun q44 h45 => ?_)
                have f46 : zr h q44 := zr.tr f43 h45
                exact Pc.ret f46
              · exact Pc.ret f40
            · refine Pc.chk (fun c47 => ?_)
              refine Pc.ite (fun _ => ?_) (fun _ => ?_)
              · refine Pc.ite (fun _ => ?_) (fun _ => ?_)
                · refine Pc.bind zb_X12_goesOn (fun q48 h49 => ?_)
                  have f50 : zr h q48 := zr.tr (zr.rf h) h49
                  refine Pc.bind zb_X12_tellLaw (fun q51 h52 => ?_)
                  have f53 : zr h q51 := zr.tr f50 h52
                  exact Pc.ret f53
                · exact Pc.ret (zr.rf h)
              · refine Pc.bind (zb_X12_fail (by decide)) (fun q54 h55 => ?_)
                have f56 : zr h q54 := zr.tr (zr.rf h) h55
                refine Pc.ite (fun _ => ?_) (fun _ => ?_)
                · refine Pc.bind zb_X12_goesOn (fun q57 h58 => ?_)
                  have f59 : zr h q57 := zr.tr f56 h58
                  refine Pc.bind zb_X12_tellLaw (fun q60 h61 => ?_)
                  have f62 : zr h q60 := zr.tr f59 h61
                  exact Pc.ret f62
                · exact Pc.ret f56
          · refine Pc.ite (fun _ => ?_) (fun _ => ?_)
            · refine Pc.chk (fun c63 => ?_)
              refine Pc.ite (fun _ => ?_) (fun _ => ?_)
              · refine Pc.bind (zb_X12_fail (by decide)) (fun q64 h65 => ?_)
                have f66 : zr h q64 := zr.tr (zr.rf h) h65
                refine Pc.ite (fun _ => ?_) (fun _ => ?_)
                · refine Pc.bind zb_X12_goesOn (fun q67 h68 => ?_)
                  have f69 : zr h q67 := zr.tr f66 h68
                  refine Pc.bind zb_X12_tellLaw (fun q70 h71 => ?_)
                  have f72 : zr h q70 := zr.tr f69 h71
                  exact Pc.ret f72
                · exact Pc.ret f66
              · refine Pc.chk (fun c73 => ?_)
                refine Pc.ite (fun _ => ?_) (fun _ => ?_)
                · refine Pc.ite (fun _ => ?_) (fun _ => ?_)
                  · refine Pc.bind zb_X12_goesOn (fun q74 h75 => ?_)
                    have f76 : zr h q74 := zr.tr (zr.rf h) h75
                    refine Pc.bind zb_X12_tellLaw (fun q77 h78 => ?_)
                    have f79 : zr h q77 := zr.tr f76 h78
                    exact Pc.ret f79
                  · exact Pc.ret (zr.rf h)
                · refine Pc.bind (zb_X12_fail (by decide)) (fun q80 h81 => ?_)
                  have f82 : zr h q80 := zr.tr (zr.rf h) h81
                  refine Pc.ite (fun _ => ?_) (fun _ => ?_)
                  · refine Pc.bind zb_X12_goesOn (fun q83 h84 => ?_)
                    have f85 : zr h q83 := zr.tr f82 h84
                    refine Pc.bind zb_X12_tellLaw (fun q86 h87 => ?_)
                    have f88 : zr h q86 := zr.tr f85 h87
                    exact Pc.ret f88
                  · exact Pc.ret f82
            · refine Pc.ite (fun _ => ?_) (fun _ => ?_)
              · refine Pc.chk (fun c89 => ?_)
                refine Pc.ite (fun _ => ?_) (fun _ => ?_)
                · refine Pc.bind (zb_X12_fail (by decide)) (fun q90 h91 => ?_)
                  have f92 : zr h q90 := zr.tr (zr.rf h) h91
                  refine Pc.ite (fun _ => ?_) (fun _ => ?_)
                  · refine Pc.bind zb_X12_goesOn (fun q93 h94 => ?_)
                    have f95 : zr h q93 := zr.tr f92 h94
                    refine Pc.bind zb_X12_tellLaw (fun q96 h97 => ?_)
                    have f98 : zr h q96 := zr.tr f95 h97
                    exact Pc.ret f98
                  · exact Pc.ret f92
                · refine Pc.chk (fun c99 => ?_)
                  refine Pc.ite (fun _ => ?_) (fun _ => ?_)
                  · refine Pc.ite (fun _ => ?_) (fun _ => ?_)
                    · refine Pc.bind zb_X12_goesOn (fun q100 h101 => ?_)
                      have f102 : zr h q100 := zr.tr (zr.rf h) h101
                      refine Pc.bind zb_X12_tellLaw (fun q103 h104 => ?_)
                      have f105 : zr h q103 := zr.tr f102 h104
                      exact Pc.ret f105
                    · exact Pc.ret (zr.rf h)
                  · refine Pc.bind (zb_X12_fail (by decide)) (fun q106 h107 => ?_)
                    have f108 : zr h q106 := zr.tr (zr.rf h) h107
                    refine Pc.ite (fun _ => ?_) (fun _ => ?_)
                    · refine Pc.bind zb_X12_goesOn (fun q109 h110 => ?_)
                      have f111 : zr h q109 := zr.tr f108 h110
                      refine Pc.bind zb_X12_tellLaw (fun q112 h113 => ?_)
                      have f114 : zr h q112 := zr.tr f111 h113
                      exact Pc.ret f114
                    · exact Pc.ret f108
              · refine Pc.ite (fun _ => ?_) (fun _ => ?_)
                · refine Pc.chk (fun c115 => ?_)
                  refine Pc.ite (fun _ => ?_) (fun _ => ?_)
                  · refine Pc.bind (zb_X12_fail (by decide)) (fun q116 h117 => ?_)
                    have f118 : zr h q116 := zr.tr (zr.rf h) h117
                    refine Pc.ite (fun _ => ?_) (fun _ => ?_)
                    · refine Pc.bind zb_X12_goesOn (fun q119 h120 => ?_)
                      have f121 : zr h q119 := zr.tr f118 h120
                      refine Pc.bind zb_X12_tellLaw (fun q122 h123 => ?_)
                      have f124 : zr h q122 := zr.tr f121 h123
                      exact Pc.ret f124
                    · exact Pc.ret f118
                  · refine Pc.chk (fun c125 => ?_)
                    refine Pc.ite (fun _ => ?_) (fun _ => ?_)
                    · refine Pc.ite (fun _ => ?_) (fun _ => ?_)
                      · refine Pc.bind zb_X12_goesOn (fun q126 h127 => ?_)
                        have f128 : zr h q126 := zr.tr (zr.rf h) h127
                        refine Pc.bind zb_X12_tellLaw (fun q129 h130 => ?_)
                        have f131 : zr h q129 := zr.tr f128 h130
                        exact Pc.ret f131
                      · exact Pc.ret (zr.rf h)
                    · refine Pc.bind (zb_X12_fail (by decide)) (fun q132 h133 => ?_)
                      have f134 : zr h q132 := zr.tr (zr.rf h) h133
                      refine Pc.ite (fun _ => ?_) (fun _ => ?_)
                      · refine Pc.bind zb_X12_goesOn (fun q135 h136 => ?_)
                        have f137 : zr h q135 := zr.tr f134 h136
                        refine Pc.bind zb_X12_tellLaw (fun q138 h139 => ?_)
                        have f140 : zr h q138 := zr.tr f137 h139
                        exact Pc.ret f140
                      · exact Pc.ret f134
                · refine Pc.ite (fun _ => ?_) (fun _ => ?_)
                  · refine Pc.bind zb_X12_goesOn (fun q141 h142 => ?_)
                    have f143 : zr h q141 := zr.tr (zr.rf h) h142
                    refine Pc.bind zb_X12_bounded (fun q144 h145 => ?_)
                    have f146 : zr h q144.2 := zr.tr f143 h145
                    refine Pc.chk (fun c147 => ?_)
                    refine Pc.bind zb_X12_must (fun q148 h149 => ?_)
                    have f150 : zr h q148 := zr.tr (zr.w f146 (by omega)) h149
                    exact Pc.ret f150
                  · refine Pc.ite (fun _ => ?_) (fun _ => ?_)
                    · refine Pc.bind zb_X12_goesOn (fun q151 h152 => ?_)
                      have f153 : zr h q151 := zr.tr (zr.rf h) h152
                      refine Pc.bind zb_X12_bounded (fun q154 h155 => ?_)
                      have f156 : zr h q154.2 := zr.tr f153 h155
                      refine Pc.chk (fun c157 => ?_)
                      refine Pc.bind zb_X12_must (fun q158 h159 => ?_)
                      have f160 : zr h q158 := zr.tr (zr.w f156 (by omega)) h159
                      exact Pc.ret f160
                    · refine Pc.chk (fun c161 => ?_)
                      refine Pc.ite (fun _ => ?_) (fun _ => ?_)
                      · refine Pc.bind (zb_X12_fail (by decide)) (fun q162 h163 => ?_)
                        have f164 : zr h q162 := zr.tr (zr.rf h) h163
                        refine Pc.ite (fun _ => ?_) (fun _ => ?_)
                        · refine Pc.bind zb_X12_goesOn (fun q165 h166 => ?_)
                          have f167 : zr h q165 := zr.tr f164 h166
                          refine Pc.bind zb_X12_tellLaw (fun q168 h169 => ?_)
                          have f170 : zr h q168 := zr.tr f167 h169
                          exact Pc.ret f170
                        · exact Pc.ret f164
                      · refine Pc.chk (fun c171 => ?_)
                        refine Pc.ite (fun _ => ?_) (fun _ => ?_)
                        · refine Pc.ite (fun _ => ?_) (fun _ => ?_)
                          · refine Pc.bind zb_X12_goesOn (fun q172 h173 => ?_)
                            have f174 : zr h q172 := zr.tr (zr.rf h) h173
                            refine Pc.bind zb_X12_tellLaw (fun q175 h176 => ?_)
                            have f177 : zr h q175 := zr.tr f174 h176
                            exact Pc.ret f177
                          · exact Pc.ret (zr.rf h)
                        · refine Pc.bind (zb_X12_fail (by decide)) (fun q178 h179 => ?_)
                          have f180 : zr h q178 := zr.tr (zr.rf h) h179
                          refine Pc.ite (fun _ => ?_) (fun _ => ?_)
                          · refine Pc.bind zb_X12_goesOn (fun q181 h182 => ?_)
                            have f183 : zr h q181 := zr.tr f180 h182
                            refine Pc.bind zb_X12_tellLaw (fun q184 h185 => ?_)
                            have f186 : zr h q184 := zr.tr f183 h185
                            exact Pc.ret f186
                          · exact Pc.ret f180
