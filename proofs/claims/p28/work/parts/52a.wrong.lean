/-! WHAT IS WRONG STAYS WRONG: the class -/
/-- there is no fault -/
def ZC (h : Hp) : Prop := (hi h 2 5).toInt = 0 ∧ (hi h 2 6).toInt = 0
def zc (h q : Hp) : Prop := (ZC q → ZC h) ∧ (zF q → zF h) ∧ ((hi q 2 6).toInt = 0 → (hi h 2 6).toInt = 0)
section ZCS
variable {h0 h h1 h2 q : Hp} {n : Nat} {x1 x2 : Int32}
theorem zc.rf (h : Hp) : zc h h := ⟨fun z => z, fun z => z, fun z => z⟩
theorem zc.tr (a : zc h0 h1) (b : zc h1 h2) : zc h0 h2 := ⟨fun z => a.1 (b.1 z), fun z => a.2.1 (b.2.1 z), fun z => a.2.2 (b.2.2 z)⟩
theorem zc.of (a : hi q 2 5 = hi h 2 5) (b : hi q 2 6 = hi h 2 6) : zc h q := ⟨fun z => by unfold ZC at z ⊢; rw [← a, ← b]; exact z, fun z => by unfold zF at z ⊢; rw [← a]; exact z, fun z => by rw [← b]; exact z⟩
theorem zc.w (f : zc h q) {a k : Nat} {v : Int32} (n : ¬ (a = 2 ∧ (k = 5 ∨ k = 6))) : zc h (wrI q a k v) := f.tr (zc.of (by rw [hi_wrI, if_neg (by omega)]) (by rw [hi_wrI, if_neg (by omega)]))
theorem zc.wL (f : zc h q) {a k : Nat} {v : Int64} : zc h (wrL q a k v) := f.tr (zc.of rfl rfl)
theorem zc.fr {A : Nat → Nat → Prop} (f : frZ A h q) (n5 : ¬ A 2 5) (n6 : ¬ A 2 6) : zc h q := zc.of (f.1 2 5 n5) (f.1 2 6 n6)
theorem zb_X7_stop : Pc (F_X7_stop n h x1) (fun q => zc h q) := by
  have f0 := lit_0
  unfold F_X7_stop
  refine Pc.eq (fun c => Pc.ret ?_) (fun c => Pc.ret (zc.rf h))
  have e6 : hi (wrI h 2 5 x1) 2 6 = hi h 2 6 := hiK rfl 2 6 (by decide)
  refine ⟨fun z => ⟨by omega, ?_⟩, fun z => by unfold zF; omega, fun z => by rw [e6] at z; exact z⟩
  have := z.2
  rw [e6] at this
  exact this
theorem zb_X7_blame : Pc (F_X7_blame n h x1 x2) (fun q => zc h q) := by
  have f0 := lit_0
  unfold F_X7_blame
  refine Pc.eq (fun c => Pc.ret ?_) (fun c => Pc.ret (zc.rf h))
  have e5 : hi (wrI (wrI h 2 6 x1) 2 7 x2) 2 5 = hi h 2 5 := by rw [hi_wrI, if_neg (by decide), hi_wrI, if_neg (by decide)]
  refine ⟨fun z => ⟨?_, by omega⟩, fun z => ?_, fun _ => by omega⟩
  · have := z.1
    rw [e5] at this
    exact this
  · unfold zF at z ⊢
    rw [e5] at z
    exact z
end ZCS
theorem zb_X7_take {n : Nat} {h : Hp} {x1 : Int32} : Pc (F_X7_take n h x1) (fun q => zc h q.2) := by
  unfold F_X7_take
  refine Pc.bind zf_X9_kindOf (fun q1 h2 => ?_)
  have f3 : zc h q1.2 := zc.tr (zc.rf h) (zc.fr h2 (fun z => z) (fun z => z))
  refine Pc.ite (fun _ => ?_) (fun _ => ?_)
  · refine Pc.ite (fun _ => ?_) (fun _ => ?_)
    · refine Pc.ite (fun _ => ?_) (fun _ => ?_)
      · refine Pc.ite (fun _ => ?_) (fun _ => ?_)
        · exact Pc.ret (zc.w f3 (by omega))
        · exact Pc.ret (zc.w f3 (by omega))
      · refine Pc.ite (fun _ => ?_) (fun _ => ?_)
        · exact Pc.ret f3
        · exact Pc.ret f3
    · refine Pc.bind zb_X7_stop (fun q4 h5 => ?_)
      have f6 : zc h q4 := zc.tr f3 h5
      refine Pc.ite (fun _ => ?_) (fun _ => ?_)
      · refine Pc.ite (fun _ => ?_) (fun _ => ?_)
        · exact Pc.ret (zc.w f6 (by omega))
        · exact Pc.ret (zc.w f6 (by omega))
      · refine Pc.ite (fun _ => ?_) (fun _ => ?_)
        · exact Pc.ret f6
        · exact Pc.ret f6
  · refine Pc.bind zb_X7_stop (fun q7 h8 => ?_)
    have f9 : zc h q7 := zc.tr f3 h8
    refine Pc.ite (fun _ => ?_) (fun _ => ?_)
    · refine Pc.ite (fun _ => ?_) (fun _ => ?_)
      · exact Pc.ret (zc.w f9 (by omega))
      · exact Pc.ret (zc.w f9 (by omega))
    · refine Pc.ite (fun _ => ?_) (fun _ => ?_)
      · exact Pc.ret f9
      · exact Pc.ret f9
theorem zb_X7_readUnit {S : Nat → Hp → Int32 → Option Hp} (hS : ∀ (n : Nat) (h : Hp) (x : Int32), Pc (S n h x) (fun q => zc h q)) {n : Nat} {h : Hp} {x1 : Int32} : Pc (F_X7_readUnit S n h x1) (fun q => zc h q) := by
  unfold F_X7_readUnit
  refine Pc.bind zf_X7_kind (fun q1 h2 => ?_)
  have f3 : zc h q1.2 := zc.tr (zc.rf h) (zc.fr h2 (fun z => z) (fun z => z))
  refine Pc.ite (fun _ => ?_) (fun _ => ?_)
  · refine Pc.bind zf_X9_valueOf (fun q4 h5 => ?_)
    have f6 : zc h q4.2 := zc.tr f3 (zc.fr h5 (fun z => z) (fun z => z))
    refine Pc.bind zf_X4_add (fun q7 h8 => ?_)
    have f9 : zc h q7 := zc.tr f6 (zc.fr h8 (by intro z; omega) (by intro z; omega))
    refine Pc.bind zb_X7_take (fun q10 h11 => ?_)
    have f12 : zc h q10.2 := zc.tr f9 h11
    exact Pc.ret f12
  · refine Pc.ite (fun _ => ?_) (fun _ => ?_)
    · refine Pc.ite (fun _ => ?_) (fun _ => ?_)
      · refine Pc.ite (fun _ => ?_) (fun _ => ?_)
        · refine Pc.bind zb_X7_take (fun q13 h14 => ?_)
          have f15 : zc h q13.2 := zc.tr f3 h14
          refine Pc.ite (fun _ => ?_) (fun _ => ?_)
          · exact Pc.ret f15
          · refine Pc.bind (hS _ _ _) (fun q16 h17 => ?_)
            have f18 : zc h q16 := zc.tr f15 h17
            refine Pc.bind zb_X7_take (fun q19 h20 => ?_)
            have f21 : zc h q19.2 := zc.tr f18 h20
            exact Pc.ret f21
        · refine Pc.bind zb_X7_stop (fun q22 h23 => ?_)
          have f24 : zc h q22 := zc.tr f3 h23
          refine Pc.bind zb_X7_take (fun q25 h26 => ?_)
          have f27 : zc h q25.2 := zc.tr f24 h26
          refine Pc.ite (fun _ => ?_) (fun _ => ?_)
          · exact Pc.ret f27
          · refine Pc.bind (hS _ _ _) (fun q28 h29 => ?_)
            have f30 : zc h q28 := zc.tr f27 h29
            refine Pc.bind zb_X7_take (fun q31 h32 => ?_)
            have f33 : zc h q31.2 := zc.tr f30 h32
            exact Pc.ret f33
      · refine Pc.bind zb_X7_stop (fun q34 h35 => ?_)
        have f36 : zc h q34 := zc.tr f3 h35
        exact Pc.ret f36
    · refine Pc.ite (fun _ => ?_) (fun _ => ?_)
      · refine Pc.ite (fun _ => ?_) (fun _ => ?_)
        · refine Pc.ite (fun _ => ?_) (fun _ => ?_)
          · refine Pc.bind zb_X7_take (fun q37 h38 => ?_)
            have f39 : zc h q37.2 := zc.tr f3 h38
            refine Pc.ite (fun _ => ?_) (fun _ => ?_)
            · exact Pc.ret f39
            · refine Pc.bind (hS _ _ _) (fun q40 h41 => ?_)
              have f42 : zc h q40 := zc.tr f39 h41
              refine Pc.bind zb_X7_take (fun q43 h44 => ?_)
              have f45 : zc h q43.2 := zc.tr f42 h44
              exact Pc.ret f45
          · refine Pc.bind zb_X7_stop (fun q46 h47 => ?_)
            have f48 : zc h q46 := zc.tr f3 h47
            refine Pc.bind zb_X7_take (fun q49 h50 => ?_)
            have f51 : zc h q49.2 := zc.tr f48 h50
            refine Pc.ite (fun _ => ?_) (fun _ => ?_)
            · exact Pc.ret f51
            · refine Pc.bind (hS _ _ _) (fun q52 h53 => ?_)
              have f54 : zc h q52 := zc.tr f51 h53
              refine Pc.bind zb_X7_take (fun q55 h56 => ?_)
              have f57 : zc h q55.2 := zc.tr f54 h56
              exact Pc.ret f57
        · refine Pc.bind zb_X7_stop (fun q58 h59 => ?_)
          have f60 : zc h q58 := zc.tr f3 h59
          exact Pc.ret f60
      · refine Pc.bind zf_X4_add (fun q61 h62 => ?_)
        have f63 : zc h q61 := zc.tr f3 (zc.fr h62 (by intro z; omega) (by intro z; omega))
        refine Pc.bind zb_X7_take (fun q64 h65 => ?_)
        have f66 : zc h q64.2 := zc.tr f63 h65
        exact Pc.ret f66
theorem zv_X7_readSum {S : Nat → Hp → Int32 → Option Hp} (hS : ∀ (n : Nat) (h : Hp) (x : Int32), Pc (S n h x) (fun q => zc h q)) : ∀ (n : Nat) (hd : Nat) (h : Hp) (l1 : Int32) (l2 : Int32) (l3 : Int32), Pc (W_X7_readSum S n hd h l1 l2 l3) (fun q => zc h q) := by
  intro n
  induction n with
  | zero => intro hd h l1 l2 l3; exact Pc.no
  | succ n ih =>
    intro hd h l1 l2 l3
    rw [u_X7_readSum]
    refine Pc.chk (fun _ => ?_)
    refine Pc.ite (fun _ => ?_) (fun _ => ?_)
    · exact Pc.ret (zc.rf h)
    · refine Pc.ite (fun _ => ?_) (fun _ => ?_)
      · refine Pc.bind zf_X7_kind (fun q2 h3 => ?_)
        have f4 : zc h q2.2 := zc.tr (zc.rf h) (zc.fr h3 (fun z => z) (fun z => z))
        refine Pc.ite (fun _ => ?_) (fun _ => ?_)
        · refine Pc.bind zb_X7_take (fun q5 h6 => ?_)
          have f7 : zc h q5.2 := zc.tr f4 h6
          refine Pc.bind (zb_X7_readUnit hS) (fun q8 h9 => ?_)
          have f10 : zc h q8 := zc.tr f7 h9
          refine Pc.ite (fun _ => ?_) (fun _ => ?_)
          · refine Pc.bind zf_X4_add (fun q11 h12 => ?_)
            have f13 : zc h q11 := zc.tr f10 (zc.fr h12 (by intro z; omega) (by intro z; omega))
            exact Pc.mono (ih _ _ _ _ _) (fun _ hq => zc.tr f13 hq)
          · refine Pc.bind zf_X4_add (fun q15 h16 => ?_)
            have f17 : zc h q15 := zc.tr f10 (zc.fr h16 (by intro z; omega) (by intro z; omega))
            exact Pc.mono (ih _ _ _ _ _) (fun _ hq => zc.tr f17 hq)
        · refine Pc.ite (fun _ => ?_) (fun _ => ?_)
          · refine Pc.bind zb_X7_take (fun q19 h20 => ?_)
            have f21 : zc h q19.2 := zc.tr f4 h20
            refine Pc.bind (zb_X7_readUnit hS) (fun q22 h23 => ?_)
            have f24 : zc h q22 := zc.tr f21 h23
            refine Pc.ite (fun _ => ?_) (fun _ => ?_)
            · refine Pc.bind zf_X4_add (fun q25 h26 => ?_)
              have f27 : zc h q25 := zc.tr f24 (zc.fr h26 (by intro z; omega) (by intro z; omega))
              exact Pc.mono (ih _ _ _ _ _) (fun _ hq => zc.tr f27 hq)
            · refine Pc.bind zf_X4_add (fun q29 h30 => ?_)
              have f31 : zc h q29 := zc.tr f24 (zc.fr h30 (by intro z; omega) (by intro z; omega))
              exact Pc.mono (ih _ _ _ _ _) (fun _ hq => zc.tr f31 hq)
          · refine Pc.ite (fun _ => ?_) (fun _ => ?_)
            · refine Pc.ite (fun _ => ?_) (fun _ => ?_)
              · refine Pc.bind zb_X7_take (fun q33 h34 => ?_)
                have f35 : zc h q33.2 := zc.tr f4 h34
                refine Pc.bind (zb_X7_readUnit hS) (fun q36 h37 => ?_)
                have f38 : zc h q36 := zc.tr f35 h37
                exact Pc.mono (ih _ _ _ _ _) (fun _ hq => zc.tr f38 hq)
              · refine Pc.ite (fun _ => ?_) (fun _ => ?_)
                · refine Pc.bind zb_X7_take (fun q40 h41 => ?_)
                  have f42 : zc h q40.2 := zc.tr f4 h41
                  refine Pc.bind (zb_X7_readUnit hS) (fun q43 h44 => ?_)
                  have f45 : zc h q43 := zc.tr f42 h44
                  exact Pc.mono (ih _ _ _ _ _) (fun _ hq => zc.tr f45 hq)
                · exact Pc.ret f4
            · refine Pc.ite (fun _ => ?_) (fun _ => ?_)
              · refine Pc.bind zf_X4_add (fun q47 h48 => ?_)
                have f49 : zc h q47 := zc.tr f4 (zc.fr h48 (by intro z; omega) (by intro z; omega))
                refine Pc.ite (fun _ => ?_) (fun _ => ?_)
                · refine Pc.bind zb_X7_take (fun q50 h51 => ?_)
                  have f52 : zc h q50.2 := zc.tr f49 h51
                  refine Pc.bind (zb_X7_readUnit hS) (fun q53 h54 => ?_)
                  have f55 : zc h q53 := zc.tr f52 h54
                  exact Pc.mono (ih _ _ _ _ _) (fun _ hq => zc.tr f55 hq)
                · refine Pc.ite (fun _ => ?_) (fun _ => ?_)
                  · refine Pc.bind zb_X7_take (fun q57 h58 => ?_)
                    have f59 : zc h q57.2 := zc.tr f49 h58
                    refine Pc.bind (zb_X7_readUnit hS) (fun q60 h61 => ?_)
                    have f62 : zc h q60 := zc.tr f59 h61
                    exact Pc.mono (ih _ _ _ _ _) (fun _ hq => zc.tr f62 hq)
                  · exact Pc.ret f49
              · refine Pc.bind zf_X4_add (fun q64 h65 => ?_)
                have f66 : zc h q64 := zc.tr f4 (zc.fr h65 (by intro z; omega) (by intro z; omega))
                refine Pc.ite (fun _ => ?_) (fun _ => ?_)
                · refine Pc.bind zb_X7_take (fun q67 h68 => ?_)
                  have f69 : zc h q67.2 := zc.tr f66 h68
                  refine Pc.bind (zb_X7_readUnit hS) (fun q70 h71 => ?_)
                  have f72 : zc h q70 := zc.tr f69 h71
                  exact Pc.mono (ih _ _ _ _ _) (fun _ hq => zc.tr f72 hq)
                · refine Pc.ite (fun _ => ?_) (fun _ => ?_)
                  · refine Pc.bind zb_X7_take (fun q74 h75 => ?_)
                    have f76 : zc h q74.2 := zc.tr f66 h75
                    refine Pc.bind (zb_X7_readUnit hS) (fun q77 h78 => ?_)
                    have f79 : zc h q77 := zc.tr f76 h78
                    exact Pc.mono (ih _ _ _ _ _) (fun _ hq => zc.tr f79 hq)
                  · exact Pc.ret f66
      · exact Pc.ret (zc.rf h)
theorem zb_X7_readSum {S : Nat → Hp → Int32 → Option Hp} (hS : ∀ (n : Nat) (h : Hp) (x : Int32), Pc (S n h x) (fun q => zc h q)) {n : Nat} {h : Hp} {x1 : Int32} : Pc (F_X7_readSum S n h x1) (fun q => zc h q) := by
  unfold F_X7_readSum
  refine Pc.bind (zb_X7_readUnit hS) (fun q1 h2 => ?_)
  have f3 : zc h q1 := zc.tr (zc.rf h) h2
  exact Pc.mono (zv_X7_readSum hS _ _ _ _ _ _) (fun _ hq => zc.tr f3 hq)
theorem zb_X7_takeNumber {n : Nat} {h : Hp} {x1 : Int32} {x2 : Int32} : Pc (F_X7_takeNumber n h x1 x2) (fun q => zc h q.2) := by
  unfold F_X7_takeNumber
  refine Pc.bind zf_X9_valueOf (fun q1 h2 => ?_)
  have f3 : zc h q1.2 := zc.tr (zc.rf h) (zc.fr h2 (fun z => z) (fun z => z))
  refine Pc.bind zf_X9_placeOf (fun q4 h5 => ?_)
  have f6 : zc h q4.2 := zc.tr f3 (zc.fr h5 (fun z => z) (fun z => z))
  refine Pc.bind zb_X7_take (fun q7 h8 => ?_)
  have f9 : zc h q7.2 := zc.tr f6 h8
  refine Pc.ite (fun _ => ?_) (fun _ => ?_)
  · exact Pc.ret f9
  · refine Pc.ite (fun _ => ?_) (fun _ => ?_)
    · refine Pc.bind zb_X7_blame (fun q10 h11 => ?_)
      have f12 : zc h q10 := zc.tr f9 h11
      exact Pc.ret f12
    · refine Pc.ite (fun _ => ?_) (fun _ => ?_)
      · exact Pc.ret f9
      · refine Pc.bind zb_X7_blame (fun q13 h14 => ?_)
        have f15 : zc h q13 := zc.tr f9 h14
        exact Pc.ret f15
theorem zb_X7_readLawn {n : Nat} {h : Hp} : Pc (F_X7_readLawn n h) (fun q => zc h q) := by
  unfold F_X7_readLawn
  refine Pc.bind zb_X7_take (fun q1 h2 => ?_)
  have f3 : zc h q1.2 := zc.tr (zc.rf h) h2
  refine Pc.bind zb_X7_takeNumber (fun q4 h5 => ?_)
  have f6 : zc h q4.2 := zc.tr f3 h5
  refine Pc.bind zb_X7_takeNumber (fun q7 h8 => ?_)
  have f9 : zc h q7.2 := zc.tr f6 h8
  refine Pc.bind zf_X3_lay (fun q10 h11 => ?_)
  have f12 : zc h q10 := zc.tr f9 (zc.fr h11 (by intro z; omega) (by intro z; omega))
  exact Pc.ret f12
theorem zb_X7_takeSpot {n : Nat} {h : Hp} : Pc (F_X7_takeSpot n h) (fun q => zc h q.2) := by
  unfold F_X7_takeSpot
  refine Pc.bind zb_X7_takeNumber (fun q1 h2 => ?_)
  have f3 : zc h q1.2 := zc.tr (zc.rf h) h2
  refine Pc.bind zb_X7_takeNumber (fun q4 h5 => ?_)
  have f6 : zc h q4.2 := zc.tr f3 h5
  exact Pc.ret f6
theorem zb_X7_readTune {n : Nat} {h : Hp} : Pc (F_X7_readTune n h) (fun q => zc h q) := by
  unfold F_X7_readTune
  refine Pc.ite (fun _ => ?_) (fun _ => ?_)
  · refine Pc.bind zb_X7_take (fun q1 h2 => ?_)
    have f3 : zc h q1.2 := zc.tr (zc.w (zc.rf h) (by omega)) h2
    refine Pc.bind zb_X7_takeSpot (fun q4 h5 => ?_)
    have f6 : zc h q4.2 := zc.tr f3 h5
    refine Pc.bind zb_X7_takeNumber (fun q7 h8 => ?_)
    have f9 : zc h q7.2 := zc.tr f6 h8
    refine Pc.bind zb_X7_takeNumber (fun q10 h11 => ?_)
    have f12 : zc h q10.2 := zc.tr f9 h11
    refine Pc.ite (fun _ => ?_) (fun _ => ?_)
    · exact Pc.ret f12
    · refine Pc.ite (fun _ => ?_) (fun _ => ?_)
      · exact Pc.ret f12
      · refine Pc.chk (fun c13 => ?_)
        refine Pc.chk (fun c14 => ?_)
        exact Pc.ret (zc.w (zc.w f12 (by omega)) (by omega))
  · refine Pc.bind zb_X7_stop (fun q15 h16 => ?_)
    have f17 : zc h q15 := zc.tr (zc.rf h) h16
    refine Pc.bind zb_X7_take (fun q18 h19 => ?_)
    have f20 : zc h q18.2 := zc.tr (zc.w f17 (by omega)) h19
    refine Pc.bind zb_X7_takeSpot (fun q21 h22 => ?_)
    have f23 : zc h q21.2 := zc.tr f20 h22
    refine Pc.bind zb_X7_takeNumber (fun q24 h25 => ?_)
    have f26 : zc h q24.2 := zc.tr f23 h25
    refine Pc.bind zb_X7_takeNumber (fun q27 h28 => ?_)
    have f29 : zc h q27.2 := zc.tr f26 h28
    refine Pc.ite (fun _ => ?_) (fun _ => ?_)
    · exact Pc.ret f29
    · refine Pc.ite (fun _ => ?_) (fun _ => ?_)
      · exact Pc.ret f29
      · refine Pc.chk (fun c30 => ?_)
        refine Pc.chk (fun c31 => ?_)
        exact Pc.ret (zc.w (zc.w f29 (by omega)) (by omega))
theorem zv_X7_readGoer : ∀ (n : Nat) (hd : Nat) (h : Hp) (l1 : Int32) (l2 : Int32) (l3 : Int32), Pc (W_X7_readGoer n hd h l1 l2 l3) (fun q => zc h q) := by
  intro n
  induction n with
  | zero => intro hd h l1 l2 l3; exact Pc.no
  | succ n ih =>
    intro hd h l1 l2 l3
    rw [u_X7_readGoer]
    refine Pc.chk (fun _ => ?_)
    refine Pc.ite (fun _ => ?_) (fun _ => ?_)
    · refine Pc.bind zb_X7_takeSpot (fun q2 h3 => ?_)
      have f4 : zc h q2.2 := zc.tr (zc.rf h) h3
      refine Pc.chk (fun c5 => ?_)
      exact Pc.ret (zc.w (zc.w f4 (by omega)) (by omega))
    · refine Pc.chk (fun c6 => ?_)
      refine Pc.chk (fun c7 => ?_)
      refine Pc.ite (fun _ => ?_) (fun _ => ?_)
      · refine Pc.bind zb_X7_blame (fun q8 h9 => ?_)
        have f10 : zc h q8 := zc.tr (zc.rf h) h9
        exact Pc.mono (ih _ _ _ _ _) (fun _ hq => zc.tr f10 hq)
      · exact Pc.mono (ih _ _ _ _ _) (fun _ hq => zc.tr (zc.rf h) hq)
theorem zb_X7_readGoer {n : Nat} {h : Hp} : Pc (F_X7_readGoer n h) (fun q => zc h q) := by
  unfold F_X7_readGoer
  refine Pc.ite (fun _ => ?_) (fun _ => ?_)
  · refine Pc.bind zb_X7_take (fun q1 h2 => ?_)
    have f3 : zc h q1.2 := zc.tr (zc.rf h) h2
    refine Pc.bind zf_X9_valueOf (fun q4 h5 => ?_)
    have f6 : zc h q4.2 := zc.tr f3 (zc.fr h5 (fun z => z) (fun z => z))
    refine Pc.chk (fun c7 => ?_)
    refine Pc.bind zf_X9_placeOf (fun q8 h9 => ?_)
    have f10 : zc h q8.2 := zc.tr (zc.wL f6) (zc.fr h9 (fun z => z) (fun z => z))
    refine Pc.bind zb_X7_take (fun q11 h12 => ?_)
    have f13 : zc h q11.2 := zc.tr f10 h12
    exact Pc.mono (zv_X7_readGoer _ _ _ _ _ _) (fun _ hq => zc.tr f13 hq)
  · refine Pc.bind zb_X7_stop (fun q15 h16 => ?_)
    have f17 : zc h q15 := zc.tr (zc.rf h) h16
    exact Pc.ret f17
theorem zb_X7_readRope {n : Nat} {h : Hp} : Pc (F_X7_readRope n h) (fun q => zc h q) := by
  unfold F_X7_readRope
  refine Pc.ite (fun _ => ?_) (fun _ => ?_)
  · refine Pc.bind zb_X7_take (fun q1 h2 => ?_)
    have f3 : zc h q1.2 := zc.tr (zc.w (zc.rf h) (by omega)) h2
    refine Pc.bind zb_X7_takeSpot (fun q4 h5 => ?_)
    have f6 : zc h q4.2 := zc.tr f3 h5
    exact Pc.ret (zc.w f6 (by omega))
  · refine Pc.bind zb_X7_stop (fun q7 h8 => ?_)
    have f9 : zc h q7 := zc.tr (zc.rf h) h8
    refine Pc.bind zb_X7_take (fun q10 h11 => ?_)
    have f12 : zc h q10.2 := zc.tr (zc.w f9 (by omega)) h11
    refine Pc.bind zb_X7_takeSpot (fun q13 h14 => ?_)
    have f15 : zc h q13.2 := zc.tr f12 h14
    exact Pc.ret (zc.w f15 (by omega))
theorem zb_X7_levels : ∀ (l n : Nat) (h : Hp) (x : Int32), Pc (L_X7_readSum l n h x) (fun q => zc h q) := by
  intro l
  induction l with
  | zero => intro n h x; exact Pc.no
  | succ l ih => intro n h x; exact zb_X7_readSum ih
theorem zb_X7_readSumT {n : Nat} {h : Hp} {x1 : Int32} : Pc (F_X7_readSumT n h x1) (fun q => zc h q) := zb_X7_levels 9 n h x1
theorem zv_X7_readLaw : ∀ (n : Nat) (hd : Nat) (h : Hp) (l1 : Int32) (l2 : Int32), Pc (W_X7_readLaw n hd h l1 l2) (fun q => zc h q) := by
  intro n
  induction n with
  | zero => intro hd h l1 l2; exact Pc.no
  | succ n ih =>
    intro hd h l1 l2
    rw [u_X7_readLaw]
    refine Pc.chk (fun _ => ?_)
    refine Pc.ite (fun _ => ?_) (fun _ => ?_)
    · refine Pc.bind zf_X7_kind (fun q2 h3 => ?_)
      have f4 : zc h q2.2 := zc.tr (zc.rf h) (zc.fr h3 (fun z => z) (fun z => z))
      refine Pc.ite (fun _ => ?_) (fun _ => ?_)
      · refine Pc.ite (fun _ => ?_) (fun _ => ?_)
        · refine Pc.bind zb_X7_readSumT (fun q5 h6 => ?_)
          have f7 : zc h q5 := zc.tr f4 h6
          refine Pc.bind zf_X4_add (fun q8 h9 => ?_)
          have f10 : zc h q8 := zc.tr f7 (zc.fr h9 (by intro z; omega) (by intro z; omega))
          exact Pc.ret f10
        · refine Pc.ite (fun _ => ?_) (fun _ => ?_)
          · refine Pc.bind zb_X7_take (fun q11 h12 => ?_)
            have f13 : zc h q11.2 := zc.tr f4 h12
            refine Pc.bind zb_X7_readSumT (fun q14 h15 => ?_)
            have f16 : zc h q14 := zc.tr f13 h15
            refine Pc.bind zb_X7_take (fun q17 h18 => ?_)
            have f19 : zc h q17.2 := zc.tr f16 h18
            refine Pc.bind zb_X7_readSumT (fun q20 h21 => ?_)
            have f22 : zc h q20 := zc.tr f19 h21
            refine Pc.bind zb_X7_take (fun q23 h24 => ?_)
            have f25 : zc h q23.2 := zc.tr f22 h24
            refine Pc.bind zf_X4_addLess (fun q26 h27 => ?_)
            have f28 : zc h q26.2 := zc.tr f25 (zc.fr h27 (by intro z; omega) (by intro z; omega))
            refine Pc.bind zb_X7_readSumT (fun q29 h30 => ?_)
            have f31 : zc h q29 := zc.tr f28 h30
            refine Pc.bind zb_X7_take (fun q32 h33 => ?_)
            have f34 : zc h q32.2 := zc.tr f31 h33
            refine Pc.bind zf_X4_add (fun q35 h36 => ?_)
            have f37 : zc h q35 := zc.tr f34 (zc.fr h36 (by intro z; omega) (by intro z; omega))
            refine Pc.bind zf_X4_elseHere (fun q38 h39 => ?_)
            have f40 : zc h q38 := zc.tr f37 (zc.fr h39 (by intro z; omega) (by intro z; omega))
            exact Pc.mono (ih _ _ _ _) (fun _ hq => zc.tr f40 hq)
          · refine Pc.bind zb_X7_stop (fun q42 h43 => ?_)
            have f44 : zc h q42 := zc.tr f4 h43
            refine Pc.bind zb_X7_take (fun q45 h46 => ?_)
            have f47 : zc h q45.2 := zc.tr f44 h46
            refine Pc.bind zb_X7_readSumT (fun q48 h49 => ?_)
            have f50 : zc h q48 := zc.tr f47 h49
            refine Pc.bind zb_X7_take (fun q51 h52 => ?_)
            have f53 : zc h q51.2 := zc.tr f50 h52
            refine Pc.bind zb_X7_readSumT (fun q54 h55 => ?_)
            have f56 : zc h q54 := zc.tr f53 h55
            refine Pc.bind zb_X7_take (fun q57 h58 => ?_)
            have f59 : zc h q57.2 := zc.tr f56 h58
            refine Pc.bind zf_X4_addLess (fun q60 h61 => ?_)
            have f62 : zc h q60.2 := zc.tr f59 (zc.fr h61 (by intro z; omega) (by intro z; omega))
            refine Pc.bind zb_X7_readSumT (fun q63 h64 => ?_)
            have f65 : zc h q63 := zc.tr f62 h64
            refine Pc.bind zb_X7_take (fun q66 h67 => ?_)
            have f68 : zc h q66.2 := zc.tr f65 h67
            refine Pc.bind zf_X4_add (fun q69 h70 => ?_)
            have f71 : zc h q69 := zc.tr f68 (zc.fr h70 (by intro z; omega) (by intro z; omega))
            refine Pc.bind zf_X4_elseHere (fun q72 h73 => ?_)
            have f74 : zc h q72 := zc.tr f71 (zc.fr h73 (by intro z; omega) (by intro z; omega))
            exact Pc.mono (ih _ _ _ _) (fun _ hq => zc.tr f74 hq)
      · refine Pc.bind zb_X7_readSumT (fun q76 h77 => ?_)
        have f78 : zc h q76 := zc.tr f4 h77
        refine Pc.bind zf_X4_add (fun q79 h80 => ?_)
        have f81 : zc h q79 := zc.tr f78 (zc.fr h80 (by intro z; omega) (by intro z; omega))
        exact Pc.ret f81
    · refine Pc.bind zb_X7_readSumT (fun q82 h83 => ?_)
      have f84 : zc h q82 := zc.tr (zc.rf h) h83
      refine Pc.bind zf_X4_add (fun q85 h86 => ?_)
      have f87 : zc h q85 := zc.tr f84 (zc.fr h86 (by intro z; omega) (by intro z; omega))
      exact Pc.ret f87
theorem zb_X7_readLaw {n : Nat} {h : Hp} {x1 : Int32} : Pc (F_X7_readLaw n h x1) (fun q => zc h q) := by
  unfold F_X7_readLaw
  refine Pc.bind zb_X7_take (fun q1 h2 => ?_)
  have f3 : zc h q1.2 := zc.tr (zc.rf h) h2
  refine Pc.bind zf_X4_begin (fun q4 h5 => ?_)
  have f6 : zc h q4 := zc.tr f3 (zc.fr h5 (by intro z; omega) (by intro z; omega))
  exact Pc.mono (zv_X7_readLaw _ _ _ _ _) (fun _ hq => zc.tr f6 hq)
theorem zb_X7_readTell {n : Nat} {h : Hp} {x1 : Int32} : Pc (F_X7_readTell n h x1) (fun q => zc h q) := by
  unfold F_X7_readTell
  refine Pc.ite (fun _ => ?_) (fun _ => ?_)
  · refine Pc.bind zb_X7_readLawn (fun q1 h2 => ?_)
    have f3 : zc h q1 := zc.tr (zc.rf h) h2
    refine Pc.bind zb_X7_take (fun q4 h5 => ?_)
    have f6 : zc h q4.2 := zc.tr f3 h5
    exact Pc.ret f6
  · refine Pc.ite (fun _ => ?_) (fun _ => ?_)
    · refine Pc.bind zb_X7_readTune (fun q7 h8 => ?_)
      have f9 : zc h q7 := zc.tr (zc.rf h) h8
      refine Pc.bind zb_X7_take (fun q10 h11 => ?_)
      have f12 : zc h q10.2 := zc.tr f9 h11
      exact Pc.ret f12
    · refine Pc.ite (fun _ => ?_) (fun _ => ?_)
      · refine Pc.bind zb_X7_readGoer (fun q13 h14 => ?_)
        have f15 : zc h q13 := zc.tr (zc.rf h) h14
        refine Pc.bind zb_X7_take (fun q16 h17 => ?_)
        have f18 : zc h q16.2 := zc.tr f15 h17
        exact Pc.ret f18
      · refine Pc.ite (fun _ => ?_) (fun _ => ?_)
        · refine Pc.bind zb_X7_readRope (fun q19 h20 => ?_)
          have f21 : zc h q19 := zc.tr (zc.rf h) h20
          refine Pc.bind zb_X7_take (fun q22 h23 => ?_)
          have f24 : zc h q22.2 := zc.tr f21 h23
          exact Pc.ret f24
        · refine Pc.ite (fun _ => ?_) (fun _ => ?_)
          · refine Pc.ite (fun _ => ?_) (fun _ => ?_)
            · refine Pc.bind zb_X7_stop (fun q25 h26 => ?_)
              have f27 : zc h q25 := zc.tr (zc.rf h) h26
              exact Pc.ret f27
            · refine Pc.ite (fun _ => ?_) (fun _ => ?_)
              · refine Pc.bind zb_X7_take (fun q28 h29 => ?_)
                have f30 : zc h q28.2 := zc.tr (zc.rf h) h29
                refine Pc.bind zb_X7_readLaw (fun q31 h32 => ?_)
                have f33 : zc h q31 := zc.tr f30 h32
                refine Pc.bind zb_X7_take (fun q34 h35 => ?_)
                have f36 : zc h q34.2 := zc.tr f33 h35
                exact Pc.ret f36
              · refine Pc.bind zb_X7_stop (fun q37 h38 => ?_)
                have f39 : zc h q37 := zc.tr (zc.rf h) h38
                exact Pc.ret f39
          · refine Pc.ite (fun _ => ?_) (fun _ => ?_)
            · refine Pc.ite (fun _ => ?_) (fun _ => ?_)
              · refine Pc.bind zb_X7_stop (fun q40 h41 => ?_)
                have f42 : zc h q40 := zc.tr (zc.rf h) h41
                exact Pc.ret f42
              · refine Pc.ite (fun _ => ?_) (fun _ => ?_)
                · refine Pc.bind zb_X7_take (fun q43 h44 => ?_)
                  have f45 : zc h q43.2 := zc.tr (zc.rf h) h44
                  refine Pc.bind zb_X7_readLaw (fun q46 h47 => ?_)
                  have f48 : zc h q46 := zc.tr f45 h47
                  refine Pc.bind zb_X7_take (fun q49 h50 => ?_)
                  have f51 : zc h q49.2 := zc.tr f48 h50
                  exact Pc.ret f51
                · refine Pc.bind zb_X7_stop (fun q52 h53 => ?_)
                  have f54 : zc h q52 := zc.tr (zc.rf h) h53
                  exact Pc.ret f54
            · refine Pc.ite (fun _ => ?_) (fun _ => ?_)
              · refine Pc.ite (fun _ => ?_) (fun _ => ?_)
                · refine Pc.bind zb_X7_stop (fun q55 h56 => ?_)
                  have f57 : zc h q55 := zc.tr (zc.rf h) h56
                  exact Pc.ret f57
                · refine Pc.ite (fun _ => ?_) (fun _ => ?_)
                  · refine Pc.bind zb_X7_take (fun q58 h59 => ?_)
                    have f60 : zc h q58.2 := zc.tr (zc.rf h) h59
                    refine Pc.bind zb_X7_readLaw (fun q61 h62 => ?_)
                    have f63 : zc h q61 := zc.tr f60 h62
                    refine Pc.bind zb_X7_take (fun q64 h65 => ?_)
                    have f66 : zc h q64.2 := zc.tr f63 h65
                    exact Pc.ret f66
                  · refine Pc.bind zb_X7_stop (fun q67 h68 => ?_)
                    have f69 : zc h q67 := zc.tr (zc.rf h) h68
                    exact Pc.ret f69
              · refine Pc.ite (fun _ => ?_) (fun _ => ?_)
                · refine Pc.ite (fun _ => ?_) (fun _ => ?_)
                  · refine Pc.bind zb_X7_stop (fun q70 h71 => ?_)
                    have f72 : zc h q70 := zc.tr (zc.rf h) h71
                    exact Pc.ret f72
                  · refine Pc.ite (fun _ => ?_) (fun _ => ?_)
                    · refine Pc.bind zb_X7_take (fun q73 h74 => ?_)
                      have f75 : zc h q73.2 := zc.tr (zc.rf h) h74
                      refine Pc.bind zb_X7_readLaw (fun q76 h77 => ?_)
                      have f78 : zc h q76 := zc.tr f75 h77
                      refine Pc.bind zb_X7_take (fun q79 h80 => ?_)
                      have f81 : zc h q79.2 := zc.tr f78 h80
                      exact Pc.ret f81
                    · refine Pc.bind zb_X7_stop (fun q82 h83 => ?_)
                      have f84 : zc h q82 := zc.tr (zc.rf h) h83
                      exact Pc.ret f84
                · refine Pc.ite (fun _ => ?_) (fun _ => ?_)
                  · refine Pc.bind zb_X7_take (fun q85 h86 => ?_)
                    have f87 : zc h q85.2 := zc.tr (zc.rf h) h86
                    refine Pc.bind zb_X7_takeNumber (fun q88 h89 => ?_)
                    have f90 : zc h q88.2 := zc.tr f87 h89
                    refine Pc.bind zb_X7_take (fun q91 h92 => ?_)
                    have f93 : zc h q91.2 := zc.tr (zc.w f90 (by omega)) h92
                    exact Pc.ret f93
                  · refine Pc.ite (fun _ => ?_) (fun _ => ?_)
                    · refine Pc.bind zb_X7_take (fun q94 h95 => ?_)
                      have f96 : zc h q94.2 := zc.tr (zc.rf h) h95
                      refine Pc.bind zb_X7_takeNumber (fun q97 h98 => ?_)
                      have f99 : zc h q97.2 := zc.tr f96 h98
                      refine Pc.bind zb_X7_take (fun q100 h101 => ?_)
                      have f102 : zc h q100.2 := zc.tr (zc.w f99 (by omega)) h101
                      exact Pc.ret f102
                    · refine Pc.ite (fun _ => ?_) (fun _ => ?_)
                      · refine Pc.bind zb_X7_stop (fun q103 h104 => ?_)
                        have f105 : zc h q103 := zc.tr (zc.rf h) h104
                        exact Pc.ret f105
                      · refine Pc.ite (fun _ => ?_) (fun _ => ?_)
                        · refine Pc.bind zb_X7_take (fun q106 h107 => ?_)
                          have f108 : zc h q106.2 := zc.tr (zc.rf h) h107
                          refine Pc.bind zb_X7_readLaw (fun q109 h110 => ?_)
                          have f111 : zc h q109 := zc.tr f108 h110
                          refine Pc.bind zb_X7_take (fun q112 h113 => ?_)
                          have f114 : zc h q112.2 := zc.tr f111 h113
                          exact Pc.ret f114
                        · refine Pc.bind zb_X7_stop (fun q115 h116 => ?_)
                          have f117 : zc h q115 := zc.tr (zc.rf h) h116
                          exact Pc.ret f117
theorem zv_X7_layOut : ∀ (n : Nat) (hd : Nat) (h : Hp) (l1 : Int32) (l2 : Int32), Pc (W_X7_layOut n hd h l1 l2) (fun q => zc h q) := by
  intro n
  induction n with
  | zero => intro hd h l1 l2; exact Pc.no
  | succ n ih =>
    intro hd h l1 l2
    rw [u_X7_layOut]
    refine Pc.ite (fun _ => ?_) (fun _ => ?_)
    · refine Pc.ite (fun _ => ?_) (fun _ => ?_)
      · exact Pc.mono (ih _ _ _ _) (fun _ hq => zc.tr (zc.rf h) hq)
      · refine Pc.ite (fun _ => ?_) (fun _ => ?_)
        · refine Pc.chk (fun c2 => ?_)
          refine Pc.ite (fun _ => ?_) (fun _ => ?_)
          · refine Pc.ite (fun _ => ?_) (fun _ => ?_)
            · refine Pc.ite (fun _ => ?_) (fun _ => ?_)
              · refine Pc.ite (fun _ => ?_) (fun _ => ?_)
                · refine Pc.ite (fun _ => ?_) (fun _ => ?_)
                  · exact Pc.mono (ih _ _ _ _) (fun _ hq => zc.tr (zc.rf h) hq)
                  · refine Pc.bind zf_X7_cellOf (fun q4 h5 => ?_)
                    have f6 : zc h q4.2 := zc.tr (zc.rf h) (zc.fr h5 (fun z => z) (fun z => z))
                    refine Pc.chk (fun c7 => ?_)
                    refine Pc.chk (fun c8 => ?_)
                    refine Pc.bind zf_X8_soundIn (fun q9 h10 => ?_)
                    have f11 : zc h q9 := zc.tr f6 (zc.fr h10 (by intro z; omega) (by intro z; omega))
                    exact Pc.mono (ih _ _ _ _) (fun _ hq => zc.tr f11 hq)
                · refine Pc.bind zf_X7_cellOf (fun q13 h14 => ?_)
                  have f15 : zc h q13.2 := zc.tr (zc.rf h) (zc.fr h14 (fun z => z) (fun z => z))
                  refine Pc.ite (fun _ => ?_) (fun _ => ?_)
                  · exact Pc.mono (ih _ _ _ _) (fun _ hq => zc.tr (zc.w f15 (by omega)) hq)
                  · refine Pc.bind zf_X7_cellOf (fun q17 h18 => ?_)
                    have f19 : zc h q17.2 := zc.tr (zc.w f15 (by omega)) (zc.fr h18 (fun z => z) (fun z => z))
                    refine Pc.chk (fun c20 => ?_)
                    refine Pc.chk (fun c21 => ?_)
                    refine Pc.bind zf_X8_soundIn (fun q22 h23 => ?_)
                    have f24 : zc h q22 := zc.tr f19 (zc.fr h23 (by intro z; omega) (by intro z; omega))
                    exact Pc.mono (ih _ _ _ _) (fun _ hq => zc.tr f24 hq)
              · refine Pc.bind zf_X7_onLawn (fun q26 h27 => ?_)
                have f28 : zc h q26.2 := zc.tr (zc.rf h) (zc.fr h27 (fun z => z) (fun z => z))
                refine Pc.ite (fun _ => ?_) (fun _ => ?_)
                · refine Pc.bind zb_X7_blame (fun q29 h30 => ?_)
                  have f31 : zc h q29 := zc.tr f28 h30
                  refine Pc.ite (fun _ => ?_) (fun _ => ?_)
                  · exact Pc.mono (ih _ _ _ _) (fun _ hq => zc.tr f31 hq)
                  · refine Pc.bind zf_X7_cellOf (fun q33 h34 => ?_)
                    have f35 : zc h q33.2 := zc.tr f31 (zc.fr h34 (fun z => z) (fun z => z))
                    refine Pc.chk (fun c36 => ?_)
                    refine Pc.chk (fun c37 => ?_)
                    refine Pc.bind zf_X8_soundIn (fun q38 h39 => ?_)
                    have f40 : zc h q38 := zc.tr f35 (zc.fr h39 (by intro z; omega) (by intro z; omega))
                    exact Pc.mono (ih _ _ _ _) (fun _ hq => zc.tr f40 hq)
                · refine Pc.ite (fun _ => ?_) (fun _ => ?_)
                  · refine Pc.ite (fun _ => ?_) (fun _ => ?_)
                    · exact Pc.mono (ih _ _ _ _) (fun _ hq => zc.tr f28 hq)
                    · refine Pc.bind zf_X7_cellOf (fun q43 h44 => ?_)
                      have f45 : zc h q43.2 := zc.tr f28 (zc.fr h44 (fun z => z) (fun z => z))
                      refine Pc.chk (fun c46 => ?_)
                      refine Pc.chk (fun c47 => ?_)
                      refine Pc.bind zf_X8_soundIn (fun q48 h49 => ?_)
                      have f50 : zc h q48 := zc.tr f45 (zc.fr h49 (by intro z; omega) (by intro z; omega))
                      exact Pc.mono (ih _ _ _ _) (fun _ hq => zc.tr f50 hq)
                  · refine Pc.bind zf_X7_cellOf (fun q52 h53 => ?_)
                    have f54 : zc h q52.2 := zc.tr f28 (zc.fr h53 (fun z => z) (fun z => z))
                    refine Pc.ite (fun _ => ?_) (fun _ => ?_)
                    · exact Pc.mono (ih _ _ _ _) (fun _ hq => zc.tr (zc.w f54 (by omega)) hq)
                    · refine Pc.bind zf_X7_cellOf (fun q56 h57 => ?_)
                      have f58 : zc h q56.2 := zc.tr (zc.w f54 (by omega)) (zc.fr h57 (fun z => z) (fun z => z))
                      refine Pc.chk (fun c59 => ?_)
                      refine Pc.chk (fun c60 => ?_)
                      refine Pc.bind zf_X8_soundIn (fun q61 h62 => ?_)
                      have f63 : zc h q61 := zc.tr f58 (zc.fr h62 (by intro z; omega) (by intro z; omega))
                      exact Pc.mono (ih _ _ _ _) (fun _ hq => zc.tr f63 hq)
            · refine Pc.bind zf_X7_onLawn (fun q65 h66 => ?_)
              have f67 : zc h q65.2 := zc.tr (zc.rf h) (zc.fr h66 (fun z => z) (fun z => z))
              refine Pc.ite (fun _ => ?_) (fun _ => ?_)
              · refine Pc.bind zb_X7_blame (fun q68 h69 => ?_)
                have f70 : zc h q68 := zc.tr f67 h69
                refine Pc.ite (fun _ => ?_) (fun _ => ?_)
                · exact Pc.mono (ih _ _ _ _) (fun _ hq => zc.tr f70 hq)
                · refine Pc.bind zf_X7_cellOf (fun q72 h73 => ?_)
                  have f74 : zc h q72.2 := zc.tr f70 (zc.fr h73 (fun z => z) (fun z => z))
                  refine Pc.chk (fun c75 => ?_)
                  refine Pc.chk (fun c76 => ?_)
                  refine Pc.bind zf_X8_soundIn (fun q77 h78 => ?_)
                  have f79 : zc h q77 := zc.tr f74 (zc.fr h78 (by intro z; omega) (by intro z; omega))
                  exact Pc.mono (ih _ _ _ _) (fun _ hq => zc.tr f79 hq)
              · refine Pc.ite (fun _ => ?_) (fun _ => ?_)
                · refine Pc.ite (fun _ => ?_) (fun _ => ?_)
                  · exact Pc.mono (ih _ _ _ _) (fun _ hq => zc.tr f67 hq)
                  · refine Pc.bind zf_X7_cellOf (fun q82 h83 => ?_)
                    have f84 : zc h q82.2 := zc.tr f67 (zc.fr h83 (fun z => z) (fun z => z))
                    refine Pc.chk (fun c85 => ?_)
                    refine Pc.chk (fun c86 => ?_)
                    refine Pc.bind zf_X8_soundIn (fun q87 h88 => ?_)
                    have f89 : zc h q87 := zc.tr f84 (zc.fr h88 (by intro z; omega) (by intro z; omega))
                    exact Pc.mono (ih _ _ _ _) (fun _ hq => zc.tr f89 hq)
                · refine Pc.bind zf_X7_cellOf (fun q91 h92 => ?_)
                  have f93 : zc h q91.2 := zc.tr f67 (zc.fr h92 (fun z => z) (fun z => z))
                  refine Pc.ite (fun _ => ?_) (fun _ => ?_)
                  · exact Pc.mono (ih _ _ _ _) (fun _ hq => zc.tr (zc.w f93 (by omega)) hq)
                  · refine Pc.bind zf_X7_cellOf (fun q95 h96 => ?_)
                    have f97 : zc h q95.2 := zc.tr (zc.w f93 (by omega)) (zc.fr h96 (fun z => z) (fun z => z))
                    refine Pc.chk (fun c98 => ?_)
                    refine Pc.chk (fun c99 => ?_)
                    refine Pc.bind zf_X8_soundIn (fun q100 h101 => ?_)
                    have f102 : zc h q100 := zc.tr f97 (zc.fr h101 (by intro z; omega) (by intro z; omega))
                    exact Pc.mono (ih _ _ _ _) (fun _ hq => zc.tr f102 hq)
          · refine Pc.ite (fun _ => ?_) (fun _ => ?_)
            · refine Pc.ite (fun _ => ?_) (fun _ => ?_)
              · refine Pc.ite (fun _ => ?_) (fun _ => ?_)
                · refine Pc.ite (fun _ => ?_) (fun _ => ?_)
                  · exact Pc.mono (ih _ _ _ _) (fun _ hq => zc.tr (zc.rf h) hq)
                  · refine Pc.bind zf_X7_cellOf (fun q105 h106 => ?_)
                    have f107 : zc h q105.2 := zc.tr (zc.rf h) (zc.fr h106 (fun z => z) (fun z => z))
                    refine Pc.chk (fun c108 => ?_)
                    refine Pc.chk (fun c109 => ?_)
                    refine Pc.bind zf_X8_soundIn (fun q110 h111 => ?_)
                    have f112 : zc h q110 := zc.tr f107 (zc.fr h111 (by intro z; omega) (by intro z; omega))
                    exact Pc.mono (ih _ _ _ _) (fun _ hq => zc.tr f112 hq)
                · refine Pc.bind zf_X7_cellOf (fun q114 h115 => ?_)
                  have f116 : zc h q114.2 := zc.tr (zc.rf h) (zc.fr h115 (fun z => z) (fun z => z))
                  refine Pc.ite (fun _ => ?_) (fun _ => ?_)
                  · exact Pc.mono (ih _ _ _ _) (fun _ hq => zc.tr (zc.w f116 (by omega)) hq)
                  · refine Pc.bind zf_X7_cellOf (fun q118 h119 => ?_)
                    have f120 : zc h q118.2 := zc.tr (zc.w f116 (by omega)) (zc.fr h119 (fun z => z) (fun z => z))
                    refine Pc.chk (fun c121 => ?_)
                    refine Pc.chk (fun c122 => ?_)
                    refine Pc.bind zf_X8_soundIn (fun q123 h124 => ?_)
                    have f125 : zc h q123 := zc.tr f120 (zc.fr h124 (by intro z; omega) (by intro z; omega))
                    exact Pc.mono (ih _ _ _ _) (fun _ hq => zc.tr f125 hq)
              · refine Pc.bind zf_X7_onLawn (fun q127 h128 => ?_)
                have f129 : zc h q127.2 := zc.tr (zc.rf h) (zc.fr h128 (fun z => z) (fun z => z))
                refine Pc.ite (fun _ => ?_) (fun _ => ?_)
                · refine Pc.bind zb_X7_blame (fun q130 h131 => ?_)
                  have f132 : zc h q130 := zc.tr f129 h131
                  refine Pc.ite (fun _ => ?_) (fun _ => ?_)
                  · exact Pc.mono (ih _ _ _ _) (fun _ hq => zc.tr f132 hq)
                  · refine Pc.bind zf_X7_cellOf (fun q134 h135 => ?_)
                    have f136 : zc h q134.2 := zc.tr f132 (zc.fr h135 (fun z => z) (fun z => z))
                    refine Pc.chk (fun c137 => ?_)
                    refine Pc.chk (fun c138 => ?_)
                    refine Pc.bind zf_X8_soundIn (fun q139 h140 => ?_)
                    have f141 : zc h q139 := zc.tr f136 (zc.fr h140 (by intro z; omega) (by intro z; omega))
                    exact Pc.mono (ih _ _ _ _) (fun _ hq => zc.tr f141 hq)
                · refine Pc.ite (fun _ => ?_) (fun _ => ?_)
                  · refine Pc.ite (fun _ => ?_) (fun _ => ?_)
                    · exact Pc.mono (ih _ _ _ _) (fun _ hq => zc.tr f129 hq)
                    · refine Pc.bind zf_X7_cellOf (fun q144 h145 => ?_)
                      have f146 : zc h q144.2 := zc.tr f129 (zc.fr h145 (fun z => z) (fun z => z))
                      refine Pc.chk (fun c147 => ?_)
                      refine Pc.chk (fun c148 => ?_)
                      refine Pc.bind zf_X8_soundIn (fun q149 h150 => ?_)
                      have f151 : zc h q149 := zc.tr f146 (zc.fr h150 (by intro z; omega) (by intro z; omega))
                      exact Pc.mono (ih _ _ _ _) (fun _ hq => zc.tr f151 hq)
                  · refine Pc.bind zf_X7_cellOf (fun q153 h154 => ?_)
                    have f155 : zc h q153.2 := zc.tr f129 (zc.fr h154 (fun z => z) (fun z => z))
                    refine Pc.ite (fun _ => ?_) (fun _ => ?_)
                    · exact Pc.mono (ih _ _ _ _) (fun _ hq => zc.tr (zc.w f155 (by omega)) hq)
                    · refine Pc.bind zf_X7_cellOf (fun q157 h158 => ?_)
                      have f159 : zc h q157.2 := zc.tr (zc.w f155 (by omega)) (zc.fr h158 (fun z => z) (fun z => z))
                      refine Pc.chk (fun c160 => ?_)
                      refine Pc.chk (fun c161 => ?_)
                      refine Pc.bind zf_X8_soundIn (fun q162 h163 => ?_)
                      have f164 : zc h q162 := zc.tr f159 (zc.fr h163 (by intro z; omega) (by intro z; omega))
                      exact Pc.mono (ih _ _ _ _) (fun _ hq => zc.tr f164 hq)
            · refine Pc.bind zf_X7_onLawn (fun q166 h167 => ?_)
              have f168 : zc h q166.2 := zc.tr (zc.rf h) (zc.fr h167 (fun z => z) (fun z => z))
              refine Pc.ite (fun _ => ?_) (fun _ => ?_)
              · refine Pc.bind zb_X7_blame (fun q169 h170 => ?_)
                have f171 : zc h q169 := zc.tr f168 h170
                refine Pc.ite (fun _ => ?_) (fun _ => ?_)
                · exact Pc.mono (ih _ _ _ _) (fun _ hq => zc.tr f171 hq)
                · refine Pc.bind zf_X7_cellOf (fun q173 h174 => ?_)
                  have f175 : zc h q173.2 := zc.tr f171 (zc.fr h174 (fun z => z) (fun z => z))
                  refine Pc.chk (fun c176 => ?_)
                  refine Pc.chk (fun c177 => ?_)
                  refine Pc.bind zf_X8_soundIn (fun q178 h179 => ?_)
                  have f180 : zc h q178 := zc.tr f175 (zc.fr h179 (by intro z; omega) (by intro z; omega))
                  exact Pc.mono (ih _ _ _ _) (fun _ hq => zc.tr f180 hq)
              · refine Pc.ite (fun _ => ?_) (fun _ => ?_)
                · refine Pc.ite (fun _ => ?_) (fun _ => ?_)
                  · exact Pc.mono (ih _ _ _ _) (fun _ hq => zc.tr f168 hq)
                  · refine Pc.bind zf_X7_cellOf (fun q183 h184 => ?_)
                    have f185 : zc h q183.2 := zc.tr f168 (zc.fr h184 (fun z => z) (fun z => z))
                    refine Pc.chk (fun c186 => ?_)
                    refine Pc.chk (fun c187 => ?_)
                    refine Pc.bind zf_X8_soundIn (fun q188 h189 => ?_)
                    have f190 : zc h q188 := zc.tr f185 (zc.fr h189 (by intro z; omega) (by intro z; omega))
                    exact Pc.mono (ih _ _ _ _) (fun _ hq => zc.tr f190 hq)
                · refine Pc.bind zf_X7_cellOf (fun q192 h193 => ?_)
                  have f194 : zc h q192.2 := zc.tr f168 (zc.fr h193 (fun z => z) (fun z => z))
                  refine Pc.ite (fun _ => ?_) (fun _ => ?_)
                  · exact Pc.mono (ih _ _ _ _) (fun _ hq => zc.tr (zc.w f194 (by omega)) hq)
                  · refine Pc.bind zf_X7_cellOf (fun q196 h197 => ?_)
                    have f198 : zc h q196.2 := zc.tr (zc.w f194 (by omega)) (zc.fr h197 (fun z => z) (fun z => z))
                    refine Pc.chk (fun c199 => ?_)
                    refine Pc.chk (fun c200 => ?_)
                    refine Pc.bind zf_X8_soundIn (fun q201 h202 => ?_)
                    have f203 : zc h q201 := zc.tr f198 (zc.fr h202 (by intro z; omega) (by intro z; omega))
                    exact Pc.mono (ih _ _ _ _) (fun _ hq => zc.tr f203 hq)
        · refine Pc.chk (fun c205 => ?_)
          refine Pc.ite (fun _ => ?_) (fun _ => ?_)
          · refine Pc.ite (fun _ => ?_) (fun _ => ?_)
            · refine Pc.ite (fun _ => ?_) (fun _ => ?_)
              · refine Pc.ite (fun _ => ?_) (fun _ => ?_)
                · refine Pc.ite (fun _ => ?_) (fun _ => ?_)
                  · exact Pc.mono (ih _ _ _ _) (fun _ hq => zc.tr (zc.rf h) hq)
                  · refine Pc.bind zf_X7_cellOf (fun q207 h208 => ?_)
                    have f209 : zc h q207.2 := zc.tr (zc.rf h) (zc.fr h208 (fun z => z) (fun z => z))
                    refine Pc.chk (fun c210 => ?_)
                    refine Pc.chk (fun c211 => ?_)
                    refine Pc.bind zf_X8_soundIn (fun q212 h213 => ?_)
                    have f214 : zc h q212 := zc.tr f209 (zc.fr h213 (by intro z; omega) (by intro z; omega))
                    exact Pc.mono (ih _ _ _ _) (fun _ hq => zc.tr f214 hq)
                · refine Pc.bind zf_X7_cellOf (fun q216 h217 => ?_)
                  have f218 : zc h q216.2 := zc.tr (zc.rf h) (zc.fr h217 (fun z => z) (fun z => z))
                  refine Pc.ite (fun _ => ?_) (fun _ => ?_)
                  · exact Pc.mono (ih _ _ _ _) (fun _ hq => zc.tr (zc.w f218 (by omega)) hq)
                  · refine Pc.bind zf_X7_cellOf (fun q220 h221 => ?_)
                    have f222 : zc h q220.2 := zc.tr (zc.w f218 (by omega)) (zc.fr h221 (fun z => z) (fun z => z))
                    refine Pc.chk (fun c223 => ?_)
                    refine Pc.chk (fun c224 => ?_)
                    refine Pc.bind zf_X8_soundIn (fun q225 h226 => ?_)
                    have f227 : zc h q225 := zc.tr f222 (zc.fr h226 (by intro z; omega) (by intro z; omega))
                    exact Pc.mono (ih _ _ _ _) (fun _ hq => zc.tr f227 hq)
              · refine Pc.bind zf_X7_onLawn (fun q229 h230 => ?_)
                have f231 : zc h q229.2 := zc.tr (zc.rf h) (zc.fr h230 (fun z => z) (fun z => z))
                refine Pc.ite (fun _ => ?_) (fun _ => ?_)
                · refine Pc.bind zb_X7_blame (fun q232 h233 => ?_)
                  have f234 : zc h q232 := zc.tr f231 h233
                  refine Pc.ite (fun _ => ?_) (fun _ => ?_)
                  · exact Pc.mono (ih _ _ _ _) (fun _ hq => zc.tr f234 hq)
                  · refine Pc.bind zf_X7_cellOf (fun q236 h237 => ?_)
                    have f238 : zc h q236.2 := zc.tr f234 (zc.fr h237 (fun z => z) (fun z => z))
                    refine Pc.chk (fun c239 => ?_)
                    refine Pc.chk (fun c240 => ?_)
                    refine Pc.bind zf_X8_soundIn (fun q241 h242 => ?_)
                    have f243 : zc h q241 := zc.tr f238 (zc.fr h242 (by intro z; omega) (by intro z; omega))
                    exact Pc.mono (ih _ _ _ _) (fun _ hq => zc.tr f243 hq)
                · refine Pc.ite (fun _ => ?_) (fun _ => ?_)
                  · refine Pc.ite (fun _ => ?_) (fun _ => ?_)
                    · exact Pc.mono (ih _ _ _ _) (fun _ hq => zc.tr f231 hq)
                    · refine Pc.bind zf_X7_cellOf (fun q246 h247 => ?_)
                      have f248 : zc h q246.2 := zc.tr f231 (zc.fr h247 (fun z => z) (fun z => z))
                      refine Pc.chk (fun c249 => ?_)
                      refine Pc.chk (fun c250 => ?_)
                      refine Pc.bind zf_X8_soundIn (fun q251 h252 => ?_)
                      have f253 : zc h q251 := zc.tr f248 (zc.fr h252 (by intro z; omega) (by intro z; omega))
                      exact Pc.mono (ih _ _ _ _) (fun _ hq => zc.tr f253 hq)
                  · refine Pc.bind zf_X7_cellOf (fun q255 h256 => ?_)
                    have f257 : zc h q255.2 := zc.tr f231 (zc.fr h256 (fun z => z) (fun z => z))
                    refine Pc.ite (fun _ => ?_) (fun _ => ?_)
                    · exact Pc.mono (ih _ _ _ _) (fun _ hq => zc.tr (zc.w f257 (by omega)) hq)
                    · refine Pc.bind zf_X7_cellOf (fun q259 h260 => ?_)
                      have f261 : zc h q259.2 := zc.tr (zc.w f257 (by omega)) (zc.fr h260 (fun z => z) (fun z => z))
                      refine Pc.chk (fun c262 => ?_)
                      refine Pc.chk (fun c263 => ?_)
                      refine Pc.bind zf_X8_soundIn (fun q264 h265 => ?_)
                      have f266 : zc h q264 := zc.tr f261 (zc.fr h265 (by intro z; omega) (by intro z; omega))
                      exact Pc.mono (ih _ _ _ _) (fun _ hq => zc.tr f266 hq)
            · refine Pc.bind zf_X7_onLawn (fun q268 h269 => ?_)
              have f270 : zc h q268.2 := zc.tr (zc.rf h) (zc.fr h269 (fun z => z) (fun z => z))
              refine Pc.ite (fun _ => ?_) (fun _ => ?_)
              · refine Pc.bind zb_X7_blame (fun q271 h272 => ?_)
                have f273 : zc h q271 := zc.tr f270 h272
                refine Pc.ite (fun _ => ?_) (fun _ => ?_)
                · exact Pc.mono (ih _ _ _ _) (fun _ hq => zc.tr f273 hq)
                · refine Pc.bind zf_X7_cellOf (fun q275 h276 => ?_)
                  have f277 : zc h q275.2 := zc.tr f273 (zc.fr h276 (fun z => z) (fun z => z))
                  refine Pc.chk (fun c278 => ?_)
                  refine Pc.chk (fun c279 => ?_)
                  refine Pc.bind zf_X8_soundIn (fun q280 h281 => ?_)
                  have f282 : zc h q280 := zc.tr f277 (zc.fr h281 (by intro z; omega) (by intro z; omega))
                  exact Pc.mono (ih _ _ _ _) (fun _ hq => zc.tr f282 hq)
              · refine Pc.ite (fun _ => ?_) (fun _ => ?_)
                · refine Pc.ite (fun _ => ?_) (fun _ => ?_)
                  · exact Pc.mono (ih _ _ _ _) (fun _ hq => zc.tr f270 hq)
                  · refine Pc.bind zf_X7_cellOf (fun q285 h286 => ?_)
                    have f287 : zc h q285.2 := zc.tr f270 (zc.fr h286 (fun z => z) (fun z => z))
                    refine Pc.chk (fun c288 => ?_)
                    refine Pc.chk (fun c289 => ?_)
                    refine Pc.bind zf_X8_soundIn (fun q290 h291 => ?_)
                    have f292 : zc h q290 := zc.tr f287 (zc.fr h291 (by intro z; omega) (by intro z; omega))
                    exact Pc.mono (ih _ _ _ _) (fun _ hq => zc.tr f292 hq)
                · refine Pc.bind zf_X7_cellOf (fun q294 h295 => ?_)
                  have f296 : zc h q294.2 := zc.tr f270 (zc.fr h295 (fun z => z) (fun z => z))
                  refine Pc.ite (fun _ => ?_) (fun _ => ?_)
                  · exact Pc.mono (ih _ _ _ _) (fun _ hq => zc.tr (zc.w f296 (by omega)) hq)
                  · refine Pc.bind zf_X7_cellOf (fun q298 h299 => ?_)
                    have f300 : zc h q298.2 := zc.tr (zc.w f296 (by omega)) (zc.fr h299 (fun z => z) (fun z => z))
                    refine Pc.chk (fun c301 => ?_)
                    refine Pc.chk (fun c302 => ?_)
                    refine Pc.bind zf_X8_soundIn (fun q303 h304 => ?_)
                    have f305 : zc h q303 := zc.tr f300 (zc.fr h304 (by intro z; omega) (by intro z; omega))
                    exact Pc.mono (ih _ _ _ _) (fun _ hq => zc.tr f305 hq)
          · refine Pc.ite (fun _ => ?_) (fun _ => ?_)
            · refine Pc.ite (fun _ => ?_) (fun _ => ?_)
              · refine Pc.ite (fun _ => ?_) (fun _ => ?_)
                · refine Pc.ite (fun _ => ?_) (fun _ => ?_)
                  · exact Pc.mono (ih _ _ _ _) (fun _ hq => zc.tr (zc.rf h) hq)
                  · refine Pc.bind zf_X7_cellOf (fun q308 h309 => ?_)
                    have f310 : zc h q308.2 := zc.tr (zc.rf h) (zc.fr h309 (fun z => z) (fun z => z))
                    refine Pc.chk (fun c311 => ?_)
                    refine Pc.chk (fun c312 => ?_)
                    refine Pc.bind zf_X8_soundIn (fun q313 h314 => ?_)
                    have f315 : zc h q313 := zc.tr f310 (zc.fr h314 (by intro z; omega) (by intro z; omega))
                    exact Pc.mono (ih _ _ _ _) (fun _ hq => zc.tr f315 hq)
                · refine Pc.bind zf_X7_cellOf (fun q317 h318 => ?_)
                  have f319 : zc h q317.2 := zc.tr (zc.rf h) (zc.fr h318 (fun z => z) (fun z => z))
                  refine Pc.ite (fun _ => ?_) (fun _ => ?_)
                  · exact Pc.mono (ih _ _ _ _) (fun _ hq => zc.tr (zc.w f319 (by omega)) hq)
                  · refine Pc.bind zf_X7_cellOf (fun q321 h322 => ?_)
                    have f323 : zc h q321.2 := zc.tr (zc.w f319 (by omega)) (zc.fr h322 (fun z => z) (fun z => z))
                    refine Pc.chk (fun c324 => ?_)
                    refine Pc.chk (fun c325 => ?_)
                    refine Pc.bind zf_X8_soundIn (fun q326 h327 => ?_)
                    have f328 : zc h q326 := zc.tr f323 (zc.fr h327 (by intro z; omega) (by intro z; omega))
                    exact Pc.mono (ih _ _ _ _) (fun _ hq => zc.tr f328 hq)
              · refine Pc.bind zf_X7_onLawn (fun q330 h331 => ?_)
                have f332 : zc h q330.2 := zc.tr (zc.rf h) (zc.fr h331 (fun z => z) (fun z => z))
                refine Pc.ite (fun _ => ?_) (fun _ => ?_)
                · refine Pc.bind zb_X7_blame (fun q333 h334 => ?_)
                  have f335 : zc h q333 := zc.tr f332 h334
                  refine Pc.ite (fun _ => ?_) (fun _ => ?_)
                  · exact Pc.mono (ih _ _ _ _) (fun _ hq => zc.tr f335 hq)
                  · refine Pc.bind zf_X7_cellOf (fun q337 h338 => ?_)
                    have f339 : zc h q337.2 := zc.tr f335 (zc.fr h338 (fun z => z) (fun z => z))
                    refine Pc.chk (fun c340 => ?_)
                    refine Pc.chk (fun c341 => ?_)
                    refine Pc.bind zf_X8_soundIn (fun q342 h343 => ?_)
                    have f344 : zc h q342 := zc.tr f339 (zc.fr h343 (by intro z; omega) (by intro z; omega))
                    exact Pc.mono (ih _ _ _ _) (fun _ hq => zc.tr f344 hq)
                · refine Pc.ite (fun _ => ?_) (fun _ => ?_)
                  · refine Pc.ite (fun _ => ?_) (fun _ => ?_)
                    · exact Pc.mono (ih _ _ _ _) (fun _ hq => zc.tr f332 hq)
                    · refine Pc.bind zf_X7_cellOf (fun q347 h348 => ?_)
                      have f349 : zc h q347.2 := zc.tr f332 (zc.fr h348 (fun z => z) (fun z => z))
                      refine Pc.chk (fun c350 => ?_)
                      refine Pc.chk (fun c351 => ?_)
                      refine Pc.bind zf_X8_soundIn (fun q352 h353 => ?_)
                      have f354 : zc h q352 := zc.tr f349 (zc.fr h353 (by intro z; omega) (by intro z; omega))
                      exact Pc.mono (ih _ _ _ _) (fun _ hq => zc.tr f354 hq)
                  · refine Pc.bind zf_X7_cellOf (fun q356 h357 => ?_)
                    have f358 : zc h q356.2 := zc.tr f332 (zc.fr h357 (fun z => z) (fun z => z))
                    refine Pc.ite (fun _ => ?_) (fun _ => ?_)
                    · exact Pc.mono (ih _ _ _ _) (fun _ hq => zc.tr (zc.w f358 (by omega)) hq)
                    · refine Pc.bind zf_X7_cellOf (fun q360 h361 => ?_)
                      have f362 : zc h q360.2 := zc.tr (zc.w f358 (by omega)) (zc.fr h361 (fun z => z) (fun z => z))
                      refine Pc.chk (fun c363 => ?_)
                      refine Pc.chk (fun c364 => ?_)
                      refine Pc.bind zf_X8_soundIn (fun q365 h366 => ?_)
                      have f367 : zc h q365 := zc.tr f362 (zc.fr h366 (by intro z; omega) (by intro z; omega))
                      exact Pc.mono (ih _ _ _ _) (fun _ hq => zc.tr f367 hq)
            · refine Pc.bind zf_X7_onLawn (fun q369 h370 => ?_)
              have f371 : zc h q369.2 := zc.tr (zc.rf h) (zc.fr h370 (fun z => z) (fun z => z))
              refine Pc.ite (fun _ => ?_) (fun _ => ?_)
              · refine Pc.bind zb_X7_blame (fun q372 h373 => ?_)
                have f374 : zc h q372 := zc.tr f371 h373
                refine Pc.ite (fun _ => ?_) (fun _ => ?_)
                · exact Pc.mono (ih _ _ _ _) (fun _ hq => zc.tr f374 hq)
                · refine Pc.bind zf_X7_cellOf (fun q376 h377 => ?_)
                  have f378 : zc h q376.2 := zc.tr f374 (zc.fr h377 (fun z => z) (fun z => z))
                  refine Pc.chk (fun c379 => ?_)
                  refine Pc.chk (fun c380 => ?_)
                  refine Pc.bind zf_X8_soundIn (fun q381 h382 => ?_)
                  have f383 : zc h q381 := zc.tr f378 (zc.fr h382 (by intro z; omega) (by intro z; omega))
                  exact Pc.mono (ih _ _ _ _) (fun _ hq => zc.tr f383 hq)
              · refine Pc.ite (fun _ => ?_) (fun _ => ?_)
                · refine Pc.ite (fun _ => ?_) (fun _ => ?_)
                  · exact Pc.mono (ih _ _ _ _) (fun _ hq => zc.tr f371 hq)
                  · refine Pc.bind zf_X7_cellOf (fun q386 h387 => ?_)
                    have f388 : zc h q386.2 := zc.tr f371 (zc.fr h387 (fun z => z) (fun z => z))
                    refine Pc.chk (fun c389 => ?_)
                    refine Pc.chk (fun c390 => ?_)
                    refine Pc.bind zf_X8_soundIn (fun q391 h392 => ?_)
                    have f393 : zc h q391 := zc.tr f388 (zc.fr h392 (by intro z; omega) (by intro z; omega))
                    exact Pc.mono (ih _ _ _ _) (fun _ hq => zc.tr f393 hq)
                · refine Pc.bind zf_X7_cellOf (fun q395 h396 => ?_)
                  have f397 : zc h q395.2 := zc.tr f371 (zc.fr h396 (fun z => z) (fun z => z))
                  refine Pc.ite (fun _ => ?_) (fun _ => ?_)
                  · exact Pc.mono (ih _ _ _ _) (fun _ hq => zc.tr (zc.w f397 (by omega)) hq)
                  · refine Pc.bind zf_X7_cellOf (fun q399 h400 => ?_)
                    have f401 : zc h q399.2 := zc.tr (zc.w f397 (by omega)) (zc.fr h400 (fun z => z) (fun z => z))
                    refine Pc.chk (fun c402 => ?_)
                    refine Pc.chk (fun c403 => ?_)
                    refine Pc.bind zf_X8_soundIn (fun q404 h405 => ?_)
                    have f406 : zc h q404 := zc.tr f401 (zc.fr h405 (by intro z; omega) (by intro z; omega))
                    exact Pc.mono (ih _ _ _ _) (fun _ hq => zc.tr f406 hq)
    · refine Pc.chk (fun _ => ?_)
      refine Pc.ite (fun _ => ?_) (fun _ => ?_)
      · exact Pc.ret (zc.rf h)
      · refine Pc.ite (fun _ => ?_) (fun _ => ?_)
        · exact Pc.ret (zc.rf h)
        · refine Pc.chk (fun c409 => ?_)
          refine Pc.bind zf_X7_onLawn (fun q410 h411 => ?_)
          have f412 : zc h q410.2 := zc.tr (zc.rf h) (zc.fr h411 (fun z => z) (fun z => z))
          refine Pc.ite (fun _ => ?_) (fun _ => ?_)
          · refine Pc.bind zb_X7_blame (fun q413 h414 => ?_)
            have f415 : zc h q413 := zc.tr f412 h414
            refine Pc.bind zf_X7_cellOf (fun q416 h417 => ?_)
            have f418 : zc h q416.2 := zc.tr f415 (zc.fr h417 (fun z => z) (fun z => z))
            refine Pc.chk (fun c419 => ?_)
            exact Pc.mono (ih _ _ _ _) (fun _ hq => zc.tr (zc.w f418 (by omega)) hq)
          · refine Pc.ite (fun _ => ?_) (fun _ => ?_)
            · refine Pc.bind zf_X7_cellOf (fun q421 h422 => ?_)
              have f423 : zc h q421.2 := zc.tr f412 (zc.fr h422 (fun z => z) (fun z => z))
              refine Pc.chk (fun c424 => ?_)
              exact Pc.mono (ih _ _ _ _) (fun _ hq => zc.tr (zc.w f423 (by omega)) hq)
            · refine Pc.bind zb_X7_blame (fun q426 h427 => ?_)
              have f428 : zc h q426 := zc.tr f412 h427
              refine Pc.bind zf_X7_cellOf (fun q429 h430 => ?_)
              have f431 : zc h q429.2 := zc.tr f428 (zc.fr h430 (fun z => z) (fun z => z))
              refine Pc.chk (fun c432 => ?_)
              exact Pc.mono (ih _ _ _ _) (fun _ hq => zc.tr (zc.w f431 (by omega)) hq)
theorem zb_X7_layOut {n : Nat} {h : Hp} {x1 : Int32} : Pc (F_X7_layOut n h x1) (fun q => zc h q) := by
  unfold F_X7_layOut
  exact Pc.mono (zv_X7_layOut _ _ _ _ _) (fun _ hq => zc.tr (zc.rf h) hq)
