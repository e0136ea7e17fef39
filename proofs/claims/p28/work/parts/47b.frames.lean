theorem zf_X12_back {n : Nat} {h : Hp} {x1 : Int32} : Pc (F_X12_back n h x1) (fun q => frZ (fun x k => (x = 226 ∧ (k = 2))) h q.2) := by
  unfold F_X12_back
  refine Pc.ite (fun _ => ?_) (fun _ => ?_)
  · exact Pc.ret (frZ.rf h)
  · refine Pc.ite (fun _ => ?_) (fun _ => ?_)
    · exact Pc.ret (frZ.w (frZ.rf h) (by omega))
    · exact Pc.ret (frZ.rf h)
theorem zf_X12_in {n : Nat} {h : Hp} {x1 : Int32} {x2 : Int32} {x3 : Int32} : Pc (F_X12_in n h x1 x2 x3) (fun q => frZ (fun _ _ => False) h q.2) := by
  unfold F_X12_in
  refine Pc.ite (fun _ => ?_) (fun _ => ?_)
  · exact Pc.ret (frZ.rf h)
  · refine Pc.ite (fun _ => ?_) (fun _ => ?_)
    · exact Pc.ret (frZ.rf h)
    · exact Pc.ret (frZ.rf h)
theorem zf_X12_isLong {n : Nat} {h : Hp} {x1 : Int32} : Pc (F_X12_isLong n h x1) (fun q => frZ (fun _ _ => False) h q.2) := by
  unfold F_X12_isLong
  refine Pc.bind zf_X12_in (fun q1 h2 => ?_)
  have f3 : frZ (fun _ _ => False) h q1.2 := frZ.tr (frZ.rf h) (frZ.no h2)
  refine Pc.chk (fun _ => ?_)
  exact Pc.ret f3
theorem zw_X12_copies : ∀ (n : Nat) (hd : Nat) (h : Hp) (l1 : Int32), Pc (W_X12_copies n hd h l1) (fun q => frZ (fun x k => x = 263 ∨ (x = 226 ∧ (k = 55 ∨ k = 56))) h q) := by
  intro n
  induction n with
  | zero => intro hd h l1; exact Pc.no
  | succ n ih =>
    intro hd h l1
    rw [u_X12_copies]
    refine Pc.chk (fun _ => ?_)
    refine Pc.ite (fun _ => ?_) (fun _ => ?_)
    · refine Pc.chk (fun c2 => ?_)
      exact Pc.ret (frZ.w (frZ.w (frZ.rf h) (by omega)) (by omega))
    · refine Pc.chk (fun c3 => ?_)
      refine Pc.chk (fun c4 => ?_)
      exact Pc.mono (ih _ _ _) (fun _ hq => frZ.tr (frZ.w (frZ.rf h) (by omega)) (frZ.sub hq (fun x k z => by omega)))
theorem zf_X12_copies {n : Nat} {h : Hp} : Pc (F_X12_copies n h) (fun q => frZ (fun x k => x = 263 ∨ (x = 226 ∧ (k = 55 ∨ k = 56))) h q) := by
  unfold F_X12_copies
  exact Pc.mono (zw_X12_copies _ _ _ _) (fun _ hq => frZ.tr (frZ.rf h) (frZ.sub hq (fun x k z => by omega)))
theorem zf_X12_cells {n : Nat} {h : Hp} : Pc (F_X12_cells n h) (fun q => frZ (fun _ _ => False) h q.2) := by
  unfold F_X12_cells
  refine Pc.chk (fun c1 => ?_)
  refine Pc.chk (fun c2 => ?_)
  exact Pc.ret (frZ.rf h)
theorem zw_X12_tuneBits : ∀ (n : Nat) (hd : Nat) (h : Hp) (l1 : Int32) (l2 : Int32), Pc (W_X12_tuneBits n hd h l1 l2) (fun q => frZ (fun _ _ => False) h q.2) := by
  intro n
  induction n with
  | zero => intro hd h l1 l2; exact Pc.no
  | succ n ih =>
    intro hd h l1 l2
    rw [u_X12_tuneBits]
    refine Pc.chk (fun _ => ?_)
    refine Pc.bind zf_X12_cells (fun q2 h3 => ?_)
    have f4 : frZ (fun _ _ => False) h q2.2 := frZ.tr (frZ.rf h) (frZ.no h3)
    refine Pc.ite (fun _ => ?_) (fun _ => ?_)
    · exact Pc.ret f4
    · refine Pc.chk (fun c5 => ?_)
      refine Pc.ite (fun _ => ?_) (fun _ => ?_)
      · exact Pc.mono (ih _ _ _ _) (fun _ hq => frZ.tr f4 (frZ.no hq))
      · exact Pc.mono (ih _ _ _ _) (fun _ hq => frZ.tr f4 (frZ.no hq))
theorem zf_X12_tuneBits {n : Nat} {h : Hp} : Pc (F_X12_tuneBits n h) (fun q => frZ (fun _ _ => False) h q.2) := by
  unfold F_X12_tuneBits
  exact Pc.mono (zw_X12_tuneBits _ _ _ _ _) (fun _ hq => frZ.tr (frZ.rf h) (frZ.no hq))
theorem zw_X12_bits : ∀ (n : Nat) (hd : Nat) (h : Hp) (l0 : Int32) (l1 : Int32) (l2 : Int32), Pc (W_X12_bits n hd h l0 l1 l2) (fun q => frZ (fun _ _ => False) h q.2) := by
  intro n
  induction n with
  | zero => intro hd h l0 l1 l2; exact Pc.no
  | succ n ih =>
    intro hd h l0 l1 l2
    rw [u_X12_bits]
    refine Pc.chk (fun _ => ?_)
    refine Pc.ite (fun _ => ?_) (fun _ => ?_)
    · exact Pc.ret (frZ.rf h)
    · exact Pc.mono (ih _ _ _ _ _) (fun _ hq => frZ.tr (frZ.rf h) (frZ.no hq))
theorem zf_X12_bits {n : Nat} {h : Hp} {x1 : Int32} : Pc (F_X12_bits n h x1) (fun q => frZ (fun _ _ => False) h q.2) := by
  unfold F_X12_bits
  exact Pc.mono (zw_X12_bits _ _ _ _ _ _) (fun _ hq => frZ.tr (frZ.rf h) (frZ.no hq))
theorem zw_X12_termOf : ∀ (n : Nat) (hd : Nat) (h : Hp) (l1 : Int32) (l2 : Int32) (l3 : Int32) (l4 : Int32), Pc (W_X12_termOf n hd h l1 l2 l3 l4) (fun q => frZ (fun x k => x = 261 ∨ (x = 226 ∧ (k = 52))) h q.2) := by
  intro n
  induction n with
  | zero => intro hd h l1 l2 l3 l4; exact Pc.no
  | succ n ih =>
    intro hd h l1 l2 l3 l4
    rw [u_X12_termOf]
    refine Pc.chk (fun _ => ?_)
    refine Pc.ite (fun _ => ?_) (fun _ => ?_)
    · exact Pc.ret (frZ.rf h)
    · refine Pc.chk (fun c2 => ?_)
      refine Pc.ite (fun _ => ?_) (fun _ => ?_)
      · refine Pc.chk (fun c3 => ?_)
        refine Pc.chk (fun c4 => ?_)
        refine Pc.ite (fun _ => ?_) (fun _ => ?_)
        · refine Pc.ite (fun _ => ?_) (fun _ => ?_)
          · exact Pc.ret (frZ.w (frZ.rf h) (by omega))
          · refine Pc.ite (fun _ => ?_) (fun _ => ?_)
            · refine Pc.chk (fun c5 => ?_)
              exact Pc.mono (ih _ _ _ _ _ _) (fun _ hq => frZ.tr (frZ.w (frZ.rf h) (by omega)) (frZ.sub hq (fun x k z => by omega)))
            · refine Pc.ite (fun _ => ?_) (fun _ => ?_)
              · refine Pc.chk (fun c7 => ?_)
                exact Pc.mono (ih _ _ _ _ _ _) (fun _ hq => frZ.tr (frZ.w (frZ.rf h) (by omega)) (frZ.sub hq (fun x k z => by omega)))
              · refine Pc.ite (fun _ => ?_) (fun _ => ?_)
                · refine Pc.chk (fun c9 => ?_)
                  exact Pc.mono (ih _ _ _ _ _ _) (fun _ hq => frZ.tr (frZ.w (frZ.rf h) (by omega)) (frZ.sub hq (fun x k z => by omega)))
                · refine Pc.ite (fun _ => ?_) (fun _ => ?_)
                  · exact Pc.no
                  · refine Pc.chk (fun c11 => ?_)
                    exact Pc.mono (ih _ _ _ _ _ _) (fun _ hq => frZ.tr (frZ.w (frZ.rf h) (by omega)) (frZ.sub hq (fun x k z => by omega)))
        · refine Pc.ite (fun _ => ?_) (fun _ => ?_)
          · refine Pc.chk (fun c13 => ?_)
            exact Pc.mono (ih _ _ _ _ _ _) (fun _ hq => frZ.tr (frZ.w (frZ.rf h) (by omega)) (frZ.sub hq (fun x k z => by omega)))
          · refine Pc.ite (fun _ => ?_) (fun _ => ?_)
            · refine Pc.chk (fun c15 => ?_)
              exact Pc.mono (ih _ _ _ _ _ _) (fun _ hq => frZ.tr (frZ.w (frZ.rf h) (by omega)) (frZ.sub hq (fun x k z => by omega)))
            · refine Pc.ite (fun _ => ?_) (fun _ => ?_)
              · refine Pc.chk (fun c17 => ?_)
                exact Pc.mono (ih _ _ _ _ _ _) (fun _ hq => frZ.tr (frZ.w (frZ.rf h) (by omega)) (frZ.sub hq (fun x k z => by omega)))
              · refine Pc.ite (fun _ => ?_) (fun _ => ?_)
                · exact Pc.no
                · refine Pc.chk (fun c19 => ?_)
                  exact Pc.mono (ih _ _ _ _ _ _) (fun _ hq => frZ.tr (frZ.w (frZ.rf h) (by omega)) (frZ.sub hq (fun x k z => by omega)))
      · refine Pc.ite (fun _ => ?_) (fun _ => ?_)
        · refine Pc.chk (fun c21 => ?_)
          refine Pc.chk (fun c22 => ?_)
          exact Pc.mono (ih _ _ _ _ _ _) (fun _ hq => frZ.tr (frZ.w (frZ.rf h) (by omega)) (frZ.sub hq (fun x k z => by omega)))
        · refine Pc.chk (fun c24 => ?_)
          refine Pc.chk (fun c25 => ?_)
          refine Pc.chk (fun c26 => ?_)
          exact Pc.mono (ih _ _ _ _ _ _) (fun _ hq => frZ.tr (frZ.w (frZ.rf h) (by omega)) (frZ.sub hq (fun x k z => by omega)))
theorem zf_X12_termOf {n : Nat} {h : Hp} {x1 : Int32} {x2 : Int32} : Pc (F_X12_termOf n h x1 x2) (fun q => frZ (fun x k => x = 261 ∨ (x = 226 ∧ (k = 52))) h q.2) := by
  unfold F_X12_termOf
  exact Pc.mono (zw_X12_termOf _ _ _ _ _ _ _) (fun _ hq => frZ.tr (frZ.rf h) (frZ.sub hq (fun x k z => by omega)))
theorem zw_X12_lawTells : ∀ (n : Nat) (hd : Nat) (h : Hp) (l1 : Int32) (l2 : Int32) (l3 : Int32) (l4 : Int32), Pc (W_X12_lawTells n hd h l1 l2 l3 l4) (fun q => frZ (fun x k => x = 261 ∨ (x = 226 ∧ (k = 52))) h q.2) := by
  intro n
  induction n with
  | zero => intro hd h l1 l2 l3 l4; exact Pc.no
  | succ n ih =>
    intro hd h l1 l2 l3 l4
    rw [u_X12_lawTells]
    refine Pc.chk (fun _ => ?_)
    refine Pc.chk (fun c2 => ?_)
    refine Pc.ite (fun _ => ?_) (fun _ => ?_)
    · exact Pc.ret (frZ.rf h)
    · refine Pc.chk (fun c3 => ?_)
      refine Pc.ite (fun _ => ?_) (fun _ => ?_)
      · refine Pc.chk (fun c4 => ?_)
        refine Pc.chk (fun c5 => ?_)
        refine Pc.bind zf_X12_termOf (fun q6 h7 => ?_)
        have f8 : frZ (fun x k => x = 261 ∨ (x = 226 ∧ (k = 52))) h q6.2 := frZ.tr (frZ.rf h) (frZ.sub h7 (fun x k z => by omega))
        refine Pc.ite (fun _ => ?_) (fun _ => ?_)
        · exact Pc.ret f8
        · exact Pc.ret f8
      · refine Pc.chk (fun c9 => ?_)
        refine Pc.chk (fun c10 => ?_)
        refine Pc.bind zf_X12_termOf (fun q11 h12 => ?_)
        have f13 : frZ (fun x k => x = 261 ∨ (x = 226 ∧ (k = 52))) h q11.2 := frZ.tr (frZ.rf h) (frZ.sub h12 (fun x k z => by omega))
        refine Pc.chk (fun c14 => ?_)
        refine Pc.chk (fun c15 => ?_)
        refine Pc.bind zf_X12_termOf (fun q16 h17 => ?_)
        have f18 : frZ (fun x k => x = 261 ∨ (x = 226 ∧ (k = 52))) h q16.2 := frZ.tr f13 (frZ.sub h17 (fun x k z => by omega))
        refine Pc.ite (fun _ => ?_) (fun _ => ?_)
        · refine Pc.ite (fun _ => ?_) (fun _ => ?_)
          · refine Pc.chk (fun c19 => ?_)
            refine Pc.chk (fun c20 => ?_)
            refine Pc.bind zf_X12_termOf (fun q21 h22 => ?_)
            have f23 : frZ (fun x k => x = 261 ∨ (x = 226 ∧ (k = 52))) h q21.2 := frZ.tr f18 (frZ.sub h22 (fun x k z => by omega))
            refine Pc.ite (fun _ => ?_) (fun _ => ?_)
            · exact Pc.ret f23
            · exact Pc.ret f23
          · exact Pc.mono (ih _ _ _ _ _ _) (fun _ hq => frZ.tr f18 (frZ.sub hq (fun x k z => by omega)))
        · exact Pc.ret f18
theorem zf_X12_lawTells {n : Nat} {h : Hp} {x1 : Int32} {x2 : Int32} : Pc (F_X12_lawTells n h x1 x2) (fun q => frZ (fun x k => x = 261 ∨ (x = 226 ∧ (k = 52))) h q.2) := by
  unfold F_X12_lawTells
  refine Pc.chk (fun c1 => ?_)
  refine Pc.chk (fun c2 => ?_)
  refine Pc.ite (fun _ => ?_) (fun _ => ?_)
  · exact Pc.ret (frZ.rf h)
  · refine Pc.chk (fun c3 => ?_)
    exact Pc.mono (zw_X12_lawTells _ _ _ _ _ _ _) (fun _ hq => frZ.tr (frZ.w (frZ.rf h) (by omega)) (frZ.sub hq (fun x k z => by omega)))
theorem zf_X12_toldOf {n : Nat} {h : Hp} {x1 : Int32} {x2 : Int32} {x3 : Int32} {x4 : Int32} {x5 : Int32} : Pc (F_X12_toldOf n h x1 x2 x3 x4 x5) (fun q => frZ (fun x k => (260 ≤ x ∧ x ≤ 261) ∨ (x = 226 ∧ (k = 52))) h q.2) := by
  unfold F_X12_toldOf
  refine Pc.chk (fun c1 => ?_)
  refine Pc.ite (fun _ => ?_) (fun _ => ?_)
  · exact Pc.no
  · refine Pc.chk (fun c2 => ?_)
    refine Pc.ite (fun _ => ?_) (fun _ => ?_)
    · exact Pc.no
    · refine Pc.chk (fun c3 => ?_)
      refine Pc.chk (fun c4 => ?_)
      refine Pc.chk (fun c5 => ?_)
      refine Pc.bind zf_X12_tuneBits (fun q6 h7 => ?_)
      have f8 : frZ (fun x k => (260 ≤ x ∧ x ≤ 261) ∨ (x = 226 ∧ (k = 52))) h q6.2 := frZ.tr (frZ.w (frZ.w (frZ.w (frZ.w (frZ.w (frZ.w (frZ.w (frZ.w (frZ.rf h) (by omega)) (by omega)) (by omega)) (by omega)) (by omega)) (by omega)) (by omega)) (by omega)) (frZ.no h7)
      refine Pc.bind zf_X12_bits (fun q9 h10 => ?_)
      have f11 : frZ (fun x k => (260 ≤ x ∧ x ≤ 261) ∨ (x = 226 ∧ (k = 52))) h q9.2 := frZ.tr f8 (frZ.no h10)
      refine Pc.bind zf_X12_lawTells (fun q12 h13 => ?_)
      have f14 : frZ (fun x k => (260 ≤ x ∧ x ≤ 261) ∨ (x = 226 ∧ (k = 52))) h q12.2 := frZ.tr (frZ.w f11 (by omega)) (frZ.sub h13 (fun x k z => by omega))
      exact Pc.ret f14
theorem zf_X12_isRoped {n : Nat} {h : Hp} {x1 : Int32} : Pc (F_X12_isRoped n h x1) (fun q => frZ (fun _ _ => False) h q.2) := by
  unfold F_X12_isRoped
  refine Pc.ite (fun _ => ?_) (fun _ => ?_)
  · exact Pc.ret (frZ.rf h)
  · exact Pc.ret (frZ.rf h)
theorem zf_X12_wayOf {n : Nat} {h : Hp} {x1 : Int32} {x2 : Int32} {x3 : Int32} {x4 : Int32} : Pc (F_X12_wayOf n h x1 x2 x3 x4) (fun q => frZ (fun x k => (260 ≤ x ∧ x ≤ 261) ∨ (x = 226 ∧ (k = 52))) h q.2) := by
  unfold F_X12_wayOf
  refine Pc.chk (fun c1 => ?_)
  refine Pc.bind zf_X12_toldOf (fun q2 h3 => ?_)
  have f4 : frZ (fun x k => (260 ≤ x ∧ x ≤ 261) ∨ (x = 226 ∧ (k = 52))) h q2.2 := frZ.tr (frZ.rf h) (frZ.sub h3 (fun x k z => by omega))
  refine Pc.ite (fun _ => ?_) (fun _ => ?_)
  · refine Pc.chk (fun c5 => ?_)
    refine Pc.bind zf_X12_isRoped (fun q6 h7 => ?_)
    have f8 : frZ (fun x k => (260 ≤ x ∧ x ≤ 261) ∨ (x = 226 ∧ (k = 52))) h q6.2 := frZ.tr f4 (frZ.no h7)
    refine Pc.ite (fun _ => ?_) (fun _ => ?_)
    · exact Pc.ret f8
    · exact Pc.ret f8
  · refine Pc.chk (fun c9 => ?_)
    refine Pc.bind zf_X12_isRoped (fun q10 h11 => ?_)
    have f12 : frZ (fun x k => (260 ≤ x ∧ x ≤ 261) ∨ (x = 226 ∧ (k = 52))) h q10.2 := frZ.tr f4 (frZ.no h11)
    refine Pc.ite (fun _ => ?_) (fun _ => ?_)
    · exact Pc.ret f12
    · exact Pc.ret f12
theorem zf_X12_stepOf {n : Nat} {h : Hp} {x1 : Int32} : Pc (F_X12_stepOf n h x1) (fun q => frZ (fun x k => (260 ≤ x ∧ x ≤ 261) ∨ (x = 226 ∧ (k = 52))) h q.2) := by
  unfold F_X12_stepOf
  refine Pc.chk (fun c1 => ?_)
  refine Pc.bind zf_X12_wayOf (fun q2 h3 => ?_)
  have f4 : frZ (fun x k => (260 ≤ x ∧ x ≤ 261) ∨ (x = 226 ∧ (k = 52))) h q2.2 := frZ.tr (frZ.rf h) (frZ.sub h3 (fun x k z => by omega))
  exact Pc.ret f4
theorem zf_X12_isLoud {n : Nat} {h : Hp} {x1 : Int32} {x2 : Int32} : Pc (F_X12_isLoud n h x1 x2) (fun q => frZ (fun _ _ => False) h q.2) := by
  unfold F_X12_isLoud
  refine Pc.chk (fun c1 => ?_)
  refine Pc.ite (fun _ => ?_) (fun _ => ?_)
  · exact Pc.ret (frZ.rf h)
  · refine Pc.chk (fun c2 => ?_)
    refine Pc.ite (fun _ => ?_) (fun _ => ?_)
    · exact Pc.no
    · refine Pc.chk (fun c3 => ?_)
      refine Pc.ite (fun _ => ?_) (fun _ => ?_)
      · exact Pc.ret (frZ.rf h)
      · exact Pc.ret (frZ.rf h)
theorem zf_X12_moveOf {n : Nat} {h : Hp} {x1 : Int32} : Pc (F_X12_moveOf n h x1) (fun q => frZ (fun x k => (260 ≤ x ∧ x ≤ 261) ∨ (x = 226 ∧ (k = 52))) h q.2) := by
  unfold F_X12_moveOf
  refine Pc.chk (fun c1 => ?_)
  refine Pc.bind zf_X12_wayOf (fun q2 h3 => ?_)
  have f4 : frZ (fun x k => (260 ≤ x ∧ x ≤ 261) ∨ (x = 226 ∧ (k = 52))) h q2.2 := frZ.tr (frZ.rf h) (frZ.sub h3 (fun x k z => by omega))
  exact Pc.ret f4
theorem zf_X12_mixed {n : Nat} {h : Hp} {x1 : Int32} {x2 : Int32} : Pc (F_X12_mixed n h x1 x2) (fun q => frZ (fun _ _ => False) h q.2) := by
  unfold F_X12_mixed
  exact Pc.ret (frZ.rf h)
theorem zf_X12_lotOf {n : Nat} {h : Hp} {x1 : Int32} : Pc (F_X12_lotOf n h x1) (fun q => frZ (fun _ _ => False) h q.2) := by
  unfold F_X12_lotOf
  refine Pc.bind zf_X12_mixed (fun q1 h2 => ?_)
  have f3 : frZ (fun _ _ => False) h q1.2 := frZ.tr (frZ.rf h) (frZ.no h2)
  refine Pc.bind zf_X12_mixed (fun q4 h5 => ?_)
  have f6 : frZ (fun _ _ => False) h q4.2 := frZ.tr f3 (frZ.no h5)
  exact Pc.ret f6
theorem zw_X12_spreadBits : ∀ (n : Nat) (hd : Nat) (h : Hp) (l1 : Int32) (l2 : Int32) (l3 : Int32), Pc (W_X12_spreadBits n hd h l1 l2 l3) (fun q => frZ (fun x k => (260 ≤ x ∧ x ≤ 261) ∨ (x = 226 ∧ (k = 52))) h q.2) := by
  intro n
  induction n with
  | zero => intro hd h l1 l2 l3; exact Pc.no
  | succ n ih =>
    intro hd h l1 l2 l3
    rw [u_X12_spreadBits]
    refine Pc.chk (fun _ => ?_)
    refine Pc.bind zf_X12_cells (fun q2 h3 => ?_)
    have f4 : frZ (fun x k => (260 ≤ x ∧ x ≤ 261) ∨ (x = 226 ∧ (k = 52))) h q2.2 := frZ.tr (frZ.rf h) (frZ.no h3)
    refine Pc.ite (fun _ => ?_) (fun _ => ?_)
    · exact Pc.ret f4
    · refine Pc.chk (fun c5 => ?_)
      refine Pc.ite (fun _ => ?_) (fun _ => ?_)
      · exact Pc.mono (ih _ _ _ _ _) (fun _ hq => frZ.tr f4 (frZ.sub hq (fun x k z => by omega)))
      · refine Pc.ite (fun _ => ?_) (fun _ => ?_)
        · exact Pc.mono (ih _ _ _ _ _) (fun _ hq => frZ.tr f4 (frZ.sub hq (fun x k z => by omega)))
        · refine Pc.bind zf_X12_toldOf (fun q8 h9 => ?_)
          have f10 : frZ (fun x k => (260 ≤ x ∧ x ≤ 261) ∨ (x = 226 ∧ (k = 52))) h q8.2 := frZ.tr f4 (frZ.sub h9 (fun x k z => by omega))
          refine Pc.ite (fun _ => ?_) (fun _ => ?_)
          · exact Pc.mono (ih _ _ _ _ _) (fun _ hq => frZ.tr f10 (frZ.sub hq (fun x k z => by omega)))
          · refine Pc.bind zf_X12_lotOf (fun q12 h13 => ?_)
            have f14 : frZ (fun x k => (260 ≤ x ∧ x ≤ 261) ∨ (x = 226 ∧ (k = 52))) h q12.2 := frZ.tr f10 (frZ.no h13)
            refine Pc.chk (fun c15 => ?_)
            refine Pc.ite (fun _ => ?_) (fun _ => ?_)
            · exact Pc.mono (ih _ _ _ _ _) (fun _ hq => frZ.tr f14 (frZ.sub hq (fun x k z => by omega)))
            · exact Pc.mono (ih _ _ _ _ _) (fun _ hq => frZ.tr f14 (frZ.sub hq (fun x k z => by omega)))
theorem zf_X12_spreadBits {n : Nat} {h : Hp} : Pc (F_X12_spreadBits n h) (fun q => frZ (fun x k => (260 ≤ x ∧ x ≤ 261) ∨ (x = 226 ∧ (k = 52))) h q.2) := by
  unfold F_X12_spreadBits
  refine Pc.bind zf_X12_tuneBits (fun q1 h2 => ?_)
  have f3 : frZ (fun x k => (260 ≤ x ∧ x ≤ 261) ∨ (x = 226 ∧ (k = 52))) h q1.2 := frZ.tr (frZ.rf h) (frZ.no h2)
  exact Pc.mono (zw_X12_spreadBits _ _ _ _ _ _) (fun _ hq => frZ.tr f3 (frZ.sub hq (fun x k z => by omega)))
theorem zw_X12_spreads : ∀ (n : Nat) (hd : Nat) (h : Hp) (l1 : Int32) (l2 : Int32), Pc (W_X12_spreads n hd h l1 l2) (fun q => frZ (fun x k => x = 263) h q) := by
  intro n
  induction n with
  | zero => intro hd h l1 l2; exact Pc.no
  | succ n ih =>
    intro hd h l1 l2
    rw [u_X12_spreads]
    refine Pc.chk (fun _ => ?_)
    refine Pc.bind zf_X12_cells (fun q2 h3 => ?_)
    have f4 : frZ (fun x k => x = 263) h q2.2 := frZ.tr (frZ.rf h) (frZ.no h3)
    refine Pc.ite (fun _ => ?_) (fun _ => ?_)
    · exact Pc.ret f4
    · refine Pc.ite (fun _ => ?_) (fun _ => ?_)
      · exact Pc.mono (ih _ _ _ _) (fun _ hq => frZ.tr f4 (frZ.sub hq (fun x k z => by omega)))
      · refine Pc.bind zf_X12_tuneBits (fun q6 h7 => ?_)
        have f8 : frZ (fun x k => x = 263) h q6.2 := frZ.tr f4 (frZ.no h7)
        refine Pc.bind zf_X12_bits (fun q9 h10 => ?_)
        have f11 : frZ (fun x k => x = 263) h q9.2 := frZ.tr f8 (frZ.no h10)
        refine Pc.ite (fun _ => ?_) (fun _ => ?_)
        · refine Pc.chk (fun c12 => ?_)
          refine Pc.chk (fun c13 => ?_)
          refine Pc.chk (fun c14 => ?_)
          refine Pc.chk (fun c15 => ?_)
          refine Pc.ite (fun _ => ?_) (fun _ => ?_)
          · exact Pc.no
          · refine Pc.chk (fun c16 => ?_)
            exact Pc.mono (ih _ _ _ _) (fun _ hq => frZ.tr (frZ.w (frZ.w f11 (by omega)) (by omega)) (frZ.sub hq (fun x k z => by omega)))
        · exact Pc.mono (ih _ _ _ _) (fun _ hq => frZ.tr f11 (frZ.sub hq (fun x k z => by omega)))
theorem zf_X12_spreads {n : Nat} {h : Hp} : Pc (F_X12_spreads n h) (fun q => frZ (fun x k => (260 ≤ x ∧ x ≤ 261) ∨ x = 263 ∨ (x = 226 ∧ (k = 52))) h q) := by
  unfold F_X12_spreads
  refine Pc.bind zf_X12_spreadBits (fun q1 h2 => ?_)
  have f3 : frZ (fun x k => (260 ≤ x ∧ x ≤ 261) ∨ x = 263 ∨ (x = 226 ∧ (k = 52))) h q1.2 := frZ.tr (frZ.rf h) (frZ.sub h2 (fun x k z => by omega))
  exact Pc.mono (zw_X12_spreads _ _ _ _ _) (fun _ hq => frZ.tr f3 (frZ.sub hq (fun x k z => by omega)))
theorem zw_X12_beatGoes : ∀ (n : Nat) (hd : Nat) (h : Hp) (l1 : Int32), Pc (W_X12_beatGoes n hd h l1) (fun q => frZ (fun x k => (260 ≤ x ∧ x ≤ 261) ∨ x = 263 ∨ x = 265 ∨ (x = 226 ∧ (k = 52))) h q) := by
  intro n
  induction n with
  | zero => intro hd h l1; exact Pc.no
  | succ n ih =>
    intro hd h l1
    rw [u_X12_beatGoes]
    refine Pc.ite (fun _ => ?_) (fun _ => ?_)
    · refine Pc.chk (fun c1 => ?_)
      refine Pc.ite (fun _ => ?_) (fun _ => ?_)
      · exact Pc.mono (ih _ _ _) (fun _ hq => frZ.tr (frZ.rf h) (frZ.sub hq (fun x k z => by omega)))
      · refine Pc.bind zf_X12_stepOf (fun q3 h4 => ?_)
        have f5 : frZ (fun x k => (260 ≤ x ∧ x ≤ 261) ∨ x = 263 ∨ x = 265 ∨ (x = 226 ∧ (k = 52))) h q3.2 := frZ.tr (frZ.rf h) (frZ.sub h4 (fun x k z => by omega))
        refine Pc.chk (fun c6 => ?_)
        exact Pc.mono (ih _ _ _) (fun _ hq => frZ.tr (frZ.w f5 (by omega)) (frZ.sub hq (fun x k z => by omega)))
    · refine Pc.ite (fun _ => ?_) (fun _ => ?_)
      · refine Pc.chk (fun c8 => ?_)
        refine Pc.ite (fun _ => ?_) (fun _ => ?_)
        · exact Pc.mono (ih _ _ _) (fun _ hq => frZ.tr (frZ.w (frZ.rf h) (by omega)) (frZ.sub hq (fun x k z => by omega)))
        · refine Pc.chk (fun c10 => ?_)
          refine Pc.chk (fun c11 => ?_)
          exact Pc.mono (ih _ _ _) (fun _ hq => frZ.tr (frZ.w (frZ.rf h) (by omega)) (frZ.sub hq (fun x k z => by omega)))
      · refine Pc.ite (fun _ => ?_) (fun _ => ?_)
        · refine Pc.chk (fun c13 => ?_)
          refine Pc.ite (fun _ => ?_) (fun _ => ?_)
          · exact Pc.mono (ih _ _ _) (fun _ hq => frZ.tr (frZ.rf h) (frZ.sub hq (fun x k z => by omega)))
          · refine Pc.chk (fun c15 => ?_)
            refine Pc.bind zf_X12_isLoud (fun q16 h17 => ?_)
            have f18 : frZ (fun x k => (260 ≤ x ∧ x ≤ 261) ∨ x = 263 ∨ x = 265 ∨ (x = 226 ∧ (k = 52))) h q16.2 := frZ.tr (frZ.rf h) (frZ.no h17)
            refine Pc.ite (fun _ => ?_) (fun _ => ?_)
            · refine Pc.chk (fun c19 => ?_)
              exact Pc.mono (ih _ _ _) (fun _ hq => frZ.tr (frZ.w f18 (by omega)) (frZ.sub hq (fun x k z => by omega)))
            · refine Pc.bind zf_X12_moveOf (fun q21 h22 => ?_)
              have f23 : frZ (fun x k => (260 ≤ x ∧ x ≤ 261) ∨ x = 263 ∨ x = 265 ∨ (x = 226 ∧ (k = 52))) h q21.2 := frZ.tr f18 (frZ.sub h22 (fun x k z => by omega))
              refine Pc.chk (fun c24 => ?_)
              exact Pc.mono (ih _ _ _) (fun _ hq => frZ.tr (frZ.w f23 (by omega)) (frZ.sub hq (fun x k z => by omega)))
        · refine Pc.chk (fun _ => ?_)
          refine Pc.chk (fun c27 => ?_)
          refine Pc.ite (fun _ => ?_) (fun _ => ?_)
          · refine Pc.ite (fun _ => ?_) (fun _ => ?_)
            · refine Pc.bind zf_X12_spreads (fun q28 h29 => ?_)
              have f30 : frZ (fun x k => (260 ≤ x ∧ x ≤ 261) ∨ x = 263 ∨ x = 265 ∨ (x = 226 ∧ (k = 52))) h q28 := frZ.tr (frZ.rf h) (frZ.sub h29 (fun x k z => by omega))
              exact Pc.ret f30
            · exact Pc.ret (frZ.rf h)
          · refine Pc.chk (fun c31 => ?_)
            refine Pc.ite (fun _ => ?_) (fun _ => ?_)
            · refine Pc.chk (fun c32 => ?_)
              refine Pc.chk (fun c33 => ?_)
              refine Pc.chk (fun c34 => ?_)
              refine Pc.chk (fun c35 => ?_)
              exact Pc.mono (ih _ _ _) (fun _ hq => frZ.tr (frZ.w (frZ.w (frZ.rf h) (by omega)) (by omega)) (frZ.sub hq (fun x k z => by omega)))
            · exact Pc.mono (ih _ _ _) (fun _ hq => frZ.tr (frZ.rf h) (frZ.sub hq (fun x k z => by omega)))
theorem zf_X12_beatGoes {n : Nat} {h : Hp} : Pc (F_X12_beatGoes n h) (fun q => frZ (fun x k => (260 ≤ x ∧ x ≤ 261) ∨ x = 263 ∨ x = 265 ∨ (x = 226 ∧ (k = 52))) h q) := by
  unfold F_X12_beatGoes
  exact Pc.mono (zw_X12_beatGoes _ _ _ _) (fun _ hq => frZ.tr (frZ.rf h) (frZ.sub hq (fun x k z => by omega)))
theorem zw_X12_goes : ∀ (n : Nat) (hd : Nat) (h : Hp) (l1 : Int32) (l2 : Int32), Pc (W_X12_goes n hd h l1 l2) (fun q => frZ (fun x k => (260 ≤ x ∧ x ≤ 261) ∨ x = 263 ∨ x = 265 ∨ (x = 226 ∧ (k = 52))) h q) := by
  intro n
  induction n with
  | zero => intro hd h l1 l2; exact Pc.no
  | succ n ih =>
    intro hd h l1 l2
    rw [u_X12_goes]
    refine Pc.chk (fun _ => ?_)
    refine Pc.ite (fun _ => ?_) (fun _ => ?_)
    · exact Pc.ret (frZ.rf h)
    · refine Pc.bind zf_X12_beatGoes (fun q2 h3 => ?_)
      have f4 : frZ (fun x k => (260 ≤ x ∧ x ≤ 261) ∨ x = 263 ∨ x = 265 ∨ (x = 226 ∧ (k = 52))) h q2 := frZ.tr (frZ.rf h) (frZ.sub h3 (fun x k z => by omega))
      exact Pc.mono (ih _ _ _ _) (fun _ hq => frZ.tr f4 (frZ.sub hq (fun x k z => by omega)))
theorem zf_X12_goes {n : Nat} {h : Hp} {x1 : Int32} : Pc (F_X12_goes n h x1) (fun q => frZ (fun x k => (260 ≤ x ∧ x ≤ 261) ∨ x = 263 ∨ x = 265 ∨ (x = 226 ∧ (k = 52))) h q) := by
  unfold F_X12_goes
  exact Pc.mono (zw_X12_goes _ _ _ _ _) (fun _ hq => frZ.tr (frZ.rf h) (frZ.sub hq (fun x k z => by omega)))
theorem zw_X12_keepsRow : ∀ (n : Nat) (hd : Nat) (h : Hp) (l1 : Int32), Pc (W_X12_keepsRow n hd h l1) (fun q => frZ (fun x k => x = 262) h q) := by
  intro n
  induction n with
  | zero => intro hd h l1; exact Pc.no
  | succ n ih =>
    intro hd h l1
    rw [u_X12_keepsRow]
    refine Pc.chk (fun _ => ?_)
    refine Pc.ite (fun _ => ?_) (fun _ => ?_)
    · exact Pc.ret (frZ.rf h)
    · refine Pc.chk (fun c2 => ?_)
      refine Pc.chk (fun c3 => ?_)
      exact Pc.mono (ih _ _ _) (fun _ hq => frZ.tr (frZ.w (frZ.rf h) (by omega)) (frZ.sub hq (fun x k z => by omega)))
theorem zf_X12_keepsRow {n : Nat} {h : Hp} : Pc (F_X12_keepsRow n h) (fun q => frZ (fun x k => x = 262) h q) := by
  unfold F_X12_keepsRow
  exact Pc.mono (zw_X12_keepsRow _ _ _ _) (fun _ hq => frZ.tr (frZ.rf h) (frZ.sub hq (fun x k z => by omega)))
theorem zw_X12_records : ∀ (n : Nat) (hd : Nat) (h : Hp) (l1 : Int32), Pc (W_X12_records n hd h l1) (fun q => frZ (fun x k => x = 262 ∨ x = 266 ∨ (x = 226 ∧ (k = 59))) h q) := by
  intro n
  induction n with
  | zero => intro hd h l1; exact Pc.no
  | succ n ih =>
    intro hd h l1
    rw [u_X12_records]
    refine Pc.ite (fun _ => ?_) (fun _ => ?_)
    · refine Pc.ite (fun _ => ?_) (fun _ => ?_)
      · exact Pc.mono (ih _ _ _) (fun _ hq => frZ.tr (frZ.w (frZ.rf h) (by omega)) (frZ.sub hq (fun x k z => by omega)))
      · refine Pc.chk (fun c2 => ?_)
        refine Pc.chk (fun c3 => ?_)
        exact Pc.mono (ih _ _ _) (fun _ hq => frZ.tr (frZ.w (frZ.rf h) (by omega)) (frZ.sub hq (fun x k z => by omega)))
    · refine Pc.chk (fun _ => ?_)
      refine Pc.ite (fun _ => ?_) (fun _ => ?_)
      · refine Pc.bind zf_X12_keepsRow (fun q6 h7 => ?_)
        have f8 : frZ (fun x k => x = 262 ∨ x = 266 ∨ (x = 226 ∧ (k = 59))) h q6 := frZ.tr (frZ.w (frZ.rf h) (by omega)) (frZ.sub h7 (fun x k z => by omega))
        exact Pc.ret f8
      · refine Pc.chk (fun c9 => ?_)
        refine Pc.chk (fun c10 => ?_)
        exact Pc.mono (ih _ _ _) (fun _ hq => frZ.tr (frZ.w (frZ.rf h) (by omega)) (frZ.sub hq (fun x k z => by omega)))
theorem zf_X12_records {n : Nat} {h : Hp} : Pc (F_X12_records n h) (fun q => frZ (fun x k => x = 262 ∨ x = 266 ∨ (x = 226 ∧ (k = 59))) h q) := by
  unfold F_X12_records
  refine Pc.ite (fun _ => ?_) (fun _ => ?_)
  · exact Pc.mono (zw_X12_records _ _ _ _) (fun _ hq => frZ.tr (frZ.rf h) (frZ.sub hq (fun x k z => by omega)))
  · exact Pc.mono (zw_X12_records _ _ _ _) (fun _ hq => frZ.tr (frZ.rf h) (frZ.sub hq (fun x k z => by omega)))
theorem zf_X12_beats {n : Nat} {h : Hp} {x1 : Int32} : Pc (F_X12_beats n h x1) (fun q => frZ (fun x k => (260 ≤ x ∧ x ≤ 263) ∨ (265 ≤ x ∧ x ≤ 266) ∨ (x = 226 ∧ (k = 52 ∨ k = 55 ∨ k = 56 ∨ k = 59))) h q.2) := by
  unfold F_X12_beats
  refine Pc.bind zf_X12_isLong (fun q1 h2 => ?_)
  have f3 : frZ (fun x k => (260 ≤ x ∧ x ≤ 263) ∨ (265 ≤ x ∧ x ≤ 266) ∨ (x = 226 ∧ (k = 52 ∨ k = 55 ∨ k = 56 ∨ k = 59))) h q1.2 := frZ.tr (frZ.rf h) (frZ.no h2)
  refine Pc.ite (fun _ => ?_) (fun _ => ?_)
  · exact Pc.ret f3
  · refine Pc.ite (fun _ => ?_) (fun _ => ?_)
    · exact Pc.ret f3
    · refine Pc.bind zf_X12_copies (fun q4 h5 => ?_)
      have f6 : frZ (fun x k => (260 ≤ x ∧ x ≤ 263) ∨ (265 ≤ x ∧ x ≤ 266) ∨ (x = 226 ∧ (k = 52 ∨ k = 55 ∨ k = 56 ∨ k = 59))) h q4 := frZ.tr f3 (frZ.sub h5 (fun x k z => by omega))
      refine Pc.bind zf_X12_goes (fun q7 h8 => ?_)
      have f9 : frZ (fun x k => (260 ≤ x ∧ x ≤ 263) ∨ (265 ≤ x ∧ x ≤ 266) ∨ (x = 226 ∧ (k = 52 ∨ k = 55 ∨ k = 56 ∨ k = 59))) h q7 := frZ.tr f6 (frZ.sub h8 (fun x k z => by omega))
      refine Pc.bind zf_X12_records (fun q10 h11 => ?_)
      have f12 : frZ (fun x k => (260 ≤ x ∧ x ≤ 263) ∨ (265 ≤ x ∧ x ≤ 266) ∨ (x = 226 ∧ (k = 52 ∨ k = 55 ∨ k = 56 ∨ k = 59))) h q10 := frZ.tr f9 (frZ.sub h11 (fun x k z => by omega))
      exact Pc.ret f12
theorem zf_X12_isGoer {n : Nat} {h : Hp} {x1 : Int32} : Pc (F_X12_isGoer n h x1) (fun q => frZ (fun _ _ => False) h q.2) := by
  unfold F_X12_isGoer
  refine Pc.chk (fun c1 => ?_)
  refine Pc.bind zf_X12_in (fun q2 h3 => ?_)
  have f4 : frZ (fun _ _ => False) h q2.2 := frZ.tr (frZ.rf h) (frZ.no h3)
  refine Pc.chk (fun _ => ?_)
  exact Pc.ret f4
theorem zf_X12_isCell {n : Nat} {h : Hp} {x1 : Int32} : Pc (F_X12_isCell n h x1) (fun q => frZ (fun _ _ => False) h q.2) := by
  unfold F_X12_isCell
  refine Pc.bind zf_X12_cells (fun q1 h2 => ?_)
  have f3 : frZ (fun _ _ => False) h q1.2 := frZ.tr (frZ.rf h) (frZ.no h2)
  refine Pc.bind zf_X12_in (fun q4 h5 => ?_)
  have f6 : frZ (fun _ _ => False) h q4.2 := frZ.tr f3 (frZ.no h5)
  refine Pc.chk (fun _ => ?_)
  exact Pc.ret f6
theorem zf_X12_carry {n : Nat} {h : Hp} {x1 : Int32} {x2 : Int32} : Pc (F_X12_carry n h x1 x2) (fun q => frZ (fun x k => (262 ≤ x ∧ x ≤ 263) ∨ x = 266 ∨ (x = 226 ∧ (k = 55 ∨ k = 56 ∨ k = 59))) h q.2) := by
  unfold F_X12_carry
  refine Pc.bind zf_X12_copies (fun q1 h2 => ?_)
  have f3 : frZ (fun x k => (262 ≤ x ∧ x ≤ 263) ∨ x = 266 ∨ (x = 226 ∧ (k = 55 ∨ k = 56 ∨ k = 59))) h q1 := frZ.tr (frZ.rf h) (frZ.sub h2 (fun x k z => by omega))
  refine Pc.bind zf_X12_isGoer (fun q4 h5 => ?_)
  have f6 : frZ (fun x k => (262 ≤ x ∧ x ≤ 263) ∨ x = 266 ∨ (x = 226 ∧ (k = 55 ∨ k = 56 ∨ k = 59))) h q4.2 := frZ.tr f3 (frZ.no h5)
  refine Pc.ite (fun _ => ?_) (fun _ => ?_)
  · exact Pc.ret f6
  · refine Pc.bind zf_X12_isCell (fun q7 h8 => ?_)
    have f9 : frZ (fun x k => (262 ≤ x ∧ x ≤ 263) ∨ x = 266 ∨ (x = 226 ∧ (k = 55 ∨ k = 56 ∨ k = 59))) h q7.2 := frZ.tr f6 (frZ.no h8)
    refine Pc.ite (fun _ => ?_) (fun _ => ?_)
    · exact Pc.ret f9
    · refine Pc.bind zf_X12_isRoped (fun q10 h11 => ?_)
      have f12 : frZ (fun x k => (262 ≤ x ∧ x ≤ 263) ∨ x = 266 ∨ (x = 226 ∧ (k = 55 ∨ k = 56 ∨ k = 59))) h q10.2 := frZ.tr f9 (frZ.no h11)
      refine Pc.ite (fun _ => ?_) (fun _ => ?_)
      · refine Pc.chk (fun c13 => ?_)
        refine Pc.ite (fun _ => ?_) (fun _ => ?_)
        · exact Pc.ret f12
        · refine Pc.chk (fun c14 => ?_)
          refine Pc.bind zf_X12_records (fun q15 h16 => ?_)
          have f17 : frZ (fun x k => (262 ≤ x ∧ x ≤ 263) ∨ x = 266 ∨ (x = 226 ∧ (k = 55 ∨ k = 56 ∨ k = 59))) h q15 := frZ.tr (frZ.w f12 (by omega)) (frZ.sub h16 (fun x k z => by omega))
          exact Pc.ret f17
      · exact Pc.ret f12
theorem zw_X12_whoAt : ∀ (n : Nat) (hd : Nat) (h : Hp) (l1 : Int32) (l2 : Int32) (l3 : Int32), Pc (W_X12_whoAt n hd h l1 l2 l3) (fun q => frZ (fun _ _ => False) h q.2) := by
  intro n
  induction n with
  | zero => intro hd h l1 l2 l3; exact Pc.no
  | succ n ih =>
    intro hd h l1 l2 l3
    rw [u_X12_whoAt]
    refine Pc.chk (fun _ => ?_)
    refine Pc.chk (fun c2 => ?_)
    refine Pc.ite (fun _ => ?_) (fun _ => ?_)
    · exact Pc.ret (frZ.rf h)
    · refine Pc.chk (fun c3 => ?_)
      refine Pc.ite (fun _ => ?_) (fun _ => ?_)
      · exact Pc.mono (ih _ _ _ _ _) (fun _ hq => frZ.tr (frZ.rf h) (frZ.no hq))
      · exact Pc.mono (ih _ _ _ _ _) (fun _ hq => frZ.tr (frZ.rf h) (frZ.no hq))
theorem zf_X12_whoAt {n : Nat} {h : Hp} {x1 : Int32} : Pc (F_X12_whoAt n h x1) (fun q => frZ (fun _ _ => False) h q.2) := by
  unfold F_X12_whoAt
  exact Pc.mono (zw_X12_whoAt _ _ _ _ _ _) (fun _ hq => frZ.tr (frZ.rf h) (frZ.no hq))
theorem zf_X12_within {n : Nat} {h : Hp} {x1 : Int32} {x2 : Int32} {x3 : Int32} : Pc (F_X12_within n h x1 x2 x3) (fun q => frZ (fun _ _ => False) h q.2) := by
  unfold F_X12_within
  refine Pc.ite (fun _ => ?_) (fun _ => ?_)
  · refine Pc.ite (fun _ => ?_) (fun _ => ?_)
    · exact Pc.ret (frZ.rf h)
    · exact Pc.ret (frZ.rf h)
  · exact Pc.ret (frZ.rf h)
theorem zf_X12_costsOf {n : Nat} {h : Hp} {x1 : Int32} : Pc (F_X12_costsOf n h x1) (fun q => frZ (fun x k => (260 ≤ x ∧ x ≤ 261) ∨ (x = 226 ∧ (k = 52))) h q.2) := by
  unfold F_X12_costsOf
  refine Pc.bind zf_X12_toldOf (fun q1 h2 => ?_)
  have f3 : frZ (fun x k => (260 ≤ x ∧ x ≤ 261) ∨ (x = 226 ∧ (k = 52))) h q1.2 := frZ.tr (frZ.rf h) (frZ.sub h2 (fun x k z => by omega))
  refine Pc.bind zf_X12_within (fun q4 h5 => ?_)
  have f6 : frZ (fun x k => (260 ≤ x ∧ x ≤ 261) ∨ (x = 226 ∧ (k = 52))) h q4.2 := frZ.tr f3 (frZ.no h5)
  exact Pc.ret f6
theorem zf_X12_cell {n : Nat} {h : Hp} {x1 : Int32} {x2 : Int32} : Pc (F_X12_cell n h x1 x2) (fun q => frZ (fun x k => (260 ≤ x ∧ x ≤ 261) ∨ x = 263 ∨ (x = 226 ∧ (k = 52 ∨ k = 55 ∨ k = 56))) h q.2) := by
  unfold F_X12_cell
  refine Pc.bind zf_X12_isCell (fun q1 h2 => ?_)
  have f3 : frZ (fun x k => (260 ≤ x ∧ x ≤ 261) ∨ x = 263 ∨ (x = 226 ∧ (k = 52 ∨ k = 55 ∨ k = 56))) h q1.2 := frZ.tr (frZ.rf h) (frZ.no h2)
  refine Pc.ite (fun _ => ?_) (fun _ => ?_)
  · exact Pc.ret f3
  · refine Pc.bind zf_X12_copies (fun q4 h5 => ?_)
    have f6 : frZ (fun x k => (260 ≤ x ∧ x ≤ 261) ∨ x = 263 ∨ (x = 226 ∧ (k = 52 ∨ k = 55 ∨ k = 56))) h q4 := frZ.tr f3 (frZ.sub h5 (fun x k z => by omega))
    refine Pc.ite (fun _ => ?_) (fun _ => ?_)
    · refine Pc.chk (fun c7 => ?_)
      refine Pc.ite (fun _ => ?_) (fun _ => ?_)
      · exact Pc.ret f6
      · refine Pc.chk (fun c8 => ?_)
        exact Pc.ret f6
    · refine Pc.ite (fun _ => ?_) (fun _ => ?_)
      · refine Pc.chk (fun c9 => ?_)
        refine Pc.ite (fun _ => ?_) (fun _ => ?_)
        · exact Pc.ret f6
        · refine Pc.chk (fun c10 => ?_)
          exact Pc.ret f6
      · refine Pc.ite (fun _ => ?_) (fun _ => ?_)
        · refine Pc.bind zf_X12_isLoud (fun q11 h12 => ?_)
          have f13 : frZ (fun x k => (260 ≤ x ∧ x ≤ 261) ∨ x = 263 ∨ (x = 226 ∧ (k = 52 ∨ k = 55 ∨ k = 56))) h q11.2 := frZ.tr f6 (frZ.no h12)
          refine Pc.ite (fun _ => ?_) (fun _ => ?_)
          · exact Pc.ret f13
          · exact Pc.ret f13
        · refine Pc.ite (fun _ => ?_) (fun _ => ?_)
          · refine Pc.bind zf_X12_isRoped (fun q14 h15 => ?_)
            have f16 : frZ (fun x k => (260 ≤ x ∧ x ≤ 261) ∨ x = 263 ∨ (x = 226 ∧ (k = 52 ∨ k = 55 ∨ k = 56))) h q14.2 := frZ.tr f6 (frZ.no h15)
            refine Pc.ite (fun _ => ?_) (fun _ => ?_)
            · exact Pc.ret f16
            · exact Pc.ret f16
          · refine Pc.ite (fun _ => ?_) (fun _ => ?_)
            · refine Pc.bind zf_X12_whoAt (fun q17 h18 => ?_)
              have f19 : frZ (fun x k => (260 ≤ x ∧ x ≤ 261) ∨ x = 263 ∨ (x = 226 ∧ (k = 52 ∨ k = 55 ∨ k = 56))) h q17.2 := frZ.tr f6 (frZ.no h18)
              exact Pc.ret f19
            · refine Pc.ite (fun _ => ?_) (fun _ => ?_)
              · refine Pc.bind zf_X12_costsOf (fun q20 h21 => ?_)
                have f22 : frZ (fun x k => (260 ≤ x ∧ x ≤ 261) ∨ x = 263 ∨ (x = 226 ∧ (k = 52 ∨ k = 55 ∨ k = 56))) h q20.2 := frZ.tr f6 (frZ.sub h21 (fun x k z => by omega))
                exact Pc.ret f22
              · exact Pc.ret f6
theorem zf_X12_freeBits {n : Nat} {h : Hp} : Pc (F_X12_freeBits n h) (fun q => frZ (fun _ _ => False) h q.2) := by
  unfold F_X12_freeBits
  refine Pc.bind zf_X12_cells (fun q1 h2 => ?_)
  have f3 : frZ (fun _ _ => False) h q1.2 := frZ.tr (frZ.rf h) (frZ.no h2)
  exact Pc.ret f3
theorem zw_X12_nearBits : ∀ (n : Nat) (hd : Nat) (h : Hp) (l1 : Int32) (l2 : Int32) (l3 : Int32) (l4 : Int32), Pc (W_X12_nearBits n hd h l1 l2 l3 l4) (fun q => frZ (fun _ _ => False) h q.2) := by
  intro n
  induction n with
  | zero => intro hd h l1 l2 l3 l4; exact Pc.no
  | succ n ih =>
    intro hd h l1 l2 l3 l4
    rw [u_X12_nearBits]
    refine Pc.ite (fun _ => ?_) (fun _ => ?_)
    · refine Pc.bind zf_X12_cells (fun q1 h2 => ?_)
      have f3 : frZ (fun _ _ => False) h q1.2 := frZ.tr (frZ.rf h) (frZ.no h2)
      refine Pc.ite (fun _ => ?_) (fun _ => ?_)
      · exact Pc.ret f3
      · refine Pc.ite (fun _ => ?_) (fun _ => ?_)
        · exact Pc.mono (ih _ _ _ _ _ _) (fun _ hq => frZ.tr f3 (frZ.no hq))
        · exact Pc.mono (ih _ _ _ _ _ _) (fun _ hq => frZ.tr f3 (frZ.no hq))
    · refine Pc.chk (fun _ => ?_)
      refine Pc.ite (fun _ => ?_) (fun _ => ?_)
      · exact Pc.mono (ih _ _ _ _ _ _) (fun _ hq => frZ.tr (frZ.rf h) (frZ.no hq))
      · refine Pc.chk (fun c8 => ?_)
        exact Pc.mono (ih _ _ _ _ _ _) (fun _ hq => frZ.tr (frZ.rf h) (frZ.no hq))
theorem zf_X12_nearBits {n : Nat} {h : Hp} {x1 : Int32} : Pc (F_X12_nearBits n h x1) (fun q => frZ (fun _ _ => False) h q.2) := by
  unfold F_X12_nearBits
  exact Pc.mono (zw_X12_nearBits _ _ _ _ _ _ _) (fun _ hq => frZ.tr (frZ.rf h) (frZ.no hq))
theorem zw_X12_farOf : ∀ (n : Nat) (hd : Nat) (h : Hp) (l1 : Int32) (l2 : Int32) (l3 : Int32) (l4 : Int32) (l5 : Int32), Pc (W_X12_farOf n hd h l1 l2 l3 l4 l5) (fun q => frZ (fun _ _ => False) h q.2) := by
  intro n
  induction n with
  | zero => intro hd h l1 l2 l3 l4 l5; exact Pc.no
  | succ n ih =>
    intro hd h l1 l2 l3 l4 l5
    rw [u_X12_farOf]
    refine Pc.chk (fun _ => ?_)
    refine Pc.ite (fun _ => ?_) (fun _ => ?_)
    · exact Pc.ret (frZ.rf h)
    · refine Pc.ite (fun _ => ?_) (fun _ => ?_)
      · exact Pc.ret (frZ.rf h)
      · refine Pc.bind zf_X12_nearBits (fun q2 h3 => ?_)
        have f4 : frZ (fun _ _ => False) h q2.2 := frZ.tr (frZ.rf h) (frZ.no h3)
        exact Pc.mono (ih _ _ _ _ _ _ _) (fun _ hq => frZ.tr f4 (frZ.no hq))
theorem zf_X12_farOf {n : Nat} {h : Hp} {x1 : Int32} {x2 : Int32} : Pc (F_X12_farOf n h x1 x2) (fun q => frZ (fun _ _ => False) h q.2) := by
  unfold F_X12_farOf
  refine Pc.bind zf_X12_freeBits (fun q1 h2 => ?_)
  have f3 : frZ (fun _ _ => False) h q1.2 := frZ.tr (frZ.rf h) (frZ.no h2)
  exact Pc.mono (zw_X12_farOf _ _ _ _ _ _ _ _) (fun _ hq => frZ.tr f3 (frZ.no hq))
theorem zw_X12_farthestFrom : ∀ (n : Nat) (hd : Nat) (h : Hp) (l1 : Int32) (l2 : Int32) (l3 : Int32), Pc (W_X12_farthestFrom n hd h l1 l2 l3) (fun q => frZ (fun _ _ => False) h q.2) := by
  intro n
  induction n with
  | zero => intro hd h l1 l2 l3; exact Pc.no
  | succ n ih =>
    intro hd h l1 l2 l3
    rw [u_X12_farthestFrom]
    refine Pc.chk (fun _ => ?_)
    refine Pc.bind zf_X12_cells (fun q2 h3 => ?_)
    have f4 : frZ (fun _ _ => False) h q2.2 := frZ.tr (frZ.rf h) (frZ.no h3)
    refine Pc.ite (fun _ => ?_) (fun _ => ?_)
    · exact Pc.ret f4
    · refine Pc.bind zf_X12_isRoped (fun q5 h6 => ?_)
      have f7 : frZ (fun _ _ => False) h q5.2 := frZ.tr f4 (frZ.no h6)
      refine Pc.ite (fun _ => ?_) (fun _ => ?_)
      · refine Pc.bind zf_X12_farOf (fun q8 h9 => ?_)
        have f10 : frZ (fun _ _ => False) h q8.2 := frZ.tr f7 (frZ.no h9)
        refine Pc.ite (fun _ => ?_) (fun _ => ?_)
        · refine Pc.ite (fun _ => ?_) (fun _ => ?_)
          · exact Pc.mono (ih _ _ _ _ _) (fun _ hq => frZ.tr f10 (frZ.no hq))
          · exact Pc.mono (ih _ _ _ _ _) (fun _ hq => frZ.tr f10 (frZ.no hq))
        · exact Pc.ret f10
      · exact Pc.mono (ih _ _ _ _ _) (fun _ hq => frZ.tr f7 (frZ.no hq))
theorem zf_X12_farthestFrom {n : Nat} {h : Hp} {x1 : Int32} : Pc (F_X12_farthestFrom n h x1) (fun q => frZ (fun _ _ => False) h q.2) := by
  unfold F_X12_farthestFrom
  exact Pc.mono (zw_X12_farthestFrom _ _ _ _ _ _) (fun _ hq => frZ.tr (frZ.rf h) (frZ.no hq))
theorem zw_X12_centre : ∀ (n : Nat) (hd : Nat) (h : Hp) (l1 : Int32) (l2 : Int32) (l3 : Int32) (l4 : Int32), Pc (W_X12_centre n hd h l1 l2 l3 l4) (fun q => frZ (fun _ _ => False) h q.2) := by
  intro n
  induction n with
  | zero => intro hd h l1 l2 l3 l4; exact Pc.no
  | succ n ih =>
    intro hd h l1 l2 l3 l4
    rw [u_X12_centre]
    refine Pc.chk (fun _ => ?_)
    refine Pc.bind zf_X12_cells (fun q2 h3 => ?_)
    have f4 : frZ (fun _ _ => False) h q2.2 := frZ.tr (frZ.rf h) (frZ.no h3)
    refine Pc.ite (fun _ => ?_) (fun _ => ?_)
    · refine Pc.ite (fun _ => ?_) (fun _ => ?_)
      · exact Pc.ret f4
      · exact Pc.ret f4
    · refine Pc.bind zf_X12_isRoped (fun q5 h6 => ?_)
      have f7 : frZ (fun _ _ => False) h q5.2 := frZ.tr f4 (frZ.no h6)
      refine Pc.ite (fun _ => ?_) (fun _ => ?_)
      · refine Pc.bind zf_X12_farthestFrom (fun q8 h9 => ?_)
        have f10 : frZ (fun _ _ => False) h q8.2 := frZ.tr f7 (frZ.no h9)
        refine Pc.ite (fun _ => ?_) (fun _ => ?_)
        · exact Pc.mono (ih _ _ _ _ _ _) (fun _ hq => frZ.tr f10 (frZ.no hq))
        · refine Pc.ite (fun _ => ?_) (fun _ => ?_)
          · exact Pc.mono (ih _ _ _ _ _ _) (fun _ hq => frZ.tr f10 (frZ.no hq))
          · refine Pc.ite (fun _ => ?_) (fun _ => ?_)
            · exact Pc.mono (ih _ _ _ _ _ _) (fun _ hq => frZ.tr f10 (frZ.no hq))
            · exact Pc.mono (ih _ _ _ _ _ _) (fun _ hq => frZ.tr f10 (frZ.no hq))
      · refine Pc.ite (fun _ => ?_) (fun _ => ?_)
        · exact Pc.mono (ih _ _ _ _ _ _) (fun _ hq => frZ.tr f7 (frZ.no hq))
        · refine Pc.ite (fun _ => ?_) (fun _ => ?_)
          · exact Pc.mono (ih _ _ _ _ _ _) (fun _ hq => frZ.tr f7 (frZ.no hq))
          · refine Pc.ite (fun _ => ?_) (fun _ => ?_)
            · exact Pc.mono (ih _ _ _ _ _ _) (fun _ hq => frZ.tr f7 (frZ.no hq))
            · exact Pc.mono (ih _ _ _ _ _ _) (fun _ hq => frZ.tr f7 (frZ.no hq))
theorem zf_X12_centre {n : Nat} {h : Hp} {x1 : Int32} : Pc (F_X12_centre n h x1) (fun q => frZ (fun x k => x = 263 ∨ (x = 226 ∧ (k = 55 ∨ k = 56))) h q.2) := by
  unfold F_X12_centre
  refine Pc.bind zf_X12_in (fun q1 h2 => ?_)
  have f3 : frZ (fun x k => x = 263 ∨ (x = 226 ∧ (k = 55 ∨ k = 56))) h q1.2 := frZ.tr (frZ.rf h) (frZ.no h2)
  refine Pc.ite (fun _ => ?_) (fun _ => ?_)
  · exact Pc.ret f3
  · refine Pc.bind zf_X12_copies (fun q4 h5 => ?_)
    have f6 : frZ (fun x k => x = 263 ∨ (x = 226 ∧ (k = 55 ∨ k = 56))) h q4 := frZ.tr f3 (frZ.sub h5 (fun x k z => by omega))
    exact Pc.mono (zw_X12_centre _ _ _ _ _ _ _) (fun _ hq => frZ.tr f6 (frZ.no hq))
theorem zw_X12_loudBits : ∀ (n : Nat) (hd : Nat) (h : Hp) (l1 : Int32) (l2 : Int32) (l3 : Int32), Pc (W_X12_loudBits n hd h l1 l2 l3) (fun q => frZ (fun _ _ => False) h q.2) := by
  intro n
  induction n with
  | zero => intro hd h l1 l2 l3; exact Pc.no
  | succ n ih =>
    intro hd h l1 l2 l3
    rw [u_X12_loudBits]
    refine Pc.chk (fun _ => ?_)
    refine Pc.bind zf_X12_cells (fun q2 h3 => ?_)
    have f4 : frZ (fun _ _ => False) h q2.2 := frZ.tr (frZ.rf h) (frZ.no h3)
    refine Pc.ite (fun _ => ?_) (fun _ => ?_)
    · exact Pc.ret f4
    · refine Pc.bind zf_X12_isLoud (fun q5 h6 => ?_)
      have f7 : frZ (fun _ _ => False) h q5.2 := frZ.tr f4 (frZ.no h6)
      refine Pc.ite (fun _ => ?_) (fun _ => ?_)
      · exact Pc.mono (ih _ _ _ _ _) (fun _ hq => frZ.tr f7 (frZ.no hq))
      · exact Pc.mono (ih _ _ _ _ _) (fun _ hq => frZ.tr f7 (frZ.no hq))
theorem zf_X12_loudBits {n : Nat} {h : Hp} {x1 : Int32} : Pc (F_X12_loudBits n h x1) (fun q => frZ (fun _ _ => False) h q.2) := by
  unfold F_X12_loudBits
  exact Pc.mono (zw_X12_loudBits _ _ _ _ _ _) (fun _ hq => frZ.tr (frZ.rf h) (frZ.no hq))
theorem zw_X12_chorus : ∀ (n : Nat) (hd : Nat) (h : Hp) (l1 : Int32) (l2 : Int32) (l3 : Int32) (l4 : Int32), Pc (W_X12_chorus n hd h l1 l2 l3 l4) (fun q => frZ (fun _ _ => False) h q.2) := by
  intro n
  induction n with
  | zero => intro hd h l1 l2 l3 l4; exact Pc.no
  | succ n ih =>
    intro hd h l1 l2 l3 l4
    rw [u_X12_chorus]
    refine Pc.chk (fun _ => ?_)
    refine Pc.ite (fun _ => ?_) (fun _ => ?_)
    · refine Pc.ite (fun _ => ?_) (fun _ => ?_)
      · exact Pc.ret (frZ.rf h)
      · exact Pc.ret (frZ.rf h)
    · refine Pc.bind zf_X12_loudBits (fun q2 h3 => ?_)
      have f4 : frZ (fun _ _ => False) h q2.2 := frZ.tr (frZ.rf h) (frZ.no h3)
      refine Pc.bind zf_X12_bits (fun q5 h6 => ?_)
      have f7 : frZ (fun _ _ => False) h q5.2 := frZ.tr f4 (frZ.no h6)
      refine Pc.ite (fun _ => ?_) (fun _ => ?_)
      · exact Pc.mono (ih _ _ _ _ _ _) (fun _ hq => frZ.tr f7 (frZ.no hq))
      · exact Pc.mono (ih _ _ _ _ _ _) (fun _ hq => frZ.tr f7 (frZ.no hq))
theorem zf_X12_chorus {n : Nat} {h : Hp} {x1 : Int32} : Pc (F_X12_chorus n h x1) (fun q => frZ (fun x k => x = 263 ∨ (x = 226 ∧ (k = 55 ∨ k = 56))) h q.2) := by
  unfold F_X12_chorus
  refine Pc.bind zf_X12_in (fun q1 h2 => ?_)
  have f3 : frZ (fun x k => x = 263 ∨ (x = 226 ∧ (k = 55 ∨ k = 56))) h q1.2 := frZ.tr (frZ.rf h) (frZ.no h2)
  refine Pc.ite (fun _ => ?_) (fun _ => ?_)
  · exact Pc.ret f3
  · refine Pc.bind zf_X12_copies (fun q4 h5 => ?_)
    have f6 : frZ (fun x k => x = 263 ∨ (x = 226 ∧ (k = 55 ∨ k = 56))) h q4 := frZ.tr f3 (frZ.sub h5 (fun x k z => by omega))
    exact Pc.mono (zw_X12_chorus _ _ _ _ _ _ _) (fun _ hq => frZ.tr f6 (frZ.no hq))
theorem zw_X12_goerBits : ∀ (n : Nat) (hd : Nat) (h : Hp) (l1 : Int32) (l2 : Int32), Pc (W_X12_goerBits n hd h l1 l2) (fun q => frZ (fun _ _ => False) h q.2) := by
  intro n
  induction n with
  | zero => intro hd h l1 l2; exact Pc.no
  | succ n ih =>
    intro hd h l1 l2
    rw [u_X12_goerBits]
    refine Pc.chk (fun _ => ?_)
    refine Pc.chk (fun c2 => ?_)
    refine Pc.ite (fun _ => ?_) (fun _ => ?_)
    · exact Pc.ret (frZ.rf h)
    · refine Pc.chk (fun c3 => ?_)
      exact Pc.mono (ih _ _ _ _) (fun _ hq => frZ.tr (frZ.rf h) (frZ.no hq))
theorem zf_X12_goerBits {n : Nat} {h : Hp} : Pc (F_X12_goerBits n h) (fun q => frZ (fun _ _ => False) h q.2) := by
  unfold F_X12_goerBits
  exact Pc.mono (zw_X12_goerBits _ _ _ _ _) (fun _ hq => frZ.tr (frZ.rf h) (frZ.no hq))
theorem zw_X12_costsAll : ∀ (n : Nat) (hd : Nat) (h : Hp) (l1 : Int32) (l2 : Int32), Pc (W_X12_costsAll n hd h l1 l2) (fun q => frZ (fun x k => (260 ≤ x ∧ x ≤ 261) ∨ (x = 226 ∧ (k = 52))) h q.2) := by
  intro n
  induction n with
  | zero => intro hd h l1 l2; exact Pc.no
  | succ n ih =>
    intro hd h l1 l2
    rw [u_X12_costsAll]
    refine Pc.chk (fun _ => ?_)
    refine Pc.bind zf_X12_cells (fun q2 h3 => ?_)
    have f4 : frZ (fun x k => (260 ≤ x ∧ x ≤ 261) ∨ (x = 226 ∧ (k = 52))) h q2.2 := frZ.tr (frZ.rf h) (frZ.no h3)
    refine Pc.ite (fun _ => ?_) (fun _ => ?_)
    · exact Pc.ret f4
    · refine Pc.chk (fun c5 => ?_)
      refine Pc.ite (fun _ => ?_) (fun _ => ?_)
      · exact Pc.mono (ih _ _ _ _) (fun _ hq => frZ.tr f4 (frZ.sub hq (fun x k z => by omega)))
      · refine Pc.bind zf_X12_costsOf (fun q7 h8 => ?_)
        have f9 : frZ (fun x k => (260 ≤ x ∧ x ≤ 261) ∨ (x = 226 ∧ (k = 52))) h q7.2 := frZ.tr f4 (frZ.sub h8 (fun x k z => by omega))
        exact Pc.mono (ih _ _ _ _) (fun _ hq => frZ.tr f9 (frZ.sub hq (fun x k z => by omega)))
theorem zf_X12_costsAll {n : Nat} {h : Hp} : Pc (F_X12_costsAll n h) (fun q => frZ (fun x k => (260 ≤ x ∧ x ≤ 261) ∨ (x = 226 ∧ (k = 52))) h q.2) := by
  unfold F_X12_costsAll
  exact Pc.mono (zw_X12_costsAll _ _ _ _ _) (fun _ hq => frZ.tr (frZ.rf h) (frZ.sub hq (fun x k z => by omega)))
theorem zw_X12_count : ∀ (n : Nat) (hd : Nat) (h : Hp) (l1 : Int32) (l2 : Int32) (l3 : Int32), Pc (W_X12_count n hd h l1 l2 l3) (fun q => frZ (fun _ _ => False) h q.2) := by
  intro n
  induction n with
  | zero => intro hd h l1 l2 l3; exact Pc.no
  | succ n ih =>
    intro hd h l1 l2 l3
    rw [u_X12_count]
    refine Pc.chk (fun _ => ?_)
    refine Pc.chk (fun c2 => ?_)
    refine Pc.ite (fun _ => ?_) (fun _ => ?_)
    · exact Pc.ret (frZ.rf h)
    · refine Pc.chk (fun c3 => ?_)
      refine Pc.ite (fun _ => ?_) (fun _ => ?_)
      · exact Pc.mono (ih _ _ _ _ _) (fun _ hq => frZ.tr (frZ.rf h) (frZ.no hq))
      · exact Pc.mono (ih _ _ _ _ _) (fun _ hq => frZ.tr (frZ.rf h) (frZ.no hq))
theorem zf_X12_count {n : Nat} {h : Hp} {x1 : Int32} : Pc (F_X12_count n h x1) (fun q => frZ (fun x k => (260 ≤ x ∧ x ≤ 261) ∨ x = 263 ∨ (x = 226 ∧ (k = 52 ∨ k = 55 ∨ k = 56))) h q.2) := by
  unfold F_X12_count
  refine Pc.bind zf_X12_copies (fun q1 h2 => ?_)
  have f3 : frZ (fun x k => (260 ≤ x ∧ x ≤ 261) ∨ x = 263 ∨ (x = 226 ∧ (k = 52 ∨ k = 55 ∨ k = 56))) h q1 := frZ.tr (frZ.rf h) (frZ.sub h2 (fun x k z => by omega))
  refine Pc.ite (fun _ => ?_) (fun _ => ?_)
  · refine Pc.chk (fun c4 => ?_)
    exact Pc.ret f3
  · refine Pc.ite (fun _ => ?_) (fun _ => ?_)
    · refine Pc.chk (fun c5 => ?_)
      exact Pc.ret f3
    · refine Pc.ite (fun _ => ?_) (fun _ => ?_)
      · refine Pc.chk (fun c6 => ?_)
        exact Pc.ret f3
      · refine Pc.ite (fun _ => ?_) (fun _ => ?_)
        · exact Pc.ret f3
        · refine Pc.ite (fun _ => ?_) (fun _ => ?_)
          · exact Pc.ret f3
          · refine Pc.ite (fun _ => ?_) (fun _ => ?_)
            · refine Pc.bind zf_X12_tuneBits (fun q7 h8 => ?_)
              have f9 : frZ (fun x k => (260 ≤ x ∧ x ≤ 261) ∨ x = 263 ∨ (x = 226 ∧ (k = 52 ∨ k = 55 ∨ k = 56))) h q7.2 := frZ.tr f3 (frZ.no h8)
              exact Pc.ret f9
            · refine Pc.ite (fun _ => ?_) (fun _ => ?_)
              · exact Pc.ret f3
              · refine Pc.ite (fun _ => ?_) (fun _ => ?_)
                · refine Pc.bind zf_X12_goerBits (fun q10 h11 => ?_)
                  have f12 : frZ (fun x k => (260 ≤ x ∧ x ≤ 261) ∨ x = 263 ∨ (x = 226 ∧ (k = 52 ∨ k = 55 ∨ k = 56))) h q10.2 := frZ.tr f3 (frZ.no h11)
                  exact Pc.ret f12
                · refine Pc.ite (fun _ => ?_) (fun _ => ?_)
                  · exact Pc.ret f3
                  · refine Pc.ite (fun _ => ?_) (fun _ => ?_)
                    · exact Pc.ret f3
                    · refine Pc.ite (fun _ => ?_) (fun _ => ?_)
                      · exact Pc.ret f3
                      · refine Pc.ite (fun _ => ?_) (fun _ => ?_)
                        · refine Pc.ite (fun _ => ?_) (fun _ => ?_)
                          · refine Pc.ite (fun _ => ?_) (fun _ => ?_)
                            · refine Pc.ite (fun _ => ?_) (fun _ => ?_)
                              · exact Pc.ret f3
                              · exact Pc.ret f3
                            · refine Pc.ite (fun _ => ?_) (fun _ => ?_)
                              · exact Pc.ret f3
                              · exact Pc.ret f3
                          · refine Pc.ite (fun _ => ?_) (fun _ => ?_)
                            · refine Pc.ite (fun _ => ?_) (fun _ => ?_)
                              · exact Pc.ret f3
                              · exact Pc.ret f3
                            · refine Pc.ite (fun _ => ?_) (fun _ => ?_)
                              · exact Pc.ret f3
                              · exact Pc.ret f3
                        · refine Pc.ite (fun _ => ?_) (fun _ => ?_)
                          · refine Pc.bind zf_X12_loudBits (fun q13 h14 => ?_)
                            have f15 : frZ (fun x k => (260 ≤ x ∧ x ≤ 261) ∨ x = 263 ∨ (x = 226 ∧ (k = 52 ∨ k = 55 ∨ k = 56))) h q13.2 := frZ.tr f3 (frZ.no h14)
                            exact Pc.ret f15
                          · refine Pc.ite (fun _ => ?_) (fun _ => ?_)
                            · exact Pc.ret f3
                            · refine Pc.ite (fun _ => ?_) (fun _ => ?_)
                              · refine Pc.bind zf_X12_tuneBits (fun q16 h17 => ?_)
                                have f18 : frZ (fun x k => (260 ≤ x ∧ x ≤ 261) ∨ x = 263 ∨ (x = 226 ∧ (k = 52 ∨ k = 55 ∨ k = 56))) h q16.2 := frZ.tr f3 (frZ.no h17)
                                refine Pc.bind zf_X12_bits (fun q19 h20 => ?_)
                                have f21 : frZ (fun x k => (260 ≤ x ∧ x ≤ 261) ∨ x = 263 ∨ (x = 226 ∧ (k = 52 ∨ k = 55 ∨ k = 56))) h q19.2 := frZ.tr f18 (frZ.no h20)
                                exact Pc.ret f21
                              · refine Pc.ite (fun _ => ?_) (fun _ => ?_)
                                · refine Pc.bind zf_X12_costsAll (fun q22 h23 => ?_)
                                  have f24 : frZ (fun x k => (260 ≤ x ∧ x ≤ 261) ∨ x = 263 ∨ (x = 226 ∧ (k = 52 ∨ k = 55 ∨ k = 56))) h q22.2 := frZ.tr f3 (frZ.sub h23 (fun x k z => by omega))
                                  exact Pc.ret f24
                                · refine Pc.ite (fun _ => ?_) (fun _ => ?_)
                                  · refine Pc.bind zf_X12_freeBits (fun q25 h26 => ?_)
                                    have f27 : frZ (fun x k => (260 ≤ x ∧ x ≤ 261) ∨ x = 263 ∨ (x = 226 ∧ (k = 52 ∨ k = 55 ∨ k = 56))) h q25.2 := frZ.tr f3 (frZ.no h26)
                                    refine Pc.bind zf_X12_tuneBits (fun q28 h29 => ?_)
                                    have f30 : frZ (fun x k => (260 ≤ x ∧ x ≤ 261) ∨ x = 263 ∨ (x = 226 ∧ (k = 52 ∨ k = 55 ∨ k = 56))) h q28.2 := frZ.tr f27 (frZ.no h29)
                                    refine Pc.bind zf_X12_goerBits (fun q31 h32 => ?_)
                                    have f33 : frZ (fun x k => (260 ≤ x ∧ x ≤ 261) ∨ x = 263 ∨ (x = 226 ∧ (k = 52 ∨ k = 55 ∨ k = 56))) h q31.2 := frZ.tr f30 (frZ.no h32)
                                    exact Pc.ret f33
                                  · refine Pc.ite (fun _ => ?_) (fun _ => ?_)
                                    · refine Pc.bind zf_X12_bits (fun q34 h35 => ?_)
                                      have f36 : frZ (fun x k => (260 ≤ x ∧ x ≤ 261) ∨ x = 263 ∨ (x = 226 ∧ (k = 52 ∨ k = 55 ∨ k = 56))) h q34.2 := frZ.tr f3 (frZ.no h35)
                                      exact Pc.ret f36
                                    · refine Pc.ite (fun _ => ?_) (fun _ => ?_)
                                      · exact Pc.mono (zw_X12_count _ _ _ _ _ _) (fun _ hq => frZ.tr f3 (frZ.no hq))
                                      · refine Pc.ite (fun _ => ?_) (fun _ => ?_)
                                        · refine Pc.chk (fun c38 => ?_)
                                          exact Pc.ret f3
                                        · exact Pc.ret f3
theorem zf_X12_far {n : Nat} {h : Hp} {x1 : Int32} {x2 : Int32} : Pc (F_X12_far n h x1 x2) (fun q => frZ (fun x k => x = 263 ∨ (x = 226 ∧ (k = 55 ∨ k = 56))) h q.2) := by
  unfold F_X12_far
  refine Pc.bind zf_X12_isCell (fun q1 h2 => ?_)
  have f3 : frZ (fun x k => x = 263 ∨ (x = 226 ∧ (k = 55 ∨ k = 56))) h q1.2 := frZ.tr (frZ.rf h) (frZ.no h2)
  refine Pc.ite (fun _ => ?_) (fun _ => ?_)
  · exact Pc.ret f3
  · refine Pc.bind zf_X12_isCell (fun q4 h5 => ?_)
    have f6 : frZ (fun x k => x = 263 ∨ (x = 226 ∧ (k = 55 ∨ k = 56))) h q4.2 := frZ.tr f3 (frZ.no h5)
    refine Pc.ite (fun _ => ?_) (fun _ => ?_)
    · exact Pc.ret f6
    · refine Pc.bind zf_X12_copies (fun q7 h8 => ?_)
      have f9 : frZ (fun x k => x = 263 ∨ (x = 226 ∧ (k = 55 ∨ k = 56))) h q7 := frZ.tr f6 (frZ.sub h8 (fun x k z => by omega))
      refine Pc.bind zf_X12_farOf (fun q10 h11 => ?_)
      have f12 : frZ (fun x k => x = 263 ∨ (x = 226 ∧ (k = 55 ∨ k = 56))) h q10.2 := frZ.tr f9 (frZ.no h11)
      exact Pc.ret f12
theorem zw_X12_lays : ∀ (n : Nat) (hd : Nat) (h : Hp) (l1 : Int32) (l2 : Int32), Pc (W_X12_lays n hd h l1 l2) (fun q => frZ (fun x k => x = 227 ∨ (x = 226 ∧ (k = 2))) h q) := by
  intro n
  induction n with
  | zero => intro hd h l1 l2; exact Pc.no
  | succ n ih =>
    intro hd h l1 l2
    rw [u_X12_lays]
    refine Pc.chk (fun _ => ?_)
    refine Pc.ite (fun _ => ?_) (fun _ => ?_)
    · exact Pc.ret (frZ.rf h)
    · refine Pc.chk (fun c2 => ?_)
      exact Pc.mono (ih _ _ _ _) (fun _ hq => frZ.tr (frZ.w (frZ.w (frZ.rf h) (by omega)) (by omega)) (frZ.sub hq (fun x k z => by omega)))
theorem zf_X12_lays {n : Nat} {h : Hp} {x1 : Int32} : Pc (F_X12_lays n h x1) (fun q => frZ (fun x k => x = 227 ∨ (x = 226 ∧ (k = 2))) h q) := by
  unfold F_X12_lays
  exact Pc.mono (zw_X12_lays _ _ _ _ _) (fun _ hq => frZ.tr (frZ.rf h) (frZ.sub hq (fun x k z => by omega)))
theorem zf_X12_feed {n : Nat} {h : Hp} {x1 : Int32} {x2 : Int32} {x3 : Int32} {x4 : Int32} {x5 : Int32} : Pc (F_X12_feed n h x1 x2 x3 x4 x5) (fun q => frZ (fun x k => x = 227 ∨ (x = 226 ∧ (k = 2))) h q.2) := by
  unfold F_X12_feed
  refine Pc.ite (fun _ => ?_) (fun _ => ?_)
  · refine Pc.bind zf_X12_lays (fun q1 h2 => ?_)
    have f3 : frZ (fun x k => x = 227 ∨ (x = 226 ∧ (k = 2))) h q1 := frZ.tr (frZ.rf h) (frZ.sub h2 (fun x k z => by omega))
    refine Pc.bind zf_X12_lays (fun q4 h5 => ?_)
    have f6 : frZ (fun x k => x = 227 ∨ (x = 226 ∧ (k = 2))) h q4 := frZ.tr f3 (frZ.sub h5 (fun x k z => by omega))
    refine Pc.bind zf_X12_lays (fun q7 h8 => ?_)
    have f9 : frZ (fun x k => x = 227 ∨ (x = 226 ∧ (k = 2))) h q7 := frZ.tr f6 (frZ.sub h8 (fun x k z => by omega))
    refine Pc.bind zf_X12_lays (fun q10 h11 => ?_)
    have f12 : frZ (fun x k => x = 227 ∨ (x = 226 ∧ (k = 2))) h q10 := frZ.tr f9 (frZ.sub h11 (fun x k z => by omega))
    refine Pc.bind zf_X12_lays (fun q13 h14 => ?_)
    have f15 : frZ (fun x k => x = 227 ∨ (x = 226 ∧ (k = 2))) h q13 := frZ.tr f12 (frZ.sub h14 (fun x k z => by omega))
    exact Pc.ret f15
  · exact Pc.ret (frZ.rf h)
theorem zw_X12_doesFit : ∀ (n : Nat) (hd : Nat) (h : Hp) (l1 : Int32) (l2 : Int32) (l3 : Int32) (l4 : Int32), Pc (W_X12_doesFit n hd h l1 l2 l3 l4) (fun q => frZ (fun _ _ => False) h q.2) := by
  intro n
  induction n with
  | zero => intro hd h l1 l2 l3 l4; exact Pc.no
  | succ n ih =>
    intro hd h l1 l2 l3 l4
    rw [u_X12_doesFit]
    refine Pc.chk (fun _ => ?_)
    refine Pc.ite (fun _ => ?_) (fun _ => ?_)
    · exact Pc.ret (frZ.rf h)
    · refine Pc.chk (fun c2 => ?_)
      refine Pc.ite (fun _ => ?_) (fun _ => ?_)
      · exact Pc.no
      · refine Pc.ite (fun _ => ?_) (fun _ => ?_)
        · refine Pc.chk (fun c3 => ?_)
          refine Pc.ite (fun _ => ?_) (fun _ => ?_)
          · exact Pc.mono (ih _ _ _ _ _ _) (fun _ hq => frZ.tr (frZ.rf h) (frZ.no hq))
          · exact Pc.ret (frZ.rf h)
        · refine Pc.chk (fun c5 => ?_)
          refine Pc.ite (fun _ => ?_) (fun _ => ?_)
          · exact Pc.mono (ih _ _ _ _ _ _) (fun _ hq => frZ.tr (frZ.rf h) (frZ.no hq))
          · exact Pc.ret (frZ.rf h)
theorem zf_X12_doesFit {n : Nat} {h : Hp} {x1 : Int32} {x2 : Int32} {x3 : Int32} : Pc (F_X12_doesFit n h x1 x2 x3) (fun q => frZ (fun _ _ => False) h q.2) := by
  unfold F_X12_doesFit
  exact Pc.mono (zw_X12_doesFit _ _ _ _ _ _ _) (fun _ hq => frZ.tr (frZ.rf h) (frZ.no hq))
theorem zw_X12_fitting : ∀ (n : Nat) (hd : Nat) (h : Hp) (l1 : Int32) (l2 : Int32) (l3 : Int32) (l4 : Int32) (l5 : Int32), Pc (W_X12_fitting n hd h l1 l2 l3 l4 l5) (fun q => frZ (fun _ _ => False) h q.2) := by
  intro n
  induction n with
  | zero => intro hd h l1 l2 l3 l4 l5; exact Pc.no
  | succ n ih =>
    intro hd h l1 l2 l3 l4 l5
    rw [u_X12_fitting]
    refine Pc.ite (fun _ => ?_) (fun _ => ?_)
    · refine Pc.ite (fun _ => ?_) (fun _ => ?_)
      · exact Pc.ret (frZ.rf h)
      · exact Pc.mono (ih _ _ _ _ _ _ _) (fun _ hq => frZ.tr (frZ.rf h) (frZ.no hq))
    · refine Pc.chk (fun _ => ?_)
      refine Pc.ite (fun _ => ?_) (fun _ => ?_)
      · exact Pc.mono (ih _ _ _ _ _ _ _) (fun _ hq => frZ.tr (frZ.rf h) (frZ.no hq))
      · refine Pc.ite (fun _ => ?_) (fun _ => ?_)
        · refine Pc.bind zf_X12_doesFit (fun q4 h5 => ?_)
          have f6 : frZ (fun _ _ => False) h q4.2 := frZ.tr (frZ.rf h) (frZ.no h5)
          refine Pc.ite (fun _ => ?_) (fun _ => ?_)
          · exact Pc.mono (ih _ _ _ _ _ _ _) (fun _ hq => frZ.tr f6 (frZ.no hq))
          · exact Pc.mono (ih _ _ _ _ _ _ _) (fun _ hq => frZ.tr f6 (frZ.no hq))
        · refine Pc.ite (fun _ => ?_) (fun _ => ?_)
          · exact Pc.no
          · refine Pc.ite (fun _ => ?_) (fun _ => ?_)
            · refine Pc.bind zf_X12_doesFit (fun q9 h10 => ?_)
              have f11 : frZ (fun _ _ => False) h q9.2 := frZ.tr (frZ.rf h) (frZ.no h10)
              refine Pc.ite (fun _ => ?_) (fun _ => ?_)
              · exact Pc.mono (ih _ _ _ _ _ _ _) (fun _ hq => frZ.tr f11 (frZ.no hq))
              · exact Pc.mono (ih _ _ _ _ _ _ _) (fun _ hq => frZ.tr f11 (frZ.no hq))
            · exact Pc.mono (ih _ _ _ _ _ _ _) (fun _ hq => frZ.tr (frZ.rf h) (frZ.no hq))
theorem zf_X12_fitting {n : Nat} {h : Hp} {x1 : Int32} {x2 : Int32} : Pc (F_X12_fitting n h x1 x2) (fun q => frZ (fun _ _ => False) h q.2) := by
  unfold F_X12_fitting
  exact Pc.mono (zw_X12_fitting _ _ _ _ _ _ _ _) (fun _ hq => frZ.tr (frZ.rf h) (frZ.no hq))
theorem zw_X12_firstFit : ∀ (n : Nat) (hd : Nat) (h : Hp) (l1 : Int32) (l2 : Int32) (l3 : Int32), Pc (W_X12_firstFit n hd h l1 l2 l3) (fun q => frZ (fun _ _ => False) h q.2) := by
  intro n
  induction n with
  | zero => intro hd h l1 l2 l3; exact Pc.no
  | succ n ih =>
    intro hd h l1 l2 l3
    rw [u_X12_firstFit]
    refine Pc.ite (fun _ => ?_) (fun _ => ?_)
    · refine Pc.ite (fun _ => ?_) (fun _ => ?_)
      · exact Pc.ret (frZ.rf h)
      · exact Pc.mono (ih _ _ _ _ _) (fun _ hq => frZ.tr (frZ.rf h) (frZ.no hq))
    · refine Pc.chk (fun _ => ?_)
      refine Pc.ite (fun _ => ?_) (fun _ => ?_)
      · exact Pc.mono (ih _ _ _ _ _) (fun _ hq => frZ.tr (frZ.rf h) (frZ.no hq))
      · refine Pc.bind zf_X12_doesFit (fun q4 h5 => ?_)
        have f6 : frZ (fun _ _ => False) h q4.2 := frZ.tr (frZ.rf h) (frZ.no h5)
        refine Pc.ite (fun _ => ?_) (fun _ => ?_)
        · exact Pc.mono (ih _ _ _ _ _) (fun _ hq => frZ.tr f6 (frZ.no hq))
        · exact Pc.ret f6
theorem zf_X12_firstFit {n : Nat} {h : Hp} {x1 : Int32} : Pc (F_X12_firstFit n h x1) (fun q => frZ (fun _ _ => False) h q.2) := by
  unfold F_X12_firstFit
  exact Pc.mono (zw_X12_firstFit _ _ _ _ _ _) (fun _ hq => frZ.tr (frZ.rf h) (frZ.no hq))
theorem zf_X12_fits {n : Nat} {h : Hp} {x1 : Int32} {x2 : Int32} : Pc (F_X12_fits n h x1 x2) (fun q => frZ (fun _ _ => False) h q.2) := by
  unfold F_X12_fits
  refine Pc.bind zf_X12_in (fun q1 h2 => ?_)
  have f3 : frZ (fun _ _ => False) h q1.2 := frZ.tr (frZ.rf h) (frZ.no h2)
  refine Pc.ite (fun _ => ?_) (fun _ => ?_)
  · exact Pc.ret f3
  · refine Pc.bind zf_X12_in (fun q4 h5 => ?_)
    have f6 : frZ (fun _ _ => False) h q4.2 := frZ.tr f3 (frZ.no h5)
    refine Pc.ite (fun _ => ?_) (fun _ => ?_)
    · exact Pc.ret f6
    · refine Pc.ite (fun _ => ?_) (fun _ => ?_)
      · refine Pc.bind zf_X12_fitting (fun q7 h8 => ?_)
        have f9 : frZ (fun _ _ => False) h q7.2 := frZ.tr f6 (frZ.no h8)
        exact Pc.ret f9
      · refine Pc.bind zf_X12_firstFit (fun q10 h11 => ?_)
        have f12 : frZ (fun _ _ => False) h q10.2 := frZ.tr f6 (frZ.no h11)
        exact Pc.ret f12
theorem zf_X12_forget {n : Nat} {h : Hp} : Pc (F_X12_forget n h) (fun q => frZ (fun x k => (x = 226 ∧ (k = 65))) h q.2) := by
  unfold F_X12_forget
  exact Pc.ret (frZ.w (frZ.rf h) (by omega))
theorem zf_X12_goer {n : Nat} {h : Hp} {x1 : Int32} {x2 : Int32} : Pc (F_X12_goer n h x1 x2) (fun q => frZ (fun x k => (260 ≤ x ∧ x ≤ 261) ∨ x = 263 ∨ (x = 226 ∧ (k = 52 ∨ k = 55 ∨ k = 56))) h q.2) := by
  unfold F_X12_goer
  refine Pc.bind zf_X12_isGoer (fun q1 h2 => ?_)
  have f3 : frZ (fun x k => (260 ≤ x ∧ x ≤ 261) ∨ x = 263 ∨ (x = 226 ∧ (k = 52 ∨ k = 55 ∨ k = 56))) h q1.2 := frZ.tr (frZ.rf h) (frZ.no h2)
  refine Pc.ite (fun _ => ?_) (fun _ => ?_)
  · exact Pc.ret f3
  · refine Pc.bind zf_X12_copies (fun q4 h5 => ?_)
    have f6 : frZ (fun x k => (260 ≤ x ∧ x ≤ 261) ∨ x = 263 ∨ (x = 226 ∧ (k = 52 ∨ k = 55 ∨ k = 56))) h q4 := frZ.tr f3 (frZ.sub h5 (fun x k z => by omega))
    refine Pc.ite (fun _ => ?_) (fun _ => ?_)
    · refine Pc.chk (fun c7 => ?_)
      exact Pc.ret f6
    · refine Pc.ite (fun _ => ?_) (fun _ => ?_)
      · refine Pc.chk (fun c8 => ?_)
        exact Pc.ret f6
      · refine Pc.ite (fun _ => ?_) (fun _ => ?_)
        · refine Pc.bind zf_X12_stepOf (fun q9 h10 => ?_)
          have f11 : frZ (fun x k => (260 ≤ x ∧ x ≤ 261) ∨ x = 263 ∨ (x = 226 ∧ (k = 52 ∨ k = 55 ∨ k = 56))) h q9.2 := frZ.tr f6 (frZ.sub h10 (fun x k z => by omega))
          exact Pc.ret f11
        · refine Pc.ite (fun _ => ?_) (fun _ => ?_)
          · refine Pc.bind zf_X12_moveOf (fun q12 h13 => ?_)
            have f14 : frZ (fun x k => (260 ≤ x ∧ x ≤ 261) ∨ x = 263 ∨ (x = 226 ∧ (k = 52 ∨ k = 55 ∨ k = 56))) h q12.2 := frZ.tr f6 (frZ.sub h13 (fun x k z => by omega))
            exact Pc.ret f14
          · exact Pc.ret f6
theorem zw_X12_hold : ∀ (n : Nat) (hd : Nat) (h : Hp) (l1 : Int32) (l2 : Int32), Pc (W_X12_hold n hd h l1 l2) (fun q => frZ (fun x k => x = 274) h q.2) := by
  intro n
  induction n with
  | zero => intro hd h l1 l2; exact Pc.no
  | succ n ih =>
    intro hd h l1 l2
    rw [u_X12_hold]
    refine Pc.chk (fun _ => ?_)
    refine Pc.ite (fun _ => ?_) (fun _ => ?_)
    · exact Pc.ret (frZ.rf h)
    · refine Pc.chk (fun c2 => ?_)
      refine Pc.chk (fun c3 => ?_)
      exact Pc.mono (ih _ _ _ _) (fun _ hq => frZ.tr (frZ.w (frZ.rf h) (by omega)) (frZ.sub hq (fun x k z => by omega)))
theorem zf_X12_hold {n : Nat} {h : Hp} {x1 : Int32} : Pc (F_X12_hold n h x1) (fun q => frZ (fun x k => (273 ≤ x ∧ x ≤ 274)) h q.2) := by
  unfold F_X12_hold
  refine Pc.bind zf_X12_in (fun q1 h2 => ?_)
  have f3 : frZ (fun x k => (273 ≤ x ∧ x ≤ 274)) h q1.2 := frZ.tr (frZ.rf h) (frZ.no h2)
  refine Pc.ite (fun _ => ?_) (fun _ => ?_)
  · exact Pc.ret f3
  · refine Pc.chk (fun c4 => ?_)
    exact Pc.mono (zw_X12_hold _ _ _ _ _) (fun _ hq => frZ.tr (frZ.w f3 (by omega)) (frZ.sub hq (fun x k z => by omega)))
theorem zf_X12_areFree {n : Nat} {h : Hp} {x1 : Int32} {x2 : Int32} : Pc (F_X12_areFree n h x1 x2) (fun q => frZ (fun _ _ => False) h q.2) := by
  unfold F_X12_areFree
  refine Pc.bind zf_X12_isCell (fun q1 h2 => ?_)
  have f3 : frZ (fun _ _ => False) h q1.2 := frZ.tr (frZ.rf h) (frZ.no h2)
  refine Pc.ite (fun _ => ?_) (fun _ => ?_)
  · exact Pc.ret f3
  · refine Pc.bind zf_X12_isCell (fun q4 h5 => ?_)
    have f6 : frZ (fun _ _ => False) h q4.2 := frZ.tr f3 (frZ.no h5)
    refine Pc.ite (fun _ => ?_) (fun _ => ?_)
    · exact Pc.ret f6
    · refine Pc.ite (fun _ => ?_) (fun _ => ?_)
      · refine Pc.ite (fun _ => ?_) (fun _ => ?_)
        · exact Pc.ret f6
        · exact Pc.ret f6
      · exact Pc.ret f6
theorem zf_X12_safeBits {n : Nat} {h : Hp} {x1 : Int32} : Pc (F_X12_safeBits n h x1) (fun q => frZ (fun _ _ => False) h q.2) := by
  unfold F_X12_safeBits
  refine Pc.bind zf_X12_freeBits (fun q1 h2 => ?_)
  have f3 : frZ (fun _ _ => False) h q1.2 := frZ.tr (frZ.rf h) (frZ.no h2)
  refine Pc.bind zf_X12_loudBits (fun q4 h5 => ?_)
  have f6 : frZ (fun _ _ => False) h q4.2 := frZ.tr f3 (frZ.no h5)
  exact Pc.ret f6
theorem zw_X12_fillsReach : ∀ (n : Nat) (hd : Nat) (h : Hp) (b1 : Nat) (l2 : Int32) (l3 : Int32) (l4 : Int32), Pc (W_X12_fillsReach n hd h b1 l2 l3 l4) (fun q => frZ (fun x k => x = b1) h q) := by
  intro n
  induction n with
  | zero => intro hd h b1 l2 l3 l4; exact Pc.no
  | succ n ih =>
    intro hd h b1 l2 l3 l4
    rw [u_X12_fillsReach]
    refine Pc.chk (fun _ => ?_)
    refine Pc.ite (fun _ => ?_) (fun _ => ?_)
    · exact Pc.ret (frZ.rf h)
    · refine Pc.chk (fun c2 => ?_)
      refine Pc.bind zf_X12_nearBits (fun q3 h4 => ?_)
      have f5 : frZ (fun x k => x = b1) h q3.2 := frZ.tr (frZ.rf h) (frZ.no h4)
      refine Pc.bind zf_X12_safeBits (fun q6 h7 => ?_)
      have f8 : frZ (fun x k => x = b1) h q6.2 := frZ.tr f5 (frZ.no h7)
      refine Pc.chk (fun c9 => ?_)
      exact Pc.mono (ih _ _ _ _ _ _) (fun _ hq => frZ.tr (frZ.w f8 (by omega)) (frZ.sub hq (fun x k z => by omega)))
theorem zf_X12_fillsReach {n : Nat} {h : Hp} {b1 : Nat} {x2 : Int32} {x3 : Int32} : Pc (F_X12_fillsReach n h b1 x2 x3) (fun q => frZ (fun x k => x = b1) h q) := by
  unfold F_X12_fillsReach
  exact Pc.mono (zw_X12_fillsReach _ _ _ _ _ _ _) (fun _ hq => frZ.tr (frZ.w (frZ.rf h) (by omega)) (frZ.sub hq (fun x k z => by omega)))
theorem zw_X12_firstAt : ∀ (n : Nat) (hd : Nat) (h : Hp) (l1 : Int32) (l2 : Int32) (l3 : Int32), Pc (W_X12_firstAt n hd h l1 l2 l3) (fun q => frZ (fun _ _ => False) h q.2) := by
  intro n
  induction n with
  | zero => intro hd h l1 l2 l3; exact Pc.no
  | succ n ih =>
    intro hd h l1 l2 l3
    rw [u_X12_firstAt]
    refine Pc.chk (fun _ => ?_)
    refine Pc.ite (fun _ => ?_) (fun _ => ?_)
    · exact Pc.ret (frZ.rf h)
    · refine Pc.chk (fun c2 => ?_)
      refine Pc.ite (fun _ => ?_) (fun _ => ?_)
      · exact Pc.ret (frZ.rf h)
      · exact Pc.mono (ih _ _ _ _ _) (fun _ hq => frZ.tr (frZ.rf h) (frZ.no hq))
theorem zf_X12_firstAt {n : Nat} {h : Hp} {x1 : Int32} {x2 : Int32} : Pc (F_X12_firstAt n h x1 x2) (fun q => frZ (fun _ _ => False) h q.2) := by
  unfold F_X12_firstAt
  exact Pc.mono (zw_X12_firstAt _ _ _ _ _ _) (fun _ hq => frZ.tr (frZ.rf h) (frZ.no hq))
theorem zw_X12_leave : ∀ (n : Nat) (hd : Nat) (h : Hp) (l1 : Int32) (l2 : Int32) (l3 : Int32) (l4 : Int32) (l5 : Int32) (l6 : Int32), Pc (W_X12_leave n hd h l1 l2 l3 l4 l5 l6) (fun q => frZ (fun x k => x = 267) h q.2) := by
  intro n
  induction n with
  | zero => intro hd h l1 l2 l3 l4 l5 l6; exact Pc.no
  | succ n ih =>
    intro hd h l1 l2 l3 l4 l5 l6
    rw [u_X12_leave]
    refine Pc.chk (fun _ => ?_)
    refine Pc.ite (fun _ => ?_) (fun _ => ?_)
    · refine Pc.ite (fun _ => ?_) (fun _ => ?_)
      · exact Pc.ret (frZ.rf h)
      · exact Pc.ret (frZ.rf h)
    · refine Pc.bind zf_X12_fillsReach (fun q2 h3 => ?_)
      have f4 : frZ (fun x k => x = 267) h q2 := frZ.tr (frZ.rf h) (frZ.sub h3 (fun x k z => by omega))
      refine Pc.bind zf_X12_firstAt (fun q5 h6 => ?_)
      have f7 : frZ (fun x k => x = 267) h q5.2 := frZ.tr f4 (frZ.no h6)
      refine Pc.ite (fun _ => ?_) (fun _ => ?_)
      · exact Pc.mono (ih _ _ _ _ _ _ _ _) (fun _ hq => frZ.tr f7 (frZ.sub hq (fun x k z => by omega)))
      · refine Pc.ite (fun _ => ?_) (fun _ => ?_)
        · exact Pc.mono (ih _ _ _ _ _ _ _ _) (fun _ hq => frZ.tr f7 (frZ.sub hq (fun x k z => by omega)))
        · refine Pc.ite (fun _ => ?_) (fun _ => ?_)
          · exact Pc.mono (ih _ _ _ _ _ _ _ _) (fun _ hq => frZ.tr f7 (frZ.sub hq (fun x k z => by omega)))
          · exact Pc.mono (ih _ _ _ _ _ _ _ _) (fun _ hq => frZ.tr f7 (frZ.sub hq (fun x k z => by omega)))
theorem zf_X12_leave {n : Nat} {h : Hp} {x1 : Int32} {x2 : Int32} {x3 : Int32} : Pc (F_X12_leave n h x1 x2 x3) (fun q => frZ (fun x k => x = 263 ∨ x = 267 ∨ (x = 226 ∧ (k = 55 ∨ k = 56))) h q.2) := by
  unfold F_X12_leave
  refine Pc.bind zf_X12_areFree (fun q1 h2 => ?_)
  have f3 : frZ (fun x k => x = 263 ∨ x = 267 ∨ (x = 226 ∧ (k = 55 ∨ k = 56))) h q1.2 := frZ.tr (frZ.rf h) (frZ.no h2)
  refine Pc.ite (fun _ => ?_) (fun _ => ?_)
  · exact Pc.ret f3
  · refine Pc.bind zf_X12_in (fun q4 h5 => ?_)
    have f6 : frZ (fun x k => x = 263 ∨ x = 267 ∨ (x = 226 ∧ (k = 55 ∨ k = 56))) h q4.2 := frZ.tr f3 (frZ.no h5)
    refine Pc.ite (fun _ => ?_) (fun _ => ?_)
    · exact Pc.ret f6
    · refine Pc.bind zf_X12_copies (fun q7 h8 => ?_)
      have f9 : frZ (fun x k => x = 263 ∨ x = 267 ∨ (x = 226 ∧ (k = 55 ∨ k = 56))) h q7 := frZ.tr f6 (frZ.sub h8 (fun x k z => by omega))
      exact Pc.mono (zw_X12_leave _ _ _ _ _ _ _ _ _) (fun _ hq => frZ.tr f9 (frZ.sub hq (fun x k z => by omega)))
theorem zw_X12_listen : ∀ (n : Nat) (hd : Nat) (h : Hp) (l1 : Int32) (l2 : Int32) (l3 : Int32) (l4 : Int32) (l5 : Int32), Pc (W_X12_listen n hd h l1 l2 l3 l4 l5) (fun q => frZ (fun _ _ => False) h q.2) := by
  intro n
  induction n with
  | zero => intro hd h l1 l2 l3 l4 l5; exact Pc.no
  | succ n ih =>
    intro hd h l1 l2 l3 l4 l5
    rw [u_X12_listen]
    refine Pc.chk (fun _ => ?_)
    refine Pc.ite (fun _ => ?_) (fun _ => ?_)
    · exact Pc.ret (frZ.rf h)
    · refine Pc.ite (fun _ => ?_) (fun _ => ?_)
      · exact Pc.ret (frZ.rf h)
      · refine Pc.bind zf_X12_fitting (fun q2 h3 => ?_)
        have f4 : frZ (fun _ _ => False) h q2.2 := frZ.tr (frZ.rf h) (frZ.no h3)
        refine Pc.ite (fun _ => ?_) (fun _ => ?_)
        · refine Pc.ite (fun _ => ?_) (fun _ => ?_)
          · exact Pc.mono (ih _ _ _ _ _ _ _) (fun _ hq => frZ.tr f4 (frZ.no hq))
          · refine Pc.ite (fun _ => ?_) (fun _ => ?_)
            · exact Pc.mono (ih _ _ _ _ _ _ _) (fun _ hq => frZ.tr f4 (frZ.no hq))
            · exact Pc.mono (ih _ _ _ _ _ _ _) (fun _ hq => frZ.tr f4 (frZ.no hq))
        · refine Pc.ite (fun _ => ?_) (fun _ => ?_)
          · exact Pc.mono (ih _ _ _ _ _ _ _) (fun _ hq => frZ.tr f4 (frZ.no hq))
          · refine Pc.ite (fun _ => ?_) (fun _ => ?_)
            · exact Pc.mono (ih _ _ _ _ _ _ _) (fun _ hq => frZ.tr f4 (frZ.no hq))
            · exact Pc.mono (ih _ _ _ _ _ _ _) (fun _ hq => frZ.tr f4 (frZ.no hq))
theorem zf_X12_listen {n : Nat} {h : Hp} {x1 : Int32} : Pc (F_X12_listen n h x1) (fun q => frZ (fun _ _ => False) h q.2) := by
  unfold F_X12_listen
  refine Pc.bind zf_X12_in (fun q1 h2 => ?_)
  have f3 : frZ (fun _ _ => False) h q1.2 := frZ.tr (frZ.rf h) (frZ.no h2)
  refine Pc.ite (fun _ => ?_) (fun _ => ?_)
  · exact Pc.ret f3
  · refine Pc.bind zf_X12_fitting (fun q4 h5 => ?_)
    have f6 : frZ (fun _ _ => False) h q4.2 := frZ.tr f3 (frZ.no h5)
    exact Pc.mono (zw_X12_listen _ _ _ _ _ _ _ _) (fun _ hq => frZ.tr f6 (frZ.no hq))
theorem zf_X12_loud {n : Nat} {h : Hp} {x1 : Int32} : Pc (F_X12_loud n h x1) (fun q => frZ (fun x k => x = 263 ∨ (x = 226 ∧ (k = 55 ∨ k = 56))) h q.2) := by
  unfold F_X12_loud
  refine Pc.bind zf_X12_isLong (fun q1 h2 => ?_)
  have f3 : frZ (fun x k => x = 263 ∨ (x = 226 ∧ (k = 55 ∨ k = 56))) h q1.2 := frZ.tr (frZ.rf h) (frZ.no h2)
  refine Pc.ite (fun _ => ?_) (fun _ => ?_)
  · exact Pc.ret f3
  · refine Pc.bind zf_X12_copies (fun q4 h5 => ?_)
    have f6 : frZ (fun x k => x = 263 ∨ (x = 226 ∧ (k = 55 ∨ k = 56))) h q4 := frZ.tr f3 (frZ.sub h5 (fun x k z => by omega))
    refine Pc.bind zf_X12_loudBits (fun q7 h8 => ?_)
    have f9 : frZ (fun x k => x = 263 ∨ (x = 226 ∧ (k = 55 ∨ k = 56))) h q7.2 := frZ.tr f6 (frZ.no h8)
    exact Pc.ret f9
theorem zw_X12_lowestOf : ∀ (n : Nat) (hd : Nat) (h : Hp) (l0 : Int32) (l1 : Int32), Pc (W_X12_lowestOf n hd h l0 l1) (fun q => frZ (fun _ _ => False) h q.2) := by
  intro n
  induction n with
  | zero => intro hd h l0 l1; exact Pc.no
  | succ n ih =>
    intro hd h l0 l1
    rw [u_X12_lowestOf]
    refine Pc.chk (fun _ => ?_)
    refine Pc.ite (fun _ => ?_) (fun _ => ?_)
    · exact Pc.mono (ih _ _ _ _) (fun _ hq => frZ.tr (frZ.rf h) (frZ.no hq))
    · exact Pc.ret (frZ.rf h)
theorem zf_X12_lowestOf {n : Nat} {h : Hp} {x1 : Int32} : Pc (F_X12_lowestOf n h x1) (fun q => frZ (fun _ _ => False) h q.2) := by
  unfold F_X12_lowestOf
  exact Pc.mono (zw_X12_lowestOf _ _ _ _ _) (fun _ hq => frZ.tr (frZ.rf h) (frZ.no hq))
theorem zw_X12_meet : ∀ (n : Nat) (hd : Nat) (h : Hp) (l1 : Int32) (l2 : Int32) (l3 : Int32) (l4 : Int32), Pc (W_X12_meet n hd h l1 l2 l3 l4) (fun q => frZ (fun _ _ => False) h q.2) := by
  intro n
  induction n with
  | zero => intro hd h l1 l2 l3 l4; exact Pc.no
  | succ n ih =>
    intro hd h l1 l2 l3 l4
    rw [u_X12_meet]
    refine Pc.chk (fun _ => ?_)
    refine Pc.ite (fun _ => ?_) (fun _ => ?_)
    · exact Pc.ret (frZ.rf h)
    · refine Pc.chk (fun c2 => ?_)
      refine Pc.chk (fun c3 => ?_)
      refine Pc.ite (fun _ => ?_) (fun _ => ?_)
      · exact Pc.mono (ih _ _ _ _ _ _) (fun _ hq => frZ.tr (frZ.rf h) (frZ.no hq))
      · refine Pc.ite (fun _ => ?_) (fun _ => ?_)
        · exact Pc.ret (frZ.rf h)
        · refine Pc.chk (fun c5 => ?_)
          refine Pc.chk (fun c6 => ?_)
          refine Pc.bind zf_X12_lowestOf (fun q7 h8 => ?_)
          have f9 : frZ (fun _ _ => False) h q7.2 := frZ.tr (frZ.rf h) (frZ.no h8)
          exact Pc.ret f9
theorem zf_X12_meet {n : Nat} {h : Hp} {x1 : Int32} {x2 : Int32} {x3 : Int32} : Pc (F_X12_meet n h x1 x2 x3) (fun q => frZ (fun x k => x = 263 ∨ (267 ≤ x ∧ x ≤ 268) ∨ (x = 226 ∧ (k = 55 ∨ k = 56))) h q.2) := by
  unfold F_X12_meet
  refine Pc.bind zf_X12_isGoer (fun q1 h2 => ?_)
  have f3 : frZ (fun x k => x = 263 ∨ (267 ≤ x ∧ x ≤ 268) ∨ (x = 226 ∧ (k = 55 ∨ k = 56))) h q1.2 := frZ.tr (frZ.rf h) (frZ.no h2)
  refine Pc.ite (fun _ => ?_) (fun _ => ?_)
  · exact Pc.ret f3
  · refine Pc.bind zf_X12_isGoer (fun q4 h5 => ?_)
    have f6 : frZ (fun x k => x = 263 ∨ (267 ≤ x ∧ x ≤ 268) ∨ (x = 226 ∧ (k = 55 ∨ k = 56))) h q4.2 := frZ.tr f3 (frZ.no h5)
    refine Pc.ite (fun _ => ?_) (fun _ => ?_)
    · exact Pc.ret f6
    · refine Pc.bind zf_X12_in (fun q7 h8 => ?_)
      have f9 : frZ (fun x k => x = 263 ∨ (267 ≤ x ∧ x ≤ 268) ∨ (x = 226 ∧ (k = 55 ∨ k = 56))) h q7.2 := frZ.tr f6 (frZ.no h8)
      refine Pc.ite (fun _ => ?_) (fun _ => ?_)
      · exact Pc.ret f9
      · refine Pc.bind zf_X12_copies (fun q10 h11 => ?_)
        have f12 : frZ (fun x k => x = 263 ∨ (267 ≤ x ∧ x ≤ 268) ∨ (x = 226 ∧ (k = 55 ∨ k = 56))) h q10 := frZ.tr f9 (frZ.sub h11 (fun x k z => by omega))
        refine Pc.chk (fun c13 => ?_)
        refine Pc.bind zf_X12_fillsReach (fun q14 h15 => ?_)
        have f16 : frZ (fun x k => x = 263 ∨ (267 ≤ x ∧ x ≤ 268) ∨ (x = 226 ∧ (k = 55 ∨ k = 56))) h q14 := frZ.tr f12 (frZ.sub h15 (fun x k z => by omega))
        refine Pc.chk (fun c17 => ?_)
        refine Pc.bind zf_X12_fillsReach (fun q18 h19 => ?_)
        have f20 : frZ (fun x k => x = 263 ∨ (267 ≤ x ∧ x ≤ 268) ∨ (x = 226 ∧ (k = 55 ∨ k = 56))) h q18 := frZ.tr f16 (frZ.sub h19 (fun x k z => by omega))
        exact Pc.mono (zw_X12_meet _ _ _ _ _ _ _) (fun _ hq => frZ.tr f20 (frZ.no hq))
theorem zf_X12_mow {n : Nat} {h : Hp} {x1 : Int32} : Pc (F_X12_mow n h x1) (fun q => frZ (fun x k => (260 ≤ x ∧ x ≤ 263) ∨ x = 266 ∨ (x = 226 ∧ (k = 52 ∨ k = 55 ∨ k = 56 ∨ k = 59))) h q.2) := by
  unfold F_X12_mow
  refine Pc.bind zf_X12_isCell (fun q1 h2 => ?_)
  have f3 : frZ (fun x k => (260 ≤ x ∧ x ≤ 263) ∨ x = 266 ∨ (x = 226 ∧ (k = 52 ∨ k = 55 ∨ k = 56 ∨ k = 59))) h q1.2 := frZ.tr (frZ.rf h) (frZ.no h2)
  refine Pc.ite (fun _ => ?_) (fun _ => ?_)
  · exact Pc.ret f3
  · refine Pc.chk (fun c4 => ?_)
    refine Pc.ite (fun _ => ?_) (fun _ => ?_)
    · exact Pc.ret f3
    · refine Pc.bind zf_X12_copies (fun q5 h6 => ?_)
      have f7 : frZ (fun x k => (260 ≤ x ∧ x ≤ 263) ∨ x = 266 ∨ (x = 226 ∧ (k = 52 ∨ k = 55 ∨ k = 56 ∨ k = 59))) h q5 := frZ.tr f3 (frZ.sub h6 (fun x k z => by omega))
      refine Pc.bind zf_X12_costsOf (fun q8 h9 => ?_)
      have f10 : frZ (fun x k => (260 ≤ x ∧ x ≤ 263) ∨ x = 266 ∨ (x = 226 ∧ (k = 52 ∨ k = 55 ∨ k = 56 ∨ k = 59))) h q8.2 := frZ.tr f7 (frZ.sub h9 (fun x k z => by omega))
      refine Pc.chk (fun c11 => ?_)
      refine Pc.chk (fun c12 => ?_)
      refine Pc.bind zf_X12_records (fun q13 h14 => ?_)
      have f15 : frZ (fun x k => (260 ≤ x ∧ x ≤ 263) ∨ x = 266 ∨ (x = 226 ∧ (k = 52 ∨ k = 55 ∨ k = 56 ∨ k = 59))) h q13 := frZ.tr (frZ.w (frZ.w (frZ.w f10 (by omega)) (by omega)) (by omega)) (frZ.sub h14 (fun x k z => by omega))
      exact Pc.ret f15
theorem zw_X12_tunesBy : ∀ (n : Nat) (hd : Nat) (h : Hp) (l1 : Int32) (l2 : Int32) (l3 : Int32) (l4 : Int32), Pc (W_X12_tunesBy n hd h l1 l2 l3 l4) (fun q => frZ (fun _ _ => False) h q.2) := by
  intro n
  induction n with
  | zero => intro hd h l1 l2 l3 l4; exact Pc.no
  | succ n ih =>
    intro hd h l1 l2 l3 l4
    rw [u_X12_tunesBy]
    refine Pc.chk (fun _ => ?_)
    refine Pc.bind zf_X12_cells (fun q2 h3 => ?_)
    have f4 : frZ (fun _ _ => False) h q2.2 := frZ.tr (frZ.rf h) (frZ.no h3)
    refine Pc.ite (fun _ => ?_) (fun _ => ?_)
    · exact Pc.ret f4
    · refine Pc.chk (fun c5 => ?_)
      refine Pc.ite (fun _ => ?_) (fun _ => ?_)
      · exact Pc.mono (ih _ _ _ _ _ _) (fun _ hq => frZ.tr f4 (frZ.no hq))
      · exact Pc.mono (ih _ _ _ _ _ _) (fun _ hq => frZ.tr f4 (frZ.no hq))
theorem zf_X12_tunesBy {n : Nat} {h : Hp} {x1 : Int32} : Pc (F_X12_tunesBy n h x1) (fun q => frZ (fun _ _ => False) h q.2) := by
  unfold F_X12_tunesBy
  exact Pc.mono (zw_X12_tunesBy _ _ _ _ _ _ _) (fun _ hq => frZ.tr (frZ.rf h) (frZ.no hq))
theorem zw_X12_isWayWithout : ∀ (n : Nat) (hd : Nat) (h : Hp) (l1 : Int32) (l2 : Int32) (l3 : Int32) (l4 : Int32) (l5 : Int32), Pc (W_X12_isWayWithout n hd h l1 l2 l3 l4 l5) (fun q => frZ (fun x k => x = 263 ∨ x = 267) h q.2) := by
  intro n
  induction n with
  | zero => intro hd h l1 l2 l3 l4 l5; exact Pc.no
  | succ n ih =>
    intro hd h l1 l2 l3 l4 l5
    rw [u_X12_isWayWithout]
    refine Pc.chk (fun _ => ?_)
    refine Pc.bind zf_X12_cells (fun q2 h3 => ?_)
    have f4 : frZ (fun x k => x = 263 ∨ x = 267) h q2.2 := frZ.tr (frZ.rf h) (frZ.no h3)
    refine Pc.ite (fun _ => ?_) (fun _ => ?_)
    · refine Pc.bind zf_X12_fillsReach (fun q5 h6 => ?_)
      have f7 : frZ (fun x k => x = 263 ∨ x = 267) h q5 := frZ.tr f4 (frZ.sub h6 (fun x k z => by omega))
      refine Pc.bind zf_X12_firstAt (fun q8 h9 => ?_)
      have f10 : frZ (fun x k => x = 263 ∨ x = 267) h q8.2 := frZ.tr f7 (frZ.no h9)
      refine Pc.ite (fun _ => ?_) (fun _ => ?_)
      · exact Pc.ret f10
      · exact Pc.ret f10
    · refine Pc.ite (fun _ => ?_) (fun _ => ?_)
      · refine Pc.chk (fun c11 => ?_)
        exact Pc.mono (ih _ _ _ _ _ _ _) (fun _ hq => frZ.tr (frZ.w f4 (by omega)) (frZ.sub hq (fun x k z => by omega)))
      · exact Pc.mono (ih _ _ _ _ _ _ _) (fun _ hq => frZ.tr f4 (frZ.sub hq (fun x k z => by omega)))
theorem zf_X12_isWayWithout {n : Nat} {h : Hp} {x1 : Int32} {x2 : Int32} {x3 : Int32} {x4 : Int32} : Pc (F_X12_isWayWithout n h x1 x2 x3 x4) (fun q => frZ (fun x k => x = 263 ∨ x = 267 ∨ (x = 226 ∧ (k = 55 ∨ k = 56))) h q.2) := by
  unfold F_X12_isWayWithout
  refine Pc.bind zf_X12_copies (fun q1 h2 => ?_)
  have f3 : frZ (fun x k => x = 263 ∨ x = 267 ∨ (x = 226 ∧ (k = 55 ∨ k = 56))) h q1 := frZ.tr (frZ.rf h) (frZ.sub h2 (fun x k z => by omega))
  exact Pc.mono (zw_X12_isWayWithout _ _ _ _ _ _ _ _) (fun _ hq => frZ.tr f3 (frZ.sub hq (fun x k z => by omega)))
theorem zw_X12_fewestMown : ∀ (n : Nat) (hd : Nat) (h : Hp) (l1 : Int32) (l2 : Int32) (l3 : Int32) (l4 : Int32) (l5 : Int32) (l6 : Int32), Pc (W_X12_fewestMown n hd h l1 l2 l3 l4 l5 l6) (fun q => frZ (fun x k => x = 263 ∨ x = 267 ∨ (x = 226 ∧ (k = 55 ∨ k = 56))) h q.2) := by
  intro n
  induction n with
  | zero => intro hd h l1 l2 l3 l4 l5 l6; exact Pc.no
  | succ n ih =>
    intro hd h l1 l2 l3 l4 l5 l6
    rw [u_X12_fewestMown]
    refine Pc.chk (fun _ => ?_)
    refine Pc.ite (fun _ => ?_) (fun _ => ?_)
    · exact Pc.ret (frZ.rf h)
    · refine Pc.bind zf_X12_tunesBy (fun q2 h3 => ?_)
      have f4 : frZ (fun x k => x = 263 ∨ x = 267 ∨ (x = 226 ∧ (k = 55 ∨ k = 56))) h q2.2 := frZ.tr (frZ.rf h) (frZ.no h3)
      refine Pc.ite (fun _ => ?_) (fun _ => ?_)
      · refine Pc.bind zf_X12_isWayWithout (fun q5 h6 => ?_)
        have f7 : frZ (fun x k => x = 263 ∨ x = 267 ∨ (x = 226 ∧ (k = 55 ∨ k = 56))) h q5.2 := frZ.tr f4 (frZ.sub h6 (fun x k z => by omega))
        refine Pc.ite (fun _ => ?_) (fun _ => ?_)
        · exact Pc.mono (ih _ _ _ _ _ _ _ _) (fun _ hq => frZ.tr f7 (frZ.sub hq (fun x k z => by omega)))
        · exact Pc.mono (ih _ _ _ _ _ _ _ _) (fun _ hq => frZ.tr f7 (frZ.sub hq (fun x k z => by omega)))
      · refine Pc.bind zf_X12_bits (fun q10 h11 => ?_)
        have f12 : frZ (fun x k => x = 263 ∨ x = 267 ∨ (x = 226 ∧ (k = 55 ∨ k = 56))) h q10.2 := frZ.tr f4 (frZ.no h11)
        refine Pc.bind zf_X12_bits (fun q13 h14 => ?_)
        have f15 : frZ (fun x k => x = 263 ∨ x = 267 ∨ (x = 226 ∧ (k = 55 ∨ k = 56))) h q13.2 := frZ.tr f12 (frZ.no h14)
        refine Pc.ite (fun _ => ?_) (fun _ => ?_)
        · exact Pc.mono (ih _ _ _ _ _ _ _ _) (fun _ hq => frZ.tr f15 (frZ.sub hq (fun x k z => by omega)))
        · refine Pc.bind zf_X12_isWayWithout (fun q17 h18 => ?_)
          have f19 : frZ (fun x k => x = 263 ∨ x = 267 ∨ (x = 226 ∧ (k = 55 ∨ k = 56))) h q17.2 := frZ.tr f15 (frZ.sub h18 (fun x k z => by omega))
          refine Pc.ite (fun _ => ?_) (fun _ => ?_)
          · exact Pc.mono (ih _ _ _ _ _ _ _ _) (fun _ hq => frZ.tr f19 (frZ.sub hq (fun x k z => by omega)))
          · exact Pc.mono (ih _ _ _ _ _ _ _ _) (fun _ hq => frZ.tr f19 (frZ.sub hq (fun x k z => by omega)))
theorem zf_X12_fewestMown {n : Nat} {h : Hp} {x1 : Int32} {x2 : Int32} {x3 : Int32} : Pc (F_X12_fewestMown n h x1 x2 x3) (fun q => frZ (fun x k => x = 263 ∨ x = 267 ∨ (x = 226 ∧ (k = 55 ∨ k = 56))) h q.2) := by
  unfold F_X12_fewestMown
  refine Pc.bind zf_X12_copies (fun q1 h2 => ?_)
  have f3 : frZ (fun x k => x = 263 ∨ x = 267 ∨ (x = 226 ∧ (k = 55 ∨ k = 56))) h q1 := frZ.tr (frZ.rf h) (frZ.sub h2 (fun x k z => by omega))
  refine Pc.bind zf_X12_tuneBits (fun q4 h5 => ?_)
  have f6 : frZ (fun x k => x = 263 ∨ x = 267 ∨ (x = 226 ∧ (k = 55 ∨ k = 56))) h q4.2 := frZ.tr f3 (frZ.no h5)
  refine Pc.bind zf_X12_bits (fun q7 h8 => ?_)
  have f9 : frZ (fun x k => x = 263 ∨ x = 267 ∨ (x = 226 ∧ (k = 55 ∨ k = 56))) h q7.2 := frZ.tr f6 (frZ.no h8)
  exact Pc.mono (zw_X12_fewestMown _ _ _ _ _ _ _ _ _) (fun _ hq => frZ.tr f9 (frZ.sub hq (fun x k z => by omega)))
theorem zf_X12_mows {n : Nat} {h : Hp} {x1 : Int32} {x2 : Int32} {x3 : Int32} {x4 : Int32} : Pc (F_X12_mows n h x1 x2 x3 x4) (fun q => frZ (fun x k => x = 263 ∨ x = 267 ∨ (x = 226 ∧ (k = 55 ∨ k = 56))) h q.2) := by
  unfold F_X12_mows
  refine Pc.bind zf_X12_areFree (fun q1 h2 => ?_)
  have f3 : frZ (fun x k => x = 263 ∨ x = 267 ∨ (x = 226 ∧ (k = 55 ∨ k = 56))) h q1.2 := frZ.tr (frZ.rf h) (frZ.no h2)
  refine Pc.ite (fun _ => ?_) (fun _ => ?_)
  · exact Pc.ret f3
  · refine Pc.bind zf_X12_isLong (fun q4 h5 => ?_)
    have f6 : frZ (fun x k => x = 263 ∨ x = 267 ∨ (x = 226 ∧ (k = 55 ∨ k = 56))) h q4.2 := frZ.tr f3 (frZ.no h5)
    refine Pc.ite (fun _ => ?_) (fun _ => ?_)
    · exact Pc.ret f6
    · refine Pc.bind zf_X12_in (fun q7 h8 => ?_)
      have f9 : frZ (fun x k => x = 263 ∨ x = 267 ∨ (x = 226 ∧ (k = 55 ∨ k = 56))) h q7.2 := frZ.tr f6 (frZ.no h8)
      refine Pc.ite (fun _ => ?_) (fun _ => ?_)
      · exact Pc.ret f9
      · refine Pc.bind zf_X12_fewestMown (fun q10 h11 => ?_)
        have f12 : frZ (fun x k => x = 263 ∨ x = 267 ∨ (x = 226 ∧ (k = 55 ∨ k = 56))) h q10.2 := frZ.tr f9 (frZ.sub h11 (fun x k z => by omega))
        refine Pc.ite (fun _ => ?_) (fun _ => ?_)
        · exact Pc.ret f12
        · refine Pc.ite (fun _ => ?_) (fun _ => ?_)
          · exact Pc.ret f12
          · refine Pc.bind zf_X12_bits (fun q13 h14 => ?_)
            have f15 : frZ (fun x k => x = 263 ∨ x = 267 ∨ (x = 226 ∧ (k = 55 ∨ k = 56))) h q13.2 := frZ.tr f12 (frZ.no h14)
            exact Pc.ret f15
theorem zf_X12_copiesStill {n : Nat} {h : Hp} : Pc (F_X12_copiesStill n h) (fun q => frZ (fun x k => x = 263 ∨ (x = 226 ∧ (k = 55 ∨ k = 56))) h q) := by
  unfold F_X12_copiesStill
  refine Pc.bind zf_X12_copies (fun q1 h2 => ?_)
  have f3 : frZ (fun x k => x = 263 ∨ (x = 226 ∧ (k = 55 ∨ k = 56))) h q1 := frZ.tr (frZ.rf h) (frZ.sub h2 (fun x k z => by omega))
  exact Pc.ret (frZ.w f3 (by omega))
theorem zw_X12_never : ∀ (n : Nat) (hd : Nat) (h : Hp) (l1 : Int32) (l2 : Int32) (l3 : Int32), Pc (W_X12_never n hd h l1 l2 l3) (fun q => frZ (fun x k => (260 ≤ x ∧ x ≤ 261) ∨ x = 263 ∨ x = 265 ∨ (x = 226 ∧ (k = 52))) h q.2) := by
  intro n
  induction n with
  | zero => intro hd h l1 l2 l3; exact Pc.no
  | succ n ih =>
    intro hd h l1 l2 l3
    rw [u_X12_never]
    refine Pc.chk (fun _ => ?_)
    refine Pc.ite (fun _ => ?_) (fun _ => ?_)
    · exact Pc.ret (frZ.rf h)
    · refine Pc.bind zf_X12_beatGoes (fun q2 h3 => ?_)
      have f4 : frZ (fun x k => (260 ≤ x ∧ x ≤ 261) ∨ x = 263 ∨ x = 265 ∨ (x = 226 ∧ (k = 52))) h q2 := frZ.tr (frZ.rf h) (frZ.sub h3 (fun x k z => by omega))
      refine Pc.bind zf_X12_goerBits (fun q5 h6 => ?_)
      have f7 : frZ (fun x k => (260 ≤ x ∧ x ≤ 261) ∨ x = 263 ∨ x = 265 ∨ (x = 226 ∧ (k = 52))) h q5.2 := frZ.tr f4 (frZ.no h6)
      exact Pc.mono (ih _ _ _ _ _) (fun _ hq => frZ.tr f7 (frZ.sub hq (fun x k z => by omega)))
theorem zf_X12_never {n : Nat} {h : Hp} {x1 : Int32} : Pc (F_X12_never n h x1) (fun q => frZ (fun x k => (260 ≤ x ∧ x ≤ 261) ∨ x = 263 ∨ x = 265 ∨ (x = 226 ∧ (k = 52 ∨ k = 55 ∨ k = 56))) h q.2) := by
  unfold F_X12_never
  refine Pc.bind zf_X12_isLong (fun q1 h2 => ?_)
  have f3 : frZ (fun x k => (260 ≤ x ∧ x ≤ 261) ∨ x = 263 ∨ x = 265 ∨ (x = 226 ∧ (k = 52 ∨ k = 55 ∨ k = 56))) h q1.2 := frZ.tr (frZ.rf h) (frZ.no h2)
  refine Pc.ite (fun _ => ?_) (fun _ => ?_)
  · exact Pc.ret f3
  · refine Pc.bind zf_X12_copiesStill (fun q4 h5 => ?_)
    have f6 : frZ (fun x k => (260 ≤ x ∧ x ≤ 261) ∨ x = 263 ∨ x = 265 ∨ (x = 226 ∧ (k = 52 ∨ k = 55 ∨ k = 56))) h q4 := frZ.tr f3 (frZ.sub h5 (fun x k z => by omega))
    refine Pc.bind zf_X12_cells (fun q7 h8 => ?_)
    have f9 : frZ (fun x k => (260 ≤ x ∧ x ≤ 261) ∨ x = 263 ∨ x = 265 ∨ (x = 226 ∧ (k = 52 ∨ k = 55 ∨ k = 56))) h q7.2 := frZ.tr f6 (frZ.no h8)
    refine Pc.bind zf_X12_goerBits (fun q10 h11 => ?_)
    have f12 : frZ (fun x k => (260 ≤ x ∧ x ≤ 261) ∨ x = 263 ∨ x = 265 ∨ (x = 226 ∧ (k = 52 ∨ k = 55 ∨ k = 56))) h q10.2 := frZ.tr f9 (frZ.no h11)
    exact Pc.mono (zw_X12_never _ _ _ _ _ _) (fun _ hq => frZ.tr f12 (frZ.sub hq (fun x k z => by omega)))
theorem zw_X12_next : ∀ (n : Nat) (hd : Nat) (h : Hp) (l1 : Int32) (l2 : Int32), Pc (W_X12_next n hd h l1 l2) (fun q => frZ (fun _ _ => False) h q.2) := by
  intro n
  induction n with
  | zero => intro hd h l1 l2; exact Pc.no
  | succ n ih =>
    intro hd h l1 l2
    rw [u_X12_next]
    refine Pc.chk (fun _ => ?_)
    refine Pc.bind zf_X12_isLoud (fun q2 h3 => ?_)
    have f4 : frZ (fun _ _ => False) h q2.2 := frZ.tr (frZ.rf h) (frZ.no h3)
    refine Pc.ite (fun _ => ?_) (fun _ => ?_)
    · exact Pc.mono (ih _ _ _ _) (fun _ hq => frZ.tr f4 (frZ.no hq))
    · exact Pc.ret f4
theorem zf_X12_next {n : Nat} {h : Hp} {x1 : Int32} : Pc (F_X12_next n h x1) (fun q => frZ (fun x k => x = 263 ∨ (x = 226 ∧ (k = 55 ∨ k = 56))) h q.2) := by
  unfold F_X12_next
  refine Pc.bind zf_X12_isCell (fun q1 h2 => ?_)
  have f3 : frZ (fun x k => x = 263 ∨ (x = 226 ∧ (k = 55 ∨ k = 56))) h q1.2 := frZ.tr (frZ.rf h) (frZ.no h2)
  refine Pc.ite (fun _ => ?_) (fun _ => ?_)
  · exact Pc.ret f3
  · refine Pc.chk (fun c4 => ?_)
    refine Pc.ite (fun _ => ?_) (fun _ => ?_)
    · exact Pc.ret f3
    · refine Pc.bind zf_X12_copies (fun q5 h6 => ?_)
      have f7 : frZ (fun x k => x = 263 ∨ (x = 226 ∧ (k = 55 ∨ k = 56))) h q5 := frZ.tr f3 (frZ.sub h6 (fun x k z => by omega))
      exact Pc.mono (zw_X12_next _ _ _ _ _) (fun _ hq => frZ.tr f7 (frZ.no hq))
theorem zf_X12_off {n : Nat} {h : Hp} {x1 : Int32} {x2 : Int32} : Pc (F_X12_off n h x1 x2) (fun q => frZ (fun _ _ => False) h q.2) := by
  unfold F_X12_off
  refine Pc.ite (fun _ => ?_) (fun _ => ?_)
  · exact Pc.ret (frZ.rf h)
  · exact Pc.ret (frZ.rf h)
theorem zf_X12_unlike {n : Nat} {h : Hp} {x1 : Int32} {x2 : Int32} : Pc (F_X12_unlike n h x1 x2) (fun q => frZ (fun _ _ => False) h q.2) := by
  unfold F_X12_unlike
  refine Pc.chk (fun c1 => ?_)
  refine Pc.chk (fun c2 => ?_)
  refine Pc.ite (fun _ => ?_) (fun _ => ?_)
  · exact Pc.no
  · refine Pc.chk (fun c3 => ?_)
    refine Pc.ite (fun _ => ?_) (fun _ => ?_)
    · exact Pc.no
    · refine Pc.bind zf_X12_off (fun q4 h5 => ?_)
      have f6 : frZ (fun _ _ => False) h q4.2 := frZ.tr (frZ.rf h) (frZ.no h5)
      refine Pc.chk (fun c7 => ?_)
      refine Pc.ite (fun _ => ?_) (fun _ => ?_)
      · exact Pc.no
      · refine Pc.chk (fun c8 => ?_)
        refine Pc.ite (fun _ => ?_) (fun _ => ?_)
        · exact Pc.no
        · refine Pc.bind zf_X12_off (fun q9 h10 => ?_)
          have f11 : frZ (fun _ _ => False) h q9.2 := frZ.tr f6 (frZ.no h10)
          exact Pc.ret f11
theorem zf_X12_pairedWith {n : Nat} {h : Hp} {x1 : Int32} {x2 : Int32} {x3 : Int32} : Pc (F_X12_pairedWith n h x1 x2 x3) (fun q => frZ (fun _ _ => False) h q.2) := by
  unfold F_X12_pairedWith
  refine Pc.bind zf_X12_unlike (fun q1 h2 => ?_)
  have f3 : frZ (fun _ _ => False) h q1.2 := frZ.tr (frZ.rf h) (frZ.no h2)
  refine Pc.chk (fun c4 => ?_)
  exact Pc.ret f3
theorem zw_X12_fillsPaired : ∀ (n : Nat) (hd : Nat) (h : Hp) (l1 : Int32) (l2 : Int32) (l3 : Int32) (l4 : Int32), Pc (W_X12_fillsPaired n hd h l1 l2 l3 l4) (fun q => frZ (fun x k => x = 270) h q) := by
  intro n
  induction n with
  | zero => intro hd h l1 l2 l3 l4; exact Pc.no
  | succ n ih =>
    intro hd h l1 l2 l3 l4
    rw [u_X12_fillsPaired]
    refine Pc.ite (fun _ => ?_) (fun _ => ?_)
    · refine Pc.chk (fun c1 => ?_)
      refine Pc.ite (fun _ => ?_) (fun _ => ?_)
      · exact Pc.ret (frZ.rf h)
      · refine Pc.bind zf_X12_lowestOf (fun q2 h3 => ?_)
        have f4 : frZ (fun x k => x = 270) h q2.2 := frZ.tr (frZ.rf h) (frZ.no h3)
        refine Pc.chk (fun c5 => ?_)
        refine Pc.chk (fun c6 => ?_)
        exact Pc.mono (ih _ _ _ _ _ _) (fun _ hq => frZ.tr (frZ.w f4 (by omega)) (frZ.sub hq (fun x k z => by omega)))
    · refine Pc.chk (fun _ => ?_)
      refine Pc.ite (fun _ => ?_) (fun _ => ?_)
      · exact Pc.mono (ih _ _ _ _ _ _) (fun _ hq => frZ.tr (frZ.rf h) (frZ.sub hq (fun x k z => by omega)))
      · refine Pc.ite (fun _ => ?_) (fun _ => ?_)
        · refine Pc.bind zf_X12_pairedWith (fun q10 h11 => ?_)
          have f12 : frZ (fun x k => x = 270) h q10.2 := frZ.tr (frZ.rf h) (frZ.no h11)
          refine Pc.chk (fun c13 => ?_)
          refine Pc.ite (fun _ => ?_) (fun _ => ?_)
          · exact Pc.mono (ih _ _ _ _ _ _) (fun _ hq => frZ.tr f12 (frZ.sub hq (fun x k z => by omega)))
          · refine Pc.bind zf_X12_pairedWith (fun q15 h16 => ?_)
            have f17 : frZ (fun x k => x = 270) h q15.2 := frZ.tr f12 (frZ.no h16)
            refine Pc.chk (fun c18 => ?_)
            exact Pc.mono (ih _ _ _ _ _ _) (fun _ hq => frZ.tr (frZ.w f17 (by omega)) (frZ.sub hq (fun x k z => by omega)))
        · exact Pc.mono (ih _ _ _ _ _ _) (fun _ hq => frZ.tr (frZ.rf h) (frZ.sub hq (fun x k z => by omega)))
theorem zf_X12_fillsPaired {n : Nat} {h : Hp} : Pc (F_X12_fillsPaired n h) (fun q => frZ (fun x k => x = 270) h q) := by
  unfold F_X12_fillsPaired
  exact Pc.mono (zw_X12_fillsPaired _ _ _ _ _ _ _) (fun _ hq => frZ.tr (frZ.w (frZ.rf h) (by omega)) (frZ.sub hq (fun x k z => by omega)))
theorem zw_X12_pairedOf : ∀ (n : Nat) (hd : Nat) (h : Hp) (l1 : Int32) (l2 : Int32) (l3 : Int32) (l4 : Int32), Pc (W_X12_pairedOf n hd h l1 l2 l3 l4) (fun q => frZ (fun _ _ => False) h q.2) := by
  intro n
  induction n with
  | zero => intro hd h l1 l2 l3 l4; exact Pc.no
  | succ n ih =>
    intro hd h l1 l2 l3 l4
    rw [u_X12_pairedOf]
    refine Pc.chk (fun _ => ?_)
    refine Pc.ite (fun _ => ?_) (fun _ => ?_)
    · exact Pc.ret (frZ.rf h)
    · refine Pc.ite (fun _ => ?_) (fun _ => ?_)
      · refine Pc.bind zf_X12_pairedWith (fun q2 h3 => ?_)
        have f4 : frZ (fun _ _ => False) h q2.2 := frZ.tr (frZ.rf h) (frZ.no h3)
        refine Pc.chk (fun c5 => ?_)
        refine Pc.ite (fun _ => ?_) (fun _ => ?_)
        · exact Pc.ret f4
        · exact Pc.mono (ih _ _ _ _ _ _) (fun _ hq => frZ.tr f4 (frZ.no hq))
      · exact Pc.mono (ih _ _ _ _ _ _) (fun _ hq => frZ.tr (frZ.rf h) (frZ.no hq))
theorem zf_X12_pairedOf {n : Nat} {h : Hp} {x1 : Int32} : Pc (F_X12_pairedOf n h x1) (fun q => frZ (fun _ _ => False) h q.2) := by
  unfold F_X12_pairedOf
  refine Pc.bind zf_X12_lowestOf (fun q1 h2 => ?_)
  have f3 : frZ (fun _ _ => False) h q1.2 := frZ.tr (frZ.rf h) (frZ.no h2)
  exact Pc.mono (zw_X12_pairedOf _ _ _ _ _ _ _) (fun _ hq => frZ.tr f3 (frZ.no hq))
theorem zw_X12_pairs : ∀ (n : Nat) (hd : Nat) (h : Hp) (l1 : Int32) (l2 : Int32), Pc (W_X12_pairs n hd h l1 l2) (fun q => frZ (fun _ _ => False) h q.2) := by
  intro n
  induction n with
  | zero => intro hd h l1 l2; exact Pc.no
  | succ n ih =>
    intro hd h l1 l2
    rw [u_X12_pairs]
    refine Pc.chk (fun _ => ?_)
    refine Pc.bind zf_X12_lowestOf (fun q2 h3 => ?_)
    have f4 : frZ (fun _ _ => False) h q2.2 := frZ.tr (frZ.rf h) (frZ.no h3)
    refine Pc.bind zf_X12_pairedOf (fun q5 h6 => ?_)
    have f7 : frZ (fun _ _ => False) h q5.2 := frZ.tr f4 (frZ.no h6)
    refine Pc.ite (fun _ => ?_) (fun _ => ?_)
    · exact Pc.ret f7
    · refine Pc.ite (fun _ => ?_) (fun _ => ?_)
      · exact Pc.ret f7
      · refine Pc.ite (fun _ => ?_) (fun _ => ?_)
        · exact Pc.mono (ih _ _ _ _) (fun _ hq => frZ.tr f7 (frZ.no hq))
        · exact Pc.mono (ih _ _ _ _) (fun _ hq => frZ.tr f7 (frZ.no hq))
theorem zf_X12_pairs {n : Nat} {h : Hp} {x1 : Int32} : Pc (F_X12_pairs n h x1) (fun q => frZ (fun x k => x = 270) h q.2) := by
  unfold F_X12_pairs
  refine Pc.ite (fun _ => ?_) (fun _ => ?_)
  · refine Pc.bind zf_X12_fillsPaired (fun q1 h2 => ?_)
    have f3 : frZ (fun x k => x = 270) h q1 := frZ.tr (frZ.rf h) (frZ.sub h2 (fun x k z => by omega))
    refine Pc.chk (fun c4 => ?_)
    refine Pc.ite (fun _ => ?_) (fun _ => ?_)
    · refine Pc.chk (fun c5 => ?_)
      refine Pc.chk (fun c6 => ?_)
      exact Pc.ret f3
    · exact Pc.mono (zw_X12_pairs _ _ _ _ _) (fun _ hq => frZ.tr f3 (frZ.no hq))
  · refine Pc.bind zf_X12_isGoer (fun q8 h9 => ?_)
    have f10 : frZ (fun x k => x = 270) h q8.2 := frZ.tr (frZ.rf h) (frZ.no h9)
    refine Pc.ite (fun _ => ?_) (fun _ => ?_)
    · exact Pc.ret f10
    · refine Pc.bind zf_X12_fillsPaired (fun q11 h12 => ?_)
      have f13 : frZ (fun x k => x = 270) h q11 := frZ.tr f10 (frZ.sub h12 (fun x k z => by omega))
      refine Pc.chk (fun c14 => ?_)
      refine Pc.ite (fun _ => ?_) (fun _ => ?_)
      · refine Pc.chk (fun c15 => ?_)
        refine Pc.chk (fun c16 => ?_)
        exact Pc.ret f13
      · exact Pc.mono (zw_X12_pairs _ _ _ _ _) (fun _ hq => frZ.tr f13 (frZ.no hq))
theorem zw_X12_isParted : ∀ (n : Nat) (hd : Nat) (h : Hp) (l1 : Int32) (l2 : Int32) (l3 : Int32) (l4 : Int32) (l5 : Int32), Pc (W_X12_isParted n hd h l1 l2 l3 l4 l5) (fun q => frZ (fun _ _ => False) h q.2) := by
  intro n
  induction n with
  | zero => intro hd h l1 l2 l3 l4 l5; exact Pc.no
  | succ n ih =>
    intro hd h l1 l2 l3 l4 l5
    rw [u_X12_isParted]
    refine Pc.chk (fun _ => ?_)
    refine Pc.ite (fun _ => ?_) (fun _ => ?_)
    · refine Pc.ite (fun _ => ?_) (fun _ => ?_)
      · exact Pc.ret (frZ.rf h)
      · exact Pc.ret (frZ.rf h)
    · refine Pc.bind zf_X12_nearBits (fun q2 h3 => ?_)
      have f4 : frZ (fun _ _ => False) h q2.2 := frZ.tr (frZ.rf h) (frZ.no h3)
      refine Pc.bind zf_X12_freeBits (fun q5 h6 => ?_)
      have f7 : frZ (fun _ _ => False) h q5.2 := frZ.tr f4 (frZ.no h6)
      exact Pc.mono (ih _ _ _ _ _ _ _) (fun _ hq => frZ.tr f7 (frZ.no hq))
theorem zf_X12_isParted {n : Nat} {h : Hp} {x1 : Int32} {x2 : Int32} {x3 : Int32} : Pc (F_X12_isParted n h x1 x2 x3) (fun q => frZ (fun _ _ => False) h q.2) := by
  unfold F_X12_isParted
  exact Pc.mono (zw_X12_isParted _ _ _ _ _ _ _ _) (fun _ hq => frZ.tr (frZ.rf h) (frZ.no hq))
theorem zf_X12_isOther {n : Nat} {h : Hp} {x1 : Int32} {x2 : Int32} {x3 : Int32} : Pc (F_X12_isOther n h x1 x2 x3) (fun q => frZ (fun _ _ => False) h q.2) := by
  unfold F_X12_isOther
  refine Pc.ite (fun _ => ?_) (fun _ => ?_)
  · exact Pc.ret (frZ.rf h)
  · refine Pc.ite (fun _ => ?_) (fun _ => ?_)
    · exact Pc.ret (frZ.rf h)
    · refine Pc.bind zf_X12_isRoped (fun q1 h2 => ?_)
      have f3 : frZ (fun _ _ => False) h q1.2 := frZ.tr (frZ.rf h) (frZ.no h2)
      refine Pc.ite (fun _ => ?_) (fun _ => ?_)
      · exact Pc.ret f3
      · exact Pc.ret f3
theorem zw_X12_part : ∀ (n : Nat) (hd : Nat) (h : Hp) (l1 : Int32) (l2 : Int32) (l3 : Int32) (l4 : Int32) (l5 : Int32) (l6 : Int32), Pc (W_X12_part n hd h l1 l2 l3 l4 l5 l6) (fun q => frZ (fun _ _ => False) h q.2) := by
  intro n
  induction n with
  | zero => intro hd h l1 l2 l3 l4 l5 l6; exact Pc.no
  | succ n ih =>
    intro hd h l1 l2 l3 l4 l5 l6
    rw [u_X12_part]
    refine Pc.ite (fun _ => ?_) (fun _ => ?_)
    · refine Pc.bind zf_X12_cells (fun q1 h2 => ?_)
      have f3 : frZ (fun _ _ => False) h q1.2 := frZ.tr (frZ.rf h) (frZ.no h2)
      refine Pc.ite (fun _ => ?_) (fun _ => ?_)
      · exact Pc.ret f3
      · refine Pc.bind zf_X12_isOther (fun q4 h5 => ?_)
        have f6 : frZ (fun _ _ => False) h q4.2 := frZ.tr f3 (frZ.no h5)
        refine Pc.ite (fun _ => ?_) (fun _ => ?_)
        · exact Pc.mono (ih _ _ _ _ _ _ _ _) (fun _ hq => frZ.tr f6 (frZ.no hq))
        · refine Pc.bind zf_X12_isParted (fun q8 h9 => ?_)
          have f10 : frZ (fun _ _ => False) h q8.2 := frZ.tr f6 (frZ.no h9)
          refine Pc.ite (fun _ => ?_) (fun _ => ?_)
          · exact Pc.mono (ih _ _ _ _ _ _ _ _) (fun _ hq => frZ.tr f10 (frZ.no hq))
          · exact Pc.ret f10
    · refine Pc.ite (fun _ => ?_) (fun _ => ?_)
      · refine Pc.ite (fun _ => ?_) (fun _ => ?_)
        · exact Pc.mono (ih _ _ _ _ _ _ _ _) (fun _ hq => frZ.tr (frZ.rf h) (frZ.no hq))
        · refine Pc.bind zf_X12_isOther (fun q13 h14 => ?_)
          have f15 : frZ (fun _ _ => False) h q13.2 := frZ.tr (frZ.rf h) (frZ.no h14)
          refine Pc.ite (fun _ => ?_) (fun _ => ?_)
          · exact Pc.mono (ih _ _ _ _ _ _ _ _) (fun _ hq => frZ.tr f15 (frZ.no hq))
          · refine Pc.ite (fun _ => ?_) (fun _ => ?_)
            · exact Pc.mono (ih _ _ _ _ _ _ _ _) (fun _ hq => frZ.tr f15 (frZ.no hq))
            · refine Pc.bind zf_X12_isParted (fun q18 h19 => ?_)
              have f20 : frZ (fun _ _ => False) h q18.2 := frZ.tr f15 (frZ.no h19)
              refine Pc.ite (fun _ => ?_) (fun _ => ?_)
              · exact Pc.mono (ih _ _ _ _ _ _ _ _) (fun _ hq => frZ.tr f20 (frZ.no hq))
              · exact Pc.mono (ih _ _ _ _ _ _ _ _) (fun _ hq => frZ.tr f20 (frZ.no hq))
      · refine Pc.chk (fun _ => ?_)
        refine Pc.ite (fun _ => ?_) (fun _ => ?_)
        · exact Pc.mono (ih _ _ _ _ _ _ _ _) (fun _ hq => frZ.tr (frZ.rf h) (frZ.no hq))
        · refine Pc.ite (fun _ => ?_) (fun _ => ?_)
          · exact Pc.mono (ih _ _ _ _ _ _ _ _) (fun _ hq => frZ.tr (frZ.rf h) (frZ.no hq))
          · refine Pc.bind zf_X12_isOther (fun q26 h27 => ?_)
            have f28 : frZ (fun _ _ => False) h q26.2 := frZ.tr (frZ.rf h) (frZ.no h27)
            refine Pc.ite (fun _ => ?_) (fun _ => ?_)
            · exact Pc.mono (ih _ _ _ _ _ _ _ _) (fun _ hq => frZ.tr f28 (frZ.no hq))
            · refine Pc.bind zf_X12_isParted (fun q30 h31 => ?_)
              have f32 : frZ (fun _ _ => False) h q30.2 := frZ.tr f28 (frZ.no h31)
              refine Pc.ite (fun _ => ?_) (fun _ => ?_)
              · exact Pc.mono (ih _ _ _ _ _ _ _ _) (fun _ hq => frZ.tr f32 (frZ.no hq))
              · exact Pc.mono (ih _ _ _ _ _ _ _ _) (fun _ hq => frZ.tr f32 (frZ.no hq))
theorem zf_X12_part {n : Nat} {h : Hp} {x1 : Int32} {x2 : Int32} : Pc (F_X12_part n h x1 x2) (fun q => frZ (fun x k => x = 263 ∨ (x = 226 ∧ (k = 55 ∨ k = 56))) h q.2) := by
  unfold F_X12_part
  refine Pc.bind zf_X12_areFree (fun q1 h2 => ?_)
  have f3 : frZ (fun x k => x = 263 ∨ (x = 226 ∧ (k = 55 ∨ k = 56))) h q1.2 := frZ.tr (frZ.rf h) (frZ.no h2)
  refine Pc.ite (fun _ => ?_) (fun _ => ?_)
  · exact Pc.ret f3
  · refine Pc.bind zf_X12_copies (fun q4 h5 => ?_)
    have f6 : frZ (fun x k => x = 263 ∨ (x = 226 ∧ (k = 55 ∨ k = 56))) h q4 := frZ.tr f3 (frZ.sub h5 (fun x k z => by omega))
    refine Pc.bind zf_X12_nearBits (fun q7 h8 => ?_)
    have f9 : frZ (fun x k => x = 263 ∨ (x = 226 ∧ (k = 55 ∨ k = 56))) h q7.2 := frZ.tr f6 (frZ.no h8)
    refine Pc.ite (fun _ => ?_) (fun _ => ?_)
    · exact Pc.ret f9
    · refine Pc.bind zf_X12_isParted (fun q10 h11 => ?_)
      have f12 : frZ (fun x k => x = 263 ∨ (x = 226 ∧ (k = 55 ∨ k = 56))) h q10.2 := frZ.tr f9 (frZ.no h11)
      refine Pc.ite (fun _ => ?_) (fun _ => ?_)
      · exact Pc.mono (zw_X12_part _ _ _ _ _ _ _ _ _) (fun _ hq => frZ.tr f12 (frZ.no hq))
      · exact Pc.ret f12
theorem zw_X12_greatest : ∀ (n : Nat) (hd : Nat) (h : Hp) (l0 : Int32) (l1 : Int32) (l2 : Int32) (l3 : Int32), Pc (W_X12_greatest n hd h l0 l1 l2 l3) (fun q => frZ (fun _ _ => False) h q.2) := by
  intro n
  induction n with
  | zero => intro hd h l0 l1 l2 l3; exact Pc.no
  | succ n ih =>
    intro hd h l0 l1 l2 l3
    rw [u_X12_greatest]
    refine Pc.chk (fun _ => ?_)
    refine Pc.ite (fun _ => ?_) (fun _ => ?_)
    · exact Pc.ret (frZ.rf h)
    · refine Pc.ite (fun _ => ?_) (fun _ => ?_)
      · exact Pc.no
      · exact Pc.mono (ih _ _ _ _ _ _) (fun _ hq => frZ.tr (frZ.rf h) (frZ.no hq))
theorem zf_X12_greatest {n : Nat} {h : Hp} {x1 : Int32} {x2 : Int32} : Pc (F_X12_greatest n h x1 x2) (fun q => frZ (fun _ _ => False) h q.2) := by
  unfold F_X12_greatest
  exact Pc.mono (zw_X12_greatest _ _ _ _ _ _ _) (fun _ hq => frZ.tr (frZ.rf h) (frZ.no hq))
theorem zw_X12_period : ∀ (n : Nat) (hd : Nat) (h : Hp) (l1 : Int32) (l2 : Int32), Pc (W_X12_period n hd h l1 l2) (fun q => frZ (fun _ _ => False) h q.2) := by
  intro n
  induction n with
  | zero => intro hd h l1 l2; exact Pc.no
  | succ n ih =>
    intro hd h l1 l2
    rw [u_X12_period]
    refine Pc.chk (fun _ => ?_)
    refine Pc.bind zf_X12_cells (fun q2 h3 => ?_)
    have f4 : frZ (fun _ _ => False) h q2.2 := frZ.tr (frZ.rf h) (frZ.no h3)
    refine Pc.ite (fun _ => ?_) (fun _ => ?_)
    · exact Pc.ret f4
    · refine Pc.chk (fun c5 => ?_)
      refine Pc.ite (fun _ => ?_) (fun _ => ?_)
      · exact Pc.mono (ih _ _ _ _) (fun _ hq => frZ.tr f4 (frZ.no hq))
      · refine Pc.chk (fun c7 => ?_)
        refine Pc.bind zf_X12_greatest (fun q8 h9 => ?_)
        have f10 : frZ (fun _ _ => False) h q8.2 := frZ.tr f4 (frZ.no h9)
        refine Pc.ite (fun _ => ?_) (fun _ => ?_)
        · exact Pc.no
        · refine Pc.chk (fun c11 => ?_)
          exact Pc.mono (ih _ _ _ _) (fun _ hq => frZ.tr f10 (frZ.no hq))
theorem zf_X12_period {n : Nat} {h : Hp} : Pc (F_X12_period n h) (fun q => frZ (fun _ _ => False) h q.2) := by
  unfold F_X12_period
  exact Pc.mono (zw_X12_period _ _ _ _ _) (fun _ hq => frZ.tr (frZ.rf h) (frZ.no hq))
theorem zf_X12_place {n : Nat} {h : Hp} : Pc (F_X12_place n h) (fun q => frZ (fun _ _ => False) h q.2) := by
  unfold F_X12_place
  exact Pc.ret (frZ.rf h)
theorem zw_X12_restore : ∀ (n : Nat) (hd : Nat) (h : Hp) (l1 : Int32) (l2 : Int32), Pc (W_X12_restore n hd h l1 l2) (fun q => frZ (fun x k => x = 262 ∨ (x = 226 ∧ (k = 59))) h q.2) := by
  intro n
  induction n with
  | zero => intro hd h l1 l2; exact Pc.no
  | succ n ih =>
    intro hd h l1 l2
    rw [u_X12_restore]
    refine Pc.chk (fun _ => ?_)
    refine Pc.ite (fun _ => ?_) (fun _ => ?_)
    · exact Pc.ret (frZ.w (frZ.rf h) (by omega))
    · refine Pc.chk (fun c2 => ?_)
      refine Pc.chk (fun c3 => ?_)
      exact Pc.mono (ih _ _ _ _) (fun _ hq => frZ.tr (frZ.w (frZ.rf h) (by omega)) (frZ.sub hq (fun x k z => by omega)))
theorem zf_X12_restore {n : Nat} {h : Hp} {x1 : Int32} : Pc (F_X12_restore n h x1) (fun q => frZ (fun x k => x = 262 ∨ (x = 226 ∧ (k = 59))) h q.2) := by
  unfold F_X12_restore
  refine Pc.bind zf_X12_in (fun q1 h2 => ?_)
  have f3 : frZ (fun x k => x = 262 ∨ (x = 226 ∧ (k = 59))) h q1.2 := frZ.tr (frZ.rf h) (frZ.no h2)
  refine Pc.ite (fun _ => ?_) (fun _ => ?_)
  · exact Pc.ret f3
  · refine Pc.chk (fun c4 => ?_)
    refine Pc.ite (fun _ => ?_) (fun _ => ?_)
    · exact Pc.ret f3
    · exact Pc.mono (zw_X12_restore _ _ _ _ _) (fun _ hq => frZ.tr f3 (frZ.sub hq (fun x k z => by omega)))
theorem zw_X12_returns : ∀ (n : Nat) (hd : Nat) (h : Hp) (l1 : Int32) (l2 : Int32), Pc (W_X12_returns n hd h l1 l2) (fun q => frZ (fun x k => (260 ≤ x ∧ x ≤ 261) ∨ x = 263 ∨ x = 265 ∨ (x = 226 ∧ (k = 52))) h q.2) := by
  intro n
  induction n with
  | zero => intro hd h l1 l2; exact Pc.no
  | succ n ih =>
    intro hd h l1 l2
    rw [u_X12_returns]
    refine Pc.chk (fun _ => ?_)
    refine Pc.ite (fun _ => ?_) (fun _ => ?_)
    · exact Pc.ret (frZ.rf h)
    · refine Pc.bind zf_X12_beatGoes (fun q2 h3 => ?_)
      have f4 : frZ (fun x k => (260 ≤ x ∧ x ≤ 261) ∨ x = 263 ∨ x = 265 ∨ (x = 226 ∧ (k = 52))) h q2 := frZ.tr (frZ.rf h) (frZ.sub h3 (fun x k z => by omega))
      refine Pc.chk (fun c5 => ?_)
      refine Pc.chk (fun c6 => ?_)
      refine Pc.ite (fun _ => ?_) (fun _ => ?_)
      · exact Pc.ret f4
      · exact Pc.mono (ih _ _ _ _) (fun _ hq => frZ.tr f4 (frZ.sub hq (fun x k z => by omega)))
theorem zf_X12_returns {n : Nat} {h : Hp} {x1 : Int32} : Pc (F_X12_returns n h x1) (fun q => frZ (fun x k => (260 ≤ x ∧ x ≤ 261) ∨ x = 263 ∨ x = 265 ∨ (x = 226 ∧ (k = 52 ∨ k = 55 ∨ k = 56))) h q.2) := by
  unfold F_X12_returns
  refine Pc.bind zf_X12_isGoer (fun q1 h2 => ?_)
  have f3 : frZ (fun x k => (260 ≤ x ∧ x ≤ 261) ∨ x = 263 ∨ x = 265 ∨ (x = 226 ∧ (k = 52 ∨ k = 55 ∨ k = 56))) h q1.2 := frZ.tr (frZ.rf h) (frZ.no h2)
  refine Pc.ite (fun _ => ?_) (fun _ => ?_)
  · exact Pc.ret f3
  · refine Pc.bind zf_X12_copiesStill (fun q4 h5 => ?_)
    have f6 : frZ (fun x k => (260 ≤ x ∧ x ≤ 261) ∨ x = 263 ∨ x = 265 ∨ (x = 226 ∧ (k = 52 ∨ k = 55 ∨ k = 56))) h q4 := frZ.tr f3 (frZ.sub h5 (fun x k z => by omega))
    exact Pc.mono (zw_X12_returns _ _ _ _ _) (fun _ hq => frZ.tr f6 (frZ.sub hq (fun x k z => by omega)))
theorem zf_X12_rope {n : Nat} {h : Hp} {x1 : Int32} {x2 : Int32} : Pc (F_X12_rope n h x1 x2) (fun q => frZ (fun x k => (262 ≤ x ∧ x ≤ 263) ∨ x = 266 ∨ (x = 226 ∧ (k = 55 ∨ k = 56 ∨ k = 59))) h q.2) := by
  unfold F_X12_rope
  refine Pc.bind zf_X12_copies (fun q1 h2 => ?_)
  have f3 : frZ (fun x k => (262 ≤ x ∧ x ≤ 263) ∨ x = 266 ∨ (x = 226 ∧ (k = 55 ∨ k = 56 ∨ k = 59))) h q1 := frZ.tr (frZ.rf h) (frZ.sub h2 (fun x k z => by omega))
  refine Pc.bind zf_X12_isCell (fun q4 h5 => ?_)
  have f6 : frZ (fun x k => (262 ≤ x ∧ x ≤ 263) ∨ x = 266 ∨ (x = 226 ∧ (k = 55 ∨ k = 56 ∨ k = 59))) h q4.2 := frZ.tr f3 (frZ.no h5)
  refine Pc.ite (fun _ => ?_) (fun _ => ?_)
  · exact Pc.ret f6
  · refine Pc.bind zf_X12_isRoped (fun q7 h8 => ?_)
    have f9 : frZ (fun x k => (262 ≤ x ∧ x ≤ 263) ∨ x = 266 ∨ (x = 226 ∧ (k = 55 ∨ k = 56 ∨ k = 59))) h q7.2 := frZ.tr f6 (frZ.no h8)
    refine Pc.ite (fun _ => ?_) (fun _ => ?_)
    · exact Pc.ret f9
    · refine Pc.ite (fun _ => ?_) (fun _ => ?_)
      · refine Pc.bind zf_X12_records (fun q10 h11 => ?_)
        have f12 : frZ (fun x k => (262 ≤ x ∧ x ≤ 263) ∨ x = 266 ∨ (x = 226 ∧ (k = 55 ∨ k = 56 ∨ k = 59))) h q10 := frZ.tr (frZ.w f9 (by omega)) (frZ.sub h11 (fun x k z => by omega))
        exact Pc.ret f12
      · refine Pc.chk (fun c13 => ?_)
        refine Pc.ite (fun _ => ?_) (fun _ => ?_)
        · exact Pc.ret f9
        · refine Pc.bind zf_X12_whoAt (fun q14 h15 => ?_)
          have f16 : frZ (fun x k => (262 ≤ x ∧ x ≤ 263) ∨ x = 266 ∨ (x = 226 ∧ (k = 55 ∨ k = 56 ∨ k = 59))) h q14.2 := frZ.tr f9 (frZ.no h15)
          refine Pc.ite (fun _ => ?_) (fun _ => ?_)
          · refine Pc.bind zf_X12_records (fun q17 h18 => ?_)
            have f19 : frZ (fun x k => (262 ≤ x ∧ x ≤ 263) ∨ x = 266 ∨ (x = 226 ∧ (k = 55 ∨ k = 56 ∨ k = 59))) h q17 := frZ.tr (frZ.w f16 (by omega)) (frZ.sub h18 (fun x k z => by omega))
            exact Pc.ret f19
          · exact Pc.ret f16
theorem zw_X12_silence : ∀ (n : Nat) (hd : Nat) (h : Hp) (l1 : Int32) (l2 : Int32) (l3 : Int32) (l4 : Int32) (l5 : Int32), Pc (W_X12_silence n hd h l1 l2 l3 l4 l5) (fun q => frZ (fun _ _ => False) h q.2) := by
  intro n
  induction n with
  | zero => intro hd h l1 l2 l3 l4 l5; exact Pc.no
  | succ n ih =>
    intro hd h l1 l2 l3 l4 l5
    rw [u_X12_silence]
    refine Pc.chk (fun _ => ?_)
    refine Pc.ite (fun _ => ?_) (fun _ => ?_)
    · refine Pc.ite (fun _ => ?_) (fun _ => ?_)
      · exact Pc.ret (frZ.rf h)
      · exact Pc.ret (frZ.rf h)
    · refine Pc.bind zf_X12_loudBits (fun q2 h3 => ?_)
      have f4 : frZ (fun _ _ => False) h q2.2 := frZ.tr (frZ.rf h) (frZ.no h3)
      refine Pc.ite (fun _ => ?_) (fun _ => ?_)
      · refine Pc.ite (fun _ => ?_) (fun _ => ?_)
        · exact Pc.mono (ih _ _ _ _ _ _ _) (fun _ hq => frZ.tr f4 (frZ.no hq))
        · exact Pc.mono (ih _ _ _ _ _ _ _) (fun _ hq => frZ.tr f4 (frZ.no hq))
      · refine Pc.ite (fun _ => ?_) (fun _ => ?_)
        · exact Pc.mono (ih _ _ _ _ _ _ _) (fun _ hq => frZ.tr f4 (frZ.no hq))
        · exact Pc.mono (ih _ _ _ _ _ _ _) (fun _ hq => frZ.tr f4 (frZ.no hq))
theorem zf_X12_silence {n : Nat} {h : Hp} {x1 : Int32} : Pc (F_X12_silence n h x1) (fun q => frZ (fun x k => x = 263 ∨ (x = 226 ∧ (k = 55 ∨ k = 56))) h q.2) := by
  unfold F_X12_silence
  refine Pc.bind zf_X12_in (fun q1 h2 => ?_)
  have f3 : frZ (fun x k => x = 263 ∨ (x = 226 ∧ (k = 55 ∨ k = 56))) h q1.2 := frZ.tr (frZ.rf h) (frZ.no h2)
  refine Pc.ite (fun _ => ?_) (fun _ => ?_)
  · exact Pc.ret f3
  · refine Pc.bind zf_X12_copies (fun q4 h5 => ?_)
    have f6 : frZ (fun x k => x = 263 ∨ (x = 226 ∧ (k = 55 ∨ k = 56))) h q4 := frZ.tr f3 (frZ.sub h5 (fun x k z => by omega))
    exact Pc.mono (zw_X12_silence _ _ _ _ _ _ _ _) (fun _ hq => frZ.tr f6 (frZ.no hq))
theorem zw_X12_stood : ∀ (n : Nat) (hd : Nat) (h : Hp) (l1 : Int32) (l2 : Int32) (l3 : Int32) (l4 : Int32) (l5 : Int32), Pc (W_X12_stood n hd h l1 l2 l3 l4 l5) (fun q => frZ (fun x k => (260 ≤ x ∧ x ≤ 261) ∨ x = 263 ∨ x = 265 ∨ (x = 226 ∧ (k = 52))) h q.2) := by
  intro n
  induction n with
  | zero => intro hd h l1 l2 l3 l4 l5; exact Pc.no
  | succ n ih =>
    intro hd h l1 l2 l3 l4 l5
    rw [u_X12_stood]
    refine Pc.chk (fun _ => ?_)
    refine Pc.ite (fun _ => ?_) (fun _ => ?_)
    · exact Pc.ret (frZ.rf h)
    · refine Pc.chk (fun c2 => ?_)
      refine Pc.ite (fun _ => ?_) (fun _ => ?_)
      · refine Pc.bind zf_X12_beatGoes (fun q3 h4 => ?_)
        have f5 : frZ (fun x k => (260 ≤ x ∧ x ≤ 261) ∨ x = 263 ∨ x = 265 ∨ (x = 226 ∧ (k = 52))) h q3 := frZ.tr (frZ.rf h) (frZ.sub h4 (fun x k z => by omega))
        exact Pc.mono (ih _ _ _ _ _ _ _) (fun _ hq => frZ.tr f5 (frZ.sub hq (fun x k z => by omega)))
      · refine Pc.bind zf_X12_beatGoes (fun q7 h8 => ?_)
        have f9 : frZ (fun x k => (260 ≤ x ∧ x ≤ 261) ∨ x = 263 ∨ x = 265 ∨ (x = 226 ∧ (k = 52))) h q7 := frZ.tr (frZ.rf h) (frZ.sub h8 (fun x k z => by omega))
        exact Pc.mono (ih _ _ _ _ _ _ _) (fun _ hq => frZ.tr f9 (frZ.sub hq (fun x k z => by omega)))
theorem zf_X12_stood {n : Nat} {h : Hp} {x1 : Int32} {x2 : Int32} {x3 : Int32} : Pc (F_X12_stood n h x1 x2 x3) (fun q => frZ (fun x k => (260 ≤ x ∧ x ≤ 261) ∨ x = 263 ∨ x = 265 ∨ (x = 226 ∧ (k = 52 ∨ k = 55 ∨ k = 56))) h q.2) := by
  unfold F_X12_stood
  refine Pc.bind zf_X12_isGoer (fun q1 h2 => ?_)
  have f3 : frZ (fun x k => (260 ≤ x ∧ x ≤ 261) ∨ x = 263 ∨ x = 265 ∨ (x = 226 ∧ (k = 52 ∨ k = 55 ∨ k = 56))) h q1.2 := frZ.tr (frZ.rf h) (frZ.no h2)
  refine Pc.ite (fun _ => ?_) (fun _ => ?_)
  · exact Pc.ret f3
  · refine Pc.bind zf_X12_isCell (fun q4 h5 => ?_)
    have f6 : frZ (fun x k => (260 ≤ x ∧ x ≤ 261) ∨ x = 263 ∨ x = 265 ∨ (x = 226 ∧ (k = 52 ∨ k = 55 ∨ k = 56))) h q4.2 := frZ.tr f3 (frZ.no h5)
    refine Pc.ite (fun _ => ?_) (fun _ => ?_)
    · exact Pc.ret f6
    · refine Pc.bind zf_X12_isLong (fun q7 h8 => ?_)
      have f9 : frZ (fun x k => (260 ≤ x ∧ x ≤ 261) ∨ x = 263 ∨ x = 265 ∨ (x = 226 ∧ (k = 52 ∨ k = 55 ∨ k = 56))) h q7.2 := frZ.tr f6 (frZ.no h8)
      refine Pc.ite (fun _ => ?_) (fun _ => ?_)
      · exact Pc.ret f9
      · refine Pc.bind zf_X12_copiesStill (fun q10 h11 => ?_)
        have f12 : frZ (fun x k => (260 ≤ x ∧ x ≤ 261) ∨ x = 263 ∨ x = 265 ∨ (x = 226 ∧ (k = 52 ∨ k = 55 ∨ k = 56))) h q10 := frZ.tr f9 (frZ.sub h11 (fun x k z => by omega))
        exact Pc.mono (zw_X12_stood _ _ _ _ _ _ _ _) (fun _ hq => frZ.tr f12 (frZ.sub hq (fun x k z => by omega)))
theorem zf_X12_isTime {n : Nat} {h : Hp} {x1 : Int32} : Pc (F_X12_isTime n h x1) (fun q => frZ (fun _ _ => False) h q.2) := by
  unfold F_X12_isTime
  refine Pc.bind zf_X12_in (fun q1 h2 => ?_)
  have f3 : frZ (fun _ _ => False) h q1.2 := frZ.tr (frZ.rf h) (frZ.no h2)
  refine Pc.chk (fun _ => ?_)
  exact Pc.ret f3
theorem zf_X12_tell {n : Nat} {h : Hp} {x1 : Int32} {x2 : Int32} : Pc (F_X12_tell n h x1 x2) (fun q => frZ (fun x k => (271 ≤ x ∧ x ≤ 272) ∨ (x = 226 ∧ (k = 65))) h q.2) := by
  unfold F_X12_tell
  refine Pc.ite (fun _ => ?_) (fun _ => ?_)
  · exact Pc.ret (frZ.rf h)
  · refine Pc.bind zf_X12_isTime (fun q1 h2 => ?_)
    have f3 : frZ (fun x k => (271 ≤ x ∧ x ≤ 272) ∨ (x = 226 ∧ (k = 65))) h q1.2 := frZ.tr (frZ.rf h) (frZ.no h2)
    refine Pc.ite (fun _ => ?_) (fun _ => ?_)
    · exact Pc.ret f3
    · refine Pc.chk (fun c4 => ?_)
      refine Pc.chk (fun c5 => ?_)
      exact Pc.ret (frZ.w (frZ.w (frZ.w f3 (by omega)) (by omega)) (by omega))
theorem zf_X12_then {n : Nat} {h : Hp} {x1 : Int32} {x2 : Int32} {x3 : Int32} : Pc (F_X12_then n h x1 x2 x3) (fun q => frZ (fun x k => (260 ≤ x ∧ x ≤ 261) ∨ x = 263 ∨ x = 265 ∨ (x = 226 ∧ (k = 52 ∨ k = 55 ∨ k = 56))) h q.2) := by
  unfold F_X12_then
  refine Pc.bind zf_X12_isGoer (fun q1 h2 => ?_)
  have f3 : frZ (fun x k => (260 ≤ x ∧ x ≤ 261) ∨ x = 263 ∨ x = 265 ∨ (x = 226 ∧ (k = 52 ∨ k = 55 ∨ k = 56))) h q1.2 := frZ.tr (frZ.rf h) (frZ.no h2)
  refine Pc.ite (fun _ => ?_) (fun _ => ?_)
  · exact Pc.ret f3
  · refine Pc.bind zf_X12_isLong (fun q4 h5 => ?_)
    have f6 : frZ (fun x k => (260 ≤ x ∧ x ≤ 261) ∨ x = 263 ∨ x = 265 ∨ (x = 226 ∧ (k = 52 ∨ k = 55 ∨ k = 56))) h q4.2 := frZ.tr f3 (frZ.no h5)
    refine Pc.ite (fun _ => ?_) (fun _ => ?_)
    · exact Pc.ret f6
    · refine Pc.bind zf_X12_in (fun q7 h8 => ?_)
      have f9 : frZ (fun x k => (260 ≤ x ∧ x ≤ 261) ∨ x = 263 ∨ x = 265 ∨ (x = 226 ∧ (k = 52 ∨ k = 55 ∨ k = 56))) h q7.2 := frZ.tr f6 (frZ.no h8)
      refine Pc.ite (fun _ => ?_) (fun _ => ?_)
      · exact Pc.ret f9
      · refine Pc.bind zf_X12_copies (fun q10 h11 => ?_)
        have f12 : frZ (fun x k => (260 ≤ x ∧ x ≤ 261) ∨ x = 263 ∨ x = 265 ∨ (x = 226 ∧ (k = 52 ∨ k = 55 ∨ k = 56))) h q10 := frZ.tr f9 (frZ.sub h11 (fun x k z => by omega))
        refine Pc.bind zf_X12_goes (fun q13 h14 => ?_)
        have f15 : frZ (fun x k => (260 ≤ x ∧ x ≤ 261) ∨ x = 263 ∨ x = 265 ∨ (x = 226 ∧ (k = 52 ∨ k = 55 ∨ k = 56))) h q13 := frZ.tr f12 (frZ.sub h14 (fun x k z => by omega))
        refine Pc.ite (fun _ => ?_) (fun _ => ?_)
        · refine Pc.chk (fun c16 => ?_)
          exact Pc.ret f15
        · refine Pc.chk (fun c17 => ?_)
          exact Pc.ret f15
theorem zw_X12_together : ∀ (n : Nat) (hd : Nat) (h : Hp) (l1 : Int32) (l2 : Int32) (l3 : Int32), Pc (W_X12_together n hd h l1 l2 l3) (fun q => frZ (fun _ _ => False) h q.2) := by
  intro n
  induction n with
  | zero => intro hd h l1 l2 l3; exact Pc.no
  | succ n ih =>
    intro hd h l1 l2 l3
    rw [u_X12_together]
    refine Pc.chk (fun _ => ?_)
    refine Pc.ite (fun _ => ?_) (fun _ => ?_)
    · exact Pc.ret (frZ.rf h)
    · refine Pc.bind zf_X12_isLoud (fun q2 h3 => ?_)
      have f4 : frZ (fun _ _ => False) h q2.2 := frZ.tr (frZ.rf h) (frZ.no h3)
      refine Pc.ite (fun _ => ?_) (fun _ => ?_)
      · exact Pc.mono (ih _ _ _ _ _) (fun _ hq => frZ.tr f4 (frZ.no hq))
      · refine Pc.bind zf_X12_isLoud (fun q6 h7 => ?_)
        have f8 : frZ (fun _ _ => False) h q6.2 := frZ.tr f4 (frZ.no h7)
        refine Pc.ite (fun _ => ?_) (fun _ => ?_)
        · exact Pc.mono (ih _ _ _ _ _) (fun _ hq => frZ.tr f8 (frZ.no hq))
        · exact Pc.ret f8
theorem zf_X12_together {n : Nat} {h : Hp} {x1 : Int32} {x2 : Int32} : Pc (F_X12_together n h x1 x2) (fun q => frZ (fun x k => x = 263 ∨ (x = 226 ∧ (k = 55 ∨ k = 56))) h q.2) := by
  unfold F_X12_together
  refine Pc.bind zf_X12_isCell (fun q1 h2 => ?_)
  have f3 : frZ (fun x k => x = 263 ∨ (x = 226 ∧ (k = 55 ∨ k = 56))) h q1.2 := frZ.tr (frZ.rf h) (frZ.no h2)
  refine Pc.ite (fun _ => ?_) (fun _ => ?_)
  · exact Pc.ret f3
  · refine Pc.bind zf_X12_isCell (fun q4 h5 => ?_)
    have f6 : frZ (fun x k => x = 263 ∨ (x = 226 ∧ (k = 55 ∨ k = 56))) h q4.2 := frZ.tr f3 (frZ.no h5)
    refine Pc.ite (fun _ => ?_) (fun _ => ?_)
    · exact Pc.ret f6
    · refine Pc.bind zf_X12_copies (fun q7 h8 => ?_)
      have f9 : frZ (fun x k => x = 263 ∨ (x = 226 ∧ (k = 55 ∨ k = 56))) h q7 := frZ.tr f6 (frZ.sub h8 (fun x k z => by omega))
      exact Pc.mono (zw_X12_together _ _ _ _ _ _) (fun _ hq => frZ.tr f9 (frZ.no hq))
theorem zf_X12_tunesIn {n : Nat} {h : Hp} {x1 : Int32} : Pc (F_X12_tunesIn n h x1) (fun q => frZ (fun x k => (260 ≤ x ∧ x ≤ 261) ∨ x = 263 ∨ x = 265 ∨ (x = 226 ∧ (k = 52 ∨ k = 55 ∨ k = 56))) h q.2) := by
  unfold F_X12_tunesIn
  refine Pc.bind zf_X12_isLong (fun q1 h2 => ?_)
  have f3 : frZ (fun x k => (260 ≤ x ∧ x ≤ 261) ∨ x = 263 ∨ x = 265 ∨ (x = 226 ∧ (k = 52 ∨ k = 55 ∨ k = 56))) h q1.2 := frZ.tr (frZ.rf h) (frZ.no h2)
  refine Pc.ite (fun _ => ?_) (fun _ => ?_)
  · exact Pc.ret f3
  · refine Pc.bind zf_X12_copies (fun q4 h5 => ?_)
    have f6 : frZ (fun x k => (260 ≤ x ∧ x ≤ 261) ∨ x = 263 ∨ x = 265 ∨ (x = 226 ∧ (k = 52 ∨ k = 55 ∨ k = 56))) h q4 := frZ.tr f3 (frZ.sub h5 (fun x k z => by omega))
    refine Pc.bind zf_X12_goes (fun q7 h8 => ?_)
    have f9 : frZ (fun x k => (260 ≤ x ∧ x ≤ 261) ∨ x = 263 ∨ x = 265 ∨ (x = 226 ∧ (k = 52 ∨ k = 55 ∨ k = 56))) h q7 := frZ.tr f6 (frZ.sub h8 (fun x k z => by omega))
    refine Pc.bind zf_X12_tuneBits (fun q10 h11 => ?_)
    have f12 : frZ (fun x k => (260 ≤ x ∧ x ≤ 261) ∨ x = 263 ∨ x = 265 ∨ (x = 226 ∧ (k = 52 ∨ k = 55 ∨ k = 56))) h q10.2 := frZ.tr f9 (frZ.no h11)
    exact Pc.ret f12
theorem zw_X12_undo : ∀ (n : Nat) (hd : Nat) (h : Hp) (l1 : Int32), Pc (W_X12_undo n hd h l1) (fun q => frZ (fun x k => x = 262) h q.2) := by
  intro n
  induction n with
  | zero => intro hd h l1; exact Pc.no
  | succ n ih =>
    intro hd h l1
    rw [u_X12_undo]
    refine Pc.chk (fun _ => ?_)
    refine Pc.ite (fun _ => ?_) (fun _ => ?_)
    · exact Pc.ret (frZ.rf h)
    · refine Pc.chk (fun c2 => ?_)
      refine Pc.chk (fun c3 => ?_)
      exact Pc.mono (ih _ _ _) (fun _ hq => frZ.tr (frZ.w (frZ.rf h) (by omega)) (frZ.sub hq (fun x k z => by omega)))
theorem zf_X12_undo {n : Nat} {h : Hp} : Pc (F_X12_undo n h) (fun q => frZ (fun x k => x = 262 ∨ (x = 226 ∧ (k = 59))) h q.2) := by
  unfold F_X12_undo
  refine Pc.ite (fun _ => ?_) (fun _ => ?_)
  · exact Pc.ret (frZ.rf h)
  · exact Pc.mono (zw_X12_undo _ _ _ _) (fun _ hq => frZ.tr (frZ.w (frZ.rf h) (by omega)) (frZ.sub hq (fun x k z => by omega)))
theorem zw_X12_cellBehind : ∀ (n : Nat) (hd : Nat) (h : Hp) (l1 : Int32) (l2 : Int32) (l3 : Int32) (l4 : Int32) (l5 : Int32) (l6 : Int32), Pc (W_X12_cellBehind n hd h l1 l2 l3 l4 l5 l6) (fun q => frZ (fun x k => x = 269) h q.2) := by
  intro n
  induction n with
  | zero => intro hd h l1 l2 l3 l4 l5 l6; exact Pc.no
  | succ n ih =>
    intro hd h l1 l2 l3 l4 l5 l6
    rw [u_X12_cellBehind]
    refine Pc.ite (fun _ => ?_) (fun _ => ?_)
    · refine Pc.ite (fun _ => ?_) (fun _ => ?_)
      · exact Pc.mono (ih _ _ _ _ _ _ _ _) (fun _ hq => frZ.tr (frZ.rf h) (frZ.sub hq (fun x k z => by omega)))
      · refine Pc.chk (fun c2 => ?_)
        refine Pc.bind zf_X12_nearBits (fun q3 h4 => ?_)
        have f5 : frZ (fun x k => x = 269) h q3.2 := frZ.tr (frZ.rf h) (frZ.no h4)
        refine Pc.chk (fun c6 => ?_)
        refine Pc.chk (fun c7 => ?_)
        exact Pc.mono (ih _ _ _ _ _ _ _ _) (fun _ hq => frZ.tr (frZ.w f5 (by omega)) (frZ.sub hq (fun x k z => by omega)))
    · refine Pc.chk (fun _ => ?_)
      refine Pc.ite (fun _ => ?_) (fun _ => ?_)
      · exact Pc.ret (frZ.rf h)
      · refine Pc.bind zf_X12_nearBits (fun q10 h11 => ?_)
        have f12 : frZ (fun x k => x = 269) h q10.2 := frZ.tr (frZ.rf h) (frZ.no h11)
        refine Pc.chk (fun c13 => ?_)
        refine Pc.bind zf_X12_lowestOf (fun q14 h15 => ?_)
        have f16 : frZ (fun x k => x = 269) h q14.2 := frZ.tr f12 (frZ.no h15)
        exact Pc.mono (ih _ _ _ _ _ _ _ _) (fun _ hq => frZ.tr f16 (frZ.sub hq (fun x k z => by omega)))
theorem zf_X12_cellBehind {n : Nat} {h : Hp} {x1 : Int32} {x2 : Int32} {x3 : Int32} {x4 : Int32} : Pc (F_X12_cellBehind n h x1 x2 x3 x4) (fun q => frZ (fun x k => x = 269) h q.2) := by
  unfold F_X12_cellBehind
  refine Pc.chk (fun c1 => ?_)
  exact Pc.mono (zw_X12_cellBehind _ _ _ _ _ _ _ _ _) (fun _ hq => frZ.tr (frZ.w (frZ.rf h) (by omega)) (frZ.sub hq (fun x k z => by omega)))
theorem zf_X12_way {n : Nat} {h : Hp} {x1 : Int32} {x2 : Int32} {x3 : Int32} : Pc (F_X12_way n h x1 x2 x3) (fun q => frZ (fun x k => x = 263 ∨ x = 267 ∨ x = 269 ∨ (x = 226 ∧ (k = 55 ∨ k = 56))) h q.2) := by
  unfold F_X12_way
  refine Pc.bind zf_X12_areFree (fun q1 h2 => ?_)
  have f3 : frZ (fun x k => x = 263 ∨ x = 267 ∨ x = 269 ∨ (x = 226 ∧ (k = 55 ∨ k = 56))) h q1.2 := frZ.tr (frZ.rf h) (frZ.no h2)
  refine Pc.ite (fun _ => ?_) (fun _ => ?_)
  · exact Pc.ret f3
  · refine Pc.ite (fun _ => ?_) (fun _ => ?_)
    · refine Pc.bind zf_X12_copies (fun q4 h5 => ?_)
      have f6 : frZ (fun x k => x = 263 ∨ x = 267 ∨ x = 269 ∨ (x = 226 ∧ (k = 55 ∨ k = 56))) h q4 := frZ.tr f3 (frZ.sub h5 (fun x k z => by omega))
      refine Pc.bind zf_X12_fillsReach (fun q7 h8 => ?_)
      have f9 : frZ (fun x k => x = 263 ∨ x = 267 ∨ x = 269 ∨ (x = 226 ∧ (k = 55 ∨ k = 56))) h q7 := frZ.tr f6 (frZ.sub h8 (fun x k z => by omega))
      refine Pc.bind zf_X12_firstAt (fun q10 h11 => ?_)
      have f12 : frZ (fun x k => x = 263 ∨ x = 267 ∨ x = 269 ∨ (x = 226 ∧ (k = 55 ∨ k = 56))) h q10.2 := frZ.tr f9 (frZ.no h11)
      refine Pc.ite (fun _ => ?_) (fun _ => ?_)
      · exact Pc.ret f12
      · refine Pc.ite (fun _ => ?_) (fun _ => ?_)
        · exact Pc.ret f12
        · refine Pc.ite (fun _ => ?_) (fun _ => ?_)
          · refine Pc.bind zf_X12_cellBehind (fun q13 h14 => ?_)
            have f15 : frZ (fun x k => x = 263 ∨ x = 267 ∨ x = 269 ∨ (x = 226 ∧ (k = 55 ∨ k = 56))) h q13.2 := frZ.tr f12 (frZ.sub h14 (fun x k z => by omega))
            exact Pc.ret f15
          · exact Pc.ret f12
    · exact Pc.ret f3
theorem zw_X12_year : ∀ (n : Nat) (hd : Nat) (h : Hp) (l1 : Int32) (l2 : Int32) (l3 : Int32) (l4 : Int32) (l5 : Int32), Pc (W_X12_year n hd h l1 l2 l3 l4 l5) (fun q => frZ (fun x k => (260 ≤ x ∧ x ≤ 261) ∨ x = 263 ∨ x = 265 ∨ (x = 226 ∧ (k = 52 ∨ k = 55 ∨ k = 56))) h q.2) := by
  intro n
  induction n with
  | zero => intro hd h l1 l2 l3 l4 l5; exact Pc.no
  | succ n ih =>
    intro hd h l1 l2 l3 l4 l5
    rw [u_X12_year]
    refine Pc.chk (fun _ => ?_)
    refine Pc.ite (fun _ => ?_) (fun _ => ?_)
    · exact Pc.ret (frZ.rf h)
    · refine Pc.bind zf_X12_copies (fun q2 h3 => ?_)
      have f4 : frZ (fun x k => (260 ≤ x ∧ x ≤ 261) ∨ x = 263 ∨ x = 265 ∨ (x = 226 ∧ (k = 52 ∨ k = 55 ∨ k = 56))) h q2 := frZ.tr (frZ.rf h) (frZ.sub h3 (fun x k z => by omega))
      refine Pc.bind zf_X12_goes (fun q5 h6 => ?_)
      have f7 : frZ (fun x k => (260 ≤ x ∧ x ≤ 261) ∨ x = 263 ∨ x = 265 ∨ (x = 226 ∧ (k = 52 ∨ k = 55 ∨ k = 56))) h q5 := frZ.tr (frZ.w f4 (by omega)) (frZ.sub h6 (fun x k z => by omega))
      refine Pc.chk (fun c8 => ?_)
      refine Pc.ite (fun _ => ?_) (fun _ => ?_)
      · exact Pc.mono (ih _ _ _ _ _ _ _) (fun _ hq => frZ.tr f7 (frZ.sub hq (fun x k z => by omega)))
      · exact Pc.mono (ih _ _ _ _ _ _ _) (fun _ hq => frZ.tr f7 (frZ.sub hq (fun x k z => by omega)))
theorem zf_X12_year {n : Nat} {h : Hp} {x1 : Int32} {x2 : Int32} {x3 : Int32} : Pc (F_X12_year n h x1 x2 x3) (fun q => frZ (fun x k => (260 ≤ x ∧ x ≤ 261) ∨ x = 263 ∨ x = 265 ∨ (x = 226 ∧ (k = 52 ∨ k = 55 ∨ k = 56))) h q.2) := by
  unfold F_X12_year
  refine Pc.bind zf_X12_isCell (fun q1 h2 => ?_)
  have f3 : frZ (fun x k => (260 ≤ x ∧ x ≤ 261) ∨ x = 263 ∨ x = 265 ∨ (x = 226 ∧ (k = 52 ∨ k = 55 ∨ k = 56))) h q1.2 := frZ.tr (frZ.rf h) (frZ.no h2)
  refine Pc.ite (fun _ => ?_) (fun _ => ?_)
  · exact Pc.ret f3
  · refine Pc.bind zf_X12_isLong (fun q4 h5 => ?_)
    have f6 : frZ (fun x k => (260 ≤ x ∧ x ≤ 261) ∨ x = 263 ∨ x = 265 ∨ (x = 226 ∧ (k = 52 ∨ k = 55 ∨ k = 56))) h q4.2 := frZ.tr f3 (frZ.no h5)
    refine Pc.ite (fun _ => ?_) (fun _ => ?_)
    · exact Pc.ret f6
    · refine Pc.bind zf_X12_in (fun q7 h8 => ?_)
      have f9 : frZ (fun x k => (260 ≤ x ∧ x ≤ 261) ∨ x = 263 ∨ x = 265 ∨ (x = 226 ∧ (k = 52 ∨ k = 55 ∨ k = 56))) h q7.2 := frZ.tr f6 (frZ.no h8)
      refine Pc.ite (fun _ => ?_) (fun _ => ?_)
      · exact Pc.ret f9
      · exact Pc.mono (zw_X12_year _ _ _ _ _ _ _ _) (fun _ hq => frZ.tr f9 (frZ.sub hq (fun x k z => by omega)))
