/-! WHAT STAYS AS IT WAS -/
/-- all cells but those of A are as they were -/
def frZ (A : Nat → Nat → Prop) (h q : Hp) : Prop := (∀ x k, ¬ A x k → hi q x k = hi h x k) ∧ ∀ x k, ¬ A x k → hl q x k = hl h x k
section FZ
variable {A B : Nat → Nat → Prop} {h h0 h1 h2 q : Hp}
theorem frZ.rf (h : Hp) : frZ A h h := ⟨fun _ _ _ => rfl, fun _ _ _ => rfl⟩
theorem frZ.tr (a : frZ A h0 h1) (b : frZ A h1 h2) : frZ A h0 h2 := ⟨fun x k n => (b.1 x k n).trans (a.1 x k n), fun x k n => (b.2 x k n).trans (a.2 x k n)⟩
theorem frZ.sub (f : frZ A h q) (s : ∀ x k, A x k → B x k) : frZ B h q := ⟨fun x k n => f.1 x k (fun z => n (s x k z)), fun x k n => f.2 x k (fun z => n (s x k z))⟩
theorem frZ.w (f : frZ A h q) {a k : Nat} {v : Int32} (n : A a k) : frZ A h (wrI q a k v) := ⟨fun x y m => by rw [hi_wrI, if_neg (fun z : x = a ∧ y = k => m (by rw [z.1, z.2]; exact n))]; exact f.1 x y m, fun x y m => f.2 x y m⟩
theorem frZ.wL (f : frZ A h q) {a k : Nat} {v : Int64} (n : A a k) : frZ A h (wrL q a k v) := ⟨fun x y m => f.1 x y m, fun x y m => by rw [hl_wrL, if_neg (fun z : x = a ∧ y = k => m (by rw [z.1, z.2]; exact n))]; exact f.2 x y m⟩
theorem frZ.wA (f : frZ A h q) {a : Nat} {v : Nat → Int32} (n : ∀ k, A a k) : frZ A h (wrA q a v) := by
  refine ⟨fun x y m => ?_, fun x y m => f.2 x y m⟩
  show upA (hi q) a v x y = _
  unfold upA
  by_cases z : x = a
  · exact absurd (by rw [z]; exact n y) m
  · rw [if_neg z]; exact f.1 x y m
theorem frZ.no (f : frZ (fun _ _ => False) h q) : frZ A h q := f.sub (fun _ _ z => z.elim)
end FZ
theorem zf_J6_bitCount_0f7a4 {n : Nat} {h : Hp} {x1 : Int32} : Pc (F_J6_bitCount_0f7a4 n h x1) (fun q => frZ (fun _ _ => False) h q.2) := by
  unfold F_J6_bitCount_0f7a4
  exact Pc.ret (frZ.rf h)
theorem zf_X11_lowest {n : Nat} {h : Hp} {x1 : Int32} : Pc (F_X11_lowest n h x1) (fun q => frZ (fun _ _ => False) h q.2) := by
  unfold F_X11_lowest
  refine Pc.bind zf_J6_bitCount_0f7a4 (fun q1 h2 => ?_)
  have f3 : frZ (fun _ _ => False) h q1.2 := frZ.tr (frZ.rf h) (frZ.no h2)
  exact Pc.ret f3
theorem zf_X5_keepIfLess {n : Nat} {h : Hp} {x1 : Int32} : Pc (F_X5_keepIfLess n h x1) (fun q => frZ (fun x k => x = 211 ∨ x = 213) h q) := by
  unfold F_X5_keepIfLess
  refine Pc.ite (fun _ => ?_) (fun _ => ?_)
  · exact Pc.ret (frZ.wA (frZ.w (frZ.rf h) (by omega)) (fun k => by omega))
  · refine Pc.ite (fun _ => ?_) (fun _ => ?_)
    · exact Pc.ret (frZ.rf h)
    · exact Pc.ret (frZ.wA (frZ.w (frZ.rf h) (by omega)) (fun k => by omega))
theorem zf_X3_leftOf {n : Nat} {h : Hp} {a : Nat} {x1 : Int32} : Pc (F_X3_leftOf n h a x1) (fun q => frZ (fun _ _ => False) h q.2) := by
  unfold F_X3_leftOf
  refine Pc.ite (fun _ => ?_) (fun _ => ?_)
  · exact Pc.ret (frZ.rf h)
  · refine Pc.ite (fun _ => ?_) (fun _ => ?_)
    · exact Pc.no
    · exact Pc.ret (frZ.rf h)
theorem zf_X3_topOf {n : Nat} {h : Hp} {a : Nat} {x1 : Int32} : Pc (F_X3_topOf n h a x1) (fun q => frZ (fun _ _ => False) h q.2) := by
  unfold F_X3_topOf
  refine Pc.ite (fun _ => ?_) (fun _ => ?_)
  · exact Pc.ret (frZ.rf h)
  · refine Pc.ite (fun _ => ?_) (fun _ => ?_)
    · exact Pc.no
    · exact Pc.ret (frZ.rf h)
theorem zf_X5_distance {n : Nat} {h : Hp} {x1 : Int32} {x2 : Int32} : Pc (F_X5_distance n h x1 x2) (fun q => frZ (fun _ _ => False) h q.2) := by
  unfold F_X5_distance
  refine Pc.bind zf_X3_leftOf (fun q1 h2 => ?_)
  have f3 : frZ (fun _ _ => False) h q1.2 := frZ.tr (frZ.rf h) (frZ.no h2)
  refine Pc.bind zf_X3_leftOf (fun q4 h5 => ?_)
  have f6 : frZ (fun _ _ => False) h q4.2 := frZ.tr f3 (frZ.no h5)
  refine Pc.bind zf_X3_topOf (fun q7 h8 => ?_)
  have f9 : frZ (fun _ _ => False) h q7.2 := frZ.tr f6 (frZ.no h8)
  refine Pc.bind zf_X3_topOf (fun q10 h11 => ?_)
  have f12 : frZ (fun _ _ => False) h q10.2 := frZ.tr f9 (frZ.no h11)
  exact Pc.ret f12
theorem zw_X5_pairOff {S : Nat → Hp → Nat → Int32 → Int32 → Int32 → Option Hp} (hS : ∀ (n : Nat) (h : Hp) (b1 : Nat) (x y z : Int32), Pc (S n h b1 x y z) (fun q => frZ (fun x k => (211 ≤ x ∧ x ≤ 213)) h q)) : ∀ (n : Nat) (hd : Nat) (h : Hp) (b1 : Nat) (l2 : Int32) (l3 : Int32) (l4 : Int32) (l5 : Int32) (l6 : Int32) (l7 : Int32), Pc (W_X5_pairOff S n hd h b1 l2 l3 l4 l5 l6 l7) (fun q => frZ (fun x k => (211 ≤ x ∧ x ≤ 213)) h q) := by
  intro n
  induction n with
  | zero => intro hd h b1 l2 l3 l4 l5 l6 l7; exact Pc.no
  | succ n ih =>
    intro hd h b1 l2 l3 l4 l5 l6 l7
    rw [u_X5_pairOff]
    refine Pc.chk (fun _ => ?_)
    refine Pc.ite (fun _ => ?_) (fun _ => ?_)
    · refine Pc.bind zf_J6_bitCount_0f7a4 (fun q2 h3 => ?_)
      have f4 : frZ (fun x k => (211 ≤ x ∧ x ≤ 213)) h q2.2 := frZ.tr (frZ.rf h) (frZ.no h3)
      refine Pc.ite (fun _ => ?_) (fun _ => ?_)
      · exact Pc.ret f4
      · refine Pc.chk (fun c5 => ?_)
        refine Pc.bind (hS _ _ _ _ _ _) (fun q6 h7 => ?_)
        have f8 : frZ (fun x k => (211 ≤ x ∧ x ≤ 213)) h q6 := frZ.tr (frZ.w f4 (by omega)) (frZ.sub h7 (fun x k z => by omega))
        exact Pc.ret f8
    · refine Pc.ite (fun _ => ?_) (fun _ => ?_)
      · exact Pc.mono (ih _ _ _ _ _ _ _ _ _) (fun _ hq => frZ.tr (frZ.rf h) (frZ.sub hq (fun x k z => by omega)))
      · refine Pc.chk (fun c10 => ?_)
        refine Pc.chk (fun c11 => ?_)
        refine Pc.chk (fun c12 => ?_)
        refine Pc.chk (fun c13 => ?_)
        refine Pc.bind zf_X5_distance (fun q14 h15 => ?_)
        have f16 : frZ (fun x k => (211 ≤ x ∧ x ≤ 213)) h q14.2 := frZ.tr (frZ.w (frZ.w (frZ.rf h) (by omega)) (by omega)) (frZ.no h15)
        refine Pc.bind (hS _ _ _ _ _ _) (fun q17 h18 => ?_)
        have f19 : frZ (fun x k => (211 ≤ x ∧ x ≤ 213)) h q17 := frZ.tr f16 (frZ.sub h18 (fun x k z => by omega))
        exact Pc.mono (ih _ _ _ _ _ _ _ _ _) (fun _ hq => frZ.tr f19 (frZ.sub hq (fun x k z => by omega)))
theorem zf_X5_pairOff {S : Nat → Hp → Nat → Int32 → Int32 → Int32 → Option Hp} (hS : ∀ (n : Nat) (h : Hp) (b1 : Nat) (x y z : Int32), Pc (S n h b1 x y z) (fun q => frZ (fun x k => (211 ≤ x ∧ x ≤ 213)) h q)) {n : Nat} {h : Hp} {b1 : Nat} {x2 : Int32} {x3 : Int32} {x4 : Int32} : Pc (F_X5_pairOff S n h b1 x2 x3 x4) (fun q => frZ (fun x k => (211 ≤ x ∧ x ≤ 213)) h q) := by
  unfold F_X5_pairOff
  refine Pc.bind zf_X11_lowest (fun q1 h2 => ?_)
  have f3 : frZ (fun x k => (211 ≤ x ∧ x ≤ 213)) h q1.2 := frZ.tr (frZ.rf h) (frZ.no h2)
  refine Pc.ite (fun _ => ?_) (fun _ => ?_)
  · refine Pc.bind zf_X5_keepIfLess (fun q4 h5 => ?_)
    have f6 : frZ (fun x k => (211 ≤ x ∧ x ≤ 213)) h q4 := frZ.tr f3 (frZ.sub h5 (fun x k z => by omega))
    exact Pc.ret f6
  · refine Pc.ite (fun _ => ?_) (fun _ => ?_)
    · refine Pc.bind zf_X5_keepIfLess (fun q7 h8 => ?_)
      have f9 : frZ (fun x k => (211 ≤ x ∧ x ≤ 213)) h q7 := frZ.tr f3 (frZ.sub h8 (fun x k z => by omega))
      exact Pc.ret f9
    · refine Pc.ite (fun _ => ?_) (fun _ => ?_)
      · exact Pc.mono (zw_X5_pairOff hS _ _ _ _ _ _ _ _ _ _) (fun _ hq => frZ.tr f3 (frZ.sub hq (fun x k z => by omega)))
      · refine Pc.bind zf_X5_keepIfLess (fun q11 h12 => ?_)
        have f13 : frZ (fun x k => (211 ≤ x ∧ x ≤ 213)) h q11 := frZ.tr f3 (frZ.sub h12 (fun x k z => by omega))
        exact Pc.ret f13
theorem zf_X9_kindOf {n : Nat} {h : Hp} {x1 : Int32} : Pc (F_X9_kindOf n h x1) (fun q => frZ (fun _ _ => False) h q.2) := by
  unfold F_X9_kindOf
  refine Pc.ite (fun _ => ?_) (fun _ => ?_)
  · exact Pc.ret (frZ.rf h)
  · refine Pc.ite (fun _ => ?_) (fun _ => ?_)
    · exact Pc.ret (frZ.rf h)
    · refine Pc.chk (fun c1 => ?_)
      exact Pc.ret (frZ.rf h)
theorem zf_X7_kind {n : Nat} {h : Hp} : Pc (F_X7_kind n h) (fun q => frZ (fun _ _ => False) h q.2) := by
  unfold F_X7_kind
  refine Pc.bind zf_X9_kindOf (fun q1 h2 => ?_)
  have f3 : frZ (fun _ _ => False) h q1.2 := frZ.tr (frZ.rf h) (frZ.no h2)
  exact Pc.ret f3
theorem zf_X9_valueOf {n : Nat} {h : Hp} {x1 : Int32} : Pc (F_X9_valueOf n h x1) (fun q => frZ (fun _ _ => False) h q.2) := by
  unfold F_X9_valueOf
  refine Pc.ite (fun _ => ?_) (fun _ => ?_)
  · exact Pc.ret (frZ.rf h)
  · refine Pc.ite (fun _ => ?_) (fun _ => ?_)
    · exact Pc.ret (frZ.rf h)
    · refine Pc.chk (fun c1 => ?_)
      exact Pc.ret (frZ.rf h)
theorem zf_X4_add {n : Nat} {h : Hp} {a : Nat} {x1 : Int32} : Pc (F_X4_add n h a x1) (fun q => frZ (fun x k => x = a ∨ x = a + 1) h q) := by
  unfold F_X4_add
  refine Pc.ite (fun _ => ?_) (fun _ => ?_)
  · exact Pc.ret (frZ.rf h)
  · refine Pc.chk (fun c1 => ?_)
    exact Pc.ret (frZ.w (frZ.w (frZ.rf h) (by omega)) (by omega))
theorem zf_X7_stop {n : Nat} {h : Hp} {x1 : Int32} : Pc (F_X7_stop n h x1) (fun q => frZ (fun x k => (2 ≤ x ∧ x ≤ 22)) h q) := by
  unfold F_X7_stop
  refine Pc.ite (fun _ => ?_) (fun _ => ?_)
  · exact Pc.ret (frZ.w (frZ.rf h) (by omega))
  · exact Pc.ret (frZ.rf h)
theorem zf_X7_take {n : Nat} {h : Hp} {x1 : Int32} : Pc (F_X7_take n h x1) (fun q => frZ (fun x k => (2 ≤ x ∧ x ≤ 22)) h q.2) := by
  unfold F_X7_take
  refine Pc.bind zf_X9_kindOf (fun q1 h2 => ?_)
  have f3 : frZ (fun x k => (2 ≤ x ∧ x ≤ 22)) h q1.2 := frZ.tr (frZ.rf h) (frZ.no h2)
  refine Pc.ite (fun _ => ?_) (fun _ => ?_)
  · refine Pc.ite (fun _ => ?_) (fun _ => ?_)
    · refine Pc.ite (fun _ => ?_) (fun _ => ?_)
      · refine Pc.ite (fun _ => ?_) (fun _ => ?_)
        · exact Pc.ret (frZ.w f3 (by omega))
        · exact Pc.ret (frZ.w f3 (by omega))
      · refine Pc.ite (fun _ => ?_) (fun _ => ?_)
        · exact Pc.ret f3
        · exact Pc.ret f3
    · refine Pc.bind zf_X7_stop (fun q4 h5 => ?_)
      have f6 : frZ (fun x k => (2 ≤ x ∧ x ≤ 22)) h q4 := frZ.tr f3 (frZ.sub h5 (fun x k z => by omega))
      refine Pc.ite (fun _ => ?_) (fun _ => ?_)
      · refine Pc.ite (fun _ => ?_) (fun _ => ?_)
        · exact Pc.ret (frZ.w f6 (by omega))
        · exact Pc.ret (frZ.w f6 (by omega))
      · refine Pc.ite (fun _ => ?_) (fun _ => ?_)
        · exact Pc.ret f6
        · exact Pc.ret f6
  · refine Pc.bind zf_X7_stop (fun q7 h8 => ?_)
    have f9 : frZ (fun x k => (2 ≤ x ∧ x ≤ 22)) h q7 := frZ.tr f3 (frZ.sub h8 (fun x k z => by omega))
    refine Pc.ite (fun _ => ?_) (fun _ => ?_)
    · refine Pc.ite (fun _ => ?_) (fun _ => ?_)
      · exact Pc.ret (frZ.w f9 (by omega))
      · exact Pc.ret (frZ.w f9 (by omega))
    · refine Pc.ite (fun _ => ?_) (fun _ => ?_)
      · exact Pc.ret f9
      · exact Pc.ret f9
theorem zf_X7_readUnit {S : Nat → Hp → Int32 → Option Hp} (hS : ∀ (n : Nat) (h : Hp) (x : Int32), Pc (S n h x) (fun q => frZ (fun x k => (2 ≤ x ∧ x ≤ 22)) h q)) {n : Nat} {h : Hp} {x1 : Int32} : Pc (F_X7_readUnit S n h x1) (fun q => frZ (fun x k => (2 ≤ x ∧ x ≤ 22)) h q) := by
  unfold F_X7_readUnit
  refine Pc.bind zf_X7_kind (fun q1 h2 => ?_)
  have f3 : frZ (fun x k => (2 ≤ x ∧ x ≤ 22)) h q1.2 := frZ.tr (frZ.rf h) (frZ.no h2)
  refine Pc.ite (fun _ => ?_) (fun _ => ?_)
  · refine Pc.bind zf_X9_valueOf (fun q4 h5 => ?_)
    have f6 : frZ (fun x k => (2 ≤ x ∧ x ≤ 22)) h q4.2 := frZ.tr f3 (frZ.no h5)
    refine Pc.bind zf_X4_add (fun q7 h8 => ?_)
    have f9 : frZ (fun x k => (2 ≤ x ∧ x ≤ 22)) h q7 := frZ.tr f6 (frZ.sub h8 (fun x k z => by omega))
    refine Pc.bind zf_X7_take (fun q10 h11 => ?_)
    have f12 : frZ (fun x k => (2 ≤ x ∧ x ≤ 22)) h q10.2 := frZ.tr f9 (frZ.sub h11 (fun x k z => by omega))
    exact Pc.ret f12
  · refine Pc.ite (fun _ => ?_) (fun _ => ?_)
    · refine Pc.ite (fun _ => ?_) (fun _ => ?_)
      · refine Pc.ite (fun _ => ?_) (fun _ => ?_)
        · refine Pc.bind zf_X7_take (fun q13 h14 => ?_)
          have f15 : frZ (fun x k => (2 ≤ x ∧ x ≤ 22)) h q13.2 := frZ.tr f3 (frZ.sub h14 (fun x k z => by omega))
          refine Pc.ite (fun _ => ?_) (fun _ => ?_)
          · exact Pc.ret f15
          · refine Pc.bind (hS _ _ _) (fun q16 h17 => ?_)
            have f18 : frZ (fun x k => (2 ≤ x ∧ x ≤ 22)) h q16 := frZ.tr f15 (frZ.sub h17 (fun x k z => by omega))
            refine Pc.bind zf_X7_take (fun q19 h20 => ?_)
            have f21 : frZ (fun x k => (2 ≤ x ∧ x ≤ 22)) h q19.2 := frZ.tr f18 (frZ.sub h20 (fun x k z => by omega))
            exact Pc.ret f21
        · refine Pc.bind zf_X7_stop (fun q22 h23 => ?_)
          have f24 : frZ (fun x k => (2 ≤ x ∧ x ≤ 22)) h q22 := frZ.tr f3 (frZ.sub h23 (fun x k z => by omega))
          refine Pc.bind zf_X7_take (fun q25 h26 => ?_)
          have f27 : frZ (fun x k => (2 ≤ x ∧ x ≤ 22)) h q25.2 := frZ.tr f24 (frZ.sub h26 (fun x k z => by omega))
          refine Pc.ite (fun _ => ?_) (fun _ => ?_)
          · exact Pc.ret f27
          · refine Pc.bind (hS _ _ _) (fun q28 h29 => ?_)
            have f30 : frZ (fun x k => (2 ≤ x ∧ x ≤ 22)) h q28 := frZ.tr f27 (frZ.sub h29 (fun x k z => by omega))
            refine Pc.bind zf_X7_take (fun q31 h32 => ?_)
            have f33 : frZ (fun x k => (2 ≤ x ∧ x ≤ 22)) h q31.2 := frZ.tr f30 (frZ.sub h32 (fun x k z => by omega))
            exact Pc.ret f33
      · refine Pc.bind zf_X7_stop (fun q34 h35 => ?_)
        have f36 : frZ (fun x k => (2 ≤ x ∧ x ≤ 22)) h q34 := frZ.tr f3 (frZ.sub h35 (fun x k z => by omega))
        exact Pc.ret f36
    · refine Pc.ite (fun _ => ?_) (fun _ => ?_)
      · refine Pc.ite (fun _ => ?_) (fun _ => ?_)
        · refine Pc.ite (fun _ => ?_) (fun _ => ?_)
          · refine Pc.bind zf_X7_take (fun q37 h38 => ?_)
            have f39 : frZ (fun x k => (2 ≤ x ∧ x ≤ 22)) h q37.2 := frZ.tr f3 (frZ.sub h38 (fun x k z => by omega))
            refine Pc.ite (fun _ => ?_) (fun _ => ?_)
            · exact Pc.ret f39
            · refine Pc.bind (hS _ _ _) (fun q40 h41 => ?_)
              have f42 : frZ (fun x k => (2 ≤ x ∧ x ≤ 22)) h q40 := frZ.tr f39 (frZ.sub h41 (fun x k z => by omega))
              refine Pc.bind zf_X7_take (fun q43 h44 => ?_)
              have f45 : frZ (fun x k => (2 ≤ x ∧ x ≤ 22)) h q43.2 := frZ.tr f42 (frZ.sub h44 (fun x k z => by omega))
              exact Pc.ret f45
          · refine Pc.bind zf_X7_stop (fun q46 h47 => ?_)
            have f48 : frZ (fun x k => (2 ≤ x ∧ x ≤ 22)) h q46 := frZ.tr f3 (frZ.sub h47 (fun x k z => by omega))
            refine Pc.bind zf_X7_take (fun q49 h50 => ?_)
            have f51 : frZ (fun x k => (2 ≤ x ∧ x ≤ 22)) h q49.2 := frZ.tr f48 (frZ.sub h50 (fun x k z => by omega))
            refine Pc.ite (fun _ => ?_) (fun _ => ?_)
            · exact Pc.ret f51
            · refine Pc.bind (hS _ _ _) (fun q52 h53 => ?_)
              have f54 : frZ (fun x k => (2 ≤ x ∧ x ≤ 22)) h q52 := frZ.tr f51 (frZ.sub h53 (fun x k z => by omega))
              refine Pc.bind zf_X7_take (fun q55 h56 => ?_)
              have f57 : frZ (fun x k => (2 ≤ x ∧ x ≤ 22)) h q55.2 := frZ.tr f54 (frZ.sub h56 (fun x k z => by omega))
              exact Pc.ret f57
        · refine Pc.bind zf_X7_stop (fun q58 h59 => ?_)
          have f60 : frZ (fun x k => (2 ≤ x ∧ x ≤ 22)) h q58 := frZ.tr f3 (frZ.sub h59 (fun x k z => by omega))
          exact Pc.ret f60
      · refine Pc.bind zf_X4_add (fun q61 h62 => ?_)
        have f63 : frZ (fun x k => (2 ≤ x ∧ x ≤ 22)) h q61 := frZ.tr f3 (frZ.sub h62 (fun x k z => by omega))
        refine Pc.bind zf_X7_take (fun q64 h65 => ?_)
        have f66 : frZ (fun x k => (2 ≤ x ∧ x ≤ 22)) h q64.2 := frZ.tr f63 (frZ.sub h65 (fun x k z => by omega))
        exact Pc.ret f66
theorem zw_X7_readSum {S : Nat → Hp → Int32 → Option Hp} (hS : ∀ (n : Nat) (h : Hp) (x : Int32), Pc (S n h x) (fun q => frZ (fun x k => (2 ≤ x ∧ x ≤ 22)) h q)) : ∀ (n : Nat) (hd : Nat) (h : Hp) (l1 : Int32) (l2 : Int32) (l3 : Int32), Pc (W_X7_readSum S n hd h l1 l2 l3) (fun q => frZ (fun x k => (2 ≤ x ∧ x ≤ 22)) h q) := by
  intro n
  induction n with
  | zero => intro hd h l1 l2 l3; exact Pc.no
  | succ n ih =>
    intro hd h l1 l2 l3
    rw [u_X7_readSum]
    refine Pc.chk (fun _ => ?_)
    refine Pc.ite (fun _ => ?_) (fun _ => ?_)
    · exact Pc.ret (frZ.rf h)
    · refine Pc.ite (fun _ => ?_) (fun _ => ?_)
      · refine Pc.bind zf_X7_kind (fun q2 h3 => ?_)
        have f4 : frZ (fun x k => (2 ≤ x ∧ x ≤ 22)) h q2.2 := frZ.tr (frZ.rf h) (frZ.no h3)
        refine Pc.ite (fun _ => ?_) (fun _ => ?_)
        · refine Pc.bind zf_X7_take (fun q5 h6 => ?_)
          have f7 : frZ (fun x k => (2 ≤ x ∧ x ≤ 22)) h q5.2 := frZ.tr f4 (frZ.sub h6 (fun x k z => by omega))
          refine Pc.bind (zf_X7_readUnit hS) (fun q8 h9 => ?_)
          have f10 : frZ (fun x k => (2 ≤ x ∧ x ≤ 22)) h q8 := frZ.tr f7 (frZ.sub h9 (fun x k z => by omega))
          refine Pc.ite (fun _ => ?_) (fun _ => ?_)
          · refine Pc.bind zf_X4_add (fun q11 h12 => ?_)
            have f13 : frZ (fun x k => (2 ≤ x ∧ x ≤ 22)) h q11 := frZ.tr f10 (frZ.sub h12 (fun x k z => by omega))
            exact Pc.mono (ih _ _ _ _ _) (fun _ hq => frZ.tr f13 (frZ.sub hq (fun x k z => by omega)))
          · refine Pc.bind zf_X4_add (fun q15 h16 => ?_)
            have f17 : frZ (fun x k => (2 ≤ x ∧ x ≤ 22)) h q15 := frZ.tr f10 (frZ.sub h16 (fun x k z => by omega))
            exact Pc.mono (ih _ _ _ _ _) (fun _ hq => frZ.tr f17 (frZ.sub hq (fun x k z => by omega)))
        · refine Pc.ite (fun _ => ?_) (fun _ => ?_)
          · refine Pc.bind zf_X7_take (fun q19 h20 => ?_)
            have f21 : frZ (fun x k => (2 ≤ x ∧ x ≤ 22)) h q19.2 := frZ.tr f4 (frZ.sub h20 (fun x k z => by omega))
            refine Pc.bind (zf_X7_readUnit hS) (fun q22 h23 => ?_)
            have f24 : frZ (fun x k => (2 ≤ x ∧ x ≤ 22)) h q22 := frZ.tr f21 (frZ.sub h23 (fun x k z => by omega))
            refine Pc.ite (fun _ => ?_) (fun _ => ?_)
            · refine Pc.bind zf_X4_add (fun q25 h26 => ?_)
              have f27 : frZ (fun x k => (2 ≤ x ∧ x ≤ 22)) h q25 := frZ.tr f24 (frZ.sub h26 (fun x k z => by omega))
              exact Pc.mono (ih _ _ _ _ _) (fun _ hq => frZ.tr f27 (frZ.sub hq (fun x k z => by omega)))
            · refine Pc.bind zf_X4_add (fun q29 h30 => ?_)
              have f31 : frZ (fun x k => (2 ≤ x ∧ x ≤ 22)) h q29 := frZ.tr f24 (frZ.sub h30 (fun x k z => by omega))
              exact Pc.mono (ih _ _ _ _ _) (fun _ hq => frZ.tr f31 (frZ.sub hq (fun x k z => by omega)))
          · refine Pc.ite (fun _ => ?_) (fun _ => ?_)
            · refine Pc.ite (fun _ => ?_) (fun _ => ?_)
              · refine Pc.bind zf_X7_take (fun q33 h34 => ?_)
                have f35 : frZ (fun x k => (2 ≤ x ∧ x ≤ 22)) h q33.2 := frZ.tr f4 (frZ.sub h34 (fun x k z => by omega))
                refine Pc.bind (zf_X7_readUnit hS) (fun q36 h37 => ?_)
                have f38 : frZ (fun x k => (2 ≤ x ∧ x ≤ 22)) h q36 := frZ.tr f35 (frZ.sub h37 (fun x k z => by omega))
                exact Pc.mono (ih _ _ _ _ _) (fun _ hq => frZ.tr f38 (frZ.sub hq (fun x k z => by omega)))
              · refine Pc.ite (fun _ => ?_) (fun _ => ?_)
                · refine Pc.bind zf_X7_take (fun q40 h41 => ?_)
                  have f42 : frZ (fun x k => (2 ≤ x ∧ x ≤ 22)) h q40.2 := frZ.tr f4 (frZ.sub h41 (fun x k z => by omega))
                  refine Pc.bind (zf_X7_readUnit hS) (fun q43 h44 => ?_)
                  have f45 : frZ (fun x k => (2 ≤ x ∧ x ≤ 22)) h q43 := frZ.tr f42 (frZ.sub h44 (fun x k z => by omega))
                  exact Pc.mono (ih _ _ _ _ _) (fun _ hq => frZ.tr f45 (frZ.sub hq (fun x k z => by omega)))
                · exact Pc.ret f4
            · refine Pc.ite (fun _ => ?_) (fun _ => ?_)
              · refine Pc.bind zf_X4_add (fun q47 h48 => ?_)
                have f49 : frZ (fun x k => (2 ≤ x ∧ x ≤ 22)) h q47 := frZ.tr f4 (frZ.sub h48 (fun x k z => by omega))
                refine Pc.ite (fun _ => ?_) (fun _ => ?_)
                · refine Pc.bind zf_X7_take (fun q50 h51 => ?_)
                  have f52 : frZ (fun x k => (2 ≤ x ∧ x ≤ 22)) h q50.2 := frZ.tr f49 (frZ.sub h51 (fun x k z => by omega))
                  refine Pc.bind (zf_X7_readUnit hS) (fun q53 h54 => ?_)
                  have f55 : frZ (fun x k => (2 ≤ x ∧ x ≤ 22)) h q53 := frZ.tr f52 (frZ.sub h54 (fun x k z => by omega))
                  exact Pc.mono (ih _ _ _ _ _) (fun _ hq => frZ.tr f55 (frZ.sub hq (fun x k z => by omega)))
                · refine Pc.ite (fun _ => ?_) (fun _ => ?_)
                  · refine Pc.bind zf_X7_take (fun q57 h58 => ?_)
                    have f59 : frZ (fun x k => (2 ≤ x ∧ x ≤ 22)) h q57.2 := frZ.tr f49 (frZ.sub h58 (fun x k z => by omega))
                    refine Pc.bind (zf_X7_readUnit hS) (fun q60 h61 => ?_)
                    have f62 : frZ (fun x k => (2 ≤ x ∧ x ≤ 22)) h q60 := frZ.tr f59 (frZ.sub h61 (fun x k z => by omega))
                    exact Pc.mono (ih _ _ _ _ _) (fun _ hq => frZ.tr f62 (frZ.sub hq (fun x k z => by omega)))
                  · exact Pc.ret f49
              · refine Pc.bind zf_X4_add (fun q64 h65 => ?_)
                have f66 : frZ (fun x k => (2 ≤ x ∧ x ≤ 22)) h q64 := frZ.tr f4 (frZ.sub h65 (fun x k z => by omega))
                refine Pc.ite (fun _ => ?_) (fun _ => ?_)
                · refine Pc.bind zf_X7_take (fun q67 h68 => ?_)
                  have f69 : frZ (fun x k => (2 ≤ x ∧ x ≤ 22)) h q67.2 := frZ.tr f66 (frZ.sub h68 (fun x k z => by omega))
                  refine Pc.bind (zf_X7_readUnit hS) (fun q70 h71 => ?_)
                  have f72 : frZ (fun x k => (2 ≤ x ∧ x ≤ 22)) h q70 := frZ.tr f69 (frZ.sub h71 (fun x k z => by omega))
                  exact Pc.mono (ih _ _ _ _ _) (fun _ hq => frZ.tr f72 (frZ.sub hq (fun x k z => by omega)))
                · refine Pc.ite (fun _ => ?_) (fun _ => ?_)
                  · refine Pc.bind zf_X7_take (fun q74 h75 => ?_)
                    have f76 : frZ (fun x k => (2 ≤ x ∧ x ≤ 22)) h q74.2 := frZ.tr f66 (frZ.sub h75 (fun x k z => by omega))
                    refine Pc.bind (zf_X7_readUnit hS) (fun q77 h78 => ?_)
                    have f79 : frZ (fun x k => (2 ≤ x ∧ x ≤ 22)) h q77 := frZ.tr f76 (frZ.sub h78 (fun x k z => by omega))
                    exact Pc.mono (ih _ _ _ _ _) (fun _ hq => frZ.tr f79 (frZ.sub hq (fun x k z => by omega)))
                  · exact Pc.ret f66
      · exact Pc.ret (frZ.rf h)
theorem zf_X7_readSum {S : Nat → Hp → Int32 → Option Hp} (hS : ∀ (n : Nat) (h : Hp) (x : Int32), Pc (S n h x) (fun q => frZ (fun x k => (2 ≤ x ∧ x ≤ 22)) h q)) {n : Nat} {h : Hp} {x1 : Int32} : Pc (F_X7_readSum S n h x1) (fun q => frZ (fun x k => (2 ≤ x ∧ x ≤ 22)) h q) := by
  unfold F_X7_readSum
  refine Pc.bind (zf_X7_readUnit hS) (fun q1 h2 => ?_)
  have f3 : frZ (fun x k => (2 ≤ x ∧ x ≤ 22)) h q1 := frZ.tr (frZ.rf h) (frZ.sub h2 (fun x k z => by omega))
  exact Pc.mono (zw_X7_readSum hS _ _ _ _ _ _) (fun _ hq => frZ.tr f3 (frZ.sub hq (fun x k z => by omega)))
theorem zf_X11_back {n : Nat} {h : Hp} {x1 : Int32} : Pc (F_X11_back n h x1) (fun q => frZ (fun x k => (x = 0 ∧ (k = 1))) h q.2) := by
  unfold F_X11_back
  refine Pc.ite (fun _ => ?_) (fun _ => ?_)
  · exact Pc.ret (frZ.rf h)
  · refine Pc.ite (fun _ => ?_) (fun _ => ?_)
    · exact Pc.ret (frZ.w (frZ.rf h) (by omega))
    · exact Pc.ret (frZ.rf h)
theorem zf_X11_isSpan {n : Nat} {h : Hp} {x1 : Int32} : Pc (F_X11_isSpan n h x1) (fun q => frZ (fun _ _ => False) h q.2) := by
  unfold F_X11_isSpan
  refine Pc.ite (fun _ => ?_) (fun _ => ?_)
  · exact Pc.ret (frZ.rf h)
  · refine Pc.ite (fun _ => ?_) (fun _ => ?_)
    · exact Pc.ret (frZ.rf h)
    · exact Pc.ret (frZ.rf h)
theorem zf_X8_become {n : Nat} {h : Hp} {a : Nat} {b1 : Nat} : Pc (F_X8_become n h a b1) (fun q => frZ (fun x k => x = a ∨ x = a + 1 ∨ x = a + 2 ∨ x = a + 3) h q) := by
  unfold F_X8_become
  exact Pc.ret (frZ.wA (frZ.wA (frZ.wA (frZ.w (frZ.w (frZ.w (frZ.w (frZ.rf h) (by omega)) (by omega)) (by omega)) (by omega)) (fun k => by omega)) (fun k => by omega)) (fun k => by omega))
theorem zf_X6_keep {n : Nat} {h : Hp} {b1 : Nat} : Pc (F_X6_keep n h b1) (fun q => frZ (fun x k => x = 38 ∨ (40 ≤ x ∧ x < 200)) h q) := by
  unfold F_X6_keep
  refine Pc.chk (fun c1 => ?_)
  have := ixO_lt c1
  refine Pc.bind zf_X8_become (fun q2 h3 => ?_)
  have f4 : frZ (fun x k => x = 38 ∨ (40 ≤ x ∧ x < 200)) h q2 := frZ.tr (frZ.w (frZ.rf h) (by omega)) (frZ.sub h3 (fun x k z => by omega))
  exact Pc.ret (frZ.w f4 (by omega))
theorem zf_X0_hasGoer {n : Nat} {h : Hp} {a : Nat} {x1 : Int32} : Pc (F_X0_hasGoer n h a x1) (fun q => frZ (fun _ _ => False) h q.2) := by
  unfold F_X0_hasGoer
  refine Pc.ite (fun _ => ?_) (fun _ => ?_)
  · exact Pc.ret (frZ.rf h)
  · refine Pc.ite (fun _ => ?_) (fun _ => ?_)
    · exact Pc.ret (frZ.rf h)
    · refine Pc.ite (fun _ => ?_) (fun _ => ?_)
      · exact Pc.ret (frZ.rf h)
      · exact Pc.ret (frZ.rf h)
theorem zf_X8_isTuned {n : Nat} {h : Hp} {a : Nat} {x1 : Int32} : Pc (F_X8_isTuned n h a x1) (fun q => frZ (fun _ _ => False) h q.2) := by
  unfold F_X8_isTuned
  refine Pc.ite (fun _ => ?_) (fun _ => ?_)
  · exact Pc.ret (frZ.rf h)
  · refine Pc.ite (fun _ => ?_) (fun _ => ?_)
    · exact Pc.ret (frZ.rf h)
    · refine Pc.ite (fun _ => ?_) (fun _ => ?_)
      · exact Pc.ret (frZ.rf h)
      · exact Pc.ret (frZ.rf h)
theorem zf_X8_beatOf {n : Nat} {h : Hp} {a : Nat} {x1 : Int32} : Pc (F_X8_beatOf n h a x1) (fun q => frZ (fun _ _ => False) h q.2) := by
  unfold F_X8_beatOf
  refine Pc.bind zf_X8_isTuned (fun q1 h2 => ?_)
  have f3 : frZ (fun _ _ => False) h q1.2 := frZ.tr (frZ.rf h) (frZ.no h2)
  refine Pc.ite (fun _ => ?_) (fun _ => ?_)
  · exact Pc.ret f3
  · refine Pc.chk (fun c4 => ?_)
    exact Pc.ret f3
theorem zf_X4_elseOf {n : Nat} {h : Hp} {a : Nat} {x1 : Int32} : Pc (F_X4_elseOf n h a x1) (fun q => frZ (fun _ _ => False) h q.2) := by
  unfold F_X4_elseOf
  refine Pc.ite (fun _ => ?_) (fun _ => ?_)
  · exact Pc.ret (frZ.rf h)
  · refine Pc.ite (fun _ => ?_) (fun _ => ?_)
    · exact Pc.ret (frZ.rf h)
    · refine Pc.chk (fun c1 => ?_)
      exact Pc.ret (frZ.rf h)
theorem zf_X4_reckon {n : Nat} {h : Hp} {x1 : Int32} {x2 : Int32} {x3 : Int32} : Pc (F_X4_reckon n h x1 x2 x3) (fun q => frZ (fun _ _ => False) h q.2) := by
  unfold F_X4_reckon
  refine Pc.ite (fun _ => ?_) (fun _ => ?_)
  · refine Pc.ite (fun _ => ?_) (fun _ => ?_)
    · exact Pc.ret (frZ.rf h)
    · refine Pc.ite (fun _ => ?_) (fun _ => ?_)
      · exact Pc.no
      · exact Pc.ret (frZ.rf h)
  · refine Pc.ite (fun _ => ?_) (fun _ => ?_)
    · exact Pc.ret (frZ.rf h)
    · refine Pc.ite (fun _ => ?_) (fun _ => ?_)
      · exact Pc.ret (frZ.rf h)
      · refine Pc.ite (fun _ => ?_) (fun _ => ?_)
        · exact Pc.ret (frZ.rf h)
        · exact Pc.ret (frZ.rf h)
theorem zw_X4_value : ∀ (n : Nat) (hd : Nat) (h : Hp) (a : Nat) (b2 : Nat) (l1 : Int32) (l3 : Int32) (l4 : Int32) (l5 : Int32), Pc (W_X4_value n hd h a b2 l1 l3 l4 l5) (fun q => frZ (fun x k => x = a + 3) h q.2) := by
  intro n
  induction n with
  | zero => intro hd h a b2 l1 l3 l4 l5; exact Pc.no
  | succ n ih =>
    intro hd h a b2 l1 l3 l4 l5
    rw [u_X4_value]
    refine Pc.chk (fun _ => ?_)
    refine Pc.ite (fun _ => ?_) (fun _ => ?_)
    · exact Pc.ret (frZ.rf h)
    · refine Pc.ite (fun _ => ?_) (fun _ => ?_)
      · exact Pc.ret (frZ.rf h)
      · refine Pc.ite (fun _ => ?_) (fun _ => ?_)
        · exact Pc.ret (frZ.rf h)
        · refine Pc.chk (fun c2 => ?_)
          refine Pc.ite (fun _ => ?_) (fun _ => ?_)
          · refine Pc.ite (fun _ => ?_) (fun _ => ?_)
            · refine Pc.ite (fun _ => ?_) (fun _ => ?_)
              · exact Pc.ret (frZ.rf h)
              · exact Pc.ret (frZ.rf h)
            · refine Pc.ite (fun _ => ?_) (fun _ => ?_)
              · refine Pc.chk (fun c3 => ?_)
                refine Pc.chk (fun c4 => ?_)
                refine Pc.ite (fun _ => ?_) (fun _ => ?_)
                · refine Pc.ite (fun _ => ?_) (fun _ => ?_)
                  · refine Pc.bind zf_X4_elseOf (fun q5 h6 => ?_)
                    have f7 : frZ (fun x k => x = a + 3) h q5.2 := frZ.tr (frZ.rf h) (frZ.no h6)
                    exact Pc.mono (ih _ _ _ _ _ _ _ _) (fun _ hq => frZ.tr f7 (frZ.sub hq (fun x k z => by omega)))
                  · exact Pc.mono (ih _ _ _ _ _ _ _ _) (fun _ hq => frZ.tr (frZ.rf h) (frZ.sub hq (fun x k z => by omega)))
                · refine Pc.ite (fun _ => ?_) (fun _ => ?_)
                  · refine Pc.ite (fun _ => ?_) (fun _ => ?_)
                    · exact Pc.ret (frZ.rf h)
                    · refine Pc.bind zf_X4_reckon (fun q10 h11 => ?_)
                      have f12 : frZ (fun x k => x = a + 3) h q10.2 := frZ.tr (frZ.rf h) (frZ.no h11)
                      refine Pc.chk (fun c13 => ?_)
                      exact Pc.mono (ih _ _ _ _ _ _ _ _) (fun _ hq => frZ.tr (frZ.w f12 (by omega)) (frZ.sub hq (fun x k z => by omega)))
                  · refine Pc.bind zf_X4_reckon (fun q15 h16 => ?_)
                    have f17 : frZ (fun x k => x = a + 3) h q15.2 := frZ.tr (frZ.rf h) (frZ.no h16)
                    refine Pc.chk (fun c18 => ?_)
                    exact Pc.mono (ih _ _ _ _ _ _ _ _) (fun _ hq => frZ.tr (frZ.w f17 (by omega)) (frZ.sub hq (fun x k z => by omega)))
              · exact Pc.ret (frZ.rf h)
          · refine Pc.ite (fun _ => ?_) (fun _ => ?_)
            · exact Pc.ret (frZ.rf h)
            · refine Pc.ite (fun _ => ?_) (fun _ => ?_)
              · refine Pc.ite (fun _ => ?_) (fun _ => ?_)
                · refine Pc.chk (fun c20 => ?_)
                  refine Pc.chk (fun c21 => ?_)
                  exact Pc.mono (ih _ _ _ _ _ _ _ _) (fun _ hq => frZ.tr (frZ.w (frZ.rf h) (by omega)) (frZ.sub hq (fun x k z => by omega)))
                · refine Pc.chk (fun c23 => ?_)
                  exact Pc.mono (ih _ _ _ _ _ _ _ _) (fun _ hq => frZ.tr (frZ.w (frZ.rf h) (by omega)) (frZ.sub hq (fun x k z => by omega)))
              · exact Pc.ret (frZ.rf h)
theorem zf_X4_value {n : Nat} {h : Hp} {a : Nat} {x1 : Int32} {b2 : Nat} : Pc (F_X4_value n h a x1 b2) (fun q => frZ (fun x k => x = a + 3) h q.2) := by
  unfold F_X4_value
  refine Pc.ite (fun _ => ?_) (fun _ => ?_)
  · exact Pc.mono (zw_X4_value _ _ _ _ _ _ _ _ _) (fun _ hq => frZ.tr (frZ.rf h) (frZ.sub hq (fun x k z => by omega)))
  · refine Pc.ite (fun _ => ?_) (fun _ => ?_)
    · exact Pc.mono (zw_X4_value _ _ _ _ _ _ _ _ _) (fun _ hq => frZ.tr (frZ.rf h) (frZ.sub hq (fun x k z => by omega)))
    · refine Pc.chk (fun c3 => ?_)
      exact Pc.mono (zw_X4_value _ _ _ _ _ _ _ _ _) (fun _ hq => frZ.tr (frZ.rf h) (frZ.sub hq (fun x k z => by omega)))
theorem zf_X0_ask {n : Nat} {h : Hp} {a : Nat} {b1 : Nat} {x2 : Int32} {x3 : Int32} {x4 : Int32} {x5 : Int32} : Pc (F_X0_ask n h a b1 x2 x3 x4 x5) (fun q => frZ (fun x k => x = a + 5 ∨ x = a + 6) h q.2) := by
  unfold F_X0_ask
  refine Pc.bind zf_X3_leftOf (fun q1 h2 => ?_)
  have f3 : frZ (fun x k => x = a + 5 ∨ x = a + 6) h q1.2 := frZ.tr (frZ.rf h) (frZ.no h2)
  refine Pc.bind zf_X3_topOf (fun q4 h5 => ?_)
  have f6 : frZ (fun x k => x = a + 5 ∨ x = a + 6) h q4.2 := frZ.tr (frZ.w f3 (by omega)) (frZ.no h5)
  refine Pc.bind zf_X8_beatOf (fun q7 h8 => ?_)
  have f9 : frZ (fun x k => x = a + 5 ∨ x = a + 6) h q7.2 := frZ.tr (frZ.w (frZ.w f6 (by omega)) (by omega)) (frZ.no h8)
  refine Pc.bind zf_J6_bitCount_0f7a4 (fun q10 h11 => ?_)
  have f12 : frZ (fun x k => x = a + 5 ∨ x = a + 6) h q10.2 := frZ.tr (frZ.w (frZ.w (frZ.w (frZ.w (frZ.w f9 (by omega)) (by omega)) (by omega)) (by omega)) (by omega)) (frZ.no h11)
  refine Pc.bind zf_X4_value (fun q13 h14 => ?_)
  have f15 : frZ (fun x k => x = a + 5 ∨ x = a + 6) h q13.2 := frZ.tr (frZ.w f12 (by omega)) (frZ.sub h14 (fun x k z => by omega))
  exact Pc.ret f15
theorem zf_X3_beside {n : Nat} {h : Hp} {a : Nat} {x1 : Int32} {x2 : Int32} : Pc (F_X3_beside n h a x1 x2) (fun q => frZ (fun _ _ => False) h q.2) := by
  unfold F_X3_beside
  refine Pc.bind zf_X3_leftOf (fun q1 h2 => ?_)
  have f3 : frZ (fun _ _ => False) h q1.2 := frZ.tr (frZ.rf h) (frZ.no h2)
  refine Pc.bind zf_X3_topOf (fun q4 h5 => ?_)
  have f6 : frZ (fun _ _ => False) h q4.2 := frZ.tr f3 (frZ.no h5)
  refine Pc.ite (fun _ => ?_) (fun _ => ?_)
  · refine Pc.ite (fun _ => ?_) (fun _ => ?_)
    · exact Pc.ret f6
    · exact Pc.ret f6
  · refine Pc.ite (fun _ => ?_) (fun _ => ?_)
    · refine Pc.ite (fun _ => ?_) (fun _ => ?_)
      · exact Pc.ret f6
      · exact Pc.ret f6
    · refine Pc.ite (fun _ => ?_) (fun _ => ?_)
      · refine Pc.ite (fun _ => ?_) (fun _ => ?_)
        · exact Pc.ret f6
        · exact Pc.ret f6
      · refine Pc.ite (fun _ => ?_) (fun _ => ?_)
        · refine Pc.ite (fun _ => ?_) (fun _ => ?_)
          · exact Pc.ret f6
          · exact Pc.ret f6
        · exact Pc.ret f6
theorem zf_X8_isRoped {n : Nat} {h : Hp} {a : Nat} {x1 : Int32} : Pc (F_X8_isRoped n h a x1) (fun q => frZ (fun _ _ => False) h q.2) := by
  unfold F_X8_isRoped
  refine Pc.ite (fun _ => ?_) (fun _ => ?_)
  · exact Pc.ret (frZ.rf h)
  · exact Pc.ret (frZ.rf h)
theorem zf_X0_whereTo {n : Nat} {h : Hp} {a : Nat} {b1 : Nat} {x2 : Int32} {x3 : Int32} : Pc (F_X0_whereTo n h a b1 x2 x3) (fun q => frZ (fun x k => x = a + 5 ∨ x = a + 6) h q.2) := by
  unfold F_X0_whereTo
  refine Pc.bind zf_X0_hasGoer (fun q1 h2 => ?_)
  have f3 : frZ (fun x k => x = a + 5 ∨ x = a + 6) h q1.2 := frZ.tr (frZ.rf h) (frZ.no h2)
  refine Pc.ite (fun _ => ?_) (fun _ => ?_)
  · exact Pc.ret f3
  · refine Pc.chk (fun c4 => ?_)
    refine Pc.chk (fun c5 => ?_)
    refine Pc.bind zf_X0_ask (fun q6 h7 => ?_)
    have f8 : frZ (fun x k => x = a + 5 ∨ x = a + 6) h q6.2 := frZ.tr f3 (frZ.sub h7 (fun x k z => by omega))
    refine Pc.bind zf_X3_beside (fun q9 h10 => ?_)
    have f11 : frZ (fun x k => x = a + 5 ∨ x = a + 6) h q9.2 := frZ.tr f8 (frZ.no h10)
    refine Pc.bind zf_X8_isRoped (fun q12 h13 => ?_)
    have f14 : frZ (fun x k => x = a + 5 ∨ x = a + 6) h q12.2 := frZ.tr f11 (frZ.no h13)
    refine Pc.ite (fun _ => ?_) (fun _ => ?_)
    · exact Pc.ret f14
    · exact Pc.ret f14
theorem zf_X8_offsetOf {n : Nat} {h : Hp} {a : Nat} {x1 : Int32} : Pc (F_X8_offsetOf n h a x1) (fun q => frZ (fun _ _ => False) h q.2) := by
  unfold F_X8_offsetOf
  refine Pc.bind zf_X8_isTuned (fun q1 h2 => ?_)
  have f3 : frZ (fun _ _ => False) h q1.2 := frZ.tr (frZ.rf h) (frZ.no h2)
  refine Pc.ite (fun _ => ?_) (fun _ => ?_)
  · exact Pc.ret f3
  · refine Pc.chk (fun c4 => ?_)
    exact Pc.ret f3
theorem zf_X8_soundsAt {n : Nat} {h : Hp} {a : Nat} {x1 : Int32} {x2 : Int32} : Pc (F_X8_soundsAt n h a x1 x2) (fun q => frZ (fun _ _ => False) h q.2) := by
  unfold F_X8_soundsAt
  refine Pc.bind zf_X8_beatOf (fun q1 h2 => ?_)
  have f3 : frZ (fun _ _ => False) h q1.2 := frZ.tr (frZ.rf h) (frZ.no h2)
  refine Pc.ite (fun _ => ?_) (fun _ => ?_)
  · exact Pc.ret f3
  · refine Pc.ite (fun _ => ?_) (fun _ => ?_)
    · exact Pc.no
    · refine Pc.bind zf_X8_offsetOf (fun q4 h5 => ?_)
      have f6 : frZ (fun _ _ => False) h q4.2 := frZ.tr f3 (frZ.no h5)
      refine Pc.ite (fun _ => ?_) (fun _ => ?_)
      · exact Pc.ret f6
      · exact Pc.ret f6
theorem zw_X0_walk : ∀ (n : Nat) (hd : Nat) (h : Hp) (a : Nat) (b1 : Nat) (l2 : Int32), Pc (W_X0_walk n hd h a b1 l2) (fun q => frZ (fun x k => x = a + 5 ∨ x = a + 6 ∨ x = b1 ∨ x = b1 + 2 ∨ x = b1 + 3) h q) := by
  intro n
  induction n with
  | zero => intro hd h a b1 l2; exact Pc.no
  | succ n ih =>
    intro hd h a b1 l2
    rw [u_X0_walk]
    refine Pc.ite (fun _ => ?_) (fun _ => ?_)
    · refine Pc.ite (fun _ => ?_) (fun _ => ?_)
      · exact Pc.mono (ih _ _ _ _ _) (fun _ hq => frZ.tr (frZ.w (frZ.rf h) (by omega)) (frZ.sub hq (fun x k z => by omega)))
      · refine Pc.ite (fun _ => ?_) (fun _ => ?_)
        · exact Pc.mono (ih _ _ _ _ _) (fun _ hq => frZ.tr (frZ.w (frZ.rf h) (by omega)) (frZ.sub hq (fun x k z => by omega)))
        · refine Pc.bind zf_X0_whereTo (fun q3 h4 => ?_)
          have f5 : frZ (fun x k => x = a + 5 ∨ x = a + 6 ∨ x = b1 ∨ x = b1 + 2 ∨ x = b1 + 3) h q3.2 := frZ.tr (frZ.rf h) (frZ.sub h4 (fun x k z => by omega))
          refine Pc.chk (fun c6 => ?_)
          exact Pc.mono (ih _ _ _ _ _) (fun _ hq => frZ.tr (frZ.w f5 (by omega)) (frZ.sub hq (fun x k z => by omega)))
    · refine Pc.chk (fun _ => ?_)
      refine Pc.ite (fun _ => ?_) (fun _ => ?_)
      · exact Pc.ret (frZ.rf h)
      · refine Pc.ite (fun _ => ?_) (fun _ => ?_)
        · exact Pc.ret (frZ.rf h)
        · refine Pc.chk (fun c9 => ?_)
          refine Pc.bind zf_X8_soundsAt (fun q10 h11 => ?_)
          have f12 : frZ (fun x k => x = a + 5 ∨ x = a + 6 ∨ x = b1 ∨ x = b1 + 2 ∨ x = b1 + 3) h q10.2 := frZ.tr (frZ.rf h) (frZ.no h11)
          refine Pc.ite (fun _ => ?_) (fun _ => ?_)
          · exact Pc.mono (ih _ _ _ _ _) (fun _ hq => frZ.tr f12 (frZ.sub hq (fun x k z => by omega)))
          · refine Pc.bind zf_X0_whereTo (fun q14 h15 => ?_)
            have f16 : frZ (fun x k => x = a + 5 ∨ x = a + 6 ∨ x = b1 ∨ x = b1 + 2 ∨ x = b1 + 3) h q14.2 := frZ.tr f12 (frZ.sub h15 (fun x k z => by omega))
            refine Pc.chk (fun c17 => ?_)
            refine Pc.chk (fun c18 => ?_)
            refine Pc.chk (fun c19 => ?_)
            exact Pc.mono (ih _ _ _ _ _) (fun _ hq => frZ.tr (frZ.w (frZ.w f16 (by omega)) (by omega)) (frZ.sub hq (fun x k z => by omega)))
theorem zf_X0_walk {n : Nat} {h : Hp} {a : Nat} {b1 : Nat} : Pc (F_X0_walk n h a b1) (fun q => frZ (fun x k => x = a + 5 ∨ x = a + 6 ∨ x = b1 ∨ x = b1 + 2 ∨ x = b1 + 3) h q) := by
  unfold F_X0_walk
  exact Pc.mono (zw_X0_walk _ _ _ _ _ _) (fun _ hq => frZ.tr (frZ.rf h) (frZ.sub hq (fun x k z => by omega)))
theorem zf_X3_quietOnTheRight {n : Nat} {h : Hp} {a : Nat} {x1 : Int32} : Pc (F_X3_quietOnTheRight n h a x1) (fun q => frZ (fun _ _ => False) h q.2) := by
  unfold F_X3_quietOnTheRight
  exact Pc.ret (frZ.rf h)
theorem zf_X0_stirred {n : Nat} {h : Hp} {x1 : Int32} {x2 : Int32} : Pc (F_X0_stirred n h x1 x2) (fun q => frZ (fun _ _ => False) h q.2) := by
  unfold F_X0_stirred
  exact Pc.ret (frZ.rf h)
theorem zf_X0_lot {n : Nat} {h : Hp} {x1 : Int32} {x2 : Int32} {x3 : Int32} : Pc (F_X0_lot n h x1 x2 x3) (fun q => frZ (fun _ _ => False) h q.2) := by
  unfold F_X0_lot
  refine Pc.bind zf_X0_stirred (fun q1 h2 => ?_)
  have f3 : frZ (fun _ _ => False) h q1.2 := frZ.tr (frZ.rf h) (frZ.no h2)
  refine Pc.bind zf_X0_stirred (fun q4 h5 => ?_)
  have f6 : frZ (fun _ _ => False) h q4.2 := frZ.tr f3 (frZ.no h5)
  refine Pc.ite (fun _ => ?_) (fun _ => ?_)
  · exact Pc.ret f6
  · refine Pc.ite (fun _ => ?_) (fun _ => ?_)
    · exact Pc.no
    · exact Pc.ret f6
theorem zf_X0_isWet {n : Nat} {h : Hp} {a : Nat} {x1 : Int32} {x2 : Int32} {x3 : Int32} : Pc (F_X0_isWet n h a x1 x2 x3) (fun q => frZ (fun _ _ => False) h q.2) := by
  unfold F_X0_isWet
  refine Pc.bind zf_X0_lot (fun q1 h2 => ?_)
  have f3 : frZ (fun _ _ => False) h q1.2 := frZ.tr (frZ.rf h) (frZ.no h2)
  refine Pc.ite (fun _ => ?_) (fun _ => ?_)
  · exact Pc.ret f3
  · exact Pc.ret f3
theorem zf_X8_soundIn {n : Nat} {h : Hp} {a : Nat} {x1 : Int32} {x2 : Int32} {x3 : Int32} : Pc (F_X8_soundIn n h a x1 x2 x3) (fun q => frZ (fun x k => x = a ∨ x = a + 1) h q) := by
  unfold F_X8_soundIn
  refine Pc.ite (fun _ => ?_) (fun _ => ?_)
  · exact Pc.ret (frZ.rf h)
  · refine Pc.ite (fun _ => ?_) (fun _ => ?_)
    · exact Pc.ret (frZ.rf h)
    · refine Pc.chk (fun c1 => ?_)
      exact Pc.ret (frZ.w (frZ.w (frZ.rf h) (by omega)) (by omega))
theorem zf_X8_soundFromTheLeft {n : Nat} {h : Hp} {a : Nat} {x1 : Int32} : Pc (F_X8_soundFromTheLeft n h a x1) (fun q => frZ (fun x k => x = a ∨ x = a + 1) h q) := by
  unfold F_X8_soundFromTheLeft
  refine Pc.bind zf_X8_beatOf (fun q1 h2 => ?_)
  have f3 : frZ (fun x k => x = a ∨ x = a + 1) h q1.2 := frZ.tr (frZ.rf h) (frZ.no h2)
  refine Pc.ite (fun _ => ?_) (fun _ => ?_)
  · exact Pc.ret f3
  · refine Pc.bind zf_X8_offsetOf (fun q4 h5 => ?_)
    have f6 : frZ (fun x k => x = a ∨ x = a + 1) h q4.2 := frZ.tr f3 (frZ.no h5)
    refine Pc.ite (fun _ => ?_) (fun _ => ?_)
    · exact Pc.no
    · refine Pc.bind zf_X8_soundIn (fun q7 h8 => ?_)
      have f9 : frZ (fun x k => x = a ∨ x = a + 1) h q7 := frZ.tr f6 (frZ.sub h8 (fun x k z => by omega))
      exact Pc.ret f9
theorem zw_X0_spread : ∀ (n : Nat) (hd : Nat) (h : Hp) (a : Nat) (b1 : Nat) (l2 : Int32) (l3 : Int32) (l4 : Int32) (l5 : Int32) (l6 : Int32), Pc (W_X0_spread n hd h a b1 l2 l3 l4 l5 l6) (fun q => frZ (fun x k => x = a + 5 ∨ x = a + 6 ∨ x = b1 ∨ x = b1 + 1) h q) := by
  intro n
  induction n with
  | zero => intro hd h a b1 l2 l3 l4 l5 l6; exact Pc.no
  | succ n ih =>
    intro hd h a b1 l2 l3 l4 l5 l6
    rw [u_X0_spread]
    refine Pc.ite (fun _ => ?_) (fun _ => ?_)
    · refine Pc.ite (fun _ => ?_) (fun _ => ?_)
      · exact Pc.mono (ih _ _ _ _ _ _ _ _ _) (fun _ hq => frZ.tr (frZ.rf h) (frZ.sub hq (fun x k z => by omega)))
      · refine Pc.ite (fun _ => ?_) (fun _ => ?_)
        · exact Pc.mono (ih _ _ _ _ _ _ _ _ _) (fun _ hq => frZ.tr (frZ.rf h) (frZ.sub hq (fun x k z => by omega)))
        · refine Pc.ite (fun _ => ?_) (fun _ => ?_)
          · exact Pc.mono (ih _ _ _ _ _ _ _ _ _) (fun _ hq => frZ.tr (frZ.rf h) (frZ.sub hq (fun x k z => by omega)))
          · refine Pc.bind zf_X11_lowest (fun q4 h5 => ?_)
            have f6 : frZ (fun x k => x = a + 5 ∨ x = a + 6 ∨ x = b1 ∨ x = b1 + 1) h q4.2 := frZ.tr (frZ.rf h) (frZ.no h5)
            refine Pc.bind zf_X0_isWet (fun q7 h8 => ?_)
            have f9 : frZ (fun x k => x = a + 5 ∨ x = a + 6 ∨ x = b1 ∨ x = b1 + 1) h q7.2 := frZ.tr f6 (frZ.no h8)
            refine Pc.ite (fun _ => ?_) (fun _ => ?_)
            · exact Pc.mono (ih _ _ _ _ _ _ _ _ _) (fun _ hq => frZ.tr f9 (frZ.sub hq (fun x k z => by omega)))
            · refine Pc.bind zf_X0_ask (fun q11 h12 => ?_)
              have f13 : frZ (fun x k => x = a + 5 ∨ x = a + 6 ∨ x = b1 ∨ x = b1 + 1) h q11.2 := frZ.tr f9 (frZ.sub h12 (fun x k z => by omega))
              refine Pc.ite (fun _ => ?_) (fun _ => ?_)
              · exact Pc.mono (ih _ _ _ _ _ _ _ _ _) (fun _ hq => frZ.tr f13 (frZ.sub hq (fun x k z => by omega)))
              · exact Pc.mono (ih _ _ _ _ _ _ _ _ _) (fun _ hq => frZ.tr f13 (frZ.sub hq (fun x k z => by omega)))
    · refine Pc.chk (fun _ => ?_)
      refine Pc.ite (fun _ => ?_) (fun _ => ?_)
      · exact Pc.ret (frZ.rf h)
      · refine Pc.ite (fun _ => ?_) (fun _ => ?_)
        · exact Pc.ret (frZ.rf h)
        · refine Pc.bind zf_X11_lowest (fun q17 h18 => ?_)
          have f19 : frZ (fun x k => x = a + 5 ∨ x = a + 6 ∨ x = b1 ∨ x = b1 + 1) h q17.2 := frZ.tr (frZ.rf h) (frZ.no h18)
          refine Pc.bind zf_X8_soundFromTheLeft (fun q20 h21 => ?_)
          have f22 : frZ (fun x k => x = a + 5 ∨ x = a + 6 ∨ x = b1 ∨ x = b1 + 1) h q20 := frZ.tr f19 (frZ.sub h21 (fun x k z => by omega))
          exact Pc.mono (ih _ _ _ _ _ _ _ _ _) (fun _ hq => frZ.tr f22 (frZ.sub hq (fun x k z => by omega)))
theorem zf_X0_spread {n : Nat} {h : Hp} {a : Nat} {b1 : Nat} {x2 : Int32} : Pc (F_X0_spread n h a b1 x2) (fun q => frZ (fun x k => x = a + 5 ∨ x = a + 6 ∨ x = b1 ∨ x = b1 + 1) h q) := by
  unfold F_X0_spread
  refine Pc.bind zf_J6_bitCount_0f7a4 (fun q1 h2 => ?_)
  have f3 : frZ (fun x k => x = a + 5 ∨ x = a + 6 ∨ x = b1 ∨ x = b1 + 1) h q1.2 := frZ.tr (frZ.rf h) (frZ.no h2)
  refine Pc.bind zf_X3_quietOnTheRight (fun q4 h5 => ?_)
  have f6 : frZ (fun x k => x = a + 5 ∨ x = a + 6 ∨ x = b1 ∨ x = b1 + 1) h q4.2 := frZ.tr f3 (frZ.no h5)
  exact Pc.mono (zw_X0_spread _ _ _ _ _ _ _ _ _ _) (fun _ hq => frZ.tr f6 (frZ.sub hq (fun x k z => by omega)))
theorem zw_X0_goOn : ∀ (n : Nat) (hd : Nat) (h : Hp) (a : Nat) (b1 : Nat) (l2 : Int32) (l3 : Int32), Pc (W_X0_goOn n hd h a b1 l2 l3) (fun q => frZ (fun x k => x = a + 5 ∨ x = a + 6 ∨ x = b1 ∨ x = b1 + 1 ∨ x = b1 + 2 ∨ x = b1 + 3) h q) := by
  intro n
  induction n with
  | zero => intro hd h a b1 l2 l3; exact Pc.no
  | succ n ih =>
    intro hd h a b1 l2 l3
    rw [u_X0_goOn]
    refine Pc.chk (fun _ => ?_)
    refine Pc.ite (fun _ => ?_) (fun _ => ?_)
    · exact Pc.ret (frZ.rf h)
    · refine Pc.bind zf_X0_walk (fun q2 h3 => ?_)
      have f4 : frZ (fun x k => x = a + 5 ∨ x = a + 6 ∨ x = b1 ∨ x = b1 + 1 ∨ x = b1 + 2 ∨ x = b1 + 3) h q2 := frZ.tr (frZ.rf h) (frZ.sub h3 (fun x k z => by omega))
      refine Pc.bind zf_X0_spread (fun q5 h6 => ?_)
      have f7 : frZ (fun x k => x = a + 5 ∨ x = a + 6 ∨ x = b1 ∨ x = b1 + 1 ∨ x = b1 + 2 ∨ x = b1 + 3) h q5 := frZ.tr f4 (frZ.sub h6 (fun x k z => by omega))
      exact Pc.mono (ih _ _ _ _ _ _) (fun _ hq => frZ.tr f7 (frZ.sub hq (fun x k z => by omega)))
theorem zf_X0_goOn {n : Nat} {h : Hp} {a : Nat} {b1 : Nat} {x2 : Int32} : Pc (F_X0_goOn n h a b1 x2) (fun q => frZ (fun x k => x = a + 5 ∨ x = a + 6 ∨ x = b1 ∨ x = b1 + 1 ∨ x = b1 + 2 ∨ x = b1 + 3) h q) := by
  unfold F_X0_goOn
  exact Pc.mono (zw_X0_goOn _ _ _ _ _ _ _) (fun _ hq => frZ.tr (frZ.rf h) (frZ.sub hq (fun x k z => by omega)))
theorem zf_X11_beats {n : Nat} {h : Hp} {x1 : Int32} : Pc (F_X11_beats n h x1) (fun q => frZ (fun x k => (28 ≤ x ∧ x ≤ 33) ∨ x = 38 ∨ (40 ≤ x ∧ x < 200)) h q.2) := by
  unfold F_X11_beats
  refine Pc.bind zf_X11_isSpan (fun q1 h2 => ?_)
  have f3 : frZ (fun x k => (28 ≤ x ∧ x ≤ 33) ∨ x = 38 ∨ (40 ≤ x ∧ x < 200)) h q1.2 := frZ.tr (frZ.rf h) (frZ.no h2)
  refine Pc.ite (fun _ => ?_) (fun _ => ?_)
  · exact Pc.ret f3
  · refine Pc.ite (fun _ => ?_) (fun _ => ?_)
    · exact Pc.ret f3
    · refine Pc.bind zf_X6_keep (fun q4 h5 => ?_)
      have f6 : frZ (fun x k => (28 ≤ x ∧ x ≤ 33) ∨ x = 38 ∨ (40 ≤ x ∧ x < 200)) h q4 := frZ.tr f3 (frZ.sub h5 (fun x k z => by omega))
      refine Pc.bind zf_X0_goOn (fun q7 h8 => ?_)
      have f9 : frZ (fun x k => (28 ≤ x ∧ x ≤ 33) ∨ x = 38 ∨ (40 ≤ x ∧ x < 200)) h q7 := frZ.tr f6 (frZ.sub h8 (fun x k z => by omega))
      exact Pc.ret f9
theorem zf_X3_has {n : Nat} {h : Hp} {a : Nat} {x1 : Int32} : Pc (F_X3_has n h a x1) (fun q => frZ (fun _ _ => False) h q.2) := by
  unfold F_X3_has
  refine Pc.ite (fun _ => ?_) (fun _ => ?_)
  · exact Pc.ret (frZ.rf h)
  · refine Pc.ite (fun _ => ?_) (fun _ => ?_)
    · exact Pc.ret (frZ.rf h)
    · exact Pc.ret (frZ.rf h)
theorem zf_X11_carry {n : Nat} {h : Hp} {x1 : Int32} {x2 : Int32} : Pc (F_X11_carry n h x1 x2) (fun q => frZ (fun x k => x = 32 ∨ x = 38 ∨ (40 ≤ x ∧ x < 200)) h q.2) := by
  unfold F_X11_carry
  refine Pc.bind zf_X0_hasGoer (fun q1 h2 => ?_)
  have f3 : frZ (fun x k => x = 32 ∨ x = 38 ∨ (40 ≤ x ∧ x < 200)) h q1.2 := frZ.tr (frZ.rf h) (frZ.no h2)
  refine Pc.ite (fun _ => ?_) (fun _ => ?_)
  · exact Pc.ret f3
  · refine Pc.bind zf_X3_has (fun q4 h5 => ?_)
    have f6 : frZ (fun x k => x = 32 ∨ x = 38 ∨ (40 ≤ x ∧ x < 200)) h q4.2 := frZ.tr f3 (frZ.no h5)
    refine Pc.ite (fun _ => ?_) (fun _ => ?_)
    · exact Pc.ret f6
    · refine Pc.chk (fun c7 => ?_)
      refine Pc.ite (fun _ => ?_) (fun _ => ?_)
      · exact Pc.ret f6
      · refine Pc.bind zf_X8_isRoped (fun q8 h9 => ?_)
        have f10 : frZ (fun x k => x = 32 ∨ x = 38 ∨ (40 ≤ x ∧ x < 200)) h q8.2 := frZ.tr f6 (frZ.no h9)
        refine Pc.ite (fun _ => ?_) (fun _ => ?_)
        · refine Pc.bind zf_X6_keep (fun q11 h12 => ?_)
          have f13 : frZ (fun x k => x = 32 ∨ x = 38 ∨ (40 ≤ x ∧ x < 200)) h q11 := frZ.tr f10 (frZ.sub h12 (fun x k z => by omega))
          refine Pc.chk (fun c14 => ?_)
          exact Pc.ret (frZ.w f13 (by omega))
        · exact Pc.ret f10
theorem zw_X8_goersIn : ∀ (n : Nat) (hd : Nat) (h : Hp) (a : Nat) (l1 : Int32) (l2 : Int32) (l3 : Int32) (l4 : Int32), Pc (W_X8_goersIn n hd h a l1 l2 l3 l4) (fun q => frZ (fun _ _ => False) h q.2) := by
  intro n
  induction n with
  | zero => intro hd h a l1 l2 l3 l4; exact Pc.no
  | succ n ih =>
    intro hd h a l1 l2 l3 l4
    rw [u_X8_goersIn]
    refine Pc.chk (fun _ => ?_)
    refine Pc.ite (fun _ => ?_) (fun _ => ?_)
    · exact Pc.ret (frZ.rf h)
    · refine Pc.ite (fun _ => ?_) (fun _ => ?_)
      · exact Pc.ret (frZ.rf h)
      · refine Pc.chk (fun c2 => ?_)
        refine Pc.ite (fun _ => ?_) (fun _ => ?_)
        · exact Pc.mono (ih _ _ _ _ _ _ _) (fun _ hq => frZ.tr (frZ.rf h) (frZ.no hq))
        · exact Pc.mono (ih _ _ _ _ _ _ _) (fun _ hq => frZ.tr (frZ.rf h) (frZ.no hq))
theorem zf_X8_goersIn {n : Nat} {h : Hp} {a : Nat} {x1 : Int32} {x2 : Int32} : Pc (F_X8_goersIn n h a x1 x2) (fun q => frZ (fun _ _ => False) h q.2) := by
  unfold F_X8_goersIn
  exact Pc.mono (zw_X8_goersIn _ _ _ _ _ _ _ _) (fun _ hq => frZ.tr (frZ.rf h) (frZ.no hq))
theorem zf_X0_costOf {n : Nat} {h : Hp} {a : Nat} {b1 : Nat} {x2 : Int32} : Pc (F_X0_costOf n h a b1 x2) (fun q => frZ (fun x k => x = a + 5 ∨ x = a + 6) h q.2) := by
  unfold F_X0_costOf
  refine Pc.bind zf_X0_ask (fun q1 h2 => ?_)
  have f3 : frZ (fun x k => x = a + 5 ∨ x = a + 6) h q1.2 := frZ.tr (frZ.rf h) (frZ.sub h2 (fun x k z => by omega))
  exact Pc.ret f3
theorem zf_X11_cell {n : Nat} {h : Hp} {x1 : Int32} {x2 : Int32} : Pc (F_X11_cell n h x1 x2) (fun q => frZ (fun x k => (28 ≤ x ∧ x ≤ 29)) h q.2) := by
  unfold F_X11_cell
  refine Pc.bind zf_X3_has (fun q1 h2 => ?_)
  have f3 : frZ (fun x k => (28 ≤ x ∧ x ≤ 29)) h q1.2 := frZ.tr (frZ.rf h) (frZ.no h2)
  refine Pc.ite (fun _ => ?_) (fun _ => ?_)
  · exact Pc.ret f3
  · refine Pc.bind zf_X8_isTuned (fun q4 h5 => ?_)
    have f6 : frZ (fun x k => (28 ≤ x ∧ x ≤ 29)) h q4.2 := frZ.tr f3 (frZ.no h5)
    refine Pc.ite (fun _ => ?_) (fun _ => ?_)
    · refine Pc.ite (fun _ => ?_) (fun _ => ?_)
      · exact Pc.ret f6
      · refine Pc.bind zf_X8_beatOf (fun q7 h8 => ?_)
        have f9 : frZ (fun x k => (28 ≤ x ∧ x ≤ 29)) h q7.2 := frZ.tr f6 (frZ.no h8)
        exact Pc.ret f9
    · refine Pc.ite (fun _ => ?_) (fun _ => ?_)
      · refine Pc.ite (fun _ => ?_) (fun _ => ?_)
        · exact Pc.ret f6
        · refine Pc.bind zf_X8_offsetOf (fun q10 h11 => ?_)
          have f12 : frZ (fun x k => (28 ≤ x ∧ x ≤ 29)) h q10.2 := frZ.tr f6 (frZ.no h11)
          exact Pc.ret f12
      · refine Pc.ite (fun _ => ?_) (fun _ => ?_)
        · refine Pc.bind zf_X8_soundsAt (fun q13 h14 => ?_)
          have f15 : frZ (fun x k => (28 ≤ x ∧ x ≤ 29)) h q13.2 := frZ.tr f6 (frZ.no h14)
          refine Pc.ite (fun _ => ?_) (fun _ => ?_)
          · exact Pc.ret f15
          · exact Pc.ret f15
        · refine Pc.ite (fun _ => ?_) (fun _ => ?_)
          · refine Pc.bind zf_X8_isRoped (fun q16 h17 => ?_)
            have f18 : frZ (fun x k => (28 ≤ x ∧ x ≤ 29)) h q16.2 := frZ.tr f6 (frZ.no h17)
            refine Pc.ite (fun _ => ?_) (fun _ => ?_)
            · exact Pc.ret f18
            · exact Pc.ret f18
          · refine Pc.ite (fun _ => ?_) (fun _ => ?_)
            · refine Pc.bind zf_X8_goersIn (fun q19 h20 => ?_)
              have f21 : frZ (fun x k => (28 ≤ x ∧ x ≤ 29)) h q19.2 := frZ.tr f6 (frZ.no h20)
              exact Pc.ret f21
            · refine Pc.ite (fun _ => ?_) (fun _ => ?_)
              · refine Pc.bind zf_X0_costOf (fun q22 h23 => ?_)
                have f24 : frZ (fun x k => (28 ≤ x ∧ x ≤ 29)) h q22.2 := frZ.tr f6 (frZ.sub h23 (fun x k z => by omega))
                exact Pc.ret f24
              · exact Pc.ret f6
theorem zf_X11_isNoughtOrOne {n : Nat} {h : Hp} {x1 : Int32} : Pc (F_X11_isNoughtOrOne n h x1) (fun q => frZ (fun _ _ => False) h q.2) := by
  unfold F_X11_isNoughtOrOne
  refine Pc.ite (fun _ => ?_) (fun _ => ?_)
  · exact Pc.ret (frZ.rf h)
  · refine Pc.ite (fun _ => ?_) (fun _ => ?_)
    · exact Pc.ret (frZ.rf h)
    · exact Pc.ret (frZ.rf h)
theorem zf_X3_grown {n : Nat} {h : Hp} {a : Nat} {x1 : Int32} : Pc (F_X3_grown n h a x1) (fun q => frZ (fun _ _ => False) h q.2) := by
  unfold F_X3_grown
  exact Pc.ret (frZ.rf h)
theorem zw_X3_farthest : ∀ (n : Nat) (hd : Nat) (h : Hp) (a : Nat) (l1 : Int32) (l2 : Int32) (l3 : Int32) (l4 : Int32), Pc (W_X3_farthest n hd h a l1 l2 l3 l4) (fun q => frZ (fun _ _ => False) h q.2) := by
  intro n
  induction n with
  | zero => intro hd h a l1 l2 l3 l4; exact Pc.no
  | succ n ih =>
    intro hd h a l1 l2 l3 l4
    rw [u_X3_farthest]
    refine Pc.chk (fun _ => ?_)
    refine Pc.ite (fun _ => ?_) (fun _ => ?_)
    · exact Pc.ret (frZ.rf h)
    · refine Pc.ite (fun _ => ?_) (fun _ => ?_)
      · exact Pc.ret (frZ.rf h)
      · refine Pc.bind zf_X3_grown (fun q2 h3 => ?_)
        have f4 : frZ (fun _ _ => False) h q2.2 := frZ.tr (frZ.rf h) (frZ.no h3)
        exact Pc.mono (ih _ _ _ _ _ _ _) (fun _ hq => frZ.tr f4 (frZ.no hq))
theorem zf_X3_farthest {n : Nat} {h : Hp} {a : Nat} {x1 : Int32} {x2 : Int32} : Pc (F_X3_farthest n h a x1 x2) (fun q => frZ (fun _ _ => False) h q.2) := by
  unfold F_X3_farthest
  exact Pc.mono (zw_X3_farthest _ _ _ _ _ _ _ _) (fun _ hq => frZ.tr (frZ.rf h) (frZ.no hq))
theorem zw_X11_centre : ∀ (n : Nat) (hd : Nat) (h : Hp) (l1 : Int32) (l2 : Int32) (l3 : Int32) (l4 : Int32) (l5 : Int32), Pc (W_X11_centre n hd h l1 l2 l3 l4 l5) (fun q => frZ (fun _ _ => False) h q.2) := by
  intro n
  induction n with
  | zero => intro hd h l1 l2 l3 l4 l5; exact Pc.no
  | succ n ih =>
    intro hd h l1 l2 l3 l4 l5
    rw [u_X11_centre]
    refine Pc.chk (fun _ => ?_)
    refine Pc.ite (fun _ => ?_) (fun _ => ?_)
    · refine Pc.ite (fun _ => ?_) (fun _ => ?_)
      · exact Pc.ret (frZ.rf h)
      · exact Pc.ret (frZ.rf h)
    · refine Pc.ite (fun _ => ?_) (fun _ => ?_)
      · exact Pc.mono (ih _ _ _ _ _ _ _) (fun _ hq => frZ.tr (frZ.rf h) (frZ.no hq))
      · refine Pc.bind zf_X3_farthest (fun q3 h4 => ?_)
        have f5 : frZ (fun _ _ => False) h q3.2 := frZ.tr (frZ.rf h) (frZ.no h4)
        refine Pc.ite (fun _ => ?_) (fun _ => ?_)
        · exact Pc.mono (ih _ _ _ _ _ _ _) (fun _ hq => frZ.tr f5 (frZ.no hq))
        · refine Pc.ite (fun _ => ?_) (fun _ => ?_)
          · exact Pc.mono (ih _ _ _ _ _ _ _) (fun _ hq => frZ.tr f5 (frZ.no hq))
          · exact Pc.mono (ih _ _ _ _ _ _ _) (fun _ hq => frZ.tr f5 (frZ.no hq))
theorem zf_X11_centre {n : Nat} {h : Hp} {x1 : Int32} : Pc (F_X11_centre n h x1) (fun q => frZ (fun _ _ => False) h q.2) := by
  unfold F_X11_centre
  refine Pc.bind zf_X11_isNoughtOrOne (fun q1 h2 => ?_)
  have f3 : frZ (fun _ _ => False) h q1.2 := frZ.tr (frZ.rf h) (frZ.no h2)
  refine Pc.ite (fun _ => ?_) (fun _ => ?_)
  · exact Pc.ret f3
  · exact Pc.mono (zw_X11_centre _ _ _ _ _ _ _ _) (fun _ hq => frZ.tr f3 (frZ.no hq))
theorem zw_X8_loudAt : ∀ (n : Nat) (hd : Nat) (h : Hp) (a : Nat) (l1 : Int32) (l2 : Int32) (l3 : Int32) (l4 : Int32), Pc (W_X8_loudAt n hd h a l1 l2 l3 l4) (fun q => frZ (fun _ _ => False) h q.2) := by
  intro n
  induction n with
  | zero => intro hd h a l1 l2 l3 l4; exact Pc.no
  | succ n ih =>
    intro hd h a l1 l2 l3 l4
    rw [u_X8_loudAt]
    refine Pc.chk (fun _ => ?_)
    refine Pc.ite (fun _ => ?_) (fun _ => ?_)
    · exact Pc.ret (frZ.rf h)
    · refine Pc.ite (fun _ => ?_) (fun _ => ?_)
      · exact Pc.ret (frZ.rf h)
      · refine Pc.bind zf_X11_lowest (fun q2 h3 => ?_)
        have f4 : frZ (fun _ _ => False) h q2.2 := frZ.tr (frZ.rf h) (frZ.no h3)
        refine Pc.bind zf_X8_soundsAt (fun q5 h6 => ?_)
        have f7 : frZ (fun _ _ => False) h q5.2 := frZ.tr f4 (frZ.no h6)
        refine Pc.ite (fun _ => ?_) (fun _ => ?_)
        · exact Pc.mono (ih _ _ _ _ _ _ _) (fun _ hq => frZ.tr f7 (frZ.no hq))
        · exact Pc.mono (ih _ _ _ _ _ _ _) (fun _ hq => frZ.tr f7 (frZ.no hq))
theorem zf_X8_loudAt {n : Nat} {h : Hp} {a : Nat} {x1 : Int32} : Pc (F_X8_loudAt n h a x1) (fun q => frZ (fun _ _ => False) h q.2) := by
  unfold F_X8_loudAt
  exact Pc.mono (zw_X8_loudAt _ _ _ _ _ _ _ _) (fun _ hq => frZ.tr (frZ.rf h) (frZ.no hq))
theorem zw_X11_chorus : ∀ (n : Nat) (hd : Nat) (h : Hp) (l1 : Int32) (l2 : Int32) (l3 : Int32) (l4 : Int32), Pc (W_X11_chorus n hd h l1 l2 l3 l4) (fun q => frZ (fun _ _ => False) h q.2) := by
  intro n
  induction n with
  | zero => intro hd h l1 l2 l3 l4; exact Pc.no
  | succ n ih =>
    intro hd h l1 l2 l3 l4
    rw [u_X11_chorus]
    refine Pc.chk (fun _ => ?_)
    refine Pc.ite (fun _ => ?_) (fun _ => ?_)
    · refine Pc.ite (fun _ => ?_) (fun _ => ?_)
      · exact Pc.ret (frZ.rf h)
      · exact Pc.ret (frZ.rf h)
    · refine Pc.bind zf_X8_loudAt (fun q2 h3 => ?_)
      have f4 : frZ (fun _ _ => False) h q2.2 := frZ.tr (frZ.rf h) (frZ.no h3)
      refine Pc.bind zf_J6_bitCount_0f7a4 (fun q5 h6 => ?_)
      have f7 : frZ (fun _ _ => False) h q5.2 := frZ.tr f4 (frZ.no h6)
      refine Pc.ite (fun _ => ?_) (fun _ => ?_)
      · exact Pc.mono (ih _ _ _ _ _ _) (fun _ hq => frZ.tr f7 (frZ.no hq))
      · exact Pc.mono (ih _ _ _ _ _ _) (fun _ hq => frZ.tr f7 (frZ.no hq))
theorem zf_X11_chorus {n : Nat} {h : Hp} {x1 : Int32} : Pc (F_X11_chorus n h x1) (fun q => frZ (fun _ _ => False) h q.2) := by
  unfold F_X11_chorus
  refine Pc.bind zf_X11_isNoughtOrOne (fun q1 h2 => ?_)
  have f3 : frZ (fun _ _ => False) h q1.2 := frZ.tr (frZ.rf h) (frZ.no h2)
  refine Pc.ite (fun _ => ?_) (fun _ => ?_)
  · exact Pc.ret f3
  · exact Pc.mono (zw_X11_chorus _ _ _ _ _ _ _) (fun _ hq => frZ.tr f3 (frZ.no hq))
theorem zw_X11_costsOfTunes : ∀ (n : Nat) (hd : Nat) (h : Hp) (l1 : Int32) (l2 : Int32), Pc (W_X11_costsOfTunes n hd h l1 l2) (fun q => frZ (fun x k => (28 ≤ x ∧ x ≤ 29)) h q.2) := by
  intro n
  induction n with
  | zero => intro hd h l1 l2; exact Pc.no
  | succ n ih =>
    intro hd h l1 l2
    rw [u_X11_costsOfTunes]
    refine Pc.chk (fun _ => ?_)
    refine Pc.ite (fun _ => ?_) (fun _ => ?_)
    · exact Pc.ret (frZ.rf h)
    · refine Pc.bind zf_X8_isTuned (fun q2 h3 => ?_)
      have f4 : frZ (fun x k => (28 ≤ x ∧ x ≤ 29)) h q2.2 := frZ.tr (frZ.rf h) (frZ.no h3)
      refine Pc.ite (fun _ => ?_) (fun _ => ?_)
      · exact Pc.mono (ih _ _ _ _) (fun _ hq => frZ.tr f4 (frZ.sub hq (fun x k z => by omega)))
      · refine Pc.bind zf_X0_costOf (fun q6 h7 => ?_)
        have f8 : frZ (fun x k => (28 ≤ x ∧ x ≤ 29)) h q6.2 := frZ.tr f4 (frZ.sub h7 (fun x k z => by omega))
        exact Pc.mono (ih _ _ _ _) (fun _ hq => frZ.tr f8 (frZ.sub hq (fun x k z => by omega)))
theorem zf_X11_costsOfTunes {n : Nat} {h : Hp} : Pc (F_X11_costsOfTunes n h) (fun q => frZ (fun x k => (28 ≤ x ∧ x ≤ 29)) h q.2) := by
  unfold F_X11_costsOfTunes
  exact Pc.mono (zw_X11_costsOfTunes _ _ _ _ _) (fun _ hq => frZ.tr (frZ.rf h) (frZ.sub hq (fun x k z => by omega)))
theorem zw_X8_stoodOn : ∀ (n : Nat) (hd : Nat) (h : Hp) (a : Nat) (l1 : Int32) (l2 : Int32) (l3 : Int32), Pc (W_X8_stoodOn n hd h a l1 l2 l3) (fun q => frZ (fun _ _ => False) h q.2) := by
  intro n
  induction n with
  | zero => intro hd h a l1 l2 l3; exact Pc.no
  | succ n ih =>
    intro hd h a l1 l2 l3
    rw [u_X8_stoodOn]
    refine Pc.chk (fun _ => ?_)
    refine Pc.ite (fun _ => ?_) (fun _ => ?_)
    · exact Pc.ret (frZ.rf h)
    · refine Pc.ite (fun _ => ?_) (fun _ => ?_)
      · exact Pc.ret (frZ.rf h)
      · refine Pc.chk (fun c2 => ?_)
        exact Pc.mono (ih _ _ _ _ _ _) (fun _ hq => frZ.tr (frZ.rf h) (frZ.no hq))
theorem zf_X8_stoodOn {n : Nat} {h : Hp} {a : Nat} {x1 : Int32} : Pc (F_X8_stoodOn n h a x1) (fun q => frZ (fun _ _ => False) h q.2) := by
  unfold F_X8_stoodOn
  exact Pc.mono (zw_X8_stoodOn _ _ _ _ _ _ _) (fun _ hq => frZ.tr (frZ.rf h) (frZ.no hq))
theorem zw_X11_movedInAll : ∀ (n : Nat) (hd : Nat) (h : Hp) (l1 : Int32) (l2 : Int32), Pc (W_X11_movedInAll n hd h l1 l2) (fun q => frZ (fun _ _ => False) h q.2) := by
  intro n
  induction n with
  | zero => intro hd h l1 l2; exact Pc.no
  | succ n ih =>
    intro hd h l1 l2
    rw [u_X11_movedInAll]
    refine Pc.chk (fun _ => ?_)
    refine Pc.ite (fun _ => ?_) (fun _ => ?_)
    · exact Pc.ret (frZ.rf h)
    · refine Pc.ite (fun _ => ?_) (fun _ => ?_)
      · exact Pc.ret (frZ.rf h)
      · refine Pc.chk (fun c2 => ?_)
        exact Pc.mono (ih _ _ _ _) (fun _ hq => frZ.tr (frZ.rf h) (frZ.no hq))
theorem zf_X11_movedInAll {n : Nat} {h : Hp} : Pc (F_X11_movedInAll n h) (fun q => frZ (fun _ _ => False) h q.2) := by
  unfold F_X11_movedInAll
  exact Pc.mono (zw_X11_movedInAll _ _ _ _ _) (fun _ hq => frZ.tr (frZ.rf h) (frZ.no hq))
theorem zw_X11_everMoved : ∀ (n : Nat) (hd : Nat) (h : Hp) (l1 : Int32) (l2 : Int32), Pc (W_X11_everMoved n hd h l1 l2) (fun q => frZ (fun _ _ => False) h q.2) := by
  intro n
  induction n with
  | zero => intro hd h l1 l2; exact Pc.no
  | succ n ih =>
    intro hd h l1 l2
    rw [u_X11_everMoved]
    refine Pc.chk (fun _ => ?_)
    refine Pc.ite (fun _ => ?_) (fun _ => ?_)
    · exact Pc.ret (frZ.rf h)
    · refine Pc.ite (fun _ => ?_) (fun _ => ?_)
      · exact Pc.ret (frZ.rf h)
      · refine Pc.chk (fun c2 => ?_)
        refine Pc.ite (fun _ => ?_) (fun _ => ?_)
        · exact Pc.mono (ih _ _ _ _) (fun _ hq => frZ.tr (frZ.rf h) (frZ.no hq))
        · exact Pc.mono (ih _ _ _ _) (fun _ hq => frZ.tr (frZ.rf h) (frZ.no hq))
theorem zf_X11_everMoved {n : Nat} {h : Hp} : Pc (F_X11_everMoved n h) (fun q => frZ (fun _ _ => False) h q.2) := by
  unfold F_X11_everMoved
  exact Pc.mono (zw_X11_everMoved _ _ _ _ _) (fun _ hq => frZ.tr (frZ.rf h) (frZ.no hq))
theorem zf_X11_count {n : Nat} {h : Hp} {x1 : Int32} : Pc (F_X11_count n h x1) (fun q => frZ (fun x k => (28 ≤ x ∧ x ≤ 29)) h q.2) := by
  unfold F_X11_count
  refine Pc.ite (fun _ => ?_) (fun _ => ?_)
  · exact Pc.ret (frZ.rf h)
  · refine Pc.ite (fun _ => ?_) (fun _ => ?_)
    · exact Pc.ret (frZ.rf h)
    · refine Pc.ite (fun _ => ?_) (fun _ => ?_)
      · exact Pc.ret (frZ.rf h)
      · refine Pc.ite (fun _ => ?_) (fun _ => ?_)
        · exact Pc.ret (frZ.rf h)
        · refine Pc.ite (fun _ => ?_) (fun _ => ?_)
          · exact Pc.ret (frZ.rf h)
          · refine Pc.ite (fun _ => ?_) (fun _ => ?_)
            · exact Pc.ret (frZ.rf h)
            · refine Pc.ite (fun _ => ?_) (fun _ => ?_)
              · exact Pc.ret (frZ.rf h)
              · refine Pc.ite (fun _ => ?_) (fun _ => ?_)
                · refine Pc.bind zf_X8_stoodOn (fun q1 h2 => ?_)
                  have f3 : frZ (fun x k => (28 ≤ x ∧ x ≤ 29)) h q1.2 := frZ.tr (frZ.rf h) (frZ.no h2)
                  exact Pc.ret f3
                · refine Pc.ite (fun _ => ?_) (fun _ => ?_)
                  · exact Pc.ret (frZ.rf h)
                  · refine Pc.ite (fun _ => ?_) (fun _ => ?_)
                    · exact Pc.ret (frZ.rf h)
                    · refine Pc.ite (fun _ => ?_) (fun _ => ?_)
                      · exact Pc.ret (frZ.rf h)
                      · refine Pc.ite (fun _ => ?_) (fun _ => ?_)
                        · refine Pc.bind zf_J6_bitCount_0f7a4 (fun q4 h5 => ?_)
                          have f6 : frZ (fun x k => (28 ≤ x ∧ x ≤ 29)) h q4.2 := frZ.tr (frZ.rf h) (frZ.no h5)
                          exact Pc.ret f6
                        · refine Pc.ite (fun _ => ?_) (fun _ => ?_)
                          · refine Pc.bind zf_X8_loudAt (fun q7 h8 => ?_)
                            have f9 : frZ (fun x k => (28 ≤ x ∧ x ≤ 29)) h q7.2 := frZ.tr (frZ.rf h) (frZ.no h8)
                            exact Pc.ret f9
                          · refine Pc.ite (fun _ => ?_) (fun _ => ?_)
                            · refine Pc.bind zf_X11_movedInAll (fun q10 h11 => ?_)
                              have f12 : frZ (fun x k => (28 ≤ x ∧ x ≤ 29)) h q10.2 := frZ.tr (frZ.rf h) (frZ.no h11)
                              exact Pc.ret f12
                            · refine Pc.ite (fun _ => ?_) (fun _ => ?_)
                              · refine Pc.bind zf_J6_bitCount_0f7a4 (fun q13 h14 => ?_)
                                have f15 : frZ (fun x k => (28 ≤ x ∧ x ≤ 29)) h q13.2 := frZ.tr (frZ.rf h) (frZ.no h14)
                                exact Pc.ret f15
                              · refine Pc.ite (fun _ => ?_) (fun _ => ?_)
                                · refine Pc.bind zf_X11_costsOfTunes (fun q16 h17 => ?_)
                                  have f18 : frZ (fun x k => (28 ≤ x ∧ x ≤ 29)) h q16.2 := frZ.tr (frZ.rf h) (frZ.sub h17 (fun x k z => by omega))
                                  exact Pc.ret f18
                                · refine Pc.ite (fun _ => ?_) (fun _ => ?_)
                                  · refine Pc.bind zf_X8_stoodOn (fun q19 h20 => ?_)
                                    have f21 : frZ (fun x k => (28 ≤ x ∧ x ≤ 29)) h q19.2 := frZ.tr (frZ.rf h) (frZ.no h20)
                                    exact Pc.ret f21
                                  · refine Pc.ite (fun _ => ?_) (fun _ => ?_)
                                    · refine Pc.bind zf_J6_bitCount_0f7a4 (fun q22 h23 => ?_)
                                      have f24 : frZ (fun x k => (28 ≤ x ∧ x ≤ 29)) h q22.2 := frZ.tr (frZ.rf h) (frZ.no h23)
                                      exact Pc.ret f24
                                    · refine Pc.ite (fun _ => ?_) (fun _ => ?_)
                                      · refine Pc.bind zf_X11_everMoved (fun q25 h26 => ?_)
                                        have f27 : frZ (fun x k => (28 ≤ x ∧ x ≤ 29)) h q25.2 := frZ.tr (frZ.rf h) (frZ.no h26)
                                        exact Pc.ret f27
                                      · refine Pc.ite (fun _ => ?_) (fun _ => ?_)
                                        · exact Pc.ret (frZ.rf h)
                                        · exact Pc.ret (frZ.rf h)
theorem zw_X3_steps : ∀ (n : Nat) (hd : Nat) (h : Hp) (a : Nat) (l1 : Int32) (l2 : Int32) (l3 : Int32) (l4 : Int32) (l5 : Int32), Pc (W_X3_steps n hd h a l1 l2 l3 l4 l5) (fun q => frZ (fun _ _ => False) h q.2) := by
  intro n
  induction n with
  | zero => intro hd h a l1 l2 l3 l4 l5; exact Pc.no
  | succ n ih =>
    intro hd h a l1 l2 l3 l4 l5
    rw [u_X3_steps]
    refine Pc.chk (fun _ => ?_)
    refine Pc.ite (fun _ => ?_) (fun _ => ?_)
    · exact Pc.ret (frZ.rf h)
    · refine Pc.ite (fun _ => ?_) (fun _ => ?_)
      · refine Pc.bind zf_X3_grown (fun q2 h3 => ?_)
        have f4 : frZ (fun _ _ => False) h q2.2 := frZ.tr (frZ.rf h) (frZ.no h3)
        exact Pc.mono (ih _ _ _ _ _ _ _ _) (fun _ hq => frZ.tr f4 (frZ.no hq))
      · exact Pc.ret (frZ.rf h)
theorem zf_X3_steps {n : Nat} {h : Hp} {a : Nat} {x1 : Int32} {x2 : Int32} {x3 : Int32} : Pc (F_X3_steps n h a x1 x2 x3) (fun q => frZ (fun _ _ => False) h q.2) := by
  unfold F_X3_steps
  exact Pc.mono (zw_X3_steps _ _ _ _ _ _ _ _ _) (fun _ hq => frZ.tr (frZ.rf h) (frZ.no hq))
theorem zf_X11_far {n : Nat} {h : Hp} {x1 : Int32} {x2 : Int32} : Pc (F_X11_far n h x1 x2) (fun q => frZ (fun _ _ => False) h q.2) := by
  unfold F_X11_far
  refine Pc.bind zf_X3_has (fun q1 h2 => ?_)
  have f3 : frZ (fun _ _ => False) h q1.2 := frZ.tr (frZ.rf h) (frZ.no h2)
  refine Pc.ite (fun _ => ?_) (fun _ => ?_)
  · exact Pc.ret f3
  · refine Pc.bind zf_X3_has (fun q4 h5 => ?_)
    have f6 : frZ (fun _ _ => False) h q4.2 := frZ.tr f3 (frZ.no h5)
    refine Pc.ite (fun _ => ?_) (fun _ => ?_)
    · exact Pc.ret f6
    · refine Pc.bind zf_X3_steps (fun q7 h8 => ?_)
      have f9 : frZ (fun _ _ => False) h q7.2 := frZ.tr f6 (frZ.no h8)
      refine Pc.ite (fun _ => ?_) (fun _ => ?_)
      · exact Pc.ret f9
      · exact Pc.ret f9
theorem zw_X11_putOnTape : ∀ (n : Nat) (hd : Nat) (h : Hp) (l1 : Int32) (l2 : Int32), Pc (W_X11_putOnTape n hd h l1 l2) (fun q => frZ (fun x k => x = 1 ∨ (x = 0 ∧ (k = 1))) h q) := by
  intro n
  induction n with
  | zero => intro hd h l1 l2; exact Pc.no
  | succ n ih =>
    intro hd h l1 l2
    rw [u_X11_putOnTape]
    refine Pc.chk (fun _ => ?_)
    refine Pc.ite (fun _ => ?_) (fun _ => ?_)
    · exact Pc.ret (frZ.rf h)
    · refine Pc.ite (fun _ => ?_) (fun _ => ?_)
      · exact Pc.ret (frZ.rf h)
      · refine Pc.chk (fun c2 => ?_)
        exact Pc.mono (ih _ _ _ _) (fun _ hq => frZ.tr (frZ.w (frZ.w (frZ.rf h) (by omega)) (by omega)) (frZ.sub hq (fun x k z => by omega)))
theorem zf_X11_putOnTape {n : Nat} {h : Hp} {x1 : Int32} : Pc (F_X11_putOnTape n h x1) (fun q => frZ (fun x k => x = 1 ∨ (x = 0 ∧ (k = 1))) h q) := by
  unfold F_X11_putOnTape
  exact Pc.mono (zw_X11_putOnTape _ _ _ _ _) (fun _ hq => frZ.tr (frZ.rf h) (frZ.sub hq (fun x k z => by omega)))
theorem zf_X11_feed {n : Nat} {h : Hp} {x1 : Int32} {x2 : Int32} {x3 : Int32} {x4 : Int32} {x5 : Int32} : Pc (F_X11_feed n h x1 x2 x3 x4 x5) (fun q => frZ (fun x k => x = 1 ∨ (x = 0 ∧ (k = 1))) h q.2) := by
  unfold F_X11_feed
  refine Pc.ite (fun _ => ?_) (fun _ => ?_)
  · refine Pc.bind zf_X11_putOnTape (fun q1 h2 => ?_)
    have f3 : frZ (fun x k => x = 1 ∨ (x = 0 ∧ (k = 1))) h q1 := frZ.tr (frZ.rf h) (frZ.sub h2 (fun x k z => by omega))
    refine Pc.bind zf_X11_putOnTape (fun q4 h5 => ?_)
    have f6 : frZ (fun x k => x = 1 ∨ (x = 0 ∧ (k = 1))) h q4 := frZ.tr f3 (frZ.sub h5 (fun x k z => by omega))
    refine Pc.bind zf_X11_putOnTape (fun q7 h8 => ?_)
    have f9 : frZ (fun x k => x = 1 ∨ (x = 0 ∧ (k = 1))) h q7 := frZ.tr f6 (frZ.sub h8 (fun x k z => by omega))
    refine Pc.bind zf_X11_putOnTape (fun q10 h11 => ?_)
    have f12 : frZ (fun x k => x = 1 ∨ (x = 0 ∧ (k = 1))) h q10 := frZ.tr f9 (frZ.sub h11 (fun x k z => by omega))
    refine Pc.bind zf_X11_putOnTape (fun q13 h14 => ?_)
    have f15 : frZ (fun x k => x = 1 ∨ (x = 0 ∧ (k = 1))) h q13 := frZ.tr f12 (frZ.sub h14 (fun x k z => by omega))
    exact Pc.ret f15
  · exact Pc.ret (frZ.rf h)
theorem zf_X2_knows {n : Nat} {h : Hp} {x1 : Int32} : Pc (F_X2_knows n h x1) (fun q => frZ (fun _ _ => False) h q.2) := by
  unfold F_X2_knows
  refine Pc.ite (fun _ => ?_) (fun _ => ?_)
  · exact Pc.ret (frZ.rf h)
  · refine Pc.ite (fun _ => ?_) (fun _ => ?_)
    · exact Pc.ret (frZ.rf h)
    · exact Pc.ret (frZ.rf h)
theorem zw_X2_soundingAt : ∀ (n : Nat) (hd : Nat) (h : Hp) (l0 : Int32) (l1 : Int32) (l2 : Int32) (l3 : Int32), Pc (W_X2_soundingAt n hd h l0 l1 l2 l3) (fun q => frZ (fun _ _ => False) h q.2) := by
  intro n
  induction n with
  | zero => intro hd h l0 l1 l2 l3; exact Pc.no
  | succ n ih =>
    intro hd h l0 l1 l2 l3
    rw [u_X2_soundingAt]
    refine Pc.chk (fun _ => ?_)
    refine Pc.ite (fun _ => ?_) (fun _ => ?_)
    · exact Pc.ret (frZ.rf h)
    · refine Pc.ite (fun _ => ?_) (fun _ => ?_)
      · exact Pc.no
      · exact Pc.mono (ih _ _ _ _ _ _) (fun _ hq => frZ.tr (frZ.rf h) (frZ.no hq))
theorem zf_X2_soundingAt {n : Nat} {h : Hp} {x1 : Int32} : Pc (F_X2_soundingAt n h x1) (fun q => frZ (fun _ _ => False) h q.2) := by
  unfold F_X2_soundingAt
  exact Pc.mono (zw_X2_soundingAt _ _ _ _ _ _ _) (fun _ hq => frZ.tr (frZ.rf h) (frZ.no hq))
theorem zw_X2_fitting : ∀ (n : Nat) (hd : Nat) (h : Hp) (l1 : Int32) (l2 : Int32) (l3 : Int32), Pc (W_X2_fitting n hd h l1 l2 l3) (fun q => frZ (fun _ _ => False) h q.2) := by
  intro n
  induction n with
  | zero => intro hd h l1 l2 l3; exact Pc.no
  | succ n ih =>
    intro hd h l1 l2 l3
    rw [u_X2_fitting]
    refine Pc.chk (fun _ => ?_)
    refine Pc.ite (fun _ => ?_) (fun _ => ?_)
    · exact Pc.ret (frZ.rf h)
    · refine Pc.ite (fun _ => ?_) (fun _ => ?_)
      · exact Pc.ret (frZ.rf h)
      · refine Pc.ite (fun _ => ?_) (fun _ => ?_)
        · exact Pc.ret (frZ.rf h)
        · refine Pc.chk (fun c2 => ?_)
          refine Pc.bind zf_X2_soundingAt (fun q3 h4 => ?_)
          have f5 : frZ (fun _ _ => False) h q3.2 := frZ.tr (frZ.rf h) (frZ.no h4)
          refine Pc.chk (fun c6 => ?_)
          refine Pc.ite (fun _ => ?_) (fun _ => ?_)
          · exact Pc.mono (ih _ _ _ _ _) (fun _ hq => frZ.tr f5 (frZ.no hq))
          · exact Pc.mono (ih _ _ _ _ _) (fun _ hq => frZ.tr f5 (frZ.no hq))
theorem zf_X2_fitting {n : Nat} {h : Hp} {x1 : Int32} : Pc (F_X2_fitting n h x1) (fun q => frZ (fun _ _ => False) h q.2) := by
  unfold F_X2_fitting
  exact Pc.mono (zw_X2_fitting _ _ _ _ _ _) (fun _ hq => frZ.tr (frZ.rf h) (frZ.no hq))
theorem zw_X2_firstTune : ∀ (n : Nat) (hd : Nat) (h : Hp) (l0 : Int32) (l1 : Int32) (l2 : Int32) (l3 : Int32), Pc (W_X2_firstTune n hd h l0 l1 l2 l3) (fun q => frZ (fun _ _ => False) h q.2) := by
  intro n
  induction n with
  | zero => intro hd h l0 l1 l2 l3; exact Pc.no
  | succ n ih =>
    intro hd h l0 l1 l2 l3
    rw [u_X2_firstTune]
    refine Pc.chk (fun _ => ?_)
    refine Pc.ite (fun _ => ?_) (fun _ => ?_)
    · exact Pc.ret (frZ.rf h)
    · refine Pc.ite (fun _ => ?_) (fun _ => ?_)
      · exact Pc.mono (ih _ _ _ _ _ _) (fun _ hq => frZ.tr (frZ.rf h) (frZ.no hq))
      · exact Pc.ret (frZ.rf h)
theorem zf_X2_firstTune {n : Nat} {h : Hp} {x1 : Int32} : Pc (F_X2_firstTune n h x1) (fun q => frZ (fun _ _ => False) h q.2) := by
  unfold F_X2_firstTune
  refine Pc.bind zf_X11_lowest (fun q1 h2 => ?_)
  have f3 : frZ (fun _ _ => False) h q1.2 := frZ.tr (frZ.rf h) (frZ.no h2)
  exact Pc.mono (zw_X2_firstTune _ _ _ _ _ _ _) (fun _ hq => frZ.tr f3 (frZ.no hq))
theorem zf_X11_fits {n : Nat} {h : Hp} {x1 : Int32} {x2 : Int32} : Pc (F_X11_fits n h x1 x2) (fun q => frZ (fun _ _ => False) h q.2) := by
  unfold F_X11_fits
  refine Pc.bind zf_X2_knows (fun q1 h2 => ?_)
  have f3 : frZ (fun _ _ => False) h q1.2 := frZ.tr (frZ.rf h) (frZ.no h2)
  refine Pc.ite (fun _ => ?_) (fun _ => ?_)
  · exact Pc.ret f3
  · refine Pc.bind zf_X11_isNoughtOrOne (fun q4 h5 => ?_)
    have f6 : frZ (fun _ _ => False) h q4.2 := frZ.tr f3 (frZ.no h5)
    refine Pc.ite (fun _ => ?_) (fun _ => ?_)
    · exact Pc.ret f6
    · refine Pc.bind zf_X2_fitting (fun q7 h8 => ?_)
      have f9 : frZ (fun _ _ => False) h q7.2 := frZ.tr f6 (frZ.no h8)
      refine Pc.ite (fun _ => ?_) (fun _ => ?_)
      · refine Pc.bind zf_J6_bitCount_0f7a4 (fun q10 h11 => ?_)
        have f12 : frZ (fun _ _ => False) h q10.2 := frZ.tr f9 (frZ.no h11)
        exact Pc.ret f12
      · refine Pc.bind zf_X2_firstTune (fun q13 h14 => ?_)
        have f15 : frZ (fun _ _ => False) h q13.2 := frZ.tr f9 (frZ.no h14)
        exact Pc.ret f15
theorem zf_X2_clear {n : Nat} {h : Hp} : Pc (F_X2_clear n h) (fun q => frZ (fun x k => x = 201) h q) := by
  unfold F_X2_clear
  exact Pc.ret (frZ.w (frZ.rf h) (by omega))
theorem zf_X11_forget {n : Nat} {h : Hp} : Pc (F_X11_forget n h) (fun q => frZ (fun x k => x = 201) h q.2) := by
  unfold F_X11_forget
  refine Pc.bind zf_X2_clear (fun q1 h2 => ?_)
  have f3 : frZ (fun x k => x = 201) h q1 := frZ.tr (frZ.rf h) (frZ.sub h2 (fun x k z => by omega))
  exact Pc.ret f3
theorem zf_X11_goer {n : Nat} {h : Hp} {x1 : Int32} {x2 : Int32} : Pc (F_X11_goer n h x1 x2) (fun q => frZ (fun x k => (28 ≤ x ∧ x ≤ 29)) h q.2) := by
  unfold F_X11_goer
  refine Pc.bind zf_X0_hasGoer (fun q1 h2 => ?_)
  have f3 : frZ (fun x k => (28 ≤ x ∧ x ≤ 29)) h q1.2 := frZ.tr (frZ.rf h) (frZ.no h2)
  refine Pc.ite (fun _ => ?_) (fun _ => ?_)
  · exact Pc.ret f3
  · refine Pc.ite (fun _ => ?_) (fun _ => ?_)
    · refine Pc.chk (fun c4 => ?_)
      exact Pc.ret f3
    · refine Pc.ite (fun _ => ?_) (fun _ => ?_)
      · refine Pc.chk (fun c5 => ?_)
        exact Pc.ret f3
      · refine Pc.ite (fun _ => ?_) (fun _ => ?_)
        · refine Pc.bind zf_X0_whereTo (fun q6 h7 => ?_)
          have f8 : frZ (fun x k => (28 ≤ x ∧ x ≤ 29)) h q6.2 := frZ.tr f3 (frZ.sub h7 (fun x k z => by omega))
          exact Pc.ret f8
        · refine Pc.ite (fun _ => ?_) (fun _ => ?_)
          · refine Pc.bind zf_X0_whereTo (fun q9 h10 => ?_)
            have f11 : frZ (fun x k => (28 ≤ x ∧ x ≤ 29)) h q9.2 := frZ.tr f3 (frZ.sub h10 (fun x k z => by omega))
            exact Pc.ret f11
          · exact Pc.ret f3
theorem zf_X11_hold {n : Nat} {h : Hp} {x1 : Int32} : Pc (F_X11_hold n h x1) (fun q => frZ (fun x k => (x = 0 ∧ (k = 10)) ∨ (214 ≤ x ∧ x < 226)) h q.2) := by
  unfold F_X11_hold
  refine Pc.ite (fun _ => ?_) (fun _ => ?_)
  · exact Pc.ret (frZ.rf h)
  · refine Pc.ite (fun _ => ?_) (fun _ => ?_)
    · refine Pc.chk (fun c1 => ?_)
      have := ixO_lt c1
      refine Pc.bind zf_X8_become (fun q2 h3 => ?_)
      have f4 : frZ (fun x k => (x = 0 ∧ (k = 10)) ∨ (214 ≤ x ∧ x < 226)) h q2 := frZ.tr (frZ.rf h) (frZ.sub h3 (fun x k z => by omega))
      exact Pc.ret (frZ.w f4 (by omega))
    · exact Pc.ret (frZ.rf h)
theorem zf_X11_isFree {n : Nat} {h : Hp} {x1 : Int32} : Pc (F_X11_isFree n h x1) (fun q => frZ (fun _ _ => False) h q.2) := by
  unfold F_X11_isFree
  refine Pc.bind zf_X3_has (fun q1 h2 => ?_)
  have f3 : frZ (fun _ _ => False) h q1.2 := frZ.tr (frZ.rf h) (frZ.no h2)
  refine Pc.ite (fun _ => ?_) (fun _ => ?_)
  · exact Pc.ret f3
  · refine Pc.bind zf_X8_isRoped (fun q4 h5 => ?_)
    have f6 : frZ (fun _ _ => False) h q4.2 := frZ.tr f3 (frZ.no h5)
    refine Pc.ite (fun _ => ?_) (fun _ => ?_)
    · exact Pc.ret f6
    · exact Pc.ret f6
theorem zw_J7_fill_60 : ∀ (n : Nat) (hd : Nat) (h : Hp) (b1 : Nat) (l1 : Int32) (l2 : Int32) (l3 : Int32), Pc (W_J7_fill_60 n hd h b1 l1 l2 l3) (fun q => frZ (fun x k => x = b1) h q) := by
  intro n
  induction n with
  | zero => intro hd h b1 l1 l2 l3; exact Pc.no
  | succ n ih =>
    intro hd h b1 l1 l2 l3
    rw [u_J7_fill_60]
    refine Pc.chk (fun _ => ?_)
    refine Pc.ite (fun _ => ?_) (fun _ => ?_)
    · exact Pc.ret (frZ.rf h)
    · refine Pc.chk (fun c2 => ?_)
      exact Pc.mono (ih _ _ _ _ _ _) (fun _ hq => frZ.tr (frZ.w (frZ.rf h) (by omega)) (frZ.sub hq (fun x k z => by omega)))
theorem zf_J7_fill_60 {n : Nat} {h : Hp} {b1 : Nat} {x2 : Int32} : Pc (F_J7_fill_60 n h b1 x2) (fun q => frZ (fun x k => x = b1) h q) := by
  unfold F_J7_fill_60
  exact Pc.mono (zw_J7_fill_60 _ _ _ _ _ _ _) (fun _ hq => frZ.tr (frZ.rf h) (frZ.sub hq (fun x k z => by omega)))
theorem zw_X10_look : ∀ (n : Nat) (hd : Nat) (h : Hp) (b1 : Nat) (l2 : Int32) (l3 : Int32) (l4 : Int32) (l5 : Int32) (l6 : Int32), Pc (W_X10_look n hd h b1 l2 l3 l4 l5 l6) (fun q => frZ (fun x k => x = 205) h q) := by
  intro n
  induction n with
  | zero => intro hd h b1 l2 l3 l4 l5 l6; exact Pc.no
  | succ n ih =>
    intro hd h b1 l2 l3 l4 l5 l6
    rw [u_X10_look]
    refine Pc.ite (fun _ => ?_) (fun _ => ?_)
    · refine Pc.ite (fun _ => ?_) (fun _ => ?_)
      · exact Pc.ret (frZ.rf h)
      · refine Pc.ite (fun _ => ?_) (fun _ => ?_)
        · exact Pc.ret (frZ.rf h)
        · refine Pc.bind zf_X11_lowest (fun q1 h2 => ?_)
          have f3 : frZ (fun x k => x = 205) h q1.2 := frZ.tr (frZ.rf h) (frZ.no h2)
          refine Pc.bind zf_X8_beatOf (fun q4 h5 => ?_)
          have f6 : frZ (fun x k => x = 205) h q4.2 := frZ.tr f3 (frZ.no h5)
          refine Pc.bind zf_X8_offsetOf (fun q7 h8 => ?_)
          have f9 : frZ (fun x k => x = 205) h q7.2 := frZ.tr f6 (frZ.no h8)
          exact Pc.mono (ih _ _ _ _ _ _ _ _) (fun _ hq => frZ.tr f9 (frZ.sub hq (fun x k z => by omega)))
    · refine Pc.chk (fun _ => ?_)
      refine Pc.ite (fun _ => ?_) (fun _ => ?_)
      · exact Pc.mono (ih _ _ _ _ _ _ _ _) (fun _ hq => frZ.tr (frZ.rf h) (frZ.sub hq (fun x k z => by omega)))
      · refine Pc.ite (fun _ => ?_) (fun _ => ?_)
        · exact Pc.mono (ih _ _ _ _ _ _ _ _) (fun _ hq => frZ.tr (frZ.rf h) (frZ.sub hq (fun x k z => by omega)))
        · refine Pc.chk (fun c14 => ?_)
          refine Pc.chk (fun c15 => ?_)
          exact Pc.mono (ih _ _ _ _ _ _ _ _) (fun _ hq => frZ.tr (frZ.w (frZ.rf h) (by omega)) (frZ.sub hq (fun x k z => by omega)))
theorem zf_X10_look {n : Nat} {h : Hp} {b1 : Nat} : Pc (F_X10_look n h b1) (fun q => frZ (fun x k => (204 ≤ x ∧ x ≤ 205)) h q) := by
  unfold F_X10_look
  refine Pc.bind zf_J7_fill_60 (fun q1 h2 => ?_)
  have f3 : frZ (fun x k => (204 ≤ x ∧ x ≤ 205)) h q1 := frZ.tr (frZ.w (frZ.w (frZ.rf h) (by omega)) (by omega)) (frZ.sub h2 (fun x k z => by omega))
  exact Pc.mono (zw_X10_look _ _ _ _ _ _ _ _ _) (fun _ hq => frZ.tr f3 (frZ.sub hq (fun x k z => by omega)))
theorem zf_J9_floorMod_7cf53 {n : Nat} {h : Hp} {x1 : Int32} {x2 : Int32} : Pc (F_J9_floorMod_7cf53 n h x1 x2) (fun q => frZ (fun _ _ => False) h q.2) := by
  unfold F_J9_floorMod_7cf53
  refine Pc.ite (fun _ => ?_) (fun _ => ?_)
  · exact Pc.no
  · refine Pc.ite (fun _ => ?_) (fun _ => ?_)
    · exact Pc.ret (frZ.rf h)
    · refine Pc.ite (fun _ => ?_) (fun _ => ?_)
      · exact Pc.ret (frZ.rf h)
      · exact Pc.ret (frZ.rf h)
theorem zf_X10_quietAt {n : Nat} {h : Hp} {x1 : Int32} {x2 : Int32} : Pc (F_X10_quietAt n h x1 x2) (fun q => frZ (fun _ _ => False) h q.2) := by
  unfold F_X10_quietAt
  refine Pc.bind zf_J9_floorMod_7cf53 (fun q1 h2 => ?_)
  have f3 : frZ (fun _ _ => False) h q1.2 := frZ.tr (frZ.rf h) (frZ.no h2)
  refine Pc.chk (fun c4 => ?_)
  exact Pc.ret f3
theorem zf_X10_onwards {n : Nat} {h : Hp} {x1 : Int32} {x2 : Int32} {x3 : Int32} : Pc (F_X10_onwards n h x1 x2 x3) (fun q => frZ (fun _ _ => False) h q.2) := by
  unfold F_X10_onwards
  refine Pc.bind zf_X3_grown (fun q1 h2 => ?_)
  have f3 : frZ (fun _ _ => False) h q1.2 := frZ.tr (frZ.rf h) (frZ.no h2)
  refine Pc.bind zf_X10_quietAt (fun q4 h5 => ?_)
  have f6 : frZ (fun _ _ => False) h q4.2 := frZ.tr f3 (frZ.no h5)
  exact Pc.ret f6
theorem zw_X10_fewest : ∀ (n : Nat) (hd : Nat) (h : Hp) (l1 : Int32) (l2 : Int32) (l3 : Int32) (l4 : Int32) (l5 : Int32) (l6 : Int32) (l7 : Int32), Pc (W_X10_fewest n hd h l1 l2 l3 l4 l5 l6 l7) (fun q => frZ (fun _ _ => False) h q.2) := by
  intro n
  induction n with
  | zero => intro hd h l1 l2 l3 l4 l5 l6 l7; exact Pc.no
  | succ n ih =>
    intro hd h l1 l2 l3 l4 l5 l6 l7
    rw [u_X10_fewest]
    refine Pc.chk (fun _ => ?_)
    refine Pc.ite (fun _ => ?_) (fun _ => ?_)
    · exact Pc.ret (frZ.rf h)
    · refine Pc.ite (fun _ => ?_) (fun _ => ?_)
      · exact Pc.ret (frZ.rf h)
      · refine Pc.ite (fun _ => ?_) (fun _ => ?_)
        · refine Pc.bind zf_X10_onwards (fun q2 h3 => ?_)
          have f4 : frZ (fun _ _ => False) h q2.2 := frZ.tr (frZ.rf h) (frZ.no h3)
          exact Pc.mono (ih _ _ _ _ _ _ _ _ _) (fun _ hq => frZ.tr f4 (frZ.no hq))
        · exact Pc.ret (frZ.rf h)
theorem zf_X10_fewest {n : Nat} {h : Hp} {x1 : Int32} {x2 : Int32} {x3 : Int32} {x4 : Int32} {x5 : Int32} : Pc (F_X10_fewest n h x1 x2 x3 x4 x5) (fun q => frZ (fun _ _ => False) h q.2) := by
  unfold F_X10_fewest
  exact Pc.mono (zw_X10_fewest _ _ _ _ _ _ _ _ _ _) (fun _ hq => frZ.tr (frZ.rf h) (frZ.no hq))
theorem zw_X10_bestWait : ∀ (n : Nat) (hd : Nat) (h : Hp) (l1 : Int32) (l2 : Int32) (l3 : Int32) (l4 : Int32) (l5 : Int32), Pc (W_X10_bestWait n hd h l1 l2 l3 l4 l5) (fun q => frZ (fun _ _ => False) h q.2) := by
  intro n
  induction n with
  | zero => intro hd h l1 l2 l3 l4 l5; exact Pc.no
  | succ n ih =>
    intro hd h l1 l2 l3 l4 l5
    rw [u_X10_bestWait]
    refine Pc.chk (fun _ => ?_)
    refine Pc.ite (fun _ => ?_) (fun _ => ?_)
    · exact Pc.ret (frZ.rf h)
    · refine Pc.bind zf_X10_fewest (fun q2 h3 => ?_)
      have f4 : frZ (fun _ _ => False) h q2.2 := frZ.tr (frZ.rf h) (frZ.no h3)
      refine Pc.ite (fun _ => ?_) (fun _ => ?_)
      · exact Pc.mono (ih _ _ _ _ _ _ _) (fun _ hq => frZ.tr f4 (frZ.no hq))
      · exact Pc.mono (ih _ _ _ _ _ _ _) (fun _ hq => frZ.tr f4 (frZ.no hq))
theorem zf_X10_bestWait {n : Nat} {h : Hp} {x1 : Int32} {x2 : Int32} : Pc (F_X10_bestWait n h x1 x2) (fun q => frZ (fun _ _ => False) h q.2) := by
  unfold F_X10_bestWait
  exact Pc.mono (zw_X10_bestWait _ _ _ _ _ _ _ _) (fun _ hq => frZ.tr (frZ.rf h) (frZ.no hq))
theorem zf_X11_leave {n : Nat} {h : Hp} {x1 : Int32} {x2 : Int32} {x3 : Int32} : Pc (F_X11_leave n h x1 x2 x3) (fun q => frZ (fun x k => (204 ≤ x ∧ x ≤ 205)) h q.2) := by
  unfold F_X11_leave
  refine Pc.bind zf_X11_isFree (fun q1 h2 => ?_)
  have f3 : frZ (fun x k => (204 ≤ x ∧ x ≤ 205)) h q1.2 := frZ.tr (frZ.rf h) (frZ.no h2)
  refine Pc.ite (fun _ => ?_) (fun _ => ?_)
  · exact Pc.ret f3
  · refine Pc.bind zf_X11_isFree (fun q4 h5 => ?_)
    have f6 : frZ (fun x k => (204 ≤ x ∧ x ≤ 205)) h q4.2 := frZ.tr f3 (frZ.no h5)
    refine Pc.ite (fun _ => ?_) (fun _ => ?_)
    · exact Pc.ret f6
    · refine Pc.bind zf_X11_isNoughtOrOne (fun q7 h8 => ?_)
      have f9 : frZ (fun x k => (204 ≤ x ∧ x ≤ 205)) h q7.2 := frZ.tr f6 (frZ.no h8)
      refine Pc.ite (fun _ => ?_) (fun _ => ?_)
      · exact Pc.ret f9
      · refine Pc.bind zf_X10_look (fun q10 h11 => ?_)
        have f12 : frZ (fun x k => (204 ≤ x ∧ x ≤ 205)) h q10 := frZ.tr f9 (frZ.sub h11 (fun x k z => by omega))
        refine Pc.bind zf_X10_bestWait (fun q13 h14 => ?_)
        have f15 : frZ (fun x k => (204 ≤ x ∧ x ≤ 205)) h q13.2 := frZ.tr f12 (frZ.no h14)
        refine Pc.ite (fun _ => ?_) (fun _ => ?_)
        · exact Pc.ret f15
        · refine Pc.ite (fun _ => ?_) (fun _ => ?_)
          · exact Pc.ret f15
          · refine Pc.bind zf_X10_fewest (fun q16 h17 => ?_)
            have f18 : frZ (fun x k => (204 ≤ x ∧ x ≤ 205)) h q16.2 := frZ.tr f15 (frZ.no h17)
            exact Pc.ret f18
theorem zw_X2_bestTime : ∀ (n : Nat) (hd : Nat) (h : Hp) (l0 : Int32) (l1 : Int32) (l2 : Int32) (l3 : Int32), Pc (W_X2_bestTime n hd h l0 l1 l2 l3) (fun q => frZ (fun _ _ => False) h q.2) := by
  intro n
  induction n with
  | zero => intro hd h l0 l1 l2 l3; exact Pc.no
  | succ n ih =>
    intro hd h l0 l1 l2 l3
    rw [u_X2_bestTime]
    refine Pc.chk (fun _ => ?_)
    refine Pc.ite (fun _ => ?_) (fun _ => ?_)
    · exact Pc.ret (frZ.rf h)
    · refine Pc.ite (fun _ => ?_) (fun _ => ?_)
      · exact Pc.ret (frZ.rf h)
      · refine Pc.bind zf_X2_soundingAt (fun q2 h3 => ?_)
        have f4 : frZ (fun _ _ => False) h q2.2 := frZ.tr (frZ.rf h) (frZ.no h3)
        refine Pc.bind zf_J6_bitCount_0f7a4 (fun q5 h6 => ?_)
        have f7 : frZ (fun _ _ => False) h q5.2 := frZ.tr f4 (frZ.no h6)
        refine Pc.bind zf_J6_bitCount_0f7a4 (fun q8 h9 => ?_)
        have f10 : frZ (fun _ _ => False) h q8.2 := frZ.tr f7 (frZ.no h9)
        refine Pc.ite (fun _ => ?_) (fun _ => ?_)
        · exact Pc.mono (ih _ _ _ _ _ _) (fun _ hq => frZ.tr f10 (frZ.no hq))
        · exact Pc.mono (ih _ _ _ _ _ _) (fun _ hq => frZ.tr f10 (frZ.no hq))
theorem zf_X2_bestTime {n : Nat} {h : Hp} {x1 : Int32} : Pc (F_X2_bestTime n h x1) (fun q => frZ (fun _ _ => False) h q.2) := by
  unfold F_X2_bestTime
  refine Pc.bind zf_J6_bitCount_0f7a4 (fun q1 h2 => ?_)
  have f3 : frZ (fun _ _ => False) h q1.2 := frZ.tr (frZ.rf h) (frZ.no h2)
  exact Pc.mono (zw_X2_bestTime _ _ _ _ _ _ _) (fun _ hq => frZ.tr f3 (frZ.no hq))
theorem zf_X11_listen {n : Nat} {h : Hp} {x1 : Int32} : Pc (F_X11_listen n h x1) (fun q => frZ (fun _ _ => False) h q.2) := by
  unfold F_X11_listen
  refine Pc.bind zf_X2_knows (fun q1 h2 => ?_)
  have f3 : frZ (fun _ _ => False) h q1.2 := frZ.tr (frZ.rf h) (frZ.no h2)
  refine Pc.ite (fun _ => ?_) (fun _ => ?_)
  · exact Pc.ret f3
  · refine Pc.bind zf_X2_fitting (fun q4 h5 => ?_)
    have f6 : frZ (fun _ _ => False) h q4.2 := frZ.tr f3 (frZ.no h5)
    refine Pc.bind zf_X2_bestTime (fun q7 h8 => ?_)
    have f9 : frZ (fun _ _ => False) h q7.2 := frZ.tr f6 (frZ.no h8)
    exact Pc.ret f9
theorem zf_X11_loud {n : Nat} {h : Hp} {x1 : Int32} : Pc (F_X11_loud n h x1) (fun q => frZ (fun _ _ => False) h q.2) := by
  unfold F_X11_loud
  refine Pc.bind zf_X11_isSpan (fun q1 h2 => ?_)
  have f3 : frZ (fun _ _ => False) h q1.2 := frZ.tr (frZ.rf h) (frZ.no h2)
  refine Pc.ite (fun _ => ?_) (fun _ => ?_)
  · exact Pc.ret f3
  · refine Pc.bind zf_X8_loudAt (fun q4 h5 => ?_)
    have f6 : frZ (fun _ _ => False) h q4.2 := frZ.tr f3 (frZ.no h5)
    exact Pc.ret f6
theorem zw_X10_findMeeting : ∀ (n : Nat) (hd : Nat) (h : Hp) (l1 : Int32) (l2 : Int32) (l3 : Int32) (l4 : Int32) (l5 : Int32), Pc (W_X10_findMeeting n hd h l1 l2 l3 l4 l5) (fun q => frZ (fun x k => x = 204) h q.2) := by
  intro n
  induction n with
  | zero => intro hd h l1 l2 l3 l4 l5; exact Pc.no
  | succ n ih =>
    intro hd h l1 l2 l3 l4 l5
    rw [u_X10_findMeeting]
    refine Pc.chk (fun _ => ?_)
    refine Pc.ite (fun _ => ?_) (fun _ => ?_)
    · exact Pc.ret (frZ.rf h)
    · refine Pc.ite (fun _ => ?_) (fun _ => ?_)
      · refine Pc.bind zf_X10_onwards (fun q2 h3 => ?_)
        have f4 : frZ (fun x k => x = 204) h q2.2 := frZ.tr (frZ.rf h) (frZ.no h3)
        refine Pc.bind zf_X10_onwards (fun q5 h6 => ?_)
        have f7 : frZ (fun x k => x = 204) h q5.2 := frZ.tr f4 (frZ.no h6)
        exact Pc.mono (ih _ _ _ _ _ _ _) (fun _ hq => frZ.tr f7 (frZ.sub hq (fun x k z => by omega)))
      · refine Pc.bind zf_X11_lowest (fun q9 h10 => ?_)
        have f11 : frZ (fun x k => x = 204) h q9.2 := frZ.tr (frZ.w (frZ.rf h) (by omega)) (frZ.no h10)
        exact Pc.ret (frZ.w f11 (by omega))
theorem zf_X10_findMeeting {n : Nat} {h : Hp} {x1 : Int32} {x2 : Int32} : Pc (F_X10_findMeeting n h x1 x2) (fun q => frZ (fun x k => x = 204) h q.2) := by
  unfold F_X10_findMeeting
  exact Pc.mono (zw_X10_findMeeting _ _ _ _ _ _ _ _) (fun _ hq => frZ.tr (frZ.rf h) (frZ.sub hq (fun x k z => by omega)))
theorem zf_X11_meet {n : Nat} {h : Hp} {x1 : Int32} {x2 : Int32} {x3 : Int32} : Pc (F_X11_meet n h x1 x2 x3) (fun q => frZ (fun x k => (204 ≤ x ∧ x ≤ 205)) h q.2) := by
  unfold F_X11_meet
  refine Pc.bind zf_X0_hasGoer (fun q1 h2 => ?_)
  have f3 : frZ (fun x k => (204 ≤ x ∧ x ≤ 205)) h q1.2 := frZ.tr (frZ.rf h) (frZ.no h2)
  refine Pc.ite (fun _ => ?_) (fun _ => ?_)
  · exact Pc.ret f3
  · refine Pc.bind zf_X0_hasGoer (fun q4 h5 => ?_)
    have f6 : frZ (fun x k => (204 ≤ x ∧ x ≤ 205)) h q4.2 := frZ.tr f3 (frZ.no h5)
    refine Pc.ite (fun _ => ?_) (fun _ => ?_)
    · exact Pc.ret f6
    · refine Pc.bind zf_X11_isNoughtOrOne (fun q7 h8 => ?_)
      have f9 : frZ (fun x k => (204 ≤ x ∧ x ≤ 205)) h q7.2 := frZ.tr f6 (frZ.no h8)
      refine Pc.ite (fun _ => ?_) (fun _ => ?_)
      · exact Pc.ret f9
      · refine Pc.bind zf_X10_look (fun q10 h11 => ?_)
        have f12 : frZ (fun x k => (204 ≤ x ∧ x ≤ 205)) h q10 := frZ.tr f9 (frZ.sub h11 (fun x k z => by omega))
        refine Pc.chk (fun c13 => ?_)
        refine Pc.chk (fun c14 => ?_)
        refine Pc.bind zf_X10_findMeeting (fun q15 h16 => ?_)
        have f17 : frZ (fun x k => (204 ≤ x ∧ x ≤ 205)) h q15.2 := frZ.tr f12 (frZ.sub h16 (fun x k z => by omega))
        refine Pc.ite (fun _ => ?_) (fun _ => ?_)
        · exact Pc.ret f17
        · refine Pc.ite (fun _ => ?_) (fun _ => ?_)
          · exact Pc.ret f17
          · exact Pc.ret f17
theorem zf_X8_hush {n : Nat} {h : Hp} {a : Nat} {x1 : Int32} : Pc (F_X8_hush n h a x1) (fun q => frZ (fun x k => x = a) h q) := by
  unfold F_X8_hush
  exact Pc.ret (frZ.w (frZ.rf h) (by omega))
theorem zf_X11_mow {n : Nat} {h : Hp} {x1 : Int32} : Pc (F_X11_mow n h x1) (fun q => frZ (fun x k => (28 ≤ x ∧ x ≤ 30) ∨ x = 38 ∨ (40 ≤ x ∧ x < 200)) h q.2) := by
  unfold F_X11_mow
  refine Pc.bind zf_X3_has (fun q1 h2 => ?_)
  have f3 : frZ (fun x k => (28 ≤ x ∧ x ≤ 30) ∨ x = 38 ∨ (40 ≤ x ∧ x < 200)) h q1.2 := frZ.tr (frZ.rf h) (frZ.no h2)
  refine Pc.ite (fun _ => ?_) (fun _ => ?_)
  · exact Pc.ret f3
  · refine Pc.bind zf_X8_isTuned (fun q4 h5 => ?_)
    have f6 : frZ (fun x k => (28 ≤ x ∧ x ≤ 30) ∨ x = 38 ∨ (40 ≤ x ∧ x < 200)) h q4.2 := frZ.tr f3 (frZ.no h5)
    refine Pc.ite (fun _ => ?_) (fun _ => ?_)
    · exact Pc.ret f6
    · refine Pc.bind zf_X6_keep (fun q7 h8 => ?_)
      have f9 : frZ (fun x k => (28 ≤ x ∧ x ≤ 30) ∨ x = 38 ∨ (40 ≤ x ∧ x < 200)) h q7 := frZ.tr f6 (frZ.sub h8 (fun x k z => by omega))
      refine Pc.bind zf_X0_costOf (fun q10 h11 => ?_)
      have f12 : frZ (fun x k => (28 ≤ x ∧ x ≤ 30) ∨ x = 38 ∨ (40 ≤ x ∧ x < 200)) h q10.2 := frZ.tr f9 (frZ.sub h11 (fun x k z => by omega))
      refine Pc.bind zf_X8_hush (fun q13 h14 => ?_)
      have f15 : frZ (fun x k => (28 ≤ x ∧ x ≤ 30) ∨ x = 38 ∨ (40 ≤ x ∧ x < 200)) h q13 := frZ.tr (frZ.w f12 (by omega)) (frZ.sub h14 (fun x k z => by omega))
      exact Pc.ret f15
theorem zw_X10_mownBy : ∀ (n : Nat) (hd : Nat) (h : Hp) (l1 : Int32) (l2 : Int32) (l3 : Int32) (l4 : Int32) (l5 : Int32) (l6 : Int32) (l7 : Int32), Pc (W_X10_mownBy n hd h l1 l2 l3 l4 l5 l6 l7) (fun q => frZ (fun _ _ => False) h q.2) := by
  intro n
  induction n with
  | zero => intro hd h l1 l2 l3 l4 l5 l6 l7; exact Pc.no
  | succ n ih =>
    intro hd h l1 l2 l3 l4 l5 l6 l7
    rw [u_X10_mownBy]
    refine Pc.chk (fun _ => ?_)
    refine Pc.ite (fun _ => ?_) (fun _ => ?_)
    · exact Pc.ret (frZ.rf h)
    · refine Pc.ite (fun _ => ?_) (fun _ => ?_)
      · exact Pc.ret (frZ.rf h)
      · refine Pc.bind zf_J6_bitCount_0f7a4 (fun q2 h3 => ?_)
        have f4 : frZ (fun _ _ => False) h q2.2 := frZ.tr (frZ.rf h) (frZ.no h3)
        refine Pc.ite (fun _ => ?_) (fun _ => ?_)
        · refine Pc.bind zf_X10_fewest (fun q5 h6 => ?_)
          have f7 : frZ (fun _ _ => False) h q5.2 := frZ.tr f4 (frZ.no h6)
          refine Pc.ite (fun _ => ?_) (fun _ => ?_)
          · exact Pc.mono (ih _ _ _ _ _ _ _ _ _) (fun _ hq => frZ.tr f7 (frZ.no hq))
          · exact Pc.ret f7
        · exact Pc.mono (ih _ _ _ _ _ _ _ _ _) (fun _ hq => frZ.tr f4 (frZ.no hq))
theorem zf_X10_mownBy {n : Nat} {h : Hp} {x1 : Int32} {x2 : Int32} {x3 : Int32} {x4 : Int32} {x5 : Int32} : Pc (F_X10_mownBy n h x1 x2 x3 x4 x5) (fun q => frZ (fun _ _ => False) h q.2) := by
  unfold F_X10_mownBy
  exact Pc.mono (zw_X10_mownBy _ _ _ _ _ _ _ _ _ _) (fun _ hq => frZ.tr (frZ.rf h) (frZ.no hq))
theorem zw_X10_fewestMown : ∀ (n : Nat) (hd : Nat) (h : Hp) (l1 : Int32) (l2 : Int32) (l3 : Int32) (l4 : Int32) (l5 : Int32), Pc (W_X10_fewestMown n hd h l1 l2 l3 l4 l5) (fun q => frZ (fun _ _ => False) h q.2) := by
  intro n
  induction n with
  | zero => intro hd h l1 l2 l3 l4 l5; exact Pc.no
  | succ n ih =>
    intro hd h l1 l2 l3 l4 l5
    rw [u_X10_fewestMown]
    refine Pc.chk (fun _ => ?_)
    refine Pc.bind zf_J6_bitCount_0f7a4 (fun q2 h3 => ?_)
    have f4 : frZ (fun _ _ => False) h q2.2 := frZ.tr (frZ.rf h) (frZ.no h3)
    refine Pc.ite (fun _ => ?_) (fun _ => ?_)
    · exact Pc.ret f4
    · refine Pc.bind zf_X10_mownBy (fun q5 h6 => ?_)
      have f7 : frZ (fun _ _ => False) h q5.2 := frZ.tr f4 (frZ.no h6)
      refine Pc.ite (fun _ => ?_) (fun _ => ?_)
      · exact Pc.mono (ih _ _ _ _ _ _ _) (fun _ hq => frZ.tr f7 (frZ.no hq))
      · exact Pc.ret f7
theorem zf_X10_fewestMown {n : Nat} {h : Hp} {x1 : Int32} {x2 : Int32} {x3 : Int32} {x4 : Int32} : Pc (F_X10_fewestMown n h x1 x2 x3 x4) (fun q => frZ (fun _ _ => False) h q.2) := by
  unfold F_X10_fewestMown
  refine Pc.bind zf_X10_fewest (fun q1 h2 => ?_)
  have f3 : frZ (fun _ _ => False) h q1.2 := frZ.tr (frZ.rf h) (frZ.no h2)
  refine Pc.ite (fun _ => ?_) (fun _ => ?_)
  · exact Pc.ret f3
  · exact Pc.mono (zw_X10_fewestMown _ _ _ _ _ _ _ _) (fun _ hq => frZ.tr f3 (frZ.no hq))
theorem zf_X11_mows {n : Nat} {h : Hp} {x1 : Int32} {x2 : Int32} {x3 : Int32} {x4 : Int32} : Pc (F_X11_mows n h x1 x2 x3 x4) (fun q => frZ (fun x k => (204 ≤ x ∧ x ≤ 205)) h q.2) := by
  unfold F_X11_mows
  refine Pc.bind zf_X11_isFree (fun q1 h2 => ?_)
  have f3 : frZ (fun x k => (204 ≤ x ∧ x ≤ 205)) h q1.2 := frZ.tr (frZ.rf h) (frZ.no h2)
  refine Pc.ite (fun _ => ?_) (fun _ => ?_)
  · exact Pc.ret f3
  · refine Pc.bind zf_X11_isFree (fun q4 h5 => ?_)
    have f6 : frZ (fun x k => (204 ≤ x ∧ x ≤ 205)) h q4.2 := frZ.tr f3 (frZ.no h5)
    refine Pc.ite (fun _ => ?_) (fun _ => ?_)
    · exact Pc.ret f6
    · refine Pc.bind zf_X11_isSpan (fun q7 h8 => ?_)
      have f9 : frZ (fun x k => (204 ≤ x ∧ x ≤ 205)) h q7.2 := frZ.tr f6 (frZ.no h8)
      refine Pc.ite (fun _ => ?_) (fun _ => ?_)
      · exact Pc.ret f9
      · refine Pc.bind zf_X11_isNoughtOrOne (fun q10 h11 => ?_)
        have f12 : frZ (fun x k => (204 ≤ x ∧ x ≤ 205)) h q10.2 := frZ.tr f9 (frZ.no h11)
        refine Pc.ite (fun _ => ?_) (fun _ => ?_)
        · exact Pc.ret f12
        · refine Pc.bind zf_X10_look (fun q13 h14 => ?_)
          have f15 : frZ (fun x k => (204 ≤ x ∧ x ≤ 205)) h q13 := frZ.tr f12 (frZ.sub h14 (fun x k z => by omega))
          refine Pc.bind zf_X10_fewestMown (fun q16 h17 => ?_)
          have f18 : frZ (fun x k => (204 ≤ x ∧ x ≤ 205)) h q16.2 := frZ.tr f15 (frZ.no h17)
          refine Pc.ite (fun _ => ?_) (fun _ => ?_)
          · exact Pc.ret f18
          · refine Pc.ite (fun _ => ?_) (fun _ => ?_)
            · refine Pc.bind zf_J6_bitCount_0f7a4 (fun q19 h20 => ?_)
              have f21 : frZ (fun x k => (204 ≤ x ∧ x ≤ 205)) h q19.2 := frZ.tr f18 (frZ.no h20)
              exact Pc.ret f21
            · exact Pc.ret f18
theorem zw_X11_never : ∀ (n : Nat) (hd : Nat) (h : Hp) (l1 : Int32) (l2 : Int32) (l3 : Int32), Pc (W_X11_never n hd h l1 l2 l3) (fun q => frZ (fun x k => (28 ≤ x ∧ x ≤ 29) ∨ x = 34 ∨ (36 ≤ x ∧ x ≤ 37)) h q.2) := by
  intro n
  induction n with
  | zero => intro hd h l1 l2 l3; exact Pc.no
  | succ n ih =>
    intro hd h l1 l2 l3
    rw [u_X11_never]
    refine Pc.chk (fun _ => ?_)
    refine Pc.ite (fun _ => ?_) (fun _ => ?_)
    · exact Pc.ret (frZ.rf h)
    · refine Pc.bind zf_X0_walk (fun q2 h3 => ?_)
      have f4 : frZ (fun x k => (28 ≤ x ∧ x ≤ 29) ∨ x = 34 ∨ (36 ≤ x ∧ x ≤ 37)) h q2 := frZ.tr (frZ.rf h) (frZ.sub h3 (fun x k z => by omega))
      refine Pc.bind zf_X8_stoodOn (fun q5 h6 => ?_)
      have f7 : frZ (fun x k => (28 ≤ x ∧ x ≤ 29) ∨ x = 34 ∨ (36 ≤ x ∧ x ≤ 37)) h q5.2 := frZ.tr f4 (frZ.no h6)
      exact Pc.mono (ih _ _ _ _ _) (fun _ hq => frZ.tr f7 (frZ.sub hq (fun x k z => by omega)))
theorem zf_X11_never {n : Nat} {h : Hp} {x1 : Int32} : Pc (F_X11_never n h x1) (fun q => frZ (fun x k => (28 ≤ x ∧ x ≤ 29) ∨ (34 ≤ x ∧ x ≤ 37)) h q.2) := by
  unfold F_X11_never
  refine Pc.bind zf_X11_isSpan (fun q1 h2 => ?_)
  have f3 : frZ (fun x k => (28 ≤ x ∧ x ≤ 29) ∨ (34 ≤ x ∧ x ≤ 37)) h q1.2 := frZ.tr (frZ.rf h) (frZ.no h2)
  refine Pc.ite (fun _ => ?_) (fun _ => ?_)
  · exact Pc.ret f3
  · refine Pc.bind zf_X8_become (fun q4 h5 => ?_)
    have f6 : frZ (fun x k => (28 ≤ x ∧ x ≤ 29) ∨ (34 ≤ x ∧ x ≤ 37)) h q4 := frZ.tr f3 (frZ.sub h5 (fun x k z => by omega))
    refine Pc.bind zf_X8_stoodOn (fun q7 h8 => ?_)
    have f9 : frZ (fun x k => (28 ≤ x ∧ x ≤ 29) ∨ (34 ≤ x ∧ x ≤ 37)) h q7.2 := frZ.tr f6 (frZ.no h8)
    exact Pc.mono (zw_X11_never _ _ _ _ _ _) (fun _ hq => frZ.tr f9 (frZ.sub hq (fun x k z => by omega)))
theorem zw_X11_next : ∀ (n : Nat) (hd : Nat) (h : Hp) (l1 : Int32) (l2 : Int32), Pc (W_X11_next n hd h l1 l2) (fun q => frZ (fun _ _ => False) h q.2) := by
  intro n
  induction n with
  | zero => intro hd h l1 l2; exact Pc.no
  | succ n ih =>
    intro hd h l1 l2
    rw [u_X11_next]
    refine Pc.chk (fun _ => ?_)
    refine Pc.ite (fun _ => ?_) (fun _ => ?_)
    · exact Pc.ret (frZ.rf h)
    · refine Pc.bind zf_X8_soundsAt (fun q2 h3 => ?_)
      have f4 : frZ (fun _ _ => False) h q2.2 := frZ.tr (frZ.rf h) (frZ.no h3)
      refine Pc.ite (fun _ => ?_) (fun _ => ?_)
      · exact Pc.mono (ih _ _ _ _) (fun _ hq => frZ.tr f4 (frZ.no hq))
      · exact Pc.ret f4
theorem zf_X11_next {n : Nat} {h : Hp} {x1 : Int32} : Pc (F_X11_next n h x1) (fun q => frZ (fun _ _ => False) h q.2) := by
  unfold F_X11_next
  refine Pc.bind zf_X3_has (fun q1 h2 => ?_)
  have f3 : frZ (fun _ _ => False) h q1.2 := frZ.tr (frZ.rf h) (frZ.no h2)
  refine Pc.ite (fun _ => ?_) (fun _ => ?_)
  · exact Pc.ret f3
  · exact Pc.mono (zw_X11_next _ _ _ _ _) (fun _ hq => frZ.tr f3 (frZ.no hq))
theorem zl_X5_pairOff : ∀ (l n : Nat) (h : Hp) (b1 : Nat) (x y z : Int32), Pc (L_X5_pairOff l n h b1 x y z) (fun q => frZ (fun x k => (211 ≤ x ∧ x ≤ 213)) h q) := by
  intro l
  induction l with
  | zero => intro n h b1 x y z; exact Pc.no
  | succ l ih => intro n h b1 x y z; exact zf_X5_pairOff ih
theorem zf_X5_pairOffT {n : Nat} {h : Hp} {b1 : Nat} {x2 x3 x4 : Int32} : Pc (F_X5_pairOffT n h b1 x2 x3 x4) (fun q => frZ (fun x k => (211 ≤ x ∧ x ≤ 213)) h q) := zl_X5_pairOff 8 n h b1 x2 x3 x4
theorem zf_X5_match {n : Nat} {h : Hp} {b1 : Nat} {x2 : Int32} : Pc (F_X5_match n h b1 x2) (fun q => frZ (fun x k => (211 ≤ x ∧ x ≤ 213)) h q) := by
  unfold F_X5_match
  refine Pc.bind zf_X5_pairOffT (fun q1 h2 => ?_)
  have f3 : frZ (fun x k => (211 ≤ x ∧ x ≤ 213)) h q1 := frZ.tr (frZ.w (frZ.rf h) (by omega)) (frZ.sub h2 (fun x k z => by omega))
  exact Pc.ret f3
theorem zf_X11_pairs {n : Nat} {h : Hp} {x1 : Int32} : Pc (F_X11_pairs n h x1) (fun q => frZ (fun x k => (211 ≤ x ∧ x ≤ 213)) h q.2) := by
  unfold F_X11_pairs
  refine Pc.ite (fun _ => ?_) (fun _ => ?_)
  · refine Pc.bind zf_X5_match (fun q1 h2 => ?_)
    have f3 : frZ (fun x k => (211 ≤ x ∧ x ≤ 213)) h q1 := frZ.tr (frZ.rf h) (frZ.sub h2 (fun x k z => by omega))
    refine Pc.ite (fun _ => ?_) (fun _ => ?_)
    · exact Pc.ret f3
    · refine Pc.chk (fun c4 => ?_)
      exact Pc.ret f3
  · refine Pc.bind zf_X0_hasGoer (fun q5 h6 => ?_)
    have f7 : frZ (fun x k => (211 ≤ x ∧ x ≤ 213)) h q5.2 := frZ.tr (frZ.rf h) (frZ.no h6)
    refine Pc.ite (fun _ => ?_) (fun _ => ?_)
    · exact Pc.ret f7
    · refine Pc.bind zf_X5_match (fun q8 h9 => ?_)
      have f10 : frZ (fun x k => (211 ≤ x ∧ x ≤ 213)) h q8 := frZ.tr f7 (frZ.sub h9 (fun x k z => by omega))
      refine Pc.ite (fun _ => ?_) (fun _ => ?_)
      · exact Pc.ret f10
      · refine Pc.chk (fun c11 => ?_)
        exact Pc.ret f10
theorem zw_J7_fill_25 : ∀ (n : Nat) (hd : Nat) (h : Hp) (b1 : Nat) (l1 : Int32) (l2 : Int32) (l3 : Int32), Pc (W_J7_fill_25 n hd h b1 l1 l2 l3) (fun q => frZ (fun x k => x = b1) h q) := by
  intro n
  induction n with
  | zero => intro hd h b1 l1 l2 l3; exact Pc.no
  | succ n ih =>
    intro hd h b1 l1 l2 l3
    rw [u_J7_fill_25]
    refine Pc.chk (fun _ => ?_)
    refine Pc.ite (fun _ => ?_) (fun _ => ?_)
    · exact Pc.ret (frZ.rf h)
    · refine Pc.chk (fun c2 => ?_)
      exact Pc.mono (ih _ _ _ _ _ _) (fun _ hq => frZ.tr (frZ.w (frZ.rf h) (by omega)) (frZ.sub hq (fun x k z => by omega)))
theorem zf_J7_fill_25 {n : Nat} {h : Hp} {b1 : Nat} {x2 : Int32} : Pc (F_J7_fill_25 n h b1 x2) (fun q => frZ (fun x k => x = b1) h q) := by
  unfold F_J7_fill_25
  exact Pc.mono (zw_J7_fill_25 _ _ _ _ _ _ _) (fun _ hq => frZ.tr (frZ.rf h) (frZ.sub hq (fun x k z => by omega)))
theorem zw_J7_fill_50 : ∀ (n : Nat) (hd : Nat) (h : Hp) (b1 : Nat) (l1 : Int32) (l2 : Int32) (l3 : Int32), Pc (W_J7_fill_50 n hd h b1 l1 l2 l3) (fun q => frZ (fun x k => x = b1) h q) := by
  intro n
  induction n with
  | zero => intro hd h b1 l1 l2 l3; exact Pc.no
  | succ n ih =>
    intro hd h b1 l1 l2 l3
    rw [u_J7_fill_50]
    refine Pc.chk (fun _ => ?_)
    refine Pc.ite (fun _ => ?_) (fun _ => ?_)
    · exact Pc.ret (frZ.rf h)
    · refine Pc.chk (fun c2 => ?_)
      exact Pc.mono (ih _ _ _ _ _ _) (fun _ hq => frZ.tr (frZ.w (frZ.rf h) (by omega)) (frZ.sub hq (fun x k z => by omega)))
theorem zf_J7_fill_50 {n : Nat} {h : Hp} {b1 : Nat} {x2 : Int32} : Pc (F_J7_fill_50 n h b1 x2) (fun q => frZ (fun x k => x = b1) h q) := by
  unfold F_J7_fill_50
  exact Pc.mono (zw_J7_fill_50 _ _ _ _ _ _ _) (fun _ hq => frZ.tr (frZ.rf h) (frZ.sub hq (fun x k z => by omega)))
theorem zf_X1_find {n : Nat} {h : Hp} {x1 : Int32} {x2 : Int32} : Pc (F_X1_find n h x1 x2) (fun q => frZ (fun x k => x = 207 ∨ (209 ≤ x ∧ x ≤ 210)) h q) := by
  unfold F_X1_find
  refine Pc.ite (fun _ => ?_) (fun _ => ?_)
  · exact Pc.ret (frZ.rf h)
  · refine Pc.ite (fun _ => ?_) (fun _ => ?_)
    · exact Pc.ret (frZ.rf h)
    · refine Pc.chk (fun c1 => ?_)
      refine Pc.ite (fun _ => ?_) (fun _ => ?_)
      · refine Pc.ite (fun _ => ?_) (fun _ => ?_)
        · exact Pc.ret (frZ.rf h)
        · refine Pc.chk (fun c2 => ?_)
          refine Pc.chk (fun c3 => ?_)
          exact Pc.ret (frZ.w (frZ.w (frZ.w (frZ.rf h) (by omega)) (by omega)) (by omega))
      · exact Pc.ret (frZ.rf h)
theorem zf_X1_leadOnFromEntry {n : Nat} {h : Hp} {x1 : Int32} : Pc (F_X1_leadOnFromEntry n h x1) (fun q => frZ (fun x k => x = 207 ∨ (209 ≤ x ∧ x ≤ 210)) h q) := by
  unfold F_X1_leadOnFromEntry
  refine Pc.chk (fun c1 => ?_)
  refine Pc.ite (fun _ => ?_) (fun _ => ?_)
  · refine Pc.bind zf_X1_find (fun q2 h3 => ?_)
    have f4 : frZ (fun x k => x = 207 ∨ (209 ≤ x ∧ x ≤ 210)) h q2 := frZ.tr (frZ.rf h) (frZ.sub h3 (fun x k z => by omega))
    exact Pc.ret f4
  · refine Pc.bind zf_X1_find (fun q5 h6 => ?_)
    have f7 : frZ (fun x k => x = 207 ∨ (209 ≤ x ∧ x ≤ 210)) h q5 := frZ.tr (frZ.rf h) (frZ.sub h6 (fun x k z => by omega))
    exact Pc.ret f7
theorem zw_X1_leadOnFromExit : ∀ (n : Nat) (hd : Nat) (h : Hp) (l1 : Int32) (l2 : Int32) (l3 : Int32) (l4 : Int32), Pc (W_X1_leadOnFromExit n hd h l1 l2 l3 l4) (fun q => frZ (fun x k => x = 207 ∨ (209 ≤ x ∧ x ≤ 210)) h q) := by
  intro n
  induction n with
  | zero => intro hd h l1 l2 l3 l4; exact Pc.no
  | succ n ih =>
    intro hd h l1 l2 l3 l4
    rw [u_X1_leadOnFromExit]
    refine Pc.chk (fun _ => ?_)
    refine Pc.ite (fun _ => ?_) (fun _ => ?_)
    · refine Pc.chk (fun c2 => ?_)
      refine Pc.ite (fun _ => ?_) (fun _ => ?_)
      · exact Pc.ret (frZ.rf h)
      · refine Pc.bind zf_X1_find (fun q3 h4 => ?_)
        have f5 : frZ (fun x k => x = 207 ∨ (209 ≤ x ∧ x ≤ 210)) h q3 := frZ.tr (frZ.rf h) (frZ.sub h4 (fun x k z => by omega))
        exact Pc.ret f5
    · refine Pc.ite (fun _ => ?_) (fun _ => ?_)
      · exact Pc.mono (ih _ _ _ _ _ _) (fun _ hq => frZ.tr (frZ.rf h) (frZ.sub hq (fun x k z => by omega)))
      · refine Pc.chk (fun c7 => ?_)
        refine Pc.ite (fun _ => ?_) (fun _ => ?_)
        · exact Pc.mono (ih _ _ _ _ _ _) (fun _ hq => frZ.tr (frZ.rf h) (frZ.sub hq (fun x k z => by omega)))
        · refine Pc.bind zf_X1_find (fun q9 h10 => ?_)
          have f11 : frZ (fun x k => x = 207 ∨ (209 ≤ x ∧ x ≤ 210)) h q9 := frZ.tr (frZ.rf h) (frZ.sub h10 (fun x k z => by omega))
          exact Pc.mono (ih _ _ _ _ _ _) (fun _ hq => frZ.tr f11 (frZ.sub hq (fun x k z => by omega)))
theorem zf_X1_leadOnFromExit {n : Nat} {h : Hp} {x1 : Int32} {x2 : Int32} : Pc (F_X1_leadOnFromExit n h x1 x2) (fun q => frZ (fun x k => x = 207 ∨ (209 ≤ x ∧ x ≤ 210)) h q) := by
  unfold F_X1_leadOnFromExit
  refine Pc.bind zf_X3_grown (fun q1 h2 => ?_)
  have f3 : frZ (fun x k => x = 207 ∨ (209 ≤ x ∧ x ≤ 210)) h q1.2 := frZ.tr (frZ.rf h) (frZ.no h2)
  exact Pc.mono (zw_X1_leadOnFromExit _ _ _ _ _ _ _) (fun _ hq => frZ.tr f3 (frZ.sub hq (fun x k z => by omega)))
theorem zw_X1_search : ∀ (n : Nat) (hd : Nat) (h : Hp) (l1 : Int32) (l2 : Int32) (l3 : Int32) (l4 : Int32), Pc (W_X1_search n hd h l1 l2 l3 l4) (fun q => frZ (fun x k => x = 207 ∨ (209 ≤ x ∧ x ≤ 210)) h q.2) := by
  intro n
  induction n with
  | zero => intro hd h l1 l2 l3 l4; exact Pc.no
  | succ n ih =>
    intro hd h l1 l2 l3 l4
    rw [u_X1_search]
    refine Pc.chk (fun _ => ?_)
    refine Pc.ite (fun _ => ?_) (fun _ => ?_)
    · exact Pc.ret (frZ.rf h)
    · refine Pc.ite (fun _ => ?_) (fun _ => ?_)
      · exact Pc.ret (frZ.rf h)
      · refine Pc.chk (fun c2 => ?_)
        refine Pc.chk (fun c3 => ?_)
        refine Pc.ite (fun _ => ?_) (fun _ => ?_)
        · exact Pc.ret (frZ.rf h)
        · refine Pc.chk (fun c4 => ?_)
          refine Pc.ite (fun _ => ?_) (fun _ => ?_)
          · refine Pc.bind zf_X1_leadOnFromEntry (fun q5 h6 => ?_)
            have f7 : frZ (fun x k => x = 207 ∨ (209 ≤ x ∧ x ≤ 210)) h q5 := frZ.tr (frZ.rf h) (frZ.sub h6 (fun x k z => by omega))
            exact Pc.mono (ih _ _ _ _ _ _) (fun _ hq => frZ.tr f7 (frZ.sub hq (fun x k z => by omega)))
          · refine Pc.bind zf_X1_leadOnFromExit (fun q9 h10 => ?_)
            have f11 : frZ (fun x k => x = 207 ∨ (209 ≤ x ∧ x ≤ 210)) h q9 := frZ.tr (frZ.rf h) (frZ.sub h10 (fun x k z => by omega))
            exact Pc.mono (ih _ _ _ _ _ _) (fun _ hq => frZ.tr f11 (frZ.sub hq (fun x k z => by omega)))
theorem zf_X1_search {n : Nat} {h : Hp} {x1 : Int32} {x2 : Int32} {x3 : Int32} : Pc (F_X1_search n h x1 x2 x3) (fun q => frZ (fun x k => x = 207 ∨ (209 ≤ x ∧ x ≤ 210)) h q.2) := by
  unfold F_X1_search
  refine Pc.bind zf_J7_fill_50 (fun q1 h2 => ?_)
  have f3 : frZ (fun x k => x = 207 ∨ (209 ≤ x ∧ x ≤ 210)) h q1 := frZ.tr (frZ.rf h) (frZ.sub h2 (fun x k z => by omega))
  refine Pc.bind zf_X1_find (fun q4 h5 => ?_)
  have f6 : frZ (fun x k => x = 207 ∨ (209 ≤ x ∧ x ≤ 210)) h q4 := frZ.tr (frZ.w f3 (by omega)) (frZ.sub h5 (fun x k z => by omega))
  exact Pc.mono (zw_X1_search _ _ _ _ _ _ _) (fun _ hq => frZ.tr f6 (frZ.sub hq (fun x k z => by omega)))
theorem zw_X1_layWay : ∀ (n : Nat) (hd : Nat) (h : Hp) (l1 : Int32) (l2 : Int32) (l3 : Int32) (l4 : Int32), Pc (W_X1_layWay n hd h l1 l2 l3 l4) (fun q => frZ (fun x k => x = 208) h q) := by
  intro n
  induction n with
  | zero => intro hd h l1 l2 l3 l4; exact Pc.no
  | succ n ih =>
    intro hd h l1 l2 l3 l4
    rw [u_X1_layWay]
    refine Pc.chk (fun _ => ?_)
    refine Pc.ite (fun _ => ?_) (fun _ => ?_)
    · exact Pc.ret (frZ.rf h)
    · refine Pc.ite (fun _ => ?_) (fun _ => ?_)
      · exact Pc.ret (frZ.rf h)
      · refine Pc.chk (fun c2 => ?_)
        refine Pc.ite (fun _ => ?_) (fun _ => ?_)
        · refine Pc.ite (fun _ => ?_) (fun _ => ?_)
          · refine Pc.ite (fun _ => ?_) (fun _ => ?_)
            · exact Pc.mono (ih _ _ _ _ _ _) (fun _ hq => frZ.tr (frZ.rf h) (frZ.sub hq (fun x k z => by omega)))
            · refine Pc.ite (fun _ => ?_) (fun _ => ?_)
              · refine Pc.chk (fun c4 => ?_)
                exact Pc.mono (ih _ _ _ _ _ _) (fun _ hq => frZ.tr (frZ.w (frZ.rf h) (by omega)) (frZ.sub hq (fun x k z => by omega)))
              · refine Pc.chk (fun c6 => ?_)
                exact Pc.mono (ih _ _ _ _ _ _) (fun _ hq => frZ.tr (frZ.w (frZ.rf h) (by omega)) (frZ.sub hq (fun x k z => by omega)))
          · exact Pc.mono (ih _ _ _ _ _ _) (fun _ hq => frZ.tr (frZ.rf h) (frZ.sub hq (fun x k z => by omega)))
        · exact Pc.ret (frZ.rf h)
theorem zf_X1_layWay {n : Nat} {h : Hp} {x1 : Int32} {x2 : Int32} : Pc (F_X1_layWay n h x1 x2) (fun q => frZ (fun x k => x = 208) h q) := by
  unfold F_X1_layWay
  exact Pc.mono (zw_X1_layWay _ _ _ _ _ _ _) (fun _ hq => frZ.tr (frZ.rf h) (frZ.sub hq (fun x k z => by omega)))
theorem zw_X1_fewestRopes : ∀ (n : Nat) (hd : Nat) (h : Hp) (l1 : Int32) (l2 : Int32) (l3 : Int32) (l4 : Int32) (l5 : Int32), Pc (W_X1_fewestRopes n hd h l1 l2 l3 l4 l5) (fun q => frZ (fun x k => (207 ≤ x ∧ x ≤ 210)) h q.2) := by
  intro n
  induction n with
  | zero => intro hd h l1 l2 l3 l4 l5; exact Pc.no
  | succ n ih =>
    intro hd h l1 l2 l3 l4 l5
    rw [u_X1_fewestRopes]
    refine Pc.chk (fun _ => ?_)
    refine Pc.ite (fun _ => ?_) (fun _ => ?_)
    · exact Pc.ret (frZ.rf h)
    · refine Pc.bind zf_X1_search (fun q2 h3 => ?_)
      have f4 : frZ (fun x k => (207 ≤ x ∧ x ≤ 210)) h q2.2 := frZ.tr (frZ.rf h) (frZ.sub h3 (fun x k z => by omega))
      refine Pc.ite (fun _ => ?_) (fun _ => ?_)
      · exact Pc.ret f4
      · refine Pc.bind zf_X1_layWay (fun q5 h6 => ?_)
        have f7 : frZ (fun x k => (207 ≤ x ∧ x ≤ 210)) h q5 := frZ.tr f4 (frZ.sub h6 (fun x k z => by omega))
        exact Pc.mono (ih _ _ _ _ _ _ _) (fun _ hq => frZ.tr f7 (frZ.sub hq (fun x k z => by omega)))
theorem zf_X1_fewestRopes {n : Nat} {h : Hp} {x1 : Int32} {x2 : Int32} {x3 : Int32} : Pc (F_X1_fewestRopes n h x1 x2 x3) (fun q => frZ (fun x k => (207 ≤ x ∧ x ≤ 210)) h q.2) := by
  unfold F_X1_fewestRopes
  refine Pc.bind zf_J7_fill_25 (fun q1 h2 => ?_)
  have f3 : frZ (fun x k => (207 ≤ x ∧ x ≤ 210)) h q1 := frZ.tr (frZ.rf h) (frZ.sub h2 (fun x k z => by omega))
  exact Pc.mono (zw_X1_fewestRopes _ _ _ _ _ _ _ _) (fun _ hq => frZ.tr f3 (frZ.sub hq (fun x k z => by omega)))
theorem zf_X11_part {n : Nat} {h : Hp} {x1 : Int32} {x2 : Int32} : Pc (F_X11_part n h x1 x2) (fun q => frZ (fun x k => (207 ≤ x ∧ x ≤ 210)) h q.2) := by
  unfold F_X11_part
  refine Pc.bind zf_X11_isFree (fun q1 h2 => ?_)
  have f3 : frZ (fun x k => (207 ≤ x ∧ x ≤ 210)) h q1.2 := frZ.tr (frZ.rf h) (frZ.no h2)
  refine Pc.ite (fun _ => ?_) (fun _ => ?_)
  · exact Pc.ret f3
  · refine Pc.bind zf_X11_isFree (fun q4 h5 => ?_)
    have f6 : frZ (fun x k => (207 ≤ x ∧ x ≤ 210)) h q4.2 := frZ.tr f3 (frZ.no h5)
    refine Pc.ite (fun _ => ?_) (fun _ => ?_)
    · exact Pc.ret f6
    · refine Pc.bind zf_X3_grown (fun q7 h8 => ?_)
      have f9 : frZ (fun x k => (207 ≤ x ∧ x ≤ 210)) h q7.2 := frZ.tr f6 (frZ.no h8)
      refine Pc.ite (fun _ => ?_) (fun _ => ?_)
      · refine Pc.bind zf_X1_fewestRopes (fun q10 h11 => ?_)
        have f12 : frZ (fun x k => (207 ≤ x ∧ x ≤ 210)) h q10.2 := frZ.tr f9 (frZ.sub h11 (fun x k z => by omega))
        exact Pc.ret f12
      · exact Pc.ret f9
theorem zw_X8_allTunesDivide : ∀ (n : Nat) (hd : Nat) (h : Hp) (a : Nat) (l1 : Int32) (l2 : Int32) (l3 : Int32), Pc (W_X8_allTunesDivide n hd h a l1 l2 l3) (fun q => frZ (fun _ _ => False) h q.2) := by
  intro n
  induction n with
  | zero => intro hd h a l1 l2 l3; exact Pc.no
  | succ n ih =>
    intro hd h a l1 l2 l3
    rw [u_X8_allTunesDivide]
    refine Pc.chk (fun _ => ?_)
    refine Pc.ite (fun _ => ?_) (fun _ => ?_)
    · exact Pc.ret (frZ.rf h)
    · refine Pc.ite (fun _ => ?_) (fun _ => ?_)
      · exact Pc.ret (frZ.rf h)
      · refine Pc.bind zf_X11_lowest (fun q2 h3 => ?_)
        have f4 : frZ (fun _ _ => False) h q2.2 := frZ.tr (frZ.rf h) (frZ.no h3)
        refine Pc.bind zf_X8_beatOf (fun q5 h6 => ?_)
        have f7 : frZ (fun _ _ => False) h q5.2 := frZ.tr f4 (frZ.no h6)
        refine Pc.ite (fun _ => ?_) (fun _ => ?_)
        · exact Pc.mono (ih _ _ _ _ _ _) (fun _ hq => frZ.tr f7 (frZ.no hq))
        · refine Pc.ite (fun _ => ?_) (fun _ => ?_)
          · exact Pc.no
          · refine Pc.ite (fun _ => ?_) (fun _ => ?_)
            · exact Pc.mono (ih _ _ _ _ _ _) (fun _ hq => frZ.tr f7 (frZ.no hq))
            · exact Pc.ret f7
theorem zf_X8_allTunesDivide {n : Nat} {h : Hp} {a : Nat} {x1 : Int32} : Pc (F_X8_allTunesDivide n h a x1) (fun q => frZ (fun _ _ => False) h q.2) := by
  unfold F_X8_allTunesDivide
  exact Pc.mono (zw_X8_allTunesDivide _ _ _ _ _ _ _) (fun _ hq => frZ.tr (frZ.rf h) (frZ.no hq))
theorem zw_X11_period : ∀ (n : Nat) (hd : Nat) (h : Hp) (l1 : Int32), Pc (W_X11_period n hd h l1) (fun q => frZ (fun _ _ => False) h q.2) := by
  intro n
  induction n with
  | zero => intro hd h l1; exact Pc.no
  | succ n ih =>
    intro hd h l1
    rw [u_X11_period]
    refine Pc.chk (fun _ => ?_)
    refine Pc.ite (fun _ => ?_) (fun _ => ?_)
    · exact Pc.ret (frZ.rf h)
    · refine Pc.bind zf_X8_allTunesDivide (fun q2 h3 => ?_)
      have f4 : frZ (fun _ _ => False) h q2.2 := frZ.tr (frZ.rf h) (frZ.no h3)
      refine Pc.ite (fun _ => ?_) (fun _ => ?_)
      · exact Pc.mono (ih _ _ _) (fun _ hq => frZ.tr f4 (frZ.no hq))
      · exact Pc.ret f4
theorem zf_X11_period {n : Nat} {h : Hp} : Pc (F_X11_period n h) (fun q => frZ (fun _ _ => False) h q.2) := by
  unfold F_X11_period
  exact Pc.mono (zw_X11_period _ _ _ _) (fun _ hq => frZ.tr (frZ.rf h) (frZ.no hq))
theorem zf_X11_place {n : Nat} {h : Hp} : Pc (F_X11_place n h) (fun q => frZ (fun _ _ => False) h q.2) := by
  unfold F_X11_place
  exact Pc.ret (frZ.rf h)
theorem zf_X6_clear {n : Nat} {h : Hp} : Pc (F_X6_clear n h) (fun q => frZ (fun x k => x = 38) h q) := by
  unfold F_X6_clear
  exact Pc.ret (frZ.w (frZ.rf h) (by omega))
theorem zf_X11_restore {n : Nat} {h : Hp} {x1 : Int32} : Pc (F_X11_restore n h x1) (fun q => frZ (fun x k => (30 ≤ x ∧ x ≤ 33) ∨ x = 38) h q.2) := by
  unfold F_X11_restore
  refine Pc.ite (fun _ => ?_) (fun _ => ?_)
  · exact Pc.ret (frZ.rf h)
  · refine Pc.ite (fun _ => ?_) (fun _ => ?_)
    · exact Pc.ret (frZ.rf h)
    · refine Pc.ite (fun _ => ?_) (fun _ => ?_)
      · exact Pc.ret (frZ.rf h)
      · refine Pc.chk (fun c1 => ?_)
        have := ixO_lt c1
        refine Pc.bind zf_X8_become (fun q2 h3 => ?_)
        have f4 : frZ (fun x k => (30 ≤ x ∧ x ≤ 33) ∨ x = 38) h q2 := frZ.tr (frZ.rf h) (frZ.sub h3 (fun x k z => by omega))
        refine Pc.bind zf_X6_clear (fun q5 h6 => ?_)
        have f7 : frZ (fun x k => (30 ≤ x ∧ x ≤ 33) ∨ x = 38) h q5 := frZ.tr f4 (frZ.sub h6 (fun x k z => by omega))
        exact Pc.ret f7
theorem zw_X11_returns : ∀ (n : Nat) (hd : Nat) (h : Hp) (l1 : Int32) (l2 : Int32), Pc (W_X11_returns n hd h l1 l2) (fun q => frZ (fun x k => (28 ≤ x ∧ x ≤ 29) ∨ x = 34 ∨ (36 ≤ x ∧ x ≤ 37)) h q.2) := by
  intro n
  induction n with
  | zero => intro hd h l1 l2; exact Pc.no
  | succ n ih =>
    intro hd h l1 l2
    rw [u_X11_returns]
    refine Pc.chk (fun _ => ?_)
    refine Pc.ite (fun _ => ?_) (fun _ => ?_)
    · exact Pc.ret (frZ.rf h)
    · refine Pc.bind zf_X0_walk (fun q2 h3 => ?_)
      have f4 : frZ (fun x k => (28 ≤ x ∧ x ≤ 29) ∨ x = 34 ∨ (36 ≤ x ∧ x ≤ 37)) h q2 := frZ.tr (frZ.rf h) (frZ.sub h3 (fun x k z => by omega))
      refine Pc.chk (fun c5 => ?_)
      refine Pc.chk (fun c6 => ?_)
      refine Pc.ite (fun _ => ?_) (fun _ => ?_)
      · exact Pc.ret f4
      · exact Pc.mono (ih _ _ _ _) (fun _ hq => frZ.tr f4 (frZ.sub hq (fun x k z => by omega)))
theorem zf_X11_returns {n : Nat} {h : Hp} {x1 : Int32} : Pc (F_X11_returns n h x1) (fun q => frZ (fun x k => (28 ≤ x ∧ x ≤ 29) ∨ (34 ≤ x ∧ x ≤ 37)) h q.2) := by
  unfold F_X11_returns
  refine Pc.bind zf_X0_hasGoer (fun q1 h2 => ?_)
  have f3 : frZ (fun x k => (28 ≤ x ∧ x ≤ 29) ∨ (34 ≤ x ∧ x ≤ 37)) h q1.2 := frZ.tr (frZ.rf h) (frZ.no h2)
  refine Pc.ite (fun _ => ?_) (fun _ => ?_)
  · exact Pc.ret f3
  · refine Pc.bind zf_X8_become (fun q4 h5 => ?_)
    have f6 : frZ (fun x k => (28 ≤ x ∧ x ≤ 29) ∨ (34 ≤ x ∧ x ≤ 37)) h q4 := frZ.tr f3 (frZ.sub h5 (fun x k z => by omega))
    exact Pc.mono (zw_X11_returns _ _ _ _ _) (fun _ hq => frZ.tr f6 (frZ.sub hq (fun x k z => by omega)))
theorem zf_X11_rope {n : Nat} {h : Hp} {x1 : Int32} {x2 : Int32} : Pc (F_X11_rope n h x1 x2) (fun q => frZ (fun x k => x = 30 ∨ x = 38 ∨ (40 ≤ x ∧ x < 200)) h q.2) := by
  unfold F_X11_rope
  refine Pc.bind zf_X3_has (fun q1 h2 => ?_)
  have f3 : frZ (fun x k => x = 30 ∨ x = 38 ∨ (40 ≤ x ∧ x < 200)) h q1.2 := frZ.tr (frZ.rf h) (frZ.no h2)
  refine Pc.ite (fun _ => ?_) (fun _ => ?_)
  · exact Pc.ret f3
  · refine Pc.bind zf_X8_isRoped (fun q4 h5 => ?_)
    have f6 : frZ (fun x k => x = 30 ∨ x = 38 ∨ (40 ≤ x ∧ x < 200)) h q4.2 := frZ.tr f3 (frZ.no h5)
    refine Pc.ite (fun _ => ?_) (fun _ => ?_)
    · exact Pc.ret f6
    · refine Pc.bind zf_X8_goersIn (fun q7 h8 => ?_)
      have f9 : frZ (fun x k => x = 30 ∨ x = 38 ∨ (40 ≤ x ∧ x < 200)) h q7.2 := frZ.tr f6 (frZ.no h8)
      refine Pc.ite (fun _ => ?_) (fun _ => ?_)
      · refine Pc.ite (fun _ => ?_) (fun _ => ?_)
        · refine Pc.bind zf_X6_keep (fun q10 h11 => ?_)
          have f12 : frZ (fun x k => x = 30 ∨ x = 38 ∨ (40 ≤ x ∧ x < 200)) h q10 := frZ.tr f9 (frZ.sub h11 (fun x k z => by omega))
          exact Pc.ret (frZ.w f12 (by omega))
        · refine Pc.bind zf_X8_isTuned (fun q13 h14 => ?_)
          have f15 : frZ (fun x k => x = 30 ∨ x = 38 ∨ (40 ≤ x ∧ x < 200)) h q13.2 := frZ.tr f9 (frZ.no h14)
          refine Pc.ite (fun _ => ?_) (fun _ => ?_)
          · refine Pc.bind zf_X6_keep (fun q16 h17 => ?_)
            have f18 : frZ (fun x k => x = 30 ∨ x = 38 ∨ (40 ≤ x ∧ x < 200)) h q16 := frZ.tr f15 (frZ.sub h17 (fun x k z => by omega))
            exact Pc.ret (frZ.w f18 (by omega))
          · exact Pc.ret f15
      · exact Pc.ret f9
theorem zw_X11_silence : ∀ (n : Nat) (hd : Nat) (h : Hp) (l1 : Int32) (l2 : Int32) (l3 : Int32) (l4 : Int32) (l5 : Int32), Pc (W_X11_silence n hd h l1 l2 l3 l4 l5) (fun q => frZ (fun _ _ => False) h q.2) := by
  intro n
  induction n with
  | zero => intro hd h l1 l2 l3 l4 l5; exact Pc.no
  | succ n ih =>
    intro hd h l1 l2 l3 l4 l5
    rw [u_X11_silence]
    refine Pc.chk (fun _ => ?_)
    refine Pc.ite (fun _ => ?_) (fun _ => ?_)
    · refine Pc.ite (fun _ => ?_) (fun _ => ?_)
      · exact Pc.ret (frZ.rf h)
      · exact Pc.ret (frZ.rf h)
    · refine Pc.bind zf_X8_loudAt (fun q2 h3 => ?_)
      have f4 : frZ (fun _ _ => False) h q2.2 := frZ.tr (frZ.rf h) (frZ.no h3)
      refine Pc.ite (fun _ => ?_) (fun _ => ?_)
      · refine Pc.ite (fun _ => ?_) (fun _ => ?_)
        · exact Pc.mono (ih _ _ _ _ _ _ _) (fun _ hq => frZ.tr f4 (frZ.no hq))
        · exact Pc.mono (ih _ _ _ _ _ _ _) (fun _ hq => frZ.tr f4 (frZ.no hq))
      · refine Pc.ite (fun _ => ?_) (fun _ => ?_)
        · exact Pc.mono (ih _ _ _ _ _ _ _) (fun _ hq => frZ.tr f4 (frZ.no hq))
        · exact Pc.mono (ih _ _ _ _ _ _ _) (fun _ hq => frZ.tr f4 (frZ.no hq))
theorem zf_X11_silence {n : Nat} {h : Hp} {x1 : Int32} : Pc (F_X11_silence n h x1) (fun q => frZ (fun _ _ => False) h q.2) := by
  unfold F_X11_silence
  refine Pc.bind zf_X11_isNoughtOrOne (fun q1 h2 => ?_)
  have f3 : frZ (fun _ _ => False) h q1.2 := frZ.tr (frZ.rf h) (frZ.no h2)
  refine Pc.ite (fun _ => ?_) (fun _ => ?_)
  · exact Pc.ret f3
  · exact Pc.mono (zw_X11_silence _ _ _ _ _ _ _ _) (fun _ hq => frZ.tr f3 (frZ.no hq))
theorem zw_X11_stood : ∀ (n : Nat) (hd : Nat) (h : Hp) (l1 : Int32) (l2 : Int32) (l3 : Int32) (l4 : Int32) (l5 : Int32), Pc (W_X11_stood n hd h l1 l2 l3 l4 l5) (fun q => frZ (fun x k => (28 ≤ x ∧ x ≤ 29) ∨ x = 34 ∨ (36 ≤ x ∧ x ≤ 37)) h q.2) := by
  intro n
  induction n with
  | zero => intro hd h l1 l2 l3 l4 l5; exact Pc.no
  | succ n ih =>
    intro hd h l1 l2 l3 l4 l5
    rw [u_X11_stood]
    refine Pc.chk (fun _ => ?_)
    refine Pc.ite (fun _ => ?_) (fun _ => ?_)
    · exact Pc.ret (frZ.rf h)
    · refine Pc.bind zf_X0_walk (fun q2 h3 => ?_)
      have f4 : frZ (fun x k => (28 ≤ x ∧ x ≤ 29) ∨ x = 34 ∨ (36 ≤ x ∧ x ≤ 37)) h q2 := frZ.tr (frZ.rf h) (frZ.sub h3 (fun x k z => by omega))
      refine Pc.chk (fun c5 => ?_)
      refine Pc.ite (fun _ => ?_) (fun _ => ?_)
      · exact Pc.mono (ih _ _ _ _ _ _ _) (fun _ hq => frZ.tr f4 (frZ.sub hq (fun x k z => by omega)))
      · exact Pc.mono (ih _ _ _ _ _ _ _) (fun _ hq => frZ.tr f4 (frZ.sub hq (fun x k z => by omega)))
theorem zf_X11_stood {n : Nat} {h : Hp} {x1 : Int32} {x2 : Int32} {x3 : Int32} : Pc (F_X11_stood n h x1 x2 x3) (fun q => frZ (fun x k => (28 ≤ x ∧ x ≤ 29) ∨ (34 ≤ x ∧ x ≤ 37)) h q.2) := by
  unfold F_X11_stood
  refine Pc.bind zf_X0_hasGoer (fun q1 h2 => ?_)
  have f3 : frZ (fun x k => (28 ≤ x ∧ x ≤ 29) ∨ (34 ≤ x ∧ x ≤ 37)) h q1.2 := frZ.tr (frZ.rf h) (frZ.no h2)
  refine Pc.ite (fun _ => ?_) (fun _ => ?_)
  · exact Pc.ret f3
  · refine Pc.bind zf_X3_has (fun q4 h5 => ?_)
    have f6 : frZ (fun x k => (28 ≤ x ∧ x ≤ 29) ∨ (34 ≤ x ∧ x ≤ 37)) h q4.2 := frZ.tr f3 (frZ.no h5)
    refine Pc.ite (fun _ => ?_) (fun _ => ?_)
    · exact Pc.ret f6
    · refine Pc.bind zf_X11_isSpan (fun q7 h8 => ?_)
      have f9 : frZ (fun x k => (28 ≤ x ∧ x ≤ 29) ∨ (34 ≤ x ∧ x ≤ 37)) h q7.2 := frZ.tr f6 (frZ.no h8)
      refine Pc.ite (fun _ => ?_) (fun _ => ?_)
      · exact Pc.ret f9
      · refine Pc.bind zf_X8_become (fun q10 h11 => ?_)
        have f12 : frZ (fun x k => (28 ≤ x ∧ x ≤ 29) ∨ (34 ≤ x ∧ x ≤ 37)) h q10 := frZ.tr f9 (frZ.sub h11 (fun x k z => by omega))
        refine Pc.chk (fun c13 => ?_)
        refine Pc.ite (fun _ => ?_) (fun _ => ?_)
        · exact Pc.mono (zw_X11_stood _ _ _ _ _ _ _ _) (fun _ hq => frZ.tr f12 (frZ.sub hq (fun x k z => by omega)))
        · exact Pc.mono (zw_X11_stood _ _ _ _ _ _ _ _) (fun _ hq => frZ.tr f12 (frZ.sub hq (fun x k z => by omega)))
theorem zf_X2_keep {n : Nat} {h : Hp} {x1 : Int32} {x2 : Int32} : Pc (F_X2_keep n h x1 x2) (fun q => frZ (fun x k => (201 ≤ x ∧ x ≤ 203)) h q.2) := by
  unfold F_X2_keep
  refine Pc.ite (fun _ => ?_) (fun _ => ?_)
  · exact Pc.ret (frZ.rf h)
  · refine Pc.ite (fun _ => ?_) (fun _ => ?_)
    · exact Pc.ret (frZ.rf h)
    · refine Pc.ite (fun _ => ?_) (fun _ => ?_)
      · refine Pc.chk (fun c1 => ?_)
        refine Pc.chk (fun c2 => ?_)
        exact Pc.ret (frZ.w (frZ.w (frZ.w (frZ.rf h) (by omega)) (by omega)) (by omega))
      · exact Pc.ret (frZ.rf h)
theorem zf_X11_tell {n : Nat} {h : Hp} {x1 : Int32} {x2 : Int32} : Pc (F_X11_tell n h x1 x2) (fun q => frZ (fun x k => (201 ≤ x ∧ x ≤ 203)) h q.2) := by
  unfold F_X11_tell
  refine Pc.bind zf_X2_keep (fun q1 h2 => ?_)
  have f3 : frZ (fun x k => (201 ≤ x ∧ x ≤ 203)) h q1.2 := frZ.tr (frZ.rf h) (frZ.sub h2 (fun x k z => by omega))
  exact Pc.ret f3
theorem zf_X11_then {n : Nat} {h : Hp} {x1 : Int32} {x2 : Int32} {x3 : Int32} : Pc (F_X11_then n h x1 x2 x3) (fun q => frZ (fun x k => (28 ≤ x ∧ x ≤ 29) ∨ (34 ≤ x ∧ x ≤ 37)) h q.2) := by
  unfold F_X11_then
  refine Pc.bind zf_X0_hasGoer (fun q1 h2 => ?_)
  have f3 : frZ (fun x k => (28 ≤ x ∧ x ≤ 29) ∨ (34 ≤ x ∧ x ≤ 37)) h q1.2 := frZ.tr (frZ.rf h) (frZ.no h2)
  refine Pc.ite (fun _ => ?_) (fun _ => ?_)
  · exact Pc.ret f3
  · refine Pc.bind zf_X11_isSpan (fun q4 h5 => ?_)
    have f6 : frZ (fun x k => (28 ≤ x ∧ x ≤ 29) ∨ (34 ≤ x ∧ x ≤ 37)) h q4.2 := frZ.tr f3 (frZ.no h5)
    refine Pc.ite (fun _ => ?_) (fun _ => ?_)
    · exact Pc.ret f6
    · refine Pc.bind zf_X11_isNoughtOrOne (fun q7 h8 => ?_)
      have f9 : frZ (fun x k => (28 ≤ x ∧ x ≤ 29) ∨ (34 ≤ x ∧ x ≤ 37)) h q7.2 := frZ.tr f6 (frZ.no h8)
      refine Pc.ite (fun _ => ?_) (fun _ => ?_)
      · exact Pc.ret f9
      · refine Pc.bind zf_X8_become (fun q10 h11 => ?_)
        have f12 : frZ (fun x k => (28 ≤ x ∧ x ≤ 29) ∨ (34 ≤ x ∧ x ≤ 37)) h q10 := frZ.tr f9 (frZ.sub h11 (fun x k z => by omega))
        refine Pc.bind zf_X0_goOn (fun q13 h14 => ?_)
        have f15 : frZ (fun x k => (28 ≤ x ∧ x ≤ 29) ∨ (34 ≤ x ∧ x ≤ 37)) h q13 := frZ.tr f12 (frZ.sub h14 (fun x k z => by omega))
        refine Pc.ite (fun _ => ?_) (fun _ => ?_)
        · refine Pc.chk (fun c16 => ?_)
          exact Pc.ret f15
        · refine Pc.chk (fun c17 => ?_)
          exact Pc.ret f15
theorem zw_X11_together : ∀ (n : Nat) (hd : Nat) (h : Hp) (l1 : Int32) (l2 : Int32) (l3 : Int32), Pc (W_X11_together n hd h l1 l2 l3) (fun q => frZ (fun _ _ => False) h q.2) := by
  intro n
  induction n with
  | zero => intro hd h l1 l2 l3; exact Pc.no
  | succ n ih =>
    intro hd h l1 l2 l3
    rw [u_X11_together]
    refine Pc.chk (fun _ => ?_)
    refine Pc.ite (fun _ => ?_) (fun _ => ?_)
    · exact Pc.ret (frZ.rf h)
    · refine Pc.bind zf_X8_soundsAt (fun q2 h3 => ?_)
      have f4 : frZ (fun _ _ => False) h q2.2 := frZ.tr (frZ.rf h) (frZ.no h3)
      refine Pc.ite (fun _ => ?_) (fun _ => ?_)
      · exact Pc.mono (ih _ _ _ _ _) (fun _ hq => frZ.tr f4 (frZ.no hq))
      · refine Pc.bind zf_X8_soundsAt (fun q6 h7 => ?_)
        have f8 : frZ (fun _ _ => False) h q6.2 := frZ.tr f4 (frZ.no h7)
        refine Pc.ite (fun _ => ?_) (fun _ => ?_)
        · exact Pc.mono (ih _ _ _ _ _) (fun _ hq => frZ.tr f8 (frZ.no hq))
        · exact Pc.ret f8
theorem zf_X11_together {n : Nat} {h : Hp} {x1 : Int32} {x2 : Int32} : Pc (F_X11_together n h x1 x2) (fun q => frZ (fun _ _ => False) h q.2) := by
  unfold F_X11_together
  refine Pc.bind zf_X3_has (fun q1 h2 => ?_)
  have f3 : frZ (fun _ _ => False) h q1.2 := frZ.tr (frZ.rf h) (frZ.no h2)
  refine Pc.ite (fun _ => ?_) (fun _ => ?_)
  · exact Pc.ret f3
  · refine Pc.bind zf_X3_has (fun q4 h5 => ?_)
    have f6 : frZ (fun _ _ => False) h q4.2 := frZ.tr f3 (frZ.no h5)
    refine Pc.ite (fun _ => ?_) (fun _ => ?_)
    · exact Pc.ret f6
    · exact Pc.mono (zw_X11_together _ _ _ _ _ _) (fun _ hq => frZ.tr f6 (frZ.no hq))
theorem zf_X0_canSpread {n : Nat} {h : Hp} {a : Nat} {b1 : Nat} : Pc (F_X0_canSpread n h a b1) (fun q => frZ (fun _ _ => False) h q.2) := by
  unfold F_X0_canSpread
  refine Pc.ite (fun _ => ?_) (fun _ => ?_)
  · exact Pc.ret (frZ.rf h)
  · refine Pc.bind zf_X3_quietOnTheRight (fun q1 h2 => ?_)
    have f3 : frZ (fun _ _ => False) h q1.2 := frZ.tr (frZ.rf h) (frZ.no h2)
    refine Pc.ite (fun _ => ?_) (fun _ => ?_)
    · exact Pc.ret f3
    · refine Pc.bind zf_J6_bitCount_0f7a4 (fun q4 h5 => ?_)
      have f6 : frZ (fun _ _ => False) h q4.2 := frZ.tr f3 (frZ.no h5)
      refine Pc.ite (fun _ => ?_) (fun _ => ?_)
      · exact Pc.ret f6
      · exact Pc.ret f6
theorem zw_X0_soak : ∀ (n : Nat) (hd : Nat) (h : Hp) (a : Nat) (b1 : Nat) (l2 : Int32) (l3 : Int32) (l4 : Int32), Pc (W_X0_soak n hd h a b1 l2 l3 l4) (fun q => frZ (fun x k => x = a + 5 ∨ x = a + 6 ∨ x = b1 ∨ x = b1 + 1) h q) := by
  intro n
  induction n with
  | zero => intro hd h a b1 l2 l3 l4; exact Pc.no
  | succ n ih =>
    intro hd h a b1 l2 l3 l4
    rw [u_X0_soak]
    refine Pc.chk (fun _ => ?_)
    refine Pc.ite (fun _ => ?_) (fun _ => ?_)
    · exact Pc.ret (frZ.rf h)
    · refine Pc.bind zf_X0_canSpread (fun q2 h3 => ?_)
      have f4 : frZ (fun x k => x = a + 5 ∨ x = a + 6 ∨ x = b1 ∨ x = b1 + 1) h q2.2 := frZ.tr (frZ.rf h) (frZ.no h3)
      refine Pc.ite (fun _ => ?_) (fun _ => ?_)
      · exact Pc.ret f4
      · refine Pc.bind zf_X0_spread (fun q5 h6 => ?_)
        have f7 : frZ (fun x k => x = a + 5 ∨ x = a + 6 ∨ x = b1 ∨ x = b1 + 1) h q5 := frZ.tr (frZ.w f4 (by omega)) (frZ.sub h6 (fun x k z => by omega))
        exact Pc.mono (ih _ _ _ _ _ _ _) (fun _ hq => frZ.tr f7 (frZ.sub hq (fun x k z => by omega)))
theorem zf_X0_soak {n : Nat} {h : Hp} {a : Nat} {b1 : Nat} {x2 : Int32} {x3 : Int32} : Pc (F_X0_soak n h a b1 x2 x3) (fun q => frZ (fun x k => x = a + 5 ∨ x = a + 6 ∨ x = b1 ∨ x = b1 + 1) h q) := by
  unfold F_X0_soak
  exact Pc.mono (zw_X0_soak _ _ _ _ _ _ _ _) (fun _ hq => frZ.tr (frZ.rf h) (frZ.sub hq (fun x k z => by omega)))
theorem zf_X11_tunesIn {n : Nat} {h : Hp} {x1 : Int32} : Pc (F_X11_tunesIn n h x1) (fun q => frZ (fun x k => (28 ≤ x ∧ x ≤ 29) ∨ (34 ≤ x ∧ x ≤ 37)) h q.2) := by
  unfold F_X11_tunesIn
  refine Pc.bind zf_X11_isSpan (fun q1 h2 => ?_)
  have f3 : frZ (fun x k => (28 ≤ x ∧ x ≤ 29) ∨ (34 ≤ x ∧ x ≤ 37)) h q1.2 := frZ.tr (frZ.rf h) (frZ.no h2)
  refine Pc.ite (fun _ => ?_) (fun _ => ?_)
  · exact Pc.ret f3
  · refine Pc.bind zf_X8_become (fun q4 h5 => ?_)
    have f6 : frZ (fun x k => (28 ≤ x ∧ x ≤ 29) ∨ (34 ≤ x ∧ x ≤ 37)) h q4 := frZ.tr f3 (frZ.sub h5 (fun x k z => by omega))
    refine Pc.bind zf_X0_soak (fun q7 h8 => ?_)
    have f9 : frZ (fun x k => (28 ≤ x ∧ x ≤ 29) ∨ (34 ≤ x ∧ x ≤ 37)) h q7 := frZ.tr f6 (frZ.sub h8 (fun x k z => by omega))
    exact Pc.ret f9
theorem zf_X6_takeBack {n : Nat} {h : Hp} {b1 : Nat} : Pc (F_X6_takeBack n h b1) (fun q => frZ (fun x k => x = 38 ∨ x = b1 ∨ x = b1 + 1 ∨ x = b1 + 2 ∨ x = b1 + 3) h q.2) := by
  unfold F_X6_takeBack
  refine Pc.ite (fun _ => ?_) (fun _ => ?_)
  · exact Pc.ret (frZ.rf h)
  · refine Pc.chk (fun c1 => ?_)
    have := ixO_lt c1
    refine Pc.bind zf_X8_become (fun q2 h3 => ?_)
    have f4 : frZ (fun x k => x = 38 ∨ x = b1 ∨ x = b1 + 1 ∨ x = b1 + 2 ∨ x = b1 + 3) h q2 := frZ.tr (frZ.rf h) (frZ.sub h3 (fun x k z => by omega))
    exact Pc.ret (frZ.w (frZ.w f4 (by omega)) (by omega))
theorem zf_X11_undo {n : Nat} {h : Hp} : Pc (F_X11_undo n h) (fun q => frZ (fun x k => (30 ≤ x ∧ x ≤ 33) ∨ x = 38) h q.2) := by
  unfold F_X11_undo
  refine Pc.bind zf_X6_takeBack (fun q1 h2 => ?_)
  have f3 : frZ (fun x k => (30 ≤ x ∧ x ≤ 33) ∨ x = 38) h q1.2 := frZ.tr (frZ.rf h) (frZ.sub h2 (fun x k z => by omega))
  refine Pc.chk (fun _ => ?_)
  exact Pc.ret f3
theorem zw_X10_lookBack : ∀ (n : Nat) (hd : Nat) (h : Hp) (l1 : Int32) (l2 : Int32) (l3 : Int32) (l4 : Int32), Pc (W_X10_lookBack n hd h l1 l2 l3 l4) (fun q => frZ (fun x k => x = 206) h q) := by
  intro n
  induction n with
  | zero => intro hd h l1 l2 l3 l4; exact Pc.no
  | succ n ih =>
    intro hd h l1 l2 l3 l4
    rw [u_X10_lookBack]
    refine Pc.chk (fun _ => ?_)
    refine Pc.ite (fun _ => ?_) (fun _ => ?_)
    · exact Pc.ret (frZ.rf h)
    · refine Pc.chk (fun c2 => ?_)
      refine Pc.bind zf_X10_quietAt (fun q3 h4 => ?_)
      have f5 : frZ (fun x k => x = 206) h q3.2 := frZ.tr (frZ.w (frZ.rf h) (by omega)) (frZ.no h4)
      refine Pc.bind zf_X3_grown (fun q6 h7 => ?_)
      have f8 : frZ (fun x k => x = 206) h q6.2 := frZ.tr f5 (frZ.no h7)
      exact Pc.mono (ih _ _ _ _ _ _) (fun _ hq => frZ.tr f8 (frZ.sub hq (fun x k z => by omega)))
theorem zf_X10_lookBack {n : Nat} {h : Hp} {x1 : Int32} {x2 : Int32} : Pc (F_X10_lookBack n h x1 x2) (fun q => frZ (fun x k => x = 206) h q) := by
  unfold F_X10_lookBack
  exact Pc.mono (zw_X10_lookBack _ _ _ _ _ _ _) (fun _ hq => frZ.tr (frZ.rf h) (frZ.sub hq (fun x k z => by omega)))
theorem zw_X10_cellOnWay : ∀ (n : Nat) (hd : Nat) (h : Hp) (l1 : Int32) (l2 : Int32) (l3 : Int32) (l4 : Int32) (l5 : Int32) (l6 : Int32), Pc (W_X10_cellOnWay n hd h l1 l2 l3 l4 l5 l6) (fun q => frZ (fun _ _ => False) h q.2) := by
  intro n
  induction n with
  | zero => intro hd h l1 l2 l3 l4 l5 l6; exact Pc.no
  | succ n ih =>
    intro hd h l1 l2 l3 l4 l5 l6
    rw [u_X10_cellOnWay]
    refine Pc.chk (fun _ => ?_)
    refine Pc.ite (fun _ => ?_) (fun _ => ?_)
    · exact Pc.ret (frZ.rf h)
    · refine Pc.ite (fun _ => ?_) (fun _ => ?_)
      · exact Pc.ret (frZ.rf h)
      · refine Pc.ite (fun _ => ?_) (fun _ => ?_)
        · exact Pc.ret (frZ.rf h)
        · refine Pc.bind zf_X10_onwards (fun q2 h3 => ?_)
          have f4 : frZ (fun _ _ => False) h q2.2 := frZ.tr (frZ.rf h) (frZ.no h3)
          refine Pc.chk (fun c5 => ?_)
          refine Pc.bind zf_X11_lowest (fun q6 h7 => ?_)
          have f8 : frZ (fun _ _ => False) h q6.2 := frZ.tr f4 (frZ.no h7)
          exact Pc.mono (ih _ _ _ _ _ _ _ _) (fun _ hq => frZ.tr f8 (frZ.no hq))
theorem zf_X10_cellOnWay {n : Nat} {h : Hp} {x1 : Int32} {x2 : Int32} {x3 : Int32} {x4 : Int32} : Pc (F_X10_cellOnWay n h x1 x2 x3 x4) (fun q => frZ (fun x k => x = 206) h q.2) := by
  unfold F_X10_cellOnWay
  refine Pc.bind zf_X10_lookBack (fun q1 h2 => ?_)
  have f3 : frZ (fun x k => x = 206) h q1 := frZ.tr (frZ.rf h) (frZ.sub h2 (fun x k z => by omega))
  exact Pc.mono (zw_X10_cellOnWay _ _ _ _ _ _ _ _ _) (fun _ hq => frZ.tr f3 (frZ.no hq))
theorem zf_X11_way {n : Nat} {h : Hp} {x1 : Int32} {x2 : Int32} {x3 : Int32} : Pc (F_X11_way n h x1 x2 x3) (fun q => frZ (fun x k => (204 ≤ x ∧ x ≤ 206)) h q.2) := by
  unfold F_X11_way
  refine Pc.bind zf_X11_isFree (fun q1 h2 => ?_)
  have f3 : frZ (fun x k => (204 ≤ x ∧ x ≤ 206)) h q1.2 := frZ.tr (frZ.rf h) (frZ.no h2)
  refine Pc.ite (fun _ => ?_) (fun _ => ?_)
  · exact Pc.ret f3
  · refine Pc.bind zf_X11_isFree (fun q4 h5 => ?_)
    have f6 : frZ (fun x k => (204 ≤ x ∧ x ≤ 206)) h q4.2 := frZ.tr f3 (frZ.no h5)
    refine Pc.ite (fun _ => ?_) (fun _ => ?_)
    · exact Pc.ret f6
    · refine Pc.bind zf_X10_look (fun q7 h8 => ?_)
      have f9 : frZ (fun x k => (204 ≤ x ∧ x ≤ 206)) h q7 := frZ.tr f6 (frZ.sub h8 (fun x k z => by omega))
      refine Pc.bind zf_X10_fewest (fun q10 h11 => ?_)
      have f12 : frZ (fun x k => (204 ≤ x ∧ x ≤ 206)) h q10.2 := frZ.tr f9 (frZ.no h11)
      refine Pc.ite (fun _ => ?_) (fun _ => ?_)
      · exact Pc.ret f12
      · refine Pc.ite (fun _ => ?_) (fun _ => ?_)
        · exact Pc.ret f12
        · refine Pc.ite (fun _ => ?_) (fun _ => ?_)
          · exact Pc.ret f12
          · refine Pc.ite (fun _ => ?_) (fun _ => ?_)
            · refine Pc.bind zf_X10_cellOnWay (fun q13 h14 => ?_)
              have f15 : frZ (fun x k => (204 ≤ x ∧ x ≤ 206)) h q13.2 := frZ.tr f12 (frZ.sub h14 (fun x k z => by omega))
              exact Pc.ret f15
            · exact Pc.ret f12
theorem zw_X11_year : ∀ (n : Nat) (hd : Nat) (h : Hp) (l1 : Int32) (l2 : Int32) (l3 : Int32) (l4 : Int32) (l5 : Int32), Pc (W_X11_year n hd h l1 l2 l3 l4 l5) (fun q => frZ (fun x k => (28 ≤ x ∧ x ≤ 29) ∨ (34 ≤ x ∧ x ≤ 37)) h q.2) := by
  intro n
  induction n with
  | zero => intro hd h l1 l2 l3 l4 l5; exact Pc.no
  | succ n ih =>
    intro hd h l1 l2 l3 l4 l5
    rw [u_X11_year]
    refine Pc.chk (fun _ => ?_)
    refine Pc.ite (fun _ => ?_) (fun _ => ?_)
    · exact Pc.ret (frZ.rf h)
    · refine Pc.bind zf_X8_become (fun q2 h3 => ?_)
      have f4 : frZ (fun x k => (28 ≤ x ∧ x ≤ 29) ∨ (34 ≤ x ∧ x ≤ 37)) h q2 := frZ.tr (frZ.rf h) (frZ.sub h3 (fun x k z => by omega))
      refine Pc.bind zf_X0_soak (fun q5 h6 => ?_)
      have f7 : frZ (fun x k => (28 ≤ x ∧ x ≤ 29) ∨ (34 ≤ x ∧ x ≤ 37)) h q5 := frZ.tr f4 (frZ.sub h6 (fun x k z => by omega))
      refine Pc.bind zf_X8_isTuned (fun q8 h9 => ?_)
      have f10 : frZ (fun x k => (28 ≤ x ∧ x ≤ 29) ∨ (34 ≤ x ∧ x ≤ 37)) h q8.2 := frZ.tr f7 (frZ.no h9)
      refine Pc.ite (fun _ => ?_) (fun _ => ?_)
      · exact Pc.mono (ih _ _ _ _ _ _ _) (fun _ hq => frZ.tr f10 (frZ.sub hq (fun x k z => by omega)))
      · exact Pc.mono (ih _ _ _ _ _ _ _) (fun _ hq => frZ.tr f10 (frZ.sub hq (fun x k z => by omega)))
theorem zf_X11_year {n : Nat} {h : Hp} {x1 : Int32} {x2 : Int32} {x3 : Int32} : Pc (F_X11_year n h x1 x2 x3) (fun q => frZ (fun x k => (28 ≤ x ∧ x ≤ 29) ∨ (34 ≤ x ∧ x ≤ 37)) h q.2) := by
  unfold F_X11_year
  refine Pc.bind zf_X3_has (fun q1 h2 => ?_)
  have f3 : frZ (fun x k => (28 ≤ x ∧ x ≤ 29) ∨ (34 ≤ x ∧ x ≤ 37)) h q1.2 := frZ.tr (frZ.rf h) (frZ.no h2)
  refine Pc.ite (fun _ => ?_) (fun _ => ?_)
  · exact Pc.ret f3
  · refine Pc.bind zf_X11_isSpan (fun q4 h5 => ?_)
    have f6 : frZ (fun x k => (28 ≤ x ∧ x ≤ 29) ∨ (34 ≤ x ∧ x ≤ 37)) h q4.2 := frZ.tr f3 (frZ.no h5)
    refine Pc.ite (fun _ => ?_) (fun _ => ?_)
    · exact Pc.ret f6
    · refine Pc.ite (fun _ => ?_) (fun _ => ?_)
      · exact Pc.ret f6
      · refine Pc.ite (fun _ => ?_) (fun _ => ?_)
        · exact Pc.mono (zw_X11_year _ _ _ _ _ _ _ _) (fun _ hq => frZ.tr f6 (frZ.sub hq (fun x k z => by omega)))
        · exact Pc.ret f6
theorem zw_X3_lay : ∀ (n : Nat) (hd : Nat) (h : Hp) (a : Nat) (l1 : Int32) (l2 : Int32) (l3 : Int32), Pc (W_X3_lay n hd h a l1 l2 l3) (fun q => frZ (fun x k => x = a) h q) := by
  intro n
  induction n with
  | zero => intro hd h a l1 l2 l3; exact Pc.no
  | succ n ih =>
    intro hd h a l1 l2 l3
    rw [u_X3_lay]
    refine Pc.chk (fun _ => ?_)
    refine Pc.ite (fun _ => ?_) (fun _ => ?_)
    · exact Pc.ret (frZ.w (frZ.rf h) (by omega))
    · exact Pc.mono (ih _ _ _ _ _ _) (fun _ hq => frZ.tr (frZ.w (frZ.rf h) (by omega)) (frZ.sub hq (fun x k z => by omega)))
theorem zf_X3_lay {n : Nat} {h : Hp} {a : Nat} {x1 : Int32} {x2 : Int32} : Pc (F_X3_lay n h a x1 x2) (fun q => frZ (fun x k => x = a) h q) := by
  unfold F_X3_lay
  exact Pc.mono (zw_X3_lay _ _ _ _ _ _ _) (fun _ hq => frZ.tr (frZ.w (frZ.w (frZ.w (frZ.rf h) (by omega)) (by omega)) (by omega)) (frZ.sub hq (fun x k z => by omega)))
theorem zf_X4_begin {n : Nat} {h : Hp} {a : Nat} {x1 : Int32} : Pc (F_X4_begin n h a x1) (fun q => frZ (fun x k => x = a + 2) h q) := by
  unfold F_X4_begin
  refine Pc.ite (fun _ => ?_) (fun _ => ?_)
  · exact Pc.ret (frZ.rf h)
  · refine Pc.ite (fun _ => ?_) (fun _ => ?_)
    · exact Pc.ret (frZ.rf h)
    · refine Pc.chk (fun c1 => ?_)
      exact Pc.ret (frZ.w (frZ.rf h) (by omega))
theorem zf_X4_clear {n : Nat} {h : Hp} {a : Nat} : Pc (F_X4_clear n h a) (fun q => frZ (fun x k => x = a ∨ x = a + 1 ∨ x = a + 2) h q) := by
  unfold F_X4_clear
  refine Pc.bind zf_X4_begin (fun q1 h2 => ?_)
  have f3 : frZ (fun x k => x = a ∨ x = a + 1 ∨ x = a + 2) h q1 := frZ.tr (frZ.w (frZ.rf h) (by omega)) (frZ.sub h2 (fun x k z => by omega))
  refine Pc.bind zf_X4_begin (fun q4 h5 => ?_)
  have f6 : frZ (fun x k => x = a ∨ x = a + 1 ∨ x = a + 2) h q4 := frZ.tr f3 (frZ.sub h5 (fun x k z => by omega))
  refine Pc.bind zf_X4_add (fun q7 h8 => ?_)
  have f9 : frZ (fun x k => x = a ∨ x = a + 1 ∨ x = a + 2) h q7 := frZ.tr f6 (frZ.sub h8 (fun x k z => by omega))
  refine Pc.bind zf_X4_add (fun q10 h11 => ?_)
  have f12 : frZ (fun x k => x = a ∨ x = a + 1 ∨ x = a + 2) h q10 := frZ.tr f9 (frZ.sub h11 (fun x k z => by omega))
  refine Pc.bind zf_X4_begin (fun q13 h14 => ?_)
  have f15 : frZ (fun x k => x = a ∨ x = a + 1 ∨ x = a + 2) h q13 := frZ.tr f12 (frZ.sub h14 (fun x k z => by omega))
  refine Pc.bind zf_X4_begin (fun q16 h17 => ?_)
  have f18 : frZ (fun x k => x = a ∨ x = a + 1 ∨ x = a + 2) h q16 := frZ.tr f15 (frZ.sub h17 (fun x k z => by omega))
  refine Pc.bind zf_X4_add (fun q19 h20 => ?_)
  have f21 : frZ (fun x k => x = a ∨ x = a + 1 ∨ x = a + 2) h q19 := frZ.tr f18 (frZ.sub h20 (fun x k z => by omega))
  refine Pc.bind zf_X4_add (fun q22 h23 => ?_)
  have f24 : frZ (fun x k => x = a ∨ x = a + 1 ∨ x = a + 2) h q22 := frZ.tr f21 (frZ.sub h23 (fun x k z => by omega))
  exact Pc.ret f24
theorem zf_X0_clear {n : Nat} {h : Hp} {a : Nat} : Pc (F_X0_clear n h a) (fun q => frZ (fun x k => x = a ∨ x = a + 1 ∨ x = a + 2 ∨ x = a + 3 ∨ x = a + 4) h q) := by
  unfold F_X0_clear
  refine Pc.bind zf_X3_lay (fun q1 h2 => ?_)
  have f3 : frZ (fun x k => x = a ∨ x = a + 1 ∨ x = a + 2 ∨ x = a + 3 ∨ x = a + 4) h q1 := frZ.tr (frZ.rf h) (frZ.sub h2 (fun x k z => by omega))
  refine Pc.bind zf_X4_clear (fun q4 h5 => ?_)
  have f6 : frZ (fun x k => x = a ∨ x = a + 1 ∨ x = a + 2 ∨ x = a + 3 ∨ x = a + 4) h q4 := frZ.tr f3 (frZ.sub h5 (fun x k z => by omega))
  exact Pc.ret (frZ.w (frZ.w (frZ.w f6 (by omega)) (by omega)) (by omega))
theorem zw_J7_fill_5 : ∀ (n : Nat) (hd : Nat) (h : Hp) (b1 : Nat) (l1 : Int32) (l2 : Int32) (l3 : Int32), Pc (W_J7_fill_5 n hd h b1 l1 l2 l3) (fun q => frZ (fun x k => x = b1) h q) := by
  intro n
  induction n with
  | zero => intro hd h b1 l1 l2 l3; exact Pc.no
  | succ n ih =>
    intro hd h b1 l1 l2 l3
    rw [u_J7_fill_5]
    refine Pc.chk (fun _ => ?_)
    refine Pc.ite (fun _ => ?_) (fun _ => ?_)
    · exact Pc.ret (frZ.rf h)
    · refine Pc.chk (fun c2 => ?_)
      exact Pc.mono (ih _ _ _ _ _ _) (fun _ hq => frZ.tr (frZ.w (frZ.rf h) (by omega)) (frZ.sub hq (fun x k z => by omega)))
theorem zf_J7_fill_5 {n : Nat} {h : Hp} {b1 : Nat} {x2 : Int32} : Pc (F_J7_fill_5 n h b1 x2) (fun q => frZ (fun x k => x = b1) h q) := by
  unfold F_J7_fill_5
  exact Pc.mono (zw_J7_fill_5 _ _ _ _ _ _ _) (fun _ hq => frZ.tr (frZ.rf h) (frZ.sub hq (fun x k z => by omega)))
theorem zf_X8_clear {n : Nat} {h : Hp} {a : Nat} : Pc (F_X8_clear n h a) (fun q => frZ (fun x k => x = a ∨ x = a + 3) h q) := by
  unfold F_X8_clear
  refine Pc.bind zf_J7_fill_5 (fun q1 h2 => ?_)
  have f3 : frZ (fun x k => x = a ∨ x = a + 3) h q1 := frZ.tr (frZ.w (frZ.w (frZ.w (frZ.w (frZ.rf h) (by omega)) (by omega)) (by omega)) (by omega)) (frZ.sub h2 (fun x k z => by omega))
  exact Pc.ret f3
theorem zf_X7_clear {n : Nat} {h : Hp} : Pc (F_X7_clear n h) (fun q => frZ (fun x k => (2 ≤ x ∧ x ≤ 22)) h q) := by
  unfold F_X7_clear
  refine Pc.bind zf_X0_clear (fun q1 h2 => ?_)
  have f3 : frZ (fun x k => (2 ≤ x ∧ x ≤ 22)) h q1 := frZ.tr (frZ.rf h) (frZ.sub h2 (fun x k z => by omega))
  refine Pc.bind zf_X8_clear (fun q4 h5 => ?_)
  have f6 : frZ (fun x k => (2 ≤ x ∧ x ≤ 22)) h q4 := frZ.tr f3 (frZ.sub h5 (fun x k z => by omega))
  refine Pc.bind zf_J7_fill_25 (fun q7 h8 => ?_)
  have f9 : frZ (fun x k => (2 ≤ x ∧ x ≤ 22)) h q7 := frZ.tr (frZ.w (frZ.w (frZ.w (frZ.w (frZ.w f6 (by omega)) (by omega)) (by omega)) (by omega)) (by omega)) (frZ.sub h8 (fun x k z => by omega))
  exact Pc.ret (frZ.w (frZ.w (frZ.w f9 (by omega)) (by omega)) (by omega))
theorem zf_X9_signAt {n : Nat} {h : Hp} {x1 : Int32} : Pc (F_X9_signAt n h x1) (fun q => frZ (fun _ _ => False) h q.2) := by
  unfold F_X9_signAt
  refine Pc.ite (fun _ => ?_) (fun _ => ?_)
  · exact Pc.ret (frZ.rf h)
  · refine Pc.ite (fun _ => ?_) (fun _ => ?_)
    · exact Pc.ret (frZ.rf h)
    · refine Pc.ite (fun _ => ?_) (fun _ => ?_)
      · exact Pc.ret (frZ.rf h)
      · refine Pc.chk (fun c1 => ?_)
        exact Pc.ret (frZ.rf h)
theorem zf_X9_isBlank {n : Nat} {h : Hp} {x1 : Int32} : Pc (F_X9_isBlank n h x1) (fun q => frZ (fun _ _ => False) h q.2) := by
  unfold F_X9_isBlank
  refine Pc.ite (fun _ => ?_) (fun _ => ?_)
  · exact Pc.ret (frZ.rf h)
  · refine Pc.ite (fun _ => ?_) (fun _ => ?_)
    · exact Pc.ret (frZ.rf h)
    · refine Pc.ite (fun _ => ?_) (fun _ => ?_)
      · exact Pc.ret (frZ.rf h)
      · refine Pc.ite (fun _ => ?_) (fun _ => ?_)
        · exact Pc.ret (frZ.rf h)
        · exact Pc.ret (frZ.rf h)
theorem zw_X9_behindBlanks : ∀ (n : Nat) (hd : Nat) (h : Hp) (l1 : Int32) (l2 : Int32), Pc (W_X9_behindBlanks n hd h l1 l2) (fun q => frZ (fun _ _ => False) h q.2) := by
  intro n
  induction n with
  | zero => intro hd h l1 l2; exact Pc.no
  | succ n ih =>
    intro hd h l1 l2
    rw [u_X9_behindBlanks]
    refine Pc.chk (fun _ => ?_)
    refine Pc.ite (fun _ => ?_) (fun _ => ?_)
    · exact Pc.ret (frZ.rf h)
    · refine Pc.bind zf_X9_signAt (fun q2 h3 => ?_)
      have f4 : frZ (fun _ _ => False) h q2.2 := frZ.tr (frZ.rf h) (frZ.no h3)
      refine Pc.bind zf_X9_isBlank (fun q5 h6 => ?_)
      have f7 : frZ (fun _ _ => False) h q5.2 := frZ.tr f4 (frZ.no h6)
      refine Pc.ite (fun _ => ?_) (fun _ => ?_)
      · exact Pc.ret f7
      · exact Pc.mono (ih _ _ _ _) (fun _ hq => frZ.tr f7 (frZ.no hq))
theorem zf_X9_behindBlanks {n : Nat} {h : Hp} {x1 : Int32} : Pc (F_X9_behindBlanks n h x1) (fun q => frZ (fun _ _ => False) h q.2) := by
  unfold F_X9_behindBlanks
  exact Pc.mono (zw_X9_behindBlanks _ _ _ _ _) (fun _ hq => frZ.tr (frZ.rf h) (frZ.no hq))
theorem zf_X9_isLetter {n : Nat} {h : Hp} {x1 : Int32} : Pc (F_X9_isLetter n h x1) (fun q => frZ (fun _ _ => False) h q.2) := by
  unfold F_X9_isLetter
  refine Pc.ite (fun _ => ?_) (fun _ => ?_)
  · exact Pc.ret (frZ.rf h)
  · refine Pc.ite (fun _ => ?_) (fun _ => ?_)
    · exact Pc.ret (frZ.rf h)
    · exact Pc.ret (frZ.rf h)
theorem zf_X9_isDigit {n : Nat} {h : Hp} {x1 : Int32} : Pc (F_X9_isDigit n h x1) (fun q => frZ (fun _ _ => False) h q.2) := by
  unfold F_X9_isDigit
  refine Pc.ite (fun _ => ?_) (fun _ => ?_)
  · exact Pc.ret (frZ.rf h)
  · refine Pc.ite (fun _ => ?_) (fun _ => ?_)
    · exact Pc.ret (frZ.rf h)
    · exact Pc.ret (frZ.rf h)
theorem zf_X9_isSign {n : Nat} {h : Hp} {x1 : Int32} : Pc (F_X9_isSign n h x1) (fun q => frZ (fun _ _ => False) h q.2) := by
  unfold F_X9_isSign
  refine Pc.ite (fun _ => ?_) (fun _ => ?_)
  · exact Pc.ret (frZ.rf h)
  · refine Pc.ite (fun _ => ?_) (fun _ => ?_)
    · exact Pc.ret (frZ.rf h)
    · refine Pc.ite (fun _ => ?_) (fun _ => ?_)
      · exact Pc.ret (frZ.rf h)
      · refine Pc.ite (fun _ => ?_) (fun _ => ?_)
        · exact Pc.ret (frZ.rf h)
        · refine Pc.ite (fun _ => ?_) (fun _ => ?_)
          · exact Pc.ret (frZ.rf h)
          · refine Pc.ite (fun _ => ?_) (fun _ => ?_)
            · exact Pc.ret (frZ.rf h)
            · refine Pc.ite (fun _ => ?_) (fun _ => ?_)
              · exact Pc.ret (frZ.rf h)
              · refine Pc.ite (fun _ => ?_) (fun _ => ?_)
                · exact Pc.ret (frZ.rf h)
                · refine Pc.ite (fun _ => ?_) (fun _ => ?_)
                  · exact Pc.ret (frZ.rf h)
                  · refine Pc.ite (fun _ => ?_) (fun _ => ?_)
                    · exact Pc.ret (frZ.rf h)
                    · refine Pc.ite (fun _ => ?_) (fun _ => ?_)
                      · exact Pc.ret (frZ.rf h)
                      · refine Pc.ite (fun _ => ?_) (fun _ => ?_)
                        · exact Pc.ret (frZ.rf h)
                        · refine Pc.ite (fun _ => ?_) (fun _ => ?_)
                          · exact Pc.ret (frZ.rf h)
                          · refine Pc.ite (fun _ => ?_) (fun _ => ?_)
                            · exact Pc.ret (frZ.rf h)
                            · refine Pc.ite (fun _ => ?_) (fun _ => ?_)
                              · exact Pc.ret (frZ.rf h)
                              · refine Pc.ite (fun _ => ?_) (fun _ => ?_)
                                · exact Pc.ret (frZ.rf h)
                                · refine Pc.ite (fun _ => ?_) (fun _ => ?_)
                                  · exact Pc.ret (frZ.rf h)
                                  · refine Pc.ite (fun _ => ?_) (fun _ => ?_)
                                    · exact Pc.ret (frZ.rf h)
                                    · refine Pc.ite (fun _ => ?_) (fun _ => ?_)
                                      · exact Pc.ret (frZ.rf h)
                                      · refine Pc.ite (fun _ => ?_) (fun _ => ?_)
                                        · exact Pc.ret (frZ.rf h)
                                        · refine Pc.ite (fun _ => ?_) (fun _ => ?_)
                                          · exact Pc.ret (frZ.rf h)
                                          · refine Pc.ite (fun _ => ?_) (fun _ => ?_)
                                            · exact Pc.ret (frZ.rf h)
                                            · exact Pc.ret (frZ.rf h)
theorem zw_X9_behindDigits : ∀ (n : Nat) (hd : Nat) (h : Hp) (l1 : Int32) (l2 : Int32), Pc (W_X9_behindDigits n hd h l1 l2) (fun q => frZ (fun _ _ => False) h q.2) := by
  intro n
  induction n with
  | zero => intro hd h l1 l2; exact Pc.no
  | succ n ih =>
    intro hd h l1 l2
    rw [u_X9_behindDigits]
    refine Pc.chk (fun _ => ?_)
    refine Pc.ite (fun _ => ?_) (fun _ => ?_)
    · exact Pc.ret (frZ.rf h)
    · refine Pc.bind zf_X9_signAt (fun q2 h3 => ?_)
      have f4 : frZ (fun _ _ => False) h q2.2 := frZ.tr (frZ.rf h) (frZ.no h3)
      refine Pc.bind zf_X9_isDigit (fun q5 h6 => ?_)
      have f7 : frZ (fun _ _ => False) h q5.2 := frZ.tr f4 (frZ.no h6)
      refine Pc.ite (fun _ => ?_) (fun _ => ?_)
      · exact Pc.ret f7
      · exact Pc.mono (ih _ _ _ _) (fun _ hq => frZ.tr f7 (frZ.no hq))
theorem zf_X9_behindDigits {n : Nat} {h : Hp} {x1 : Int32} : Pc (F_X9_behindDigits n h x1) (fun q => frZ (fun _ _ => False) h q.2) := by
  unfold F_X9_behindDigits
  exact Pc.mono (zw_X9_behindDigits _ _ _ _ _) (fun _ hq => frZ.tr (frZ.rf h) (frZ.no hq))
theorem zw_X9_numberOf : ∀ (n : Nat) (hd : Nat) (h : Hp) (l1 : Int32) (l2 : Int32) (l3 : Int32) (l4 : Int32), Pc (W_X9_numberOf n hd h l1 l2 l3 l4) (fun q => frZ (fun _ _ => False) h q.2) := by
  intro n
  induction n with
  | zero => intro hd h l1 l2 l3 l4; exact Pc.no
  | succ n ih =>
    intro hd h l1 l2 l3 l4
    rw [u_X9_numberOf]
    refine Pc.chk (fun _ => ?_)
    refine Pc.ite (fun _ => ?_) (fun _ => ?_)
    · exact Pc.ret (frZ.rf h)
    · refine Pc.bind zf_X9_signAt (fun q2 h3 => ?_)
      have f4 : frZ (fun _ _ => False) h q2.2 := frZ.tr (frZ.rf h) (frZ.no h3)
      exact Pc.mono (ih _ _ _ _ _ _) (fun _ hq => frZ.tr f4 (frZ.no hq))
theorem zf_X9_numberOf {n : Nat} {h : Hp} {x1 : Int32} {x2 : Int32} : Pc (F_X9_numberOf n h x1 x2) (fun q => frZ (fun _ _ => False) h q.2) := by
  unfold F_X9_numberOf
  exact Pc.mono (zw_X9_numberOf _ _ _ _ _ _ _) (fun _ hq => frZ.tr (frZ.rf h) (frZ.no hq))
theorem zw_X9_behindLetters : ∀ (n : Nat) (hd : Nat) (h : Hp) (l1 : Int32) (l2 : Int32), Pc (W_X9_behindLetters n hd h l1 l2) (fun q => frZ (fun _ _ => False) h q.2) := by
  intro n
  induction n with
  | zero => intro hd h l1 l2; exact Pc.no
  | succ n ih =>
    intro hd h l1 l2
    rw [u_X9_behindLetters]
    refine Pc.chk (fun _ => ?_)
    refine Pc.ite (fun _ => ?_) (fun _ => ?_)
    · exact Pc.ret (frZ.rf h)
    · refine Pc.bind zf_X9_signAt (fun q2 h3 => ?_)
      have f4 : frZ (fun _ _ => False) h q2.2 := frZ.tr (frZ.rf h) (frZ.no h3)
      refine Pc.bind zf_X9_isLetter (fun q5 h6 => ?_)
      have f7 : frZ (fun _ _ => False) h q5.2 := frZ.tr f4 (frZ.no h6)
      refine Pc.ite (fun _ => ?_) (fun _ => ?_)
      · exact Pc.ret f7
      · exact Pc.mono (ih _ _ _ _) (fun _ hq => frZ.tr f7 (frZ.no hq))
theorem zf_X9_behindLetters {n : Nat} {h : Hp} {x1 : Int32} : Pc (F_X9_behindLetters n h x1) (fun q => frZ (fun _ _ => False) h q.2) := by
  unfold F_X9_behindLetters
  exact Pc.mono (zw_X9_behindLetters _ _ _ _ _) (fun _ hq => frZ.tr (frZ.rf h) (frZ.no hq))
theorem zf_X9_withLetter {n : Nat} {h : Hp} {x1 : Int64} {x2 : Int32} : Pc (F_X9_withLetter n h x1 x2) (fun q => frZ (fun _ _ => False) h q.2) := by
  unfold F_X9_withLetter
  exact Pc.ret (frZ.rf h)
theorem zw_X9_lettersOf : ∀ (n : Nat) (hd : Nat) (h : Hp) (l1 : Int32) (l2 : Int32) (l3 : Int64) (l5 : Int32), Pc (W_X9_lettersOf n hd h l1 l2 l3 l5) (fun q => frZ (fun _ _ => False) h q.2) := by
  intro n
  induction n with
  | zero => intro hd h l1 l2 l3 l5; exact Pc.no
  | succ n ih =>
    intro hd h l1 l2 l3 l5
    rw [u_X9_lettersOf]
    refine Pc.chk (fun _ => ?_)
    refine Pc.ite (fun _ => ?_) (fun _ => ?_)
    · exact Pc.ret (frZ.rf h)
    · refine Pc.bind zf_X9_signAt (fun q2 h3 => ?_)
      have f4 : frZ (fun _ _ => False) h q2.2 := frZ.tr (frZ.rf h) (frZ.no h3)
      refine Pc.bind zf_X9_withLetter (fun q5 h6 => ?_)
      have f7 : frZ (fun _ _ => False) h q5.2 := frZ.tr f4 (frZ.no h6)
      exact Pc.mono (ih _ _ _ _ _ _) (fun _ hq => frZ.tr f7 (frZ.no hq))
theorem zf_X9_lettersOf {n : Nat} {h : Hp} {x1 : Int32} {x2 : Int32} : Pc (F_X9_lettersOf n h x1 x2) (fun q => frZ (fun _ _ => False) h q.2) := by
  unfold F_X9_lettersOf
  exact Pc.mono (zw_X9_lettersOf _ _ _ _ _ _ _) (fun _ hq => frZ.tr (frZ.rf h) (frZ.no hq))
theorem zw_X9_kindOfLetters : ∀ (n : Nat) (hd : Nat) (h : Hp) (l1 : Int64) (l3 : Int32), Pc (W_X9_kindOfLetters n hd h l1 l3) (fun q => frZ (fun _ _ => False) h q.2) := by
  intro n
  induction n with
  | zero => intro hd h l1 l3; exact Pc.no
  | succ n ih =>
    intro hd h l1 l3
    rw [u_X9_kindOfLetters]
    refine Pc.chk (fun _ => ?_)
    refine Pc.ite (fun _ => ?_) (fun _ => ?_)
    · exact Pc.ret (frZ.rf h)
    · refine Pc.chk (fun c2 => ?_)
      refine Pc.ite (fun _ => ?_) (fun _ => ?_)
      · exact Pc.ret (frZ.rf h)
      · exact Pc.mono (ih _ _ _ _) (fun _ hq => frZ.tr (frZ.rf h) (frZ.no hq))
theorem zf_X9_kindOfLetters {n : Nat} {h : Hp} {x1 : Int64} : Pc (F_X9_kindOfLetters n h x1) (fun q => frZ (fun _ _ => False) h q.2) := by
  unfold F_X9_kindOfLetters
  exact Pc.mono (zw_X9_kindOfLetters _ _ _ _ _) (fun _ hq => frZ.tr (frZ.rf h) (frZ.no hq))
theorem zf_X9_keep {n : Nat} {h : Hp} {x1 : Int32} : Pc (F_X9_keep n h x1) (fun q => frZ (fun x k => (2 ≤ x ∧ x ≤ 22)) h q.2) := by
  unfold F_X9_keep
  refine Pc.bind zf_X9_signAt (fun q1 h2 => ?_)
  have f3 : frZ (fun x k => (2 ≤ x ∧ x ≤ 22)) h q1.2 := frZ.tr (frZ.rf h) (frZ.no h2)
  refine Pc.bind zf_X9_isLetter (fun q4 h5 => ?_)
  have f6 : frZ (fun x k => (2 ≤ x ∧ x ≤ 22)) h q4.2 := frZ.tr f3 (frZ.no h5)
  refine Pc.ite (fun _ => ?_) (fun _ => ?_)
  · refine Pc.bind zf_X9_isDigit (fun q7 h8 => ?_)
    have f9 : frZ (fun x k => (2 ≤ x ∧ x ≤ 22)) h q7.2 := frZ.tr f6 (frZ.no h8)
    refine Pc.ite (fun _ => ?_) (fun _ => ?_)
    · refine Pc.bind zf_X9_isSign (fun q10 h11 => ?_)
      have f12 : frZ (fun x k => (2 ≤ x ∧ x ≤ 22)) h q10.2 := frZ.tr f9 (frZ.no h11)
      refine Pc.ite (fun _ => ?_) (fun _ => ?_)
      · refine Pc.ite (fun _ => ?_) (fun _ => ?_)
        · exact Pc.ret f12
        · refine Pc.chk (fun c13 => ?_)
          refine Pc.chk (fun c14 => ?_)
          refine Pc.chk (fun c15 => ?_)
          exact Pc.ret (frZ.w (frZ.wL (frZ.w (frZ.w f12 (by omega)) (by omega)) (by omega)) (by omega))
      · refine Pc.ite (fun _ => ?_) (fun _ => ?_)
        · exact Pc.ret f12
        · refine Pc.chk (fun c16 => ?_)
          refine Pc.chk (fun c17 => ?_)
          refine Pc.chk (fun c18 => ?_)
          exact Pc.ret (frZ.w (frZ.wL (frZ.w (frZ.w f12 (by omega)) (by omega)) (by omega)) (by omega))
    · refine Pc.bind zf_X9_behindDigits (fun q19 h20 => ?_)
      have f21 : frZ (fun x k => (2 ≤ x ∧ x ≤ 22)) h q19.2 := frZ.tr f9 (frZ.no h20)
      refine Pc.bind zf_X9_numberOf (fun q22 h23 => ?_)
      have f24 : frZ (fun x k => (2 ≤ x ∧ x ≤ 22)) h q22.2 := frZ.tr f21 (frZ.no h23)
      refine Pc.ite (fun _ => ?_) (fun _ => ?_)
      · refine Pc.ite (fun _ => ?_) (fun _ => ?_)
        · exact Pc.ret f24
        · refine Pc.chk (fun c25 => ?_)
          refine Pc.chk (fun c26 => ?_)
          refine Pc.chk (fun c27 => ?_)
          exact Pc.ret (frZ.w (frZ.wL (frZ.w (frZ.w f24 (by omega)) (by omega)) (by omega)) (by omega))
      · refine Pc.ite (fun _ => ?_) (fun _ => ?_)
        · exact Pc.ret f24
        · refine Pc.chk (fun c28 => ?_)
          refine Pc.chk (fun c29 => ?_)
          refine Pc.chk (fun c30 => ?_)
          exact Pc.ret (frZ.w (frZ.wL (frZ.w (frZ.w f24 (by omega)) (by omega)) (by omega)) (by omega))
  · refine Pc.bind zf_X9_behindLetters (fun q31 h32 => ?_)
    have f33 : frZ (fun x k => (2 ≤ x ∧ x ≤ 22)) h q31.2 := frZ.tr f6 (frZ.no h32)
    refine Pc.bind zf_X9_lettersOf (fun q34 h35 => ?_)
    have f36 : frZ (fun x k => (2 ≤ x ∧ x ≤ 22)) h q34.2 := frZ.tr f33 (frZ.no h35)
    refine Pc.ite (fun _ => ?_) (fun _ => ?_)
    · refine Pc.bind zf_X9_kindOfLetters (fun q37 h38 => ?_)
      have f39 : frZ (fun x k => (2 ≤ x ∧ x ≤ 22)) h q37.2 := frZ.tr f36 (frZ.no h38)
      refine Pc.ite (fun _ => ?_) (fun _ => ?_)
      · exact Pc.ret f39
      · refine Pc.chk (fun c40 => ?_)
        refine Pc.chk (fun c41 => ?_)
        refine Pc.chk (fun c42 => ?_)
        exact Pc.ret (frZ.w (frZ.wL (frZ.w (frZ.w f39 (by omega)) (by omega)) (by omega)) (by omega))
    · refine Pc.ite (fun _ => ?_) (fun _ => ?_)
      · exact Pc.ret f36
      · refine Pc.chk (fun c43 => ?_)
        refine Pc.chk (fun c44 => ?_)
        refine Pc.chk (fun c45 => ?_)
        exact Pc.ret (frZ.w (frZ.wL (frZ.w (frZ.w f36 (by omega)) (by omega)) (by omega)) (by omega))
theorem zw_X9_scan : ∀ (n : Nat) (hd : Nat) (h : Hp) (l1 : Int32) (l2 : Int32) (l3 : Int32), Pc (W_X9_scan n hd h l1 l2 l3) (fun q => frZ (fun x k => (2 ≤ x ∧ x ≤ 22)) h q) := by
  intro n
  induction n with
  | zero => intro hd h l1 l2 l3; exact Pc.no
  | succ n ih =>
    intro hd h l1 l2 l3
    rw [u_X9_scan]
    refine Pc.chk (fun _ => ?_)
    refine Pc.ite (fun _ => ?_) (fun _ => ?_)
    · exact Pc.ret (frZ.rf h)
    · refine Pc.ite (fun _ => ?_) (fun _ => ?_)
      · exact Pc.ret (frZ.rf h)
      · refine Pc.bind zf_X9_keep (fun q2 h3 => ?_)
        have f4 : frZ (fun x k => (2 ≤ x ∧ x ≤ 22)) h q2.2 := frZ.tr (frZ.rf h) (frZ.sub h3 (fun x k z => by omega))
        refine Pc.bind zf_X9_behindBlanks (fun q5 h6 => ?_)
        have f7 : frZ (fun x k => (2 ≤ x ∧ x ≤ 22)) h q5.2 := frZ.tr f4 (frZ.no h6)
        exact Pc.mono (ih _ _ _ _ _) (fun _ hq => frZ.tr f7 (frZ.sub hq (fun x k z => by omega)))
theorem zf_X9_scan {n : Nat} {h : Hp} {x1 : Int32} : Pc (F_X9_scan n h x1) (fun q => frZ (fun x k => (2 ≤ x ∧ x ≤ 22)) h q) := by
  unfold F_X9_scan
  refine Pc.bind zf_X9_behindBlanks (fun q1 h2 => ?_)
  have f3 : frZ (fun x k => (2 ≤ x ∧ x ≤ 22)) h q1.2 := frZ.tr (frZ.w (frZ.w (frZ.rf h) (by omega)) (by omega)) (frZ.no h2)
  exact Pc.mono (zw_X9_scan _ _ _ _ _ _) (fun _ hq => frZ.tr f3 (frZ.sub hq (fun x k z => by omega)))
theorem zf_X7_cellOf {n : Nat} {h : Hp} {x1 : Int32} : Pc (F_X7_cellOf n h x1) (fun q => frZ (fun _ _ => False) h q.2) := by
  unfold F_X7_cellOf
  exact Pc.ret (frZ.rf h)
theorem zf_X7_onLawn {n : Nat} {h : Hp} {x1 : Int32} : Pc (F_X7_onLawn n h x1) (fun q => frZ (fun _ _ => False) h q.2) := by
  unfold F_X7_onLawn
  refine Pc.ite (fun _ => ?_) (fun _ => ?_)
  · exact Pc.ret (frZ.rf h)
  · refine Pc.ite (fun _ => ?_) (fun _ => ?_)
    · exact Pc.ret (frZ.rf h)
    · exact Pc.ret (frZ.rf h)
theorem zf_X7_blame {n : Nat} {h : Hp} {x1 : Int32} {x2 : Int32} : Pc (F_X7_blame n h x1 x2) (fun q => frZ (fun x k => (2 ≤ x ∧ x ≤ 22)) h q) := by
  unfold F_X7_blame
  refine Pc.ite (fun _ => ?_) (fun _ => ?_)
  · exact Pc.ret (frZ.w (frZ.w (frZ.rf h) (by omega)) (by omega))
  · exact Pc.ret (frZ.rf h)
theorem zw_X7_layOut : ∀ (n : Nat) (hd : Nat) (h : Hp) (l1 : Int32) (l2 : Int32), Pc (W_X7_layOut n hd h l1 l2) (fun q => frZ (fun x k => (2 ≤ x ∧ x ≤ 22)) h q) := by
  intro n
  induction n with
  | zero => intro hd h l1 l2; exact Pc.no
  | succ n ih =>
    intro hd h l1 l2
    rw [u_X7_layOut]
    refine Pc.ite (fun _ => ?_) (fun _ => ?_)
    · refine Pc.ite (fun _ => ?_) (fun _ => ?_)
      · exact Pc.mono (ih _ _ _ _) (fun _ hq => frZ.tr (frZ.rf h) (frZ.sub hq (fun x k z => by omega)))
      · refine Pc.ite (fun _ => ?_) (fun _ => ?_)
        · refine Pc.chk (fun c2 => ?_)
          refine Pc.ite (fun _ => ?_) (fun _ => ?_)
          · refine Pc.ite (fun _ => ?_) (fun _ => ?_)
            · refine Pc.ite (fun _ => ?_) (fun _ => ?_)
              · refine Pc.ite (fun _ => ?_) (fun _ => ?_)
                · refine Pc.ite (fun _ => ?_) (fun _ => ?_)
                  · exact Pc.mono (ih _ _ _ _) (fun _ hq => frZ.tr (frZ.rf h) (frZ.sub hq (fun x k z => by omega)))
                  · refine Pc.bind zf_X7_cellOf (fun q4 h5 => ?_)
                    have f6 : frZ (fun x k => (2 ≤ x ∧ x ≤ 22)) h q4.2 := frZ.tr (frZ.rf h) (frZ.no h5)
                    refine Pc.chk (fun c7 => ?_)
                    refine Pc.chk (fun c8 => ?_)
                    refine Pc.bind zf_X8_soundIn (fun q9 h10 => ?_)
                    have f11 : frZ (fun x k => (2 ≤ x ∧ x ≤ 22)) h q9 := frZ.tr f6 (frZ.sub h10 (fun x k z => by omega))
                    exact Pc.mono (ih _ _ _ _) (fun _ hq => frZ.tr f11 (frZ.sub hq (fun x k z => by omega)))
                · refine Pc.bind zf_X7_cellOf (fun q13 h14 => ?_)
                  have f15 : frZ (fun x k => (2 ≤ x ∧ x ≤ 22)) h q13.2 := frZ.tr (frZ.rf h) (frZ.no h14)
                  refine Pc.ite (fun _ => ?_) (fun _ => ?_)
                  · exact Pc.mono (ih _ _ _ _) (fun _ hq => frZ.tr (frZ.w f15 (by omega)) (frZ.sub hq (fun x k z => by omega)))
                  · refine Pc.bind zf_X7_cellOf (fun q17 h18 => ?_)
                    have f19 : frZ (fun x k => (2 ≤ x ∧ x ≤ 22)) h q17.2 := frZ.tr (frZ.w f15 (by omega)) (frZ.no h18)
                    refine Pc.chk (fun c20 => ?_)
                    refine Pc.chk (fun c21 => ?_)
                    refine Pc.bind zf_X8_soundIn (fun q22 h23 => ?_)
                    have f24 : frZ (fun x k => (2 ≤ x ∧ x ≤ 22)) h q22 := frZ.tr f19 (frZ.sub h23 (fun x k z => by omega))
                    exact Pc.mono (ih _ _ _ _) (fun _ hq => frZ.tr f24 (frZ.sub hq (fun x k z => by omega)))
              · refine Pc.bind zf_X7_onLawn (fun q26 h27 => ?_)
                have f28 : frZ (fun x k => (2 ≤ x ∧ x ≤ 22)) h q26.2 := frZ.tr (frZ.rf h) (frZ.no h27)
                refine Pc.ite (fun _ => ?_) (fun _ => ?_)
                · refine Pc.bind zf_X7_blame (fun q29 h30 => ?_)
                  have f31 : frZ (fun x k => (2 ≤ x ∧ x ≤ 22)) h q29 := frZ.tr f28 (frZ.sub h30 (fun x k z => by omega))
                  refine Pc.ite (fun _ => ?_) (fun _ => ?_)
                  · exact Pc.mono (ih _ _ _ _) (fun _ hq => frZ.tr f31 (frZ.sub hq (fun x k z => by omega)))
                  · refine Pc.bind zf_X7_cellOf (fun q33 h34 => ?_)
                    have f35 : frZ (fun x k => (2 ≤ x ∧ x ≤ 22)) h q33.2 := frZ.tr f31 (frZ.no h34)
                    refine Pc.chk (fun c36 => ?_)
                    refine Pc.chk (fun c37 => ?_)
                    refine Pc.bind zf_X8_soundIn (fun q38 h39 => ?_)
                    have f40 : frZ (fun x k => (2 ≤ x ∧ x ≤ 22)) h q38 := frZ.tr f35 (frZ.sub h39 (fun x k z => by omega))
                    exact Pc.mono (ih _ _ _ _) (fun _ hq => frZ.tr f40 (frZ.sub hq (fun x k z => by omega)))
                · refine Pc.ite (fun _ => ?_) (fun _ => ?_)
                  · refine Pc.ite (fun _ => ?_) (fun _ => ?_)
                    · exact Pc.mono (ih _ _ _ _) (fun _ hq => frZ.tr f28 (frZ.sub hq (fun x k z => by omega)))
                    · refine Pc.bind zf_X7_cellOf (fun q43 h44 => ?_)
                      have f45 : frZ (fun x k => (2 ≤ x ∧ x ≤ 22)) h q43.2 := frZ.tr f28 (frZ.no h44)
                      refine Pc.chk (fun c46 => ?_)
                      refine Pc.chk (fun c47 => ?_)
                      refine Pc.bind zf_X8_soundIn (fun q48 h49 => ?_)
                      have f50 : frZ (fun x k => (2 ≤ x ∧ x ≤ 22)) h q48 := frZ.tr f45 (frZ.sub h49 (fun x k z => by omega))
                      exact Pc.mono (ih _ _ _ _) (fun _ hq => frZ.tr f50 (frZ.sub hq (fun x k z => by omega)))
                  · refine Pc.bind zf_X7_cellOf (fun q52 h53 => ?_)
                    have f54 : frZ (fun x k => (2 ≤ x ∧ x ≤ 22)) h q52.2 := frZ.tr f28 (frZ.no h53)
                    refine Pc.ite (fun _ => ?_) (fun _ => ?_)
                    · exact Pc.mono (ih _ _ _ _) (fun _ hq => frZ.tr (frZ.w f54 (by omega)) (frZ.sub hq (fun x k z => by omega)))
                    · refine Pc.bind zf_X7_cellOf (fun q56 h57 => ?_)
                      have f58 : frZ (fun x k => (2 ≤ x ∧ x ≤ 22)) h q56.2 := frZ.tr (frZ.w f54 (by omega)) (frZ.no h57)
                      refine Pc.chk (fun c59 => ?_)
                      refine Pc.chk (fun c60 => ?_)
                      refine Pc.bind zf_X8_soundIn (fun q61 h62 => ?_)
                      have f63 : frZ (fun x k => (2 ≤ x ∧ x ≤ 22)) h q61 := frZ.tr f58 (frZ.sub h62 (fun x k z => by omega))
                      exact Pc.mono (ih _ _ _ _) (fun _ hq => frZ.tr f63 (frZ.sub hq (fun x k z => by omega)))
            · refine Pc.bind zf_X7_onLawn (fun q65 h66 => ?_)
              have f67 : frZ (fun x k => (2 ≤ x ∧ x ≤ 22)) h q65.2 := frZ.tr (frZ.rf h) (frZ.no h66)
              refine Pc.ite (fun _ => ?_) (fun _ => ?_)
              · refine Pc.bind zf_X7_blame (fun q68 h69 => ?_)
                have f70 : frZ (fun x k => (2 ≤ x ∧ x ≤ 22)) h q68 := frZ.tr f67 (frZ.sub h69 (fun x k z => by omega))
                refine Pc.ite (fun _ => ?_) (fun _ => ?_)
                · exact Pc.mono (ih _ _ _ _) (fun _ hq => frZ.tr f70 (frZ.sub hq (fun x k z => by omega)))
                · refine Pc.bind zf_X7_cellOf (fun q72 h73 => ?_)
                  have f74 : frZ (fun x k => (2 ≤ x ∧ x ≤ 22)) h q72.2 := frZ.tr f70 (frZ.no h73)
                  refine Pc.chk (fun c75 => ?_)
                  refine Pc.chk (fun c76 => ?_)
                  refine Pc.bind zf_X8_soundIn (fun q77 h78 => ?_)
                  have f79 : frZ (fun x k => (2 ≤ x ∧ x ≤ 22)) h q77 := frZ.tr f74 (frZ.sub h78 (fun x k z => by omega))
                  exact Pc.mono (ih _ _ _ _) (fun _ hq => frZ.tr f79 (frZ.sub hq (fun x k z => by omega)))
              · refine Pc.ite (fun _ => ?_) (fun _ => ?_)
                · refine Pc.ite (fun _ => ?_) (fun _ => ?_)
                  · exact Pc.mono (ih _ _ _ _) (fun _ hq => frZ.tr f67 (frZ.sub hq (fun x k z => by omega)))
                  · refine Pc.bind zf_X7_cellOf (fun q82 h83 => ?_)
                    have f84 : frZ (fun x k => (2 ≤ x ∧ x ≤ 22)) h q82.2 := frZ.tr f67 (frZ.no h83)
                    refine Pc.chk (fun c85 => ?_)
                    refine Pc.chk (fun c86 => ?_)
                    refine Pc.bind zf_X8_soundIn (fun q87 h88 => ?_)
                    have f89 : frZ (fun x k => (2 ≤ x ∧ x ≤ 22)) h q87 := frZ.tr f84 (frZ.sub h88 (fun x k z => by omega))
                    exact Pc.mono (ih _ _ _ _) (fun _ hq => frZ.tr f89 (frZ.sub hq (fun x k z => by omega)))
                · refine Pc.bind zf_X7_cellOf (fun q91 h92 => ?_)
                  have f93 : frZ (fun x k => (2 ≤ x ∧ x ≤ 22)) h q91.2 := frZ.tr f67 (frZ.no h92)
                  refine Pc.ite (fun _ => ?_) (fun _ => ?_)
                  · exact Pc.mono (ih _ _ _ _) (fun _ hq => frZ.tr (frZ.w f93 (by omega)) (frZ.sub hq (fun x k z => by omega)))
                  · refine Pc.bind zf_X7_cellOf (fun q95 h96 => ?_)
                    have f97 : frZ (fun x k => (2 ≤ x ∧ x ≤ 22)) h q95.2 := frZ.tr (frZ.w f93 (by omega)) (frZ.no h96)
                    refine Pc.chk (fun c98 => ?_)
                    refine Pc.chk (fun c99 => ?_)
                    refine Pc.bind zf_X8_soundIn (fun q100 h101 => ?_)
                    have f102 : frZ (fun x k => (2 ≤ x ∧ x ≤ 22)) h q100 := frZ.tr f97 (frZ.sub h101 (fun x k z => by omega))
                    exact Pc.mono (ih _ _ _ _) (fun _ hq => frZ.tr f102 (frZ.sub hq (fun x k z => by omega)))
          · refine Pc.ite (fun _ => ?_) (fun _ => ?_)
            · refine Pc.ite (fun _ => ?_) (fun _ => ?_)
              · refine Pc.ite (fun _ => ?_) (fun _ => ?_)
                · refine Pc.ite (fun _ => ?_) (fun _ => ?_)
                  · exact Pc.mono (ih _ _ _ _) (fun _ hq => frZ.tr (frZ.rf h) (frZ.sub hq (fun x k z => by omega)))
                  · refine Pc.bind zf_X7_cellOf (fun q105 h106 => ?_)
                    have f107 : frZ (fun x k => (2 ≤ x ∧ x ≤ 22)) h q105.2 := frZ.tr (frZ.rf h) (frZ.no h106)
                    refine Pc.chk (fun c108 => ?_)
                    refine Pc.chk (fun c109 => ?_)
                    refine Pc.bind zf_X8_soundIn (fun q110 h111 => ?_)
                    have f112 : frZ (fun x k => (2 ≤ x ∧ x ≤ 22)) h q110 := frZ.tr f107 (frZ.sub h111 (fun x k z => by omega))
                    exact Pc.mono (ih _ _ _ _) (fun _ hq => frZ.tr f112 (frZ.sub hq (fun x k z => by omega)))
                · refine Pc.bind zf_X7_cellOf (fun q114 h115 => ?_)
                  have f116 : frZ (fun x k => (2 ≤ x ∧ x ≤ 22)) h q114.2 := frZ.tr (frZ.rf h) (frZ.no h115)
                  refine Pc.ite (fun _ => ?_) (fun _ => ?_)
                  · exact Pc.mono (ih _ _ _ _) (fun _ hq => frZ.tr (frZ.w f116 (by omega)) (frZ.sub hq (fun x k z => by omega)))
                  · refine Pc.bind zf_X7_cellOf (fun q118 h119 => ?_)
                    have f120 : frZ (fun x k => (2 ≤ x ∧ x ≤ 22)) h q118.2 := frZ.tr (frZ.w f116 (by omega)) (frZ.no h119)
                    refine Pc.chk (fun c121 => ?_)
                    refine Pc.chk (fun c122 => ?_)
                    refine Pc.bind zf_X8_soundIn (fun q123 h124 => ?_)
                    have f125 : frZ (fun x k => (2 ≤ x ∧ x ≤ 22)) h q123 := frZ.tr f120 (frZ.sub h124 (fun x k z => by omega))
                    exact Pc.mono (ih _ _ _ _) (fun _ hq => frZ.tr f125 (frZ.sub hq (fun x k z => by omega)))
              · refine Pc.bind zf_X7_onLawn (fun q127 h128 => ?_)
                have f129 : frZ (fun x k => (2 ≤ x ∧ x ≤ 22)) h q127.2 := frZ.tr (frZ.rf h) (frZ.no h128)
                refine Pc.ite (fun _ => ?_) (fun _ => ?_)
                · refine Pc.bind zf_X7_blame (fun q130 h131 => ?_)
                  have f132 : frZ (fun x k => (2 ≤ x ∧ x ≤ 22)) h q130 := frZ.tr f129 (frZ.sub h131 (fun x k z => by omega))
                  refine Pc.ite (fun _ => ?_) (fun _ => ?_)
                  · exact Pc.mono (ih _ _ _ _) (fun _ hq => frZ.tr f132 (frZ.sub hq (fun x k z => by omega)))
                  · refine Pc.bind zf_X7_cellOf (fun q134 h135 => ?_)
                    have f136 : frZ (fun x k => (2 ≤ x ∧ x ≤ 22)) h q134.2 := frZ.tr f132 (frZ.no h135)
                    refine Pc.chk (fun c137 => ?_)
                    refine Pc.chk (fun c138 => ?_)
                    refine Pc.bind zf_X8_soundIn (fun q139 h140 => ?_)
                    have f141 : frZ (fun x k => (2 ≤ x ∧ x ≤ 22)) h q139 := frZ.tr f136 (frZ.sub h140 (fun x k z => by omega))
                    exact Pc.mono (ih _ _ _ _) (fun _ hq => frZ.tr f141 (frZ.sub hq (fun x k z => by omega)))
                · refine Pc.ite (fun _ => ?_) (fun _ => ?_)
                  · refine Pc.ite (fun _ => ?_) (fun _ => ?_)
                    · exact Pc.mono (ih _ _ _ _) (fun _ hq => frZ.tr f129 (frZ.sub hq (fun x k z => by omega)))
                    · refine Pc.bind zf_X7_cellOf (fun q144 h145 => ?_)
                      have f146 : frZ (fun x k => (2 ≤ x ∧ x ≤ 22)) h q144.2 := frZ.tr f129 (frZ.no h145)
                      refine Pc.chk (fun c147 => ?_)
                      refine Pc.chk (fun c148 => ?_)
                      refine Pc.bind zf_X8_soundIn (fun q149 h150 => ?_)
                      have f151 : frZ (fun x k => (2 ≤ x ∧ x ≤ 22)) h q149 := frZ.tr f146 (frZ.sub h150 (fun x k z => by omega))
                      exact Pc.mono (ih _ _ _ _) (fun _ hq => frZ.tr f151 (frZ.sub hq (fun x k z => by omega)))
                  · refine Pc.bind zf_X7_cellOf (fun q153 h154 => ?_)
                    have f155 : frZ (fun x k => (2 ≤ x ∧ x ≤ 22)) h q153.2 := frZ.tr f129 (frZ.no h154)
                    refine Pc.ite (fun _ => ?_) (fun _ => ?_)
                    · exact Pc.mono (ih _ _ _ _) (fun _ hq => frZ.tr (frZ.w f155 (by omega)) (frZ.sub hq (fun x k z => by omega)))
                    · refine Pc.bind zf_X7_cellOf (fun q157 h158 => ?_)
                      have f159 : frZ (fun x k => (2 ≤ x ∧ x ≤ 22)) h q157.2 := frZ.tr (frZ.w f155 (by omega)) (frZ.no h158)
                      refine Pc.chk (fun c160 => ?_)
                      refine Pc.chk (fun c161 => ?_)
                      refine Pc.bind zf_X8_soundIn (fun q162 h163 => ?_)
                      have f164 : frZ (fun x k => (2 ≤ x ∧ x ≤ 22)) h q162 := frZ.tr f159 (frZ.sub h163 (fun x k z => by omega))
                      exact Pc.mono (ih _ _ _ _) (fun _ hq => frZ.tr f164 (frZ.sub hq (fun x k z => by omega)))
            · refine Pc.bind zf_X7_onLawn (fun q166 h167 => ?_)
              have f168 : frZ (fun x k => (2 ≤ x ∧ x ≤ 22)) h q166.2 := frZ.tr (frZ.rf h) (frZ.no h167)
              refine Pc.ite (fun _ => ?_) (fun _ => ?_)
              · refine Pc.bind zf_X7_blame (fun q169 h170 => ?_)
                have f171 : frZ (fun x k => (2 ≤ x ∧ x ≤ 22)) h q169 := frZ.tr f168 (frZ.sub h170 (fun x k z => by omega))
                refine Pc.ite (fun _ => ?_) (fun _ => ?_)
                · exact Pc.mono (ih _ _ _ _) (fun _ hq => frZ.tr f171 (frZ.sub hq (fun x k z => by omega)))
                · refine Pc.bind zf_X7_cellOf (fun q173 h174 => ?_)
                  have f175 : frZ (fun x k => (2 ≤ x ∧ x ≤ 22)) h q173.2 := frZ.tr f171 (frZ.no h174)
                  refine Pc.chk (fun c176 => ?_)
                  refine Pc.chk (fun c177 => ?_)
                  refine Pc.bind zf_X8_soundIn (fun q178 h179 => ?_)
                  have f180 : frZ (fun x k => (2 ≤ x ∧ x ≤ 22)) h q178 := frZ.tr f175 (frZ.sub h179 (fun x k z => by omega))
                  exact Pc.mono (ih _ _ _ _) (fun _ hq => frZ.tr f180 (frZ.sub hq (fun x k z => by omega)))
              · refine Pc.ite (fun _ => ?_) (fun _ => ?_)
                · refine Pc.ite (fun _ => ?_) (fun _ => ?_)
                  · exact Pc.mono (ih _ _ _ _) (fun _ hq => frZ.tr f168 (frZ.sub hq (fun x k z => by omega)))
                  · refine Pc.bind zf_X7_cellOf (fun q183 h184 => ?_)
                    have f185 : frZ (fun x k => (2 ≤ x ∧ x ≤ 22)) h q183.2 := frZ.tr f168 (frZ.no h184)
                    refine Pc.chk (fun c186 => ?_)
                    refine Pc.chk (fun c187 => ?_)
                    refine Pc.bind zf_X8_soundIn (fun q188 h189 => ?_)
                    have f190 : frZ (fun x k => (2 ≤ x ∧ x ≤ 22)) h q188 := frZ.tr f185 (frZ.sub h189 (fun x k z => by omega))
                    exact Pc.mono (ih _ _ _ _) (fun _ hq => frZ.tr f190 (frZ.sub hq (fun x k z => by omega)))
                · refine Pc.bind zf_X7_cellOf (fun q192 h193 => ?_)
                  have f194 : frZ (fun x k => (2 ≤ x ∧ x ≤ 22)) h q192.2 := frZ.tr f168 (frZ.no h193)
                  refine Pc.ite (fun _ => ?_) (fun _ => ?_)
                  · exact Pc.mono (ih _ _ _ _) (fun _ hq => frZ.tr (frZ.w f194 (by omega)) (frZ.sub hq (fun x k z => by omega)))
                  · refine Pc.bind zf_X7_cellOf (fun q196 h197 => ?_)
                    have f198 : frZ (fun x k => (2 ≤ x ∧ x ≤ 22)) h q196.2 := frZ.tr (frZ.w f194 (by omega)) (frZ.no h197)
                    refine Pc.chk (fun c199 => ?_)
                    refine Pc.chk (fun c200 => ?_)
                    refine Pc.bind zf_X8_soundIn (fun q201 h202 => ?_)
                    have f203 : frZ (fun x k => (2 ≤ x ∧ x ≤ 22)) h q201 := frZ.tr f198 (frZ.sub h202 (fun x k z => by omega))
                    exact Pc.mono (ih _ _ _ _) (fun _ hq => frZ.tr f203 (frZ.sub hq (fun x k z => by omega)))
        · refine Pc.chk (fun c205 => ?_)
          refine Pc.ite (fun _ => ?_) (fun _ => ?_)
          · refine Pc.ite (fun _ => ?_) (fun _ => ?_)
            · refine Pc.ite (fun _ => ?_) (fun _ => ?_)
              · refine Pc.ite (fun _ => ?_) (fun _ => ?_)
                · refine Pc.ite (fun _ => ?_) (fun _ => ?_)
                  · exact Pc.mono (ih _ _ _ _) (fun _ hq => frZ.tr (frZ.rf h) (frZ.sub hq (fun x k z => by omega)))
                  · refine Pc.bind zf_X7_cellOf (fun q207 h208 => ?_)
                    have f209 : frZ (fun x k => (2 ≤ x ∧ x ≤ 22)) h q207.2 := frZ.tr (frZ.rf h) (frZ.no h208)
                    refine Pc.chk (fun c210 => ?_)
                    refine Pc.chk (fun c211 => ?_)
                    refine Pc.bind zf_X8_soundIn (fun q212 h213 => ?_)
                    have f214 : frZ (fun x k => (2 ≤ x ∧ x ≤ 22)) h q212 := frZ.tr f209 (frZ.sub h213 (fun x k z => by omega))
                    exact Pc.mono (ih _ _ _ _) (fun _ hq => frZ.tr f214 (frZ.sub hq (fun x k z => by omega)))
                · refine Pc.bind zf_X7_cellOf (fun q216 h217 => ?_)
                  have f218 : frZ (fun x k => (2 ≤ x ∧ x ≤ 22)) h q216.2 := frZ.tr (frZ.rf h) (frZ.no h217)
                  refine Pc.ite (fun _ => ?_) (fun _ => ?_)
                  · exact Pc.mono (ih _ _ _ _) (fun _ hq => frZ.tr (frZ.w f218 (by omega)) (frZ.sub hq (fun x k z => by omega)))
                  · refine Pc.bind zf_X7_cellOf (fun q220 h221 => ?_)
                    have f222 : frZ (fun x k => (2 ≤ x ∧ x ≤ 22)) h q220.2 := frZ.tr (frZ.w f218 (by omega)) (frZ.no h221)
                    refine Pc.chk (fun c223 => ?_)
                    refine Pc.chk (fun c224 => ?_)
                    refine Pc.bind zf_X8_soundIn (fun q225 h226 => ?_)
                    have f227 : frZ (fun x k => (2 ≤ x ∧ x ≤ 22)) h q225 := frZ.tr f222 (frZ.sub h226 (fun x k z => by omega))
                    exact Pc.mono (ih _ _ _ _) (fun _ hq => frZ.tr f227 (frZ.sub hq (fun x k z => by omega)))
              · refine Pc.bind zf_X7_onLawn (fun q229 h230 => ?_)
                have f231 : frZ (fun x k => (2 ≤ x ∧ x ≤ 22)) h q229.2 := frZ.tr (frZ.rf h) (frZ.no h230)
                refine Pc.ite (fun _ => ?_) (fun _ => ?_)
                · refine Pc.bind zf_X7_blame (fun q232 h233 => ?_)
                  have f234 : frZ (fun x k => (2 ≤ x ∧ x ≤ 22)) h q232 := frZ.tr f231 (frZ.sub h233 (fun x k z => by omega))
                  refine Pc.ite (fun _ => ?_) (fun _ => ?_)
                  · exact Pc.mono (ih _ _ _ _) (fun _ hq => frZ.tr f234 (frZ.sub hq (fun x k z => by omega)))
                  · refine Pc.bind zf_X7_cellOf (fun q236 h237 => ?_)
                    have f238 : frZ (fun x k => (2 ≤ x ∧ x ≤ 22)) h q236.2 := frZ.tr f234 (frZ.no h237)
                    refine Pc.chk (fun c239 => ?_)
                    refine Pc.chk (fun c240 => ?_)
                    refine Pc.bind zf_X8_soundIn (fun q241 h242 => ?_)
                    have f243 : frZ (fun x k => (2 ≤ x ∧ x ≤ 22)) h q241 := frZ.tr f238 (frZ.sub h242 (fun x k z => by omega))
                    exact Pc.mono (ih _ _ _ _) (fun _ hq => frZ.tr f243 (frZ.sub hq (fun x k z => by omega)))
                · refine Pc.ite (fun _ => ?_) (fun _ => ?_)
                  · refine Pc.ite (fun _ => ?_) (fun _ => ?_)
                    · exact Pc.mono (ih _ _ _ _) (fun _ hq => frZ.tr f231 (frZ.sub hq (fun x k z => by omega)))
                    · refine Pc.bind zf_X7_cellOf (fun q246 h247 => ?_)
                      have f248 : frZ (fun x k => (2 ≤ x ∧ x ≤ 22)) h q246.2 := frZ.tr f231 (frZ.no h247)
                      refine Pc.chk (fun c249 => ?_)
                      refine Pc.chk (fun c250 => ?_)
                      refine Pc.bind zf_X8_soundIn (fun q251 h252 => ?_)
                      have f253 : frZ (fun x k => (2 ≤ x ∧ x ≤ 22)) h q251 := frZ.tr f248 (frZ.sub h252 (fun x k z => by omega))
                      exact Pc.mono (ih _ _ _ _) (fun _ hq => frZ.tr f253 (frZ.sub hq (fun x k z => by omega)))
                  · refine Pc.bind zf_X7_cellOf (fun q255 h256 => ?_)
                    have f257 : frZ (fun x k => (2 ≤ x ∧ x ≤ 22)) h q255.2 := frZ.tr f231 (frZ.no h256)
                    refine Pc.ite (fun _ => ?_) (fun _ => ?_)
                    · exact Pc.mono (ih _ _ _ _) (fun _ hq => frZ.tr (frZ.w f257 (by omega)) (frZ.sub hq (fun x k z => by omega)))
                    · refine Pc.bind zf_X7_cellOf (fun q259 h260 => ?_)
                      have f261 : frZ (fun x k => (2 ≤ x ∧ x ≤ 22)) h q259.2 := frZ.tr (frZ.w f257 (by omega)) (frZ.no h260)
                      refine Pc.chk (fun c262 => ?_)
                      refine Pc.chk (fun c263 => ?_)
                      refine Pc.bind zf_X8_soundIn (fun q264 h265 => ?_)
                      have f266 : frZ (fun x k => (2 ≤ x ∧ x ≤ 22)) h q264 := frZ.tr f261 (frZ.sub h265 (fun x k z => by omega))
                      exact Pc.mono (ih _ _ _ _) (fun _ hq => frZ.tr f266 (frZ.sub hq (fun x k z => by omega)))
            · refine Pc.bind zf_X7_onLawn (fun q268 h269 => ?_)
              have f270 : frZ (fun x k => (2 ≤ x ∧ x ≤ 22)) h q268.2 := frZ.tr (frZ.rf h) (frZ.no h269)
              refine Pc.ite (fun _ => ?_) (fun _ => ?_)
              · refine Pc.bind zf_X7_blame (fun q271 h272 => ?_)
                have f273 : frZ (fun x k => (2 ≤ x ∧ x ≤ 22)) h q271 := frZ.tr f270 (frZ.sub h272 (fun x k z => by omega))
                refine Pc.ite (fun _ => ?_) (fun _ => ?_)
                · exact Pc.mono (ih _ _ _ _) (fun _ hq => frZ.tr f273 (frZ.sub hq (fun x k z => by omega)))
                · refine Pc.bind zf_X7_cellOf (fun q275 h276 => ?_)
                  have f277 : frZ (fun x k => (2 ≤ x ∧ x ≤ 22)) h q275.2 := frZ.tr f273 (frZ.no h276)
                  refine Pc.chk (fun c278 => ?_)
                  refine Pc.chk (fun c279 => ?_)
                  refine Pc.bind zf_X8_soundIn (fun q280 h281 => ?_)
                  have f282 : frZ (fun x k => (2 ≤ x ∧ x ≤ 22)) h q280 := frZ.tr f277 (frZ.sub h281 (fun x k z => by omega))
                  exact Pc.mono (ih _ _ _ _) (fun _ hq => frZ.tr f282 (frZ.sub hq (fun x k z => by omega)))
              · refine Pc.ite (fun _ => ?_) (fun _ => ?_)
                · refine Pc.ite (fun _ => ?_) (fun _ => ?_)
                  · exact Pc.mono (ih _ _ _ _) (fun _ hq => frZ.tr f270 (frZ.sub hq (fun x k z => by omega)))
                  · refine Pc.bind zf_X7_cellOf (fun q285 h286 => ?_)
                    have f287 : frZ (fun x k => (2 ≤ x ∧ x ≤ 22)) h q285.2 := frZ.tr f270 (frZ.no h286)
                    refine Pc.chk (fun c288 => ?_)
                    refine Pc.chk (fun c289 => ?_)
                    refine Pc.bind zf_X8_soundIn (fun q290 h291 => ?_)
                    have f292 : frZ (fun x k => (2 ≤ x ∧ x ≤ 22)) h q290 := frZ.tr f287 (frZ.sub h291 (fun x k z => by omega))
                    exact Pc.mono (ih _ _ _ _) (fun _ hq => frZ.tr f292 (frZ.sub hq (fun x k z => by omega)))
                · refine Pc.bind zf_X7_cellOf (fun q294 h295 => ?_)
                  have f296 : frZ (fun x k => (2 ≤ x ∧ x ≤ 22)) h q294.2 := frZ.tr f270 (frZ.no h295)
                  refine Pc.ite (fun _ => ?_) (fun _ => ?_)
                  · exact Pc.mono (ih _ _ _ _) (fun _ hq => frZ.tr (frZ.w f296 (by omega)) (frZ.sub hq (fun x k z => by omega)))
                  · refine Pc.bind zf_X7_cellOf (fun q298 h299 => ?_)
                    have f300 : frZ (fun x k => (2 ≤ x ∧ x ≤ 22)) h q298.2 := frZ.tr (frZ.w f296 (by omega)) (frZ.no h299)
                    refine Pc.chk (fun c301 => ?_)
                    refine Pc.chk (fun c302 => ?_)
                    refine Pc.bind zf_X8_soundIn (fun q303 h304 => ?_)
                    have f305 : frZ (fun x k => (2 ≤ x ∧ x ≤ 22)) h q303 := frZ.tr f300 (frZ.sub h304 (fun x k z => by omega))
                    exact Pc.mono (ih _ _ _ _) (fun _ hq => frZ.tr f305 (frZ.sub hq (fun x k z => by omega)))
          · refine Pc.ite (fun _ => ?_) (fun _ => ?_)
            · refine Pc.ite (fun _ => ?_) (fun _ => ?_)
              · refine Pc.ite (fun _ => ?_) (fun _ => ?_)
                · refine Pc.ite (fun _ => ?_) (fun _ => ?_)
                  · exact Pc.mono (ih _ _ _ _) (fun _ hq => frZ.tr (frZ.rf h) (frZ.sub hq (fun x k z => by omega)))
                  · refine Pc.bind zf_X7_cellOf (fun q308 h309 => ?_)
                    have f310 : frZ (fun x k => (2 ≤ x ∧ x ≤ 22)) h q308.2 := frZ.tr (frZ.rf h) (frZ.no h309)
                    refine Pc.chk (fun c311 => ?_)
                    refine Pc.chk (fun c312 => ?_)
                    refine Pc.bind zf_X8_soundIn (fun q313 h314 => ?_)
                    have f315 : frZ (fun x k => (2 ≤ x ∧ x ≤ 22)) h q313 := frZ.tr f310 (frZ.sub h314 (fun x k z => by omega))
                    exact Pc.mono (ih _ _ _ _) (fun _ hq => frZ.tr f315 (frZ.sub hq (fun x k z => by omega)))
                · refine Pc.bind zf_X7_cellOf (fun q317 h318 => ?_)
                  have f319 : frZ (fun x k => (2 ≤ x ∧ x ≤ 22)) h q317.2 := frZ.tr (frZ.rf h) (frZ.no h318)
                  refine Pc.ite (fun _ => ?_) (fun _ => ?_)
                  · exact Pc.mono (ih _ _ _ _) (fun _ hq => frZ.tr (frZ.w f319 (by omega)) (frZ.sub hq (fun x k z => by omega)))
                  · refine Pc.bind zf_X7_cellOf (fun q321 h322 => ?_)
                    have f323 : frZ (fun x k => (2 ≤ x ∧ x ≤ 22)) h q321.2 := frZ.tr (frZ.w f319 (by omega)) (frZ.no h322)
                    refine Pc.chk (fun c324 => ?_)
                    refine Pc.chk (fun c325 => ?_)
                    refine Pc.bind zf_X8_soundIn (fun q326 h327 => ?_)
                    have f328 : frZ (fun x k => (2 ≤ x ∧ x ≤ 22)) h q326 := frZ.tr f323 (frZ.sub h327 (fun x k z => by omega))
                    exact Pc.mono (ih _ _ _ _) (fun _ hq => frZ.tr f328 (frZ.sub hq (fun x k z => by omega)))
              · refine Pc.bind zf_X7_onLawn (fun q330 h331 => ?_)
                have f332 : frZ (fun x k => (2 ≤ x ∧ x ≤ 22)) h q330.2 := frZ.tr (frZ.rf h) (frZ.no h331)
                refine Pc.ite (fun _ => ?_) (fun _ => ?_)
                · refine Pc.bind zf_X7_blame (fun q333 h334 => ?_)
                  have f335 : frZ (fun x k => (2 ≤ x ∧ x ≤ 22)) h q333 := frZ.tr f332 (frZ.sub h334 (fun x k z => by omega))
                  refine Pc.ite (fun _ => ?_) (fun _ => ?_)
                  · exact Pc.mono (ih _ _ _ _) (fun _ hq => frZ.tr f335 (frZ.sub hq (fun x k z => by omega)))
                  · refine Pc.bind zf_X7_cellOf (fun q337 h338 => ?_)
                    have f339 : frZ (fun x k => (2 ≤ x ∧ x ≤ 22)) h q337.2 := frZ.tr f335 (frZ.no h338)
                    refine Pc.chk (fun c340 => ?_)
                    refine Pc.chk (fun c341 => ?_)
                    refine Pc.bind zf_X8_soundIn (fun q342 h343 => ?_)
                    have f344 : frZ (fun x k => (2 ≤ x ∧ x ≤ 22)) h q342 := frZ.tr f339 (frZ.sub h343 (fun x k z => by omega))
                    exact Pc.mono (ih _ _ _ _) (fun _ hq => frZ.tr f344 (frZ.sub hq (fun x k z => by omega)))
                · refine Pc.ite (fun _ => ?_) (fun _ => ?_)
                  · refine Pc.ite (fun _ => ?_) (fun _ => ?_)
                    · exact Pc.mono (ih _ _ _ _) (fun _ hq => frZ.tr f332 (frZ.sub hq (fun x k z => by omega)))
                    · refine Pc.bind zf_X7_cellOf (fun q347 h348 => ?_)
                      have f349 : frZ (fun x k => (2 ≤ x ∧ x ≤ 22)) h q347.2 := frZ.tr f332 (frZ.no h348)
                      refine Pc.chk (fun c350 => ?_)
                      refine Pc.chk (fun c351 => ?_)
                      refine Pc.bind zf_X8_soundIn (fun q352 h353 => ?_)
                      have f354 : frZ (fun x k => (2 ≤ x ∧ x ≤ 22)) h q352 := frZ.tr f349 (frZ.sub h353 (fun x k z => by omega))
                      exact Pc.mono (ih _ _ _ _) (fun _ hq => frZ.tr f354 (frZ.sub hq (fun x k z => by omega)))
                  · refine Pc.bind zf_X7_cellOf (fun q356 h357 => ?_)
                    have f358 : frZ (fun x k => (2 ≤ x ∧ x ≤ 22)) h q356.2 := frZ.tr f332 (frZ.no h357)
                    refine Pc.ite (fun _ => ?_) (fun _ => ?_)
                    · exact Pc.mono (ih _ _ _ _) (fun _ hq => frZ.tr (frZ.w f358 (by omega)) (frZ.sub hq (fun x k z => by omega)))
                    · refine Pc.bind zf_X7_cellOf (fun q360 h361 => ?_)
                      have f362 : frZ (fun x k => (2 ≤ x ∧ x ≤ 22)) h q360.2 := frZ.tr (frZ.w f358 (by omega)) (frZ.no h361)
                      refine Pc.chk (fun c363 => ?_)
                      refine Pc.chk (fun c364 => ?_)
                      refine Pc.bind zf_X8_soundIn (fun q365 h366 => ?_)
                      have f367 : frZ (fun x k => (2 ≤ x ∧ x ≤ 22)) h q365 := frZ.tr f362 (frZ.sub h366 (fun x k z => by omega))
                      exact Pc.mono (ih _ _ _ _) (fun _ hq => frZ.tr f367 (frZ.sub hq (fun x k z => by omega)))
            · refine Pc.bind zf_X7_onLawn (fun q369 h370 => ?_)
              have f371 : frZ (fun x k => (2 ≤ x ∧ x ≤ 22)) h q369.2 := frZ.tr (frZ.rf h) (frZ.no h370)
              refine Pc.ite (fun _ => ?_) (fun _ => ?_)
              · refine Pc.bind zf_X7_blame (fun q372 h373 => ?_)
                have f374 : frZ (fun x k => (2 ≤ x ∧ x ≤ 22)) h q372 := frZ.tr f371 (frZ.sub h373 (fun x k z => by omega))
                refine Pc.ite (fun _ => ?_) (fun _ => ?_)
                · exact Pc.mono (ih _ _ _ _) (fun _ hq => frZ.tr f374 (frZ.sub hq (fun x k z => by omega)))
                · refine Pc.bind zf_X7_cellOf (fun q376 h377 => ?_)
                  have f378 : frZ (fun x k => (2 ≤ x ∧ x ≤ 22)) h q376.2 := frZ.tr f374 (frZ.no h377)
                  refine Pc.chk (fun c379 => ?_)
                  refine Pc.chk (fun c380 => ?_)
                  refine Pc.bind zf_X8_soundIn (fun q381 h382 => ?_)
                  have f383 : frZ (fun x k => (2 ≤ x ∧ x ≤ 22)) h q381 := frZ.tr f378 (frZ.sub h382 (fun x k z => by omega))
                  exact Pc.mono (ih _ _ _ _) (fun _ hq => frZ.tr f383 (frZ.sub hq (fun x k z => by omega)))
              · refine Pc.ite (fun _ => ?_) (fun _ => ?_)
                · refine Pc.ite (fun _ => ?_) (fun _ => ?_)
                  · exact Pc.mono (ih _ _ _ _) (fun _ hq => frZ.tr f371 (frZ.sub hq (fun x k z => by omega)))
                  · refine Pc.bind zf_X7_cellOf (fun q386 h387 => ?_)
                    have f388 : frZ (fun x k => (2 ≤ x ∧ x ≤ 22)) h q386.2 := frZ.tr f371 (frZ.no h387)
                    refine Pc.chk (fun c389 => ?_)
                    refine Pc.chk (fun c390 => ?_)
                    refine Pc.bind zf_X8_soundIn (fun q391 h392 => ?_)
                    have f393 : frZ (fun x k => (2 ≤ x ∧ x ≤ 22)) h q391 := frZ.tr f388 (frZ.sub h392 (fun x k z => by omega))
                    exact Pc.mono (ih _ _ _ _) (fun _ hq => frZ.tr f393 (frZ.sub hq (fun x k z => by omega)))
                · refine Pc.bind zf_X7_cellOf (fun q395 h396 => ?_)
                  have f397 : frZ (fun x k => (2 ≤ x ∧ x ≤ 22)) h q395.2 := frZ.tr f371 (frZ.no h396)
                  refine Pc.ite (fun _ => ?_) (fun _ => ?_)
                  · exact Pc.mono (ih _ _ _ _) (fun _ hq => frZ.tr (frZ.w f397 (by omega)) (frZ.sub hq (fun x k z => by omega)))
                  · refine Pc.bind zf_X7_cellOf (fun q399 h400 => ?_)
                    have f401 : frZ (fun x k => (2 ≤ x ∧ x ≤ 22)) h q399.2 := frZ.tr (frZ.w f397 (by omega)) (frZ.no h400)
                    refine Pc.chk (fun c402 => ?_)
                    refine Pc.chk (fun c403 => ?_)
                    refine Pc.bind zf_X8_soundIn (fun q404 h405 => ?_)
                    have f406 : frZ (fun x k => (2 ≤ x ∧ x ≤ 22)) h q404 := frZ.tr f401 (frZ.sub h405 (fun x k z => by omega))
                    exact Pc.mono (ih _ _ _ _) (fun _ hq => frZ.tr f406 (frZ.sub hq (fun x k z => by omega)))
    · refine Pc.chk (fun _ => ?_)
      refine Pc.ite (fun _ => ?_) (fun _ => ?_)
      · exact Pc.ret (frZ.rf h)
      · refine Pc.ite (fun _ => ?_) (fun _ => ?_)
        · exact Pc.ret (frZ.rf h)
        · refine Pc.chk (fun c409 => ?_)
          refine Pc.bind zf_X7_onLawn (fun q410 h411 => ?_)
          have f412 : frZ (fun x k => (2 ≤ x ∧ x ≤ 22)) h q410.2 := frZ.tr (frZ.rf h) (frZ.no h411)
          refine Pc.ite (fun _ => ?_) (fun _ => ?_)
          · refine Pc.bind zf_X7_blame (fun q413 h414 => ?_)
            have f415 : frZ (fun x k => (2 ≤ x ∧ x ≤ 22)) h q413 := frZ.tr f412 (frZ.sub h414 (fun x k z => by omega))
            refine Pc.bind zf_X7_cellOf (fun q416 h417 => ?_)
            have f418 : frZ (fun x k => (2 ≤ x ∧ x ≤ 22)) h q416.2 := frZ.tr f415 (frZ.no h417)
            refine Pc.chk (fun c419 => ?_)
            exact Pc.mono (ih _ _ _ _) (fun _ hq => frZ.tr (frZ.w f418 (by omega)) (frZ.sub hq (fun x k z => by omega)))
          · refine Pc.ite (fun _ => ?_) (fun _ => ?_)
            · refine Pc.bind zf_X7_cellOf (fun q421 h422 => ?_)
              have f423 : frZ (fun x k => (2 ≤ x ∧ x ≤ 22)) h q421.2 := frZ.tr f412 (frZ.no h422)
              refine Pc.chk (fun c424 => ?_)
              exact Pc.mono (ih _ _ _ _) (fun _ hq => frZ.tr (frZ.w f423 (by omega)) (frZ.sub hq (fun x k z => by omega)))
            · refine Pc.bind zf_X7_blame (fun q426 h427 => ?_)
              have f428 : frZ (fun x k => (2 ≤ x ∧ x ≤ 22)) h q426 := frZ.tr f412 (frZ.sub h427 (fun x k z => by omega))
              refine Pc.bind zf_X7_cellOf (fun q429 h430 => ?_)
              have f431 : frZ (fun x k => (2 ≤ x ∧ x ≤ 22)) h q429.2 := frZ.tr f428 (frZ.no h430)
              refine Pc.chk (fun c432 => ?_)
              exact Pc.mono (ih _ _ _ _) (fun _ hq => frZ.tr (frZ.w f431 (by omega)) (frZ.sub hq (fun x k z => by omega)))
theorem zf_X7_layOut {n : Nat} {h : Hp} {x1 : Int32} : Pc (F_X7_layOut n h x1) (fun q => frZ (fun x k => (2 ≤ x ∧ x ≤ 22)) h q) := by
  unfold F_X7_layOut
  exact Pc.mono (zw_X7_layOut _ _ _ _ _) (fun _ hq => frZ.tr (frZ.rf h) (frZ.sub hq (fun x k z => by omega)))
theorem zf_X9_placeOf {n : Nat} {h : Hp} {x1 : Int32} : Pc (F_X9_placeOf n h x1) (fun q => frZ (fun _ _ => False) h q.2) := by
  unfold F_X9_placeOf
  refine Pc.ite (fun _ => ?_) (fun _ => ?_)
  · exact Pc.ret (frZ.rf h)
  · refine Pc.ite (fun _ => ?_) (fun _ => ?_)
    · exact Pc.ret (frZ.rf h)
    · refine Pc.chk (fun c1 => ?_)
      exact Pc.ret (frZ.rf h)
theorem zf_X7_takeNumber {n : Nat} {h : Hp} {x1 : Int32} {x2 : Int32} : Pc (F_X7_takeNumber n h x1 x2) (fun q => frZ (fun x k => (2 ≤ x ∧ x ≤ 22)) h q.2) := by
  unfold F_X7_takeNumber
  refine Pc.bind zf_X9_valueOf (fun q1 h2 => ?_)
  have f3 : frZ (fun x k => (2 ≤ x ∧ x ≤ 22)) h q1.2 := frZ.tr (frZ.rf h) (frZ.no h2)
  refine Pc.bind zf_X9_placeOf (fun q4 h5 => ?_)
  have f6 : frZ (fun x k => (2 ≤ x ∧ x ≤ 22)) h q4.2 := frZ.tr f3 (frZ.no h5)
  refine Pc.bind zf_X7_take (fun q7 h8 => ?_)
  have f9 : frZ (fun x k => (2 ≤ x ∧ x ≤ 22)) h q7.2 := frZ.tr f6 (frZ.sub h8 (fun x k z => by omega))
  refine Pc.ite (fun _ => ?_) (fun _ => ?_)
  · exact Pc.ret f9
  · refine Pc.ite (fun _ => ?_) (fun _ => ?_)
    · refine Pc.bind zf_X7_blame (fun q10 h11 => ?_)
      have f12 : frZ (fun x k => (2 ≤ x ∧ x ≤ 22)) h q10 := frZ.tr f9 (frZ.sub h11 (fun x k z => by omega))
      exact Pc.ret f12
    · refine Pc.ite (fun _ => ?_) (fun _ => ?_)
      · exact Pc.ret f9
      · refine Pc.bind zf_X7_blame (fun q13 h14 => ?_)
        have f15 : frZ (fun x k => (2 ≤ x ∧ x ≤ 22)) h q13 := frZ.tr f9 (frZ.sub h14 (fun x k z => by omega))
        exact Pc.ret f15
theorem zf_X7_readLawn {n : Nat} {h : Hp} : Pc (F_X7_readLawn n h) (fun q => frZ (fun x k => (2 ≤ x ∧ x ≤ 22)) h q) := by
  unfold F_X7_readLawn
  refine Pc.bind zf_X7_take (fun q1 h2 => ?_)
  have f3 : frZ (fun x k => (2 ≤ x ∧ x ≤ 22)) h q1.2 := frZ.tr (frZ.rf h) (frZ.sub h2 (fun x k z => by omega))
  refine Pc.bind zf_X7_takeNumber (fun q4 h5 => ?_)
  have f6 : frZ (fun x k => (2 ≤ x ∧ x ≤ 22)) h q4.2 := frZ.tr f3 (frZ.sub h5 (fun x k z => by omega))
  refine Pc.bind zf_X7_takeNumber (fun q7 h8 => ?_)
  have f9 : frZ (fun x k => (2 ≤ x ∧ x ≤ 22)) h q7.2 := frZ.tr f6 (frZ.sub h8 (fun x k z => by omega))
  refine Pc.bind zf_X3_lay (fun q10 h11 => ?_)
  have f12 : frZ (fun x k => (2 ≤ x ∧ x ≤ 22)) h q10 := frZ.tr f9 (frZ.sub h11 (fun x k z => by omega))
  exact Pc.ret f12
theorem zf_X7_takeSpot {n : Nat} {h : Hp} : Pc (F_X7_takeSpot n h) (fun q => frZ (fun x k => (2 ≤ x ∧ x ≤ 22)) h q.2) := by
  unfold F_X7_takeSpot
  refine Pc.bind zf_X7_takeNumber (fun q1 h2 => ?_)
  have f3 : frZ (fun x k => (2 ≤ x ∧ x ≤ 22)) h q1.2 := frZ.tr (frZ.rf h) (frZ.sub h2 (fun x k z => by omega))
  refine Pc.bind zf_X7_takeNumber (fun q4 h5 => ?_)
  have f6 : frZ (fun x k => (2 ≤ x ∧ x ≤ 22)) h q4.2 := frZ.tr f3 (frZ.sub h5 (fun x k z => by omega))
  exact Pc.ret f6
theorem zf_X7_readTune {n : Nat} {h : Hp} : Pc (F_X7_readTune n h) (fun q => frZ (fun x k => (2 ≤ x ∧ x ≤ 22)) h q) := by
  unfold F_X7_readTune
  refine Pc.ite (fun _ => ?_) (fun _ => ?_)
  · refine Pc.bind zf_X7_take (fun q1 h2 => ?_)
    have f3 : frZ (fun x k => (2 ≤ x ∧ x ≤ 22)) h q1.2 := frZ.tr (frZ.w (frZ.rf h) (by omega)) (frZ.sub h2 (fun x k z => by omega))
    refine Pc.bind zf_X7_takeSpot (fun q4 h5 => ?_)
    have f6 : frZ (fun x k => (2 ≤ x ∧ x ≤ 22)) h q4.2 := frZ.tr f3 (frZ.sub h5 (fun x k z => by omega))
    refine Pc.bind zf_X7_takeNumber (fun q7 h8 => ?_)
    have f9 : frZ (fun x k => (2 ≤ x ∧ x ≤ 22)) h q7.2 := frZ.tr f6 (frZ.sub h8 (fun x k z => by omega))
    refine Pc.bind zf_X7_takeNumber (fun q10 h11 => ?_)
    have f12 : frZ (fun x k => (2 ≤ x ∧ x ≤ 22)) h q10.2 := frZ.tr f9 (frZ.sub h11 (fun x k z => by omega))
    refine Pc.ite (fun _ => ?_) (fun _ => ?_)
    · exact Pc.ret f12
    · refine Pc.ite (fun _ => ?_) (fun _ => ?_)
      · exact Pc.ret f12
      · refine Pc.chk (fun c13 => ?_)
        refine Pc.chk (fun c14 => ?_)
        exact Pc.ret (frZ.w (frZ.w f12 (by omega)) (by omega))
  · refine Pc.bind zf_X7_stop (fun q15 h16 => ?_)
    have f17 : frZ (fun x k => (2 ≤ x ∧ x ≤ 22)) h q15 := frZ.tr (frZ.rf h) (frZ.sub h16 (fun x k z => by omega))
    refine Pc.bind zf_X7_take (fun q18 h19 => ?_)
    have f20 : frZ (fun x k => (2 ≤ x ∧ x ≤ 22)) h q18.2 := frZ.tr (frZ.w f17 (by omega)) (frZ.sub h19 (fun x k z => by omega))
    refine Pc.bind zf_X7_takeSpot (fun q21 h22 => ?_)
    have f23 : frZ (fun x k => (2 ≤ x ∧ x ≤ 22)) h q21.2 := frZ.tr f20 (frZ.sub h22 (fun x k z => by omega))
    refine Pc.bind zf_X7_takeNumber (fun q24 h25 => ?_)
    have f26 : frZ (fun x k => (2 ≤ x ∧ x ≤ 22)) h q24.2 := frZ.tr f23 (frZ.sub h25 (fun x k z => by omega))
    refine Pc.bind zf_X7_takeNumber (fun q27 h28 => ?_)
    have f29 : frZ (fun x k => (2 ≤ x ∧ x ≤ 22)) h q27.2 := frZ.tr f26 (frZ.sub h28 (fun x k z => by omega))
    refine Pc.ite (fun _ => ?_) (fun _ => ?_)
    · exact Pc.ret f29
    · refine Pc.ite (fun _ => ?_) (fun _ => ?_)
      · exact Pc.ret f29
      · refine Pc.chk (fun c30 => ?_)
        refine Pc.chk (fun c31 => ?_)
        exact Pc.ret (frZ.w (frZ.w f29 (by omega)) (by omega))
theorem zw_X7_readGoer : ∀ (n : Nat) (hd : Nat) (h : Hp) (l1 : Int32) (l2 : Int32) (l3 : Int32), Pc (W_X7_readGoer n hd h l1 l2 l3) (fun q => frZ (fun x k => (2 ≤ x ∧ x ≤ 22)) h q) := by
  intro n
  induction n with
  | zero => intro hd h l1 l2 l3; exact Pc.no
  | succ n ih =>
    intro hd h l1 l2 l3
    rw [u_X7_readGoer]
    refine Pc.chk (fun _ => ?_)
    refine Pc.ite (fun _ => ?_) (fun _ => ?_)
    · refine Pc.bind zf_X7_takeSpot (fun q2 h3 => ?_)
      have f4 : frZ (fun x k => (2 ≤ x ∧ x ≤ 22)) h q2.2 := frZ.tr (frZ.rf h) (frZ.sub h3 (fun x k z => by omega))
      refine Pc.chk (fun c5 => ?_)
      exact Pc.ret (frZ.w (frZ.w f4 (by omega)) (by omega))
    · refine Pc.chk (fun c6 => ?_)
      refine Pc.chk (fun c7 => ?_)
      refine Pc.ite (fun _ => ?_) (fun _ => ?_)
      · refine Pc.bind zf_X7_blame (fun q8 h9 => ?_)
        have f10 : frZ (fun x k => (2 ≤ x ∧ x ≤ 22)) h q8 := frZ.tr (frZ.rf h) (frZ.sub h9 (fun x k z => by omega))
        exact Pc.mono (ih _ _ _ _ _) (fun _ hq => frZ.tr f10 (frZ.sub hq (fun x k z => by omega)))
      · exact Pc.mono (ih _ _ _ _ _) (fun _ hq => frZ.tr (frZ.rf h) (frZ.sub hq (fun x k z => by omega)))
theorem zf_X7_readGoer {n : Nat} {h : Hp} : Pc (F_X7_readGoer n h) (fun q => frZ (fun x k => (2 ≤ x ∧ x ≤ 22)) h q) := by
  unfold F_X7_readGoer
  refine Pc.ite (fun _ => ?_) (fun _ => ?_)
  · refine Pc.bind zf_X7_take (fun q1 h2 => ?_)
    have f3 : frZ (fun x k => (2 ≤ x ∧ x ≤ 22)) h q1.2 := frZ.tr (frZ.rf h) (frZ.sub h2 (fun x k z => by omega))
    refine Pc.bind zf_X9_valueOf (fun q4 h5 => ?_)
    have f6 : frZ (fun x k => (2 ≤ x ∧ x ≤ 22)) h q4.2 := frZ.tr f3 (frZ.no h5)
    refine Pc.chk (fun c7 => ?_)
    refine Pc.bind zf_X9_placeOf (fun q8 h9 => ?_)
    have f10 : frZ (fun x k => (2 ≤ x ∧ x ≤ 22)) h q8.2 := frZ.tr (frZ.wL f6 (by omega)) (frZ.no h9)
    refine Pc.bind zf_X7_take (fun q11 h12 => ?_)
    have f13 : frZ (fun x k => (2 ≤ x ∧ x ≤ 22)) h q11.2 := frZ.tr f10 (frZ.sub h12 (fun x k z => by omega))
    exact Pc.mono (zw_X7_readGoer _ _ _ _ _ _) (fun _ hq => frZ.tr f13 (frZ.sub hq (fun x k z => by omega)))
  · refine Pc.bind zf_X7_stop (fun q15 h16 => ?_)
    have f17 : frZ (fun x k => (2 ≤ x ∧ x ≤ 22)) h q15 := frZ.tr (frZ.rf h) (frZ.sub h16 (fun x k z => by omega))
    exact Pc.ret f17
theorem zf_X7_readRope {n : Nat} {h : Hp} : Pc (F_X7_readRope n h) (fun q => frZ (fun x k => (2 ≤ x ∧ x ≤ 22)) h q) := by
  unfold F_X7_readRope
  refine Pc.ite (fun _ => ?_) (fun _ => ?_)
  · refine Pc.bind zf_X7_take (fun q1 h2 => ?_)
    have f3 : frZ (fun x k => (2 ≤ x ∧ x ≤ 22)) h q1.2 := frZ.tr (frZ.w (frZ.rf h) (by omega)) (frZ.sub h2 (fun x k z => by omega))
    refine Pc.bind zf_X7_takeSpot (fun q4 h5 => ?_)
    have f6 : frZ (fun x k => (2 ≤ x ∧ x ≤ 22)) h q4.2 := frZ.tr f3 (frZ.sub h5 (fun x k z => by omega))
    exact Pc.ret (frZ.w f6 (by omega))
  · refine Pc.bind zf_X7_stop (fun q7 h8 => ?_)
    have f9 : frZ (fun x k => (2 ≤ x ∧ x ≤ 22)) h q7 := frZ.tr (frZ.rf h) (frZ.sub h8 (fun x k z => by omega))
    refine Pc.bind zf_X7_take (fun q10 h11 => ?_)
    have f12 : frZ (fun x k => (2 ≤ x ∧ x ≤ 22)) h q10.2 := frZ.tr (frZ.w f9 (by omega)) (frZ.sub h11 (fun x k z => by omega))
    refine Pc.bind zf_X7_takeSpot (fun q13 h14 => ?_)
    have f15 : frZ (fun x k => (2 ≤ x ∧ x ≤ 22)) h q13.2 := frZ.tr f12 (frZ.sub h14 (fun x k z => by omega))
    exact Pc.ret (frZ.w f15 (by omega))
theorem zl_X7_readSum : ∀ (l n : Nat) (h : Hp) (x : Int32), Pc (L_X7_readSum l n h x) (fun q => frZ (fun x k => (2 ≤ x ∧ x ≤ 22)) h q) := by
  intro l
  induction l with
  | zero => intro n h x; exact Pc.no
  | succ l ih => intro n h x; exact zf_X7_readSum ih
theorem zf_X7_readSumT {n : Nat} {h : Hp} {x1 : Int32} : Pc (F_X7_readSumT n h x1) (fun q => frZ (fun x k => (2 ≤ x ∧ x ≤ 22)) h q) := zl_X7_readSum 9 n h x1
theorem zf_X4_addLess {n : Nat} {h : Hp} {a : Nat} : Pc (F_X4_addLess n h a) (fun q => frZ (fun x k => x = a ∨ x = a + 1) h q.2) := by
  unfold F_X4_addLess
  refine Pc.bind zf_X4_add (fun q1 h2 => ?_)
  have f3 : frZ (fun x k => x = a ∨ x = a + 1) h q1 := frZ.tr (frZ.rf h) (frZ.sub h2 (fun x k z => by omega))
  refine Pc.bind zf_X4_add (fun q4 h5 => ?_)
  have f6 : frZ (fun x k => x = a ∨ x = a + 1) h q4 := frZ.tr f3 (frZ.sub h5 (fun x k z => by omega))
  exact Pc.ret f6
theorem zf_X4_elseHere {n : Nat} {h : Hp} {a : Nat} {x1 : Int32} : Pc (F_X4_elseHere n h a x1) (fun q => frZ (fun x k => x = a + 1) h q) := by
  unfold F_X4_elseHere
  refine Pc.ite (fun _ => ?_) (fun _ => ?_)
  · exact Pc.ret (frZ.rf h)
  · refine Pc.ite (fun _ => ?_) (fun _ => ?_)
    · exact Pc.ret (frZ.rf h)
    · refine Pc.chk (fun c1 => ?_)
      exact Pc.ret (frZ.w (frZ.rf h) (by omega))
theorem zw_X7_readLaw : ∀ (n : Nat) (hd : Nat) (h : Hp) (l1 : Int32) (l2 : Int32), Pc (W_X7_readLaw n hd h l1 l2) (fun q => frZ (fun x k => (2 ≤ x ∧ x ≤ 22)) h q) := by
  intro n
  induction n with
  | zero => intro hd h l1 l2; exact Pc.no
  | succ n ih =>
    intro hd h l1 l2
    rw [u_X7_readLaw]
    refine Pc.chk (fun _ => ?_)
    refine Pc.ite (fun _ => ?_) (fun _ => ?_)
    · refine Pc.bind zf_X7_kind (fun q2 h3 => ?_)
      have f4 : frZ (fun x k => (2 ≤ x ∧ x ≤ 22)) h q2.2 := frZ.tr (frZ.rf h) (frZ.no h3)
      refine Pc.ite (fun _ => ?_) (fun _ => ?_)
      · refine Pc.ite (fun _ => ?_) (fun _ => ?_)
        · refine Pc.bind zf_X7_readSumT (fun q5 h6 => ?_)
          have f7 : frZ (fun x k => (2 ≤ x ∧ x ≤ 22)) h q5 := frZ.tr f4 (frZ.sub h6 (fun x k z => by omega))
          refine Pc.bind zf_X4_add (fun q8 h9 => ?_)
          have f10 : frZ (fun x k => (2 ≤ x ∧ x ≤ 22)) h q8 := frZ.tr f7 (frZ.sub h9 (fun x k z => by omega))
          exact Pc.ret f10
        · refine Pc.ite (fun _ => ?_) (fun _ => ?_)
          · refine Pc.bind zf_X7_take (fun q11 h12 => ?_)
            have f13 : frZ (fun x k => (2 ≤ x ∧ x ≤ 22)) h q11.2 := frZ.tr f4 (frZ.sub h12 (fun x k z => by omega))
            refine Pc.bind zf_X7_readSumT (fun q14 h15 => ?_)
            have f16 : frZ (fun x k => (2 ≤ x ∧ x ≤ 22)) h q14 := frZ.tr f13 (frZ.sub h15 (fun x k z => by omega))
            refine Pc.bind zf_X7_take (fun q17 h18 => ?_)
            have f19 : frZ (fun x k => (2 ≤ x ∧ x ≤ 22)) h q17.2 := frZ.tr f16 (frZ.sub h18 (fun x k z => by omega))
            refine Pc.bind zf_X7_readSumT (fun q20 h21 => ?_)
            have f22 : frZ (fun x k => (2 ≤ x ∧ x ≤ 22)) h q20 := frZ.tr f19 (frZ.sub h21 (fun x k z => by omega))
            refine Pc.bind zf_X7_take (fun q23 h24 => ?_)
            have f25 : frZ (fun x k => (2 ≤ x ∧ x ≤ 22)) h q23.2 := frZ.tr f22 (frZ.sub h24 (fun x k z => by omega))
            refine Pc.bind zf_X4_addLess (fun q26 h27 => ?_)
            have f28 : frZ (fun x k => (2 ≤ x ∧ x ≤ 22)) h q26.2 := frZ.tr f25 (frZ.sub h27 (fun x k z => by omega))
            refine Pc.bind zf_X7_readSumT (fun q29 h30 => ?_)
            have f31 : frZ (fun x k => (2 ≤ x ∧ x ≤ 22)) h q29 := frZ.tr f28 (frZ.sub h30 (fun x k z => by omega))
            refine Pc.bind zf_X7_take (fun q32 h33 => ?_)
            have f34 : frZ (fun x k => (2 ≤ x ∧ x ≤ 22)) h q32.2 := frZ.tr f31 (frZ.sub h33 (fun x k z => by omega))
            refine Pc.bind zf_X4_add (fun q35 h36 => ?_)
            have f37 : frZ (fun x k => (2 ≤ x ∧ x ≤ 22)) h q35 := frZ.tr f34 (frZ.sub h36 (fun x k z => by omega))
            refine Pc.bind zf_X4_elseHere (fun q38 h39 => ?_)
            have f40 : frZ (fun x k => (2 ≤ x ∧ x ≤ 22)) h q38 := frZ.tr f37 (frZ.sub h39 (fun x k z => by omega))
            exact Pc.mono (ih _ _ _ _) (fun _ hq => frZ.tr f40 (frZ.sub hq (fun x k z => by omega)))
          · refine Pc.bind zf_X7_stop (fun q42 h43 => ?_)
            have f44 : frZ (fun x k => (2 ≤ x ∧ x ≤ 22)) h q42 := frZ.tr f4 (frZ.sub h43 (fun x k z => by omega))
            refine Pc.bind zf_X7_take (fun q45 h46 => ?_)
            have f47 : frZ (fun x k => (2 ≤ x ∧ x ≤ 22)) h q45.2 := frZ.tr f44 (frZ.sub h46 (fun x k z => by omega))
            refine Pc.bind zf_X7_readSumT (fun q48 h49 => ?_)
            have f50 : frZ (fun x k => (2 ≤ x ∧ x ≤ 22)) h q48 := frZ.tr f47 (frZ.sub h49 (fun x k z => by omega))
            refine Pc.bind zf_X7_take (fun q51 h52 => ?_)
            have f53 : frZ (fun x k => (2 ≤ x ∧ x ≤ 22)) h q51.2 := frZ.tr f50 (frZ.sub h52 (fun x k z => by omega))
            refine Pc.bind zf_X7_readSumT (fun q54 h55 => ?_)
            have f56 : frZ (fun x k => (2 ≤ x ∧ x ≤ 22)) h q54 := frZ.tr f53 (frZ.sub h55 (fun x k z => by omega))
            refine Pc.bind zf_X7_take (fun q57 h58 => ?_)
            have f59 : frZ (fun x k => (2 ≤ x ∧ x ≤ 22)) h q57.2 := frZ.tr f56 (frZ.sub h58 (fun x k z => by omega))
            refine Pc.bind zf_X4_addLess (fun q60 h61 => ?_)
            have f62 : frZ (fun x k => (2 ≤ x ∧ x ≤ 22)) h q60.2 := frZ.tr f59 (frZ.sub h61 (fun x k z => by omega))
            refine Pc.bind zf_X7_readSumT (fun q63 h64 => ?_)
            have f65 : frZ (fun x k => (2 ≤ x ∧ x ≤ 22)) h q63 := frZ.tr f62 (frZ.sub h64 (fun x k z => by omega))
            refine Pc.bind zf_X7_take (fun q66 h67 => ?_)
            have f68 : frZ (fun x k => (2 ≤ x ∧ x ≤ 22)) h q66.2 := frZ.tr f65 (frZ.sub h67 (fun x k z => by omega))
            refine Pc.bind zf_X4_add (fun q69 h70 => ?_)
            have f71 : frZ (fun x k => (2 ≤ x ∧ x ≤ 22)) h q69 := frZ.tr f68 (frZ.sub h70 (fun x k z => by omega))
            refine Pc.bind zf_X4_elseHere (fun q72 h73 => ?_)
            have f74 : frZ (fun x k => (2 ≤ x ∧ x ≤ 22)) h q72 := frZ.tr f71 (frZ.sub h73 (fun x k z => by omega))
            exact Pc.mono (ih _ _ _ _) (fun _ hq => frZ.tr f74 (frZ.sub hq (fun x k z => by omega)))
      · refine Pc.bind zf_X7_readSumT (fun q76 h77 => ?_)
        have f78 : frZ (fun x k => (2 ≤ x ∧ x ≤ 22)) h q76 := frZ.tr f4 (frZ.sub h77 (fun x k z => by omega))
        refine Pc.bind zf_X4_add (fun q79 h80 => ?_)
        have f81 : frZ (fun x k => (2 ≤ x ∧ x ≤ 22)) h q79 := frZ.tr f78 (frZ.sub h80 (fun x k z => by omega))
        exact Pc.ret f81
    · refine Pc.bind zf_X7_readSumT (fun q82 h83 => ?_)
      have f84 : frZ (fun x k => (2 ≤ x ∧ x ≤ 22)) h q82 := frZ.tr (frZ.rf h) (frZ.sub h83 (fun x k z => by omega))
      refine Pc.bind zf_X4_add (fun q85 h86 => ?_)
      have f87 : frZ (fun x k => (2 ≤ x ∧ x ≤ 22)) h q85 := frZ.tr f84 (frZ.sub h86 (fun x k z => by omega))
      exact Pc.ret f87
theorem zf_X7_readLaw {n : Nat} {h : Hp} {x1 : Int32} : Pc (F_X7_readLaw n h x1) (fun q => frZ (fun x k => (2 ≤ x ∧ x ≤ 22)) h q) := by
  unfold F_X7_readLaw
  refine Pc.bind zf_X7_take (fun q1 h2 => ?_)
  have f3 : frZ (fun x k => (2 ≤ x ∧ x ≤ 22)) h q1.2 := frZ.tr (frZ.rf h) (frZ.sub h2 (fun x k z => by omega))
  refine Pc.bind zf_X4_begin (fun q4 h5 => ?_)
  have f6 : frZ (fun x k => (2 ≤ x ∧ x ≤ 22)) h q4 := frZ.tr f3 (frZ.sub h5 (fun x k z => by omega))
  exact Pc.mono (zw_X7_readLaw _ _ _ _ _) (fun _ hq => frZ.tr f6 (frZ.sub hq (fun x k z => by omega)))
theorem zf_X7_readTell {n : Nat} {h : Hp} {x1 : Int32} : Pc (F_X7_readTell n h x1) (fun q => frZ (fun x k => (2 ≤ x ∧ x ≤ 22)) h q) := by
  unfold F_X7_readTell
  refine Pc.ite (fun _ => ?_) (fun _ => ?_)
  · refine Pc.bind zf_X7_readLawn (fun q1 h2 => ?_)
    have f3 : frZ (fun x k => (2 ≤ x ∧ x ≤ 22)) h q1 := frZ.tr (frZ.rf h) (frZ.sub h2 (fun x k z => by omega))
    refine Pc.bind zf_X7_take (fun q4 h5 => ?_)
    have f6 : frZ (fun x k => (2 ≤ x ∧ x ≤ 22)) h q4.2 := frZ.tr f3 (frZ.sub h5 (fun x k z => by omega))
    exact Pc.ret f6
  · refine Pc.ite (fun _ => ?_) (fun _ => ?_)
    · refine Pc.bind zf_X7_readTune (fun q7 h8 => ?_)
      have f9 : frZ (fun x k => (2 ≤ x ∧ x ≤ 22)) h q7 := frZ.tr (frZ.rf h) (frZ.sub h8 (fun x k z => by omega))
      refine Pc.bind zf_X7_take (fun q10 h11 => ?_)
      have f12 : frZ (fun x k => (2 ≤ x ∧ x ≤ 22)) h q10.2 := frZ.tr f9 (frZ.sub h11 (fun x k z => by omega))
      exact Pc.ret f12
    · refine Pc.ite (fun _ => ?_) (fun _ => ?_)
      · refine Pc.bind zf_X7_readGoer (fun q13 h14 => ?_)
        have f15 : frZ (fun x k => (2 ≤ x ∧ x ≤ 22)) h q13 := frZ.tr (frZ.rf h) (frZ.sub h14 (fun x k z => by omega))
        refine Pc.bind zf_X7_take (fun q16 h17 => ?_)
        have f18 : frZ (fun x k => (2 ≤ x ∧ x ≤ 22)) h q16.2 := frZ.tr f15 (frZ.sub h17 (fun x k z => by omega))
        exact Pc.ret f18
      · refine Pc.ite (fun _ => ?_) (fun _ => ?_)
        · refine Pc.bind zf_X7_readRope (fun q19 h20 => ?_)
          have f21 : frZ (fun x k => (2 ≤ x ∧ x ≤ 22)) h q19 := frZ.tr (frZ.rf h) (frZ.sub h20 (fun x k z => by omega))
          refine Pc.bind zf_X7_take (fun q22 h23 => ?_)
          have f24 : frZ (fun x k => (2 ≤ x ∧ x ≤ 22)) h q22.2 := frZ.tr f21 (frZ.sub h23 (fun x k z => by omega))
          exact Pc.ret f24
        · refine Pc.ite (fun _ => ?_) (fun _ => ?_)
          · refine Pc.ite (fun _ => ?_) (fun _ => ?_)
            · refine Pc.bind zf_X7_stop (fun q25 h26 => ?_)
              have f27 : frZ (fun x k => (2 ≤ x ∧ x ≤ 22)) h q25 := frZ.tr (frZ.rf h) (frZ.sub h26 (fun x k z => by omega))
              exact Pc.ret f27
            · refine Pc.ite (fun _ => ?_) (fun _ => ?_)
              · refine Pc.bind zf_X7_take (fun q28 h29 => ?_)
                have f30 : frZ (fun x k => (2 ≤ x ∧ x ≤ 22)) h q28.2 := frZ.tr (frZ.rf h) (frZ.sub h29 (fun x k z => by omega))
                refine Pc.bind zf_X7_readLaw (fun q31 h32 => ?_)
                have f33 : frZ (fun x k => (2 ≤ x ∧ x ≤ 22)) h q31 := frZ.tr f30 (frZ.sub h32 (fun x k z => by omega))
                refine Pc.bind zf_X7_take (fun q34 h35 => ?_)
                have f36 : frZ (fun x k => (2 ≤ x ∧ x ≤ 22)) h q34.2 := frZ.tr f33 (frZ.sub h35 (fun x k z => by omega))
                exact Pc.ret f36
              · refine Pc.bind zf_X7_stop (fun q37 h38 => ?_)
                have f39 : frZ (fun x k => (2 ≤ x ∧ x ≤ 22)) h q37 := frZ.tr (frZ.rf h) (frZ.sub h38 (fun x k z => by omega))
                exact Pc.ret f39
          · refine Pc.ite (fun _ => ?_) (fun _ => ?_)
            · refine Pc.ite (fun _ => ?_) (fun _ => ?_)
              · refine Pc.bind zf_X7_stop (fun q40 h41 => ?_)
                have f42 : frZ (fun x k => (2 ≤ x ∧ x ≤ 22)) h q40 := frZ.tr (frZ.rf h) (frZ.sub h41 (fun x k z => by omega))
                exact Pc.ret f42
              · refine Pc.ite (fun _ => ?_) (fun _ => ?_)
                · refine Pc.bind zf_X7_take (fun q43 h44 => ?_)
                  have f45 : frZ (fun x k => (2 ≤ x ∧ x ≤ 22)) h q43.2 := frZ.tr (frZ.rf h) (frZ.sub h44 (fun x k z => by omega))
                  refine Pc.bind zf_X7_readLaw (fun q46 h47 => ?_)
                  have f48 : frZ (fun x k => (2 ≤ x ∧ x ≤ 22)) h q46 := frZ.tr f45 (frZ.sub h47 (fun x k z => by omega))
                  refine Pc.bind zf_X7_take (fun q49 h50 => ?_)
                  have f51 : frZ (fun x k => (2 ≤ x ∧ x ≤ 22)) h q49.2 := frZ.tr f48 (frZ.sub h50 (fun x k z => by omega))
                  exact Pc.ret f51
                · refine Pc.bind zf_X7_stop (fun q52 h53 => ?_)
                  have f54 : frZ (fun x k => (2 ≤ x ∧ x ≤ 22)) h q52 := frZ.tr (frZ.rf h) (frZ.sub h53 (fun x k z => by omega))
                  exact Pc.ret f54
            · refine Pc.ite (fun _ => ?_) (fun _ => ?_)
              · refine Pc.ite (fun _ => ?_) (fun _ => ?_)
                · refine Pc.bind zf_X7_stop (fun q55 h56 => ?_)
                  have f57 : frZ (fun x k => (2 ≤ x ∧ x ≤ 22)) h q55 := frZ.tr (frZ.rf h) (frZ.sub h56 (fun x k z => by omega))
                  exact Pc.ret f57
                · refine Pc.ite (fun _ => ?_) (fun _ => ?_)
                  · refine Pc.bind zf_X7_take (fun q58 h59 => ?_)
                    have f60 : frZ (fun x k => (2 ≤ x ∧ x ≤ 22)) h q58.2 := frZ.tr (frZ.rf h) (frZ.sub h59 (fun x k z => by omega))
                    refine Pc.bind zf_X7_readLaw (fun q61 h62 => ?_)
                    have f63 : frZ (fun x k => (2 ≤ x ∧ x ≤ 22)) h q61 := frZ.tr f60 (frZ.sub h62 (fun x k z => by omega))
                    refine Pc.bind zf_X7_take (fun q64 h65 => ?_)
                    have f66 : frZ (fun x k => (2 ≤ x ∧ x ≤ 22)) h q64.2 := frZ.tr f63 (frZ.sub h65 (fun x k z => by omega))
                    exact Pc.ret f66
                  · refine Pc.bind zf_X7_stop (fun q67 h68 => ?_)
                    have f69 : frZ (fun x k => (2 ≤ x ∧ x ≤ 22)) h q67 := frZ.tr (frZ.rf h) (frZ.sub h68 (fun x k z => by omega))
                    exact Pc.ret f69
              · refine Pc.ite (fun _ => ?_) (fun _ => ?_)
                · refine Pc.ite (fun _ => ?_) (fun _ => ?_)
                  · refine Pc.bind zf_X7_stop (fun q70 h71 => ?_)
                    have f72 : frZ (fun x k => (2 ≤ x ∧ x ≤ 22)) h q70 := frZ.tr (frZ.rf h) (frZ.sub h71 (fun x k z => by omega))
                    exact Pc.ret f72
                  · refine Pc.ite (fun _ => ?_) (fun _ => ?_)
                    · refine Pc.bind zf_X7_take (fun q73 h74 => ?_)
                      have f75 : frZ (fun x k => (2 ≤ x ∧ x ≤ 22)) h q73.2 := frZ.tr (frZ.rf h) (frZ.sub h74 (fun x k z => by omega))
                      refine Pc.bind zf_X7_readLaw (fun q76 h77 => ?_)
                      have f78 : frZ (fun x k => (2 ≤ x ∧ x ≤ 22)) h q76 := frZ.tr f75 (frZ.sub h77 (fun x k z => by omega))
                      refine Pc.bind zf_X7_take (fun q79 h80 => ?_)
                      have f81 : frZ (fun x k => (2 ≤ x ∧ x ≤ 22)) h q79.2 := frZ.tr f78 (frZ.sub h80 (fun x k z => by omega))
                      exact Pc.ret f81
                    · refine Pc.bind zf_X7_stop (fun q82 h83 => ?_)
                      have f84 : frZ (fun x k => (2 ≤ x ∧ x ≤ 22)) h q82 := frZ.tr (frZ.rf h) (frZ.sub h83 (fun x k z => by omega))
                      exact Pc.ret f84
                · refine Pc.ite (fun _ => ?_) (fun _ => ?_)
                  · refine Pc.bind zf_X7_take (fun q85 h86 => ?_)
                    have f87 : frZ (fun x k => (2 ≤ x ∧ x ≤ 22)) h q85.2 := frZ.tr (frZ.rf h) (frZ.sub h86 (fun x k z => by omega))
                    refine Pc.bind zf_X7_takeNumber (fun q88 h89 => ?_)
                    have f90 : frZ (fun x k => (2 ≤ x ∧ x ≤ 22)) h q88.2 := frZ.tr f87 (frZ.sub h89 (fun x k z => by omega))
                    refine Pc.bind zf_X7_take (fun q91 h92 => ?_)
                    have f93 : frZ (fun x k => (2 ≤ x ∧ x ≤ 22)) h q91.2 := frZ.tr (frZ.w f90 (by omega)) (frZ.sub h92 (fun x k z => by omega))
                    exact Pc.ret f93
                  · refine Pc.ite (fun _ => ?_) (fun _ => ?_)
                    · refine Pc.bind zf_X7_take (fun q94 h95 => ?_)
                      have f96 : frZ (fun x k => (2 ≤ x ∧ x ≤ 22)) h q94.2 := frZ.tr (frZ.rf h) (frZ.sub h95 (fun x k z => by omega))
                      refine Pc.bind zf_X7_takeNumber (fun q97 h98 => ?_)
                      have f99 : frZ (fun x k => (2 ≤ x ∧ x ≤ 22)) h q97.2 := frZ.tr f96 (frZ.sub h98 (fun x k z => by omega))
                      refine Pc.bind zf_X7_take (fun q100 h101 => ?_)
                      have f102 : frZ (fun x k => (2 ≤ x ∧ x ≤ 22)) h q100.2 := frZ.tr (frZ.w f99 (by omega)) (frZ.sub h101 (fun x k z => by omega))
                      exact Pc.ret f102
                    · refine Pc.ite (fun _ => ?_) (fun _ => ?_)
                      · refine Pc.bind zf_X7_stop (fun q103 h104 => ?_)
                        have f105 : frZ (fun x k => (2 ≤ x ∧ x ≤ 22)) h q103 := frZ.tr (frZ.rf h) (frZ.sub h104 (fun x k z => by omega))
                        exact Pc.ret f105
                      · refine Pc.ite (fun _ => ?_) (fun _ => ?_)
                        · refine Pc.bind zf_X7_take (fun q106 h107 => ?_)
                          have f108 : frZ (fun x k => (2 ≤ x ∧ x ≤ 22)) h q106.2 := frZ.tr (frZ.rf h) (frZ.sub h107 (fun x k z => by omega))
                          refine Pc.bind zf_X7_readLaw (fun q109 h110 => ?_)
                          have f111 : frZ (fun x k => (2 ≤ x ∧ x ≤ 22)) h q109 := frZ.tr f108 (frZ.sub h110 (fun x k z => by omega))
                          refine Pc.bind zf_X7_take (fun q112 h113 => ?_)
                          have f114 : frZ (fun x k => (2 ≤ x ∧ x ≤ 22)) h q112.2 := frZ.tr f111 (frZ.sub h113 (fun x k z => by omega))
                          exact Pc.ret f114
                        · refine Pc.bind zf_X7_stop (fun q115 h116 => ?_)
                          have f117 : frZ (fun x k => (2 ≤ x ∧ x ≤ 22)) h q115 := frZ.tr (frZ.rf h) (frZ.sub h116 (fun x k z => by omega))
                          exact Pc.ret f117
theorem zw_X7_readText : ∀ (n : Nat) (hd : Nat) (h : Hp) (l1 : Int32) (l2 : Int32), Pc (W_X7_readText n hd h l1 l2) (fun q => frZ (fun x k => (2 ≤ x ∧ x ≤ 22)) h q.2) := by
  intro n
  induction n with
  | zero => intro hd h l1 l2; exact Pc.no
  | succ n ih =>
    intro hd h l1 l2
    rw [u_X7_readText]
    refine Pc.chk (fun _ => ?_)
    refine Pc.ite (fun _ => ?_) (fun _ => ?_)
    · refine Pc.ite (fun _ => ?_) (fun _ => ?_)
      · refine Pc.bind zf_X7_layOut (fun q2 h3 => ?_)
        have f4 : frZ (fun x k => (2 ≤ x ∧ x ≤ 22)) h q2 := frZ.tr (frZ.rf h) (frZ.sub h3 (fun x k z => by omega))
        exact Pc.ret (frZ.w f4 (by omega))
      · refine Pc.bind zf_X9_placeOf (fun q5 h6 => ?_)
        have f7 : frZ (fun x k => (2 ≤ x ∧ x ≤ 22)) h q5.2 := frZ.tr (frZ.rf h) (frZ.no h6)
        exact Pc.ret (frZ.w f7 (by omega))
    · refine Pc.ite (fun _ => ?_) (fun _ => ?_)
      · refine Pc.bind zf_X7_kind (fun q8 h9 => ?_)
        have f10 : frZ (fun x k => (2 ≤ x ∧ x ≤ 22)) h q8.2 := frZ.tr (frZ.rf h) (frZ.no h9)
        refine Pc.ite (fun _ => ?_) (fun _ => ?_)
        · refine Pc.ite (fun _ => ?_) (fun _ => ?_)
          · refine Pc.bind zf_X7_layOut (fun q11 h12 => ?_)
            have f13 : frZ (fun x k => (2 ≤ x ∧ x ≤ 22)) h q11 := frZ.tr f10 (frZ.sub h12 (fun x k z => by omega))
            exact Pc.ret (frZ.w f13 (by omega))
          · refine Pc.bind zf_X9_placeOf (fun q14 h15 => ?_)
            have f16 : frZ (fun x k => (2 ≤ x ∧ x ≤ 22)) h q14.2 := frZ.tr f10 (frZ.no h15)
            exact Pc.ret (frZ.w f16 (by omega))
        · refine Pc.bind zf_X7_kind (fun q17 h18 => ?_)
          have f19 : frZ (fun x k => (2 ≤ x ∧ x ≤ 22)) h q17.2 := frZ.tr f10 (frZ.no h18)
          refine Pc.bind zf_X7_readTell (fun q20 h21 => ?_)
          have f22 : frZ (fun x k => (2 ≤ x ∧ x ≤ 22)) h q20 := frZ.tr f19 (frZ.sub h21 (fun x k z => by omega))
          exact Pc.mono (ih _ _ _ _) (fun _ hq => frZ.tr f22 (frZ.sub hq (fun x k z => by omega)))
      · refine Pc.ite (fun _ => ?_) (fun _ => ?_)
        · refine Pc.bind zf_X7_layOut (fun q24 h25 => ?_)
          have f26 : frZ (fun x k => (2 ≤ x ∧ x ≤ 22)) h q24 := frZ.tr (frZ.rf h) (frZ.sub h25 (fun x k z => by omega))
          exact Pc.ret (frZ.w f26 (by omega))
        · refine Pc.bind zf_X9_placeOf (fun q27 h28 => ?_)
          have f29 : frZ (fun x k => (2 ≤ x ∧ x ≤ 22)) h q27.2 := frZ.tr (frZ.rf h) (frZ.no h28)
          exact Pc.ret (frZ.w f29 (by omega))
theorem zf_X7_readText {n : Nat} {h : Hp} {x1 : Int32} : Pc (F_X7_readText n h x1) (fun q => frZ (fun x k => (2 ≤ x ∧ x ≤ 22)) h q.2) := by
  unfold F_X7_readText
  refine Pc.bind zf_X7_clear (fun q1 h2 => ?_)
  have f3 : frZ (fun x k => (2 ≤ x ∧ x ≤ 22)) h q1 := frZ.tr (frZ.rf h) (frZ.sub h2 (fun x k z => by omega))
  refine Pc.bind zf_X9_scan (fun q4 h5 => ?_)
  have f6 : frZ (fun x k => (2 ≤ x ∧ x ≤ 22)) h q4 := frZ.tr f3 (frZ.sub h5 (fun x k z => by omega))
  exact Pc.mono (zw_X7_readText _ _ _ _ _) (fun _ hq => frZ.tr f6 (frZ.sub hq (fun x k z => by omega)))
theorem zf_X3_become {n : Nat} {h : Hp} {a : Nat} {b1 : Nat} : Pc (F_X3_become n h a b1) (fun q => frZ (fun x k => x = a) h q) := by
  unfold F_X3_become
  exact Pc.ret (frZ.w (frZ.w (frZ.w (frZ.w (frZ.rf h) (by omega)) (by omega)) (by omega)) (by omega))
theorem zf_X4_become {n : Nat} {h : Hp} {a : Nat} {b1 : Nat} : Pc (F_X4_become n h a b1) (fun q => frZ (fun x k => x = a ∨ x = a + 1 ∨ x = a + 2) h q) := by
  unfold F_X4_become
  exact Pc.ret (frZ.wA (frZ.wA (frZ.w (frZ.rf h) (by omega)) (fun k => by omega)) (fun k => by omega))
theorem zf_X0_become {n : Nat} {h : Hp} {a : Nat} {b1 : Nat} : Pc (F_X0_become n h a b1) (fun q => frZ (fun x k => x = a ∨ x = a + 1 ∨ x = a + 2 ∨ x = a + 3 ∨ x = a + 4) h q) := by
  unfold F_X0_become
  refine Pc.bind zf_X3_become (fun q1 h2 => ?_)
  have f3 : frZ (fun x k => x = a ∨ x = a + 1 ∨ x = a + 2 ∨ x = a + 3 ∨ x = a + 4) h q1 := frZ.tr (frZ.rf h) (frZ.sub h2 (fun x k z => by omega))
  refine Pc.bind zf_X4_become (fun q4 h5 => ?_)
  have f6 : frZ (fun x k => x = a ∨ x = a + 1 ∨ x = a + 2 ∨ x = a + 3 ∨ x = a + 4) h q4 := frZ.tr f3 (frZ.sub h5 (fun x k z => by omega))
  exact Pc.ret (frZ.w (frZ.w (frZ.w f6 (by omega)) (by omega)) (by omega))
