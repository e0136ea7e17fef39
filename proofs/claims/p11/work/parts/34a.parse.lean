/-! READING: the least steps -/
def tI (h : Hp) : Prop := (0 ≤ (hi h 226 11).toInt ∧ (hi h 226 11).toInt ≤ 400) ∧ 0 ≤ (hi h 226 13).toInt ∧ 0 ≤ (hi h 226 15).toInt
def pK (a k : Nat) : Bool := a == 226 && (k == 11 || k == 13 || k == 14 || k == 15 || k == 16)
/-- TOKEN, fault and worst have gone on, nothing else -/
def pR (h h' : Hp) : Prop := (∀ a k, pK a k = false → hi h' a k = hi h a k) ∧ (∀ a k, hl h' a k = hl h a k) ∧ tI h' ∧ (hi h 226 11).toInt ≤ (hi h' 226 11).toInt ∧ ((hi h' 226 13).toInt = 0 → (hi h 226 13).toInt = 0) ∧ ((hi h' 226 15).toInt = 0 → (hi h 226 15).toInt = 0)
theorem pR.rf {h : Hp} (t : tI h) : pR h h := ⟨fun _ _ _ => rfl, fun _ _ => rfl, t, Int.le_refl _, fun q => q, fun q => q⟩
theorem pR.tr {h0 h1 h2 : Hp} (a : pR h0 h1) (b : pR h1 h2) : pR h0 h2 := ⟨fun x k q => (b.1 x k q).trans (a.1 x k q), fun x k => (b.2.1 x k).trans (a.2.1 x k), b.2.2.1, Int.le_trans a.2.2.2.1 b.2.2.2.1, fun q => a.2.2.2.2.1 (b.2.2.2.2.1 q), fun q => a.2.2.2.2.2 (b.2.2.2.2.2 q)⟩
theorem pw {h : Hp} {k0 : Nat} {v : Int32} (pk : pK 226 k0 = true) {a k : Nat} (q : pK a k = false) : hi (wrI h 226 k0 v) a k = hi h a k := by
  rw [hi_wrI, if_neg (fun z => by rw [z.1, z.2, pk] at q; cases q)]
theorem w13 (h : Hp) (v : Int32) : hi (wrI h 226 13 v) 226 11 = hi h 226 11 ∧ hi (wrI h 226 13 v) 226 13 = v ∧ hi (wrI h 226 13 v) 226 15 = hi h 226 15 := by simp [hi_wrI]
theorem w14 (h : Hp) (v : Int32) : hi (wrI h 226 14 v) 226 11 = hi h 226 11 ∧ hi (wrI h 226 14 v) 226 13 = hi h 226 13 ∧ hi (wrI h 226 14 v) 226 15 = hi h 226 15 := by simp [hi_wrI]
theorem w15 (h : Hp) (v : Int32) : hi (wrI h 226 15 v) 226 11 = hi h 226 11 ∧ hi (wrI h 226 15 v) 226 13 = hi h 226 13 ∧ hi (wrI h 226 15 v) 226 15 = v := by simp [hi_wrI]
theorem w16 (h : Hp) (v : Int32) : hi (wrI h 226 16 v) 226 11 = hi h 226 11 ∧ hi (wrI h 226 16 v) 226 13 = hi h 226 13 ∧ hi (wrI h 226 16 v) 226 15 = hi h 226 15 := by simp [hi_wrI]
theorem w11 (h : Hp) (v : Int32) : hi (wrI h 226 11 v) 226 11 = v ∧ hi (wrI h 226 11 v) 226 13 = hi h 226 13 ∧ hi (wrI h 226 11 v) 226 15 = hi h 226 15 := by simp [hi_wrI]
theorem sr_is {n : Nat} {h : Hp} {x : Int32} (t : tI h) : Ok (F_X12_is n h x) (fun q => q.2 = h ∧ (0 ≤ q.1.toInt ∧ q.1.toInt ≤ 1) ∧ (q.1.toInt ≠ 0 → (hi h 226 13).toInt = 0 ∧ (hi h 229 (Int32.toNatClampNeg (hi h 226 11))).toInt = x.toInt)) := by
  have f0 := lit_0
  have f1 := lit_1
  have t1 := t.1
  unfold F_X12_is
  refine Ok.eq (fun c1 => ?_) (fun c1 => ?_)
  · refine Ok.chk (ixT (by omega) (by omega)) (fun c2 => ?_)
    refine Ok.eq (fun c3 => ?_) (fun c3 => ?_)
    · exact Ok.ret ⟨rfl, by show 0 ≤ (1 : Int32).toInt ∧ (1 : Int32).toInt ≤ 1; omega, fun _ => ⟨by omega, c3⟩⟩
    · exact Ok.ret ⟨rfl, by show 0 ≤ (0 : Int32).toInt ∧ (0 : Int32).toInt ≤ 1; omega, fun q => absurd lit_0 q⟩
  · exact Ok.ret ⟨rfl, by show 0 ≤ (0 : Int32).toInt ∧ (0 : Int32).toInt ≤ 1; omega, fun q => absurd lit_0 q⟩
theorem sr_fail {n : Nat} {h : Hp} {x : Int32} (t : tI h) (hx : 0 < x.toInt) : Ok (F_X12_fail n h x) (fun q => pR h q ∧ (hi q 226 13).toInt ≠ 0 ∧ hi q 226 11 = hi h 226 11) := by
  have f0 := lit_0
  have t1 := t.1
  have t2 := t.2.1
  have t3 := t.2.2
  unfold F_X12_fail
  refine Ok.le (fun c1 => ?_) (fun c1 => ?_)
  · obtain ⟨a1, a2, a3⟩ := w13 h x
    rw [a1]
    refine Ok.chk (ixT (by omega) (by omega)) (fun c2 => ?_)
    obtain ⟨b1, b2, b3⟩ := w14 (wrI h 226 13 x) (hi (wrI h 226 13 x) 230 (Int32.toNatClampNeg (hi h 226 11)))
    refine Ok.ret ⟨⟨fun a k q => by rw [pw (by decide) q, pw (by decide) q], fun _ _ => rfl, ?_, ?_, ?_, ?_⟩, ?_, by rw [b1, a1]⟩
    · show (0 ≤ (hi _ 226 11).toInt ∧ (hi _ 226 11).toInt ≤ 400) ∧ 0 ≤ (hi _ 226 13).toInt ∧ 0 ≤ (hi _ 226 15).toInt
      rw [b1, b2, b3, a1, a2, a3]
      omega
    · rw [b1, a1]; exact Int.le_refl _
    · intro q
      rw [b2, a2] at q
      omega
    · intro q
      rw [b3, a3] at q
      exact q
    · rw [b2, a2]; omega
  · exact Ok.ret ⟨pR.rf t, by omega, rfl⟩
theorem sr_goesOn {n : Nat} {h : Hp} (t : tI h) : Ok (F_X12_goesOn n h) (fun q => pR h q ∧ ((hi q 226 13).toInt = 0 → (hi h 226 13).toInt = 0 ∧ (hi q 226 11).toInt = (hi h 226 11).toInt + 1)) := by
  have t1 := t.1
  have t2 := t.2.1
  have t3 := t.2.2
  have f4 : (400 : Int32).toInt = 400 := by decide
  have f1 := lit_1
  unfold F_X12_goesOn
  refine Ok.eq (fun c1 => ?_) (fun c1 => ?_)
  · refine Ok.bind (sr_fail t (by decide)) (fun q2 hq2 => ?_)
    exact Ok.ret ⟨hq2.1, fun q => absurd q hq2.2.1⟩
  · have a := adT (hi h 226 11) 1 (by omega) (by omega)
    obtain ⟨b1, b2, b3⟩ := w11 h (hi h 226 11 + 1)
    refine Ok.ret ⟨⟨fun a k q => by rw [pw (by decide) q], fun _ _ => rfl, ?_, ?_, ?_, ?_⟩, fun q => ?_⟩
    · show (0 ≤ (hi _ 226 11).toInt ∧ (hi _ 226 11).toInt ≤ 400) ∧ 0 ≤ (hi _ 226 13).toInt ∧ 0 ≤ (hi _ 226 15).toInt
      rw [b1, b2, b3]
      omega
    · rw [b1]; omega
    · rw [b2]; exact fun q => q
    · rw [b3]; exact fun q => q
    · rw [b2] at q
      rw [b1]
      exact ⟨q, by omega⟩
theorem sr_must {n : Nat} {h : Hp} {x : Int32} (t : tI h) : Ok (F_X12_must n h x) (fun q => pR h q ∧ ((hi q 226 13).toInt = 0 → (hi h 226 13).toInt = 0 ∧ (hi q 226 11).toInt = (hi h 226 11).toInt + 1)) := by
  unfold F_X12_must
  refine Ok.bind (sr_is t) (fun q1 hq1 => ?_)
  rw [hq1.1]
  refine Ok.ite (fun _ => ?_) (fun _ => ?_)
  · refine Ok.bind (sr_fail t (by decide)) (fun q2 hq2 => ?_)
    exact Ok.ret ⟨hq2.1, fun q => absurd q hq2.2.1⟩
  · refine Ok.bind (sr_goesOn t) (fun q2 hq2 => ?_)
    exact Ok.ret hq2
theorem sr_wrong {n : Nat} {h : Hp} {x y : Int32} (t : tI h) (hx : 0 < x.toInt) (y0 : 0 ≤ y.toInt) (y1 : y.toInt ≤ 400) : Ok (F_X12_wrong n h x y) (fun q => pR h q ∧ hi q 226 11 = hi h 226 11 ∧ hi q 226 13 = hi h 226 13 ∧ ((hi q 226 13).toInt = 0 → (hi q 226 15).toInt ≠ 0)) := by
  have f0 := lit_0
  have t1 := t.1
  have t2 := t.2.1
  have t3 := t.2.2
  unfold F_X12_wrong
  refine Ok.chk (ixT (by omega) (by omega)) (fun c1 => ?_)
  refine Ok.lt (fun c2 => ?_) (fun c2 => ?_)
  · exact Ok.ret ⟨pR.rf t, rfl, rfl, fun q => by omega⟩
  · have wr : Ok (some (wrI (wrI h 226 15 x) 226 16 (hi h 230 (Int32.toNatClampNeg y)))) (fun q => pR h q ∧ hi q 226 11 = hi h 226 11 ∧ hi q 226 13 = hi h 226 13 ∧ ((hi q 226 13).toInt = 0 → (hi q 226 15).toInt ≠ 0)) := by
      obtain ⟨a1, a2, a3⟩ := w15 h x
      obtain ⟨b1, b2, b3⟩ := w16 (wrI h 226 15 x) (hi h 230 (Int32.toNatClampNeg y))
      refine Ok.ret ⟨⟨fun a k q => by rw [pw (by decide) q, pw (by decide) q], fun _ _ => rfl, ?_, ?_, ?_, ?_⟩, by rw [b1, a1], by rw [b2, a2], fun _ => by rw [b3, a3]; omega⟩
      · show (0 ≤ (hi _ 226 11).toInt ∧ (hi _ 226 11).toInt ≤ 400) ∧ 0 ≤ (hi _ 226 13).toInt ∧ 0 ≤ (hi _ 226 15).toInt
        rw [b1, b2, b3, a1, a2, a3]
        omega
      · rw [b1, a1]; exact Int.le_refl _
      · rw [b2, a2]; exact fun q => q
      · rw [b3, a3]; intro q; omega
    refine Ok.eq (fun _ => wr) (fun c3 => ?_)
    have sm : Ok (some h) (fun q => pR h q ∧ hi q 226 11 = hi h 226 11 ∧ hi q 226 13 = hi h 226 13 ∧ ((hi q 226 13).toInt = 0 → (hi q 226 15).toInt ≠ 0)) := Ok.ret ⟨pR.rf t, rfl, rfl, fun _ => by omega⟩
    refine Ok.ite (fun _ => sm) (fun _ => ?_)
    refine Ok.ite (fun _ => ?_) (fun _ => wr)
    exact Ok.ite (fun _ => wr) (fun _ => sm)
theorem sr_bounded {n : Nat} {h : Hp} {x y : Int32} (t : tI h) : Ok (F_X12_bounded n h x y) (fun q => pR h q.2 ∧ ((hi q.2 226 13).toInt = 0 → (hi h 226 13).toInt = 0 ∧ (hi q.2 226 11).toInt = (hi h 226 11).toInt + 1 ∧ ((hi q.2 226 15).toInt = 0 → x.toInt ≤ q.1.toInt ∧ q.1.toInt ≤ y.toInt))) := by
  have t1 := t.1
  unfold F_X12_bounded
  refine Ok.ite (fun _ => ?_) (fun _ => ?_)
  · refine Ok.bind (sr_fail t (by decide)) (fun q2 hq2 => ?_)
    exact Ok.ret ⟨hq2.1, fun q => absurd q hq2.2.1⟩
  · refine Ok.bind (sr_is t) (fun q4 hq4 => ?_)
    rw [hq4.1]
    refine Ok.ite (fun _ => ?_) (fun _ => ?_)
    · refine Ok.bind (sr_fail t (by decide)) (fun q2 hq2 => ?_)
      exact Ok.ret ⟨hq2.1, fun q => absurd q hq2.2.1⟩
    · refine Ok.chk (ixT (by omega) (by omega)) (fun c2 => ?_)
      have bad : Ok ((F_X12_wrong n h 5 (hi h 226 11)).bind (fun q9 => ((F_X12_goesOn n q9).bind (fun q11 => some ((hi h 231 (Int32.toNatClampNeg (hi h 226 11))), q11))))) (fun q => pR h q.2 ∧ ((hi q.2 226 13).toInt = 0 → (hi h 226 13).toInt = 0 ∧ (hi q.2 226 11).toInt = (hi h 226 11).toInt + 1 ∧ ((hi q.2 226 15).toInt = 0 → x.toInt ≤ q.1.toInt ∧ q.1.toInt ≤ y.toInt))) := by
        refine Ok.bind (sr_wrong t (by decide) t1.1 t1.2) (fun q9 hq9 => ?_)
        refine Ok.bind (sr_goesOn hq9.1.2.2.1) (fun q11 hq11 => ?_)
        refine Ok.ret ⟨hq9.1.tr hq11.1, fun q => ?_⟩
        have z := hq11.2 q
        refine ⟨hq9.1.2.2.2.2.1 z.1, by have := z.2; rw [hq9.2.1] at this; exact this, fun w => ?_⟩
        exact absurd (hq11.1.2.2.2.2.2 w) (hq9.2.2.2 z.1)
      refine Ok.lt (fun _ => bad) (fun c3 => ?_)
      refine Ok.le (fun c4 => ?_) (fun _ => bad)
      refine Ok.bind (sr_goesOn t) (fun q14 hq14 => ?_)
      refine Ok.ret ⟨hq14.1, fun q => ⟨(hq14.2 q).1, (hq14.2 q).2, fun _ => ⟨c3, c4⟩⟩⟩
theorem sr_room {n : Nat} {h : Hp} {x y : Int32} (t : tI h) : Ok (F_X12_roomFor n h x y) (fun q => pR h q ∧ ((hi q 226 13).toInt = 0 → (hi h 226 13).toInt = 0 ∧ x.toInt ≠ y.toInt ∧ (hi q 226 11).toInt = (hi h 226 11).toInt + 1)) := by
  have f0 := lit_0
  unfold F_X12_roomFor
  refine Ok.eq (fun _ => ?_) (fun c1 => ?_)
  · refine Ok.bind (sr_fail t (by decide)) (fun q5 hq5 => ?_)
    refine Ok.eq (fun c2 => ?_) (fun _ => Ok.ret ⟨hq5.1, fun q => absurd q hq5.2.1⟩)
    exact absurd (c2.trans f0) hq5.2.1
  · refine Ok.eq (fun _ => ?_) (fun c2 => Ok.ret ⟨pR.rf t, fun q => absurd (q.trans f0.symm) c2⟩)
    refine Ok.bind (sr_goesOn t) (fun q3 hq3 => ?_)
    exact Ok.ret ⟨hq3.1, fun q => ⟨(hq3.2 q).1, c1, (hq3.2 q).2⟩⟩
