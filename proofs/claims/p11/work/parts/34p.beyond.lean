/-! READING: is anything beyond the lawn -/
section BY
variable {s : Nat} {h : Hp}
def sdH (s : Nat) (h : Hp) : Prop := s ≤ 1 ∧ (hi h 226 19).toInt = (s : Int) ∧ cnB s h
theorem sdH.ix (H : sdH s h) : ixOK (hi h 226 19) 2 = true ∧ Int32.toNatClampNeg (hi h 226 19) = s := by
  have a := H.1
  have b := H.2.1
  have c := ncT (show 0 ≤ (hi h 226 19).toInt by omega)
  exact ⟨ixT (by omega) (by omega), by omega⟩
def offT (s : Nat) (h : Hp) (m : Int) : Prop := ∀ k : Nat, (k : Int) < m → (hi h 238 (8 * s + k)).toInt < (hi h 235 s).toInt ∧ (hi h 239 (8 * s + k)).toInt < (hi h 236 s).toInt
def offG (s : Nat) (h : Hp) (m : Int) : Prop := ∀ k : Nat, (k : Int) < m → (hi h 243 (5 * s + k)).toInt < (hi h 235 s).toInt ∧ (hi h 244 (5 * s + k)).toInt < (hi h 236 s).toInt
def byP (s : Nat) (h : Hp) (q : Int32 × Hp) : Prop := q.2 = h ∧ (q.1.toInt = 0 → offT s h (hi h 237 s).toInt ∧ offG s h (hi h 242 s).toInt)
theorem sr_isOff {n : Nat} {x y : Int32} (H : sdH s h) : Ok (F_X12_isOff n h x y) (fun q => q.2 = h ∧ (q.1.toInt = 0 → x.toInt < (hi h 235 s).toInt ∧ y.toInt < (hi h 236 s).toInt)) := by
  obtain ⟨i1, i2⟩ := H.ix
  have n1 : ¬ (1 : Int32).toInt = 0 := by decide
  unfold F_X12_isOff
  refine Ok.pos i1 ?_
  rw [i2]
  refine Ok.le (fun _ => Ok.ret ⟨rfl, fun q => absurd q n1⟩) (fun c1 => ?_)
  refine Ok.pos i1 ?_
  exact Ok.lt (fun c2 => Ok.ret ⟨rfl, fun _ => ⟨c1, c2⟩⟩) (fun _ => Ok.ret ⟨rfl, fun q => absurd q n1⟩)
theorem one_by {s : Nat} {h : Hp} : byP s h (1, h) := ⟨rfl, fun q => absurd q (show ¬ (1 : Int32).toInt = 0 by decide)⟩
set_option maxHeartbeats 4000000 in
theorem by119 (H : sdH s h) (ot : offT s h (hi h 237 s).toInt) : ∀ n : Nat, (∀ l1 : Int32, 5 * (s : Int) ≤ l1.toInt → l1.toInt ≤ 5 * s + 5 → offG s h (l1.toInt - 5 * s) → (10 : Int) + 40 * (11 - l1.toInt) < n → Ok (W_X12_isBeyond n 119 h l1 0) (byP s h)) ∧ (∀ l1 l2 : Int32, 5 * (s : Int) ≤ l1.toInt → l1.toInt < 5 * s + 5 → offG s h (l1.toInt + 1 - 5 * s) → 8 * (s : Int) ≤ l2.toInt → l2.toInt ≤ 8 * s + 8 → (10 : Int) + 40 * (11 - l1.toInt) - 1 - l2.toInt < n → Ok (W_X12_isBeyond n 168 h l1 l2) (byP s h)) := by
  obtain ⟨i1, i2⟩ := H.ix
  obtain ⟨hs, h19, c37, c42, c20, c45⟩ := H
  have H : sdH s h := ⟨hs, h19, c37, c42, c20, c45⟩
  have f5 := lit_5
  have f8 := lit_8
  have f1 := lit_1
  have f0 := lit_0
  have a5 := mlT 5 (hi h 226 19) 5 lit_5 (by omega) (by omega)
  have b5 := adT (5 * hi h 226 19) (hi h 242 s) (by omega) (by omega)
  have a8 := mlT 8 (hi h 226 19) 8 lit_8 (by omega) (by omega)
  have b8 := adT (8 * hi h 226 19) (hi h 245 s) (by omega) (by omega)
  intro n
  induction n with
  | zero => exact ⟨by intro l1 a b c d; exfalso; omega, by intro l1 l2 a b c d e f; exfalso; omega⟩
  | succ n ih =>
    refine ⟨?_, ?_⟩
    · intro l1 a b c d
      have n1 := ncT (show 0 ≤ l1.toInt by omega)
      rw [u_X12_isBeyond]
      refine Ok.neg (by decide) (Ok.neg (by decide) (Ok.pos rfl ?_))
      refine Ok.pos i1 ?_
      rw [i2]
      refine Ok.le (fun c1 => ?_) (fun c1 => ?_)
      · refine Ok.ret ⟨rfl, fun _ => ⟨ot, fun k hk => c k (by omega)⟩⟩
      · have im : ixOK l1 10 = true := ixT (by omega) (by omega)
        refine Ok.pos im (Ok.pos im ?_)
        refine Ok.bind (sr_isOff H) (fun q hq => ?_)
        rw [hq.1]
        refine Ok.eq (fun c2 => ?_) (fun _ => Ok.ret one_by)
        have y := hq.2 (by omega)
        refine ih.2 l1 (8 * hi h 226 19) a (by omega) (fun k hk => ?_) (by omega) (by omega) (by omega)
        by_cases z : (k : Int) < l1.toInt - 5 * s
        · exact c k z
        · rw [show 5 * s + k = Int32.toNatClampNeg l1 by omega]
          exact y
    · intro l1 l2 a b c d e f
      have n1 := ncT (show 0 ≤ l1.toInt by omega)
      have n2 := ncT (show 0 ≤ l2.toInt by omega)
      have a1 := adT l1 1 (by omega) (by omega)
      have a2 := adT l2 1 (by omega) (by omega)
      rw [u_X12_isBeyond]
      refine Ok.neg (by decide) (Ok.neg (by decide) (Ok.neg (by decide) (Ok.pos rfl ?_)))
      refine Ok.pos i1 ?_
      rw [i2]
      refine Ok.le (fun c1 => ?_) (fun c1 => ?_)
      · exact ih.1 (l1 + 1) (by omega) (by omega) (fun k hk => c k (by omega)) (by omega)
      · have im : ixOK l1 10 = true := ixT (by omega) (by omega)
        have im2 : ixOK l2 16 = true := ixT (by omega) (by omega)
        have go : Ok (W_X12_isBeyond n 168 h l1 (l2 + 1)) (byP s h) := ih.2 l1 (l2 + 1) a b c (by omega) (by omega) (by omega)
        refine Ok.pos im2 (Ok.pos im ?_)
        refine Ok.ite (fun _ => ?_) (fun _ => go)
        refine Ok.pos im2 (Ok.pos im ?_)
        exact Ok.ite (fun _ => Ok.ret one_by) (fun _ => go)
end BY
