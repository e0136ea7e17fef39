/-! READING: is anything beyond the lawn, the rest -/
section BZ
variable {s : Nat} {h : Hp}
theorem by64 (H : sdH s h) (ot : offT s h (hi h 237 s).toInt) : ∀ n : Nat, ∀ l1 : Int32, 8 * (s : Int) ≤ l1.toInt → l1.toInt ≤ 8 * s + 8 → (500 : Int) + (17 - l1.toInt) < n → Ok (W_X12_isBeyond n 64 h l1 0) (byP s h) := by
  obtain ⟨i1, i2⟩ := H.ix
  obtain ⟨hs, h19, c37, c42, c20, c45⟩ := id H
  have f5 := lit_5
  have f8 := lit_8
  have f1 := lit_1
  have f0 := lit_0
  have a5 := mlT 5 (hi h 226 19) 5 lit_5 (by omega) (by omega)
  have a8 := mlT 8 (hi h 226 19) 8 lit_8 (by omega) (by omega)
  have b8 := adT (8 * hi h 226 19) (hi h 245 s) (by omega) (by omega)
  intro n
  induction n with
  | zero => intro l1 a b c; exfalso; omega
  | succ n ih =>
    intro l1 a b c
    have n1 := ncT (show 0 ≤ l1.toInt by omega)
    have a1 := adT l1 1 (by omega) (by omega)
    rw [u_X12_isBeyond]
    refine Ok.neg (by decide) (Ok.pos rfl ?_)
    refine Ok.pos i1 ?_
    rw [i2]
    refine Ok.le (fun c1 => ?_) (fun c1 => ?_)
    · exact (by119 H ot n).1 (5 * hi h 226 19) (by omega) (by omega) (fun k hk => by omega) (by omega)
    · have im : ixOK l1 16 = true := ixT (by omega) (by omega)
      refine Ok.pos im (Ok.pos im ?_)
      refine Ok.bind (sr_isOff H) (fun q hq => ?_)
      rw [hq.1]
      exact Ok.ite (fun _ => ih (l1 + 1) (by omega) (by omega) (by omega)) (fun _ => Ok.ret one_by)
theorem by8 (H : sdH s h) : ∀ n : Nat, ∀ l1 : Int32, 8 * (s : Int) ≤ l1.toInt → l1.toInt ≤ 8 * s + 8 → offT s h (l1.toInt - 8 * s) → (600 : Int) + (17 - l1.toInt) < n → Ok (W_X12_isBeyond n 8 h l1 0) (byP s h) := by
  obtain ⟨i1, i2⟩ := H.ix
  obtain ⟨hs, h19, c37, c42, c20, c45⟩ := id H
  have f8 := lit_8
  have f1 := lit_1
  have f0 := lit_0
  have a8 := mlT 8 (hi h 226 19) 8 lit_8 (by omega) (by omega)
  have b8 := adT (8 * hi h 226 19) (hi h 237 s) (by omega) (by omega)
  intro n
  induction n with
  | zero => intro l1 a b o c; exfalso; omega
  | succ n ih =>
    intro l1 a b o c
    have n1 := ncT (show 0 ≤ l1.toInt by omega)
    have a1 := adT l1 1 (by omega) (by omega)
    rw [u_X12_isBeyond]
    refine Ok.pos rfl ?_
    refine Ok.pos i1 ?_
    rw [i2]
    refine Ok.le (fun c1 => ?_) (fun c1 => ?_)
    · exact by64 H (fun k hk => o k (by omega)) n (8 * hi h 226 19) (by omega) (by omega) (by omega)
    · have im : ixOK l1 16 = true := ixT (by omega) (by omega)
      refine Ok.pos im (Ok.pos im ?_)
      refine Ok.bind (sr_isOff H) (fun q hq => ?_)
      rw [hq.1]
      refine Ok.eq (fun c2 => ?_) (fun _ => Ok.ret one_by)
      have y := hq.2 (by omega)
      refine ih (l1 + 1) (by omega) (by omega) (fun k hk => ?_) (by omega)
      by_cases z : (k : Int) < l1.toInt - 8 * s
      · exact o k z
      · rw [show 8 * s + k = Int32.toNatClampNeg l1 by omega]
        exact y
theorem sf_X12_isBeyond {n : Nat} (hn : 1000 ≤ n) (H : sdH s h) : Ok (F_X12_isBeyond n h) (byP s h) := by
  obtain ⟨hs, h19, -⟩ := id H
  have f8 := lit_8
  have a8 := mlT 8 (hi h 226 19) 8 lit_8 (by omega) (by omega)
  unfold F_X12_isBeyond
  exact by8 H n (8 * hi h 226 19) (by omega) (by omega) (fun k hk => by omega) (by omega)
end BZ
