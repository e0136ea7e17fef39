/-! THE REFERENCE: bytes, one TOKEN laid down -/
def SR (bs : Nat → Int) (m : Nat) (h : Hp) : Prop := (hi h 226 4).toInt = (m : Int) ∧ ∀ i, i < m → ((vp_nar .byte (hi h 228 i) : Int32) &&& 255).toInt = bs i
def KY (h : Hp) : Prop := ∀ k, k < 22 → (hl h 233 k).toInt = kyN k
/-- a sign's kind -/
def sgK (c : Int) : Int := if c = 59 then 4 else if c = 61 then 5 else if c = 40 then 6 else if c = 41 then 7 else if c = 43 then 8 else if c = 45 then 9 else if c = 42 then 10 else if c = 47 then 15 else if c = 60 then 13 else 3
def RLk (v r : Int) : Prop := (∃ k : Nat, k < 22 ∧ r = 20 + (k : Int) ∧ v = kyN k) ∨ (r = 1 ∧ ∀ j, j < 22 → v ≠ kyN j)
def TkR (bs : Nat → Int) (i e : Nat) (kd v nm : Int) : Prop := (isLt (bs i) ∧ ((i + 8 < e ∧ kd = 3) ∨ (e ≤ i + 8 ∧ RLk (wnR 27 96 bs i (e - i)) kd ∧ nm = wnR 27 96 bs i (e - i)))) ∨ (isDg (bs i) ∧ ((i + 4 < e ∧ kd = 3) ∨ (e ≤ i + 4 ∧ kd = 2 ∧ v = wnR 10 48 bs i (e - i)))) ∨ (¬ isLt (bs i) ∧ ¬ isDg (bs i) ∧ kd = sgK (bs i))
/-- one more TOKEN -/
def KR (h h' : Hp) (x1 x2 x3 : Int32) (x4 : Int64) : Prop := (∀ a k, a ≠ 229 → a ≠ 230 → a ≠ 231 → ¬ (a = 226 ∧ k = 10) → hi h' a k = hi h a k) ∧ (∀ a k, a ≠ 232 → hl h' a k = hl h a k) ∧ hi h' 226 10 = hi h 226 10 + 1 ∧ (∀ k, hi h' 229 k = if k = Int32.toNatClampNeg (hi h 226 10) then x1 else hi h 229 k) ∧ (∀ k, hi h' 230 k = if k = Int32.toNatClampNeg (hi h 226 10) then x2 else hi h 230 k) ∧ (∀ k, hi h' 231 k = if k = Int32.toNatClampNeg (hi h 226 10) then x3 else hi h 231 k) ∧ (∀ k, hl h' 232 k = if k = Int32.toNatClampNeg (hi h 226 10) then x4 else hl h 232 k)
section RX
variable {bs : Nat → Int} {m : Nat} {h : Hp}
theorem pc_byteAt {n : Nat} {x1 : Int32} (B : BS bs m) (S : SR bs m h) : Pc (F_X12_byteAt n h x1) (fun q => q.2 = h ∧ ∀ i : Nat, x1.toInt = (i : Int) → q.1.toInt = bs i) := by
  have f0 := lit_0
  obtain ⟨s1, s2⟩ := S
  obtain ⟨b1, b2, b3⟩ := B
  unfold F_X12_byteAt
  refine Pc.le (fun c2 => Pc.ret ⟨rfl, fun i e => ?_⟩) (fun c2 => ?_)
  · rw [b2 i (by omega)]; exact f0
  · refine Pc.chk (fun c4 => Pc.ret ⟨rfl, fun i e => ?_⟩)
    have n1 := ncT (show 0 ≤ x1.toInt by omega)
    have n2 : Int32.toNatClampNeg x1 = i := by omega
    show ((vp_nar .byte (hi h 228 (Int32.toNatClampNeg x1)) : Int32) &&& 255).toInt = bs i
    rw [n2]
    exact s2 i (by omega)
theorem pr_isLetter {n : Nat} {x1 : Int32} : Pc (F_X12_isLetter n h x1) (fun q => q.2 = h ∧ (q.1.toInt ≠ 0 ↔ isLt x1.toInt)) := by
  have f0 := lit_0
  have f1 := lit_1
  have f97 := lit_97
  have f122 := lit_122
  unfold F_X12_isLetter isLt
  refine Pc.lt (fun c1 => Pc.ret ⟨rfl, ?_⟩) (fun c1 => Pc.lt (fun c2 => Pc.ret ⟨rfl, ?_⟩) (fun c2 => Pc.ret ⟨rfl, ?_⟩))
  · show (0 : Int32).toInt ≠ 0 ↔ _
    omega
  · show (0 : Int32).toInt ≠ 0 ↔ _
    omega
  · show (1 : Int32).toInt ≠ 0 ↔ _
    omega
theorem pr_isDigit {n : Nat} {x1 : Int32} : Pc (F_X12_isDigit n h x1) (fun q => q.2 = h ∧ (q.1.toInt ≠ 0 ↔ isDg x1.toInt)) := by
  have f0 := lit_0
  have f1 := lit_1
  have f48 := lit_48
  have f57 := lit_57
  unfold F_X12_isDigit isDg
  refine Pc.lt (fun c1 => Pc.ret ⟨rfl, ?_⟩) (fun c1 => Pc.lt (fun c2 => Pc.ret ⟨rfl, ?_⟩) (fun c2 => Pc.ret ⟨rfl, ?_⟩))
  · show (0 : Int32).toInt ≠ 0 ↔ _
    omega
  · show (0 : Int32).toInt ≠ 0 ↔ _
    omega
  · show (1 : Int32).toInt ≠ 0 ↔ _
    omega
theorem pr_token {n : Nat} {x1 x2 x3 : Int32} {x4 : Int64} : Pc (F_X12_token n h x1 x2 x3 x4) (fun q => KR h q x1 x2 x3 x4) := by
  unfold F_X12_token
  generalize ek : Int32.toNatClampNeg (hi h 226 10) = k
  generalize eg1 : wrI h 229 k x1 = g1
  have r1 : hi g1 226 10 = hi h 226 10 := hiA eg1 226 10 (by decide)
  rw [r1, ek]
  generalize eg2 : wrI g1 230 k x2 = g2
  have r2 : hi g2 226 10 = hi h 226 10 := (hiA eg2 226 10 (by decide)).trans r1
  rw [r2, ek]
  generalize eg3 : wrI g2 231 k x3 = g3
  have r3 : hi g3 226 10 = hi h 226 10 := (hiA eg3 226 10 (by decide)).trans r2
  rw [r3, ek]
  generalize eg4 : wrL g3 232 k x4 = g4
  have r4 : hi g4 226 10 = hi h 226 10 := (hiLL eg4 226 10).trans r3
  rw [r4]
  generalize eg5 : wrI g4 226 10 (hi h 226 10 + 1) = g5
  refine Pc.chk (fun _ => Pc.chk (fun _ => Pc.chk (fun _ => Pc.chk (fun _ => Pc.ret ?_))))
  unfold KR
  rw [ek]
  refine ⟨fun a z n1 n2 n3 n4 => ?_, fun a z n1 => ?_, hiE eg5, fun z => ?_, fun z => ?_, fun z => ?_, fun z => ?_⟩
  · rw [← eg5, hi_wrI, if_neg n4, hiLL eg4, hiA eg3 a z n3, hiA eg2 a z n2, hiA eg1 a z n1]
  · rw [← eg5, hl_wrI, ← eg4, hl_wrL, if_neg (fun w => n1 w.1), ← eg3, hl_wrI, ← eg2, hl_wrI, ← eg1, hl_wrI]
  · rw [hiA eg5 229 z (by decide), hiLL eg4, hiA eg3 229 z (by decide), hiA eg2 229 z (by decide), ← eg1, hi_wrI]
    by_cases y : z = k
    · rw [if_pos ⟨rfl, y⟩, if_pos y]
    · rw [if_neg (fun w => y w.2), if_neg y]
  · rw [hiA eg5 230 z (by decide), hiLL eg4, hiA eg3 230 z (by decide), ← eg2, hi_wrI]
    by_cases y : z = k
    · rw [if_pos ⟨rfl, y⟩, if_pos y]
    · rw [if_neg (fun w => y w.2), if_neg y, ← eg1, hi_wrI, if_neg (by omega)]
  · rw [hiA eg5 231 z (by decide), hiLL eg4, ← eg3, hi_wrI]
    by_cases y : z = k
    · rw [if_pos ⟨rfl, y⟩, if_pos y]
    · rw [if_neg (fun w => y w.2), if_neg y, ← eg2, hi_wrI, if_neg (by omega), ← eg1, hi_wrI, if_neg (by omega)]
  · rw [← eg5, hl_wrI, ← eg4, hl_wrL]
    by_cases y : z = k
    · rw [if_pos ⟨rfl, y⟩, if_pos y]
    · rw [if_neg (fun w => y w.2), if_neg y, ← eg3, hl_wrI, ← eg2, hl_wrI, ← eg1, hl_wrI]
theorem pr_sign {n : Nat} {x1 x2 x3 : Int32} : Pc (F_X12_sign n h x1 x2 x3) (fun q => q.1.toInt = 1 ∧ ∃ kd : Int32, kd.toInt = sgK x2.toInt ∧ KR h q.2 kd x1 0 0) := by
  have f1 := lit_1
  have l59 := lit_59
  have l61 := lit_61
  have l40 := lit_40
  have l41 := lit_41
  have l43 := lit_43
  have l45 := lit_45
  have l42 := lit_42
  have l47 := lit_47
  have l60 := lit_60
  have lf (c : Int32) (hc : c.toInt = sgK x2.toInt) : Pc ((F_X12_token n h c x1 0 0).bind (fun q => some ((1 : Int32), q))) (fun q => q.1.toInt = 1 ∧ ∃ kd : Int32, kd.toInt = sgK x2.toInt ∧ KR h q.2 kd x1 0 0) := Pc.bind pr_token (fun q hq => Pc.ret ⟨f1, c, hc, hq⟩)
  unfold F_X12_sign
  refine Pc.eq (fun c59 => ?_) (fun c59 => ?_)
  · refine Pc.neg (fun z => by have := congrArg Int32.toInt z; omega) ?_
    refine Pc.neg (fun z => by have := congrArg Int32.toInt z; omega) ?_
    refine Pc.neg (fun z => by have := congrArg Int32.toInt z; omega) ?_
    refine Pc.neg (fun z => by have := congrArg Int32.toInt z; omega) ?_
    refine Pc.neg (fun z => by have := congrArg Int32.toInt z; omega) ?_
    refine lf 4 ?_
    rw [show x2.toInt = 59 by omega]; decide
  · refine Pc.eq (fun c61 => ?_) (fun c61 => ?_)
    · refine Pc.neg (fun z => by have := congrArg Int32.toInt z; omega) ?_
      refine Pc.neg (fun z => by have := congrArg Int32.toInt z; omega) ?_
      refine Pc.neg (fun z => by have := congrArg Int32.toInt z; omega) ?_
      refine Pc.neg (fun z => by have := congrArg Int32.toInt z; omega) ?_
      refine Pc.neg (fun z => by have := congrArg Int32.toInt z; omega) ?_
      refine lf 5 ?_
      rw [show x2.toInt = 61 by omega]; decide
    · refine Pc.eq (fun c40 => ?_) (fun c40 => ?_)
      · refine Pc.neg (fun z => by have := congrArg Int32.toInt z; omega) ?_
        refine Pc.neg (fun z => by have := congrArg Int32.toInt z; omega) ?_
        refine Pc.neg (fun z => by have := congrArg Int32.toInt z; omega) ?_
        refine Pc.neg (fun z => by have := congrArg Int32.toInt z; omega) ?_
        refine Pc.neg (fun z => by have := congrArg Int32.toInt z; omega) ?_
        refine lf 6 ?_
        rw [show x2.toInt = 40 by omega]; decide
      · refine Pc.eq (fun c41 => ?_) (fun c41 => ?_)
        · refine Pc.neg (fun z => by have := congrArg Int32.toInt z; omega) ?_
          refine Pc.neg (fun z => by have := congrArg Int32.toInt z; omega) ?_
          refine Pc.neg (fun z => by have := congrArg Int32.toInt z; omega) ?_
          refine Pc.neg (fun z => by have := congrArg Int32.toInt z; omega) ?_
          refine Pc.neg (fun z => by have := congrArg Int32.toInt z; omega) ?_
          refine lf 7 ?_
          rw [show x2.toInt = 41 by omega]; decide
        · refine Pc.eq (fun c43 => ?_) (fun c43 => ?_)
          · refine Pc.neg (fun z => by have := congrArg Int32.toInt z; omega) ?_
            refine Pc.neg (fun z => by have := congrArg Int32.toInt z; omega) ?_
            refine Pc.neg (fun z => by have := congrArg Int32.toInt z; omega) ?_
            refine Pc.neg (fun z => by have := congrArg Int32.toInt z; omega) ?_
            refine lf 8 ?_
            rw [show x2.toInt = 43 by omega]; decide
          · refine Pc.eq (fun c45 => ?_) (fun c45 => ?_)
            · refine Pc.neg (fun z => by have := congrArg Int32.toInt z; omega) ?_
              refine Pc.neg (fun z => by have := congrArg Int32.toInt z; omega) ?_
              refine Pc.neg (fun z => by have := congrArg Int32.toInt z; omega) ?_
              refine lf 9 ?_
              rw [show x2.toInt = 45 by omega]; decide
            · refine Pc.eq (fun c42 => ?_) (fun c42 => ?_)
              · refine Pc.neg (fun z => by have := congrArg Int32.toInt z; omega) ?_
                refine Pc.neg (fun z => by have := congrArg Int32.toInt z; omega) ?_
                refine lf 10 ?_
                rw [show x2.toInt = 42 by omega]; decide
              · refine Pc.eq (fun c47 => ?_) (fun c47 => ?_)
                · refine Pc.neg (fun z => by have := congrArg Int32.toInt z; omega) ?_
                  refine lf 15 ?_
                  rw [show x2.toInt = 47 by omega]; decide
                · refine Pc.eq (fun c60 => ?_) (fun c60 => ?_)
                  · refine lf 13 ?_
                    rw [show x2.toInt = 60 by omega]; decide
                  · refine lf 3 ?_
                    unfold sgK; rw [if_neg (by omega), if_neg (by omega), if_neg (by omega), if_neg (by omega), if_neg (by omega), if_neg (by omega), if_neg (by omega), if_neg (by omega), if_neg (by omega)]; decide
end RX
