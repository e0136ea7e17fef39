/-! READING: one TELL -/
section ON
variable {s : Nat} {hC h : Hp}
theorem jR.w35 (j : jR s hC h) {a : Nat} {v : Int32} (ha : a = 235 ∨ a = 236) (ok : (hi h 226 13).toInt = 0 → (hi h 226 15).toInt = 0 → 2 ≤ v.toInt ∧ v.toInt ≤ 5) : jR s hC (wrI h a s v) := by
  refine j.w (by omega) (by omega) (by omega) (by unfold frB; omega) (j.1.2.2.2.1.w (by omega) (by omega) (by omega) (by omega)) (fun z1 z2 w => ?_)
  have r (a' k' : Nat) (q : ¬ (a' = a ∧ k' = s)) : hi (wrI h a s v) a' k' = hi h a' k' := by rw [hi_wrI, if_neg q]
  have e : hi (wrI h a s v) a s = v := by rw [hi_wrI, if_pos ⟨rfl, rfl⟩]
  obtain ⟨w1, w2, w3, w4, w5⟩ := w
  have ok := ok z1 z2
  unfold vlO
  rw [r 237 s (by omega), r 242 s (by omega), r 245 s (by omega)]
  refine ⟨?_, ?_, fun k' hk => ?_, fun k' hk => ?_, fun k' hk => ?_⟩
  · rcases ha with rfl | rfl
    · rw [e]; exact ok
    · rw [r 235 s (by omega)]; exact w1
  · rcases ha with rfl | rfl
    · rw [r 236 s (by omega)]; exact w2
    · rw [e]; exact ok
  · rw [r 238 _ (by omega), r 239 _ (by omega), r 240 _ (by omega), r 241 _ (by omega)]
    exact w3 k' hk
  · rw [r 243 _ (by omega), r 244 _ (by omega)]
    exact w4 k' hk
  · rw [r 246 _ (by omega), r 247 _ (by omega)]
    exact w5 k' hk
theorem jR.w48 (j : jR s hC h) {a : Nat} {v : Int32} (ha : a = 248 ∨ a = 249) : jR s hC (wrI h a s v) := by
  refine j.w (by omega) (by omega) (by omega) (by unfold frB; omega) (j.1.2.2.2.1.w (by omega) (by omega) (by omega) (by omega)) (fun z1 z2 w => ?_)
  exact w.cg (fun a' k h1 h2 => by rw [hi_wrI, if_neg (by omega)])
set_option maxRecDepth 100000 in
set_option maxHeartbeats 8000000 in
theorem sr_one {n : Nat} (hn : 5000 ≤ n) (hs : s ≤ 1) (j : jR s hC h) (fz : (hi h 226 13).toInt = 0) (kd : 0 ≤ (hi h 229 (Int32.toNatClampNeg (hi h 226 11))).toInt) : Ok (F_X12_tellOne n h) (fun q => jR s hC q ∧ ((hi q 226 13).toInt = 0 → (hi h 226 11).toInt + 1 ≤ (hi q 226 11).toInt)) := by
  have t := j.1.2.2.1
  have t1 := t.1
  have f0 := lit_0
  have cn := j.1.2.2.2.1
  have cn1 := cn.1
  have cn2 := cn.2.1
  have cn4 := cn.2.2.2
  have ac := (j.2 fz).2.2.2.1
  obtain ⟨i1, i2⟩ := j.side hs
  have im : ixOK (hi h 226 11) 403 = true := ixT (by omega) (by omega)
  have TL : Ok (if ixOK (hi h 226 11) 403 = true then (if (((hi h 229 (Int32.toNatClampNeg (hi h 226 11))) - 24) : Int32) < 0 then ((F_X12_fail n h 1).bind (fun q37 => (if ((hi q37 226 13) : Int32) ≤ 0 then ((F_X12_goesOn n q37).bind (fun q40 => ((F_X12_tellLaw n q40 ((hi h 229 (Int32.toNatClampNeg (hi h 226 11))) - 24)).bind (fun q42 => some q42)))) else some q37))) else (if ixOK (hi h 226 11) 403 = true then (if ((hi h 229 (Int32.toNatClampNeg (hi h 226 11))) : Int32) ≤ (27 : Int32) then (if ((hi h 226 13) : Int32) ≤ 0 then ((F_X12_goesOn n h).bind (fun q47 => ((F_X12_tellLaw n q47 ((hi h 229 (Int32.toNatClampNeg (hi h 226 11))) - 24)).bind (fun q49 => some q49)))) else some h) else ((F_X12_fail n h 1).bind (fun q51 => (if ((hi q51 226 13) : Int32) ≤ 0 then ((F_X12_goesOn n q51).bind (fun q54 => ((F_X12_tellLaw n q54 ((hi h 229 (Int32.toNatClampNeg (hi h 226 11))) - 24)).bind (fun q56 => some q56)))) else some q51)))) else none)) else none) (fun q => jR s hC q ∧ ((hi q 226 13).toInt = 0 → (hi h 226 11).toInt + 1 ≤ (hi q 226 11).toInt)) := by
    have f24 : (24 : Int32).toInt = 24 := by decide
    have f27 : (27 : Int32).toInt = 27 := by decide
    generalize ey : (hi h 229 (Int32.toNatClampNeg (hi h 226 11)) - 24 : Int32) = y
    have rk := rgT (hi h 229 (Int32.toNatClampNeg (hi h 226 11)))
    have fy := sbG ey rfl f24 (by omega) (by omega)
    have bad : Ok ((F_X12_fail n h 1).bind (fun q37 => (if ((hi q37 226 13) : Int32) ≤ 0 then ((F_X12_goesOn n q37).bind (fun q40 => ((F_X12_tellLaw n q40 y).bind (fun q42 => some q42)))) else some q37))) (fun q => jR s hC q ∧ ((hi q 226 13).toInt = 0 → (hi h 226 11).toInt + 1 ≤ (hi q 226 11).toInt)) := by
      refine Ok.bind (sr_fail t (by decide)) (fun q hq => ?_)
      refine Ok.le (fun c => ?_) (fun _ => Ok.ret ⟨j.p hq.1, fun z => absurd z hq.2.1⟩)
      have := hq.1.2.2.1.2.1
      exact absurd (show (hi q 226 13).toInt = 0 by omega) hq.2.1
    refine Ok.pos im ?_
    refine Ok.lt (fun _ => bad) (fun c1 => ?_)
    refine Ok.pos im ?_
    refine Ok.le (fun c2 => ?_) (fun _ => bad)
    refine Ok.le (fun _ => ?_) (fun c3 => by omega)
    refine Ok.bind (sr_goesOn t) (fun q hq => ?_)
    have jq := j.p hq.1
    have q39 : hi q 226 39 = hi h 226 39 := hq.1.1 226 39 (by decide)
    refine Ok.bind (sr_law (by omega) hs jq.l (x1 := y) (by omega) (by omega) (by rw [q39]; omega) (fun z => by have := (hq.2 z).2; rw [q39]; omega)) (fun r hr => ?_)
    refine Ok.ret ⟨hr.1, fun z => ?_⟩
    have := (hq.2 (hr.2.2 z)).2
    have := hr.2.1
    omega
  unfold F_X12_tellOne
  refine Ok.pos im ?_
  refine Ok.ite (fun _ => ?_) (fun _ => ?_)
  · refine Ok.bind (sr_goesOn t) (fun q3 hq3 => ?_)
    have j3 := j.p hq3.1
    refine Ok.bind (sr_bounded j3.1.2.2.1) (fun q5 hq5 => ?_)
    have j5 := j3.p hq5.1
    obtain ⟨k1, k2⟩ := j3.side hs
    refine Ok.pos k1 ?_
    rw [k2]
    have f2 := lit_2
    have f5 := lit_5
    have j6 : jR s hC (wrI q5.2 235 s q5.1) := j5.w35 (Or.inl rfl) (fun z1 z2 => by have := (hq5.2 z1).2.2 z2; omega)
    generalize eg6 : wrI q5.2 235 s q5.1 = g6 at j6
    refine Ok.bind (sr_bounded j6.1.2.2.1) (fun q8 hq8 => ?_)
    have j8 := j6.p hq8.1
    obtain ⟨k3, k4⟩ := j6.side hs
    refine Ok.pos k3 ?_
    rw [k4]
    have j9 : jR s hC (wrI q8.2 236 s q8.1) := j8.w35 (Or.inr rfl) (fun z1 z2 => by have := (hq8.2 z1).2.2 z2; omega)
    generalize eg9 : wrI q8.2 236 s q8.1 = g9 at j9
    refine Ok.bind (sr_must j9.1.2.2.1) (fun q hq => ?_)
    have g6s (z : Nat) : hi g6 226 z = hi q5.2 226 z := hiA eg6 226 z (by decide)
    have g9s (z : Nat) : hi g9 226 z = hi q8.2 226 z := hiA eg9 226 z (by decide)
    refine Ok.ret ⟨j9.p hq.1, fun z => ?_⟩
    have y1 := hq.2 z
    rw [g9s, g9s] at y1
    have y2 := hq8.2 y1.1
    rw [g6s, g6s] at y2
    have y3 := hq5.2 y2.1
    have y4 := hq3.2 y3.1
    omega
  refine Ok.ite (fun _ => ?_) (fun _ => ?_)
  · refine Ok.pos i1 ?_
    rw [i2]
    have f8 := lit_8
    refine Ok.bind (sr_room t) (fun q hq => ?_)
    have jq := j.p hq.1
    refine Ok.eq (fun c => ?_) (fun c => Ok.ret ⟨jq, fun z => by omega⟩)
    have y := hq.2 (by omega)
    have r : hi q 237 s = hi h 237 s := hq.1.1 237 s (pK226 (by decide))
    refine Ok.bind (sr_tune hs jq (by rw [r]; omega)) (fun u hu => ?_)
    exact Ok.ret ⟨hu.1, fun z => by have := hu.2.1; omega⟩
  refine Ok.ite (fun _ => ?_) (fun _ => ?_)
  · refine Ok.pos i1 ?_
    rw [i2]
    have f8 := lit_5
    refine Ok.bind (sr_room t) (fun q hq => ?_)
    have jq := j.p hq.1
    refine Ok.eq (fun c => ?_) (fun c => Ok.ret ⟨jq, fun z => by omega⟩)
    have y := hq.2 (by omega)
    have r : hi q 242 s = hi h 242 s := hq.1.1 242 s (pK226 (by decide))
    refine Ok.bind (sr_goer (by omega) hs jq (by rw [r]; omega)) (fun u hu => ?_)
    exact Ok.ret ⟨hu.1, fun z => by have := hu.2.1; omega⟩
  refine Ok.ite (fun _ => ?_) (fun _ => ?_)
  · refine Ok.pos i1 ?_
    rw [i2]
    have f8 := lit_8
    refine Ok.bind (sr_room t) (fun q hq => ?_)
    have jq := j.p hq.1
    refine Ok.eq (fun c => ?_) (fun c => Ok.ret ⟨jq, fun z => by omega⟩)
    have y := hq.2 (by omega)
    have r : hi q 245 s = hi h 245 s := hq.1.1 245 s (pK226 (by decide))
    refine Ok.bind (sr_rope hs jq (by rw [r]; omega)) (fun u hu => ?_)
    exact Ok.ret ⟨hu.1, fun z => by have := hu.2.1; omega⟩
  refine Ok.ite (fun _ => TL) (fun _ => ?_)
  refine Ok.ite (fun _ => TL) (fun _ => ?_)
  refine Ok.ite (fun _ => TL) (fun _ => ?_)
  refine Ok.ite (fun _ => TL) (fun _ => ?_)
  have two (a : Nat) (ha : a = 248 ∨ a = 249) (y : Int32) : Ok ((F_X12_goesOn n h).bind (fun q131 => ((F_X12_bounded n q131 0 y).bind (fun q133 => (if ixOK (hi q131 226 19) 2 = true then ((F_X12_must n (wrI q133.2 a (Int32.toNatClampNeg (hi q131 226 19)) q133.1) 4).bind (fun q136 => some q136)) else none))))) (fun q => jR s hC q ∧ ((hi q 226 13).toInt = 0 → (hi h 226 11).toInt + 1 ≤ (hi q 226 11).toInt)) := by
    refine Ok.bind (sr_goesOn t) (fun q3 hq3 => ?_)
    have j3 := j.p hq3.1
    refine Ok.bind (sr_bounded j3.1.2.2.1) (fun q5 hq5 => ?_)
    have j5 := j3.p hq5.1
    obtain ⟨k1, k2⟩ := j3.side hs
    refine Ok.pos k1 ?_
    rw [k2]
    have j6 : jR s hC (wrI q5.2 a s q5.1) := j5.w48 ha
    generalize eg6 : wrI q5.2 a s q5.1 = g6 at j6
    have g6s (z : Nat) : hi g6 226 z = hi q5.2 226 z := hiA eg6 226 z (by omega)
    refine Ok.bind (sr_must j6.1.2.2.1) (fun q hq => ?_)
    refine Ok.ret ⟨j6.p hq.1, fun z => ?_⟩
    have y1 := hq.2 z
    rw [g6s, g6s] at y1
    have y3 := hq5.2 y1.1
    have y4 := hq3.2 y3.1
    omega
  refine Ok.ite (fun _ => two 248 (Or.inl rfl) 100) (fun _ => ?_)
  exact Ok.ite (fun _ => two 249 (Or.inr rfl) 9999) (fun _ => TL)
end ON
