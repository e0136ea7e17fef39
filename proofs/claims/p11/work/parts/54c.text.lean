/-! A WHOLE TEXT: the reference, as far as its end -/
section RW
variable {N : Nat} {kd pl vl : Nat → Int} {s : Nat}
theorem vd_rk (X : TX N kd pl vl) {t : Nat} (T : tI2 N t) {k : Int} (hk : k ∈ vdL) (e : rk (kd t) = rk k) : kd t = k := rk_inj _ (vdT X T) k hk e
set_option maxHeartbeats 4000000 in
theorem yt_tell (X : TX N kd pl vl) (hs : s ≤ 1) {n t B c : Nat} {h : Hp} (a : rX N kd pl vl s t B c h) {T : TT} (d : rD s T B c h) (ne : kd t ≠ 32) : Pc (F_X12_tellOne n h) (fun q => ZR q → rTell N kd pl vl s T t q) := by
  have f0 := lit_0
  have f1 := lit_1
  have f5 := lit_5
  have f8 := lit_8
  have l20 := lit_20
  have l21 := lit_21
  have l22 := lit_22
  have l23 := lit_23
  have l24 := lit_24
  have l25 := lit_25
  have l26 := lit_26
  have l27 := lit_27
  have l28 := lit_28
  have l29 := lit_29
  have k9 : rk 9 = 20 := by decide
  have k10 : rk 10 = 21 := by decide
  have k11 : rk 11 = 22 := by decide
  have k12 : rk 12 = 23 := by decide
  have k13 : rk 13 = 24 := by decide
  have k14 : rk 14 = 25 := by decide
  have k15 : rk 15 = 26 := by decide
  have k16 : rk 16 = 27 := by decide
  have k17 : rk 17 = 28 := by decide
  have k18 : rk 18 = 29 := by decide
  have S1 := a.1.1.2.2.1
  have st11 := S1.2.2.1 rfl
  have s13 := S1.2.1
  have n1 := ncT (show 0 ≤ (hi h 226 11).toInt by omega)
  have n2 : Int32.toNatClampNeg (hi h 226 11) = t := by omega
  have rt := (a.1.1.1 t a.1.1.2.1).1
  have fail {K : Hp → Option Hp} (hK : ∀ q, Pc (K q) (fun r => zr q r)) : Pc ((F_X12_fail n h 1).bind K) (fun q => ZR q → rTell N kd pl vl s T t q) := by
    refine Pc.bind (pr_fail a.1.1.1 a.1.1.2.1 S1 (by decide)) (fun q hq => ?_)
    have s5 := hq.2
    rw [if_pos rfl, f1] at s5
    refine (hK q).mono (fun r m z => ?_)
    have := (m.1 z).1
    have := s5.2.1
    exfalso; omega
  have ch (q : Hp) {x : Int32} : Pc (if ((hi q 226 13) : Int32) ≤ (0 : Int32) then ((F_X12_goesOn n q).bind (fun q54 => ((F_X12_tellLaw n q54 x).bind (fun q56 => some q56)))) else some q) (fun r => zr q r) := by
    refine Pc.ite (fun _ => ?_) (fun _ => Pc.ret (zr.rf _))
    refine Pc.yb zb_X12_goesOn (fun _ => ?_)
    exact Pc.yb zb_X12_tellLaw (fun _ => Pc.ret (zr.rf _))
  -- a law
  have law (k : Nat) (k4 : k < 4) (hk : kd t = 13 + (k : Int)) (ev : (hi h 229 t).toInt = 24 + (k : Int)) : Pc (if ixOK (hi h 226 11) 403 = true then (if ((hi h 229 t) - 24 : Int32) < 0 then ((F_X12_fail n h 1).bind (fun q37 => (if ((hi q37 226 13) : Int32) ≤ (0 : Int32) then ((F_X12_goesOn n q37).bind (fun q40 => ((F_X12_tellLaw n q40 ((hi h 229 t) - 24)).bind (fun q42 => some q42)))) else some q37))) else (if ixOK (hi h 226 11) 403 = true then (if (hi h 229 t) ≤ (27 : Int32) then (if ((hi h 226 13) : Int32) ≤ (0 : Int32) then ((F_X12_goesOn n h).bind (fun q47 => ((F_X12_tellLaw n q47 ((hi h 229 t) - 24)).bind (fun q49 => some q49)))) else some h) else ((F_X12_fail n h 1).bind (fun q51 => (if ((hi q51 226 13) : Int32) ≤ (0 : Int32) then ((F_X12_goesOn n q51).bind (fun q54 => ((F_X12_tellLaw n q54 ((hi h 229 t) - 24)).bind (fun q56 => some q56)))) else some q51)))) else none)) else none) (fun q => ZR q → rTell N kd pl vl s T t q) := by
    refine Pc.chk (fun _ => ?_)
    have sb := sbV (hi h 229 t) 24 ev l24 (by omega) (by omega)
    generalize (hi h 229 t) - 24 = x at sb ⊢
    refine Pc.lt (fun y => by exfalso; omega) (fun _ => Pc.chk (fun _ => ?_))
    refine Pc.le (fun _ => ?_) (fun y => by exfalso; omega)
    refine Pc.le (fun _ => ?_) (fun y => by exfalso; omega)
    exact yt_law X a d hs k4 hk (by omega)
  unfold F_X12_tellOne
  rw [n2, side_n a]
  refine Pc.chk (fun _ => ?_)
  refine Pc.eq (fun e => ?_) (fun e9 => ?_)
  · exact yt_lawn X a d (vd_rk X a.1.1.2.1 (by decide) (by omega))
  refine Pc.eq (fun e => ?_) (fun e10 => ?_)
  · have hk := vd_rk X a.1.1.2.1 (k := 10) (by decide) (by omega)
    refine Pc.chk (fun _ => ?_)
    refine Pc.yt (yz_room X a ne) (fun q15 z b => ?_) (fun q => ?_)
    · obtain ⟨b1, b2, b3, b4⟩ := b
      refine Pc.eq (fun _ => ?_) (fun y => absurd (z.1.trans f0.symm) y)
      have := d.1.2.1.1
      have := d.2.2.1
      exact Pc.bind (yt_tune X a d (by omega) hs b1 b2 hk) (fun q18 hq => Pc.ret hq)
    · refine Pc.ite (fun _ => ?_) (fun _ => Pc.ret (zr.rf _))
      exact Pc.yb zb_X12_tellTune (fun _ => Pc.ret (zr.rf _))
  refine Pc.eq (fun e => ?_) (fun e11 => ?_)
  · have hk := vd_rk X a.1.1.2.1 (k := 11) (by decide) (by omega)
    refine Pc.chk (fun _ => ?_)
    refine Pc.yt (yz_room X a ne) (fun q15 z b => ?_) (fun q => ?_)
    · obtain ⟨b1, b2, b3, b4⟩ := b
      refine Pc.eq (fun _ => ?_) (fun y => absurd (z.1.trans f0.symm) y)
      have := d.1.2.2.1.1
      have := d.2.2.2.1
      exact Pc.bind (yt_goer X a d (by omega) hs b1 b2 hk) (fun q18 hq => Pc.ret hq)
    · refine Pc.ite (fun _ => ?_) (fun _ => Pc.ret (zr.rf _))
      exact Pc.yb zb_X12_tellGoer (fun _ => Pc.ret (zr.rf _))
  refine Pc.eq (fun e => ?_) (fun e12 => ?_)
  · have hk := vd_rk X a.1.1.2.1 (k := 12) (by decide) (by omega)
    refine Pc.chk (fun _ => ?_)
    refine Pc.yt (yz_room X a ne) (fun q15 z b => ?_) (fun q => ?_)
    · obtain ⟨b1, b2, b3, b4⟩ := b
      refine Pc.eq (fun _ => ?_) (fun y => absurd (z.1.trans f0.symm) y)
      have := d.1.2.2.2.1.1
      have := d.2.2.2.2
      exact Pc.bind (yt_rope X a d (by omega) hs b1 b2 hk) (fun q18 hq => Pc.ret hq)
    · refine Pc.ite (fun _ => ?_) (fun _ => Pc.ret (zr.rf _))
      exact Pc.yb zb_X12_tellRope (fun _ => Pc.ret (zr.rf _))
  refine Pc.eq (fun e => ?_) (fun e13 => ?_)
  · have hk := vd_rk X a.1.1.2.1 (k := 13) (by decide) (by omega)
    exact law 0 (by decide) (by omega) (by omega)
  refine Pc.eq (fun e => ?_) (fun e14 => ?_)
  · have hk := vd_rk X a.1.1.2.1 (k := 14) (by decide) (by omega)
    exact law 1 (by decide) (by omega) (by omega)
  refine Pc.eq (fun e => ?_) (fun e15 => ?_)
  · have hk := vd_rk X a.1.1.2.1 (k := 15) (by decide) (by omega)
    exact law 2 (by decide) (by omega) (by omega)
  refine Pc.eq (fun e => ?_) (fun e16 => ?_)
  · have hk := vd_rk X a.1.1.2.1 (k := 16) (by decide) (by omega)
    exact law 3 (by decide) (by omega) (by omega)
  refine Pc.eq (fun e => ?_) (fun e17 => ?_)
  · have hk := vd_rk X a.1.1.2.1 (k := 17) (by decide) (by omega)
    exact yt_one X a d 17 hk (Or.inl ⟨rfl, rfl⟩)
  refine Pc.eq (fun e => ?_) (fun e18 => ?_)
  · have hk := vd_rk X a.1.1.2.1 (k := 18) (by decide) (by omega)
    exact yt_one X a d 18 hk (Or.inr ⟨rfl, rfl⟩)
  -- no statement
  refine Pc.chk (fun _ => Pc.ite (fun _ => fail (fun q => ch q)) (fun y => Pc.chk (fun _ => ?_)))
  refine Pc.le (fun y2 => ?_) (fun _ => fail (fun q => ch q))
  exfalso
  have rv := rgT (hi h 229 t)
  generalize es : (hi h 229 t - 24 : Int32) = x at y
  have y' : 0 ≤ x.toInt := Int.not_lt.mp (fun z => y (Int32.lt_iff_toInt_lt.mpr (by omega)))
  by_cases lo : 24 ≤ (hi h 229 t).toInt
  · omega
  · by_cases lo2 : -2147483624 ≤ (hi h 229 t).toInt
    · have sb := sbG es rfl l24 (by omega) (by omega)
      omega
    · have := (rk_not _ (vdT X a.1.1.2.1)).2
      omega
end RW
