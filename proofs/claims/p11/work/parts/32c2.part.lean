/-! PART, the whole of it -/
theorem sb_areFree {h0 : Hp} (s0 : rS h0) (n : Nat) (h : Hp) (x1 x2 : Int32) (hn : 1 ≤ n) (j : jA h0 h) : Ok (F_X12_areFree n h x1 x2) (fun q => q.2 = h ∧ (q.1.toInt ≠ 0 → 0 ≤ x1.toInt ∧ x1.toInt < cnN h0 ∧ 0 ≤ x2.toInt ∧ x2.toInt < cnN h0 ∧ bt (hi h0 262 50) (Int32.toNatClampNeg x1) = false)) := by
  have f0 := cnR s0
  have f1 := lit_0
  unfold F_X12_areFree
  refine Ok.bind (sa_X12_isCell s0 n h x1 hn j) (fun q1 hq1 => ?_)
  obtain ⟨e1, y1⟩ := hq1
  rw [e1]
  refine Ok.eq (fun _ => Ok.ret ⟨rfl, fun q => absurd rfl q⟩) (fun c1 => ?_)
  have c2 := y1.2.2 (by omega)
  refine Ok.bind (sa_X12_isCell s0 n h x2 hn j) (fun q4 hq4 => ?_)
  obtain ⟨e4, y4⟩ := hq4
  rw [e4]
  refine Ok.eq (fun _ => Ok.ret ⟨rfl, fun q => absurd rfl q⟩) (fun c3 => ?_)
  have c4 := y4.2.2 (by omega)
  have k1 : hi h 262 50 = hi h0 262 50 := j.1 262 50 (by decide)
  rw [k1]
  refine Ok.eq (fun c5 => ?_) (fun _ => Ok.ret ⟨rfl, fun q => absurd rfl q⟩)
  refine Ok.ite (fun _ => Ok.ret ⟨rfl, fun _ => ⟨c2.1, c2.2, c4.1, c4.2, ?_⟩⟩) (fun _ => Ok.ret ⟨rfl, fun q => absurd rfl q⟩)
  rw [lit_0] at c5
  exact (btS0 _ c2.1 (by omega)).mp c5
theorem sa_X12_isParted {h0 : Hp} (s0 : rS h0) (n : Nat) (h : Hp) (x1 x2 x3 : Int32) (hn : 17179869184 ≤ n) (j : jA h0 h) (p0 : 0 ≤ x1.toInt) (p1 : x1.toInt < cnN h0) (p2 : bt (hi h 263 50) (Int32.toNatClampNeg x1) = false) (p3 : bt x3 (Int32.toNatClampNeg x1) = false) : Ok (F_X12_isParted n h x1 x2 x3) (fun q => q.2 = h ∧ True) := by
  have e1 := j.ks.cn
  exact sf_X12_isParted (h0 := h) (j.ks.st s0) j.r0 n h x1 x2 x3 hn (jD.rf h) p0 (by omega) p2 p3
