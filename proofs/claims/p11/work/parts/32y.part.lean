theorem sf_X12_part {h0 : Hp} (s0 : rS h0) (n : Nat) (h : Hp) (x1 x2 : Int32) (hn : 51539607552 ≤ n) (j : jA h0 h) : Ok (F_X12_part n h x1 x2) (fun q => jA h0 q.2 ∧ True) := by
  have f0 := cnR s0
  have f1 := lit_0
  unfold F_X12_part
  refine Ok.bind (sb_areFree s0 n h x1 x2 (by omega) j) (fun q26 hq26 => ?_)
  obtain ⟨e26, y26⟩ := hq26
  rw [e26]
  refine Ok.eq (fun _ => Ok.ret ⟨j, trivial⟩) (fun c1 => ?_)
  obtain ⟨a1, a2, a3, a4, a5⟩ := y26 (by omega)
  refine Ok.bind (sf_X12_copies s0 n h (by omega) j) (fun q29 hq29 => ?_)
  obtain ⟨j29, y29⟩ := hq29
  have b1 : bt (hi q29 263 50) (Int32.toNatClampNeg x1) = false := by
    rw [y29 50 (by decide)]
    exact a5
  refine Ok.bind (sa_X12_nearBits s0 n q29 _ (by omega) j29) (fun q31 hq31 => ?_)
  rw [hq31.1]
  refine Ok.ite (fun _ => Ok.ret ⟨j29, trivial⟩) (fun _ => ?_)
  refine Ok.bind (sa_X12_isParted s0 n q29 x1 x2 0 (by omega) j29 a1 a2 b1 (bt_zero _)) (fun q34 hq34 => ?_)
  rw [hq34.1]
  refine Ok.ite (fun _ => ?_) (fun _ => Ok.ret ⟨j29, trivial⟩)
  have f4 := lit_0
  refine (sfW_X12_part_50 s0 n q29 x1 x2 4 0 0 0 j29 a1 a2 b1 (by omega) (by omega) (by omega) (by omega)).mono (fun q hq => ⟨?_, trivial⟩)
  rw [hq.1]
  exact j29
