/-! WHAT BOTH HOLD: undone, held, gone on from; as both are made -/
section R56W
variable {s G c : Nat} {T : TT} {h h0 q : Hp} {n n1 n2 : Nat} {x1 x2 x3 : Int32} {f f' : Nat → Int32} {a : Nat} {q1 q2 : Int32 × Hp}
theorem ub_c (r : 0 ≤ (hi h 38 1).toInt ∧ (hi h 38 1).toInt ≤ 39) : Pc (F_X11_undo n h) (TC h) := by
  unfold F_X11_undo
  exact Pc.bind (tb_c r) (fun q1 h1 => Pc.chk (fun _ => Pc.ret h1))
/-- undone by both -/
theorem ub_rl (r : RLs s T h0) (e1 : F_X11_undo n1 h0 = some q1) (e2 : F_X12_undo n2 q1.2 = some q2) : q1.1 = q2.1 ∧ RLs s T q2.2 := by
  have z1 := zf_X11_undo q1 e1
  have z2 := zf_X12_undo q2 e2
  have k1 := frZ.hr z1 (fun x k z => by omega)
  obtain ⟨en1, sd1, e262, r59⟩ := r.ref k1
  have rg := r.rg
  obtain ⟨⟨v, bd, en, sd⟩, ⟨sc, rv⟩, ps, hd⟩ := r
  have c25 := (wg_T v).1
  have G5 := v.2.2.1.1
  have lo (a k : Nat) (l : a < 226) : hi q2.2 a k = hi q1.2 a k := z2.1 a k (by omega)
  obtain ⟨b1, b2, b3⟩ := ps.undo c25 G5 (ub_c rg q1 e1) (ub_r r59 q2 e2) k1 lo
  refine ⟨b1, ?_⟩
  rcases b3 with ⟨d1, d2⟩ | ⟨d1, d2, d3⟩
  · rw [d2]; exact ⟨⟨v, bd, en, sd⟩, ⟨sc, rv⟩, ps, hd⟩
  · have up (a k : Nat) (g : 226 ≤ a) (h1 : a ≠ 262) (h2 : ¬ (a = 226 ∧ k = 59)) : hi q2.2 a k = hi h0 a k := by
      rw [z2.1 a k (by omega), k1 a k g]
    refine ⟨⟨v, bd.at (fun y k h1 h2 => d3 y k (by omega) (by omega) (by omega)), en.cg (fun a k h1 h2 => up a k (by omega) (by omega) (by omega)) (up 226 18 (by decide) (by decide) (by omega)), fun c k hc hk => by rw [up 264 _ (by decide) (by decide) (by omega)]; exact sd c k hc hk⟩, ⟨d1, d2⟩, b2, ?_⟩
    exact hd.same c25 G5 (fun a k h1 h2 => d3 a k (by omega) (by omega) (by omega)) (fun k => up 273 k (by decide) (by decide) (by omega)) (fun k => up 274 k (by decide) (by decide) (by omega))
/-- held by both -/
theorem hd_rl (r : RLs s T h0) (e1 : F_X11_hold n1 h0 x1 = some q1) (e2 : F_X12_hold n2 q1.2 x1 = some q2) : RLs s T q2.2 := by
  have z1 := zf_X11_hold q1 e1
  have z2 := zf_X12_hold q2 e2
  have k1 := frZ.hr z1 (fun x k z => by omega)
  have r0 := r
  obtain ⟨⟨v, bd, en, sd⟩, ⟨sc, rv⟩, ps, hd⟩ := r
  have c25 := (wg_T v).1
  have G5 := v.2.2.1.1
  have lo (a k : Nat) (l : a < 226) : hi q2.2 a k = hi q1.2 a k := z2.1 a k (by omega)
  have hd' := hd.hold c25 G5 sc rv (hc_hold q1 e1) (hr_hold q2 e2) k1 lo
  have cl (a k : Nat) (h1 : a ≠ 0) (h2 : ¬ (214 ≤ a ∧ a < 226)) (h3 : a ≠ 273) (h4 : a ≠ 274) : hi q2.2 a k = hi h0 a k := by
    rw [z2.1 a k (by omega), z1.1 a k (by omega)]
  have k62 : hi q2.2 262 = hi h0 262 := funext (fun j => cl 262 j (by decide) (by decide) (by decide) (by decide))
  refine ⟨⟨v, bd.at (fun y j h1 h2 => cl y j (by omega) (by omega) (by omega) (by omega)), en.cg (fun a j h1 h2 => cl a j (by omega) (by omega) (by omega) (by omega)) (cl 226 18 (by decide) (by decide) (by decide) (by decide)), fun c j hc hj => by rw [cl 264 _ (by decide) (by decide) (by decide) (by decide)]; exact sd c j hc hj⟩, ⟨?_, ?_⟩, ?_, hd'⟩
  · rw [k62]
    exact sc.to c25 G5 (fun j _ => cl 30 j (by decide) (by decide) (by decide) (by decide)) (fun j _ => cl 31 j (by decide) (by decide) (by decide) (by decide)) (fun j _ => cl 32 j (by decide) (by decide) (by decide) (by decide)) (fun j _ => cl 33 j (by decide) (by decide) (by decide) (by decide))
  · rw [k62]; exact rv
  · exact ps.same c25 G5 (fun a j h1 h2 => cl a j (by omega) (by omega) (by omega) (by omega)) (cl 226 59 (by decide) (by decide) (by decide) (by decide)) (fun j => cl 266 j (by decide) (by decide) (by decide) (by decide))
/-- gone on from, by both -/
theorem rs_rl (w : Ie h0) (r : RLs s T h0) (e1 : F_X11_restore n1 h0 x1 = some q1) (e2 : F_X12_restore n2 q1.2 x1 = some q2) : RLs s T q2.2 := by
  have z1 := zf_X11_restore q1 e1
  have z2 := zf_X12_restore q2 e2
  have k1 := frZ.hr z1 (fun x k z => by omega)
  have eq := (rs_ie w e1 e2).1
  have r0 := r
  have rg := r.rg
  obtain ⟨⟨v, bd, en, sd⟩, ⟨sc, rv⟩, ps, hd⟩ := r
  have c25 := (wg_T v).1
  have G5 := v.2.2.1.1
  have lo (a k : Nat) (l : a < 226) : hi q2.2 a k = hi q1.2 a k := z2.1 a k (by omega)
  have n01 : (0 : Int32) ≠ 1 := by decide
  rcases sc_rest q1 e1 with ⟨a1, a2⟩ | ⟨a1, j, ⟨j3, hj⟩, a3, ⟨a4, a5, a6, a7⟩, a8⟩
  · rcases sr_rest q2 e2 with ⟨b1, b2⟩ | ⟨b1, -⟩
    · rw [b2, a2]; exact r0
    · exact absurd (a1.symm.trans (eq.trans b1)) n01
  · rcases sr_rest q2 e2 with ⟨b1, -⟩ | ⟨b1, j', ⟨j3', hj'⟩, b3, b4, b5, b6⟩
    · exact absurd (b1.symm.trans (eq.symm.trans a1)) n01
    · have ej : j' = j := by omega
      subst ej
      rw [k1 273 j' (by decide)] at b3
      obtain ⟨s1, r1⟩ := hd j' j3 b3
      have row (k : Nat) (hk : k < 63) : hi q2.2 262 k = rwU h0 274 j' k := (b5 k hk).trans (k1 274 _ (by decide))
      have up (a k : Nat) (g : 226 ≤ a) (h1 : a ≠ 262) (h2 : ¬ (a = 226 ∧ k = 59)) : hi q2.2 a k = hi h0 a k := by
        rw [z2.1 a k (by omega), k1 a k g]
      have dn (a k : Nat) (l : a < 226) (h1 : ¬ (a = 38 ∧ k = 2)) (h2 : ¬ (30 ≤ a ∧ a ≤ 33)) : hi q2.2 a k = hi h0 a k := by
        rw [lo a k l, a8 a k h1 h2]
      refine ⟨⟨v, bd.at (fun y k h1 h2 => dn y k (by omega) (by omega) (by omega)), en.cg (fun a k h1 h2 => up a k (by omega) (by omega) (by omega)) (up 226 18 (by decide) (by decide) (by omega)), fun c k hc hk => by rw [up 264 _ (by decide) (by decide) (by omega)]; exact sd c k hc hk⟩, ⟨?_, ?_⟩, ?_, ?_⟩
      · refine (s1.to c25 G5 (b := 30) (fun k hk => ?_) (fun k hk => ?_) (fun k hk => ?_) (fun k hk => ?_)).cg c25 G5 row
        · rw [lo 30 k (by decide)]; exact a4 k hk
        · rw [lo 31 k (by decide)]; exact a5 k hk
        · rw [lo 32 k (by decide)]; exact a6 k hk
        · rw [lo 33 k (by decide)]; exact a7 k hk
      · exact r1.cg G5 (fun k hk => row k (by omega))
      · refine PST.none ?_ ?_ ?_ b4
        · rw [lo 38 2 (by decide)]; exact a3
        · rw [dn 38 1 (by decide) (by omega) (by omega)]; exact rg.2
        · rw [dn 38 1 (by decide) (by omega) (by omega)]; exact rg.1
      · exact hd.same c25 G5 (fun a k h1 h2 => dn a k (by omega) (by omega) (by omega)) (fun k => up 273 k (by decide) (by decide) (by omega)) (fun k => up 274 k (by decide) (by decide) (by omega))
end R56W
/-! as both are made -/
theorem fd505 : (hi hk_505 24 0 = 4 ∧ hi hk_505 24 1 = 4) ∧ (∀ i, i < 32 → bt (hi hk_505 24 2) i = decide (i < 4 * 4)) ∧ ∀ i, i < 32 → bt (hi hk_505 24 3) i = decide (i % 4 = 0 ∧ i < 4 * 4) := by decide +kernel
theorem lw505 : (hi hk_505 23 2 = 0 ∧ hi hk_505 23 3 = 0 ∧ hi hk_505 23 4 = 0) ∧ hi hk_505 25 3 = 4 ∧ (hi hk_505 26 0 = 0 ∧ hi hk_505 26 1 = -15 ∧ hi hk_505 26 2 = 1 ∧ hi hk_505 26 3 = -15) ∧ hi hk_505 27 0 = 0 ∧ hi hk_505 27 1 = 2 ∧ hi hk_505 27 2 = 0 ∧ hi hk_505 27 3 = 2 := by decide +kernel
theorem sc505 : (hi hk_505 30 0 = 0 ∧ hi hk_505 30 1 = 0 ∧ hi hk_505 30 2 = 0 ∧ hi hk_505 30 3 = 0) ∧ hi hk_505 38 2 = 0 ∧ 0 ≤ (hi hk_505 38 1).toInt ∧ (hi hk_505 38 1).toInt ≤ 39 := by decide +kernel
theorem rwY : (∀ k, k < 63 → hi hk_Y 262 k = 0) ∧ hi hk_Y 248 0 = 0 ∧ hi hk_Y 249 0 = 0 := by decide +kernel
theorem rlxY : RLx hk_Y := by
  obtain ⟨t1, -, -, ⟨t7, t8, t9⟩, t10⟩ := tlY
  obtain ⟨y2, y59, y65, y1, y73⟩ := fl505
  obtain ⟨⟨a0, a1⟩, a2, a3⟩ := fd505
  obtain ⟨⟨b2, b3, b4⟩, b5, ⟨c0, c1, c2, c3⟩, d0, d1, d2, d3⟩ := lw505
  obtain ⟨⟨g0, g1, g2, g3⟩, g4, g5, g6⟩ := sc505
  obtain ⟨r0, r1, r2⟩ := rwY
  have f0 := lit_0
  have f2 := lit_2
  have f4 := lit_4
  have rf (k : Nat) (n : ¬ (k = 55 ∨ k = 56)) : hi hk_Y 226 k = hi hk_505 226 k := t1 226 k (by decide) (by decide) (by decide) (by omega) (by unfold plW; omega) (by unfold plW; omega)
  have ra (a k : Nat) (n : a < 226 ∨ a = 229 ∨ 265 ≤ a) : hi hk_Y a k = hi hk_505 a k := t1 a k (by omega) (by omega) (by omega) (by omega) (by unfold plW; omega) (by unfold plW; omega)
  have w4 : wT TT0 = 4 := rfl
  have h4 : gT TT0 = 4 := rfl
  have l0 : TT0.go.length = 0 := rfl
  have i18 : hi hk_Y 226 18 = 0 := (rf 18 (by decide)).trans y18
  have en : EN2 0 TT0 hk_Y := by
    refine ⟨⟨Nat.zero_le 1, by rw [i18]; exact f0⟩, ⟨t7, t8⟩, by rw [t9]; rfl, ⟨by rw [r1]; exact f0, by rw [r2]; exact f0⟩, 0, 0, fun k hk => ⟨fun _ => ?_, fun b hb => (nsn (show none = some b from hb)).elim⟩, Nat.zero_le _, Nat.zero_le _⟩
    rw [show 4 * 0 + k = k by omega]
    exact t10 k hk
  have od (k : Nat) (hk : k < 4) : ∃ p : Nat, (hi hk_Y 27 k).toInt = (p : Int) ∧ clO (hi hk_Y 26) 4 p (lawD TT0.la k).1 (lawD TT0.la k).2 := by
    have q (i : Nat) : hi hk_Y 26 i = hi hk_505 26 i := ra 26 i (by decide)
    have q7 (i : Nat) : hi hk_Y 27 i = hi hk_505 27 i := ra 27 i (by decide)
    have : k = 0 ∨ k = 1 ∨ k = 2 ∨ k = 3 := by omega
    rcases this with rfl | rfl | rfl | rfl
    · exact ⟨0, by rw [q7, d0]; exact f0, ⟨(q 0).trans c0, (q 1).trans c1, trivial⟩, by decide⟩
    · exact ⟨2, by rw [q7, d1]; exact f2, ⟨(q 2).trans c2, (q 3).trans c3, trivial⟩, by decide⟩
    · exact ⟨0, by rw [q7, d2]; exact f0, ⟨(q 0).trans c0, (q 1).trans c1, trivial⟩, by decide⟩
    · exact ⟨2, by rw [q7, d3]; exact f2, ⟨(q 2).trans c2, (q 3).trans c3, trivial⟩, by decide⟩
  have bd : BDF TT0 23 hk_Y := by
    refine ⟨⟨?_, ?_, fun i hi' => ?_, fun i hi' => ?_⟩, ⟨?_, ?_, ?_⟩, 4, ?_, by decide, od⟩
    · rw [ra 24 0 (by decide), a0]; exact f4
    · rw [ra 24 1 (by decide), a1]; exact f4
    · rw [ra 24 2 (by decide)]; exact a2 i hi'
    · rw [ra 24 3 (by decide)]; exact a3 i hi'
    · rw [ra 23 2 (by decide), b2]; exact f0
    · rw [ra 23 3 (by decide), b3]; exact f0
    · rw [ra 23 4 (by decide), b4]; exact f0
    · rw [ra 25 3 (by decide), b5]; exact f4
  refine ⟨0, TT0, ⟨vt0, bd, en, SD5.of vt0 en iwY.1.2.1.1.2.2.2.2.1⟩, ⟨⟨⟨?_, ?_, ?_⟩, fun b hb => ?_, fun b hb z => ?_, fun k hk => ?_⟩, fun b hb => ?_, fun b hb z => ?_, fun k hk => ?_, fun k h1 h2 => ⟨r0 _ (by omega), r0 _ (by omega)⟩⟩, PST.none ?_ ?_ ?_ ?_, fun j hj nz => ?_⟩
  · rw [ra 30 0 (by decide), g0, r0 61 (by decide)]
  · rw [ra 30 1 (by decide), g1, r0 62 (by decide)]
  · rw [ra 30 2 (by decide), g2, r0 50 (by decide)]
  · rw [ra 30 3 (by decide), g3, bt_zero]
    refine ⟨fun z => absurd z (by decide), fun z => ?_⟩
    have := z.2
    rw [r0 b (by omega)] at this
    omega
  · rw [r0 b (by rw [w4, h4] at hb; omega)] at z
    exfalso; omega
  · exact absurd hk (Nat.not_lt_zero k)
  · rw [r0 b (by omega)]
    exact ⟨fun _ => f0, by omega, fun z => by exfalso; omega⟩
  · rw [r0 50 (by decide), bt_zero] at z
    exact absurd z (by decide)
  · exact absurd hk (Nat.not_lt_zero k)
  · rw [ra 38 2 (by decide)]; exact g4
  · rw [ra 38 1 (by decide)]; exact g6
  · rw [ra 38 1 (by decide)]; exact g5
  · rw [rf 59 (by decide)]; exact y59
  · exact absurd ((ra 273 j (by decide)).trans (y73 j hj)) nz
