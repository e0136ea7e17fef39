/-! THE REFERENCE BETWEEN CALLS -/
def hyO (h : Hp) (a u : Nat) : Nat → Int32 := fun k => hi h a (63 * u + k)
def hsO (c : Int) (h : Hp) : Prop := ∀ u : Nat, (u : Int) < (hi h 226 59).toInt → rwO c (hyO h 266 u) ∧ ovO (hyO h 266 u)
def hdO (c : Int) (h : Hp) : Prop := ∀ s : Nat, s < 3 → (vp_nar .boolean (hi h 273 s)).toInt ≠ 0 → rwO c (hyO h 274 s) ∧ ovO (hyO h 274 s)
def tnO (_c : Int) (h : Hp) : Prop := ∀ k, -1 ≤ (hi h 265 k).toInt ∧ (hi h 265 k).toInt < 25
def dI (h : Hp) : Prop := rS h ∧ (0 ≤ (hi h 226 2).toInt ∧ (hi h 226 2).toInt ≤ 2000) ∧ rwO (cnN h) (hi h 263) ∧ ovO (hi h 263) ∧ tnO (cnN h) h ∧ hsO (cnN h) h ∧ hdO (cnN h) h
/-- the class's cells are as they were -/
def kX (h h' : Hp) : Prop := ∀ a k, a < 226 → hi h' a k = hi h a k ∧ hl h' a k = hl h a k
def dP (h h' : Hp) : Prop := dI h' ∧ kX h h' ∧ (hi h' 226 2 = hi h 226 2 ∧ hi h' 226 17 = hi h 226 17) ∧ (∀ k, hl h' 233 k = hl h 233 k) ∧ ∀ k, hi h' 229 k = hi h 229 k ∧ hi h' 227 k = hi h 227 k
/-- what a text told for good -/
def kC (h0 h : Hp) : Prop := hi h 226 18 = hi h0 226 18 ∧ (∀ a k, 227 ≤ a → a ≤ 258 → hi h a k = hi h0 a k) ∧ (∀ k, hi h 264 k = hi h0 264 k)
theorem sAx {a k : Nat} (h : a < 226) : sA a k = false := by
  simp only [sA, Bool.or_eq_false_iff, Bool.and_eq_false_iff, beq_eq_false_iff_ne]
  omega
theorem sAc {a k : Nat} (h1 : 227 ≤ a) (h2 : a ≤ 258) : sA a k = false := by
  simp only [sA, Bool.or_eq_false_iff, Bool.and_eq_false_iff, beq_eq_false_iff_ne]
  omega
theorem kS.kC {h0 h : Hp} (j : kS h0 h) : kC h0 h := ⟨j 226 18 (by decide), fun a k h1 h2 => j a k (sAc h1 h2), fun k => j 264 k rfl⟩
theorem kC.tr {h0 h1 h2 : Hp} (a : kC h0 h1) (b : kC h1 h2) : kC h0 h2 := ⟨b.1.trans a.1, fun x k p q => (b.2.1 x k p q).trans (a.2.1 x k p q), fun k => (b.2.2 k).trans (a.2.2 k)⟩
section KC
variable {h0 h : Hp}
theorem kC.row (j : kC h0 h) (a : Nat) (h1 : 227 ≤ a) (h2 : a ≤ 258) : hi h a = hi h0 a := funext fun k => j.2.1 a k h1 h2
theorem kC.wd (j : kC h0 h) : wdN h = wdN h0 := by
  unfold wdN
  rw [j.1, j.row 235 (by decide) (by decide)]
theorem kC.hg (j : kC h0 h) : hgN h = hgN h0 := by
  unfold hgN
  rw [j.1, j.row 236 (by decide) (by decide)]
theorem kC.gn (j : kC h0 h) : gnN h = gnN h0 := by
  unfold gnN
  rw [j.1, j.row 242 (by decide) (by decide)]
theorem kC.cn (j : kC h0 h) : cnN h = cnN h0 := by
  unfold cnN
  rw [j.wd, j.hg]
theorem kC.ob (j : kC h0 h) {L : Int} {b : Nat} (o : obO L h0 b) : obO L h b := by
  unfold obO
  rw [j.row 252 (by decide) (by decide), j.row 253 (by decide) (by decide), j.row 254 (by decide) (by decide), j.row 255 (by decide) (by decide), j.row 256 (by decide) (by decide), j.row 257 (by decide) (by decide), j.row 258 (by decide) (by decide)]
  exact o
theorem kC.sd (j : kC h0 h) (s : sdO h0) : sdO h := by
  intro c k hc hk
  rw [j.wd, j.hg, j.2.2]
  rw [j.cn] at hc
  exact s c k hc hk
theorem kC.lws (j : kC h0 h) (s : lwsO h0) : lwsO h := by
  intro i h1 h2
  rw [j.1] at h1 h2 ⊢
  have := s i h1 h2
  unfold olO at this ⊢
  rw [j.row 250 (by decide) (by decide), j.row 251 (by decide) (by decide)]
  rcases this with q | ⟨q1, q2, q3⟩
  · exact Or.inl q
  · exact Or.inr ⟨q1, q2, fun b b1 b2 => j.ob (q3 b b1 b2)⟩
end KC
theorem rwO.cg {c : Int} {f g : Nat → Int32} (e : ∀ k, k < 63 → g k = f k) (r : rwO c f) : rwO c g := ⟨fun k hk => by rw [e k (by omega)]; exact r.1 k hk, fun k h1 h2 => by rw [e k (by omega)]; exact r.2 k h1 h2⟩
theorem ovO.cg {f g : Nat → Int32} (e : ∀ k, k < 63 → g k = f k) (r : ovO f) : ovO g := by
  intro k hk h1
  rw [e k (by omega)] at h1 ⊢
  rw [e (25 + k) (by omega)]
  exact r k hk h1
theorem dI.mk {hC q : Hp} (d : dI hC) (c : kC hC q) (kx : kX hC q) (tp : hi q 226 2 = hi hC 226 2 ∧ hi q 226 17 = hi hC 226 17) (kl : ∀ k, hl q 233 k = hl hC 233 k) (n1 : rwO (cnN hC) (hi q 262)) (n2 : ovO (hi q 262)) (r1 : rwO (cnN hC) (hi q 263)) (r2 : ovO (hi q 263)) (tn : tnO (cnN hC) q) (to : 0 ≤ (hi q 226 65).toInt ∧ (hi q 226 65).toInt ≤ 20) (un : 0 ≤ (hi q 226 59).toInt ∧ (hi q 226 59).toInt ≤ 40) (hs : hsO (cnN hC) q) (hd : hdO (cnN hC) q) : dP hC q := by
  have e := c.cn
  have s : rS q := by
    show (0 ≤ (hi q 226 18).toInt ∧ (hi q 226 18).toInt ≤ 1) ∧ (2 ≤ wdN q ∧ wdN q ≤ 5) ∧ (2 ≤ hgN q ∧ hgN q ≤ 5) ∧ (0 ≤ gnN q ∧ gnN q ≤ 5) ∧ sdO q ∧ lwsO q ∧ rwO (cnN q) (hi q 262) ∧ ovO (hi q 262) ∧ (0 ≤ (hi q 226 65).toInt ∧ (hi q 226 65).toInt ≤ 20) ∧ (0 ≤ (hi q 226 59).toInt ∧ (hi q 226 59).toInt ≤ 40)
    rw [c.wd, c.hg, c.gn, e, c.1]
    exact ⟨d.1.1, d.1.2.1, d.1.2.2.1, d.1.2.2.2.1, c.sd d.1.2.2.2.2.1, c.lws d.1.2.2.2.2.2.1, n1, n2, to, un⟩
  refine ⟨⟨s, by rw [tp.1]; exact d.2.1, ?_, r2, ?_, ?_, ?_⟩, kx, tp, kl, fun k => ⟨c.2.1 229 k (by decide) (by decide), c.2.1 227 k (by decide) (by decide)⟩⟩
  · rw [e]; exact r1
  · rw [e]; exact tn
  · rw [e]; exact hs
  · rw [e]; exact hd
theorem jA.of {h : Hp} (d : dI h) : jA h h := ⟨fun _ _ _ => rfl, fun _ _ => rfl, d.2.2.1, d.2.2.2.1, d.2.2.2.2.1⟩
theorem hsO.cg {c : Int} {h h' : Hp} (e1 : hi h' 226 59 = hi h 226 59) (e2 : ∀ k, hi h' 266 k = hi h 266 k) (s : hsO c h) : hsO c h' := by
  intro u hu
  rw [e1] at hu
  exact ⟨(s u hu).1.cg (fun k _ => e2 _), (s u hu).2.cg (fun k _ => e2 _)⟩
theorem hdO.cg {c : Int} {h h' : Hp} (e1 : ∀ k, hi h' 273 k = hi h 273 k) (e2 : ∀ k, hi h' 274 k = hi h 274 k) (s : hdO c h) : hdO c h' := by
  intro u hu h1
  rw [e1] at h1
  exact ⟨(s u hu h1).1.cg (fun k _ => e2 _), (s u hu h1).2.cg (fun k _ => e2 _)⟩
theorem dP.ask {h h' : Hp} (d : dI h) (j : jA h h') : dP h h' :=
  d.mk j.1.kC (fun a k ha => ⟨j.1 a k (sAx ha), j.2.1 a k⟩) ⟨j.1 226 2 (by decide), j.1 226 17 (by decide)⟩ (fun k => j.2.1 233 k) (d.1.2.2.2.2.2.2.1.cg (fun k _ => j.1 262 k rfl)) (d.1.2.2.2.2.2.2.2.1.cg (fun k _ => j.1 262 k rfl)) j.2.2.1 j.2.2.2.1 j.2.2.2.2 (toR d.1 j.1) (unR d.1 j.1) (hsO.cg (j.1 226 59 (by decide)) (fun k => j.1 266 k rfl) d.2.2.2.2.2.1) (hdO.cg (fun k => j.1 273 k rfl) (fun k => j.1 274 k rfl) d.2.2.2.2.2.2)
theorem dP.rf {h : Hp} (d : dI h) : dP h h := dP.ask d (jA.of d)
/-- a thing done: the row is what goes on -/
theorem rec_end {hC h hS q q2 : Hp} (d : dI hC) (j : jA hC h) (e1 : ∀ a k, a ≠ 266 → ¬ (a = 226 ∧ k = 59) → hi hS a k = hi h a k) (e2 : ∀ a k, hl hS a k = hl h a k) (u0 : 0 ≤ (hi hS 226 59).toInt) (u1 : (hi hS 226 59).toInt ≤ 39) (hs : hsO (cnN hC) hS) (c1 : cpI 266 262 (fun k => 63 * Int32.toNatClampNeg (hi hS 226 59) + k) (fun k => k) hS q 63) (c2 : cpI 262 263 (fun k => k) (fun k => k) (wrI q 226 59 (hi hS 226 59 + 1)) q2 63) : dP hC q2 := by
  have f1 := lit_1
  have f2 := adT (hi hS 226 59) 1 (by omega) (by omega)
  have f3 := ncT u0
  have g1 (a k : Nat) (n1 : a ≠ 262) (n2 : a ≠ 266) (n3 : ¬ (a = 226 ∧ k = 59)) : hi q2 a k = hi h a k := by
    rw [c2.1.1 a k n1, hi_wrI, if_neg n3, c1.1.1 a k n2, e1 a k n2 n3]
  have g2 : hi q2 226 59 = hi hS 226 59 + 1 := by
    rw [c2.1.1 226 59 (by decide), hi_wrI, if_pos ⟨rfl, rfl⟩]
  have g3 (k : Nat) (hk : k < 63) : hi q2 262 k = hi h 263 k := by
    rw [c2.2.1 k hk, hi_wrI, if_neg (fun z => absurd z.1 (by decide)), c1.1.1 263 k (by decide), e1 263 k (by decide) (by omega)]
  have g4 (x : Nat) : hi q2 266 x = hi q 266 x := by
    rw [c2.1.1 266 x (by decide), hi_wrI, if_neg (fun z => absurd z.1 (by decide))]
  have gk (a k : Nat) (n1 : a ≠ 262) (n2 : a ≠ 266) (n3 : ¬ (a = 226 ∧ k = 59)) (n4 : sA a k = false) : hi q2 a k = hi hC a k := (g1 a k n1 n2 n3).trans (j.1 a k n4)
  have kl (a k : Nat) : hl q2 a k = hl hC a k := by
    rw [c2.1.2 a k]
    show hl q a k = _
    rw [c1.1.2 a k, e2 a k]
    exact j.2.1 a k
  refine d.mk ⟨gk 226 18 (by decide) (by decide) (by decide) (by decide), fun a k h1 h2 => gk a k (by omega) (by omega) (by omega) (sAc h1 h2), fun k => gk 264 k (by decide) (by decide) (by omega) rfl⟩ (fun a k ha => ⟨gk a k (by omega) (by omega) (by omega) (sAx ha), kl a k⟩) ⟨gk 226 2 (by decide) (by decide) (by decide) (by decide), gk 226 17 (by decide) (by decide) (by decide) (by decide)⟩ (fun k => kl 233 k) (j.2.2.1.cg g3) (j.2.2.2.1.cg g3) (j.2.2.1.cg (fun k _ => g1 263 k (by decide) (by decide) (by omega))) (j.2.2.2.1.cg (fun k _ => g1 263 k (by decide) (by decide) (by omega))) (fun k => ?_) ?_ ?_ (fun u hu => ?_) (hdO.cg (fun k => gk 273 k (by decide) (by decide) (by omega) rfl) (fun k => gk 274 k (by decide) (by decide) (by omega) rfl) d.2.2.2.2.2.2)
  · rw [g1 265 k (by decide) (by decide) (by omega)]
    exact j.2.2.2.2 k
  · rw [gk 226 65 (by decide) (by decide) (by decide) (by decide)]
    exact d.1.2.2.2.2.2.2.2.2.1
  · rw [g2]
    omega
  · rw [g2] at hu
    by_cases z : u = Int32.toNatClampNeg (hi hS 226 59)
    · subst z
      have w (k : Nat) (hk : k < 63) : hyO q2 266 (Int32.toNatClampNeg (hi hS 226 59)) k = hi hC 262 k := by
        show hi q2 266 _ = _
        rw [g4, c1.2.1 k hk, e1 262 k (by decide) (by omega)]
        exact j.1 262 k rfl
      exact ⟨d.1.2.2.2.2.2.2.1.cg w, d.1.2.2.2.2.2.2.2.1.cg w⟩
    · have w (k : Nat) (hk : k < 63) : hyO q2 266 u k = hyO hS 266 u k := by
        show hi q2 266 _ = hi hS 266 _
        rw [g4]
        exact c1.2.2 _ (fun k' hk' => by show 63 * u + k ≠ 63 * Int32.toNatClampNeg (hi hS 226 59) + k'; omega)
      have z2 := hs u (by omega)
      exact ⟨z2.1.cg w, z2.2.cg w⟩
theorem sf_X12_records {hC h : Hp} {n : Nat} (d : dI hC) (j : jA hC h) (hn : 4000 ≤ n) : Ok (F_X12_records n h) (fun q => dP hC q) := by
  have u := unR d.1 j.1
  have f40 : (40 : Int32).toInt = 40 := by decide
  have f0 := lit_0
  have n0 := ncT (show 0 ≤ (0 : Int32).toInt by omega)
  have hs : hsO (cnN hC) h := hsO.cg (j.1 226 59 (by decide)) (fun k => j.1 266 k rfl) d.2.2.2.2.2.1
  unfold F_X12_records
  refine Ok.eq (fun c1 => ?_) (fun c1 => ?_)
  · refine cp_rec1 (hS := h) (fun m q hm c => ?_) n h 0 (by omega) (by omega) (by rw [show Int32.toNatClampNeg 0 = 0 by omega]; exact cpI.zero _ _ _ _ h) (by omega)
    generalize ey : (hi h 226 59 - 1 : Int32) = y
    have f1 := lit_1
    have fy := sbG ey rfl lit_1 (by omega) (by omega)
    have nu := ncT u.1
    have ny := ncT (show 0 ≤ y.toInt by omega)
    generalize eg : wrI q 226 59 y = g
    have gU : hi g 226 59 = y := hiE eg
    refine cp_rec2 (hS := g) (by rw [gU]; omega) (by rw [gU]; omega) (fun q1 q2 z1 z2 => rec_end d j ?_ ?_ ?_ ?_ ?_ z1 z2) m g 0 (by omega) (by omega) (by rw [show Int32.toNatClampNeg 0 = 0 by omega]; exact cpI.zero _ _ _ _ g) (by omega)
    · intro a k n1 n2
      rw [← eg, hi_wrI, if_neg n2]
      exact c.1.1 a k n1
    · intro a k
      rw [← eg]
      exact c.1.2 a k
    · rw [gU]; omega
    · rw [gU]; omega
    · intro v hv
      rw [gU] at hv
      have w (k : Nat) (hk : k < 63) : hyO g 266 v k = hyO h 266 (v + 1) k := by
        show hi g 266 (63 * v + k) = hi h 266 (63 * (v + 1) + k)
        rw [hiA eg 266 _ (by decide), c.2.1 (63 * v + k) (by omega), show 63 * (v + 1) + k = 63 * v + k + 63 by omega]
      have z := hs (v + 1) (by omega)
      exact ⟨z.1.cg w, z.2.cg w⟩
  · exact cp_rec2 (hS := h) u.1 (by omega) (fun q1 q2 z1 z2 => rec_end d j (fun _ _ _ _ => rfl) (fun _ _ => rfl) u.1 (by omega) hs z1 z2) n h 0 (by omega) (by omega) (by rw [show Int32.toNatClampNeg 0 = 0 by omega]; exact cpI.zero _ _ _ _ h) (by omega)
