/-! A STEP of a goer, in both -/
/-- where a goer at the cell b goes, told by the law k -/
def stF (T : TT) (f : Nat → Int32) (b : Nat) (x4 x5 : Int32) (k : Nat) : Nat :=
  if bt (f 50) (sdv (wT T) (gT T) b ((lwT T f b x4 x5 k).toInt.toNat % 5)) = true then b else sdv (wT T) (gT T) b ((lwT T f b x4 x5 k).toInt.toNat % 5)
def loudF (f : Nat → Int32) (b : Nat) (t : Int32) : Bool := decide (0 < (f b).toInt) && decide (t - t / f b * f b = f (25 + b))
theorem lwT_cg {T : TT} {f g : Nat → Int32} (c25 : wT T * gT T ≤ 25) (e : ∀ k, k < 25 → g k = f k) (e61 : g 61 = f 61) {b : Nat} (hb : b < 25) {x4 x5 : Int32} {k : Nat} : lwT T g b x4 x5 k = lwT T f b x4 x5 k := by
  have : valF (wT T) (gT T) (wT T * gT T) g b x4 x5 = valF (wT T) (gT T) (wT T * gT T) f b x4 x5 := by
    funext j
    have cc : cntB (fun i => decide (0 < (g i).toInt)) (wT T * gT T) = cntB (fun i => decide (0 < (f i).toInt)) (wT T * gT T) := cntB_cg _ (fun i hi' => by rw [e i (by omega)])
    unfold valF
    rw [e b hb, e61, cc]
  unfold lwT
  rw [this]
theorem stF_cg {T : TT} {f g : Nat → Int32} (c25 : wT T * gT T ≤ 25) (e : ∀ k, k < 25 → g k = f k) (e50 : g 50 = f 50) (e61 : g 61 = f 61) {b : Nat} (hb : b < 25) {x4 x5 : Int32} {k : Nat} : stF T g b x4 x5 k = stF T f b x4 x5 k := by
  unfold stF
  rw [lwT_cg c25 e e61 hb, e50]
def sdK (w g b : Nat) : Bool := !decide (0 < w) || (!decide (b < w * g) || ((decide (b / w + 1 < g) == decide (b + w < w * g)) && (decide (0 < b / w) == decide (w ≤ b))))
theorem sdK_all : ∀ w, w < 6 → ∀ g, g < 6 → ∀ b, b < 25 → sdK w g b = true := by decide +kernel
theorem sd_all (w : Nat) (hw : w < 6) (g : Nat) (hg : g < 6) (w2 : 2 ≤ w) (_ : 2 ≤ g) (b : Nat) (hb : b < 25) (h1 : b < w * g) : (b / w + 1 < g ↔ b + w < w * g) ∧ (0 < b / w ↔ w ≤ b) := by
  have q := sdK_all w hw g hg b hb
  unfold sdK at q
  rw [decide_eq_true h1, decide_eq_true (show 0 < w by omega)] at q
  simp only [Bool.not_true, Bool.false_or, Bool.and_eq_true, beq_iff_eq, decide_eq_decide] at q
  exact q
theorem stF_lt {T : TT} (v : VT T) {f : Nat → Int32} {b : Nat} (hb : b < wT T * gT T) {x4 x5 : Int32} {k : Nat} : stF T f b x4 x5 k < wT T * gT T := by
  obtain ⟨c25, ⟨w2, w5⟩, ⟨g2, g5⟩, -, -⟩ := wg_T v
  unfold stF
  by_cases y : bt (f 50) (sdv (wT T) (gT T) b ((lwT T f b x4 x5 k).toInt.toNat % 5)) = true
  · rw [if_pos y]; exact hb
  · rw [if_neg y]
    exact (sdv_all (wT T) (by omega) (gT T) (by omega) b (by omega) _ (Nat.mod_lt _ (by decide)) hb).1
theorem stF_free {T : TT} {f : Nat → Int32} {b : Nat} (nb : bt (f 50) b = false) {x4 x5 : Int32} {k : Nat} : bt (f 50) (stF T f b x4 x5 k) = false := by
  unfold stF
  by_cases y : bt (f 50) (sdv (wT T) (gT T) b ((lwT T f b x4 x5 k).toInt.toNat % 5)) = true
  · rw [if_pos y]; exact nb
  · rw [if_neg y]; exact Bool.eq_false_iff.mpr y
section R56G
variable {G : Nat} {f : Nat → Int32} {a : Nat} {h : Hp} {n : Nat} {x1 x2 x3 x4 : Int32} {T : TT} {s : Nat}
theorem bs_c {w g b k : Nat} (e0 : (hi h a 0).toInt = (w : Int)) (e1 : (hi h a 1).toInt = (g : Int)) (w2 : 2 ≤ w) (w5 : w ≤ 5) (g2 : 2 ≤ g) (g5 : g ≤ 5) (c25 : w * g ≤ 25) (hb : b < w * g) (hx : x1.toInt = (b : Int)) (hk : x2.toInt = (k : Int)) : Pc (F_X3_beside n h a x1 x2) (fun q => q.2 = h ∧ q.1.toInt = ((sdv w g b k : Nat) : Int)) := by
  have f0 := lit_0
  have f1 := lit_1
  have f2 := lit_2
  have f3 := lit_3
  have f4 := lit_4
  obtain ⟨t1, t2⟩ := sd_all w (by omega) g (by omega) w2 g2 b (by omega) hb
  have ml : b % w < w := Nat.mod_lt _ (by omega)
  have dl : b / w ≤ b := Nat.div_le_self b w
  have ml2 : b % w ≤ b := Nat.mod_le b w
  obtain ⟨dv, ed⟩ : ∃ dv, b / w = dv := ⟨_, rfl⟩
  obtain ⟨md, em⟩ : ∃ md, b % w = md := ⟨_, rfl⟩
  rw [ed] at t1 t2 dl
  rw [em] at ml ml2
  unfold F_X3_beside
  refine Pc.bind (lf_c (b := b) e0 w2 w5 (by omega) hx) (fun q1 h1 => ?_)
  obtain ⟨u1, u2⟩ := h1
  rw [u1]
  refine Pc.bind (tp_c (b := b) e0 w2 w5 (by omega) hx) (fun q3 h3 => ?_)
  obtain ⟨u3, u4⟩ := h3
  rw [u3]
  have v1 : q1.1.toInt = (md : Int) := by rw [u2, em]; exact Int32.toInt_ofNat_of_lt (by omega)
  have v3 : q3.1.toInt = (dv : Int) := by rw [u4, ed]; exact Int32.toInt_ofNat_of_lt (by omega)
  have a1 := adT q1.1 1 (by omega) (by omega)
  have a3 := adT q3.1 1 (by omega) (by omega)
  have b1 := adT x1 1 (by omega) (by omega)
  have b2 := adT x1 (hi h a 0) (by omega) (by omega)
  have b3 := sbT x1 1 (by omega) (by omega)
  have b4 := sbT x1 (hi h a 0) (by omega) (by omega)
  unfold sdv
  rw [em]
  refine Pc.eq (fun z => ?_) (fun z => ?_)
  · rw [if_pos (show k = 1 by omega)]
    refine Pc.le (fun y => Pc.ret ⟨rfl, ?_⟩) (fun y => Pc.ret ⟨rfl, ?_⟩)
    · rw [if_neg (by omega)]; exact hx
    · rw [if_pos (by omega)]
      show (x1 + 1).toInt = _
      omega
  rw [if_neg (show ¬ k = 1 by omega)]
  refine Pc.eq (fun z2 => ?_) (fun z2 => ?_)
  · rw [if_pos (show k = 2 by omega)]
    refine Pc.le (fun y => Pc.ret ⟨rfl, ?_⟩) (fun y => Pc.ret ⟨rfl, ?_⟩)
    · rw [if_neg (fun w => by have := t1.mpr w; omega)]; exact hx
    · rw [if_pos (t1.mp (by omega))]
      show (x1 + hi h a 0).toInt = _
      omega
  rw [if_neg (show ¬ k = 2 by omega)]
  refine Pc.eq (fun z3 => ?_) (fun z3 => ?_)
  · rw [if_pos (show k = 3 by omega)]
    refine Pc.le (fun y => Pc.ret ⟨rfl, ?_⟩) (fun y => Pc.ret ⟨rfl, ?_⟩)
    · rw [if_neg (by omega)]; exact hx
    · rw [if_pos (by omega)]
      show (x1 - 1).toInt = _
      omega
  rw [if_neg (show ¬ k = 3 by omega)]
  refine Pc.eq (fun z4 => ?_) (fun z4 => ?_)
  · rw [if_pos (show k = 4 by omega)]
    refine Pc.le (fun y => Pc.ret ⟨rfl, ?_⟩) (fun y => Pc.ret ⟨rfl, ?_⟩)
    · rw [if_neg (fun w => by have := t2.mpr w; omega)]; exact hx
    · have wb := t2.mp (by omega)
      rw [if_pos wb]
      show (x1 - hi h a 0).toInt = _
      omega
  rw [if_neg (show ¬ k = 4 by omega)]
  exact Pc.ret ⟨rfl, hx⟩
/-- the class: where a goer goes -/
theorem wt_c (v : VT T) (bd : BDF T 23 h) (sc : SCR (wT T * gT T) T.go.length f a h) (rv : RVR (wT T * gT T) T.go.length f) (ha : 30 ≤ a) {g : Nat} (hg : g < T.go.length) (hx : x3.toInt = (g : Int)) {k : Nat} (k4 : k < 4) (hk : x2.toInt = (k : Int)) : Pc (F_X0_whereTo n h 23 a x2 x3) (fun q => q.1.toInt = ((stF T f (f (51 + g)).toInt.toNat (f (56 + g)) x3 k : Nat) : Int)) := by
  have f0 := lit_0
  have f5 := lit_5
  obtain ⟨c25, ⟨w2, w5⟩, ⟨g2, g5⟩, -, -⟩ := wg_T v
  have G5 := v.2.2.1.1
  have n1 := ncT (show 0 ≤ x3.toInt by omega)
  have n2 : Int32.toNatClampNeg x3 = g := by omega
  obtain ⟨⟨rg1, rg2⟩, rg3⟩ := rv.2.2.1 g hg
  obtain ⟨b, hb⟩ : ∃ b : Nat, (f (51 + g)).toInt = (b : Int) := ⟨(f (51 + g)).toInt.toNat, by omega⟩
  have eb : (f (51 + g)).toInt.toNat = b := by omega
  rw [eb]
  obtain ⟨s1, s2⟩ := sc.2.2.2 g hg
  have bd0 := bd
  obtain ⟨⟨b1, b2, -, -⟩, ⟨b5, -, -⟩, -⟩ := bd
  unfold F_X0_whereTo
  have hgo : Pc (F_X0_hasGoer n h 23 x3) (fun q => q.2 = h ∧ q.1 = 1) := by
    unfold F_X0_hasGoer
    exact Pc.lt (fun z => by exfalso; omega) (fun _ => Pc.le (fun z => by exfalso; omega) (fun _ => Pc.le (fun z => by exfalso; omega) (fun _ => Pc.ret ⟨rfl, rfl⟩)))
  refine Pc.bind hgo (fun q1 h1 => ?_)
  obtain ⟨t1, t2⟩ := h1
  rw [t1, t2, n2]
  refine Pc.ite (fun z => absurd z (by decide)) (fun _ => Pc.chk (fun _ => Pc.chk (fun _ => ?_)))
  rw [s1, s2]
  refine Pc.bind (fun y e => And.intro (as_c v bd0 sc rv ha (b := b) (by omega) hb k4 hk (x4 := f (56 + g)) (x5 := x3) y e) (zf_X0_ask y e)) (fun q6 h6 => ?_)
  obtain ⟨t3, z6⟩ := h6
  have r6 (x j : Nat) (n1 : x ≠ 28) (n2 : x ≠ 29) : hi q6.2 x j = hi h x j := z6.1 x j (by omega)
  generalize ey : (if (0 : Int32) < q6.1 then q6.1 else 0) = y
  have hy : y.toInt = ((q6.1.toInt.toNat : Nat) : Int) := by
    rw [← ey]
    by_cases z : (0 : Int32) < q6.1
    · have := Int32.lt_iff_toInt_lt.mp z
      rw [if_pos z]; omega
    · have : ¬ (0 : Int32).toInt < q6.1.toInt := fun w => z (Int32.lt_iff_toInt_lt.mpr w)
      rw [if_neg z]; omega
  have m5 := rmN (x := y) (y := 5) (a := q6.1.toInt.toNat) (b := 5) hy f5
  refine Pc.bind (bs_c (w := wT T) (g := gT T) (b := b) (k := q6.1.toInt.toNat % 5) (by rw [r6 24 0 (by decide) (by decide)]; exact b1) (by rw [r6 24 1 (by decide) (by decide)]; exact b2) w2 w5 g2 g5 c25 (by omega) hb m5) (fun q8 h8 => ?_)
  obtain ⟨t4, t5⟩ := h8
  rw [t4]
  have dl : sdv (wT T) (gT T) b (q6.1.toInt.toNat % 5) < wT T * gT T := (sdv_all (wT T) (by omega) (gT T) (by omega) b (by omega) _ (Nat.mod_lt _ (by decide)) (by omega)).1
  have sc6 : SCR (wT T * gT T) T.go.length f a q6.2 := sc.to c25 G5 (fun j _ => r6 a j (by omega) (by omega)) (fun j _ => r6 (a + 1) j (by omega) (by omega)) (fun j _ => r6 (a + 2) j (by omega) (by omega)) (fun j _ => r6 (a + 3) j (by omega) (by omega))
  refine Pc.bind (ro_c sc6 (b := sdv (wT T) (gT T) b (q6.1.toInt.toNat % 5)) (by omega) t5) (fun q10 h10 => ?_)
  obtain ⟨t6, t7⟩ := h10
  rw [t7]
  unfold stF
  rw [← t3]
  by_cases z : bt (f 50) (sdv (wT T) (gT T) b (q6.1.toInt.toNat % 5)) = true
  · rw [if_pos z, if_pos z]
    exact Pc.ite (fun y => absurd y (by decide)) (fun _ => Pc.ret hb)
  · rw [if_neg z, if_neg z]
    exact Pc.ite (fun _ => Pc.ret t5) (fun y => absurd rfl y)
/-- the class: is it loud there -/
theorem so_c (sc : SCR (wT T * gT T) G f a h) (rv : RVR (wT T * gT T) G f) (c25 : wT T * gT T ≤ 25) {b : Nat} (hb : b < wT T * gT T) (hx : x1.toInt = (b : Int)) : Pc (F_X8_soundsAt n h a x1 x2) (fun q => q.2 = h ∧ q.1 = if loudF f b x2 = true then 1 else 0) := by
  have f0 := lit_0
  unfold F_X8_soundsAt loudF
  refine Pc.bind (be_c sc rv (b := b) (by omega) hx) (fun q1 h1 => ?_)
  obtain ⟨t1, t2⟩ := h1
  rw [t1, t2]
  refine Pc.le (fun z => Pc.ret ⟨rfl, ?_⟩) (fun z => Pc.ite (fun _ => Pc.no) (fun _ => ?_))
  · rw [decide_eq_false (show ¬ 0 < (f b).toInt by omega)]
    rfl
  · rw [decide_eq_true (show 0 < (f b).toInt by omega), Bool.true_and]
    refine Pc.bind (of_c sc rv hb c25 (by omega) hx) (fun q5 h5 => ?_)
    obtain ⟨t3, t4⟩ := h5
    rw [t3, t4]
    by_cases y : x2 - x2 / f b * f b = f (25 + b)
    · rw [decide_eq_true y]
      exact Pc.ite (fun _ => Pc.ret ⟨rfl, rfl⟩) (fun w => absurd y w)
    · rw [decide_eq_false y]
      exact Pc.ite (fun w => absurd w y) (fun _ => Pc.ret ⟨rfl, rfl⟩)
end R56G
