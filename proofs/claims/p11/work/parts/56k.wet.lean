/-! WHERE TUNES SPREAD: what both ask -/
def mxV (x y : Int32) : Int32 := ((x ^^^ y) * 1103515245 + 12345) ^^^ ((((x ^^^ y) * 1103515245 + 12345).toUInt32 >>> ((15 : Int32).toUInt32 &&& Int32.toUInt32 31)).toInt32)
def lotV (s x : Int32) : Int32 := ((mxV (mxV s 197) x).toUInt32 >>> ((1 : Int32).toUInt32 &&& Int32.toUInt32 31)).toInt32 - ((mxV (mxV s 197) x).toUInt32 >>> ((1 : Int32).toUInt32 &&& Int32.toUInt32 31)).toInt32 / 100 * 100
def sdV (T : TT) : Int32 := Int32.ofInt T.ws.2
/-- it is wet there -/
def wetF (T : TT) (f : Nat → Int32) (b : Nat) : Bool := decide ((lotV (sdV T) (32 * f 61 + Int32.ofNat b)).toInt < T.ws.1)
/-- a tune with a quiet cell on its right -/
def qtF (T : TT) (f : Nat → Int32) (b : Nat) : Bool := (decide (b < wT T * gT T) && decide (0 < (f b).toInt)) && (decide (b % wT T + 1 < wT T) && !decide (0 < (f (b + 1)).toInt))
/-- it would spread, were there room -/
def wlF (T : TT) (f : Nat → Int32) (b : Nat) : Bool := qtF T f b && (wetF T f b && decide (0 < (lwT T f b 0 0 2).toInt))
/-- how many tunes -/
def tnN (T : TT) (f : Nat → Int32) : Nat := cntB (fun i => decide (0 < (f i).toInt)) (wT T * gT T)
/-- it spreads -/
def snF (T : TT) (f : Nat → Int32) (b : Nat) : Bool := wlF T f b && decide (tnN T f + cntB (wlF T f) b < 8)
/-- the row behind it -/
def spF (T : TT) (f : Nat → Int32) : Nat → Int32 := fun k => if (1 ≤ k ∧ k < 25) ∧ snF T f (k - 1) = true then f (k - 1) else if (26 ≤ k ∧ k < 50) ∧ snF T f (k - 26) = true then (f (k - 1) + 1) - (f (k - 1) + 1) / f (k - 26) * f (k - 26) else f k
section R56K
variable {G : Nat} {f : Nat → Int32} {a : Nat} {h : Hp} {n : Nat} {x1 x2 x3 : Int32} {T : TT} {s : Nat}
theorem bt_tb (x : Int32) (i : Nat) : bt x i = Nat.testBit (bn x) i := rfl
theorem bt_r1 (x : Int32) (i : Nat) : bt ((x.toUInt32 >>> ((1 : Int32).toUInt32 &&& Int32.toUInt32 31)).toInt32) i = bt x (i + 1) := by
  rw [bt_tb, bn_r1, bt_tb, Nat.testBit_succ]
def rtKq (w g b : Nat) : Bool := !decide (0 < w) || (!decide (b < w * g) || (decide (b % w + 1 < w) == (decide (b + 1 < w * g) && !(decide ((b + 1) % w = 0 ∧ b + 1 < w * g)))))
theorem rtKq_all : ∀ w, w < 6 → ∀ g, g < 6 → ∀ b, b < 25 → rtKq w g b = true := by decide +kernel
theorem rt_all {w g b : Nat} (w2 : 2 ≤ w) (w5 : w ≤ 5) (g5 : g ≤ 5) (hb : b < 25) (h1 : b < w * g) : decide (b % w + 1 < w) = (decide (b + 1 < w * g) && !(decide ((b + 1) % w = 0 ∧ b + 1 < w * g))) := by
  have q := rtKq_all w (by omega) g (by omega) b hb
  unfold rtKq at q
  rw [decide_eq_true h1, decide_eq_true (show 0 < w by omega)] at q
  simp only [Bool.not_true, Bool.false_or, beq_iff_eq] at q
  exact q
/-- the class: tunes with a quiet cell on their right -/
theorem qt_c (v : VT T) (bd : BDF T 23 h) (sc : SCR (wT T * gT T) G f a h) (rv : RVR (wT T * gT T) G f) : Pc (F_X3_quietOnTheRight n h 24 (hi h a 3)) (fun q => q.2 = h ∧ ∀ i, i < 32 → bt q.1 i = qtF T f i) := by
  obtain ⟨c25, ⟨w2, w5⟩, ⟨g2, g5⟩, -, -⟩ := wg_T v
  obtain ⟨⟨-, -, b3, b4⟩, -⟩ := bd
  unfold F_X3_quietOnTheRight
  refine Pc.ret ⟨rfl, fun i hi' => ?_⟩
  show bt (hi h a 3 &&& ((((hi h 24 2 &&& (hi h 24 3 ^^^ (-1))) &&& (hi h a 3 ^^^ (-1))).toUInt32 >>> ((1 : Int32).toUInt32 &&& Int32.toUInt32 31)).toInt32)) i = _
  rw [bt_and, bt_r1]
  have tb (j : Nat) (hj : j < 32) : bt (hi h a 3) j = (decide (j < wT T * gT T) && decide (0 < (f j).toInt)) := by
    have := sc.2.1 j hj
    cases e : bt (hi h a 3) j with
    | true => rw [decide_eq_true (this.mp e).1, decide_eq_true (this.mp e).2]; rfl
    | false =>
      by_cases y : j < wT T * gT T
      · rw [decide_eq_true y, decide_eq_false (fun z => by rw [this.mpr ⟨y, z⟩] at e; exact absurd e (by decide))]; rfl
      · rw [decide_eq_false y]; rfl
  unfold qtF
  rw [tb i hi']
  by_cases y : i < wT T * gT T
  · rw [bt_and, bt_and, bt_not _ (by omega), bt_not _ (by omega), b3 (i + 1) (by omega), b4 (i + 1) (by omega), tb (i + 1) (by omega), rt_all w2 w5 g5 (by omega) y]
    by_cases z : i + 1 < wT T * gT T
    · rw [decide_eq_true z]
      simp only [Bool.true_and]
    · rw [decide_eq_false z]
      simp only [Bool.false_and, Bool.and_false]
  · rw [decide_eq_false y]
    simp only [Bool.false_and]
/-- the class: is it wet -/
theorem we_c (bd : BDF T 23 h) {b : Nat} (b25 : b < 25) (ht : x1 = f 61) (hx : x2.toInt = (b : Int)) (hs : x3.toInt = T.ws.2) : Pc (F_X0_isWet n h 23 x1 x2 x3) (fun q => q.2 = h ∧ q.1 = if wetF T f b = true then 1 else 0) := by
  have es : x3 = sdV T := by
    unfold sdV
    rw [← hs, Int32.ofInt_toInt]
  have f100 : (0 : Int32) < 100 := by decide
  unfold F_X0_isWet
  have lo : Pc (F_X0_lot n h 100 x3 (32 * x1 + x2)) (fun q => q.2 = h ∧ q.1 = lotV (sdV T) (32 * f 61 + Int32.ofNat b)) := by
    unfold F_X0_lot F_X0_stirred
    refine Pc.bind (Pc.ret (P := fun q : Int32 × Hp => q.2 = h ∧ q.1 = mxV x3 197) ⟨rfl, rfl⟩) (fun q1 h1 => ?_)
    refine Pc.bind (Pc.ret (P := fun q : Int32 × Hp => q.2 = h ∧ q.1 = mxV q1.1 (32 * x1 + x2)) ⟨h1.1, rfl⟩) (fun q3 h3 => ?_)
    refine Pc.le (fun z => absurd z (by decide)) (fun _ => Pc.ite (fun _ => Pc.no) (fun _ => Pc.ret ⟨h3.1, ?_⟩))
    show ((q3.1.toUInt32 >>> ((1 : Int32).toUInt32 &&& Int32.toUInt32 31)).toInt32 - (q3.1.toUInt32 >>> ((1 : Int32).toUInt32 &&& Int32.toUInt32 31)).toInt32 / 100 * 100 : Int32) = _
    rw [h3.2, h1.2, es, ht, nOf hx (by omega)]
    rfl
  refine Pc.bind lo (fun q1 h1 => ?_)
  obtain ⟨t1, t2⟩ := h1
  have e3 : (hi h 23 3).toInt = T.ws.1 := bd.2.1.2.1
  rw [t1, t2]
  unfold wetF
  refine Pc.le (fun z => Pc.ret ⟨rfl, ?_⟩) (fun z => Pc.ret ⟨rfl, ?_⟩)
  · rw [decide_eq_false (by omega)]; rfl
  · rw [decide_eq_true (by omega)]; rfl
/-- the reference: the lot of a cell -/
theorem lo_r (hs : (hi h 226 55).toInt = T.ws.2) : Pc (F_X12_lotOf n h x1) (fun q => q.2 = h ∧ q.1 = lotV (sdV T) x1) := by
  have es : hi h 226 55 = sdV T := by
    unfold sdV
    rw [← hs, Int32.ofInt_toInt]
  unfold F_X12_lotOf F_X12_mixed
  refine Pc.bind (Pc.ret (P := fun q : Int32 × Hp => q.2 = h ∧ q.1 = mxV (hi h 226 55) 197) ⟨rfl, rfl⟩) (fun q1 h1 => ?_)
  refine Pc.bind (Pc.ret (P := fun q : Int32 × Hp => q.2 = h ∧ q.1 = mxV q1.1 x1) ⟨h1.1, rfl⟩) (fun q3 h3 => Pc.ret ⟨h3.1, ?_⟩)
  show ((q3.1.toUInt32 >>> ((1 : Int32).toUInt32 &&& Int32.toUInt32 31)).toInt32 - (q3.1.toUInt32 >>> ((1 : Int32).toUInt32 &&& Int32.toUInt32 31)).toInt32 / 100 * 100 : Int32) = _
  rw [h3.2, h1.2, es]
  rfl
end R56K
