/-! WHAT IS TOLD IS LAID OUT: the class -/
theorem nsn {α : Type} {x : α} (h : none = some x) : False := by cases h
def clw (w c : Nat) : Nat := w * (c / 5) + c % 5
def spt (w b : Nat) : Nat := 5 * (b / w) + b % w
def onW (w g c : Nat) : Prop := c % 5 < w ∧ c / 5 < g
theorem onW.nn {w g c : Nat} (h : ¬ ¬ onW w g c) : onW w g c := by
  unfold onW at *
  omega
def clwK (w g c : Nat) : Bool := !decide (c % 5 < w) || (!decide (c / 5 < g) || (decide (clw w c < w * g) && decide (spt w (clw w c) = c)))
theorem clwK_all : ∀ w, w < 6 → ∀ g, g < 6 → ∀ c, c < 25 → clwK w g c = true := by decide +kernel
theorem clw_all (w : Nat) (hw : w < 6) (g : Nat) (hg : g < 6) (c : Nat) (hc : c < 25) (h1 : c % 5 < w) (h2 : c / 5 < g) : clw w c < w * g ∧ spt w (clw w c) = c := by
  have q := clwK_all w hw g hg c hc
  unfold clwK at q
  rw [decide_eq_true h1, decide_eq_true h2] at q
  simp only [Bool.not_true, Bool.false_or, Bool.and_eq_true, decide_eq_true_eq] at q
  exact q
def sptK (w g b : Nat) : Bool := !decide (b < w * g) || (decide (spt w b < 25) && ((decide (spt w b % 5 < w) && decide (spt w b / 5 < g)) && decide (clw w (spt w b) = b)))
theorem sptK_all : ∀ w, w < 6 → ∀ g, g < 6 → ∀ b, b < 25 → sptK w g b = true := by decide +kernel
theorem spt_all (w : Nat) (hw : w < 6) (g : Nat) (hg : g < 6) (b : Nat) (hb : b < 25) (h1 : b < w * g) : spt w b < 25 ∧ (spt w b % 5 < w ∧ spt w b / 5 < g) ∧ clw w (spt w b) = b := by
  have q := sptK_all w hw g hg b hb
  unfold sptK at q
  rw [decide_eq_true h1] at q
  simp only [Bool.not_true, Bool.false_or, Bool.and_eq_true, decide_eq_true_eq] at q
  exact q
section LY
variable {w g : Nat} {h0 h : Hp} {n : Nat}
theorem clw_on (hw : w ≤ 5) (hg : g ≤ 5) {c : Nat} (hc : c < 25) (o : onW w g c) : clw w c < w * g ∧ spt w (clw w c) = c := clw_all w (by omega) g (by omega) c hc o.1 o.2
theorem wg25 (hw : w ≤ 5) (hg : g ≤ 5) : w * g ≤ 25 := Nat.le_trans (Nat.mul_le_mul hw hg) (by decide)
theorem spt_on (hw : w ≤ 5) (hg : g ≤ 5) {b : Nat} (hb : b < w * g) : spt w b < 25 ∧ onW w g (spt w b) ∧ clw w (spt w b) = b := spt_all w (by omega) g (by omega) b (by have := wg25 hw hg; omega) hb
/-- spots laid out: ropes up to i, tunes up to j -/
def LI (w g : Nat) (h0 : Hp) (i j : Nat) (h : Hp) : Prop :=
  ((∀ a k, a ≠ 10 → a ≠ 11 → a ≠ 12 → hi h a k = hi h0 a k) ∧ (∀ k, k ≠ 2 → k ≠ 3 → hi h 10 k = hi h0 10 k) ∧ ∀ k, hi h 12 k = hi h0 12 k) ∧
  (∀ b, b < 32 → (bt (hi h 10 2) b = true ↔ b < w * g ∧ spt w b < i ∧ bt (hi h0 2 12) (spt w b) = true)) ∧
  (∀ b, b < 32 → (bt (hi h 10 3) b = true ↔ b < w * g ∧ spt w b < j ∧ 0 < (hi h0 16 (spt w b)).toInt)) ∧
  (∀ b, b < w * g → spt w b < j → 0 < (hi h0 16 (spt w b)).toInt → (vp_nar .byte (hi h 11 b)).toInt = 8 * (hi h0 16 (spt w b)).toInt + (hi h0 17 (spt w b)).toInt) ∧
  (∀ c, c < i → bt (hi h0 2 12) c = true → onW w g c) ∧ ∀ c, c < j → 0 < (hi h0 16 c).toInt → onW w g c
theorem LI.rno {i j : Nat} (l : LI w g h0 i j h) (z : ¬ bt (hi h0 2 12) i = true) : LI w g h0 (i + 1) j h := by
  obtain ⟨l1, l2, l3, l4, l5, l6⟩ := l
  refine ⟨l1, fun b hb => ?_, l3, l4, fun c hc y => ?_, l6⟩
  · rw [l2 b hb]
    constructor
    · rintro ⟨x, y, u⟩; exact ⟨x, by omega, u⟩
    · rintro ⟨x, y, u⟩
      refine ⟨x, ?_, u⟩
      by_cases e : spt w b = i
      · rw [e] at u; exact absurd u z
      · omega
  · by_cases e : c = i
    · rw [e] at y; exact absurd y z
    · exact l5 c (by omega) y
theorem LI.tno {i j : Nat} (l : LI w g h0 i j h) (z : ¬ 0 < (hi h0 16 j).toInt) : LI w g h0 i (j + 1) h := by
  obtain ⟨l1, l2, l3, l4, l5, l6⟩ := l
  have ne {c : Nat} (y : 0 < (hi h0 16 c).toInt) : c ≠ j := fun e => by rw [e] at y; exact z y
  refine ⟨l1, l2, fun b hb => ?_, fun b hb h1 h2 => l4 b hb (by have := ne h2; omega) h2, l5, fun c hc y => l6 c (by have := ne y; omega) y⟩
  rw [l3 b hb]
  constructor
  · rintro ⟨x, y, u⟩; exact ⟨x, by omega, u⟩
  · rintro ⟨x, y, u⟩; exact ⟨x, by have := ne u; omega, u⟩
/-- a rope is laid out -/
theorem LI.rop (hw : w ≤ 5) (hg : g ≤ 5) {i j : Nat} (hi' : i < 25) (l : LI w g h0 i j h) (z : bt (hi h0 2 12) i = true) (o : onW w g i) {x : Int32} (hx : x.toInt = (clw w i : Nat)) : LI w g h0 (i + 1) j (wrI h 10 2 (hi h 10 2 ||| ((1 : Int32) <<< (x &&& 31)))) := by
  obtain ⟨l1, l2, l3, l4, l5, l6⟩ := l
  obtain ⟨c1, c2⟩ := clw_on hw hg hi' o
  have w25 := wg25 hw hg
  have nx := ncT (show 0 ≤ x.toInt by omega)
  have nx' : Int32.toNatClampNeg x = clw w i := by omega
  refine ⟨⟨fun a k h1 h2 h3 => by rw [hi_wrI, if_neg (by omega)]; exact l1.1 a k h1 h2 h3, fun k h1 h2 => by rw [hi_wrI, if_neg (by omega)]; exact l1.2.1 k h1 h2, fun k => by rw [hi_wrI, if_neg (by omega)]; exact l1.2.2 k⟩, fun b hb => ?_, fun b hb => ?_, fun b hb h1 h2 => ?_, fun c hc y => ?_, l6⟩
  · rw [hi_wrI, if_pos ⟨rfl, rfl⟩, bt_or, btL (by omega) (by omega) b, nx', Bool.or_eq_true, l2 b hb, decide_eq_true_eq]
    constructor
    · rintro (⟨x1, x2, x3⟩ | e)
      · exact ⟨x1, by omega, x3⟩
      · rw [e, c2]; exact ⟨c1, by omega, z⟩
    · rintro ⟨x1, x2, x3⟩
      by_cases e : spt w b = i
      · right
        have := (spt_on hw hg x1).2.2
        rw [e] at this
        exact this.symm
      · exact Or.inl ⟨x1, by omega, x3⟩
  · rw [hi_wrI, if_neg (by omega)]; exact l3 b hb
  · rw [hi_wrI, if_neg (by omega)]; exact l4 b hb h1 h2
  · by_cases e : c = i
    · rw [e]; exact o
    · exact l5 c (by omega) y
theorem byN {v : Int32} (h1 : 0 ≤ v.toInt) (h2 : v.toInt ≤ 127) : (vp_nar .byte (v.toInt8.toInt32)).toInt = v.toInt := by
  rw [vp_nar_byte, Int8.toInt8_toInt32, Int8.toInt_toInt32, Int32.toInt_toInt8]
  exact Int.bmod_eq_of_le (by omega) (by omega)
/-- a tune is laid out -/
theorem LI.tun (hw : w ≤ 5) (hg : g ≤ 5) {i j : Nat} (hj : j < 25) (l : LI w g h0 i j h) (o : onW w g j) {x y z : Int32} (hx : x.toInt = (clw w j : Nat)) (hy : y = hi h0 16 j) (hz : z = hi h0 17 j) (y2 : 2 ≤ y.toInt ∧ y.toInt ≤ 6) (z2 : 0 ≤ z.toInt ∧ z.toInt < y.toInt) : Pc (F_X8_soundIn n h 10 x y z) (LI w g h0 i (j + 1)) := by
  obtain ⟨l1, l2, l3, l4, l5, l6⟩ := l
  obtain ⟨c1, c2⟩ := clw_on hw hg hj o
  have w25 := wg25 hw hg
  have f0 := lit_0
  have f25 := lit_25
  have f8 := lit_8
  have nx := ncT (show 0 ≤ x.toInt by omega)
  have nx' : Int32.toNatClampNeg x = clw w j := by omega
  have m := mlT 8 y 8 f8 (by omega) (by omega)
  have a := adT (8 * y) z (by omega) (by omega)
  have tp : 0 < (hi h0 16 j).toInt := by rw [← hy]; omega
  unfold F_X8_soundIn
  rw [nx']
  refine Pc.lt (fun q => by exfalso; omega) (fun _ => Pc.le (fun q => by exfalso; omega) (fun _ => Pc.chk (fun _ => Pc.ret ?_)))
  have e3 (v : Int32) : hi (wrI h (10 + 1) (clw w j) v) 10 3 = hi h 10 3 := hiA rfl 10 3 (by decide)
  rw [e3]
  refine ⟨⟨fun a k h1 h2 h3 => by rw [hi_wrI, if_neg (by omega), hi_wrI, if_neg (by omega)]; exact l1.1 a k h1 h2 h3, fun k h1 h2 => by rw [hi_wrI, if_neg (by omega), hi_wrI, if_neg (by omega)]; exact l1.2.1 k h1 h2, fun k => by rw [hi_wrI, if_neg (by omega), hi_wrI, if_neg (by omega)]; exact l1.2.2 k⟩, fun b hb => ?_, fun b hb => ?_, fun b hb h1 h2 => ?_, l5, fun c hc q => ?_⟩
  · rw [hi_wrI, if_neg (by omega), hi_wrI, if_neg (by omega)]; exact l2 b hb
  · rw [hi_wrI, if_pos ⟨rfl, rfl⟩, bt_or, btL (by omega) (by omega) b, nx', Bool.or_eq_true, l3 b hb, decide_eq_true_eq]
    constructor
    · rintro (⟨x1, x2, x3⟩ | e)
      · exact ⟨x1, by omega, x3⟩
      · rw [e, c2]; exact ⟨c1, by omega, tp⟩
    · rintro ⟨x1, x2, x3⟩
      by_cases e : spt w b = j
      · right
        have := (spt_on hw hg x1).2.2
        rw [e] at this
        exact this.symm
      · exact Or.inl ⟨x1, by omega, x3⟩
  · rw [hi_wrI, if_neg (by omega), hi_wrI]
    by_cases e : b = clw w j
    · rw [if_pos ⟨rfl, e⟩, e, c2, byN (by omega) (by omega), ← hy, ← hz, a, m]
    · have ns : spt w b ≠ j := fun q => e (by have := (spt_on hw hg hb).2.2; rw [q] at this; exact this.symm)
      rw [if_neg (fun q => e q.2)]
      exact l4 b hb (by omega) h2
  · by_cases e : c = j
    · rw [e]; exact o
    · exact l6 c (by omega) q
/-- whether it lies on the lawn -/
theorem ly_on' {x : Int32} {k : Nat} (e0 : (hi h 4 0).toInt = (w : Int)) (e1 : (hi h 4 1).toInt = (g : Int)) (hk : k < 25) (hx : x.toInt = (k : Int)) : Pc (F_X7_onLawn n h x) (fun q => q.2 = h ∧ (q.1.toInt = 0 ↔ ¬ onW w g k)) := by
  refine ly_on.mono (fun q hq => ⟨hq.1, ?_⟩)
  rw [hq.2 k hk hx]
  unfold offC onW
  rw [e0, e1]
  omega
theorem ly_cell' {x : Int32} {k : Nat} (e0 : (hi h 4 0).toInt = (w : Int)) (hw : w ≤ 5) (hk : k < 25) (hx : x.toInt = (k : Int)) : Pc (F_X7_cellOf n h x) (fun q => q.2 = h ∧ q.1.toInt = (clw w k : Nat)) := by
  obtain ⟨m1, m2⟩ := mod5 x k hk hx
  have k5 : k / 5 ≤ 4 := by omega
  have wk : w * (k / 5) ≤ 20 := Nat.le_trans (Nat.mul_le_mul hw k5) (by decide)
  have m := mlT (hi h 4 0) (x / 5) (w : Int) e0 (by rw [m2]; omega) (by rw [m2, ← Int.natCast_mul]; omega)
  rw [m2, ← Int.natCast_mul] at m
  have a := adT (hi h 4 0 * (x / 5)) (x - x / 5 * 5) (by omega) (by omega)
  unfold F_X7_cellOf
  refine Pc.ret ⟨rfl, ?_⟩
  show (hi h 4 0 * (x / 5) + (x - x / 5 * 5)).toInt = _
  unfold clw
  omega
end LY
