section
/-! WHAT IS TOLD IS LAID OUT: the class -/
theorem nsn {α : Type} {x : α} (h : none = some x) : False := by cases h
def clw (w c : Nat) : Nat := w * (c / 5) + c % 5
def spt (w b : Nat) : Nat := 5 * (b / w) + b % w
def onW (w g c : Nat) : Prop := c % 5 < w ∧ c / 5 < g
theorem onW.nn {w g c : Nat} (h : ¬ ¬ onW w g c) : onW w g c := by
  unfold onW at *
  omega
def clwK (w g c : Nat) : Bool := !decide (c % 5 < w) || (!decide (c / 5 < g) || (decide (clw w c < w * g) && decide (spt w (clw w c) = c)))
theorem clwK_all : ∀ w, w < 6 → ∀ g, g < 6 → ∀ c, c < 25 → clwK w g c = true := by decide +kernel
theorem clw_all (w : Nat) (hw : w < 6) (g : Nat) (hg : g < 6) (c : Nat) (hc : c < 25) (h1 : c % 5 < w) (h2 : c / 5 < g) : clw w c < w * g ∧ spt w (clw w c) = c := by
  have q := clwK_all w hw g hg c hc
  unfold clwK at q
  rw [decide_eq_true h1, decide_eq_true h2] at q
  simp only [Bool.not_true, Bool.false_or, Bool.and_eq_true, decide_eq_true_eq] at q
  exact q
def sptK (w g b : Nat) : Bool := !decide (b < w * g) || (decide (spt w b < 25) && ((decide (spt w b % 5 < w) && decide (spt w b / 5 < g)) && decide (clw w (spt w b) = b)))
theorem sptK_all : ∀ w, w < 6 → ∀ g, g < 6 → ∀ b, b < 25 → sptK w g b = true := by decide +kernel
theorem spt_all (w : Nat) (hw : w < 6) (g : Nat) (hg : g < 6) (b : Nat) (hb : b < 25) (h1 : b < w * g) : spt w b < 25 ∧ (spt w b % 5 < w ∧ spt w b / 5 < g) ∧ clw w (spt w b) = b := by
  have q := sptK_all w hw g hg b hb
  unfold sptK at q
  rw [decide_eq_true h1] at q
  simp only [Bool.not_true, Bool.false_or, Bool.and_eq_true, decide_eq_true_eq] at q
  exact q
section LY
variable {w g : Nat} {h0 h : Hp} {n : Nat}
theorem clw_on (hw : w ≤ 5) (hg : g ≤ 5) {c : Nat} (hc : c < 25) (o : onW w g c) : clw w c < w * g ∧ spt w (clw w c) = c := clw_all w (by omega) g (by omega) c hc o.1 o.2
theorem wg25 (hw : w ≤ 5) (hg : g ≤ 5) : w * g ≤ 25 := Nat.le_trans (Nat.mul_le_mul hw hg) (by decide)
theorem spt_on (hw : w ≤ 5) (hg : g ≤ 5) {b : Nat} (hb : b < w * g) : spt w b < 25 ∧ onW w g (spt w b) ∧ clw w (spt w b) = b := spt_all w (by omega) g (by omega) b (by have := wg25 hw hg; omega) hb
/-- spots laid out: ropes up to i, tunes up to j -/
def LI (w g : Nat) (h0 : Hp) (i j : Nat) (h : Hp) : Prop :=
  ((∀ a k, a ≠ 10 → a ≠ 11 → a ≠ 12 → hi h a k = hi h0 a k) ∧ (∀ k, k ≠ 2 → k ≠ 3 → hi h 10 k = hi h0 10 k) ∧ ∀ k, hi h 12 k = hi h0 12 k) ∧
  (∀ b, b < 32 → (bt (hi h 10 2) b = true ↔ b < w * g ∧ spt w b < i ∧ bt (hi h0 2 12) (spt w b) = true)) ∧
  (∀ b, b < 32 → (bt (hi h 10 3) b = true ↔ b < w * g ∧ spt w b < j ∧ 0 < (hi h0 16 (spt w b)).toInt)) ∧
  (∀ b, b < w * g → spt w b < j → 0 < (hi h0 16 (spt w b)).toInt → (vp_nar .byte (hi h 11 b)).toInt = 8 * (hi h0 16 (spt w b)).toInt + (hi h0 17 (spt w b)).toInt) ∧
  (∀ c, c < i → bt (hi h0 2 12) c = true → onW w g c) ∧ ∀ c, c < j → 0 < (hi h0 16 c).toInt → onW w g c
theorem LI.rno {i j : Nat} (l : LI w g h0 i j h) (z : ¬ bt (hi h0 2 12) i = true) : LI w g h0 (i + 1) j h := by
  obtain ⟨l1, l2, l3, l4, l5, l6⟩ := l
  refine ⟨l1, fun b hb => ?_, l3, l4, fun c hc y => ?_, l6⟩
  · rw [l2 b hb]
    constructor
    · rintro ⟨x, y, u⟩; exact ⟨x, by omega, u⟩
    · rintro ⟨x, y, u⟩
      refine ⟨x, ?_, u⟩
      by_cases e : spt w b = i
      · rw [e] at u; exact absurd u z
      · omega
  · by_cases e : c = i
    · rw [e] at y; exact absurd y z
    · exact l5 c (by omega) y
theorem LI.tno {i j : Nat} (l : LI w g h0 i j h) (z : ¬ 0 < (hi h0 16 j).toInt) : LI w g h0 i (j + 1) h := by
  obtain ⟨l1, l2, l3, l4, l5, l6⟩ := l
  have ne {c : Nat} (y : 0 < (hi h0 16 c).toInt) : c ≠ j := fun e => by rw [e] at y; exact z y
  refine ⟨l1, l2, fun b hb => ?_, fun b hb h1 h2 => l4 b hb (by have := ne h2; omega) h2, l5, fun c hc y => l6 c (by have := ne y; omega) y⟩
  rw [l3 b hb]
  constructor
  · rintro ⟨x, y, u⟩; exact ⟨x, by omega, u⟩
  · rintro ⟨x, y, u⟩; exact ⟨x, by have := ne u; omega, u⟩
/-- a rope is laid out -/
theorem LI.rop (hw : w ≤ 5) (hg : g ≤ 5) {i j : Nat} (hi' : i < 25) (l : LI w g h0 i j h) (z : bt (hi h0 2 12) i = true) (o : onW w g i) {x : Int32} (hx : x.toInt = (clw w i : Nat)) : LI w g h0 (i + 1) j (wrI h 10 2 (hi h 10 2 ||| ((1 : Int32) <<< (x &&& 31)))) := by
  obtain ⟨l1, l2, l3, l4, l5, l6⟩ := l
  obtain ⟨c1, c2⟩ := clw_on hw hg hi' o
  have w25 := wg25 hw hg
  have nx := ncT (show 0 ≤ x.toInt by omega)
  have nx' : Int32.toNatClampNeg x = clw w i := by omega
  refine ⟨⟨fun a k h1 h2 h3 => by rw [hi_wrI, if_neg (by omega)]; exact l1.1 a k h1 h2 h3, fun k h1 h2 => by rw [hi_wrI, if_neg (by omega)]; exact l1.2.1 k h1 h2, fun k => by rw [hi_wrI, if_neg (by omega)]; exact l1.2.2 k⟩, fun b hb => ?_, fun b hb => ?_, fun b hb h1 h2 => ?_, fun c hc y => ?_, l6⟩
  · rw [hi_wrI, if_pos ⟨rfl, rfl⟩, bt_or, btL (by omega) (by omega) b, nx', Bool.or_eq_true, l2 b hb, decide_eq_true_eq]
    constructor
    · rintro (⟨x1, x2, x3⟩ | e)
      · exact ⟨x1, by omega, x3⟩
      · rw [e, c2]; exact ⟨c1, by omega, z⟩
    · rintro ⟨x1, x2, x3⟩
      by_cases e : spt w b = i
      · right
        have := (spt_on hw hg x1).2.2
        rw [e] at this
        exact this.symm
      · exact Or.inl ⟨x1, by omega, x3⟩
  · rw [hi_wrI, if_neg (by omega)]; exact l3 b hb
  · rw [hi_wrI, if_neg (by omega)]; exact l4 b hb h1 h2
  · by_cases e : c = i
    · rw [e]; exact o
    · exact l5 c (by omega) y
theorem byN {v : Int32} (h1 : 0 ≤ v.toInt) (h2 : v.toInt ≤ 127) : (vp_nar .byte (v.toInt8.toInt32)).toInt = v.toInt := by
  rw [vp_nar_byte, Int8.toInt8_toInt32, Int8.toInt_toInt32, Int32.toInt_toInt8]
  exact Int.bmod_eq_of_le (by omega) (by omega)
/-- a tune is laid out -/
theorem LI.tun (hw : w ≤ 5) (hg : g ≤ 5) {i j : Nat} (hj : j < 25) (l : LI w g h0 i j h) (o : onW w g j) {x y z : Int32} (hx : x.toInt = (clw w j : Nat)) (hy : y = hi h0 16 j) (hz : z = hi h0 17 j) (y2 : 2 ≤ y.toInt ∧ y.toInt ≤ 6) (z2 : 0 ≤ z.toInt ∧ z.toInt < y.toInt) : Pc (F_X8_soundIn n h 10 x y z) (LI w g h0 i (j + 1)) := by
  obtain ⟨l1, l2, l3, l4, l5, l6⟩ := l
  obtain ⟨c1, c2⟩ := clw_on hw hg hj o
  have w25 := wg25 hw hg
  have f0 := lit_0
  have f25 := lit_25
  have f8 := lit_8
  have nx := ncT (show 0 ≤ x.toInt by omega)
  have nx' : Int32.toNatClampNeg x = clw w j := by omega
  have m := mlT 8 y 8 f8 (by omega) (by omega)
  have a := adT (8 * y) z (by omega) (by omega)
  have tp : 0 < (hi h0 16 j).toInt := by rw [← hy]; omega
  unfold F_X8_soundIn
  rw [nx']
  refine Pc.lt (fun q => by exfalso; omega) (fun _ => Pc.le (fun q => by exfalso; omega) (fun _ => Pc.chk (fun _ => Pc.ret ?_)))
  have e3 (v : Int32) : hi (wrI h (10 + 1) (clw w j) v) 10 3 = hi h 10 3 := hiA rfl 10 3 (by decide)
  rw [e3]
  refine ⟨⟨fun a k h1 h2 h3 => by rw [hi_wrI, if_neg (by omega), hi_wrI, if_neg (by omega)]; exact l1.1 a k h1 h2 h3, fun k h1 h2 => by rw [hi_wrI, if_neg (by omega), hi_wrI, if_neg (by omega)]; exact l1.2.1 k h1 h2, fun k => by rw [hi_wrI, if_neg (by omega), hi_wrI, if_neg (by omega)]; exact l1.2.2 k⟩, fun b hb => ?_, fun b hb => ?_, fun b hb h1 h2 => ?_, l5, fun c hc q => ?_⟩
  · rw [hi_wrI, if_neg (by omega), hi_wrI, if_neg (by omega)]; exact l2 b hb
  · rw [hi_wrI, if_pos ⟨rfl, rfl⟩, bt_or, btL (by omega) (by omega) b, nx', Bool.or_eq_true, l3 b hb, decide_eq_true_eq]
    constructor
    · rintro (⟨x1, x2, x3⟩ | e)
      · exact ⟨x1, by omega, x3⟩
      · rw [e, c2]; exact ⟨c1, by omega, tp⟩
    · rintro ⟨x1, x2, x3⟩
      by_cases e : spt w b = j
      · right
        have := (spt_on hw hg x1).2.2
        rw [e] at this
        exact this.symm
      · exact Or.inl ⟨x1, by omega, x3⟩
  · rw [hi_wrI, if_neg (by omega), hi_wrI]
    by_cases e : b = clw w j
    · rw [if_pos ⟨rfl, e⟩, e, c2, byN (by omega) (by omega), ← hy, ← hz, a, m]
    · have ns : spt w b ≠ j := fun q => e (by have := (spt_on hw hg hb).2.2; rw [q] at this; exact this.symm)
      rw [if_neg (fun q => e q.2)]
      exact l4 b hb (by omega) h2
  · by_cases e : c = j
    · rw [e]; exact o
    · exact l6 c (by omega) q
/-- whether it lies on the lawn -/
theorem ly_on' {x : Int32} {k : Nat} (e0 : (hi h 4 0).toInt = (w : Int)) (e1 : (hi h 4 1).toInt = (g : Int)) (hk : k < 25) (hx : x.toInt = (k : Int)) : Pc (F_X7_onLawn n h x) (fun q => q.2 = h ∧ (q.1.toInt = 0 ↔ ¬ onW w g k)) := by
  refine ly_on.mono (fun q hq => ⟨hq.1, ?_⟩)
  rw [hq.2 k hk hx]
  unfold offC onW
  rw [e0, e1]
  omega
theorem ly_cell' {x : Int32} {k : Nat} (e0 : (hi h 4 0).toInt = (w : Int)) (hw : w ≤ 5) (hk : k < 25) (hx : x.toInt = (k : Int)) : Pc (F_X7_cellOf n h x) (fun q => q.2 = h ∧ q.1.toInt = (clw w k : Nat)) := by
  obtain ⟨m1, m2⟩ := mod5 x k hk hx
  have k5 : k / 5 ≤ 4 := by omega
  have wk : w * (k / 5) ≤ 20 := Nat.le_trans (Nat.mul_le_mul hw k5) (by decide)
  have m := mlT (hi h 4 0) (x / 5) (w : Int) e0 (by rw [m2]; omega) (by rw [m2, ← Int.natCast_mul]; omega)
  rw [m2, ← Int.natCast_mul] at m
  have a := adT (hi h 4 0 * (x / 5)) (x - x / 5 * 5) (by omega) (by omega)
  unfold F_X7_cellOf
  refine Pc.ret ⟨rfl, ?_⟩
  show (hi h 4 0 * (x / 5) + (x - x / 5 * 5)).toInt = _
  unfold clw
  omega
end LY
end
section
/-! WHAT IS TOLD IS LAID OUT: the class, all of it -/
section LZ
variable {w g : Nat} {h0 : Hp}
/-- what is laid out in the end -/
def LF (w g : Nat) (h0 q : Hp) : Prop :=
  ((∀ a k, a ≠ 10 → a ≠ 11 → a ≠ 12 → hi q a k = hi h0 a k) ∧ (∀ k, k ≠ 2 → k ≠ 3 → hi q 10 k = hi h0 10 k)) ∧
  (∀ b, b < 32 → (bt (hi q 10 2) b = true ↔ b < w * g ∧ bt (hi h0 2 12) (spt w b) = true)) ∧
  (∀ b, b < 32 → (bt (hi q 10 3) b = true ↔ b < w * g ∧ 0 < (hi h0 16 (spt w b)).toInt)) ∧
  (∀ b, b < w * g → 0 < (hi h0 16 (spt w b)).toInt → (vp_nar .byte (hi q 11 b)).toInt = 8 * (hi h0 16 (spt w b)).toInt + (hi h0 17 (spt w b)).toInt) ∧
  ((∀ c, c < 25 → bt (hi h0 2 12) c = true → onW w g c) ∧ ∀ c, c < 25 → 0 < (hi h0 16 c).toInt → onW w g c) ∧
  ∀ k : Nat, (k : Int) < (hi h0 3 2).toInt → k < 5 → onW w g (hi h0 15 k).toInt.toNat ∧ ¬ bt (hi h0 2 12) (hi h0 15 k).toInt.toNat = true ∧ (hi q 12 k).toInt = (clw w (hi h0 15 k).toInt.toNat : Nat)
theorem lo_goers (hw : w ≤ 5) (hg : g ≤ 5) (e0 : (hi h0 4 0).toInt = (w : Int)) (e1 : (hi h0 4 1).toInt = (g : Int)) (f6 : (hi h0 2 6).toInt = 0) (sp : ∀ k : Nat, (k : Int) < (hi h0 3 2).toInt → 0 ≤ (hi h0 15 k).toInt ∧ (hi h0 15 k).toInt ≤ 24) {x1 : Int32} {hS : Hp} (lS : LI w g h0 25 25 hS) : ∀ (n : Nat) (h : Hp) (l2 : Int32) (i : Nat), (∀ a k, a ≠ 12 → hi h a k = hi hS a k) → (∀ k : Nat, k < i → (k : Int) < (hi h0 3 2).toInt → onW w g (hi h0 15 k).toInt.toNat ∧ ¬ bt (hi h0 2 12) (hi h0 15 k).toInt.toNat = true ∧ (hi h 12 k).toInt = (clw w (hi h0 15 k).toInt.toNat : Nat)) → l2.toInt = (i : Int) → i ≤ 5 → Pc (W_X7_layOut n 128 h x1 l2) (fun q => ZC q → LF w g h0 q) := by
  have f0 := lit_0
  have f1 := lit_1
  have f5 := lit_5
  have f6' := lit_6'
  intro n
  induction n with
  | zero => intro h l2 i a b c d; exact Pc.no
  | succ n ih =>
    intro h l2 i a b c d
    obtain ⟨l1, l2', l3, l4, l5, l6⟩ := lS
    have r (x k : Nat) (m : x ≠ 10 ∧ x ≠ 11 ∧ x ≠ 12) : hi h x k = hi h0 x k := by rw [a x k m.2.2, l1.1 x k m.1 m.2.1 m.2.2]
    have fin (cc : ∀ k : Nat, (k : Int) < (hi h0 3 2).toInt → k < 5 → k < i) : LF w g h0 h := by
      refine ⟨⟨fun x k m1 m2 m3 => r x k ⟨m1, m2, m3⟩, fun k m1 m2 => by rw [a 10 k (by decide)]; exact l1.2.1 k m1 m2⟩, fun b' hb => ?_, fun b' hb => ?_, fun b' hb z => ?_, ⟨fun c' hc z => l5 c' hc z, fun c' hc z => l6 c' hc z⟩, fun k hk k5 => b k (cc k hk k5) hk⟩
      · rw [a 10 2 (by decide), l2' b' hb]
        exact ⟨fun z => ⟨z.1, z.2.2⟩, fun z => ⟨z.1, (spt_on hw hg z.1).1, z.2⟩⟩
      · rw [a 10 3 (by decide), l3 b' hb]
        exact ⟨fun z => ⟨z.1, z.2.2⟩, fun z => ⟨z.1, (spt_on hw hg z.1).1, z.2⟩⟩
      · rw [a 11 b' (by decide)]
        exact l4 b' hb (spt_on hw hg hb).1 z
    have n2 := ncT (show 0 ≤ l2.toInt by omega)
    have n2' : Int32.toNatClampNeg l2 = i := by omega
    rw [u_X7_layOut, n2', r 3 2 (by decide), r 15 i (by decide)]
    refine Pc.neg (by decide) (Pc.pos rfl ?_)
    refine Pc.le (fun z => Pc.ret (fun _ => fin (fun k hk _ => by omega))) (fun c1 => ?_)
    refine Pc.le (fun z => Pc.ret (fun _ => fin (fun k _ k5 => by omega))) (fun c2 => Pc.chk (fun _ => ?_))
    have s1 := sp i (by omega)
    have a1 := adT l2 1 (by omega) (by omega)
    obtain ⟨m, hm⟩ : ∃ m : Nat, (hi h0 15 i).toInt = (m : Int) := ⟨(hi h0 15 i).toInt.toNat, by omega⟩
    have m25 : m < 25 := by omega
    have em : (hi h0 15 i).toInt.toNat = m := by omega
    refine Pc.bind (ly_on' (w := w) (g := g) (k := m) (by rw [r 4 0 (by decide)]; exact e0) (by rw [r 4 1 (by decide)]; exact e1) m25 hm) (fun q hq => ?_)
    rw [hq.1]
    have bad : Pc ((F_X7_blame n h 6 x1).bind (fun q321 => ((F_X7_cellOf n q321 (hi h0 15 i)).bind (fun q323 => (if ixOK l2 5 = true then W_X7_layOut n 128 (wrI q323.2 12 i q323.1) x1 (l2 + 1) else none))))) (fun q => ZC q → LF w g h0 q) := by
      refine Pc.bind pc_blame (fun g' hg' => ?_)
      have e6 : hi g' 2 6 = 6 := (hg'.2.2.1 (by rw [r 2 6 (by decide)]; exact f6)).1
      have nz : ¬ ZC g' := fun z => by
        have := z.2
        rw [e6] at this
        omega
      refine Pc.bind ly_cell (fun q' hq' => Pc.chk (fun _ => ?_))
      refine (zv_X7_layOut _ _ _ _ _).mono (fun q m z => absurd ((((zc.rf _).w (by omega)).tr m).1 z) ?_)
      rw [hq']
      exact nz
    refine Pc.eq (fun _ => bad) (fun c3 => ?_)
    have on : onW w g m := onW.nn (fun z => c3 ((hq.2.mpr z).trans f0.symm))
    have rb := sh_bit (hi h 2 12) (hi h0 15 i) m m25 hm
    refine Pc.ite (fun c4 => ?_) (fun c4 => bad)
    have nr : ¬ bt (hi h0 2 12) m = true := by
      have := rb.mp c4
      rw [r 2 12 (by decide)] at this
      exact this
    refine Pc.bind (ly_cell' (w := w) (k := m) (by rw [r 4 0 (by decide)]; exact e0) hw m25 hm) (fun q' hq' => Pc.chk (fun _ => ?_))
    rw [hq'.1]
    refine ih _ (l2 + 1) (i + 1) (fun x k y => ?_) (fun k hk hk2 => ?_) (by omega) (by omega)
    · rw [hi_wrI, if_neg (fun z => y z.1)]; exact a x k y
    · by_cases e : k = i
      · rw [e, em, hi_wrI, if_pos ⟨rfl, rfl⟩]
        exact ⟨on, nr, hq'.2⟩
      · rw [hi_wrI, if_neg (fun z => e z.2)]
        exact b k (by omega) hk2
set_option maxHeartbeats 4000000 in
theorem lo_spots (hw : w ≤ 5) (hg : g ≤ 5) (e0 : (hi h0 4 0).toInt = (w : Int)) (e1 : (hi h0 4 1).toInt = (g : Int)) (f6 : (hi h0 2 6).toInt = 0) (sp : ∀ k : Nat, (k : Int) < (hi h0 3 2).toInt → 0 ≤ (hi h0 15 k).toInt ∧ (hi h0 15 k).toInt ≤ 24) (tb : ∀ c, c < 25 → 0 < (hi h0 16 c).toInt → (2 ≤ (hi h0 16 c).toInt ∧ (hi h0 16 c).toInt ≤ 6) ∧ 0 ≤ (hi h0 17 c).toInt ∧ (hi h0 17 c).toInt < (hi h0 16 c).toInt) {x1 : Int32} : ∀ (n : Nat) (h : Hp) (l2 : Int32) (i : Nat), LI w g h0 i i h → l2.toInt = (i : Int) → i ≤ 25 → Pc (W_X7_layOut n 2 h x1 l2) (fun q => ZC q → LF w g h0 q) := by
  have f0 := lit_0
  have f1 := lit_1
  have f25 := lit_25
  have f6' := lit_6'
  intro n
  induction n with
  | zero => intro h l2 i l a b; exact Pc.no
  | succ n ih =>
    intro h l2 i l a b
    have r (x k : Nat) (m : x ≠ 10 ∧ x ≠ 11 ∧ x ≠ 12) : hi h x k = hi h0 x k := l.1.1 x k m.1 m.2.1 m.2.2
    have n2 := ncT (show 0 ≤ l2.toInt by omega)
    have n2' : Int32.toNatClampNeg l2 = i := by omega
    rw [u_X7_layOut, n2', r 16 i (by decide)]
    refine Pc.pos rfl ?_
    refine Pc.le (fun c => ?_) (fun c => ?_)
    · have i25 : i = 25 := by omega
      subst i25
      exact lo_goers hw hg e0 e1 f6 sp l n h 0 0 (fun _ _ _ => rfl) (fun k hk => absurd hk (Nat.not_lt_zero k)) f0 (by decide)
    · have i25 : i < 25 := by omega
      have a1 := adT l2 1 (by omega) (by omega)
      have go (h' : Hp) (l' : LI w g h0 (i + 1) (i + 1) h') : Pc (W_X7_layOut n 2 h' x1 (l2 + 1)) (fun q => ZC q → LF w g h0 q) := ih h' (l2 + 1) (i + 1) l' (by omega) (by omega)
      have rb := sh_bit (hi h 2 12) l2 i i25 a
      rw [r 2 12 (by decide)] at rb
      have nzb (g' : Hp) (e6 : hi g' 2 6 = 6) : ¬ ZC g' := fun z => by
        have := z.2
        rw [e6] at this
        omega
      have on : Pc (F_X7_onLawn n h l2) (fun q => q.2 = h ∧ (q.1.toInt = 0 ↔ ¬ onW w g i)) := ly_on' (by rw [r 4 0 (by decide)]; exact e0) (by rw [r 4 1 (by decide)]; exact e1) i25 a
      have cl (h' : Hp) (y : hi h' 4 0 = hi h0 4 0) : Pc (F_X7_cellOf n h' l2) (fun q => q.2 = h' ∧ q.1.toInt = (clw w i : Nat)) := ly_cell' (by rw [y]; exact e0) hw i25 a
      have bl : Pc (F_X7_blame n h 6 x1) (fun g' => ¬ ZC g') := pc_blame.mono (fun g' hg' => nzb g' (hg'.2.2.1 (by rw [r 2 6 (by decide)]; exact f6)).1)
      -- behind a fault
      have ba (h' : Hp) (z : ¬ ZC h') : Pc (W_X7_layOut n 2 h' x1 (l2 + 1)) (fun q => ZC q → LF w g h0 q) := (zv_X7_layOut _ _ _ _ _).mono (fun q m y => absurd (m.1 y) z)
      have bt' (h' : Hp) (z : ¬ ZC h') : Pc ((F_X7_cellOf n h' l2).bind (fun q76 => (if ixOK l2 25 = true then (if ixOK l2 25 = true then ((F_X8_soundIn n q76.2 10 q76.1 (hi q76.2 16 i) (hi q76.2 17 i)).bind (fun q80 => W_X7_layOut n 2 q80 x1 (l2 + 1))) else none) else none))) (fun q => ZC q → LF w g h0 q) := by
        refine Pc.bind ly_cell (fun q hq => Pc.chk (fun _ => Pc.chk (fun _ => ?_)))
        rw [hq]
        exact Pc.bind zf_X8_soundIn (fun q' hq' => ba q' (fun y => z ((zc.fr hq' (by intro z; omega) (by intro z; omega)).1 y)))
      -- a tune
      have tu (h' : Hp) (l' : LI w g h0 (i + 1) i h') (o : onW w g i) (tp : 0 < (hi h0 16 i).toInt) : Pc ((F_X7_cellOf n h' l2).bind (fun q76 => (if ixOK l2 25 = true then (if ixOK l2 25 = true then ((F_X8_soundIn n q76.2 10 q76.1 (hi q76.2 16 i) (hi q76.2 17 i)).bind (fun q80 => W_X7_layOut n 2 q80 x1 (l2 + 1))) else none) else none))) (fun q => ZC q → LF w g h0 q) := by
        refine Pc.bind (cl h' (l'.1.1 4 0 (by decide) (by decide) (by decide))) (fun q hq => Pc.chk (fun _ => Pc.chk (fun _ => ?_)))
        rw [hq.1]
        have e16 := l'.1.1 16 i (by decide) (by decide) (by decide)
        have e17 := l'.1.1 17 i (by decide) (by decide) (by decide)
        have t2 := tb i i25 tp
        exact Pc.bind (LI.tun hw hg i25 l' o hq.2 e16 e17 (by rw [e16]; exact t2.1) (by rw [e16, e17]; exact t2.2)) (fun q' hq' => go q' hq')
      refine Pc.ite (fun c1 => ?_) (fun c1 => ?_)
      · have nr : ¬ bt (hi h0 2 12) i = true := rb.mp (by rw [r 2 12 (by decide)] at c1; exact c1)
        have lr := l.rno nr
        refine Pc.chk (fun _ => Pc.le (fun c2 => ?_) (fun c2 => ?_))
        · repeat (first | refine Pc.pos rfl ?_ | refine Pc.neg (show ¬ ((1 : Int32) = 0) by decide) ?_)
          exact go h (lr.tno (by omega))
        · repeat (first | refine Pc.pos rfl ?_ | refine Pc.neg (show ¬ ((1 : Int32) = 0) by decide) ?_)
          refine Pc.bind on (fun q hq => ?_)
          rw [hq.1]
          refine Pc.eq (fun c3 => ?_) (fun c3 => ?_)
          · refine Pc.bind bl (fun g' hg' => ?_)
            repeat (first | refine Pc.pos rfl ?_ | refine Pc.neg (show ¬ ((1 : Int32) = 0) by decide) ?_)
            exact bt' g' hg'
          · have o : onW w g i := onW.nn (fun z => c3 ((hq.2.mpr z).trans f0.symm))
            repeat (first | refine Pc.pos rfl ?_ | refine Pc.neg (show ¬ ((1 : Int32) = 0) by decide) ?_)
            exact tu h lr o (by omega)
      · have yr : bt (hi h0 2 12) i = true := by
          refine Decidable.not_not.mp (fun z => c1 ?_)
          rw [r 2 12 (by decide)]
          exact rb.mpr z
        refine Pc.chk (fun _ => Pc.le (fun c2 => ?_) (fun c2 => ?_))
        · repeat (first | refine Pc.pos rfl ?_ | refine Pc.neg (show ¬ ((1 : Int32) = 0) by decide) ?_)
          refine Pc.bind on (fun q hq => ?_)
          rw [hq.1]
          refine Pc.eq (fun c3 => ?_) (fun c3 => ?_)
          · refine Pc.bind bl (fun g' hg' => ?_)
            repeat (first | refine Pc.pos rfl ?_ | refine Pc.neg (show ¬ ((1 : Int32) = 0) by decide) ?_)
            exact ba g' hg'
          · have o : onW w g i := onW.nn (fun z => c3 ((hq.2.mpr z).trans f0.symm))
            repeat (first | refine Pc.pos rfl ?_ | refine Pc.neg (show ¬ ((1 : Int32) = 0) by decide) ?_)
            refine Pc.bind (cl h (r 4 0 (by decide))) (fun q' hq' => ?_)
            rw [hq'.1]
            repeat (first | refine Pc.pos rfl ?_ | refine Pc.neg (show ¬ ((1 : Int32) = 0) by decide) ?_)
            exact go _ ((l.rop hw hg i25 yr o hq'.2).tno (by omega))
        · repeat (first | refine Pc.pos rfl ?_ | refine Pc.neg (show ¬ ((1 : Int32) = 0) by decide) ?_)
          refine Pc.bind on (fun q hq => ?_)
          rw [hq.1]
          refine Pc.eq (fun c3 => ?_) (fun c3 => ?_)
          · refine Pc.bind bl (fun g' hg' => ?_)
            repeat (first | refine Pc.pos rfl ?_ | refine Pc.neg (show ¬ ((1 : Int32) = 0) by decide) ?_)
            exact bt' g' hg'
          · have o : onW w g i := onW.nn (fun z => c3 ((hq.2.mpr z).trans f0.symm))
            repeat (first | refine Pc.pos rfl ?_ | refine Pc.neg (show ¬ ((1 : Int32) = 0) by decide) ?_)
            refine Pc.bind (cl h (r 4 0 (by decide))) (fun q' hq' => ?_)
            rw [hq'.1]
            repeat (first | refine Pc.pos rfl ?_ | refine Pc.neg (show ¬ ((1 : Int32) = 0) by decide) ?_)
            exact tu _ (l.rop hw hg i25 yr o hq'.2) o (by omega)
theorem lo_out (hw : w ≤ 5) (hg : g ≤ 5) (e0 : (hi h0 4 0).toInt = (w : Int)) (e1 : (hi h0 4 1).toInt = (g : Int)) (f6 : (hi h0 2 6).toInt = 0) (sp : ∀ k : Nat, (k : Int) < (hi h0 3 2).toInt → 0 ≤ (hi h0 15 k).toInt ∧ (hi h0 15 k).toInt ≤ 24) (tb : ∀ c, c < 25 → 0 < (hi h0 16 c).toInt → (2 ≤ (hi h0 16 c).toInt ∧ (hi h0 16 c).toInt ≤ 6) ∧ 0 ≤ (hi h0 17 c).toInt ∧ (hi h0 17 c).toInt < (hi h0 16 c).toInt) (z2 : hi h0 10 2 = 0) (z3 : hi h0 10 3 = 0) {x1 : Int32} {n : Nat} : Pc (F_X7_layOut n h0 x1) (fun q => ZC q → LF w g h0 q) := by
  unfold F_X7_layOut
  refine lo_spots hw hg e0 e1 f6 sp tb n h0 0 0 ⟨⟨fun _ _ _ _ _ => rfl, fun _ _ _ => rfl, fun _ => rfl⟩, fun b hb => ?_, fun b hb => ?_, fun b hb h1 => absurd h1 (Nat.not_lt_zero _), fun c hc => absurd hc (Nat.not_lt_zero c), fun c hc => absurd hc (Nat.not_lt_zero c)⟩ lit_0 (by decide)
  · rw [z2, bt_zero]
    exact ⟨fun z => Bool.noConfusion z, fun z => absurd z.2.1 (Nat.not_lt_zero _)⟩
  · rw [z3, bt_zero]
    exact ⟨fun z => Bool.noConfusion z, fun z => absurd z.2.1 (Nat.not_lt_zero _)⟩
end LZ
end
section
/-! A WHOLE TEXT: the class -/
section CE
variable {h : Hp} {n : Nat}
theorem fill5_all {b : Nat} {x : Int32} : ∀ (n : Nat) (h : Hp) (l2 l3 : Int32) (i : Nat), l2.toInt = (i : Int) → l3.toInt = 5 → i ≤ 5 → (∀ k, k < i → hi h b k = x) → Pc (W_J7_fill_5 n 5 h b x l2 l3) (fun q => frA (fun a => a = b) h q ∧ ∀ k, k < 5 → hi q b k = x) := by
  have f1 := lit_1
  intro n
  induction n with
  | zero => intro h l2 l3 i a b' c d; exact Pc.no
  | succ n ih =>
    intro h l2 l3 i a b' c d
    have n2 := ncT (show 0 ≤ l2.toInt by omega)
    have n2' : Int32.toNatClampNeg l2 = i := by omega
    rw [u_J7_fill_5, n2']
    refine Pc.pos rfl ?_
    refine Pc.le (fun c1 => Pc.ret ⟨frA.rf h, fun k hk => d k (by omega)⟩) (fun c1 => Pc.chk (fun _ => ?_))
    have a1 := adT l2 1 (by omega) (by omega)
    refine (ih _ (l2 + 1) l3 (i + 1) (by omega) b' (by omega) (fun k hk => ?_)).mono (fun q hq => ⟨((frA.rf (A := fun a => a = b) h).w rfl).tr hq.1, hq.2⟩)
    rw [hi_wrI]
    by_cases e : k = i
    · rw [if_pos ⟨rfl, e⟩]
    · rw [if_neg (fun z => e z.2)]; exact d k (by omega)
theorem clr8 {a : Nat} : Pc (F_X8_clear n h a) (fun q => (hi q a 0 = 0 ∧ hi q a 1 = 0 ∧ hi q a 2 = 0 ∧ hi q a 3 = 0) ∧ (∀ k, k < 5 → hi q (a + 3) k = 0) ∧ frZ (fun x _ => x = a ∨ x = a + 3) h q) := by
  unfold F_X8_clear F_J7_fill_5
  refine Pc.bind (fill5_all n _ 0 5 0 lit_0 lit_5 (by decide) (fun k hk => absurd hk (Nat.not_lt_zero k))) (fun q hq => Pc.ret ⟨⟨?_, ?_, ?_, ?_⟩, hq.2, ?_⟩)
  · rw [hq.1.1 a 0 (by omega), hi_wrI, if_neg (by omega), hi_wrI, if_neg (by omega), hi_wrI, if_neg (by omega), hi_wrI, if_pos ⟨rfl, rfl⟩]
  · rw [hq.1.1 a 1 (by omega), hi_wrI, if_neg (by omega), hi_wrI, if_neg (by omega), hi_wrI, if_pos ⟨rfl, rfl⟩]
  · rw [hq.1.1 a 2 (by omega), hi_wrI, if_neg (by omega), hi_wrI, if_pos ⟨rfl, rfl⟩]
  · rw [hq.1.1 a 3 (by omega), hi_wrI, if_pos ⟨rfl, rfl⟩]
  · refine ⟨fun x k m => ?_, fun x k m => ?_⟩
    · rw [hq.1.1 x k (fun z => m (Or.inr z)), hi_wrI, if_neg (fun z => m (Or.inl z.1)), hi_wrI, if_neg (fun z => m (Or.inl z.1)), hi_wrI, if_neg (fun z => m (Or.inl z.1)), hi_wrI, if_neg (fun z => m (Or.inl z.1))]
    · rw [hq.1.2 x k]; rfl
theorem clr4 : Pc (F_X4_clear n h 5) (fun q => ctL (fun _ => none) 4 q ∧ frO h q) := by
  have f0 := lit_0
  unfold F_X4_clear
  have o0 : osN (wrI h 5 3 0) 0 := by
    unfold osN
    rw [hiE rfl]; exact f0
  have fr0 : frO h (wrI h 5 3 0) := ⟨fun a k n1 _ _ => by rw [hi_wrI, if_neg (by omega)], fun _ _ => rfl⟩
  refine Pc.bind (oa_begin (k := 0) lit_0 (by decide) o0) (fun q1 h1 => ?_)
  refine Pc.bind (oa_begin (k := 2) lit_2 (by decide) h1.2.1) (fun q3 h3 => ?_)
  refine Pc.bind (oa_add h3.2.1 (by decide)) (fun q5 h5 => ?_)
  refine Pc.bind (oa_add (s := 1) h5.1.1 (by decide)) (fun q7 h7 => ?_)
  refine Pc.bind (oa_begin (k := 1) (s := 2) lit_1 (by decide) h7.1.1) (fun q9 h9 => ?_)
  refine Pc.bind (oa_begin (k := 3) lit_3 (by decide) h9.2.1) (fun q11 h11 => ?_)
  refine Pc.bind (oa_add h11.2.1 (by decide)) (fun q13 h13 => ?_)
  refine Pc.bind (oa_add (s := 3) h13.1.1 (by decide)) (fun q15 h15 => Pc.ret ?_)
  have s7 (k : Nat) : hi q15 7 k = hi q11 7 k := by rw [h15.1.2.2.2 k, h13.1.2.2.2 k]
  have s7b (k : Nat) : hi q7 7 k = hi q3 7 k := by rw [h7.1.2.2.2 k, h5.1.2.2.2 k]
  have e0 : (hi q15 7 0).toInt = 0 := by
    rw [s7, h11.2.2.2.1 0 (by decide), h9.2.2.2.1 0 (by decide), s7b, h3.2.2.2.1 0 (by decide)]; exact h1.2.2.1
  have e1 : (hi q15 7 1).toInt = 2 := by
    rw [s7, h11.2.2.2.1 1 (by decide)]; exact h9.2.2.1
  have e2 : (hi q15 7 2).toInt = 0 := by
    rw [s7, h11.2.2.2.1 2 (by decide), h9.2.2.2.1 2 (by decide), s7b]; exact h3.2.2.1
  have e3 : (hi q15 7 3).toInt = 2 := by
    rw [s7]; exact h11.2.2.1
  have c11 (k : Nat) : hi q11 6 k = hi q7 6 k := by rw [h11.2.2.2.2 k, h9.2.2.2.2 k]
  have g0 : hi q15 6 0 = 0 := by
    rw [h15.1.2.2.1 0 (by decide), h13.1.2.2.1 0 (by decide), c11, h7.1.2.2.1 0 (by decide)]; exact h5.1.2.1.1
  have g1 : hi q15 6 1 = -15 := by
    rw [h15.1.2.2.1 1 (by decide), h13.1.2.2.1 1 (by decide), c11]; exact h7.1.2.1.1
  have g2 : hi q15 6 2 = 1 := by
    rw [h15.1.2.2.1 2 (by decide)]; exact h13.1.2.1.1
  have g3 : hi q15 6 3 = -15 := h15.1.2.1.1
  refine ⟨⟨h15.1.1, fun k hk => ?_⟩, (((((((fr0.tr h1.1).tr h3.1).tr h5.2).tr h7.2).tr h9.1).tr h11.1).tr h13.2).tr h15.2⟩
  rcases (show k = 0 ∨ k = 1 ∨ k = 2 ∨ k = 3 by omega) with rfl | rfl | rfl | rfl
  · exact ⟨0, e0, ⟨g0, g1, trivial⟩, by decide⟩
  · exact ⟨2, e1, ⟨g2, g3, trivial⟩, by decide⟩
  · exact ⟨0, e2, ⟨g0, g1, trivial⟩, by decide⟩
  · exact ⟨2, e3, ⟨g2, g3, trivial⟩, by decide⟩
theorem clr0 : Pc (F_X0_clear n h 3) (fun q => FLD q 4 4 4 ∧ ctL (fun _ => none) 4 q ∧ (hi q 3 2 = 0 ∧ hi q 3 3 = 0 ∧ hi q 3 4 = 0)) := by
  unfold F_X0_clear
  refine Pc.bind (fld_lay (w := 4) (g := 4) (by decide) (by decide) lit_4 lit_4) (fun q1 h1 => ?_)
  refine Pc.bind clr4 (fun q3 h3 => Pc.ret ⟨?_, ?_, ?_, ?_, ?_⟩)
  · have e (k : Nat) : hi (wrI (wrI (wrI q3 3 2 0) 3 3 0) 3 4 0) 4 k = hi q1 4 k := by
      rw [hi_wrI, if_neg (by omega), hi_wrI, if_neg (by omega), hi_wrI, if_neg (by omega), h3.2.1 4 k (by decide) (by decide) (by decide)]
    have := h1.1
    unfold FLD at this ⊢
    rw [e, e, e, e]
    exact this
  · exact h3.1.cg (by rw [hi_wrI, if_neg (by omega), hi_wrI, if_neg (by omega), hi_wrI, if_neg (by omega)]) (fun k => by rw [hi_wrI, if_neg (by omega), hi_wrI, if_neg (by omega), hi_wrI, if_neg (by omega)]) (fun k => by rw [hi_wrI, if_neg (by omega), hi_wrI, if_neg (by omega), hi_wrI, if_neg (by omega)])
  · rw [hi_wrI, if_neg (by decide), hi_wrI, if_neg (by decide), hi_wrI, if_pos ⟨rfl, rfl⟩]
  · rw [hi_wrI, if_neg (by decide), hi_wrI, if_pos ⟨rfl, rfl⟩]
  · rw [hi_wrI, if_pos ⟨rfl, rfl⟩]
/-- ahead of all: the draft and the scene -/
def cB0 (q : Hp) : Prop := cD TT0 0 q ∧ cS q 0 0 ∧ (hi q 2 6).toInt = 0 ∧ (hi q 10 0 = 0 ∧ hi q 10 1 = 0 ∧ hi q 10 2 = 0 ∧ hi q 10 3 = 0) ∧ ∀ k, k < 5 → hi q 13 k = 0
theorem vt0 : VT TT0 := by
  refine ⟨⟨⟨?_, ?_⟩, ?_, ?_⟩, ⟨Nat.zero_le 8, fun x hx => absurd hx List.not_mem_nil⟩, ⟨Nat.zero_le 5, fun x hx => absurd hx List.not_mem_nil⟩, ⟨Nat.zero_le 8, fun x hx => absurd hx List.not_mem_nil⟩, ⟨⟨?_, ?_⟩, ?_, ?_⟩, fun k b hb => absurd hb (fun z => nsn (show (none : Option LWS) = some b from z))⟩
  · show (2 : Int) ≤ 4; decide
  · show (4 : Int) ≤ 5; decide
  · show (2 : Int) ≤ 4; decide
  · show (4 : Int) ≤ 5; decide
  · show (0 : Int) ≤ 0; decide
  · show (0 : Int) ≤ 100; decide
  · show (0 : Int) ≤ 0; decide
  · show (0 : Int) ≤ 9999; decide
theorem clr7 : Pc (F_X7_clear n h) cB0 := by
  have f0 := lit_0
  unfold F_X7_clear F_J7_fill_25
  refine Pc.bind clr0 (fun q1 h1 => ?_)
  obtain ⟨a1, a2, a3, a4, a5⟩ := h1
  refine Pc.bind clr8 (fun q2 h2 => ?_)
  obtain ⟨⟨b1, b2, b3, b4⟩, b5, b6⟩ := h2
  refine Pc.bind (pc_fill25 n _ 0 25 0 f0 lit_25 (by decide) (fun k hk => absurd hk (Nat.not_lt_zero k))) (fun q3 h3 => Pc.ret ?_)
  obtain ⟨c1, c2⟩ := h3
  generalize eg : wrI (wrI (wrI q3 2 12 0) 2 13 0) 2 14 0 = g
  have rn (a k : Nat) (m : a ≠ 2) : hi g a k = hi q3 a k := by
    rw [← eg, hi_wrI, if_neg (by omega), hi_wrI, if_neg (by omega), hi_wrI, if_neg (by omega)]
  have rm (a k : Nat) (m : a ≠ 2) (m2 : a ≠ 16) : hi g a k = hi q2 a k := by
    rw [rn a k m, c1.1 a k m2, hi_wrI, if_neg (by omega), hi_wrI, if_neg (by omega), hi_wrI, if_neg (by omega), hi_wrI, if_neg (by omega), hi_wrI, if_neg (by omega)]
  have r1 (a k : Nat) (m : a ≠ 2) (m2 : a ≠ 16) (m3 : a ≠ 10 ∧ a ≠ 13) : hi g a k = hi q1 a k := by
    rw [rm a k m m2, b6.1 a k (fun (z : a = 10 ∨ a = 10 + 3) => by omega)]
  have r2 (k : Nat) (m : ¬ (k = 12 ∨ k = 13 ∨ k = 14)) : hi g 2 k = hi (wrI (wrI (wrI (wrI (wrI q2 2 2 (-1)) 2 4 0) 2 5 0) 2 6 0) 2 7 (-1)) 2 k := by
    rw [← eg, hi_wrI, if_neg (by omega), hi_wrI, if_neg (by omega), hi_wrI, if_neg (by omega)]
    exact c1.1 2 k (by decide)
  refine ⟨cD.mk' ?_ ⟨?_, fun c hc => ⟨fun _ => ?_, fun q hq => ?_⟩⟩ ⟨?_, fun g hg => absurd hg (Nat.not_lt_zero g)⟩ ⟨?_, fun c hc => ?_⟩ ⟨?_, ?_⟩ ⟨4, a2.cg (r1 5 3 (by decide) (by decide) (by decide)) (fun k => r1 6 k (by decide) (by decide) (by decide)) (fun k => r1 7 k (by decide) (by decide) (by decide)), by decide⟩ vt0, ⟨?_, ?_⟩, ?_, ⟨?_, ?_, ?_, ?_⟩, fun k hk => ?_⟩
  · show FLD g 4 4 4
    unfold FLD at a1 ⊢
    rw [r1 4 0 (by decide) (by decide) (by decide), r1 4 1 (by decide) (by decide) (by decide), r1 4 2 (by decide) (by decide) (by decide), r1 4 3 (by decide) (by decide) (by decide)]
    exact a1
  · rw [← eg, hi_wrI, if_neg (by decide), hi_wrI, if_pos ⟨rfl, rfl⟩]; exact f0
  · rw [rn 16 c (by decide), c2 c hc]; exact f0
  · exact absurd hq (fun z => nsn (show (none : Option (Int × Int)) = some q from z))
  · rw [r1 3 2 (by decide) (by decide) (by decide), a3]; exact f0
  · rw [← eg, hi_wrI, if_pos ⟨rfl, rfl⟩]; exact f0
  · rw [← eg, hi_wrI, if_neg (by decide), hi_wrI, if_neg (by decide), hi_wrI, if_pos ⟨rfl, rfl⟩, bt_zero]
    exact ⟨fun z => Bool.noConfusion z, fun ⟨p, p1, _⟩ => absurd p1 List.not_mem_nil⟩
  · rw [r1 3 3 (by decide) (by decide) (by decide), a4]; exact f0
  · rw [r1 3 4 (by decide) (by decide) (by decide), a5]; exact f0
  · rw [r2 5 (by decide), hi_wrI, if_neg (by omega), hi_wrI, if_neg (by omega), hi_wrI, if_pos ⟨rfl, rfl⟩]; exact f0
  · rw [r2 4 (by decide), hi_wrI, if_neg (by omega), hi_wrI, if_neg (by omega), hi_wrI, if_neg (by omega), hi_wrI, if_pos ⟨rfl, rfl⟩]; exact f0
  · rw [r2 6 (by decide), hi_wrI, if_neg (by omega), hi_wrI, if_pos ⟨rfl, rfl⟩]; exact f0
  · rw [rm 10 0 (by decide) (by decide)]; exact b1
  · rw [rm 10 1 (by decide) (by decide)]; exact b2
  · rw [rm 10 2 (by decide) (by decide)]; exact b3
  · rw [rm 10 3 (by decide) (by decide)]; exact b4
  · rw [rm 13 k (by decide) (by decide)]; exact b5 k hk
/-- the last tune of a spot is one of those told -/
theorem lastT_mem : ∀ {l : List ((Int × Int) × (Int × Int))} {c : Nat} {q : Int × Int}, lastT l c = some q → ∃ x ∈ l, x.2 = q ∧ x.1.1 + 5 * x.1.2 = (c : Int) := by
  intro l
  -- from the end
  have key : ∀ (r : List ((Int × Int) × (Int × Int))) (c : Nat) (q : Int × Int), lastT r.reverse c = some q → ∃ x ∈ r.reverse, x.2 = q ∧ x.1.1 + 5 * x.1.2 = (c : Int) := by
    intro r
    induction r with
    | nil => intro c q e; exact absurd e (fun z => nsn (show (none : Option (Int × Int)) = some q from z))
    | cons y r ih =>
      intro c q e
      rw [List.reverse_cons, lastT_snoc] at e
      rw [List.reverse_cons]
      by_cases z : y.1.1 + 5 * y.1.2 = (c : Int)
      · rw [if_pos z] at e
        exact ⟨y, List.mem_append_right _ (List.mem_singleton.mpr rfl), Option.some.inj e, z⟩
      · rw [if_neg z] at e
        obtain ⟨x, x1, x2⟩ := ih c q e
        exact ⟨x, List.mem_append_left _ x1, x2⟩
  intro c q e
  have := key l.reverse c q (by rw [List.reverse_reverse]; exact e)
  rw [List.reverse_reverse] at this
  exact this
/-- the scene that a text tells, at a -/
def ropeT (T : TT) (c : Nat) : Prop := ∃ p ∈ T.ro, p.1 + 5 * p.2 = (c : Int)
def wT (T : TT) : Nat := T.lw.1.toNat
def gT (T : TT) : Nat := T.lw.2.toNat
/-- the spot of the k-th goer -/
def gsT (T : TT) (k : Nat) : Nat := ((T.go.getD k (0, 0)).1 + 5 * (T.go.getD k (0, 0)).2).toNat
def SCF (T : TT) (a : Nat) (q : Hp) : Prop :=
  (hi q a 0 = 0 ∧ hi q a 1 = 0 ∧ ∀ k, k < 5 → hi q (a + 3) k = 0) ∧
  (∀ b, b < 32 → (bt (hi q a 2) b = true ↔ b < wT T * gT T ∧ ropeT T (spt (wT T) b))) ∧
  (∀ b, b < 32 → (bt (hi q a 3) b = true ↔ b < wT T * gT T ∧ lastT T.tn (spt (wT T) b) ≠ none)) ∧
  (∀ b p, b < wT T * gT T → lastT T.tn (spt (wT T) b) = some p → (vp_nar .byte (hi q (a + 1) b)).toInt = 8 * p.1 + p.2) ∧
  ∀ k, k < T.go.length → (hi q (a + 2) k).toInt = (clw (wT T) (gsT T k) : Nat)
/-- all lies on the lawn -/
def VLw (T : TT) : Prop := (∀ c, c < 25 → ropeT T c → onW (wT T) (gT T) c) ∧ (∀ c, c < 25 → lastT T.tn c ≠ none → onW (wT T) (gT T) c) ∧ ∀ k, k < T.go.length → onW (wT T) (gT T) (gsT T k) ∧ ¬ ropeT T (gsT T k)
/-- what the class's draft tells, at a band a and a scene b -/
def BDF (T : TT) (a : Nat) (q : Hp) : Prop := FLD q (a + 1) (wT T) (gT T) ∧ ((hi q a 2).toInt = (T.go.length : Int) ∧ (hi q a 3).toInt = T.ws.1 ∧ (hi q a 4).toInt = T.ws.2) ∧ ∃ S : Nat, (hi q (a + 2) 3).toInt = (S : Int) ∧ S ≤ 404 ∧ ∀ k, k < 4 → ∃ p : Nat, (hi q (a + 4) k).toInt = (p : Int) ∧ clO (hi q (a + 3)) S p (lawD T.la k).1 (lawD T.la k).2
def CF (T : TT) (q : Hp) : Prop := VT T ∧ VLw T ∧ BDF T 3 q ∧ SCF T 10 q
variable {N : Nat} {kd pl vl : Nat → Int}
theorem zx_kindOf {x1 : Int32} : Pc (F_X9_kindOf n h x1) (fun q => q.2 = h) := by
  unfold F_X9_kindOf
  exact Pc.ite (fun _ => Pc.ret rfl) (fun _ => Pc.ite (fun _ => Pc.ret rfl) (fun _ => Pc.chk (fun _ => Pc.ret rfl)))
theorem gs_lt {T : TT} (v : VT T) {k : Nat} (hk : k < T.go.length) : gsT T k < 25 ∧ ((gsT T k : Nat) : Int) = (T.go.getD k (0, 0)).1 + 5 * (T.go.getD k (0, 0)).2 := by
  have m : T.go.getD k (0, 0) ∈ T.go := by
    rw [List.getD_eq_getElem?_getD, List.getElem?_eq_getElem hk]
    exact List.getElem_mem hk
  have s := v.2.2.1.2 _ m
  unfold sp5 at s
  unfold gsT
  omega
/-- the end of the class's text: all laid out -/
theorem ct_end {t : Nat} (a : cX N kd pl vl t h) {T : TT} (d : cD T t h) (z1 : hi h 10 0 = 0 ∧ hi h 10 1 = 0 ∧ hi h 10 2 = 0 ∧ hi h 10 3 = 0) (z2 : ∀ k, k < 5 → hi h 13 k = 0) {x1 : Int32} : Pc ((F_X7_layOut n h x1).bind (fun q3 => some ((hi q3 2 6), (wrI q3 2 2 (hi q3 2 7))))) (fun q => q.1.toInt = 0 → CF T q.2) := by
  obtain ⟨⟨d1, d2, d3, d4, d5⟩, ⟨S, d6, d7⟩, d8⟩ := d
  have v := d8
  obtain ⟨⟨v1, v1b⟩, v2, v3, v4, v5, v6⟩ := d8
  have T2 := a.2.1.2
  have ew : ((wT T : Nat) : Int) = T.lw.1 := by unfold wT; omega
  have eg : ((gT T : Nat) : Int) = T.lw.2 := by unfold gT; omega
  have w5 : wT T ≤ 5 := by omega
  have g5 : gT T ≤ 5 := by omega
  have fl : FLD h 4 (wT T) (gT T) := d1
  have tp {c : Nat} (hc : c < 25) : 0 < (hi h 16 c).toInt ↔ lastT T.tn c ≠ none := by
    cases e : lastT T.tn c with
    | none =>
      have := (d2.2 c hc).1 e
      exact ⟨fun z => by omega, fun z => absurd rfl z⟩
    | some q =>
      obtain ⟨x, x1, x2, x3⟩ := lastT_mem e
      have := (d2.2 c hc).2 q e
      have b := (v2.2 x x1).2
      rw [x2] at b
      exact ⟨fun _ z => nsn z.symm, fun _ => by omega⟩
  have tb : ∀ c, c < 25 → 0 < (hi h 16 c).toInt → (2 ≤ (hi h 16 c).toInt ∧ (hi h 16 c).toInt ≤ 6) ∧ 0 ≤ (hi h 17 c).toInt ∧ (hi h 17 c).toInt < (hi h 16 c).toInt := by
    intro c hc z
    cases e : lastT T.tn c with
    | none => exact absurd e ((tp hc).mp z)
    | some q =>
      obtain ⟨x, x1, x2, x3⟩ := lastT_mem e
      have := (d2.2 c hc).2 q e
      have b := (v2.2 x x1).2
      rw [x2] at b
      rw [this.1, this.2]
      exact b
  have sg (k : Nat) (hk : (k : Int) < (hi h 3 2).toInt) : (hi h 15 k).toInt = (gsT T k : Nat) ∧ gsT T k < 25 := by
    have hk' : k < T.go.length := by have := d3.1; omega
    have := gs_lt v hk'
    rw [d3.2 k hk']
    omega
  have sp : ∀ k : Nat, (k : Int) < (hi h 3 2).toInt → 0 ≤ (hi h 15 k).toInt ∧ (hi h 15 k).toInt ≤ 24 := fun k hk => by
    have := sg k hk
    omega
  refine Pc.bind (fun q e => And.intro (lo_out w5 g5 fl.1 fl.2.1 a.2.2.2 sp tb z1.2.2.1 z1.2.2.2 q e) (ly_out (fun _ => sp) q e)) (fun q hq => Pc.ret (fun z => ?_))
  obtain ⟨q1, bb, q2, -⟩ := hq
  have f5 : (hi q 2 5).toInt = 0 := by
    rw [q2.1 2 5 (by decide) (by decide) (by decide) (by decide)]
    exact a.2.2.1.1
  obtain ⟨⟨l1, l2⟩, l3, l4, l5, ⟨l6, l7⟩, l8⟩ := q1 ⟨f5, z⟩
  show CF T (wrI q 2 2 (hi q 2 7))
  generalize eu : wrI q 2 2 (hi q 2 7) = u
  have ru (x k : Nat) (m : x ≠ 2) : hi u x k = hi q x k := hiA eu x k m
  have rh (x k : Nat) (m : x ≠ 2 ∧ x ≠ 10 ∧ x ≠ 11 ∧ x ≠ 12) : hi u x k = hi h x k := by rw [ru x k m.1, l1 x k m.2.1 m.2.2.1 m.2.2.2]
  have ro {c : Nat} (hc : c < 25) : bt (hi h 2 12) c = true ↔ ropeT T c := d4.2 c hc
  refine ⟨v, ⟨fun c hc z => l6 c hc ((ro hc).mpr z), fun c hc z => l7 c hc ((tp hc).mpr z), fun k hk => ?_⟩, ⟨?_, ⟨?_, ?_, ?_⟩, S, ?_, by omega, fun k hk => ?_⟩, ⟨?_, ?_, fun k hk => ?_⟩, fun b hb => ?_, fun b hb => ?_, fun b p hb hp => ?_, fun k hk => ?_⟩
  · have hk' : (k : Int) < (hi h 3 2).toInt := by have := d3.1; omega
    have s1 := sg k hk'
    have s2 := l8 k hk' (by have := v3.1; omega)
    have e : (hi h 15 k).toInt.toNat = gsT T k := by omega
    rw [e] at s2
    exact ⟨s2.1, fun y => s2.2.1 ((ro s1.2).mpr y)⟩
  · show FLD u 4 (wT T) (gT T)
    unfold FLD at fl ⊢
    rw [rh 4 0 (by decide), rh 4 1 (by decide), rh 4 2 (by decide), rh 4 3 (by decide)]
    exact fl
  · rw [rh 3 2 (by decide)]; exact d3.1
  · rw [rh 3 3 (by decide)]; exact d5.1
  · rw [rh 3 4 (by decide)]; exact d5.2
  · show (hi u 5 3).toInt = _
    rw [rh 5 3 (by decide)]; exact d6.1
  · obtain ⟨p, p1, p2⟩ := d6.2 k hk
    refine ⟨p, ?_, p2.cg (Nat.le_refl S) (fun j _ => rh 6 j (by omega))⟩
    show (hi u 7 k).toInt = _
    rw [rh 7 k (by omega)]; exact p1
  · rw [ru 10 0 (by decide), l2 0 (by decide) (by decide)]; exact z1.1
  · rw [ru 10 1 (by decide), l2 1 (by decide) (by decide)]; exact z1.2.1
  · show hi u 13 k = 0
    rw [rh 13 k (by omega)]; exact z2 k hk
  · rw [ru 10 2 (by decide), l3 b hb]
    exact ⟨fun y => ⟨y.1, (ro (spt_on w5 g5 y.1).1).mp y.2⟩, fun y => ⟨y.1, (ro (spt_on w5 g5 y.1).1).mpr y.2⟩⟩
  · rw [ru 10 3 (by decide), l4 b hb]
    exact ⟨fun y => ⟨y.1, (tp (spt_on w5 g5 y.1).1).mp y.2⟩, fun y => ⟨y.1, (tp (spt_on w5 g5 y.1).1).mpr y.2⟩⟩
  · show (vp_nar .byte (hi u 11 b)).toInt = _
    have c25 := (spt_on w5 g5 hb).1
    rw [ru 11 b (by omega), l5 b hb ((tp c25).mpr (by rw [hp]; exact Option.some_ne_none p))]
    have := (d2.2 (spt (wT T) b) c25).2 p hp
    rw [this.1, this.2]
  · have hk' : (k : Int) < (hi h 3 2).toInt := by have := d3.1; omega
    have s1 := sg k hk'
    have s2 := l8 k hk' (by have := v3.1; omega)
    have e : (hi h 15 k).toInt.toNat = gsT T k := by omega
    rw [e] at s2
    show (hi u 12 k).toInt = _
    rw [ru 12 k (by omega)]
    exact s2.2.2
/-- the class's text, from a statement on -/
theorem ct_loop (X : TX N kd pl vl) (vlr : ∀ t, kd t = 30 → 0 ≤ vl t ∧ vl t ≤ 9999) {x1 : Int32} : ∀ (n : Nat) (h : Hp) (l2 : Int32) (T : TT) (t : Nat), cX N kd pl vl t h → cD T t h → (hi h 10 0 = 0 ∧ hi h 10 1 = 0 ∧ hi h 10 2 = 0 ∧ hi h 10 3 = 0) → (∀ k, k < 5 → hi h 13 k = 0) → 0 ≤ l2.toInt → l2.toInt ≤ t → Pc (W_X7_readText n 14 h x1 l2) (fun q => q.1.toInt = 0 → ∃ m T' t', TLD kd vl m T t T' t' ∧ kd t' = 32 ∧ CF T' q.2) := by
  have f0 := lit_0
  have f1 := lit_1
  have f32 := lit_32
  have f4 := lit_400
  -- behind a fault the answer is none
  have bad : ∀ (n : Nat) (h : Hp) (l2 : Int32), Pc (W_X7_readText n 14 h x1 l2) (fun q => q.1.toInt = 0 → ZC h) := by
    intro n
    induction n with
    | zero => intro h l2; exact Pc.no
    | succ n ih =>
      intro h l2
      have lo (c : (hi h 2 5).toInt = (0 : Int32).toInt) : Pc ((F_X7_layOut n h x1).bind (fun q3 => some ((hi q3 2 6), (wrI q3 2 2 (hi q3 2 7))))) (fun q => q.1.toInt = 0 → ZC h) := by
        refine Pc.bind zb_X7_layOut (fun q hq => Pc.ret (fun z => ⟨by omega, hq.2.2 z⟩))
      have pl' (c : ¬ (hi h 2 5).toInt = (0 : Int32).toInt) : Pc ((F_X9_placeOf n h (hi h 2 4)).bind (fun q5 => some ((hi q5.2 2 5), (wrI q5.2 2 2 q5.1)))) (fun q => q.1.toInt = 0 → ZC h) := by
        refine Pc.bind zf_X9_placeOf (fun q hq => Pc.ret (fun z => ?_))
        have e : hi q.2 2 5 = hi h 2 5 := hq.1 2 5 (fun z => z)
        have z' : (hi q.2 2 5).toInt = 0 := z
        rw [e] at z'
        exfalso; omega
      rw [u_X7_readText]
      refine Pc.pos rfl ?_
      refine Pc.lt (fun _ => Pc.eq (fun c => lo c) (fun c => pl' c)) (fun _ => ?_)
      refine Pc.eq (fun c => ?_) (fun c => Pc.eq (fun c2 => lo c2) (fun c2 => pl' c2))
      unfold F_X7_kind
      refine Pc.bind (Q := fun q => q.2 = h) (Pc.bind (Q := fun q => q.2 = h) zx_kindOf (fun q hq => Pc.ret hq)) (fun q13 h13 => ?_)
      rw [h13]
      refine Pc.eq (fun _ => Pc.eq (fun c2 => lo c2) (fun c2 => pl' c2)) (fun _ => ?_)
      refine Pc.bind (Q := fun q => q.2 = h) (Pc.bind (Q := fun q => q.2 = h) zx_kindOf (fun q hq => Pc.ret hq)) (fun q21 h21 => ?_)
      rw [h21]
      exact Pc.bind zb_X7_readTell (fun q23 m => (ih q23 _).mono (fun q hq z => m.1 (hq z)))
  intro n
  induction n with
  | zero => intro h l2 T t a d z1 z2 b1 b2; exact Pc.no
  | succ n ih =>
    intro h l2 T t a d z1 z2 b1 b2
    have T2 := a.2.1.2
    have s1 := a.2.2.1.1
    rw [u_X7_readText]
    refine Pc.pos rfl ?_
    refine Pc.lt (fun c => by exfalso; omega) (fun _ => ?_)
    refine Pc.eq (fun _ => ?_) (fun c => by exfalso; omega)
    unfold F_X7_kind
    refine Pc.bind (Q := fun q => q.2 = h ∧ q.1.toInt = kd t) (Pc.bind (pc_kindOf X a.1 a.2.1 a.2.2.1.2) (fun q hq => Pc.ret hq)) (fun q13 h13 => ?_)
    rw [h13.1]
    refine Pc.eq (fun c1 => ?_) (fun c1 => ?_)
    · refine Pc.eq (fun _ => ?_) (fun c => by exfalso; omega)
      exact (ct_end a d z1 z2).mono (fun q hq z => ⟨0, T, t, ⟨rfl, rfl⟩, by have := h13.2; omega, hq z⟩)
    · refine Pc.bind (Q := fun q => q.2 = h ∧ q.1.toInt = kd t) (Pc.bind (pc_kindOf X a.1 a.2.1 a.2.2.1.2) (fun q hq => Pc.ret hq)) (fun q21 h21 => ?_)
      rw [h21.1]
      have a1 := adT l2 1 (by omega) (by omega)
      refine Pc.bind (qc_tell X vlr a d h21.2) (fun q23 hq => ?_)
      by_cases z : ZC q23
      · obtain ⟨T', t', o1, o2, o3, o4, o5⟩ := hq z
        refine (ih q23 (l2 + 1) T' t' o3 o4 ?_ (fun k hk => by rw [o5 13 k (Or.inr rfl)]; exact z2 k hk) (by omega) (by omega)).mono (fun q hq z => ?_)
        · rw [o5 10 0 (Or.inl rfl), o5 10 1 (Or.inl rfl), o5 10 2 (Or.inl rfl), o5 10 3 (Or.inl rfl)]; exact z1
        · obtain ⟨m, T'', t'', p1, p2, p3⟩ := hq z
          exact ⟨m + 1, T'', t'', ⟨T', t', o1, p1⟩, p2, p3⟩
      · exact (bad n q23 _).mono (fun q hq y => absurd (hq y) z)
end CE
end
section
/-! WHAT A TEXT TELLS: the reference, a statement each -/
theorem Pc.yt {α : Type} {o : Option α} {F : α → Hp} {A : α → Prop} {f : α → Option Hp} {P : Hp → Prop} (h1 : Pc o (fun x => ZR (F x) → A x)) (h2 : ∀ x, ZR (F x) → A x → Pc (f x) (fun q => ZR q → P q)) (h3 : ∀ x, Pc (f x) (fun q => zr (F x) q)) : Pc (o.bind f) (fun q => ZR q → P q) := by
  refine Pc.bind h1 (fun x a => ?_)
  by_cases z : ZR (F x)
  · exact h2 x z (a z)
  · exact (h3 x).mono (fun q m y => absurd (m.1 y) z)
/-- where the reference stands -/
def rX (N : Nat) (kd pl vl : Nat → Int) (s t B c : Nat) (h : Hp) : Prop := rlI N kd pl vl s t B c h ∧ (hi h 226 15).toInt = 0
def rtW (s : Nat) (p : Int × Int) (h : Hp) : Prop := (hi h 235 s).toInt = p.1 ∧ (hi h 236 s).toInt = p.2
def rtT (s : Nat) (l : List ((Int × Int) × (Int × Int))) (h : Hp) : Prop := (hi h 237 s).toInt = (l.length : Int) ∧ ∀ k, k < l.length → (hi h 238 (8 * s + k)).toInt = (l.getD k ((0, 0), (0, 0))).1.1 ∧ (hi h 239 (8 * s + k)).toInt = (l.getD k ((0, 0), (0, 0))).1.2 ∧ (hi h 240 (8 * s + k)).toInt = (l.getD k ((0, 0), (0, 0))).2.1 ∧ (hi h 241 (8 * s + k)).toInt = (l.getD k ((0, 0), (0, 0))).2.2
def rtG (s : Nat) (l : List (Int × Int)) (h : Hp) : Prop := (hi h 242 s).toInt = (l.length : Int) ∧ (hi h 226 20).toInt = (l.length : Int) ∧ ∀ k, k < l.length → (hi h 243 (5 * s + k)).toInt = (l.getD k (0, 0)).1 ∧ (hi h 244 (5 * s + k)).toInt = (l.getD k (0, 0)).2
def rtR (s : Nat) (l : List (Int × Int)) (h : Hp) : Prop := (hi h 245 s).toInt = (l.length : Int) ∧ ∀ k, k < l.length → (hi h 246 (8 * s + k)).toInt = (l.getD k (0, 0)).1 ∧ (hi h 247 (8 * s + k)).toInt = (l.getD k (0, 0)).2
def rtN (s : Nat) (p : Int × Int) (h : Hp) : Prop := (hi h 248 s).toInt = p.1 ∧ (hi h 249 s).toInt = p.2
/-- the laws: not told, or laid down below branch B and code c -/
def rtL (s : Nat) (f : Nat → Option LWS) (B c : Nat) (h : Hp) : Prop := ∀ k, k < 4 → (f k = none → (hi h 250 (4 * s + k)).toInt = (hi h 251 (4 * s + k)).toInt) ∧ ∀ b, f k = some b → ∃ D : Nat, (hi h 250 (4 * s + k)).toInt = (D : Int) ∧ (hi h 251 (4 * s + k)).toInt = ((D + b.1.length + 1 : Nat) : Int) ∧ D + b.1.length + 1 ≤ B ∧ rlB h c D b.1 b.2
def rD (s : Nat) (T : TT) (B c : Nat) (h : Hp) : Prop := (rtW s T.lw h ∧ rtT s T.tn h ∧ rtG s T.go h ∧ rtR s T.ro h ∧ rtN s T.ws h) ∧ rtL s T.la B c h ∧ T.tn.length ≤ 8 ∧ T.go.length ≤ 5 ∧ T.ro.length ≤ 8
section RDs
variable {h q : Hp} {s : Nat}
theorem rtW.cg {p : Int × Int} (a : rtW s p h) (e : hi q 235 s = hi h 235 s) (e2 : hi q 236 s = hi h 236 s) : rtW s p q := by unfold rtW at *; rw [e, e2]; exact a
theorem rtT.cg {l : List ((Int × Int) × (Int × Int))} (a : rtT s l h) (e : ∀ x k, 237 ≤ x → x ≤ 241 → hi q x k = hi h x k) : rtT s l q := ⟨by rw [e 237 _ (by decide) (by decide)]; exact a.1, fun k hk => by rw [e 238 _ (by decide) (by decide), e 239 _ (by decide) (by decide), e 240 _ (by decide) (by decide), e 241 _ (by decide) (by decide)]; exact a.2 k hk⟩
theorem rtG.cg {l : List (Int × Int)} (a : rtG s l h) (e : ∀ x k, 242 ≤ x → x ≤ 244 → hi q x k = hi h x k) (e2 : hi q 226 20 = hi h 226 20) : rtG s l q := ⟨by rw [e 242 _ (by decide) (by decide)]; exact a.1, by rw [e2]; exact a.2.1, fun k hk => by rw [e 243 _ (by decide) (by decide), e 244 _ (by decide) (by decide)]; exact a.2.2 k hk⟩
theorem rtR.cg {l : List (Int × Int)} (a : rtR s l h) (e : ∀ x k, 245 ≤ x → x ≤ 247 → hi q x k = hi h x k) : rtR s l q := ⟨by rw [e 245 _ (by decide) (by decide)]; exact a.1, fun k hk => by rw [e 246 _ (by decide) (by decide), e 247 _ (by decide) (by decide)]; exact a.2 k hk⟩
theorem rtN.cg {p : Int × Int} (a : rtN s p h) (e : hi q 248 s = hi h 248 s) (e2 : hi q 249 s = hi h 249 s) : rtN s p q := by unfold rtN at *; rw [e, e2]; exact a
theorem rtL.cg {f : Nat → Option LWS} {B c B' c' : Nat} (a : rtL s f B c h) (hB : B ≤ B') (hc : c ≤ c') (e0 : ∀ k, k < 4 → hi q 250 (4 * s + k) = hi h 250 (4 * s + k) ∧ hi q 251 (4 * s + k) = hi h 251 (4 * s + k)) (e1 : ∀ x j, 252 ≤ x → x ≤ 256 → j < B → hi q x j = hi h x j) (e2 : ∀ j, j < c → hi q 257 j = hi h 257 j ∧ hi q 258 j = hi h 258 j) : rtL s f B' c' q := by
  intro k hk
  rw [(e0 k hk).1, (e0 k hk).2]
  refine ⟨(a k hk).1, fun b hb => ?_⟩
  obtain ⟨D, d1, d2, d3, d4⟩ := (a k hk).2 b hb
  exact ⟨D, d1, d2, by omega, d4.cg hc (fun x j h1 h2 h3 h4 => e1 x j h1 h2 (by omega)) e2⟩
end RDs
section RS
variable {N : Nat} {kd pl vl : Nat → Int} {s t B c : Nat} {h : Hp} {n : Nat}
theorem rX.w (a : rX N kd pl vl s t B c h) {x k : Nat} {v : Int32} (hx : 233 ≤ x) : rX N kd pl vl s t B c (wrI h x k v) := by
  have e (y z : Nat) (n : y < 233) : hi (wrI h x k v) y z = hi h y z := by rw [hi_wrI, if_neg (by omega)]
  obtain ⟨⟨⟨a1, a2, a3, a4⟩, a5, a6, a7⟩, a8⟩ := a
  refine ⟨⟨⟨a1.cg ⟨fun z => e 229 z (by decide), fun z => e 230 z (by decide), fun z => e 231 z (by decide)⟩, a2, ?_, ?_⟩, ?_, ?_, ?_⟩, ?_⟩
  · unfold rT
    rw [e 226 13 (by decide), e 226 11 (by decide), e 226 14 (by decide)]
    exact a3
  · rw [e 226 12 (by decide)]; exact a4
  · rw [e 226 39 (by decide)]; exact a5
  · rw [e 226 45 (by decide)]; exact a6
  · rw [e 226 19 (by decide)]; exact a7
  · rw [e 226 15 (by decide)]; exact a8
theorem yz_must (X : TX N kd pl vl) (a : rX N kd pl vl s t B c h) {x1 : Int32} (k : Int) (hk : k ∈ vdL) (hx : x1.toInt = rk k) (k2 : k ≠ 32) : Pc (F_X12_must n h x1) (fun q => ZR q → rX N kd pl vl s (t + 1) B c q ∧ kd t = k ∧ frQ h q ∧ t < 400) := (rz_must X a.1 k hk hx k2).mono (fun q hq z => by
  obtain ⟨b1, b2, b3, b4⟩ := hq z.1
  exact ⟨⟨b1, z.2⟩, b2, b3, b4⟩)
theorem yz_goes (X : TX N kd pl vl) (a : rX N kd pl vl s t B c h) (k2 : kd t ≠ 32) : Pc (F_X12_goesOn n h) (fun q => ZR q → rX N kd pl vl s (t + 1) B c q ∧ frQ h q ∧ t < 400) := (rz_goes X a.1 k2).mono (fun q hq z => by
  obtain ⟨b1, b2, b3⟩ := hq z.1
  exact ⟨⟨b1, z.2⟩, b2, b3⟩)
theorem yz_num (X : TX N kd pl vl) (a : rX N kd pl vl s t B c h) {x1 x2 : Int32} {lo up : Int} (h1 : x1.toInt = lo) (h2 : x2.toInt = up) : Pc (F_X12_bounded n h x1 x2) (fun q => ZR q.2 → rX N kd pl vl s (t + 1) B c q.2 ∧ kd t = 30 ∧ frW h q.2 ∧ q.1.toInt = vl t) := by
  refine (rq_number (s := (0, t, 0, 0)) X a.1.1.1 a.1.1.2.1 ⟨a.1.1.2.2.1, fun _ => ⟨a.2, fun z => absurd rfl z⟩⟩ (x1 := x1) (x2 := x2)).mono (fun q hq z => ?_)
  obtain ⟨b1, b2, b3⟩ := hq
  rw [h1, h2] at b2 b3
  have z1 : (nbQ kd pl vl lo up (0, t, 0, 0)).1 = 0 := by have := b2.1.2.1; have := z.1; omega
  have n1 := nq_0 z1
  have T' := nb_in (s := (0, t, 0, 0)) X a.1.1.2.1 (lo := lo) (up := up)
  rw [n1.2.2] at T'
  have S' := b2.1
  rw [z1, n1.2.2] at S'
  refine ⟨⟨⟨⟨a.1.1.1.cg b1.rt, T', S', ?_⟩, ?_, ?_, ?_⟩, z.2⟩, n1.2.1, b1, b3 z1⟩
  · rw [b1.1 226 12 (by decide)]; exact a.1.1.2.2.2
  · rw [b1.1 226 39 (by decide)]; exact a.1.2.1
  · rw [b1.1 226 45 (by decide)]; exact a.1.2.2.1
  · rw [b1.1 226 19 (by decide)]; exact a.1.2.2.2
/-- a statement told: the reference -/
def rTell (N : Nat) (kd pl vl : Nat → Int) (s : Nat) (T : TT) (t : Nat) (q : Hp) : Prop := ∃ T' t' B' c', STP kd vl T t T' t' ∧ t < t' ∧ rX N kd pl vl s t' B' c' q ∧ rD s T' B' c' q
theorem snd_lt {α : Type} {l : List α} {x d : α} {k : Nat} (h : k < (l ++ [x]).length) : (k = l.length ∧ (l ++ [x]).getD k d = x) ∨ (k < l.length ∧ (l ++ [x]).getD k d = l.getD k d) := by
  have e : (l ++ [x]).length = l.length + 1 := by simp
  by_cases y : k = l.length
  · left
    refine ⟨y, ?_⟩
    rw [y, List.getD_eq_getElem?_getD, List.getElem?_append_right (Nat.le_refl _)]
    simp
  · right
    refine ⟨by omega, ?_⟩
    rw [List.getD_eq_getElem?_getD, List.getD_eq_getElem?_getD, List.getElem?_append_left (by omega)]
theorem side_n (a : rX N kd pl vl s t B c h) : Int32.toNatClampNeg (hi h 226 19) = s := by
  have := a.1.2.2.2
  have := ncT (show 0 ≤ (hi h 226 19).toInt by omega)
  omega
theorem yt_lawn (X : TX N kd pl vl) (a : rX N kd pl vl s t B c h) {T : TT} (d : rD s T B c h) (k9 : kd t = 9) : Pc ((F_X12_goesOn n h).bind (fun q3 => ((F_X12_bounded n q3 2 5).bind (fun q5 => (if ixOK (hi q3 226 19) 2 = true then ((F_X12_bounded n (wrI q5.2 235 (Int32.toNatClampNeg (hi q3 226 19)) q5.1) 2 5).bind (fun q8 => (if ixOK (hi (wrI q5.2 235 (Int32.toNatClampNeg (hi q3 226 19)) q5.1) 226 19) 2 = true then ((F_X12_must n (wrI q8.2 236 (Int32.toNatClampNeg (hi (wrI q5.2 235 (Int32.toNatClampNeg (hi q3 226 19)) q5.1) 226 19)) q8.1) 4).bind (fun q11 => some q11)) else none))) else none))))) (fun q => ZR q → rTell N kd pl vl s T t q) := by
  refine Pc.yt (yz_goes X a (by omega)) (fun q3 _ b => ?_) (fun q => ?_)
  rotate_left
  · (repeat (first | refine Pc.ite (fun _ => ?_) (fun _ => ?_) | exact Pc.no | refine Pc.yb zb_X12_must (fun _ => ?_) | refine Pc.yb zb_X12_bounded (fun _ => ?_) | refine Pc.yb zb_X12_goesOn (fun _ => ?_) | refine Pc.yb zb_X12_tellLaw (fun _ => ?_) | refine Pc.yb zb_X12_tellTune (fun _ => ?_) | refine Pc.yb zb_X12_tellGoer (fun _ => ?_) | refine Pc.yb zb_X12_tellRope (fun _ => ?_) | refine Pc.yb ((zb_X12_must).mono (fun _ m => (((zr.rf _).w (by omega)).tr m))) (fun _ => ?_) | refine Pc.yb ((zb_X12_bounded).mono (fun _ m => (((zr.rf _).w (by omega)).tr m))) (fun _ => ?_) | exact Pc.ret (zr.rf _) | exact Pc.ret ((zr.rf _).w (by omega)) | exact Pc.ret (((zr.rf _).w (by omega)).w (by omega)) | exact Pc.ret (((zr.rf _).wL.w (by omega)).w (by omega))))
  obtain ⟨b1, b2, b3⟩ := b
  rw [side_n b1]
  refine Pc.yt (yz_num X b1 lit_2 lit_5) (fun q5 _ e => ?_) (fun q => ?_)
  rotate_left
  · (repeat (first | refine Pc.ite (fun _ => ?_) (fun _ => ?_) | exact Pc.no | refine Pc.yb zb_X12_must (fun _ => ?_) | refine Pc.yb zb_X12_bounded (fun _ => ?_) | refine Pc.yb zb_X12_goesOn (fun _ => ?_) | refine Pc.yb zb_X12_tellLaw (fun _ => ?_) | refine Pc.yb zb_X12_tellTune (fun _ => ?_) | refine Pc.yb zb_X12_tellGoer (fun _ => ?_) | refine Pc.yb zb_X12_tellRope (fun _ => ?_) | refine Pc.yb ((zb_X12_must).mono (fun _ m => (((zr.rf _).w (by omega)).tr m))) (fun _ => ?_) | refine Pc.yb ((zb_X12_bounded).mono (fun _ m => (((zr.rf _).w (by omega)).tr m))) (fun _ => ?_) | exact Pc.ret (zr.rf _) | exact Pc.ret ((zr.rf _).w (by omega)) | exact Pc.ret (((zr.rf _).w (by omega)).w (by omega)) | exact Pc.ret (((zr.rf _).wL.w (by omega)).w (by omega))))
  obtain ⟨e1, e2, e3, e4⟩ := e
  refine Pc.chk (fun _ => ?_)
  have w5 := e1.w (x := 235) (k := s) (v := q5.1) (by decide)
  rw [side_n w5]
  refine Pc.yt (yz_num X w5 lit_2 lit_5) (fun q8 _ g => ?_) (fun q => ?_)
  rotate_left
  · (repeat (first | refine Pc.ite (fun _ => ?_) (fun _ => ?_) | exact Pc.no | refine Pc.yb zb_X12_must (fun _ => ?_) | refine Pc.yb zb_X12_bounded (fun _ => ?_) | refine Pc.yb zb_X12_goesOn (fun _ => ?_) | refine Pc.yb zb_X12_tellLaw (fun _ => ?_) | refine Pc.yb zb_X12_tellTune (fun _ => ?_) | refine Pc.yb zb_X12_tellGoer (fun _ => ?_) | refine Pc.yb zb_X12_tellRope (fun _ => ?_) | refine Pc.yb ((zb_X12_must).mono (fun _ m => (((zr.rf _).w (by omega)).tr m))) (fun _ => ?_) | refine Pc.yb ((zb_X12_bounded).mono (fun _ m => (((zr.rf _).w (by omega)).tr m))) (fun _ => ?_) | exact Pc.ret (zr.rf _) | exact Pc.ret ((zr.rf _).w (by omega)) | exact Pc.ret (((zr.rf _).w (by omega)).w (by omega)) | exact Pc.ret (((zr.rf _).wL.w (by omega)).w (by omega))))
  obtain ⟨g1, g2, g3, g4⟩ := g
  refine Pc.chk (fun _ => ?_)
  refine Pc.bind (yz_must X (g1.w (x := 236) (k := s) (v := q8.1) (by decide)) 59 (by decide) (by decide) (by decide)) (fun q hq => Pc.ret (fun z => ?_))
  obtain ⟨i1, i2, i3, i4⟩ := hq z
  have r (x k : Nat) (m : 227 ≤ x ∧ x ≠ 235 ∧ x ≠ 236) : hi q x k = hi h x k := by
    rw [i3.1 x k (by omega), hi_wrI, if_neg (by omega), g3.1 x k (by omega), hi_wrI, if_neg (by omega), e3.1 x k (by omega), b2.1 x k (by omega)]
  have r20 : hi q 226 20 = hi h 226 20 := by
    rw [i3.1 226 20 (by decide), hi_wrI, if_neg (by omega), g3.1 226 20 (by decide), hi_wrI, if_neg (by omega), e3.1 226 20 (by decide), b2.1 226 20 (by decide)]
  obtain ⟨⟨d1, d2, d3, d4, d5⟩, d6, d7⟩ := d
  refine ⟨TT.mk (vl (t + 1), vl (t + 2)) T.tn T.go T.ro T.ws T.la, t + 4, B, c, Or.inl ⟨k9, rfl, rfl⟩, by omega, i1, ⟨⟨?_, ?_⟩, d2.cg (fun x k h1 h2 => r x k (by omega)), d3.cg (fun x k h1 h2 => r x k (by omega)) r20, d4.cg (fun x k h1 h2 => r x k (by omega)), d5.cg (r 248 s (by omega)) (r 249 s (by omega))⟩, d6.cg (Nat.le_refl B) (Nat.le_refl c) (fun k _ => ⟨r 250 _ (by omega), r 251 _ (by omega)⟩) (fun x j h1 h2 _ => r x j (by omega)) (fun j _ => ⟨r 257 j (by omega), r 258 j (by omega)⟩), d7⟩
  · rw [i3.1 235 s (by omega), hi_wrI, if_neg (by omega), g3.1 235 s (by omega), hi_wrI, if_pos ⟨rfl, rfl⟩]; exact e4
  · rw [i3.1 236 s (by omega), hi_wrI, if_pos ⟨rfl, rfl⟩]; exact g4
theorem yt_one (X : TX N kd pl vl) (a : rX N kd pl vl s t B c h) {T : TT} (d : rD s T B c h) {lo up : Int32} (k : Int) (hk : kd t = k) {b : Nat} (hb : (k = 17 ∧ b = 248) ∨ (k = 18 ∧ b = 249)) : Pc ((F_X12_goesOn n h).bind (fun q131 => ((F_X12_bounded n q131 lo up).bind (fun q133 => (if ixOK (hi q131 226 19) 2 = true then ((F_X12_must n (wrI q133.2 b (Int32.toNatClampNeg (hi q131 226 19)) q133.1) 4).bind (fun q136 => some q136)) else none))))) (fun q => ZR q → rTell N kd pl vl s T t q) := by
  refine Pc.yt (yz_goes X a (by omega)) (fun q3 _ e => ?_) (fun q => ?_)
  rotate_left
  · (repeat (first | refine Pc.ite (fun _ => ?_) (fun _ => ?_) | exact Pc.no | refine Pc.yb zb_X12_must (fun _ => ?_) | refine Pc.yb zb_X12_bounded (fun _ => ?_) | refine Pc.yb zb_X12_goesOn (fun _ => ?_) | refine Pc.yb zb_X12_tellLaw (fun _ => ?_) | refine Pc.yb zb_X12_tellTune (fun _ => ?_) | refine Pc.yb zb_X12_tellGoer (fun _ => ?_) | refine Pc.yb zb_X12_tellRope (fun _ => ?_) | refine Pc.yb ((zb_X12_must).mono (fun _ m => (((zr.rf _).w (by omega)).tr m))) (fun _ => ?_) | refine Pc.yb ((zb_X12_bounded).mono (fun _ m => (((zr.rf _).w (by omega)).tr m))) (fun _ => ?_) | exact Pc.ret (zr.rf _) | exact Pc.ret ((zr.rf _).w (by omega)) | exact Pc.ret (((zr.rf _).w (by omega)).w (by omega)) | exact Pc.ret (((zr.rf _).wL.w (by omega)).w (by omega))))
  obtain ⟨b1, b2, b3⟩ := e
  rw [side_n b1]
  refine Pc.yt (yz_num X b1 rfl rfl) (fun q5 _ e => ?_) (fun q => ?_)
  rotate_left
  · (repeat (first | refine Pc.ite (fun _ => ?_) (fun _ => ?_) | exact Pc.no | refine Pc.yb zb_X12_must (fun _ => ?_) | refine Pc.yb zb_X12_bounded (fun _ => ?_) | refine Pc.yb zb_X12_goesOn (fun _ => ?_) | refine Pc.yb zb_X12_tellLaw (fun _ => ?_) | refine Pc.yb zb_X12_tellTune (fun _ => ?_) | refine Pc.yb zb_X12_tellGoer (fun _ => ?_) | refine Pc.yb zb_X12_tellRope (fun _ => ?_) | refine Pc.yb ((zb_X12_must).mono (fun _ m => (((zr.rf _).w (by omega)).tr m))) (fun _ => ?_) | refine Pc.yb ((zb_X12_bounded).mono (fun _ m => (((zr.rf _).w (by omega)).tr m))) (fun _ => ?_) | exact Pc.ret (zr.rf _) | exact Pc.ret ((zr.rf _).w (by omega)) | exact Pc.ret (((zr.rf _).w (by omega)).w (by omega)) | exact Pc.ret (((zr.rf _).wL.w (by omega)).w (by omega))))
  obtain ⟨e1, e2, e3, e4⟩ := e
  refine Pc.chk (fun _ => ?_)
  refine Pc.bind (yz_must X (e1.w (x := b) (k := s) (v := q5.1) (by omega)) 59 (by decide) (by decide) (by decide)) (fun q hq => Pc.ret (fun z => ?_))
  obtain ⟨i1, i2, i3, i4⟩ := hq z
  have r (x k : Nat) (m : 227 ≤ x ∧ x ≠ b) : hi q x k = hi h x k := by
    rw [i3.1 x k (by omega), hi_wrI, if_neg (by omega), e3.1 x k (by omega), b2.1 x k (by omega)]
  have r20 : hi q 226 20 = hi h 226 20 := by
    rw [i3.1 226 20 (by decide), hi_wrI, if_neg (by omega), e3.1 226 20 (by decide), b2.1 226 20 (by decide)]
  have rb : hi q b s = q5.1 := by rw [i3.1 b s (by omega), hi_wrI, if_pos ⟨rfl, rfl⟩]
  obtain ⟨⟨d1, d2, d3, d4, d5⟩, d6, d7⟩ := d
  have e1' := d1.cg (q := q) (r 235 s (by omega)) (r 236 s (by omega))
  have e2' := d2.cg (q := q) (fun x k h1 h2 => r x k (by omega))
  have e3' := d3.cg (q := q) (fun x k h1 h2 => r x k (by omega)) r20
  have e4' := d4.cg (q := q) (fun x k h1 h2 => r x k (by omega))
  have e6' := d6.cg (q := q) (Nat.le_refl B) (Nat.le_refl c) (fun k _ => ⟨r 250 _ (by omega), r 251 _ (by omega)⟩) (fun x j h1 h2 _ => r x j (by omega)) (fun j _ => ⟨r 257 j (by omega), r 258 j (by omega)⟩)
  rcases hb with ⟨y1, y2⟩ | ⟨y1, y2⟩
  · subst y2
    refine ⟨TT.mk T.lw T.tn T.go T.ro (vl (t + 1), T.ws.2) T.la, t + 3, B, c, Or.inr (Or.inr (Or.inr (Or.inr (Or.inl ⟨by omega, rfl, rfl⟩)))), by omega, i1, ⟨e1', e2', e3', e4', ⟨by rw [rb]; exact e4, by rw [r 249 s (by omega)]; exact d5.2⟩⟩, e6', d7⟩
  · subst y2
    refine ⟨TT.mk T.lw T.tn T.go T.ro (T.ws.1, vl (t + 1)) T.la, t + 3, B, c, Or.inr (Or.inr (Or.inr (Or.inr (Or.inr (Or.inl ⟨by omega, rfl, rfl⟩))))), by omega, i1, ⟨e1', e2', e3', e4', ⟨by rw [r 248 s (by omega)]; exact d5.1, by rw [rb]; exact e4⟩⟩, e6', d7⟩
/-- room for one more -/
theorem yz_room (X : TX N kd pl vl) (a : rX N kd pl vl s t B c h) (k2 : kd t ≠ 32) {x1 x2 : Int32} : Pc (F_X12_roomFor n h x1 x2) (fun q => ZR q → rX N kd pl vl s (t + 1) B c q ∧ frQ h q ∧ t < 400 ∧ x1.toInt ≠ x2.toInt) := by
  have f0 := lit_0
  have f2 := lit_2
  have s1 := a.1.1.2.2.1.2.1
  unfold F_X12_roomFor
  refine Pc.eq (fun e => ?_) (fun e => ?_)
  · refine Pc.bind (pr_fail a.1.1.1 a.1.1.2.1 a.1.1.2.2.1 (by decide)) (fun q5 h5 => ?_)
    have s5 := h5.2
    rw [if_pos rfl, f2] at s5
    have g1 := s5.2.1
    refine Pc.eq (fun c3 => by exfalso; omega) (fun c3 => Pc.ret (fun z => ?_))
    exfalso
    have := z.1
    omega
  · refine Pc.eq (fun _ => ?_) (fun c3 => by exfalso; omega)
    exact Pc.bind (yz_goes X a k2) (fun q3 h3 => Pc.ret (fun z => ⟨(h3 z).1, (h3 z).2.1, (h3 z).2.2, e⟩))
theorem yt_rope (X : TX N kd pl vl) (a : rX N kd pl vl s t B c h) {T : TT} (d : rD s T B c h) (l8 : T.ro.length < 8) (hs : s ≤ 1) {g : Hp} (ag : rX N kd pl vl s (t + 1) B c g) (fg : frQ h g) (k12 : kd t = 12) : Pc (F_X12_tellRope n g) (fun q => ZR q → rTell N kd pl vl s T t q) := by
  have f1 := lit_1
  have f8 := lit_8
  obtain ⟨⟨d1, d2, d3, d4, d5⟩, d6, d7⟩ := d
  have l0 := d4.1
  have g45 : hi g 245 s = hi h 245 s := fg.1 245 s (by omega)
  have g19 := ag.1.2.2.2
  unfold F_X12_tellRope
  rw [side_n ag, g45]
  have m8 := mlT 8 (hi g 226 19) 8 f8 (by omega) (by omega)
  have ad := adT (8 * hi g 226 19) (hi h 245 s) (by omega) (by omega)
  have nn := ncT (show 0 ≤ (8 * hi g 226 19 + hi h 245 s).toInt by omega)
  have nn' : Int32.toNatClampNeg (8 * hi g 226 19 + hi h 245 s) = 8 * s + T.ro.length := by omega
  rw [nn']
  refine Pc.chk (fun _ => ?_)
  refine Pc.yt (yz_num X ag lit_0 lit_4) (fun q2 _ e => ?_) (fun q => ?_)
  rotate_left
  · (repeat (first | refine Pc.ite (fun _ => ?_) (fun _ => ?_) | exact Pc.no | refine Pc.yb zb_X12_must (fun _ => ?_) | refine Pc.yb zb_X12_bounded (fun _ => ?_) | refine Pc.yb zb_X12_goesOn (fun _ => ?_) | refine Pc.yb zb_X12_tellLaw (fun _ => ?_) | refine Pc.yb zb_X12_tellTune (fun _ => ?_) | refine Pc.yb zb_X12_tellGoer (fun _ => ?_) | refine Pc.yb zb_X12_tellRope (fun _ => ?_) | refine Pc.yb ((zb_X12_must).mono (fun _ m => (((zr.rf _).w (by omega)).tr m))) (fun _ => ?_) | refine Pc.yb ((zb_X12_bounded).mono (fun _ m => (((zr.rf _).w (by omega)).tr m))) (fun _ => ?_) | exact Pc.ret (zr.rf _) | exact Pc.ret ((zr.rf _).w (by omega)) | exact Pc.ret (((zr.rf _).w (by omega)).w (by omega)) | exact Pc.ret (((zr.rf _).wL.w (by omega)).w (by omega))))
  obtain ⟨e1, e2, e3, e4⟩ := e
  refine Pc.chk (fun _ => ?_)
  refine Pc.yt (yz_num X (e1.w (x := 246) (by decide)) lit_0 lit_4) (fun q5 _ e => ?_) (fun q => ?_)
  rotate_left
  · (repeat (first | refine Pc.ite (fun _ => ?_) (fun _ => ?_) | exact Pc.no | refine Pc.yb zb_X12_must (fun _ => ?_) | refine Pc.yb zb_X12_bounded (fun _ => ?_) | refine Pc.yb zb_X12_goesOn (fun _ => ?_) | refine Pc.yb zb_X12_tellLaw (fun _ => ?_) | refine Pc.yb zb_X12_tellTune (fun _ => ?_) | refine Pc.yb zb_X12_tellGoer (fun _ => ?_) | refine Pc.yb zb_X12_tellRope (fun _ => ?_) | refine Pc.yb ((zb_X12_must).mono (fun _ m => (((zr.rf _).w (by omega)).tr m))) (fun _ => ?_) | refine Pc.yb ((zb_X12_bounded).mono (fun _ m => (((zr.rf _).w (by omega)).tr m))) (fun _ => ?_) | exact Pc.ret (zr.rf _) | exact Pc.ret ((zr.rf _).w (by omega)) | exact Pc.ret (((zr.rf _).w (by omega)).w (by omega)) | exact Pc.ret (((zr.rf _).wL.w (by omega)).w (by omega))))
  obtain ⟨i1, i2, i3, i4⟩ := e
  refine Pc.chk (fun _ => ?_)
  refine Pc.yt (yz_must X (i1.w (x := 247) (by decide)) 59 (by decide) (by decide) (by decide)) (fun q8 z8 e => ?_) (fun q => ?_)
  rotate_left
  · (repeat (first | refine Pc.ite (fun _ => ?_) (fun _ => ?_) | exact Pc.no | refine Pc.yb zb_X12_must (fun _ => ?_) | refine Pc.yb zb_X12_bounded (fun _ => ?_) | refine Pc.yb zb_X12_goesOn (fun _ => ?_) | refine Pc.yb zb_X12_tellLaw (fun _ => ?_) | refine Pc.yb zb_X12_tellTune (fun _ => ?_) | refine Pc.yb zb_X12_tellGoer (fun _ => ?_) | refine Pc.yb zb_X12_tellRope (fun _ => ?_) | refine Pc.yb ((zb_X12_must).mono (fun _ m => (((zr.rf _).w (by omega)).tr m))) (fun _ => ?_) | refine Pc.yb ((zb_X12_bounded).mono (fun _ m => (((zr.rf _).w (by omega)).tr m))) (fun _ => ?_) | exact Pc.ret (zr.rf _) | exact Pc.ret ((zr.rf _).w (by omega)) | exact Pc.ret (((zr.rf _).w (by omega)).w (by omega)) | exact Pc.ret (((zr.rf _).wL.w (by omega)).w (by omega))))
  obtain ⟨j1, j2, j3, j4⟩ := e
  refine Pc.eq (fun _ => ?_) (fun y => absurd (z8.1.trans lit_0.symm) y)
  rw [side_n j1]
  refine Pc.chk (fun _ => Pc.chk (fun _ => Pc.ret (fun _ => ?_)))
  have r8 (x k : Nat) (m : 227 ≤ x) (m2 : ¬ ((x = 246 ∨ x = 247) ∧ k = 8 * s + T.ro.length)) : hi q8 x k = hi h x k := by
    rw [j3.1 x k (by omega), hi_wrI, if_neg (by omega), i3.1 x k (by omega), hi_wrI, if_neg (by omega), e3.1 x k (by omega), fg.1 x k (by omega)]
  have e8 : hi q8 245 s = hi h 245 s := r8 245 s (by omega) (by omega)
  rw [e8]
  generalize eu : wrI q8 245 s (hi h 245 s + 1) = u
  have ru (x k : Nat) (m : x ≠ 245) : hi u x k = hi q8 x k := hiA eu x k m
  have r (x k : Nat) (m : 227 ≤ x) (m2 : x ≠ 246 ∧ x ≠ 247 ∧ x ≠ 245) : hi u x k = hi h x k := by rw [ru x k m2.2.2, r8 x k m (by omega)]
  have r20 : hi u 226 20 = hi h 226 20 := by
    rw [ru 226 20 (by decide), j3.1 226 20 (by decide), hi_wrI, if_neg (by omega), i3.1 226 20 (by decide), hi_wrI, if_neg (by omega), e3.1 226 20 (by decide), fg.1 226 20 (by decide)]
  have au : rX N kd pl vl s (t + 4) B c u := by rw [← eu]; exact j1.w (by decide)
  have a1 := adT (hi h 245 s) 1 (by omega) (by omega)
  have ll : (T.ro ++ [(vl (t + 1), vl (t + 2))]).length = T.ro.length + 1 := by simp
  refine ⟨TT.mk T.lw T.tn T.go (T.ro ++ [(vl (t + 1), vl (t + 2))]) T.ws T.la, t + 4, B, c, Or.inr (Or.inr (Or.inr (Or.inl ⟨k12, rfl, rfl⟩))), by omega, au, ⟨d1.cg (r 235 s (by omega) (by omega)) (r 236 s (by omega) (by omega)), d2.cg (fun x k h1 h2 => r x k (by omega) (by omega)), d3.cg (fun x k h1 h2 => r x k (by omega) (by omega)) r20, ⟨?_, fun k hk => ?_⟩, d5.cg (r 248 s (by omega) (by omega)) (r 249 s (by omega) (by omega))⟩, d6.cg (Nat.le_refl B) (Nat.le_refl c) (fun k _ => ⟨r 250 _ (by omega) (by omega), r 251 _ (by omega) (by omega)⟩) (fun x j h1 h2 _ => r x j (by omega) (by omega)) (fun j _ => ⟨r 257 j (by omega) (by omega), r 258 j (by omega) (by omega)⟩), d7.1, d7.2.1, (show (T.ro ++ [(vl (t + 1), vl (t + 2))]).length ≤ 8 by omega)⟩
  · show (hi u 245 s).toInt = ((T.ro ++ [(vl (t + 1), vl (t + 2))]).length : Int)
    rw [hiE eu, ll]; omega
  · show (hi u 246 (8 * s + k)).toInt = ((T.ro ++ [(vl (t + 1), vl (t + 2))]).getD k (0, 0)).1 ∧ (hi u 247 (8 * s + k)).toInt = ((T.ro ++ [(vl (t + 1), vl (t + 2))]).getD k (0, 0)).2
    rw [ru 246 _ (by decide), ru 247 _ (by decide)]
    rcases snd_lt (d := ((0 : Int), (0 : Int))) hk with ⟨y1, y2⟩ | ⟨y1, y2⟩
    · rw [y2, y1]
      refine ⟨?_, ?_⟩
      · rw [j3.1 246 _ (by omega), hi_wrI, if_neg (by omega), i3.1 246 _ (by omega), hi_wrI, if_pos ⟨rfl, rfl⟩]; exact e4
      · rw [j3.1 247 _ (by omega), hi_wrI, if_pos ⟨rfl, rfl⟩]; exact i4
    · rw [y2, r8 246 _ (by omega) (by omega), r8 247 _ (by omega) (by omega)]
      exact d4.2 k y1
end RS
end
section
/-! WHAT A TEXT TELLS: the reference, tunes, goers, laws, and all -/
theorem mE_ge {kd vl : Nat → Int} : ∀ (k : Nat) (u : Bool) (W : List Int) (t : Nat) (r : List Int32 × Nat), mE kd vl k u W t = some r → t ≤ r.2 := by
  intro k
  induction k with
  | zero => intro u W t r e; cases e
  | succ k ih =>
    intro u W t r e
    unfold mE at e
    by_cases h1 : u = true
    · rw [if_pos h1] at e
      by_cases h2 : kd t = 30
      · rw [if_pos h2] at e
        (obtain ⟨y, y1, y2⟩ := Option.map_eq_some_iff.mp e; have := ih _ _ _ _ y1; rw [← y2]; show t ≤ y.2; omega)
      · rw [if_neg h2] at e
        by_cases h3 : 0 ≤ kd t ∧ kd t < 9
        · rw [if_pos h3] at e
          (obtain ⟨y, y1, y2⟩ := Option.map_eq_some_iff.mp e; have := ih _ _ _ _ y1; rw [← y2]; show t ≤ y.2; omega)
        · rw [if_neg h3] at e
          by_cases h4 : kd t = 40
          · rw [if_pos h4] at e
            have := ih _ _ _ _ e
            omega
          · rw [if_neg h4] at e; cases e
    · rw [if_neg h1] at e
      by_cases h2 : kd t = 42 ∨ kd t = 43 ∨ kd t = 45 ∨ kd t = 47
      · rw [if_pos h2] at e
        (obtain ⟨y, y1, y2⟩ := Option.map_eq_some_iff.mp e; have := ih _ _ _ _ y1; rw [← y2]; show t ≤ y.2; omega)
      · rw [if_neg h2] at e
        by_cases h3 : (popW false W).2 = []
        · rw [if_pos h3] at e
          have := Option.some.inj e
          rw [← this]
          exact Nat.le_refl t
        · rw [if_neg h3] at e
          by_cases h4 : kd t = 41
          · rw [if_pos h4] at e
            (obtain ⟨y, y1, y2⟩ := Option.map_eq_some_iff.mp e; have := ih _ _ _ _ y1; rw [← y2]; show t ≤ y.2; omega)
          · rw [if_neg h4] at e; cases e
theorem LW.le {kd vl : Nat → Int} : ∀ {bs : List ((List Int32 × List Int32) × List Int32)} {t : Nat} {f : List Int32} {t' : Nat}, LW (meE kd vl) kd bs t f t' → t ≤ t' := by
  have me {t : Nat} {C : List Int32} {t' : Nat} (h : meE kd vl t C t') : t ≤ t' := by
    obtain ⟨k, h⟩ := h
    exact mE_ge k _ _ _ _ h
  intro bs
  induction bs with
  | nil => intro t f t' h; exact me h.2
  | cons b r ih =>
    intro t f t' h
    obtain ⟨⟨x, y⟩, c⟩ := b
    obtain ⟨h1, t1, t2, t3, h2, h3, h4, h5, h6, h7, h8⟩ := h
    have a1 := me h2
    have a2 := me h4
    have a3 := me h6
    have a4 := ih h8
    omega
section RU
variable {N : Nat} {kd pl vl : Nat → Int} {s t B c : Nat} {h : Hp} {n : Nat}
theorem ix_8 {a k : Nat} {x y : Int32} (hx : x.toInt = (a : Int)) (hy : y.toInt = (k : Int)) (a1 : a ≤ 1) (k8 : k ≤ 8) : Int32.toNatClampNeg (8 * x + y) = 8 * a + k := by
  have f8 := lit_8
  have m8 := mlT 8 x 8 f8 (by omega) (by omega)
  have ad := adT (8 * x) y (by omega) (by omega)
  have nn := ncT (show 0 ≤ (8 * x + y).toInt by omega)
  omega
theorem yt_tune (X : TX N kd pl vl) (a : rX N kd pl vl s t B c h) {T : TT} (d : rD s T B c h) (l8 : T.tn.length < 8) (hs : s ≤ 1) {g : Hp} (ag : rX N kd pl vl s (t + 1) B c g) (fg : frQ h g) (k10 : kd t = 10) : Pc (F_X12_tellTune n g) (fun q => ZR q → rTell N kd pl vl s T t q) := by
  have f1 := lit_1
  obtain ⟨⟨d1, d2, d3, d4, d5⟩, d6, d7⟩ := d
  have l0 := d2.1
  have g37 : hi g 237 s = hi h 237 s := fg.1 237 s (by omega)
  have g19 := ag.1.2.2.2
  unfold F_X12_tellTune
  rw [side_n ag, g37, ix_8 g19 l0 hs (by omega)]
  refine Pc.chk (fun _ => ?_)
  refine Pc.yt (yz_num X ag lit_0 lit_4) (fun q2 _ e => ?_) (fun q => ?_)
  rotate_left
  · (repeat (first | refine Pc.ite (fun _ => ?_) (fun _ => ?_) | exact Pc.no | refine Pc.yb zb_X12_must (fun _ => ?_) | refine Pc.yb zb_X12_bounded (fun _ => ?_) | refine Pc.yb zb_X12_goesOn (fun _ => ?_) | refine Pc.yb zb_X12_tellLaw (fun _ => ?_) | refine Pc.yb zb_X12_tellTune (fun _ => ?_) | refine Pc.yb zb_X12_tellGoer (fun _ => ?_) | refine Pc.yb zb_X12_tellRope (fun _ => ?_) | refine Pc.yb ((zb_X12_must).mono (fun _ m => (((zr.rf _).w (by omega)).tr m))) (fun _ => ?_) | refine Pc.yb ((zb_X12_bounded).mono (fun _ m => (((zr.rf _).w (by omega)).tr m))) (fun _ => ?_) | exact Pc.ret (zr.rf _) | exact Pc.ret ((zr.rf _).w (by omega)) | exact Pc.ret (((zr.rf _).w (by omega)).w (by omega)) | exact Pc.ret (((zr.rf _).wL.w (by omega)).w (by omega))))
  obtain ⟨e1, e2, e3, e4⟩ := e
  refine Pc.chk (fun _ => ?_)
  refine Pc.yt (yz_num X (e1.w (x := 238) (by decide)) lit_0 lit_4) (fun q5 _ e => ?_) (fun q => ?_)
  rotate_left
  · (repeat (first | refine Pc.ite (fun _ => ?_) (fun _ => ?_) | exact Pc.no | refine Pc.yb zb_X12_must (fun _ => ?_) | refine Pc.yb zb_X12_bounded (fun _ => ?_) | refine Pc.yb zb_X12_goesOn (fun _ => ?_) | refine Pc.yb zb_X12_tellLaw (fun _ => ?_) | refine Pc.yb zb_X12_tellTune (fun _ => ?_) | refine Pc.yb zb_X12_tellGoer (fun _ => ?_) | refine Pc.yb zb_X12_tellRope (fun _ => ?_) | refine Pc.yb ((zb_X12_must).mono (fun _ m => (((zr.rf _).w (by omega)).tr m))) (fun _ => ?_) | refine Pc.yb ((zb_X12_bounded).mono (fun _ m => (((zr.rf _).w (by omega)).tr m))) (fun _ => ?_) | exact Pc.ret (zr.rf _) | exact Pc.ret ((zr.rf _).w (by omega)) | exact Pc.ret (((zr.rf _).w (by omega)).w (by omega)) | exact Pc.ret (((zr.rf _).wL.w (by omega)).w (by omega))))
  obtain ⟨i1, i2, i3, i4⟩ := e
  refine Pc.chk (fun _ => ?_)
  refine Pc.yt (yz_num X (i1.w (x := 239) (by decide)) lit_2 lit_6') (fun q8 _ e => ?_) (fun q => ?_)
  rotate_left
  · (repeat (first | refine Pc.ite (fun _ => ?_) (fun _ => ?_) | exact Pc.no | refine Pc.yb zb_X12_must (fun _ => ?_) | refine Pc.yb zb_X12_bounded (fun _ => ?_) | refine Pc.yb zb_X12_goesOn (fun _ => ?_) | refine Pc.yb zb_X12_tellLaw (fun _ => ?_) | refine Pc.yb zb_X12_tellTune (fun _ => ?_) | refine Pc.yb zb_X12_tellGoer (fun _ => ?_) | refine Pc.yb zb_X12_tellRope (fun _ => ?_) | refine Pc.yb ((zb_X12_must).mono (fun _ m => (((zr.rf _).w (by omega)).tr m))) (fun _ => ?_) | refine Pc.yb ((zb_X12_bounded).mono (fun _ m => (((zr.rf _).w (by omega)).tr m))) (fun _ => ?_) | exact Pc.ret (zr.rf _) | exact Pc.ret ((zr.rf _).w (by omega)) | exact Pc.ret (((zr.rf _).w (by omega)).w (by omega)) | exact Pc.ret (((zr.rf _).wL.w (by omega)).w (by omega))))
  obtain ⟨m1, m2, m3, m4⟩ := e
  refine Pc.chk (fun _ => Pc.chk (fun _ => ?_))
  -- the end, whatever the bound of the offset
  have fin {up : Int32} : Pc ((F_X12_bounded n (wrI q8.2 240 (8 * s + T.tn.length) q8.1) 0 up).bind (fun q13 => (if ixOK (8 * hi g 226 19 + hi h 237 s) 16 = true then ((F_X12_must n (wrI q13.2 241 (8 * s + T.tn.length) q13.1) 4).bind (fun q16 => (if (hi q16 226 13 : Int32) = 0 then (if ixOK (hi q16 226 19) 2 = true then (if ixOK (hi q16 226 19) 2 = true then some (wrI q16 237 (Int32.toNatClampNeg (hi q16 226 19)) (hi q16 237 (Int32.toNatClampNeg (hi q16 226 19)) + 1)) else none) else none) else some q16))) else none))) (fun q => ZR q → rTell N kd pl vl s T t q) := by
    refine Pc.yt (yz_num X (m1.w (x := 240) (by decide)) lit_0 rfl) (fun q13 _ e => ?_) (fun q => ?_)
    rotate_left
    · (repeat (first | refine Pc.ite (fun _ => ?_) (fun _ => ?_) | exact Pc.no | refine Pc.yb zb_X12_must (fun _ => ?_) | refine Pc.yb zb_X12_bounded (fun _ => ?_) | refine Pc.yb zb_X12_goesOn (fun _ => ?_) | refine Pc.yb zb_X12_tellLaw (fun _ => ?_) | refine Pc.yb zb_X12_tellTune (fun _ => ?_) | refine Pc.yb zb_X12_tellGoer (fun _ => ?_) | refine Pc.yb zb_X12_tellRope (fun _ => ?_) | refine Pc.yb ((zb_X12_must).mono (fun _ m => (((zr.rf _).w (by omega)).tr m))) (fun _ => ?_) | refine Pc.yb ((zb_X12_bounded).mono (fun _ m => (((zr.rf _).w (by omega)).tr m))) (fun _ => ?_) | exact Pc.ret (zr.rf _) | exact Pc.ret ((zr.rf _).w (by omega)) | exact Pc.ret (((zr.rf _).w (by omega)).w (by omega)) | exact Pc.ret (((zr.rf _).wL.w (by omega)).w (by omega))))
    obtain ⟨o1, o2, o3, o4⟩ := e
    refine Pc.chk (fun _ => ?_)
    refine Pc.yt (yz_must X (o1.w (x := 241) (by decide)) 59 (by decide) (by decide) (by decide)) (fun q16 z16 e => ?_) (fun q => ?_)
    rotate_left
    · (repeat (first | refine Pc.ite (fun _ => ?_) (fun _ => ?_) | exact Pc.no | refine Pc.yb zb_X12_must (fun _ => ?_) | refine Pc.yb zb_X12_bounded (fun _ => ?_) | refine Pc.yb zb_X12_goesOn (fun _ => ?_) | refine Pc.yb zb_X12_tellLaw (fun _ => ?_) | refine Pc.yb zb_X12_tellTune (fun _ => ?_) | refine Pc.yb zb_X12_tellGoer (fun _ => ?_) | refine Pc.yb zb_X12_tellRope (fun _ => ?_) | refine Pc.yb ((zb_X12_must).mono (fun _ m => (((zr.rf _).w (by omega)).tr m))) (fun _ => ?_) | refine Pc.yb ((zb_X12_bounded).mono (fun _ m => (((zr.rf _).w (by omega)).tr m))) (fun _ => ?_) | exact Pc.ret (zr.rf _) | exact Pc.ret ((zr.rf _).w (by omega)) | exact Pc.ret (((zr.rf _).w (by omega)).w (by omega)) | exact Pc.ret (((zr.rf _).wL.w (by omega)).w (by omega))))
    obtain ⟨j1, j2, j3, j4⟩ := e
    refine Pc.eq (fun _ => ?_) (fun y => absurd (z16.1.trans lit_0.symm) y)
    rw [side_n j1]
    refine Pc.chk (fun _ => Pc.chk (fun _ => Pc.ret (fun _ => ?_)))
    have r8 (x k : Nat) (m : 227 ≤ x) (m2 : ¬ ((238 ≤ x ∧ x ≤ 241) ∧ k = 8 * s + T.tn.length)) : hi q16 x k = hi h x k := by
      rw [j3.1 x k (by omega), hi_wrI, if_neg (by omega), o3.1 x k (by omega), hi_wrI, if_neg (by omega), m3.1 x k (by omega), hi_wrI, if_neg (by omega), i3.1 x k (by omega), hi_wrI, if_neg (by omega), e3.1 x k (by omega), fg.1 x k (by omega)]
    have e8 : hi q16 237 s = hi h 237 s := r8 237 s (by omega) (by omega)
    rw [e8]
    generalize eu : wrI q16 237 s (hi h 237 s + 1) = u
    have ru (x k : Nat) (m : x ≠ 237) : hi u x k = hi q16 x k := hiA eu x k m
    have r (x k : Nat) (m : 227 ≤ x) (m2 : ¬ (237 ≤ x ∧ x ≤ 241)) : hi u x k = hi h x k := by rw [ru x k (by omega), r8 x k m (by omega)]
    have r20 : hi u 226 20 = hi h 226 20 := by
      rw [ru 226 20 (by decide), j3.1 226 20 (by decide), hi_wrI, if_neg (by omega), o3.1 226 20 (by decide), hi_wrI, if_neg (by omega), m3.1 226 20 (by decide), hi_wrI, if_neg (by omega), i3.1 226 20 (by decide), hi_wrI, if_neg (by omega), e3.1 226 20 (by decide), fg.1 226 20 (by decide)]
    have au : rX N kd pl vl s (t + 6) B c u := by rw [← eu]; exact j1.w (by decide)
    have a1 := adT (hi h 237 s) 1 (by omega) (by omega)
    have ll : (T.tn ++ [((vl (t + 1), vl (t + 2)), (vl (t + 3), vl (t + 4)))]).length = T.tn.length + 1 := by simp
    refine ⟨TT.mk T.lw (T.tn ++ [((vl (t + 1), vl (t + 2)), (vl (t + 3), vl (t + 4)))]) T.go T.ro T.ws T.la, t + 6, B, c, Or.inr (Or.inl ⟨k10, rfl, rfl⟩), by omega, au, ⟨d1.cg (r 235 s (by omega) (by omega)) (r 236 s (by omega) (by omega)), ⟨?_, fun k hk => ?_⟩, d3.cg (fun x k h1 h2 => r x k (by omega) (by omega)) r20, d4.cg (fun x k h1 h2 => r x k (by omega) (by omega)), d5.cg (r 248 s (by omega) (by omega)) (r 249 s (by omega) (by omega))⟩, d6.cg (Nat.le_refl B) (Nat.le_refl c) (fun k _ => ⟨r 250 _ (by omega) (by omega), r 251 _ (by omega) (by omega)⟩) (fun x j h1 h2 _ => r x j (by omega) (by omega)) (fun j _ => ⟨r 257 j (by omega) (by omega), r 258 j (by omega) (by omega)⟩), (show (T.tn ++ [((vl (t + 1), vl (t + 2)), (vl (t + 3), vl (t + 4)))]).length ≤ 8 by omega), d7.2⟩
    · show (hi u 237 s).toInt = ((T.tn ++ [((vl (t + 1), vl (t + 2)), (vl (t + 3), vl (t + 4)))]).length : Int)
      rw [hiE eu, ll]; omega
    · show (hi u 238 (8 * s + k)).toInt = ((T.tn ++ [((vl (t + 1), vl (t + 2)), (vl (t + 3), vl (t + 4)))]).getD k ((0, 0), (0, 0))).1.1 ∧ (hi u 239 (8 * s + k)).toInt = ((T.tn ++ [((vl (t + 1), vl (t + 2)), (vl (t + 3), vl (t + 4)))]).getD k ((0, 0), (0, 0))).1.2 ∧ (hi u 240 (8 * s + k)).toInt = ((T.tn ++ [((vl (t + 1), vl (t + 2)), (vl (t + 3), vl (t + 4)))]).getD k ((0, 0), (0, 0))).2.1 ∧ (hi u 241 (8 * s + k)).toInt = ((T.tn ++ [((vl (t + 1), vl (t + 2)), (vl (t + 3), vl (t + 4)))]).getD k ((0, 0), (0, 0))).2.2
      rw [ru 238 _ (by decide), ru 239 _ (by decide), ru 240 _ (by decide), ru 241 _ (by decide)]
      rcases snd_lt (d := (((0 : Int), (0 : Int)), ((0 : Int), (0 : Int)))) hk with ⟨y1, y2⟩ | ⟨y1, y2⟩
      · rw [y2, y1]
        refine ⟨?_, ?_, ?_, ?_⟩
        · rw [j3.1 238 _ (by omega), hi_wrI, if_neg (by omega), o3.1 238 _ (by omega), hi_wrI, if_neg (by omega), m3.1 238 _ (by omega), hi_wrI, if_neg (by omega), i3.1 238 _ (by omega), hi_wrI, if_pos ⟨rfl, rfl⟩]; exact e4
        · rw [j3.1 239 _ (by omega), hi_wrI, if_neg (by omega), o3.1 239 _ (by omega), hi_wrI, if_neg (by omega), m3.1 239 _ (by omega), hi_wrI, if_pos ⟨rfl, rfl⟩]; exact i4
        · rw [j3.1 240 _ (by omega), hi_wrI, if_neg (by omega), o3.1 240 _ (by omega), hi_wrI, if_pos ⟨rfl, rfl⟩]; exact m4
        · rw [j3.1 241 _ (by omega), hi_wrI, if_pos ⟨rfl, rfl⟩]; exact o4
      · rw [y2, r8 238 _ (by omega) (by omega), r8 239 _ (by omega) (by omega), r8 240 _ (by omega) (by omega), r8 241 _ (by omega) (by omega)]
        exact d2.2 k y1
  have e240 : hi (wrI q8.2 240 (8 * s + T.tn.length) q8.1) 240 (8 * s + T.tn.length) = q8.1 := hiE rfl
  refine Pc.ite (fun _ => ?_) (fun _ => ?_)
  · exact fin
  · refine Pc.chk (fun _ => ?_)
    exact fin
theorem yt_goerL (X : TX N kd pl vl) {T : TT} (d : rD s T B c h) (l5 : T.go.length < 5) (hs : s ≤ 1) (t0 : Nat) (k11 : kd t0 = 11) {l1 l2 : Int32} (hl1 : l1.toInt = ((5 * s + T.go.length : Nat) : Int)) : ∀ (n : Nat) (g : Hp) (l3 : Int32), rX N kd pl vl s (t0 + 2) B c g → frQ h g → (t0 + 2 ≤ 400 ∧ 0 ≤ l2.toInt) → Pc (W_X12_tellGoer n 29 g l1 l2 l3) (fun q => ZR q → rTell N kd pl vl s T t0 q) := by
  have f0 := lit_0
  have f1 := lit_1
  have f3 := lit_3
  have n1 := ncT (show 0 ≤ l1.toInt by omega)
  have n1' : Int32.toNatClampNeg l1 = 5 * s + T.go.length := by omega
  intro n
  induction n with
  | zero => intro g l3 ag fg p; exact Pc.no
  | succ n ih =>
    intro g l3 ag fg p
    -- the end
    have fin : Pc ((F_X12_bounded n g 0 4).bind (fun q2 => (if ixOK l1 10 = true then ((F_X12_bounded n (wrI q2.2 243 (5 * s + T.go.length) q2.1) 0 4).bind (fun q5 => (if ixOK l1 10 = true then ((F_X12_must n (wrI q5.2 244 (5 * s + T.go.length) q5.1) 4).bind (fun q8 => (if ((hi q8 226 13) : Int32) ≤ (0 : Int32) then (if ixOK l2 403 = true then (if ixOK (hi q8 226 20) 5 = true then (if ixOK (hi (wrI (wrL q8 234 (Int32.toNatClampNeg (hi q8 226 20)) (hl q8 232 (Int32.toNatClampNeg l2))) 226 20 ((hi (wrL q8 234 (Int32.toNatClampNeg (hi q8 226 20)) (hl q8 232 (Int32.toNatClampNeg l2))) 226 20) + 1)) 226 19) 2 = true then (if ixOK (hi (wrI (wrL q8 234 (Int32.toNatClampNeg (hi q8 226 20)) (hl q8 232 (Int32.toNatClampNeg l2))) 226 20 ((hi (wrL q8 234 (Int32.toNatClampNeg (hi q8 226 20)) (hl q8 232 (Int32.toNatClampNeg l2))) 226 20) + 1)) 226 19) 2 = true then some (wrI (wrI (wrL q8 234 (Int32.toNatClampNeg (hi q8 226 20)) (hl q8 232 (Int32.toNatClampNeg l2))) 226 20 ((hi (wrL q8 234 (Int32.toNatClampNeg (hi q8 226 20)) (hl q8 232 (Int32.toNatClampNeg l2))) 226 20) + 1)) 242 (Int32.toNatClampNeg (hi (wrI (wrL q8 234 (Int32.toNatClampNeg (hi q8 226 20)) (hl q8 232 (Int32.toNatClampNeg l2))) 226 20 ((hi (wrL q8 234 (Int32.toNatClampNeg (hi q8 226 20)) (hl q8 232 (Int32.toNatClampNeg l2))) 226 20) + 1)) 226 19)) ((hi (wrI (wrL q8 234 (Int32.toNatClampNeg (hi q8 226 20)) (hl q8 232 (Int32.toNatClampNeg l2))) 226 20 ((hi (wrL q8 234 (Int32.toNatClampNeg (hi q8 226 20)) (hl q8 232 (Int32.toNatClampNeg l2))) 226 20) + 1)) 242 (Int32.toNatClampNeg (hi (wrI (wrL q8 234 (Int32.toNatClampNeg (hi q8 226 20)) (hl q8 232 (Int32.toNatClampNeg l2))) 226 20 ((hi (wrL q8 234 (Int32.toNatClampNeg (hi q8 226 20)) (hl q8 232 (Int32.toNatClampNeg l2))) 226 20) + 1)) 226 19))) + 1)) else none) else none) else none) else none) else some q8))) else none))) else none))) (fun q => ZR q → rTell N kd pl vl s T t0 q) := by
      refine Pc.yt (yz_num X ag lit_0 lit_4) (fun q2 _ e => ?_) (fun q => ?_)
      rotate_left
      · (repeat (first | refine Pc.ite (fun _ => ?_) (fun _ => ?_) | exact Pc.no | refine Pc.yb zb_X12_must (fun _ => ?_) | refine Pc.yb zb_X12_bounded (fun _ => ?_) | refine Pc.yb zb_X12_goesOn (fun _ => ?_) | refine Pc.yb zb_X12_tellLaw (fun _ => ?_) | refine Pc.yb zb_X12_tellTune (fun _ => ?_) | refine Pc.yb zb_X12_tellGoer (fun _ => ?_) | refine Pc.yb zb_X12_tellRope (fun _ => ?_) | refine Pc.yb ((zb_X12_must).mono (fun _ m => (((zr.rf _).w (by omega)).tr m))) (fun _ => ?_) | refine Pc.yb ((zb_X12_bounded).mono (fun _ m => (((zr.rf _).w (by omega)).tr m))) (fun _ => ?_) | exact Pc.ret (zr.rf _) | exact Pc.ret ((zr.rf _).w (by omega)) | exact Pc.ret (((zr.rf _).w (by omega)).w (by omega)) | exact Pc.ret (((zr.rf _).wL.w (by omega)).w (by omega))))
      obtain ⟨e1, e2, e3, e4⟩ := e
      refine Pc.chk (fun _ => ?_)
      refine Pc.yt (yz_num X (e1.w (x := 243) (by decide)) lit_0 lit_4) (fun q5 _ e => ?_) (fun q => ?_)
      rotate_left
      · (repeat (first | refine Pc.ite (fun _ => ?_) (fun _ => ?_) | exact Pc.no | refine Pc.yb zb_X12_must (fun _ => ?_) | refine Pc.yb zb_X12_bounded (fun _ => ?_) | refine Pc.yb zb_X12_goesOn (fun _ => ?_) | refine Pc.yb zb_X12_tellLaw (fun _ => ?_) | refine Pc.yb zb_X12_tellTune (fun _ => ?_) | refine Pc.yb zb_X12_tellGoer (fun _ => ?_) | refine Pc.yb zb_X12_tellRope (fun _ => ?_) | refine Pc.yb ((zb_X12_must).mono (fun _ m => (((zr.rf _).w (by omega)).tr m))) (fun _ => ?_) | refine Pc.yb ((zb_X12_bounded).mono (fun _ m => (((zr.rf _).w (by omega)).tr m))) (fun _ => ?_) | exact Pc.ret (zr.rf _) | exact Pc.ret ((zr.rf _).w (by omega)) | exact Pc.ret (((zr.rf _).w (by omega)).w (by omega)) | exact Pc.ret (((zr.rf _).wL.w (by omega)).w (by omega))))
      obtain ⟨i1, i2, i3, i4⟩ := e
      refine Pc.chk (fun _ => ?_)
      refine Pc.yt (yz_must X (i1.w (x := 244) (by decide)) 59 (by decide) (by decide) (by decide)) (fun q8 z8 e => ?_) (fun q => ?_)
      rotate_left
      · (repeat (first | refine Pc.ite (fun _ => ?_) (fun _ => ?_) | exact Pc.no | refine Pc.yb zb_X12_must (fun _ => ?_) | refine Pc.yb zb_X12_bounded (fun _ => ?_) | refine Pc.yb zb_X12_goesOn (fun _ => ?_) | refine Pc.yb zb_X12_tellLaw (fun _ => ?_) | refine Pc.yb zb_X12_tellTune (fun _ => ?_) | refine Pc.yb zb_X12_tellGoer (fun _ => ?_) | refine Pc.yb zb_X12_tellRope (fun _ => ?_) | refine Pc.yb ((zb_X12_must).mono (fun _ m => (((zr.rf _).w (by omega)).tr m))) (fun _ => ?_) | refine Pc.yb ((zb_X12_bounded).mono (fun _ m => (((zr.rf _).w (by omega)).tr m))) (fun _ => ?_) | exact Pc.ret (zr.rf _) | exact Pc.ret ((zr.rf _).w (by omega)) | exact Pc.ret (((zr.rf _).w (by omega)).w (by omega)) | exact Pc.ret (((zr.rf _).wL.w (by omega)).w (by omega))))
      obtain ⟨j1, j2, j3, j4⟩ := e
      have z8' := z8.1
      refine Pc.le (fun _ => Pc.chk (fun _ => Pc.chk (fun _ => ?_))) (fun y => by exfalso; omega)
      obtain ⟨⟨d1, d2, d3, d4, d5⟩, d6, d7⟩ := d
      generalize ew : wrL q8 234 _ _ = w
      have rw' (x k : Nat) : hi w x k = hi q8 x k := by rw [← ew]; rfl
      generalize ev : wrI w 226 20 (hi w 226 20 + 1) = v
      have rv (x k : Nat) (m : ¬ (x = 226 ∧ k = 20)) : hi v x k = hi q8 x k := by rw [← ev, hi_wrI, if_neg m, rw']
      have aw : rX N kd pl vl s (t0 + 5) B c v := by
        have e5 : rX N kd pl vl s (t0 + 5) B c q8 := j1
        obtain ⟨⟨⟨c1, c2, c3, c4⟩, c5, c6, c7⟩, c8⟩ := e5
        refine ⟨⟨⟨c1.cg ⟨fun z => rv 229 z (by omega), fun z => rv 230 z (by omega), fun z => rv 231 z (by omega)⟩, c2, ?_, ?_⟩, ?_, ?_, ?_⟩, ?_⟩
        · unfold rT
          rw [rv 226 13 (by decide), rv 226 11 (by decide), rv 226 14 (by decide)]
          exact c3
        · rw [rv 226 12 (by decide)]; exact c4
        · rw [rv 226 39 (by decide)]; exact c5
        · rw [rv 226 45 (by decide)]; exact c6
        · rw [rv 226 19 (by decide)]; exact c7
        · rw [rv 226 15 (by decide)]; exact c8
      rw [side_n aw]
      refine Pc.chk (fun _ => Pc.chk (fun _ => Pc.ret (fun _ => ?_)))
      have r8 (x k : Nat) (m : 227 ≤ x) (m2 : ¬ ((x = 243 ∨ x = 244) ∧ k = 5 * s + T.go.length)) : hi q8 x k = hi h x k := by
        rw [j3.1 x k (by omega), hi_wrI, if_neg (by omega), i3.1 x k (by omega), hi_wrI, if_neg (by omega), e3.1 x k (by omega), fg.1 x k (by omega)]
      have e20 : hi q8 226 20 = hi h 226 20 := by
        rw [j3.1 226 20 (by decide), hi_wrI, if_neg (by omega), i3.1 226 20 (by decide), hi_wrI, if_neg (by omega), e3.1 226 20 (by decide), fg.1 226 20 (by decide)]
      have e42 : hi v 242 s = hi h 242 s := by rw [rv 242 s (by omega), r8 242 s (by omega) (by omega)]
      rw [e42]
      generalize eu : wrI v 242 s (hi h 242 s + 1) = u
      have ru (x k : Nat) (m : x ≠ 242) : hi u x k = hi v x k := hiA eu x k m
      have r (x k : Nat) (m : 227 ≤ x) (m2 : ¬ (242 ≤ x ∧ x ≤ 244)) : hi u x k = hi h x k := by rw [ru x k (by omega), rv x k (by omega), r8 x k m (by omega)]
      have au : rX N kd pl vl s (t0 + 5) B c u := by rw [← eu]; exact aw.w (by decide)
      have g1 := d3.1
      have g2 := d3.2.1
      have a1 := adT (hi h 242 s) 1 (by omega) (by omega)
      have a2 := adT (hi h 226 20) 1 (by omega) (by omega)
      have ll : (T.go ++ [(vl (t0 + 2), vl (t0 + 3))]).length = T.go.length + 1 := by simp
      refine ⟨TT.mk T.lw T.tn (T.go ++ [(vl (t0 + 2), vl (t0 + 3))]) T.ro T.ws T.la, t0 + 5, B, c, Or.inr (Or.inr (Or.inl ⟨k11, rfl, rfl⟩)), by omega, au, ⟨d1.cg (r 235 s (by omega) (by omega)) (r 236 s (by omega) (by omega)), d2.cg (fun x k h1 h2 => r x k (by omega) (by omega)), ⟨?_, ?_, fun k hk => ?_⟩, d4.cg (fun x k h1 h2 => r x k (by omega) (by omega)), d5.cg (r 248 s (by omega) (by omega)) (r 249 s (by omega) (by omega))⟩, d6.cg (Nat.le_refl B) (Nat.le_refl c) (fun k _ => ⟨r 250 _ (by omega) (by omega), r 251 _ (by omega) (by omega)⟩) (fun x j h1 h2 _ => r x j (by omega) (by omega)) (fun j _ => ⟨r 257 j (by omega) (by omega), r 258 j (by omega) (by omega)⟩), d7.1, (show (T.go ++ [(vl (t0 + 2), vl (t0 + 3))]).length ≤ 5 by omega), d7.2.2⟩
      · show (hi u 242 s).toInt = ((T.go ++ [(vl (t0 + 2), vl (t0 + 3))]).length : Int)
        rw [hiE eu, ll]; omega
      · show (hi u 226 20).toInt = ((T.go ++ [(vl (t0 + 2), vl (t0 + 3))]).length : Int)
        rw [ru 226 20 (by decide), hiE ev, rw', e20, ll]; omega
      · show (hi u 243 (5 * s + k)).toInt = ((T.go ++ [(vl (t0 + 2), vl (t0 + 3))]).getD k (0, 0)).1 ∧ (hi u 244 (5 * s + k)).toInt = ((T.go ++ [(vl (t0 + 2), vl (t0 + 3))]).getD k (0, 0)).2
        rw [ru 243 _ (by decide), ru 244 _ (by decide), rv 243 _ (by omega), rv 244 _ (by omega)]
        rcases snd_lt (d := ((0 : Int), (0 : Int))) hk with ⟨y1, y2⟩ | ⟨y1, y2⟩
        · rw [y2, y1]
          refine ⟨?_, ?_⟩
          · rw [j3.1 243 _ (by omega), hi_wrI, if_neg (by omega), i3.1 243 _ (by omega), hi_wrI, if_pos ⟨rfl, rfl⟩]; exact e4
          · rw [j3.1 244 _ (by omega), hi_wrI, if_pos ⟨rfl, rfl⟩]; exact i4
        · rw [y2, r8 243 _ (by omega) (by omega), r8 244 _ (by omega) (by omega)]
          exact d3.2.2 k y1
    have s1 := ag.1.1.2.2.1.2.1
    rw [u_X12_tellGoer, n1']
    refine Pc.pos rfl ?_
    refine Pc.ite (fun _ => fin) (fun _ => ?_)
    refine Pc.eq (fun _ => ?_) (fun y => by exfalso; omega)
    refine Pc.chk (fun _ => Pc.chk (fun c4 => Pc.ite (fun _ => ?_) (fun _ => ih g _ ag fg p)))
    -- a name told already
    have wr : Pc (F_X12_wrong n g 3 l2) (fun q => ¬ ZR q) := by
      unfold F_X12_wrong
      refine Pc.chk (fun _ => Pc.lt (fun y => by exfalso; omega) (fun _ => Pc.eq (fun _ => Pc.ret (fun z => ?_)) (fun y => absurd (ag.2.trans f0.symm) y)))
      have := z.2
      rw [hi_wrI, if_neg (by decide), hi_wrI, if_pos ⟨rfl, rfl⟩] at this
      omega
    exact Pc.bind wr (fun q32 nz => (zv_X12_tellGoer _ _ _ _ _ _).mono (fun q m z => absurd (m.1 z) nz))
theorem yt_goer (X : TX N kd pl vl) (a : rX N kd pl vl s t B c h) {T : TT} (d : rD s T B c h) (l5 : T.go.length < 5) (hs : s ≤ 1) {g : Hp} (ag : rX N kd pl vl s (t + 1) B c g) (fg : frQ h g) (k11 : kd t = 11) : Pc (F_X12_tellGoer n g) (fun q => ZR q → rTell N kd pl vl s T t q) := by
  have f5 := lit_5
  have g42 : hi g 242 s = hi h 242 s := fg.1 242 s (by omega)
  have l0 := d.1.2.2.1.1
  have g19 := ag.1.2.2.2
  have g11 := ag.1.1.2.2.1.2.2.1 rfl
  unfold F_X12_tellGoer
  rw [side_n ag, g42]
  have m5 := mlT 5 (hi g 226 19) 5 f5 (by omega) (by omega)
  have ad := adT (5 * hi g 226 19) (hi h 242 s) (by omega) (by omega)
  refine Pc.chk (fun _ => ?_)
  refine Pc.yt (yz_must X ag 31 (by decide) (by decide) (by decide)) (fun q35 _ e => ?_) (fun q => ?_)
  · obtain ⟨e1, e2, e3, e4⟩ := e
    exact yt_goerL X d l5 hs t k11 (by omega) n q35 0 e1 (fg.tr e3) ⟨by omega, by omega⟩
  · exact zv_X12_tellGoer _ _ _ _ _ _
theorem yt_law (X : TX N kd pl vl) (a : rX N kd pl vl s t B c h) {T : TT} (d : rD s T B c h) (hs : s ≤ 1) {k : Nat} (k4 : k < 4) (hk : kd t = 13 + (k : Int)) {x1 : Int32} (hx : x1.toInt = (k : Int)) : Pc ((F_X12_goesOn n h).bind (fun q47 => ((F_X12_tellLaw n q47 x1).bind (fun q49 => some q49)))) (fun q => ZR q → rTell N kd pl vl s T t q) := by
  refine Pc.yt (yz_goes X a (by omega)) (fun q3 _ b => ?_) (fun q => ?_)
  rotate_left
  · (repeat (first | refine Pc.ite (fun _ => ?_) (fun _ => ?_) | exact Pc.no | refine Pc.yb zb_X12_must (fun _ => ?_) | refine Pc.yb zb_X12_bounded (fun _ => ?_) | refine Pc.yb zb_X12_goesOn (fun _ => ?_) | refine Pc.yb zb_X12_tellLaw (fun _ => ?_) | refine Pc.yb zb_X12_tellTune (fun _ => ?_) | refine Pc.yb zb_X12_tellGoer (fun _ => ?_) | refine Pc.yb zb_X12_tellRope (fun _ => ?_) | refine Pc.yb ((zb_X12_must).mono (fun _ m => (((zr.rf _).w (by omega)).tr m))) (fun _ => ?_) | refine Pc.yb ((zb_X12_bounded).mono (fun _ m => (((zr.rf _).w (by omega)).tr m))) (fun _ => ?_) | exact Pc.ret (zr.rf _) | exact Pc.ret ((zr.rf _).w (by omega)) | exact Pc.ret (((zr.rf _).w (by omega)).w (by omega)) | exact Pc.ret (((zr.rf _).wL.w (by omega)).w (by omega))))
  obtain ⟨b1, b2, b3⟩ := b
  refine Pc.bind (fun q e => And.intro (qr_law X b1.1 hx k4 hs q e) (zf_X12_tellLaw q e)) (fun q hq => Pc.ret (fun z => ?_))
  obtain ⟨hq, fz⟩ := hq
  obtain ⟨bs, f, t', c', o1, o2, o3, o4, o5, o6, o7, o8, o9, o10, o11⟩ := hq z.1
  have r (x j : Nat) (m : 227 ≤ x ∧ x < 250) : hi q x j = hi h x j := by
    rw [fz.1 x j (by intro y; omega), b2.1 x j (by omega)]
  have r20 : hi q 226 20 = hi h 226 20 := by rw [fz.1 226 20 (by intro y; omega), b2.1 226 20 (by decide)]
  obtain ⟨⟨d1, d2, d3, d4, d5⟩, d6, d7⟩ := d
  have ek : (kd t - 13).toNat = k := by omega
  have lt : t + 2 ≤ t' := LW.le o2
  refine ⟨TT.mk T.lw T.tn T.go T.ro T.ws (updL T.la k (bs, f)), t' + 1, B + bs.length + 1, c', Or.inr (Or.inr (Or.inr (Or.inr (Or.inr (Or.inr ⟨by omega, by omega, bs, f, t', o2, by rw [ek], rfl⟩))))), by omega, ⟨o4, z.2⟩, ⟨d1.cg (r 235 s (by omega)) (r 236 s (by omega)), d2.cg (fun x k h1 h2 => r x k (by omega)), d3.cg (fun x k h1 h2 => r x k (by omega)) r20, d4.cg (fun x k h1 h2 => r x k (by omega)), d5.cg (r 248 s (by omega)) (r 249 s (by omega))⟩, fun j hj => ?_, d7⟩
  show ((if j = k then some (bs, f) else T.la j) = none → _) ∧ ∀ b, (if j = k then some (bs, f) else T.la j) = some b → _
  by_cases y : j = k
  · rw [if_pos y, y]
    refine ⟨fun z => absurd z (Option.some_ne_none _), fun b hb => ?_⟩
    have e : (bs, f) = b := Option.some.inj hb
    rw [← e]
    exact ⟨B, o7, o8, Nat.le_refl _, o6⟩
  · rw [if_neg y, (o11 (4 * s + j) (by omega)).1, (o11 (4 * s + j) (by omega)).2, b2.1 250 _ (by omega), b2.1 251 _ (by omega)]
    refine ⟨(d6 j hj).1, fun b hb => ?_⟩
    obtain ⟨D, e1, e2, e3, e4⟩ := (d6 j hj).2 b hb
    refine ⟨D, e1, e2, by omega, e4.cg o5 (fun x i h1 h2 h3 h4 => ?_) (fun i hi' => ?_)⟩
    · rw [o9 x i h1 h2 (by omega), b2.1 x i (by omega)]
    · rw [(o10 i hi').1, (o10 i hi').2, b2.1 257 i (by omega), b2.1 258 i (by omega)]
      exact ⟨rfl, rfl⟩
end RU
end
section
/-! A WHOLE TEXT: the reference, as far as its end -/
section RW
variable {N : Nat} {kd pl vl : Nat → Int} {s : Nat}
theorem vd_rk (X : TX N kd pl vl) {t : Nat} (T : tI2 N t) {k : Int} (hk : k ∈ vdL) (e : rk (kd t) = rk k) : kd t = k := rk_inj _ (vdT X T) k hk e
set_option maxHeartbeats 4000000 in
theorem yt_tell (X : TX N kd pl vl) (hs : s ≤ 1) {n t B c : Nat} {h : Hp} (a : rX N kd pl vl s t B c h) {T : TT} (d : rD s T B c h) (ne : kd t ≠ 32) : Pc (F_X12_tellOne n h) (fun q => ZR q → rTell N kd pl vl s T t q) := by
  have f0 := lit_0
  have f1 := lit_1
  have f5 := lit_5
  have f8 := lit_8
  have l20 := lit_20
  have l21 := lit_21
  have l22 := lit_22
  have l23 := lit_23
  have l24 := lit_24
  have l25 := lit_25
  have l26 := lit_26
  have l27 := lit_27
  have l28 := lit_28
  have l29 := lit_29
  have k9 : rk 9 = 20 := by decide
  have k10 : rk 10 = 21 := by decide
  have k11 : rk 11 = 22 := by decide
  have k12 : rk 12 = 23 := by decide
  have k13 : rk 13 = 24 := by decide
  have k14 : rk 14 = 25 := by decide
  have k15 : rk 15 = 26 := by decide
  have k16 : rk 16 = 27 := by decide
  have k17 : rk 17 = 28 := by decide
  have k18 : rk 18 = 29 := by decide
  have S1 := a.1.1.2.2.1
  have st11 := S1.2.2.1 rfl
  have s13 := S1.2.1
  have n1 := ncT (show 0 ≤ (hi h 226 11).toInt by omega)
  have n2 : Int32.toNatClampNeg (hi h 226 11) = t := by omega
  have rt := (a.1.1.1 t a.1.1.2.1).1
  have fail {K : Hp → Option Hp} (hK : ∀ q, Pc (K q) (fun r => zr q r)) : Pc ((F_X12_fail n h 1).bind K) (fun q => ZR q → rTell N kd pl vl s T t q) := by
    refine Pc.bind (pr_fail a.1.1.1 a.1.1.2.1 S1 (by decide)) (fun q hq => ?_)
    have s5 := hq.2
    rw [if_pos rfl, f1] at s5
    refine (hK q).mono (fun r m z => ?_)
    have := (m.1 z).1
    have := s5.2.1
    exfalso; omega
  have ch (q : Hp) {x : Int32} : Pc (if ((hi q 226 13) : Int32) ≤ (0 : Int32) then ((F_X12_goesOn n q).bind (fun q54 => ((F_X12_tellLaw n q54 x).bind (fun q56 => some q56)))) else some q) (fun r => zr q r) := by
    refine Pc.ite (fun _ => ?_) (fun _ => Pc.ret (zr.rf _))
    refine Pc.yb zb_X12_goesOn (fun _ => ?_)
    exact Pc.yb zb_X12_tellLaw (fun _ => Pc.ret (zr.rf _))
  -- a law
  have law (k : Nat) (k4 : k < 4) (hk : kd t = 13 + (k : Int)) (ev : (hi h 229 t).toInt = 24 + (k : Int)) : Pc (if ixOK (hi h 226 11) 403 = true then (if ((hi h 229 t) - 24 : Int32) < 0 then ((F_X12_fail n h 1).bind (fun q37 => (if ((hi q37 226 13) : Int32) ≤ (0 : Int32) then ((F_X12_goesOn n q37).bind (fun q40 => ((F_X12_tellLaw n q40 ((hi h 229 t) - 24)).bind (fun q42 => some q42)))) else some q37))) else (if ixOK (hi h 226 11) 403 = true then (if (hi h 229 t) ≤ (27 : Int32) then (if ((hi h 226 13) : Int32) ≤ (0 : Int32) then ((F_X12_goesOn n h).bind (fun q47 => ((F_X12_tellLaw n q47 ((hi h 229 t) - 24)).bind (fun q49 => some q49)))) else some h) else ((F_X12_fail n h 1).bind (fun q51 => (if ((hi q51 226 13) : Int32) ≤ (0 : Int32) then ((F_X12_goesOn n q51).bind (fun q54 => ((F_X12_tellLaw n q54 ((hi h 229 t) - 24)).bind (fun q56 => some q56)))) else some q51)))) else none)) else none) (fun q => ZR q → rTell N kd pl vl s T t q) := by
    refine Pc.chk (fun _ => ?_)
    have sb := sbV (hi h 229 t) 24 ev l24 (by omega) (by omega)
    generalize (hi h 229 t) - 24 = x at sb ⊢
    refine Pc.lt (fun y => by exfalso; omega) (fun _ => Pc.chk (fun _ => ?_))
    refine Pc.le (fun _ => ?_) (fun y => by exfalso; omega)
    refine Pc.le (fun _ => ?_) (fun y => by exfalso; omega)
    exact yt_law X a d hs k4 hk (by omega)
  unfold F_X12_tellOne
  rw [n2, side_n a]
  refine Pc.chk (fun _ => ?_)
  refine Pc.eq (fun e => ?_) (fun e9 => ?_)
  · exact yt_lawn X a d (vd_rk X a.1.1.2.1 (by decide) (by omega))
  refine Pc.eq (fun e => ?_) (fun e10 => ?_)
  · have hk := vd_rk X a.1.1.2.1 (k := 10) (by decide) (by omega)
    refine Pc.chk (fun _ => ?_)
    refine Pc.yt (yz_room X a ne) (fun q15 z b => ?_) (fun q => ?_)
    · obtain ⟨b1, b2, b3, b4⟩ := b
      refine Pc.eq (fun _ => ?_) (fun y => absurd (z.1.trans f0.symm) y)
      have := d.1.2.1.1
      have := d.2.2.1
      exact Pc.bind (yt_tune X a d (by omega) hs b1 b2 hk) (fun q18 hq => Pc.ret hq)
    · refine Pc.ite (fun _ => ?_) (fun _ => Pc.ret (zr.rf _))
      exact Pc.yb zb_X12_tellTune (fun _ => Pc.ret (zr.rf _))
  refine Pc.eq (fun e => ?_) (fun e11 => ?_)
  · have hk := vd_rk X a.1.1.2.1 (k := 11) (by decide) (by omega)
    refine Pc.chk (fun _ => ?_)
    refine Pc.yt (yz_room X a ne) (fun q15 z b => ?_) (fun q => ?_)
    · obtain ⟨b1, b2, b3, b4⟩ := b
      refine Pc.eq (fun _ => ?_) (fun y => absurd (z.1.trans f0.symm) y)
      have := d.1.2.2.1.1
      have := d.2.2.2.1
      exact Pc.bind (yt_goer X a d (by omega) hs b1 b2 hk) (fun q18 hq => Pc.ret hq)
    · refine Pc.ite (fun _ => ?_) (fun _ => Pc.ret (zr.rf _))
      exact Pc.yb zb_X12_tellGoer (fun _ => Pc.ret (zr.rf _))
  refine Pc.eq (fun e => ?_) (fun e12 => ?_)
  · have hk := vd_rk X a.1.1.2.1 (k := 12) (by decide) (by omega)
    refine Pc.chk (fun _ => ?_)
    refine Pc.yt (yz_room X a ne) (fun q15 z b => ?_) (fun q => ?_)
    · obtain ⟨b1, b2, b3, b4⟩ := b
      refine Pc.eq (fun _ => ?_) (fun y => absurd (z.1.trans f0.symm) y)
      have := d.1.2.2.2.1.1
      have := d.2.2.2.2
      exact Pc.bind (yt_rope X a d (by omega) hs b1 b2 hk) (fun q18 hq => Pc.ret hq)
    · refine Pc.ite (fun _ => ?_) (fun _ => Pc.ret (zr.rf _))
      exact Pc.yb zb_X12_tellRope (fun _ => Pc.ret (zr.rf _))
  refine Pc.eq (fun e => ?_) (fun e13 => ?_)
  · have hk := vd_rk X a.1.1.2.1 (k := 13) (by decide) (by omega)
    exact law 0 (by decide) (by omega) (by omega)
  refine Pc.eq (fun e => ?_) (fun e14 => ?_)
  · have hk := vd_rk X a.1.1.2.1 (k := 14) (by decide) (by omega)
    exact law 1 (by decide) (by omega) (by omega)
  refine Pc.eq (fun e => ?_) (fun e15 => ?_)
  · have hk := vd_rk X a.1.1.2.1 (k := 15) (by decide) (by omega)
    exact law 2 (by decide) (by omega) (by omega)
  refine Pc.eq (fun e => ?_) (fun e16 => ?_)
  · have hk := vd_rk X a.1.1.2.1 (k := 16) (by decide) (by omega)
    exact law 3 (by decide) (by omega) (by omega)
  refine Pc.eq (fun e => ?_) (fun e17 => ?_)
  · have hk := vd_rk X a.1.1.2.1 (k := 17) (by decide) (by omega)
    exact yt_one X a d 17 hk (Or.inl ⟨rfl, rfl⟩)
  refine Pc.eq (fun e => ?_) (fun e18 => ?_)
  · have hk := vd_rk X a.1.1.2.1 (k := 18) (by decide) (by omega)
    exact yt_one X a d 18 hk (Or.inr ⟨rfl, rfl⟩)
  -- no statement
  refine Pc.chk (fun _ => Pc.ite (fun _ => fail (fun q => ch q)) (fun y => Pc.chk (fun _ => ?_)))
  refine Pc.le (fun y2 => ?_) (fun _ => fail (fun q => ch q))
  exfalso
  have rv := rgT (hi h 229 t)
  generalize es : (hi h 229 t - 24 : Int32) = x at y
  have y' : 0 ≤ x.toInt := Int.not_lt.mp (fun z => y (Int32.lt_iff_toInt_lt.mpr (by omega)))
  by_cases lo : 24 ≤ (hi h 229 t).toInt
  · omega
  · by_cases lo2 : -2147483624 ≤ (hi h 229 t).toInt
    · have sb := sbG es rfl l24 (by omega) (by omega)
      omega
    · have := (rk_not _ (vdT X a.1.1.2.1)).2
      omega
end RW
end
