/-! A CELL IS MOWN, in both -/
/-- what mowing costs -/
def coF (T : TT) (f : Nat → Int32) (b : Nat) : Int32 := if 0 ≤ (lwT T f b 0 0 3).toInt then (if (lwT T f b 0 0 3).toInt ≤ 99 then lwT T f b 0 0 3 else 99) else 0
/-- the row behind it -/
def mwF (T : TT) (f : Nat → Int32) (b : Nat) : Nat → Int32 := upF (upF (upF f 62 (f 62 + coF T f b)) b 0) (25 + b) 0
section R56J
variable {c G : Nat} {f : Nat → Int32} {a : Nat} {h q : Hp} {n : Nat} {v x1 : Int32} {T : TT} {s : Nat}
theorem SCR.pd (x : SCR c G f a h) (c25 : c ≤ 25) (G5 : G ≤ 5) : SCR c G (upF f 62 v) a (wrI h a 1 v) := by
  obtain ⟨⟨x1, x2, x3⟩, x4, x5, x6⟩ := x
  refine ⟨⟨?_, ?_, ?_⟩, fun b hb => ?_, fun b hb => ?_, fun k hk => ?_⟩
  · rw [hi_wrI, if_neg (by omega), upF_n (by omega)]; exact x1
  · rw [hi_wrI, if_pos ⟨rfl, rfl⟩, upF_e]
  · rw [hi_wrI, if_neg (by omega), upF_n (by omega)]; exact x3
  · rw [hi_wrI, if_neg (by omega)]
    by_cases y : b < c
    · rw [upF_n (by omega)]; exact x4 b hb
    · exact ⟨fun z => absurd ((x4 b hb).mp z).1 y, fun z => absurd z.1 y⟩
  · rw [hi_wrI, if_neg (by omega), upF_n (by omega), upF_n (by omega)]; exact x5 b hb
  · rw [hi_wrI, if_neg (by omega), hi_wrI, if_neg (by omega), upF_n (by omega), upF_n (by omega)]; exact x6 k hk
theorem SCR.hu (x : SCR c G f a h) (c25 : c ≤ 25) (G5 : G ≤ 5) {b : Nat} (hb : b < c) (hx : x1.toInt = (b : Int)) : SCR c G (upF (upF f b 0) (25 + b) 0) a (wrI h a 3 (hi h a 3 &&& (((1 : Int32) <<< (x1 &&& 31)) ^^^ (-1)))) := by
  have f0 := lit_0
  obtain ⟨⟨y1, y2, y3⟩, y4, y5, y6⟩ := x
  have n1 := ncT (show 0 ≤ x1.toInt by omega)
  have n2 : Int32.toNatClampNeg x1 = b := by omega
  refine ⟨⟨?_, ?_, ?_⟩, fun i hi' => ?_, fun i hi' => ?_, fun k hk => ?_⟩
  · rw [hi_wrI, if_neg (by omega), upF_n (by omega), upF_n (by omega)]; exact y1
  · rw [hi_wrI, if_neg (by omega), upF_n (by omega), upF_n (by omega)]; exact y2
  · rw [hi_wrI, if_neg (by omega), upF_n (by omega), upF_n (by omega)]; exact y3
  · rw [hi_wrI, if_pos ⟨rfl, rfl⟩, bt_and, bt_not _ hi', btL (by omega) (by omega), n2, Bool.and_eq_true, y4 i hi']
    by_cases z : i = b
    · refine ⟨fun w => ?_, fun w => ?_⟩
      · have := w.2
        rw [decide_eq_true z] at this
        exact absurd this (by decide)
      · have := w.2
        rw [z, upF_n (by omega), upF_e] at this
        exfalso; omega
    · rw [decide_eq_false z]
      refine ⟨fun w => ⟨w.1.1, ?_⟩, fun w => ⟨⟨w.1, ?_⟩, rfl⟩⟩
      · rw [upF_n (by have := w.1.1; omega), upF_n z]; exact w.1.2
      · have := w.2
        rw [upF_n (by have := w.1; omega), upF_n z] at this
        exact this
  · rw [hi_wrI, if_neg (by omega)]
    by_cases z : i = b
    · rw [z, upF_n (show b ≠ 25 + b by omega), upF_e]
      intro w
      exfalso; omega
    · rw [upF_n (show i ≠ 25 + b by omega), upF_n z, upF_n (show 25 + i ≠ 25 + b by omega), upF_n (show 25 + i ≠ b by omega)]
      exact y5 i hi'
  · rw [hi_wrI, if_neg (by omega), hi_wrI, if_neg (by omega), upF_n (by omega), upF_n (by omega), upF_n (by omega), upF_n (by omega)]; exact y6 k hk
theorem RVR.mw (x : RVR c G f) (c25 : c ≤ 25) (G5 : G ≤ 5) {b : Nat} (hb : b < c) : RVR c G (upF (upF (upF f 62 v) b 0) (25 + b) 0) := by
  have f0 := lit_0
  obtain ⟨x1, x2, x3, x4⟩ := x
  refine ⟨fun i hi' => ?_, fun i hi' => ?_, fun k hk => ?_, fun k h1 h2 => ?_⟩
  · by_cases z : i = b
    · rw [z, upF_n (show b ≠ 25 + b by omega), upF_e]
      exact ⟨fun _ => f0, by omega, fun w => by exfalso; omega⟩
    · rw [upF_n (show i ≠ 25 + b by omega), upF_n z, upF_n (show i ≠ 62 by omega), upF_n (show 25 + i ≠ 25 + b by omega), upF_n (show 25 + i ≠ b by omega), upF_n (show 25 + i ≠ 62 by omega)]
      exact x1 i hi'
  · rw [upF_n (by omega), upF_n (by omega), upF_n (by omega)]; exact x2 i hi'
  · rw [upF_n (by omega), upF_n (by omega), upF_n (by omega), upF_n (by omega), upF_n (by omega), upF_n (by omega)]; exact x3 k hk
  · rw [upF_n (by omega), upF_n (by omega), upF_n (by omega), upF_n (by omega), upF_n (by omega), upF_n (by omega)]; exact x4 k h1 h2
/-- the class: what mowing costs -/
theorem co_c (v : VT T) (bd : BDF T 23 h) (sc : SCR (wT T * gT T) G f a h) (rv : RVR (wT T * gT T) G f) (ha : 30 ≤ a) {b : Nat} (hb : b < wT T * gT T) (hx : x1.toInt = (b : Int)) : Pc (F_X0_costOf n h 23 a x1) (fun q => q.1 = coF T f b) := by
  have f0 := lit_0
  have f3 := lit_3
  have f99 : (99 : Int32).toInt = 99 := by decide
  unfold F_X0_costOf
  refine Pc.bind (as_c v bd sc rv ha hb hx (k := 3) (by decide) f3 (x4 := 0) (x5 := 0)) (fun q1 h1 => Pc.ret ?_)
  show (if (0 : Int32) < (if q1.1 < (99 : Int32) then q1.1 else 99) then (if q1.1 < (99 : Int32) then q1.1 else 99) else 0) = coF T f b
  unfold coF
  rw [← h1]
  generalize q1.1 = y
  by_cases z : y < (99 : Int32)
  · have := Int32.lt_iff_toInt_lt.mp z
    rw [if_pos z]
    by_cases w : (0 : Int32) < y
    · have := Int32.lt_iff_toInt_lt.mp w
      rw [if_pos w, if_pos (by omega), if_pos (by omega)]
    · have w' : ¬ (0 : Int32).toInt < y.toInt := fun u => w (Int32.lt_iff_toInt_lt.mpr u)
      rw [if_neg w]
      by_cases u : 0 ≤ y.toInt
      · rw [if_pos u, if_pos (by omega)]
        exact Int32.toInt_inj.mp (by omega)
      · rw [if_neg u]
  · have z' : ¬ y.toInt < (99 : Int32).toInt := fun u => z (Int32.lt_iff_toInt_lt.mpr u)
    rw [if_neg z, if_pos (show (0 : Int32) < 99 by decide), if_pos (by omega)]
    by_cases w : y.toInt ≤ 99
    · rw [if_pos w]
      exact Int32.toInt_inj.mp (by omega)
    · rw [if_neg w]
/-- the reference: what mowing costs -/
theorem co_r (v : VT T) (e : EN2 s T h) {b : Nat} (hb : b < wT T * gT T) (hx : x1.toInt = (b : Int)) : Pc (F_X12_costsOf n h x1) (fun q => q.1 = coF T (hi h 263) b) := by
  have f0 := lit_0
  have f3 := lit_3
  have f99 : (99 : Int32).toInt = 99 := by decide
  unfold F_X12_costsOf
  refine Pc.bind (ar_r v e hb hx (k := 3) (by decide) f3 rfl (x2 := 0) (x3 := 0)) (fun q1 h1 => ?_)
  have wi : Pc (F_X12_within n q1.2 q1.1 0 99) (fun q => q.1 = coF T (hi h 263) b) := by
    unfold F_X12_within coF
    rw [← h1]
    generalize q1.1 = y
    refine Pc.le (fun z => ?_) (fun z => Pc.ret ?_)
    · refine Pc.le (fun w => Pc.ret ?_) (fun w => Pc.ret ?_)
      · rw [if_pos (by omega), if_pos (by omega)]
      · rw [if_pos (by omega), if_neg (by omega)]
    · rw [if_neg (by omega)]
  exact Pc.bind wi (fun q3 h3 => Pc.ret h3)
end R56J
