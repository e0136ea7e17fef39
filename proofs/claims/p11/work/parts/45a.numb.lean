/-! NUMBERS within bounds, of both: the fault, where, the worst that is not one yet, and where -/
def tkQ (kd : Nat → Int) (k : Int) (s : Int × Nat × Int × Int) : Int × Nat × Int × Int := ((tkS kd k s.1 s.2.1).1, (tkS kd k s.1 s.2.1).2, s.2.2)
def nbQ (kd pl vl : Nat → Int) (lo up : Int) (s : Int × Nat × Int × Int) : Int × Nat × Int × Int := ((tkS kd 30 s.1 s.2.1).1, (tkS kd 30 s.1 s.2.1).2, if (tkS kd 30 s.1 s.2.1).1 = 0 ∧ ¬ (lo ≤ vl s.2.1 ∧ vl s.2.1 ≤ up) ∧ s.2.2.1 = 0 then (5, pl s.2.1) else s.2.2)
/-- the class stands so -/
def cQ (h : Hp) (s : Int × Nat × Int × Int) : Prop := cS h s.1 s.2.1 ∧ (s.1 = 0 → (hi h 2 6).toInt = s.2.2.1 ∧ (s.2.2.1 ≠ 0 → (hi h 2 7).toInt = s.2.2.2))
/-- the reference stands so -/
def rQ (pl : Nat → Int) (h : Hp) (s : Int × Nat × Int × Int) : Prop := rT pl h s.1 s.2.1 ∧ (s.1 = 0 → (hi h 226 15).toInt = s.2.2.1 ∧ (s.2.2.1 ≠ 0 → (hi h 226 16).toInt = s.2.2.2 ∧ s.2.2.2 < pl s.2.1))
def frV (h h' : Hp) : Prop := (∀ a k, ¬ (a = 2 ∧ (k = 4 ∨ k = 5 ∨ k = 6 ∨ k = 7)) → hi h' a k = hi h a k) ∧ ∀ a k, hl h' a k = hl h a k
section NB
variable {N : Nat} {kd pl vl : Nat → Int} {h h' : Hp} {s : Int × Nat × Int × Int} {n : Nat}
theorem frV.rf (h : Hp) : frV h h := ⟨fun _ _ _ => rfl, fun _ _ => rfl⟩
theorem frV.tr {h0 h1 h2 : Hp} (a : frV h0 h1) (b : frV h1 h2) : frV h0 h2 := ⟨fun x k n => (b.1 x k n).trans (a.1 x k n), fun x k => (b.2 x k).trans (a.2 x k)⟩
theorem frK.v (a : frK h h') : frV h h' := ⟨fun x k n => a.1 x k (by omega), a.2⟩
theorem frV.tk (a : frV h h') : tkK h h' := ⟨fun k => a.1 18 k (by omega), fun k => a.1 20 k (by omega), fun k => a.1 21 k (by omega), fun k => a.2 22 k⟩
theorem nb_in (X : TX N kd pl vl) (T : tI2 N s.2.1) {lo up : Int} : tI2 N (nbQ kd pl vl lo up s).2.1 := tk_in X T (by decide)
theorem tq_in (X : TX N kd pl vl) (T : tI2 N s.2.1) {k : Int} (k2 : k ≠ 32) : tI2 N (tkQ kd k s).2.1 := tk_in X T k2
theorem pl_lt (X : TX N kd pl vl) {t t' : Nat} (T' : tI2 N t') (h : t < t') : pl t < pl t' := X.2.2.2 t t' h T'.1
/-- one more TOKEN: the class -/
theorem cq_take (X : TX N kd pl vl) (C : CT N kd pl vl h) (T : tI2 N s.2.1) (S : cQ h s) {x1 : Int32} (k : Int) (hx : x1.toInt = k) : Pc (F_X7_take n h x1) (fun q => frK h q.2 ∧ cQ q.2 (tkQ kd k s) ∧ (q.1.toInt = 0 ↔ (tkQ kd k s).1 ≠ 0)) := by
  subst hx
  refine (pc_take X C T S.1).mono (fun q hq => ⟨hq.1, ⟨hq.2.1, fun z => ?_⟩, hq.2.2⟩)
  have z1 := (tk_z z).1
  rw [hq.1.1 2 6 (by decide), hq.1.1 2 7 (by decide)]
  exact S.2 z1
theorem rq_tk (X : TX N kd pl vl) (T : tI2 N s.2.1) (S : rQ pl h s) {k : Int} (k2 : k ≠ 32) {q : Hp} (fr : frQ h q) (r : rT pl q (tkS kd k s.1 s.2.1).1 (tkS kd k s.1 s.2.1).2) : rQ pl q (tkQ kd k s) := by
  refine ⟨r, fun z => ?_⟩
  obtain ⟨z1, -, z3, z4⟩ := tk_z z
  have a := S.2 z1
  rw [fr.1 226 15 (by decide), fr.1 226 16 (by decide)]
  refine ⟨a.1, fun w => ⟨(a.2 w).1, ?_⟩⟩
  have T' := tk_in X T (k := k) (f := s.1) k2
  have lt : pl s.2.1 < pl (tkQ kd k s).2.1 := pl_lt X T' (by show s.2.1 < (tkS kd k s.1 s.2.1).2; rw [z4]; exact Nat.lt_succ_self _)
  have := (a.2 w).2
  show s.2.2.2 < pl (tkQ kd k s).2.1
  omega
theorem rq_must (X : TX N kd pl vl) (R : RT N kd pl vl h) (T : tI2 N s.2.1) (S : rQ pl h s) {x1 : Int32} (k : Int) (hk : k ∈ vdL) (k2 : k ≠ 32) (hx : x1.toInt = rk k) : Pc (F_X12_must n h x1) (fun q => frQ h q ∧ rQ pl q (tkQ kd k s)) := (pr_must X R T S.1 k hk hx).mono (fun q hq => ⟨hq.1, rq_tk X T S k2 hq.1 hq.2⟩)
theorem i64 {x : Int64} (h0 : 0 ≤ x.toInt) (h1 : x.toInt ≤ 9999) : x.toInt32.toInt = x.toInt := by
  rw [Int64.toInt_toInt32]
  exact Int.bmod_eq_of_le (by omega) (by omega)
theorem cl_T {a lo up : Int32} (h : lo.toInt ≤ up.toInt) : lo.toInt ≤ (if lo < (if a < up then a else up) then (if a < up then a else up) else lo : Int32).toInt ∧ (if lo < (if a < up then a else up) then (if a < up then a else up) else lo : Int32).toInt ≤ up.toInt ∧ (lo.toInt ≤ a.toInt → a.toInt ≤ up.toInt → (if lo < (if a < up then a else up) then (if a < up then a else up) else lo : Int32).toInt = a.toInt) := by
  have key (b : Int32) (hb : b.toInt ≤ up.toInt) (hb2 : lo.toInt ≤ a.toInt → a.toInt ≤ up.toInt → b.toInt = a.toInt) : lo.toInt ≤ (if lo < b then b else lo : Int32).toInt ∧ (if lo < b then b else lo : Int32).toInt ≤ up.toInt ∧ (lo.toInt ≤ a.toInt → a.toInt ≤ up.toInt → (if lo < b then b else lo : Int32).toInt = a.toInt) := by
    by_cases c : lo < b
    · rw [if_pos c]
      have := Int32.lt_iff_toInt_lt.mp c
      exact ⟨by omega, hb, hb2⟩
    · rw [if_neg c]
      have : ¬ lo.toInt < b.toInt := fun z => c (Int32.lt_iff_toInt_lt.mpr z)
      exact ⟨by omega, h, fun x y => by have := hb2 x y; omega⟩
  by_cases c : a < up
  · have c' := Int32.lt_iff_toInt_lt.mp c
    rw [if_pos c]
    exact key a (by omega) (fun _ _ => rfl)
  · have c' : ¬ a.toInt < up.toInt := fun z => c (Int32.lt_iff_toInt_lt.mpr z)
    rw [if_neg c]
    exact key up (Int.le_refl _) (fun x y => by omega)
theorem pc_blame {x1 x2 : Int32} : Pc (F_X7_blame n h x1 x2) (fun q => frV h q ∧ (∀ k, k ≠ 6 → k ≠ 7 → hi q 2 k = hi h 2 k) ∧ ((hi h 2 6).toInt = 0 → hi q 2 6 = x1 ∧ hi q 2 7 = x2) ∧ ((hi h 2 6).toInt ≠ 0 → q = h)) := by
  have f0 := lit_0
  unfold F_X7_blame
  refine Pc.eq (fun c => Pc.ret ⟨⟨fun a k n => by rw [hi_wrI, if_neg (by omega), hi_wrI, if_neg (by omega)], fun a k => rfl⟩, fun k n1 n2 => by rw [hi_wrI, if_neg (by omega), hi_wrI, if_neg (by omega)], fun _ => ⟨?_, ?_⟩, fun z => by exfalso; omega⟩) (fun c => Pc.ret ⟨frV.rf h, fun k _ _ => rfl, fun z => by exfalso; omega, fun _ => rfl⟩)
  · rw [hi_wrI, if_neg (by decide), hi_wrI, if_pos ⟨rfl, rfl⟩]
  · rw [hi_wrI, if_pos ⟨rfl, rfl⟩]
/-- a number: the class -/
def cnQ (kd pl vl : Nat → Int) (lo up : Int) (s : Int × Nat × Int × Int) (h : Hp) (q : Int32 × Hp) : Prop := frV h q.2 ∧ cQ q.2 (nbQ kd pl vl lo up s) ∧ (lo ≤ q.1.toInt ∧ q.1.toInt ≤ up) ∧ ((nbQ kd pl vl lo up s).1 = 0 → lo ≤ vl s.2.1 → vl s.2.1 ≤ up → q.1.toInt = vl s.2.1)
set_option maxHeartbeats 4000000 in
theorem cq_number (X : TX N kd pl vl) (C : CT N kd pl vl h) (T : tI2 N s.2.1) (S : cQ h s) {x1 x2 : Int32} (lu : x1.toInt ≤ x2.toInt) : Pc (F_X7_takeNumber n h x1 x2) (cnQ kd pl vl x1.toInt x2.toInt s h) := by
  have f0 := lit_0
  have f5 := lit_5
  have f30 := lit_30
  unfold F_X7_takeNumber
  refine Pc.bind (pc_valueOf C T S.1.2) (fun q1 h1 => ?_)
  rw [h1.1]
  refine Pc.bind (pc_placeOf C T S.1.2) (fun q3 h3 => ?_)
  rw [h3.1]
  refine Pc.bind (cq_take X C T S 30 f30) (fun q5 h5 => ?_)
  obtain ⟨k1, k2, k3⟩ := h5
  have e1 : (nbQ kd pl vl x1.toInt x2.toInt s).1 = (tkQ kd 30 s).1 := rfl
  refine Pc.eq (fun c => Pc.ret ⟨k1.v, ?_, ⟨Int.le_refl _, lu⟩, fun z => ?_⟩) (fun c => ?_)
  · have nz : (tkQ kd 30 s).1 ≠ 0 := k3.mp (c.trans f0)
    exact ⟨k2.1, fun z => absurd z nz⟩
  · exact absurd z (k3.mp (c.trans f0))
  · have z : (tkQ kd 30 s).1 = 0 := by
      by_cases w : (tkQ kd 30 s).1 = 0
      · exact w
      · exact absurd ((k3.mpr w).trans f0.symm) c
    obtain ⟨z1, z2, z3, z4⟩ := tk_z z
    have tN : s.2.1 < N := by
      by_cases y : s.2.1 < N
      · exact y
      · exfalso
        have : s.2.1 = N := by have := T.1; omega
        rw [this, X.2.1] at z2
        exact absurd z2 (by decide)
    have vb := X.2.2.1 s.2.1 tN z2
    have v1 := (h1.2 tN).2
    have v2 := i64 (x := q1.1) (by omega) (by omega)
    have cl := cl_T (a := q1.1.toInt32) lu
    have k2w := k2.2 z
    have ok (g : Hp) (fr : frV h g) (cg : cQ g (nbQ kd pl vl x1.toInt x2.toInt s)) : Pc (some ((if x1 < (if (q1.1 : Int64).toInt32 < x2 then (q1.1 : Int64).toInt32 else x2) then (if (q1.1 : Int64).toInt32 < x2 then (q1.1 : Int64).toInt32 else x2) else x1), g)) (cnQ kd pl vl x1.toInt x2.toInt s h) := by
      refine Pc.ret ⟨fr, cg, ⟨cl.1, cl.2.1⟩, fun _ a b => ?_⟩
      have := cl.2.2 (by omega) (by omega)
      show (if x1 < (if (q1.1 : Int64).toInt32 < x2 then (q1.1 : Int64).toInt32 else x2) then (if (q1.1 : Int64).toInt32 < x2 then (q1.1 : Int64).toInt32 else x2) else x1 : Int32).toInt = vl s.2.1
      omega
    have bad (nr : ¬ (x1.toInt ≤ vl s.2.1 ∧ vl s.2.1 ≤ x2.toInt)) : Pc ((F_X7_blame n q5.2 5 q3.1).bind (fun q9 => some ((if x1 < (if (q1.1 : Int64).toInt32 < x2 then (q1.1 : Int64).toInt32 else x2) then (if (q1.1 : Int64).toInt32 < x2 then (q1.1 : Int64).toInt32 else x2) else x1), q9))) (cnQ kd pl vl x1.toInt x2.toInt s h) := by
      refine Pc.bind pc_blame (fun g hg => ?_)
      obtain ⟨b1, b2, b3, b4⟩ := hg
      refine ok g (k1.v.tr b1) ⟨⟨by rw [b2 5 (by decide) (by decide)]; exact k2.1.1, by rw [b2 4 (by decide) (by decide)]; exact k2.1.2⟩, fun _ => ?_⟩
      have k2a : (hi q5.2 2 6).toInt = s.2.2.1 := k2w.1
      by_cases w : s.2.2.1 = 0
      · have e : (nbQ kd pl vl x1.toInt x2.toInt s).2.2 = (5, pl s.2.1) := if_pos ⟨z, nr, w⟩
        rw [e]
        have y := b3 (by omega)
        refine ⟨by rw [y.1]; exact f5, fun _ => by rw [y.2]; exact h3.2⟩
      · have e : (nbQ kd pl vl x1.toInt x2.toInt s).2.2 = s.2.2 := if_neg (fun u => w u.2.2)
        rw [e]
        have y := b4 (by omega)
        rw [y]
        exact k2w
    have good (yr : x1.toInt ≤ vl s.2.1 ∧ vl s.2.1 ≤ x2.toInt) : cQ q5.2 (nbQ kd pl vl x1.toInt x2.toInt s) := by
      refine ⟨k2.1, fun _ => ?_⟩
      have e : (nbQ kd pl vl x1.toInt x2.toInt s).2.2 = s.2.2 := if_neg (fun u => u.2.1 yr)
      rw [e]
      exact k2w
    refine Pc.lt (fun c2 => bad (by omega)) (fun c2 => ?_)
    exact Pc.le (fun c3 => ok q5.2 k1.v (good (by omega))) (fun c3 => bad (by omega))
/-- a number: the reference -/
def rnQ (kd pl vl : Nat → Int) (lo up : Int) (s : Int × Nat × Int × Int) (h : Hp) (q : Int32 × Hp) : Prop := frW h q.2 ∧ rQ pl q.2 (nbQ kd pl vl lo up s) ∧ ((nbQ kd pl vl lo up s).1 = 0 → q.1.toInt = vl s.2.1)
theorem rq_number (X : TX N kd pl vl) (R : RT N kd pl vl h) (T : tI2 N s.2.1) (S : rQ pl h s) {x1 x2 : Int32} : Pc (F_X12_bounded n h x1 x2) (rnQ kd pl vl x1.toInt x2.toInt s h) := by
  refine (pr_bounded X R T S.1).mono (fun q hq => ?_)
  obtain ⟨b1, b2, b3⟩ := hq
  refine ⟨b1, ⟨b2, fun z => ?_⟩, fun z => (b3 z).1⟩
  have z' : (tkS kd 30 s.1 s.2.1).1 = 0 := z
  obtain ⟨z1, z2, z3, z4⟩ := tk_z z'
  obtain ⟨-, c1, c2⟩ := b3 z'
  have a := S.2 z1
  have T' := tk_in X T (k := 30) (f := s.1) (by decide)
  have lt : pl s.2.1 < pl (tkS kd 30 s.1 s.2.1).2 := pl_lt X T' (by rw [z4]; exact Nat.lt_succ_self _)
  by_cases yr : x1.toInt ≤ vl s.2.1 ∧ vl s.2.1 ≤ x2.toInt
  · have e : (nbQ kd pl vl x1.toInt x2.toInt s).2.2 = s.2.2 := if_neg (fun u => u.2.1 yr)
    rw [e, (c1 yr).1, (c1 yr).2]
    refine ⟨a.1, fun w => ⟨(a.2 w).1, ?_⟩⟩
    have := (a.2 w).2
    show s.2.2.2 < pl (tkS kd 30 s.1 s.2.1).2
    omega
  · have ws := c2 yr
    by_cases w : s.2.2.1 = 0
    · have e : (nbQ kd pl vl x1.toInt x2.toInt s).2.2 = (5, pl s.2.1) := if_pos ⟨z', yr, w⟩
      rw [e]
      have y := ws.1 (by rw [a.1]; exact w)
      exact ⟨y.1, fun _ => ⟨y.2, lt⟩⟩
    · have e : (nbQ kd pl vl x1.toInt x2.toInt s).2.2 = s.2.2 := if_neg (fun u => w u.2.2)
      rw [e]
      have aw := a.2 w
      have y := ws.2 (by rw [a.1]; exact w) (by rw [aw.1]; exact aw.2)
      rw [y.1, y.2]
      refine ⟨a.1, fun _ => ⟨aw.1, ?_⟩⟩
      have := aw.2
      show s.2.2.2 < pl (tkS kd 30 s.1 s.2.1).2
      omega
end NB
