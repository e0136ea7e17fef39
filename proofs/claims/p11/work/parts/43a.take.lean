/-! TAKING TOKENS: what both do, and the class -/
/-- one TOKEN of kind k is taken: f the fault, t where one stands -/
def tkS (kd : Nat → Int) (k f : Int) (t : Nat) : Int × Nat := if f = 0 then (if kd t = k then (if t < 400 then (0, t + 1) else (2, t)) else (1, t)) else (f, t)
/-- N TOKENS: kinds, places, numbers -/
def TX (N : Nat) (kd pl vl : Nat → Int) : Prop := (∀ t, t < N → kd t ∈ vdL ∧ kd t ≠ 32) ∧ kd N = 32 ∧ (∀ t, t < N → kd t = 30 → 0 ≤ vl t ∧ vl t ≤ 9999) ∧ (∀ t t', t < t' → t' ≤ N → pl t < pl t')
def tI2 (N t : Nat) : Prop := t ≤ N ∧ t ≤ 400
/-- the class's TOKENS are these -/
def CT (N : Nat) (kd pl vl : Nat → Int) (h : Hp) : Prop := (hi h 18 5).toInt = (N : Int) ∧ (hi h 18 6).toInt = pl N ∧ ∀ t, t < N → (vp_nar .byte (hi h 20 t)).toInt = kd t ∧ (vp_nar .short (hi h 21 t)).toInt = pl t ∧ (hl h 22 t).toInt = vl t
def tkK (h h' : Hp) : Prop := (∀ k, hi h' 18 k = hi h 18 k) ∧ (∀ k, hi h' 20 k = hi h 20 k) ∧ (∀ k, hi h' 21 k = hi h 21 k) ∧ ∀ k, hl h' 22 k = hl h 22 k
section TA
variable {N : Nat} {kd pl vl : Nat → Int} {h h' : Hp} {t : Nat}
theorem CT.cg (C : CT N kd pl vl h) (k : tkK h h') : CT N kd pl vl h' := ⟨by rw [k.1]; exact C.1, by rw [k.1]; exact C.2.1, fun t ht => by rw [k.2.1, k.2.2.1, k.2.2.2]; exact C.2.2 t ht⟩
theorem TX.end (X : TX N kd pl vl) (T : tI2 N t) : kd t = 32 → t = N := fun z => by
  by_cases y : t < N
  · exact absurd z (X.1 t y).2
  · unfold tI2 at T; omega
theorem tk_in (X : TX N kd pl vl) (T : tI2 N t) {k f : Int} (k2 : k ≠ 32) : tI2 N (tkS kd k f t).2 := by
  unfold tkS
  by_cases a : f = 0
  · rw [if_pos a]
    by_cases b : kd t = k
    · rw [if_pos b]
      by_cases c : t < 400
      · rw [if_pos c]
        show tI2 N (t + 1)
        unfold tI2 at T ⊢
        refine ⟨?_, by omega⟩
        by_cases y : t < N
        · omega
        · exfalso
          have : t = N := by omega
          rw [this, X.2.1] at b
          exact k2 b.symm
      · rw [if_neg c]; exact T
    · rw [if_neg b]; exact T
  · rw [if_neg a]; exact T
theorem tk_f {k f : Int} (f0 : f ≠ 0) : tkS kd k f t = (f, t) := by
  unfold tkS
  rw [if_neg f0]
theorem tk_le {k f : Int} : t ≤ (tkS kd k f t).2 := by
  unfold tkS
  by_cases a : f = 0
  · rw [if_pos a]
    by_cases b : kd t = k
    · rw [if_pos b]
      by_cases c : t < 400
      · rw [if_pos c]; exact Nat.le_succ t
      · rw [if_neg c]; exact Nat.le_refl t
    · rw [if_neg b]; exact Nat.le_refl t
  · rw [if_neg a]; exact Nat.le_refl t
theorem tk_z {k f : Int} (z : (tkS kd k f t).1 = 0) : f = 0 ∧ kd t = k ∧ t < 400 ∧ tkS kd k f t = (0, t + 1) := by
  unfold tkS at z ⊢
  by_cases a : f = 0
  · rw [if_pos a] at z ⊢
    by_cases b : kd t = k
    · rw [if_pos b] at z ⊢
      by_cases c : t < 400
      · rw [if_pos c]; exact ⟨a, b, c, rfl⟩
      · rw [if_neg c] at z; exact absurd z (show ¬ (2 : Int) = 0 by decide)
    · rw [if_neg b] at z; exact absurd z (show ¬ (1 : Int) = 0 by decide)
  · rw [if_neg a] at z; exact absurd z a
theorem tk_r {k f : Int} : (tkS kd k f t).1 = f ∨ (f = 0 ∧ ((tkS kd k f t).1 = 1 ∨ (tkS kd k f t).1 = 2)) := by
  unfold tkS
  by_cases a : f = 0
  · rw [if_pos a]
    by_cases b : kd t = k
    · rw [if_pos b]
      by_cases c : t < 400
      · rw [if_pos c]; exact Or.inl a.symm
      · rw [if_neg c]; exact Or.inr ⟨a, Or.inr rfl⟩
    · rw [if_neg b]; exact Or.inr ⟨a, Or.inl rfl⟩
  · rw [if_neg a]; exact Or.inl rfl
theorem lit_33 : (33 : Int32).toInt = 33 := by decide
theorem lit_31 : (31 : Int32).toInt = 31 := by decide
theorem pc_kindOf (X : TX N kd pl vl) (C : CT N kd pl vl h) (T : tI2 N t) {n : Nat} {x1 : Int32} (hx : x1.toInt = (t : Int)) : Pc (F_X9_kindOf n h x1) (fun q => q.2 = h ∧ q.1.toInt = kd t) := by
  have f0 := lit_0
  have f32 := lit_32
  have c1 := C.1
  unfold tI2 at T
  unfold F_X9_kindOf
  refine Pc.lt (fun c => by exfalso; omega) (fun _ => Pc.le (fun c => Pc.ret ⟨rfl, ?_⟩) (fun c => Pc.chk (fun _ => Pc.ret ⟨rfl, ?_⟩)))
  · have : t = N := by omega
    rw [this, X.2.1]
    exact f32
  · have n1 := ncT (show 0 ≤ x1.toInt by omega)
    have n2 : Int32.toNatClampNeg x1 = t := by omega
    show (vp_nar .byte (hi h 20 (Int32.toNatClampNeg x1))).toInt = kd t
    rw [n2]
    exact (C.2.2 t (by omega)).1
theorem pc_placeOf (C : CT N kd pl vl h) (T : tI2 N t) {n : Nat} {x1 : Int32} (hx : x1.toInt = (t : Int)) : Pc (F_X9_placeOf n h x1) (fun q => q.2 = h ∧ q.1.toInt = pl t) := by
  have f0 := lit_0
  have c1 := C.1
  unfold tI2 at T
  unfold F_X9_placeOf
  refine Pc.lt (fun c => by exfalso; omega) (fun _ => Pc.le (fun c => Pc.ret ⟨rfl, ?_⟩) (fun c => Pc.chk (fun _ => Pc.ret ⟨rfl, ?_⟩)))
  · have : t = N := by omega
    rw [this]
    exact C.2.1
  · have n1 := ncT (show 0 ≤ x1.toInt by omega)
    have n2 : Int32.toNatClampNeg x1 = t := by omega
    show (vp_nar .short (hi h 21 (Int32.toNatClampNeg x1))).toInt = pl t
    rw [n2]
    exact (C.2.2 t (by omega)).2.1
theorem pc_valueOf (C : CT N kd pl vl h) (T : tI2 N t) {n : Nat} {x1 : Int32} (hx : x1.toInt = (t : Int)) : Pc (F_X9_valueOf n h x1) (fun q => q.2 = h ∧ (t < N → q.1 = hl h 22 t ∧ q.1.toInt = vl t)) := by
  have f0 := lit_0
  have c1 := C.1
  unfold tI2 at T
  unfold F_X9_valueOf
  refine Pc.lt (fun c => by exfalso; omega) (fun _ => Pc.le (fun c => Pc.ret ⟨rfl, fun z => by exfalso; omega⟩) (fun c => Pc.chk (fun _ => Pc.ret ⟨rfl, fun z => ?_⟩)))
  have n1 := ncT (show 0 ≤ x1.toInt by omega)
  have n2 : Int32.toNatClampNeg x1 = t := by omega
  show hl h 22 (Int32.toNatClampNeg x1) = hl h 22 t ∧ (hl h 22 (Int32.toNatClampNeg x1)).toInt = vl t
  rw [n2]
  exact ⟨rfl, (C.2.2 t (by omega)).2.2⟩
/-- only where one stands and the fault have changed -/
def frK (h h' : Hp) : Prop := (∀ a k, ¬ (a = 2 ∧ (k = 4 ∨ k = 5)) → hi h' a k = hi h a k) ∧ ∀ a k, hl h' a k = hl h a k
theorem frK.rf (h : Hp) : frK h h := ⟨fun _ _ _ => rfl, fun _ _ => rfl⟩
theorem frK.tr {h0 h1 h2 : Hp} (a : frK h0 h1) (b : frK h1 h2) : frK h0 h2 := ⟨fun x k n => (b.1 x k n).trans (a.1 x k n), fun x k => (b.2 x k).trans (a.2 x k)⟩
theorem frK.tk (a : frK h h') : tkK h h' := ⟨fun k => a.1 18 k (by omega), fun k => a.1 20 k (by omega), fun k => a.1 21 k (by omega), fun k => a.2 22 k⟩
/-- the class stands at t with the fault f -/
def cS (h : Hp) (f : Int) (t : Nat) : Prop := (hi h 2 5).toInt = f ∧ (hi h 2 4).toInt = (t : Int)
theorem pc_stop {n : Nat} {x1 : Int32} {f : Int} (S : cS h f t) : Pc (F_X7_stop n h x1) (fun q => frK h q ∧ cS q (if f = 0 then x1.toInt else f) t) := by
  have f0 := lit_0
  unfold F_X7_stop
  refine Pc.eq (fun c => Pc.ret ⟨⟨fun a k n => by rw [hi_wrI, if_neg (by omega)], fun a k => rfl⟩, ?_, ?_⟩) (fun c => Pc.ret ⟨frK.rf h, ?_, S.2⟩)
  · rw [hi_wrI, if_pos ⟨rfl, rfl⟩, if_pos (by rw [← S.1]; omega)]
  · rw [hi_wrI, if_neg (by decide)]; exact S.2
  · rw [if_neg (by rw [← S.1]; omega)]; exact S.1
def tkP (kd : Nat → Int) (k f : Int) (t : Nat) (h : Hp) (q : Int32 × Hp) : Prop := frK h q.2 ∧ cS q.2 (tkS kd k f t).1 (tkS kd k f t).2 ∧ (q.1.toInt = 0 ↔ (tkS kd k f t).1 ≠ 0)
set_option maxHeartbeats 4000000 in
theorem pc_take (X : TX N kd pl vl) (C : CT N kd pl vl h) (T : tI2 N t) {n : Nat} {x1 : Int32} {f : Int} (S : cS h f t) : Pc (F_X7_take n h x1) (tkP kd x1.toInt f t h) := by
  have f0 := lit_0
  have f1 := lit_1
  have f2 := lit_2
  have f4 := lit_400
  have T2 := T.2
  unfold F_X7_take
  refine Pc.bind (pc_kindOf X C T S.2) (fun q1 h1 => ?_)
  rw [h1.1]
  have s1 := S.1
  have s2 := S.2
  have a1 := adT (hi h 2 4) 1 (by omega) (by omega)
  -- no fault, or one: the end of it
  have go (g : Hp) (fr : frK h g) (S' : cS g 0 t) (fz : f = 0) (e : tkS kd x1.toInt f t = (0, t + 1)) : Pc (if ((hi (wrI g 2 4 ((hi g 2 4) + 1)) 2 5) : Int32) = (0 : Int32) then some ((1 : Int32), (wrI g 2 4 ((hi g 2 4) + 1))) else some ((0 : Int32), (wrI g 2 4 ((hi g 2 4) + 1)))) (tkP kd x1.toInt f t h) := by
    have e5 : hi (wrI g 2 4 (hi g 2 4 + 1)) 2 5 = hi g 2 5 := by rw [hi_wrI, if_neg (by decide)]
    have b1 := S'.1
    have b2 := S'.2
    have a2 := adT (hi g 2 4) 1 (by omega) (by omega)
    rw [e5]
    refine Pc.eq (fun _ => Pc.ret ⟨⟨fun a k n => by rw [hi_wrI, if_neg (by omega)]; exact fr.1 a k n, fun a k => fr.2 a k⟩, ⟨?_, ?_⟩, ?_⟩) (fun c => by exfalso; omega)
    · rw [e5, e]; exact b1
    · rw [hi_wrI, if_pos ⟨rfl, rfl⟩, e]
      show (hi g 2 4 + 1).toInt = ((t + 1 : Nat) : Int)
      omega
    · rw [e]
      show (1 : Int32).toInt = 0 ↔ (0 : Int) ≠ 0
      omega
  have no (g : Hp) (fr : frK h g) (S' : cS g (tkS kd x1.toInt f t).1 t) (e : (tkS kd x1.toInt f t).2 = t) (ne : (tkS kd x1.toInt f t).1 ≠ 0) : Pc (if ((hi g 2 5) : Int32) = (0 : Int32) then some ((1 : Int32), g) else some ((0 : Int32), g)) (tkP kd x1.toInt f t h) := by
    have b1 := S'.1
    refine Pc.eq (fun c => by exfalso; omega) (fun c => Pc.ret ⟨fr, by rw [e]; exact S', ?_⟩)
    show (0 : Int32).toInt = 0 ↔ _
    exact ⟨fun _ => ne, fun _ => f0⟩
  refine Pc.eq (fun c1 => ?_) (fun c1 => ?_)
  · have ek : kd t = x1.toInt := by rw [← h1.2]; exact c1
    refine Pc.lt (fun c2 => ?_) (fun c2 => ?_)
    · refine Pc.eq (fun c3 => ?_) (fun c3 => ?_)
      · have fz : f = 0 := by omega
        exact go h (frK.rf h) ⟨by omega, s2⟩ fz (by unfold tkS; rw [if_pos fz, if_pos ek, if_pos (by omega)])
      · have fz : f ≠ 0 := by omega
        exact no h (frK.rf h) (by rw [tk_f fz]; exact S) (by rw [tk_f fz]) (by rw [tk_f fz]; exact fz)
    · refine Pc.bind (pc_stop S) (fun g hg => ?_)
      by_cases fz : f = 0
      · have e : tkS kd x1.toInt f t = (2, t) := by unfold tkS; rw [if_pos fz, if_pos ek, if_neg (by omega)]
        have S' := hg.2
        rw [if_pos fz, f2] at S'
        have b1 := S'.1
        refine Pc.eq (fun c => by exfalso; omega) (fun c => ?_)
        exact no g hg.1 (by rw [e]; exact S') (by rw [e]) (by rw [e]; show (2 : Int) ≠ 0; decide)
      · have S' := hg.2
        rw [if_neg fz] at S'
        have b1 := S'.1
        refine Pc.eq (fun c => by exfalso; omega) (fun c => ?_)
        exact no g hg.1 (by rw [tk_f fz]; exact S') (by rw [tk_f fz]) (by rw [tk_f fz]; exact fz)
  · have ek : kd t ≠ x1.toInt := by rw [← h1.2]; exact c1
    refine Pc.bind (pc_stop S) (fun g hg => ?_)
    by_cases fz : f = 0
    · have e : tkS kd x1.toInt f t = (1, t) := by unfold tkS; rw [if_pos fz, if_neg ek]
      have S' := hg.2
      rw [if_pos fz, f1] at S'
      have b1 := S'.1
      refine Pc.eq (fun c => by exfalso; omega) (fun c => ?_)
      exact no g hg.1 (by rw [e]; exact S') (by rw [e]) (by rw [e]; show (1 : Int) ≠ 0; decide)
    · have S' := hg.2
      rw [if_neg fz] at S'
      have b1 := S'.1
      refine Pc.eq (fun c => by exfalso; omega) (fun c => ?_)
      exact no g hg.1 (by rw [tk_f fz]; exact S') (by rw [tk_f fz]) (by rw [tk_f fz]; exact fz)
end TA
