section
/-! TAKING TOKENS: what both do, and the class -/
/-- one TOKEN of kind k is taken: f the fault, t where one stands -/
def tkS (kd : Nat → Int) (k f : Int) (t : Nat) : Int × Nat := if f = 0 then (if kd t = k then (if t < 400 then (0, t + 1) else (2, t)) else (1, t)) else (f, t)
/-- N TOKENS: kinds, places, numbers -/
def TX (N : Nat) (kd pl vl : Nat → Int) : Prop := (∀ t, t < N → kd t ∈ vdL ∧ kd t ≠ 32) ∧ kd N = 32 ∧ (∀ t, t < N → kd t = 30 → 0 ≤ vl t ∧ vl t ≤ 9999) ∧ (∀ t t', t < t' → t' ≤ N → pl t < pl t')
def tI2 (N t : Nat) : Prop := t ≤ N ∧ t ≤ 400
/-- the class's TOKENS are these -/
def CT (N : Nat) (kd pl vl : Nat → Int) (h : Hp) : Prop := (hi h 18 5).toInt = (N : Int) ∧ (hi h 18 6).toInt = pl N ∧ ∀ t, t < N → (vp_nar .byte (hi h 20 t)).toInt = kd t ∧ (vp_nar .short (hi h 21 t)).toInt = pl t ∧ (hl h 22 t).toInt = vl t
def tkK (h h' : Hp) : Prop := (∀ k, hi h' 18 k = hi h 18 k) ∧ (∀ k, hi h' 20 k = hi h 20 k) ∧ (∀ k, hi h' 21 k = hi h 21 k) ∧ ∀ k, hl h' 22 k = hl h 22 k
section TA
variable {N : Nat} {kd pl vl : Nat → Int} {h h' : Hp} {t : Nat}
theorem CT.cg (C : CT N kd pl vl h) (k : tkK h h') : CT N kd pl vl h' := ⟨by rw [k.1]; exact C.1, by rw [k.1]; exact C.2.1, fun t ht => by rw [k.2.1, k.2.2.1, k.2.2.2]; exact C.2.2 t ht⟩
theorem TX.end (X : TX N kd pl vl) (T : tI2 N t) : kd t = 32 → t = N := fun z => by
  by_cases y : t < N
  · exact absurd z (X.1 t y).2
  · unfold tI2 at T; omega
theorem tk_in (X : TX N kd pl vl) (T : tI2 N t) {k f : Int} (k2 : k ≠ 32) : tI2 N (tkS kd k f t).2 := by
  unfold tkS
  by_cases a : f = 0
  · rw [if_pos a]
    by_cases b : kd t = k
    · rw [if_pos b]
      by_cases c : t < 400
      · rw [if_pos c]
        show tI2 N (t + 1)
        unfold tI2 at T ⊢
        refine ⟨?_, by omega⟩
        by_cases y : t < N
        · omega
        · exfalso
          have : t = N := by omega
          rw [this, X.2.1] at b
          exact k2 b.symm
      · rw [if_neg c]; exact T
    · rw [if_neg b]; exact T
  · rw [if_neg a]; exact T
theorem tk_f {k f : Int} (f0 : f ≠ 0) : tkS kd k f t = (f, t) := by
  unfold tkS
  rw [if_neg f0]
theorem tk_le {k f : Int} : t ≤ (tkS kd k f t).2 := by
  unfold tkS
  by_cases a : f = 0
  · rw [if_pos a]
    by_cases b : kd t = k
    · rw [if_pos b]
      by_cases c : t < 400
      · rw [if_pos c]; exact Nat.le_succ t
      · rw [if_neg c]; exact Nat.le_refl t
    · rw [if_neg b]; exact Nat.le_refl t
  · rw [if_neg a]; exact Nat.le_refl t
theorem tk_z {k f : Int} (z : (tkS kd k f t).1 = 0) : f = 0 ∧ kd t = k ∧ t < 400 ∧ tkS kd k f t = (0, t + 1) := by
  unfold tkS at z ⊢
  by_cases a : f = 0
  · rw [if_pos a] at z ⊢
    by_cases b : kd t = k
    · rw [if_pos b] at z ⊢
      by_cases c : t < 400
      · rw [if_pos c]; exact ⟨a, b, c, rfl⟩
      · rw [if_neg c] at z; exact absurd z (show ¬ (2 : Int) = 0 by decide)
    · rw [if_neg b] at z; exact absurd z (show ¬ (1 : Int) = 0 by decide)
  · rw [if_neg a] at z; exact absurd z a
theorem tk_r {k f : Int} : (tkS kd k f t).1 = f ∨ (f = 0 ∧ ((tkS kd k f t).1 = 1 ∨ (tkS kd k f t).1 = 2)) := by
  unfold tkS
  by_cases a : f = 0
  · rw [if_pos a]
    by_cases b : kd t = k
    · rw [if_pos b]
      by_cases c : t < 400
      · rw [if_pos c]; exact Or.inl a.symm
      · rw [if_neg c]; exact Or.inr ⟨a, Or.inr rfl⟩
    · rw [if_neg b]; exact Or.inr ⟨a, Or.inl rfl⟩
  · rw [if_neg a]; exact Or.inl rfl
theorem lit_33 : (33 : Int32).toInt = 33 := by decide
theorem lit_31 : (31 : Int32).toInt = 31 := by decide
theorem pc_kindOf (X : TX N kd pl vl) (C : CT N kd pl vl h) (T : tI2 N t) {n : Nat} {x1 : Int32} (hx : x1.toInt = (t : Int)) : Pc (F_X9_kindOf n h x1) (fun q => q.2 = h ∧ q.1.toInt = kd t) := by
  have f0 := lit_0
  have f32 := lit_32
  have c1 := C.1
  unfold tI2 at T
  unfold F_X9_kindOf
  refine Pc.lt (fun c => by exfalso; omega) (fun _ => Pc.le (fun c => Pc.ret ⟨rfl, ?_⟩) (fun c => Pc.chk (fun _ => Pc.ret ⟨rfl, ?_⟩)))
  · have : t = N := by omega
    rw [this, X.2.1]
    exact f32
  · have n1 := ncT (show 0 ≤ x1.toInt by omega)
    have n2 : Int32.toNatClampNeg x1 = t := by omega
    show (vp_nar .byte (hi h 20 (Int32.toNatClampNeg x1))).toInt = kd t
    rw [n2]
    exact (C.2.2 t (by omega)).1
theorem pc_placeOf (C : CT N kd pl vl h) (T : tI2 N t) {n : Nat} {x1 : Int32} (hx : x1.toInt = (t : Int)) : Pc (F_X9_placeOf n h x1) (fun q => q.2 = h ∧ q.1.toInt = pl t) := by
  have f0 := lit_0
  have c1 := C.1
  unfold tI2 at T
  unfold F_X9_placeOf
  refine Pc.lt (fun c => by exfalso; omega) (fun _ => Pc.le (fun c => Pc.ret ⟨rfl, ?_⟩) (fun c => Pc.chk (fun _ => Pc.ret ⟨rfl, ?_⟩)))
  · have : t = N := by omega
    rw [this]
    exact C.2.1
  · have n1 := ncT (show 0 ≤ x1.toInt by omega)
    have n2 : Int32.toNatClampNeg x1 = t := by omega
    show (vp_nar .short (hi h 21 (Int32.toNatClampNeg x1))).toInt = pl t
    rw [n2]
    exact (C.2.2 t (by omega)).2.1
theorem pc_valueOf (C : CT N kd pl vl h) (T : tI2 N t) {n : Nat} {x1 : Int32} (hx : x1.toInt = (t : Int)) : Pc (F_X9_valueOf n h x1) (fun q => q.2 = h ∧ (t < N → q.1 = hl h 22 t ∧ q.1.toInt = vl t)) := by
  have f0 := lit_0
  have c1 := C.1
  unfold tI2 at T
  unfold F_X9_valueOf
  refine Pc.lt (fun c => by exfalso; omega) (fun _ => Pc.le (fun c => Pc.ret ⟨rfl, fun z => by exfalso; omega⟩) (fun c => Pc.chk (fun _ => Pc.ret ⟨rfl, fun z => ?_⟩)))
  have n1 := ncT (show 0 ≤ x1.toInt by omega)
  have n2 : Int32.toNatClampNeg x1 = t := by omega
  show hl h 22 (Int32.toNatClampNeg x1) = hl h 22 t ∧ (hl h 22 (Int32.toNatClampNeg x1)).toInt = vl t
  rw [n2]
  exact ⟨rfl, (C.2.2 t (by omega)).2.2⟩
/-- only where one stands and the fault have changed -/
def frK (h h' : Hp) : Prop := (∀ a k, ¬ (a = 2 ∧ (k = 4 ∨ k = 5)) → hi h' a k = hi h a k) ∧ ∀ a k, hl h' a k = hl h a k
theorem frK.rf (h : Hp) : frK h h := ⟨fun _ _ _ => rfl, fun _ _ => rfl⟩
theorem frK.tr {h0 h1 h2 : Hp} (a : frK h0 h1) (b : frK h1 h2) : frK h0 h2 := ⟨fun x k n => (b.1 x k n).trans (a.1 x k n), fun x k => (b.2 x k).trans (a.2 x k)⟩
theorem frK.tk (a : frK h h') : tkK h h' := ⟨fun k => a.1 18 k (by omega), fun k => a.1 20 k (by omega), fun k => a.1 21 k (by omega), fun k => a.2 22 k⟩
/-- the class stands at t with the fault f -/
def cS (h : Hp) (f : Int) (t : Nat) : Prop := (hi h 2 5).toInt = f ∧ (hi h 2 4).toInt = (t : Int)
theorem pc_stop {n : Nat} {x1 : Int32} {f : Int} (S : cS h f t) : Pc (F_X7_stop n h x1) (fun q => frK h q ∧ cS q (if f = 0 then x1.toInt else f) t) := by
  have f0 := lit_0
  unfold F_X7_stop
  refine Pc.eq (fun c => Pc.ret ⟨⟨fun a k n => by rw [hi_wrI, if_neg (by omega)], fun a k => rfl⟩, ?_, ?_⟩) (fun c => Pc.ret ⟨frK.rf h, ?_, S.2⟩)
  · rw [hi_wrI, if_pos ⟨rfl, rfl⟩, if_pos (by rw [← S.1]; omega)]
  · rw [hi_wrI, if_neg (by decide)]; exact S.2
  · rw [if_neg (by rw [← S.1]; omega)]; exact S.1
def tkP (kd : Nat → Int) (k f : Int) (t : Nat) (h : Hp) (q : Int32 × Hp) : Prop := frK h q.2 ∧ cS q.2 (tkS kd k f t).1 (tkS kd k f t).2 ∧ (q.1.toInt = 0 ↔ (tkS kd k f t).1 ≠ 0)
set_option maxHeartbeats 4000000 in
theorem pc_take (X : TX N kd pl vl) (C : CT N kd pl vl h) (T : tI2 N t) {n : Nat} {x1 : Int32} {f : Int} (S : cS h f t) : Pc (F_X7_take n h x1) (tkP kd x1.toInt f t h) := by
  have f0 := lit_0
  have f1 := lit_1
  have f2 := lit_2
  have f4 := lit_400
  have T2 := T.2
  unfold F_X7_take
  refine Pc.bind (pc_kindOf X C T S.2) (fun q1 h1 => ?_)
  rw [h1.1]
  have s1 := S.1
  have s2 := S.2
  have a1 := adT (hi h 2 4) 1 (by omega) (by omega)
  -- no fault, or one: the end of it
  have go (g : Hp) (fr : frK h g) (S' : cS g 0 t) (fz : f = 0) (e : tkS kd x1.toInt f t = (0, t + 1)) : Pc (if ((hi (wrI g 2 4 ((hi g 2 4) + 1)) 2 5) : Int32) = (0 : Int32) then some ((1 : Int32), (wrI g 2 4 ((hi g 2 4) + 1))) else some ((0 : Int32), (wrI g 2 4 ((hi g 2 4) + 1)))) (tkP kd x1.toInt f t h) := by
    have e5 : hi (wrI g 2 4 (hi g 2 4 + 1)) 2 5 = hi g 2 5 := by rw [hi_wrI, if_neg (by decide)]
    have b1 := S'.1
    have b2 := S'.2
    have a2 := adT (hi g 2 4) 1 (by omega) (by omega)
    rw [e5]
    refine Pc.eq (fun _ => Pc.ret ⟨⟨fun a k n => by rw [hi_wrI, if_neg (by omega)]; exact fr.1 a k n, fun a k => fr.2 a k⟩, ⟨?_, ?_⟩, ?_⟩) (fun c => by exfalso; omega)
    · rw [e5, e]; exact b1
    · rw [hi_wrI, if_pos ⟨rfl, rfl⟩, e]
      show (hi g 2 4 + 1).toInt = ((t + 1 : Nat) : Int)
      omega
    · rw [e]
      show (1 : Int32).toInt = 0 ↔ (0 : Int) ≠ 0
      omega
  have no (g : Hp) (fr : frK h g) (S' : cS g (tkS kd x1.toInt f t).1 t) (e : (tkS kd x1.toInt f t).2 = t) (ne : (tkS kd x1.toInt f t).1 ≠ 0) : Pc (if ((hi g 2 5) : Int32) = (0 : Int32) then some ((1 : Int32), g) else some ((0 : Int32), g)) (tkP kd x1.toInt f t h) := by
    have b1 := S'.1
    refine Pc.eq (fun c => by exfalso; omega) (fun c => Pc.ret ⟨fr, by rw [e]; exact S', ?_⟩)
    show (0 : Int32).toInt = 0 ↔ _
    exact ⟨fun _ => ne, fun _ => f0⟩
  refine Pc.eq (fun c1 => ?_) (fun c1 => ?_)
  · have ek : kd t = x1.toInt := by rw [← h1.2]; exact c1
    refine Pc.lt (fun c2 => ?_) (fun c2 => ?_)
    · refine Pc.eq (fun c3 => ?_) (fun c3 => ?_)
      · have fz : f = 0 := by omega
        exact go h (frK.rf h) ⟨by omega, s2⟩ fz (by unfold tkS; rw [if_pos fz, if_pos ek, if_pos (by omega)])
      · have fz : f ≠ 0 := by omega
        exact no h (frK.rf h) (by rw [tk_f fz]; exact S) (by rw [tk_f fz]) (by rw [tk_f fz]; exact fz)
    · refine Pc.bind (pc_stop S) (fun g hg => ?_)
      by_cases fz : f = 0
      · have e : tkS kd x1.toInt f t = (2, t) := by unfold tkS; rw [if_pos fz, if_pos ek, if_neg (by omega)]
        have S' := hg.2
        rw [if_pos fz, f2] at S'
        have b1 := S'.1
        refine Pc.eq (fun c => by exfalso; omega) (fun c => ?_)
        exact no g hg.1 (by rw [e]; exact S') (by rw [e]) (by rw [e]; show (2 : Int) ≠ 0; decide)
      · have S' := hg.2
        rw [if_neg fz] at S'
        have b1 := S'.1
        refine Pc.eq (fun c => by exfalso; omega) (fun c => ?_)
        exact no g hg.1 (by rw [tk_f fz]; exact S') (by rw [tk_f fz]) (by rw [tk_f fz]; exact fz)
  · have ek : kd t ≠ x1.toInt := by rw [← h1.2]; exact c1
    refine Pc.bind (pc_stop S) (fun g hg => ?_)
    by_cases fz : f = 0
    · have e : tkS kd x1.toInt f t = (1, t) := by unfold tkS; rw [if_pos fz, if_neg ek]
      have S' := hg.2
      rw [if_pos fz, f1] at S'
      have b1 := S'.1
      refine Pc.eq (fun c => by exfalso; omega) (fun c => ?_)
      exact no g hg.1 (by rw [e]; exact S') (by rw [e]) (by rw [e]; show (1 : Int) ≠ 0; decide)
    · have S' := hg.2
      rw [if_neg fz] at S'
      have b1 := S'.1
      refine Pc.eq (fun c => by exfalso; omega) (fun c => ?_)
      exact no g hg.1 (by rw [tk_f fz]; exact S') (by rw [tk_f fz]) (by rw [tk_f fz]; exact fz)
end TA
end
section
/-! TAKING TOKENS: the reference -/
def RT (N : Nat) (kd pl vl : Nat → Int) (h : Hp) : Prop := ∀ t, tI2 N t → (hi h 229 t).toInt = rk (kd t) ∧ (hi h 230 t).toInt = pl t ∧ (kd t = 30 → (hi h 231 t).toInt = vl t)
def rtK (h h' : Hp) : Prop := (∀ k, hi h' 229 k = hi h 229 k) ∧ (∀ k, hi h' 230 k = hi h 230 k) ∧ ∀ k, hi h' 231 k = hi h 231 k
/-- the reference stands at t with the fault f, or had it there -/
def rT (pl : Nat → Int) (h : Hp) (f : Int) (t : Nat) : Prop := 0 ≤ f ∧ (hi h 226 13).toInt = f ∧ (f = 0 → (hi h 226 11).toInt = (t : Int)) ∧ (f ≠ 0 → (hi h 226 14).toInt = pl t)
def frQ (h h' : Hp) : Prop := (∀ a k, ¬ (a = 226 ∧ (k = 11 ∨ k = 13 ∨ k = 14)) → hi h' a k = hi h a k) ∧ ∀ a k, hl h' a k = hl h a k
theorem vdT {N : Nat} {kd pl vl : Nat → Int} {t : Nat} (X : TX N kd pl vl) (T : tI2 N t) : kd t ∈ vdL := by
  by_cases z : t < N
  · exact (X.1 t z).1
  · have : t = N := by unfold tI2 at T; omega
    rw [this, X.2.1]
    decide
section TB
variable {N : Nat} {kd pl vl : Nat → Int} {h h' : Hp} {t : Nat} {f : Int} {n : Nat}
theorem frQ.rf (h : Hp) : frQ h h := ⟨fun _ _ _ => rfl, fun _ _ => rfl⟩
theorem frQ.tr {h0 h1 h2 : Hp} (a : frQ h0 h1) (b : frQ h1 h2) : frQ h0 h2 := ⟨fun x k n => (b.1 x k n).trans (a.1 x k n), fun x k => (b.2 x k).trans (a.2 x k)⟩
theorem frQ.rt (a : frQ h h') : rtK h h' := ⟨fun k => a.1 229 k (by omega), fun k => a.1 230 k (by omega), fun k => a.1 231 k (by omega)⟩
theorem RT.cg (R : RT N kd pl vl h) (k : rtK h h') : RT N kd pl vl h' := fun t T => by rw [k.1, k.2.1, k.2.2]; exact R t T
theorem pr_fail (R : RT N kd pl vl h) (T : tI2 N t) (S : rT pl h f t) {x1 : Int32} (hx : 0 < x1.toInt) : Pc (F_X12_fail n h x1) (fun q => frQ h q ∧ rT pl q (if f = 0 then x1.toInt else f) t) := by
  have f0 := lit_0
  obtain ⟨s0, s1, s2, s3⟩ := S
  unfold F_X12_fail
  refine Pc.le (fun c => ?_) (fun c => Pc.ret ⟨frQ.rf h, ?_⟩)
  · have fz : f = 0 := by omega
    have e11 : hi (wrI h 226 13 x1) 226 11 = hi h 226 11 := by rw [hi_wrI, if_neg (by decide)]
    have e30 (k : Nat) : hi (wrI h 226 13 x1) 230 k = hi h 230 k := by rw [hi_wrI, if_neg (by omega)]
    rw [e11, e30]
    have n1 := ncT (show 0 ≤ (hi h 226 11).toInt by have := s2 fz; omega)
    have n2 : Int32.toNatClampNeg (hi h 226 11) = t := by have := s2 fz; omega
    rw [n2, if_pos fz]
    refine Pc.chk (fun _ => Pc.ret ⟨⟨fun a k n => by rw [hi_wrI, if_neg (by omega), hi_wrI, if_neg (by omega)], fun a k => rfl⟩, by omega, ?_, fun z => by omega, fun _ => ?_⟩)
    · rw [hi_wrI, if_neg (by decide), hi_wrI, if_pos ⟨rfl, rfl⟩]
    · rw [hi_wrI, if_pos ⟨rfl, rfl⟩]
      exact (R t T).2.1
  · have fz : f ≠ 0 := by omega
    rw [if_neg fz]
    exact ⟨s0, s1, s2, s3⟩
theorem pr_goesOn (R : RT N kd pl vl h) (T : tI2 N t) (S : rT pl h 0 t) : Pc (F_X12_goesOn n h) (fun q => frQ h q ∧ rT pl q (if t < 400 then 0 else 2) (if t < 400 then t + 1 else t)) := by
  have f1 := lit_1
  have f2 := lit_2
  have f4 := lit_400
  have s2 := S.2.2.1 rfl
  have T2 := T.2
  unfold F_X12_goesOn
  refine Pc.eq (fun c => ?_) (fun c => Pc.ret ⟨⟨fun a k n => by rw [hi_wrI, if_neg (by omega)], fun a k => rfl⟩, ?_⟩)
  · refine Pc.bind (pr_fail R T S (by decide)) (fun q hq => Pc.ret ⟨hq.1, ?_⟩)
    have z := hq.2
    rw [if_pos rfl, f2] at z
    rw [if_neg (by omega), if_neg (by omega)]
    exact z
  · have a1 := adT (hi h 226 11) 1 (by omega) (by omega)
    rw [if_pos (by omega), if_pos (by omega)]
    refine ⟨by omega, ?_, fun _ => ?_, fun z => absurd rfl z⟩
    · rw [hi_wrI, if_neg (by decide)]; exact S.2.1
    · rw [hi_wrI, if_pos ⟨rfl, rfl⟩]; omega
/-- once there is a fault, going on changes nothing that counts -/
theorem pr_goesOnF (R : RT N kd pl vl h) (T : tI2 N t) (fz : f ≠ 0) (S : rT pl h f t) : Pc (F_X12_goesOn n h) (fun q => frQ h q ∧ rT pl q f t) := by
  unfold F_X12_goesOn
  refine Pc.eq (fun c => ?_) (fun c => Pc.ret ⟨⟨fun a k n => by rw [hi_wrI, if_neg (by omega)], fun a k => rfl⟩, S.1, ?_, fun z => absurd z fz, fun _ => ?_⟩)
  · refine Pc.bind (pr_fail R T S (by decide)) (fun q hq => Pc.ret ⟨hq.1, ?_⟩)
    have z := hq.2
    rw [if_neg fz] at z
    exact z
  · rw [hi_wrI, if_neg (by decide)]; exact S.2.1
  · rw [hi_wrI, if_neg (by decide)]; exact S.2.2.2 fz
theorem pr_is (X : TX N kd pl vl) (R : RT N kd pl vl h) (T : tI2 N t) (S : rT pl h f t) {x1 : Int32} (k : Int) (hk : k ∈ vdL) (hx : x1.toInt = rk k) : Pc (F_X12_is n h x1) (fun q => q.2 = h ∧ (q.1.toInt ≠ 0 ↔ (f = 0 ∧ kd t = k))) := by
  have f0 := lit_0
  have f1 := lit_1
  obtain ⟨s0, s1, s2, s3⟩ := S
  unfold F_X12_is
  refine Pc.eq (fun c => ?_) (fun c => Pc.ret ⟨rfl, fun z => absurd f0 z, fun z => by exfalso; omega⟩)
  have fz : f = 0 := by omega
  have st := s2 fz
  have n1 := ncT (show 0 ≤ (hi h 226 11).toInt by omega)
  have n2 : Int32.toNatClampNeg (hi h 226 11) = t := by omega
  rw [n2]
  refine Pc.chk (fun _ => ?_)
  have rt := (R t T).1
  refine Pc.eq (fun c2 => Pc.ret ⟨rfl, fun _ => ⟨fz, ?_⟩, fun _ => by show (1 : Int32).toInt ≠ 0; omega⟩) (fun c2 => Pc.ret ⟨rfl, fun z => absurd f0 z, fun z => ?_⟩)
  · exact rk_inj _ (vdT X T) _ hk (by rw [← rt, c2, hx])
  · exfalso
    apply c2
    rw [rt, hx, z.2]
theorem pr_must (X : TX N kd pl vl) (R : RT N kd pl vl h) (T : tI2 N t) (S : rT pl h f t) {x1 : Int32} (k : Int) (hk : k ∈ vdL) (hx : x1.toInt = rk k) : Pc (F_X12_must n h x1) (fun q => frQ h q ∧ rT pl q (tkS kd k f t).1 (tkS kd k f t).2) := by
  have f0 := lit_0
  have f1 := lit_1
  unfold F_X12_must
  refine Pc.bind (pr_is X R T S k hk hx) (fun q1 h1 => ?_)
  rw [h1.1]
  refine Pc.eq (fun c => ?_) (fun c => ?_)
  · have nn : ¬ (f = 0 ∧ kd t = k) := fun z => h1.2.mpr z (c.trans f0)
    refine Pc.bind (pr_fail R T S (by decide)) (fun q hq => Pc.ret ⟨hq.1, ?_⟩)
    have z := hq.2
    by_cases fz : f = 0
    · rw [if_pos fz, f1] at z
      have e : tkS kd k f t = (1, t) := by unfold tkS; rw [if_pos fz, if_neg (fun y => nn ⟨fz, y⟩)]
      rw [e]; exact z
    · rw [if_neg fz] at z
      rw [tk_f fz]; exact z
  · obtain ⟨fz, ek⟩ := h1.2.mp (by omega)
    subst fz
    refine Pc.bind (pr_goesOn R T S) (fun q hq => Pc.ret ⟨hq.1, ?_⟩)
    have z := hq.2
    unfold tkS
    rw [if_pos rfl, if_pos ek]
    by_cases c4 : t < 400
    · rw [if_pos c4] at z ⊢
      rw [if_pos c4] at z
      exact z
    · rw [if_neg c4] at z ⊢
      rw [if_neg c4] at z
      exact z
/-- a number that is out of its bounds: the worst so far, and where -/
def wsP (h h' : Hp) (p k : Int) : Prop := ((hi h 226 15).toInt = 0 → (hi h' 226 15).toInt = k ∧ (hi h' 226 16).toInt = p) ∧ ((hi h 226 15).toInt ≠ 0 → (hi h 226 16).toInt < p → hi h' 226 15 = hi h 226 15 ∧ hi h' 226 16 = hi h 226 16)
def frW (h h' : Hp) : Prop := (∀ a k, ¬ (a = 226 ∧ (k = 11 ∨ k = 13 ∨ k = 14 ∨ k = 15 ∨ k = 16)) → hi h' a k = hi h a k) ∧ ∀ a k, hl h' a k = hl h a k
theorem frQ.w (a : frQ h h') : frW h h' := ⟨fun x k n => a.1 x k (by omega), a.2⟩
theorem frW.tr {h0 h1 h2 : Hp} (a : frW h0 h1) (b : frW h1 h2) : frW h0 h2 := ⟨fun x k n => (b.1 x k n).trans (a.1 x k n), fun x k => (b.2 x k).trans (a.2 x k)⟩
theorem frW.rt (a : frW h h') : rtK h h' := ⟨fun k => a.1 229 k (by omega), fun k => a.1 230 k (by omega), fun k => a.1 231 k (by omega)⟩
theorem pr_wrong (R : RT N kd pl vl h) {t0 : Nat} (T0 : tI2 N t0) (S : rT pl h 0 t) {x1 x2 : Int32} (hx : x2.toInt = (t0 : Int)) : Pc (F_X12_wrong n h x1 x2) (fun q => (frW h q ∧ rT pl q 0 t) ∧ wsP h q (pl t0) x1.toInt) := by
  have f0 := lit_0
  have s1 := S.2.1
  unfold F_X12_wrong
  have n1 := ncT (show 0 ≤ x2.toInt by omega)
  have n2 : Int32.toNatClampNeg x2 = t0 := by omega
  rw [n2]
  have rp := (R t0 T0).2.1
  have wr (ok : (hi h 226 15).toInt = 0 ∨ ¬ (hi h 226 16).toInt < pl t0) : Pc (some (wrI (wrI h 226 15 x1) 226 16 (hi h 230 t0))) (fun q => (frW h q ∧ rT pl q 0 t) ∧ wsP h q (pl t0) x1.toInt) := by
    refine Pc.ret ⟨⟨⟨fun a k n => by rw [hi_wrI, if_neg (by omega), hi_wrI, if_neg (by omega)], fun a k => rfl⟩, by omega, ?_, fun _ => ?_, fun z => absurd rfl z⟩, fun _ => ⟨?_, ?_⟩, fun z y => by omega⟩
    · rw [hi_wrI, if_neg (by decide), hi_wrI, if_neg (by decide)]; exact s1
    · rw [hi_wrI, if_neg (by decide), hi_wrI, if_neg (by decide)]; exact S.2.2.1 rfl
    · rw [hi_wrI, if_neg (by decide), hi_wrI, if_pos ⟨rfl, rfl⟩]
    · rw [hi_wrI, if_pos ⟨rfl, rfl⟩]; exact rp
  have sm (w : (hi h 226 15).toInt ≠ 0) : Pc (some h) (fun q => (frW h q ∧ rT pl q 0 t) ∧ wsP h q (pl t0) x1.toInt) := Pc.ret ⟨⟨⟨fun _ _ _ => rfl, fun _ _ => rfl⟩, S⟩, fun z => absurd z w, fun _ _ => ⟨rfl, rfl⟩⟩
  refine Pc.chk (fun _ => ?_)
  refine Pc.lt (fun c => by exfalso; omega) (fun _ => ?_)
  refine Pc.eq (fun c => wr (Or.inl (by omega))) (fun c => ?_)
  refine Pc.lt (fun _ => sm (by omega)) (fun c2 => ?_)
  refine Pc.eq (fun c3 => Pc.lt (fun _ => wr (Or.inr (by omega))) (fun _ => sm (by omega))) (fun _ => wr (Or.inr (by omega)))
/-- a number is read -/
def bdP (kd pl vl : Nat → Int) (lo up f : Int) (t : Nat) (h : Hp) (q : Int32 × Hp) : Prop := frW h q.2 ∧ rT pl q.2 (tkS kd 30 f t).1 (tkS kd 30 f t).2 ∧ ((tkS kd 30 f t).1 = 0 → q.1.toInt = vl t ∧ ((lo ≤ vl t ∧ vl t ≤ up) → hi q.2 226 15 = hi h 226 15 ∧ hi q.2 226 16 = hi h 226 16) ∧ (¬ (lo ≤ vl t ∧ vl t ≤ up) → wsP h q.2 (pl t) 5))
theorem pr_bounded (X : TX N kd pl vl) (R : RT N kd pl vl h) (T : tI2 N t) (S : rT pl h f t) {x1 x2 : Int32} : Pc (F_X12_bounded n h x1 x2) (bdP kd pl vl x1.toInt x2.toInt f t h) := by
  have f0 := lit_0
  have f1 := lit_1
  have f5 := lit_5
  have d30 : (30 : Int) ∈ vdL := by decide
  unfold F_X12_bounded
  refine Pc.lt (fun c => ?_) (fun c => ?_)
  · have fz : f ≠ 0 := by have := S.2.1; omega
    refine Pc.bind (pr_fail R T S (by decide)) (fun q hq => Pc.ret ⟨hq.1.w, ?_, fun z => ?_⟩)
    · have z := hq.2
      rw [if_neg fz] at z
      rw [tk_f fz]; exact z
    · rw [tk_f fz] at z; exact absurd z fz
  · have fz : f = 0 := by have := S.2.1; have := S.1; omega
    subst fz
    refine Pc.bind (pr_is X R T S 30 d30 (by decide)) (fun q4 h4 => ?_)
    rw [h4.1]
    refine Pc.eq (fun c1 => ?_) (fun c1 => ?_)
    · have nn : kd t ≠ 30 := fun z => h4.2.mpr ⟨rfl, z⟩ (c1.trans f0)
      have e : tkS kd 30 0 t = (1, t) := by unfold tkS; rw [if_pos rfl, if_neg nn]
      refine Pc.bind (pr_fail R T S (by decide)) (fun q hq => Pc.ret ⟨hq.1.w, ?_, fun z => ?_⟩)
      · have z := hq.2
        rw [if_pos rfl, f1] at z
        rw [e]; exact z
      · rw [e] at z; exact absurd z (show ¬ (1 : Int) = 0 by decide)
    · obtain ⟨-, ek⟩ := h4.2.mp (by omega)
      have st := S.2.2.1 rfl
      have n1 := ncT (show 0 ≤ (hi h 226 11).toInt by omega)
      have n2 : Int32.toNatClampNeg (hi h 226 11) = t := by omega
      rw [n2]
      have rv := (R t T).2.2 ek
      have e2 (q : Hp) (z : rT pl q (if t < 400 then 0 else 2) (if t < 400 then t + 1 else t)) : rT pl q (tkS kd 30 0 t).1 (tkS kd 30 0 t).2 := by
        unfold tkS
        rw [if_pos rfl, if_pos ek]
        by_cases c4 : t < 400
        · rw [if_pos c4] at z ⊢
          rw [if_pos c4] at z
          exact z
        · rw [if_neg c4] at z ⊢
          rw [if_neg c4] at z
          exact z
      have bad (nr : ¬ (x1.toInt ≤ vl t ∧ vl t ≤ x2.toInt)) : Pc ((F_X12_wrong n h 5 (hi h 226 11)).bind (fun q9 => ((F_X12_goesOn n q9).bind (fun q11 => some ((hi h 231 t), q11))))) (bdP kd pl vl x1.toInt x2.toInt 0 t h) := by
        refine Pc.bind (pr_wrong R T S st) (fun q9 h9 => ?_)
        refine Pc.bind (pr_goesOn (R.cg h9.1.1.rt) T h9.1.2) (fun q hq => Pc.ret ⟨h9.1.1.tr hq.1.w, e2 q hq.2, fun _ => ⟨rv, fun z => absurd z nr, fun _ => ?_⟩⟩)
        have w := h9.2
        rw [f5] at w
        unfold wsP at w ⊢
        rw [hq.1.1 226 15 (by decide), hq.1.1 226 16 (by decide)]
        exact w
      refine Pc.chk (fun _ => ?_)
      refine Pc.lt (fun c2 => bad (by omega)) (fun c2 => ?_)
      refine Pc.le (fun c3 => ?_) (fun c3 => bad (by omega))
      refine Pc.bind (pr_goesOn R T S) (fun q hq => Pc.ret ⟨hq.1.w, e2 q hq.2, fun _ => ⟨rv, fun _ => ⟨hq.1.1 226 15 (by decide), hq.1.1 226 16 (by decide)⟩, fun z => absurd (by omega) z⟩⟩)
end TB
end
section
/-! SUMS: what is one, and the class -/
def isOp (k : Int) : Prop := k = 42 ∨ k = 43 ∨ k = 45 ∨ k = 47
def isUn (k : Int) : Prop := k = 30 ∨ (0 ≤ k ∧ k < 9)
/-- a sum is gone through: u where a unit is due; d how many ( stand unclosed. The fault, and where it ends -/
def esF (kd : Nat → Int) : Nat → Bool → Nat → Nat → Option (Int × Nat)
  | 0 => fun _ _ _ => none
  | k + 1 => fun u d t =>
    if u = true then (if kd t = 30 ∨ (0 ≤ kd t ∧ kd t < 9) then (if t < 400 then esF kd k false d (t + 1) else some (2, t)) else if kd t = 40 then (if d < 6 then (if t < 400 then esF kd k true (d + 1) (t + 1) else some (2, t)) else some (2, t)) else some (1, t))
    else (if kd t = 42 ∨ kd t = 43 ∨ kd t = 45 ∨ kd t = 47 then (if t < 400 then esF kd k true d (t + 1) else some (2, t)) else if d = 0 then some (0, t) else if kd t = 41 then (if t < 400 then esF kd k false (d - 1) (t + 1) else some (2, t)) else some (1, t))
def ExR (kd : Nat → Int) (u : Bool) (d t : Nat) (r : Int × Nat) : Prop := ∃ k, esF kd k u d t = some r
theorem esF_up {kd : Nat → Int} {r : Int × Nat} : ∀ (k : Nat) (u : Bool) (d t : Nat), esF kd k u d t = some r → esF kd (k + 1) u d t = some r := by
  intro k
  induction k with
  | zero => intro u d t e; cases e
  | succ k ih =>
    intro u d t e
    unfold esF at e ⊢
    split at e
    · rw [if_pos ‹_›]
      split at e
      · rw [if_pos ‹_›]
        split at e
        · rw [if_pos ‹_›]; exact ih _ _ _ e
        · rw [if_neg ‹_›]; exact e
      · rw [if_neg ‹_›]
        split at e
        · rw [if_pos ‹_›]
          split at e
          · rw [if_pos ‹_›]
            split at e
            · rw [if_pos ‹_›]; exact ih _ _ _ e
            · rw [if_neg ‹_›]; exact e
          · rw [if_neg ‹_›]; exact e
        · rw [if_neg ‹_›]; exact e
    · rw [if_neg ‹_›]
      split at e
      · rw [if_pos ‹_›]
        split at e
        · rw [if_pos ‹_›]; exact ih _ _ _ e
        · rw [if_neg ‹_›]; exact e
      · rw [if_neg ‹_›]
        split at e
        · rw [if_pos ‹_›]; exact e
        · rw [if_neg ‹_›]
          split at e
          · rw [if_pos ‹_›]
            split at e
            · rw [if_pos ‹_›]; exact ih _ _ _ e
            · rw [if_neg ‹_›]; exact e
          · rw [if_neg ‹_›]; exact e
theorem esF_le {kd : Nat → Int} {r : Int × Nat} {u : Bool} {d t : Nat} : ∀ (j k : Nat), esF kd k u d t = some r → esF kd (k + j) u d t = some r := by
  intro j
  induction j with
  | zero => intro k e; exact e
  | succ j ih => intro k e; exact esF_up _ _ _ _ (ih k e)
theorem ExR.uniq {kd : Nat → Int} {u : Bool} {d t : Nat} {r r' : Int × Nat} (a : ExR kd u d t r) (b : ExR kd u d t r') : r = r' := by
  obtain ⟨k, a⟩ := a
  obtain ⟨j, b⟩ := b
  have x := esF_le j k a
  have y := esF_le k j b
  rw [Nat.add_comm] at y
  rw [x] at y
  exact Option.some.inj y
section EX
theorem un_d {k : Int} (h : isUn k) : k = 30 ∨ (0 ≤ k ∧ k < 9) := h
theorem un_n {k : Int} (h : ¬ isUn k) : ¬ (k = 30 ∨ (0 ≤ k ∧ k < 9)) := h
theorem op_d {k : Int} (h : isOp k) : k = 42 ∨ k = 43 ∨ k = 45 ∨ k = 47 := h
theorem op_n {k : Int} (h : ¬ isOp k) : ¬ (k = 42 ∨ k = 43 ∨ k = 45 ∨ k = 47) := h
variable {kd : Nat → Int} {d t : Nat} {r : Int × Nat}
theorem ExR.un (h : isUn (kd t)) (c : t < 400) (a : ExR kd false d (t + 1) r) : ExR kd true d t r := by
  obtain ⟨k, a⟩ := a
  refine ⟨k + 1, ?_⟩
  unfold esF
  rw [if_pos rfl, if_pos (un_d h), if_pos c]
  exact a
theorem ExR.unR (h : isUn (kd t)) (c : ¬ t < 400) : ExR kd true d t (2, t) := by
  refine ⟨1, ?_⟩
  unfold esF
  rw [if_pos rfl, if_pos (un_d h), if_neg c]
theorem ExR.lp (h : kd t = 40) (d6 : d < 6) (c : t < 400) (a : ExR kd true (d + 1) (t + 1) r) : ExR kd true d t r := by
  obtain ⟨k, a⟩ := a
  refine ⟨k + 1, ?_⟩
  unfold esF
  rw [if_pos rfl, if_neg (by omega), if_pos h, if_pos d6, if_pos c]
  exact a
theorem ExR.lpR (h : kd t = 40) (c : ¬ d < 6 ∨ ¬ t < 400) : ExR kd true d t (2, t) := by
  refine ⟨1, ?_⟩
  unfold esF
  rw [if_pos rfl, if_neg (by omega), if_pos h]
  by_cases d6 : d < 6
  · rw [if_pos d6, if_neg (by omega)]
  · rw [if_neg d6]
theorem ExR.bad (h1 : ¬ isUn (kd t)) (h2 : kd t ≠ 40) : ExR kd true d t (1, t) := by
  refine ⟨1, ?_⟩
  unfold esF
  rw [if_pos rfl, if_neg (un_n h1), if_neg h2]
theorem ExR.op (h : isOp (kd t)) (c : t < 400) (a : ExR kd true d (t + 1) r) : ExR kd false d t r := by
  obtain ⟨k, a⟩ := a
  refine ⟨k + 1, ?_⟩
  unfold esF
  rw [if_neg (by decide), if_pos (op_d h), if_pos c]
  exact a
theorem ExR.opR (h : isOp (kd t)) (c : ¬ t < 400) : ExR kd false d t (2, t) := by
  refine ⟨1, ?_⟩
  unfold esF
  rw [if_neg (by decide), if_pos (op_d h), if_neg c]
theorem ExR.fin (h : ¬ isOp (kd t)) : ExR kd false 0 t (0, t) := by
  refine ⟨1, ?_⟩
  unfold esF
  rw [if_neg (by decide), if_neg (op_n h), if_pos rfl]
theorem ExR.rp (h : kd t = 41) (d0 : d ≠ 0) (c : t < 400) (a : ExR kd false (d - 1) (t + 1) r) : ExR kd false d t r := by
  obtain ⟨k, a⟩ := a
  refine ⟨k + 1, ?_⟩
  unfold esF
  rw [if_neg (by decide), if_neg (by omega), if_neg d0, if_pos h, if_pos c]
  exact a
theorem ExR.rpR (h : kd t = 41) (d0 : d ≠ 0) (c : ¬ t < 400) : ExR kd false d t (2, t) := by
  refine ⟨1, ?_⟩
  unfold esF
  rw [if_neg (by decide), if_neg (by omega), if_neg d0, if_pos h, if_neg c]
theorem ExR.no (h : ¬ isOp (kd t)) (h2 : kd t ≠ 41) (d0 : d ≠ 0) : ExR kd false d t (1, t) := by
  refine ⟨1, ?_⟩
  unfold esF
  rw [if_neg (by decide), if_neg (op_n h), if_neg d0, if_neg h2]
end EX
/-- what reading a sum writes -/
def frL (h h' : Hp) : Prop := (∀ a k, a ≠ 5 → a ≠ 6 → a ≠ 7 → ¬ (a = 2 ∧ (k = 4 ∨ k = 5)) → hi h' a k = hi h a k) ∧ ∀ a k, hl h' a k = hl h a k
theorem frL.rf (h : Hp) : frL h h := ⟨fun _ _ _ _ _ _ => rfl, fun _ _ => rfl⟩
theorem frL.tr {h0 h1 h2 : Hp} (a : frL h0 h1) (b : frL h1 h2) : frL h0 h2 := ⟨fun x k n1 n2 n3 n4 => (b.1 x k n1 n2 n3 n4).trans (a.1 x k n1 n2 n3 n4), fun x k => (b.2 x k).trans (a.2 x k)⟩
theorem frK.l {h h' : Hp} (a : frK h h') : frL h h' := ⟨fun x k _ _ _ n => a.1 x k n, a.2⟩
theorem frL.tk {h h' : Hp} (a : frL h h') : tkK h h' := ⟨fun k => a.1 18 k (by decide) (by decide) (by decide) (by omega), fun k => a.1 20 k (by decide) (by decide) (by decide) (by omega), fun k => a.1 21 k (by decide) (by decide) (by decide) (by omega), fun k => a.2 22 k⟩
/-- an order is laid down: one stands where one stood -/
def frO (h h' : Hp) : Prop := (∀ a k, a ≠ 5 → a ≠ 6 → a ≠ 7 → hi h' a k = hi h a k) ∧ ∀ a k, hl h' a k = hl h a k
theorem frO.l {h h' : Hp} (a : frO h h') : frL h h' := ⟨fun x k n1 n2 n3 _ => a.1 x k n1 n2 n3, a.2⟩
theorem frO.st {h h' : Hp} {f : Int} {t : Nat} (a : frO h h') (S : cS h f t) : cS h' f t := by
  unfold cS
  rw [a.1 2 5 (by decide) (by decide) (by decide), a.1 2 4 (by decide) (by decide) (by decide)]
  exact S
theorem pc_add {n : Nat} {h : Hp} {x : Int32} : Pc (F_X4_add n h 5 x) (fun q => frO h q) := by
  unfold F_X4_add
  refine Pc.le (fun _ => Pc.ret ⟨fun _ _ _ _ _ => rfl, fun _ _ => rfl⟩) (fun _ => Pc.chk (fun _ => Pc.ret ⟨fun a k n1 n2 n3 => ?_, fun a k => rfl⟩))
  rw [hi_wrI, if_neg (by omega), hi_wrI, if_neg (by omega)]
/-- where a sum (u: a unit) of depth d, begun at t, comes to: its end is what the rules say, or one goes on there -/
def smP (kd : Nat → Int) (u : Bool) (d t : Nat) (f' : Int) (t' : Nat) : Prop := (f' ≠ 0 → ExR kd u d t (f', t')) ∧ (f' = 0 → ∀ r, ExR kd false d t' r → ExR kd u d t r)
section SU
variable {N : Nat} {kd pl vl : Nat → Int}
/-- the level below does as it should -/
def lvP (N : Nat) (kd pl vl : Nat → Int) (S : Nat → Hp → Int32 → Option Hp) : Prop := ∀ (n : Nat) (h : Hp) (x : Int32) (d t : Nat), CT N kd pl vl h → tI2 N t → cS h 0 t → x.toInt = (d : Int) → d ≤ 6 → Pc (S n h x) (fun q => frL h q ∧ ∃ f' t', cS q f' t' ∧ tI2 N t' ∧ t ≤ t' ∧ smP kd true d t f' t' ∧ (f' = 0 → t < t' ∧ ¬ isOp (kd t')))
theorem unP_take (X : TX N kd pl vl) {h : Hp} {n : Nat} {x1 : Int32} {d t : Nat} (C : CT N kd pl vl h) (T : tI2 N t) (S : cS h 0 t) (hk : x1.toInt = kd t) (hu : isUn (kd t)) : Pc ((F_X7_take n h x1).bind (fun q => some q.2)) (fun q => frL h q ∧ ∃ f' t', cS q f' t' ∧ tI2 N t' ∧ t ≤ t' ∧ smP kd true d t f' t' ∧ (f' = 0 → t < t')) := by
  refine Pc.bind (pc_take X C T S) (fun q hq => Pc.ret ⟨hq.1.l, _, _, hq.2.1, tk_in X T (by rw [hk]; unfold isUn at hu; omega), tk_le, ?_, fun z => ?_⟩)
  · rw [hk]
    unfold tkS
    rw [if_pos rfl, if_pos rfl]
    by_cases c : t < 400
    · rw [if_pos c]
      exact ⟨fun z => absurd rfl z, fun _ r a => a.un hu c⟩
    · rw [if_neg c]
      exact ⟨fun _ => ExR.unR hu c, fun z => absurd z (show ¬ (2 : Int) = 0 by decide)⟩
  · have := (tk_z z).2.2.2
    rw [this]
    show t < t + 1
    omega
set_option maxHeartbeats 4000000 in
theorem pc_readUnit (X : TX N kd pl vl) {S : Nat → Hp → Int32 → Option Hp} (L : lvP N kd pl vl S) {h : Hp} {n : Nat} {x1 : Int32} {d t : Nat} (C : CT N kd pl vl h) (T : tI2 N t) (Sc : cS h 0 t) (hx : x1.toInt = (d : Int)) (d6 : d ≤ 6) : Pc (F_X7_readUnit S n h x1) (fun q => frL h q ∧ ∃ f' t', cS q f' t' ∧ tI2 N t' ∧ t ≤ t' ∧ smP kd true d t f' t' ∧ (f' = 0 → t < t')) := by
  have f0 := lit_0
  have f1 := lit_1
  have f2 := lit_2
  have f6 := lit_6
  have f9 := lit_9
  have f30 := lit_30
  have f40 := lit_40
  have f41 := lit_41
  unfold F_X7_readUnit F_X7_kind
  refine Pc.bind (Q := fun q => q.2 = h ∧ q.1.toInt = kd t) (Pc.bind (pc_kindOf X C T Sc.2) (fun q hq => Pc.ret hq)) (fun q1 h1 => ?_)
  rw [h1.1]
  have v1 := h1.2
  have one (nu : ¬ isUn (kd t)) (n4 : kd t ≠ 40) : Pc ((F_X7_stop n h 1).bind (fun q => some q)) (fun q => frL h q ∧ ∃ f' t', cS q f' t' ∧ tI2 N t' ∧ t ≤ t' ∧ smP kd true d t f' t' ∧ (f' = 0 → t < t')) := by
    refine Pc.bind (pc_stop Sc) (fun q hq => Pc.ret ⟨hq.1.l, 1, t, ?_, T, Nat.le_refl t, ⟨fun _ => ExR.bad nu n4, fun z => absurd z (show ¬ (1 : Int) = 0 by decide)⟩, fun z => absurd z (show ¬ (1 : Int) = 0 by decide)⟩)
    have z := hq.2
    rw [if_pos rfl, f1] at z
    exact z
  have lp (e4 : kd t = 40) : Pc (if (x1 : Int32) < (6 : Int32) then ((F_X7_take n h q1.1).bind (fun q7 => (if (q7.1 : Int32) = (0 : Int32) then some q7.2 else ((S n q7.2 (x1 + 1)).bind (fun q10 => ((F_X7_take n q10 41).bind (fun q12 => some q12.2))))))) else ((F_X7_stop n h 2).bind (fun q14 => ((F_X7_take n q14 q1.1).bind (fun q16 => (if (q16.1 : Int32) = (0 : Int32) then some q16.2 else ((S n q16.2 (x1 + 1)).bind (fun q19 => ((F_X7_take n q19 41).bind (fun q21 => some q21.2)))))))))) (fun q => frL h q ∧ ∃ f' t', cS q f' t' ∧ tI2 N t' ∧ t ≤ t' ∧ smP kd true d t f' t' ∧ (f' = 0 → t < t')) := by
    refine Pc.lt (fun c => ?_) (fun c => ?_)
    · refine Pc.bind (pc_take X C T Sc) (fun q7 h7 => ?_)
      obtain ⟨k1, k2, k3⟩ := h7
      have T7 := tk_in X T (k := q1.1.toInt) (f := 0) (by omega)
      rw [v1] at k2 k3 T7
      have tk : tkS kd (kd t) 0 t = if t < 400 then (0, t + 1) else (2, t) := by
        unfold tkS
        rw [if_pos rfl, if_pos rfl]
      rw [tk] at k2 k3 T7
      by_cases c4 : t < 400
      · rw [if_pos c4] at k2 k3 T7
        refine Pc.eq (fun c0 => absurd rfl (k3.mp (c0.trans f0))) (fun _ => ?_)
        have a1 := adT x1 1 (by omega) (by omega)
        refine Pc.bind (L n q7.2 (x1 + 1) (d + 1) (t + 1) (C.cg k1.tk) T7 k2 (by omega) (by omega)) (fun q10 h10 => ?_)
        obtain ⟨m1, f', t', m2, m3, m4, m5, m6⟩ := h10
        have C10 := C.cg (k1.l.tr m1).tk
        refine Pc.bind (pc_take X C10 m3 m2) (fun q12 h12 => Pc.ret ⟨(k1.l.tr m1).tr h12.1.l, _, _, h12.2.1, tk_in X m3 (by rw [f41]; decide), ?_, ?_, fun z => ?_⟩)
        · have := tk_le (kd := kd) (t := t') (k := (41 : Int32).toInt) (f := f')
          omega
        · rw [f41]
          by_cases fz : f' = 0
          · have go := m5.2 fz
            have no := (m6 fz).2
            unfold tkS
            rw [if_pos fz]
            by_cases e1 : kd t' = 41
            · rw [if_pos e1]
              by_cases c5 : t' < 400
              · rw [if_pos c5]
                exact ⟨fun z => absurd rfl z, fun _ r a => (go r (ExR.rp e1 (by omega) c5 (by rw [show d + 1 - 1 = d by omega]; exact a))).lp e4 (by omega) c4⟩
              · rw [if_neg c5]
                exact ⟨fun _ => (go _ (ExR.rpR e1 (by omega) c5)).lp e4 (by omega) c4, fun z => absurd z (show ¬ (2 : Int) = 0 by decide)⟩
            · rw [if_neg e1]
              exact ⟨fun _ => (go _ (ExR.no no e1 (by omega))).lp e4 (by omega) c4, fun z => absurd z (show ¬ (1 : Int) = 0 by decide)⟩
          · rw [tk_f fz]
            exact ⟨fun _ => (m5.1 fz).lp e4 (by omega) c4, fun z => absurd z fz⟩
        · have y := tk_z z
          have := tk_le (kd := kd) (t := t') (k := (41 : Int32).toInt) (f := f')
          omega
      · rw [if_neg c4] at k2 k3 T7
        refine Pc.eq (fun _ => Pc.ret ⟨k1.l, 2, t, k2, T, Nat.le_refl t, ⟨fun _ => ExR.lpR e4 (Or.inr c4), fun z => absurd z (show ¬ (2 : Int) = 0 by decide)⟩, fun z => absurd z (show ¬ (2 : Int) = 0 by decide)⟩) (fun c0 => ?_)
        exfalso
        exact c0 ((k3.mpr (show (2 : Int) ≠ 0 by decide)).trans f0.symm)
    · refine Pc.bind (pc_stop Sc) (fun q14 h14 => ?_)
      have S14 := h14.2
      rw [if_pos rfl, f2] at S14
      refine Pc.bind (pc_take X (C.cg h14.1.tk) T S14) (fun q16 h16 => ?_)
      obtain ⟨k1, k2, k3⟩ := h16
      rw [tk_f (show (2 : Int) ≠ 0 by decide)] at k2 k3
      refine Pc.eq (fun _ => Pc.ret ⟨(h14.1.tr k1).l, 2, t, k2, T, Nat.le_refl t, ⟨fun _ => ExR.lpR e4 (Or.inl (by omega)), fun z => absurd z (show ¬ (2 : Int) = 0 by decide)⟩, fun z => absurd z (show ¬ (2 : Int) = 0 by decide)⟩) (fun c0 => ?_)
      exfalso
      exact c0 ((k3.mpr (show (2 : Int) ≠ 0 by decide)).trans f0.symm)
  refine Pc.eq (fun c => ?_) (fun c => ?_)
  · have hu : isUn (kd t) := Or.inl (by omega)
    refine Pc.bind (pc_valueOf C T Sc.2) (fun q50 h50 => ?_)
    rw [h50.1]
    refine Pc.bind pc_add (fun q52 h52 => ?_)
    refine (unP_take (d := d) X (C.cg h52.l.tk) T (h52.st Sc) v1 hu).mono (fun q hq => ?_)
    obtain ⟨a1, f', t', a2⟩ := hq
    exact ⟨h52.l.tr a1, f', t', a2⟩
  · refine Pc.lt (fun c1 => ?_) (fun c1 => ?_)
    · have nu : ¬ isUn (kd t) := by unfold isUn; omega
      refine Pc.eq (fun c2 => lp (by omega)) (fun c2 => one nu (by omega))
    · refine Pc.le (fun c2 => ?_) (fun c2 => ?_)
      · have nu : ¬ isUn (kd t) := by unfold isUn; omega
        refine Pc.eq (fun c2 => lp (by omega)) (fun c2 => one nu (by omega))
      · have hu : isUn (kd t) := Or.inr (by omega)
        refine Pc.bind pc_add (fun q46 h46 => ?_)
        refine (unP_take (d := d) X (C.cg h46.l.tk) T (h46.st Sc) v1 hu).mono (fun q hq => ?_)
        obtain ⟨a1, f', t', a2⟩ := hq
        exact ⟨h46.l.tr a1, f', t', a2⟩
end SU
end
section
/-! SUMS: the class, one after another -/
section SV
variable {N : Nat} {kd pl vl : Nat → Int}
theorem pc_takeF (X : TX N kd pl vl) {h : Hp} {n : Nat} {x1 : Int32} {f : Int} {t : Nat} (C : CT N kd pl vl h) (T : tI2 N t) (S : cS h f t) (fz : f ≠ 0) : Pc (F_X7_take n h x1) (fun q => frK h q.2 ∧ cS q.2 f t ∧ q.1.toInt = 0) := by
  refine (pc_take X C T S).mono (fun q hq => ?_)
  obtain ⟨a, b, c⟩ := hq
  rw [tk_f fz] at b c
  exact ⟨a, b, c.mpr fz⟩
theorem pc_stopF {h : Hp} {n : Nat} {x1 : Int32} {f : Int} {t : Nat} (S : cS h f t) (fz : f ≠ 0) : Pc (F_X7_stop n h x1) (fun q => frK h q ∧ cS q f t) := by
  refine (pc_stop S).mono (fun q hq => ?_)
  have z := hq.2
  rw [if_neg fz] at z
  exact ⟨hq.1, z⟩
theorem pc_unitF (X : TX N kd pl vl) {S : Nat → Hp → Int32 → Option Hp} {h : Hp} {n : Nat} {x1 : Int32} {f : Int} {t : Nat} (C : CT N kd pl vl h) (T : tI2 N t) (Sc : cS h f t) (fz : f ≠ 0) : Pc (F_X7_readUnit S n h x1) (fun q => frL h q ∧ cS q f t) := by
  have f0 := lit_0
  unfold F_X7_readUnit F_X7_kind
  refine Pc.bind (Q := fun q => q.2 = h ∧ q.1.toInt = kd t) (Pc.bind (pc_kindOf X C T Sc.2) (fun q hq => Pc.ret hq)) (fun q1 h1 => ?_)
  rw [h1.1]
  have one : Pc ((F_X7_stop n h 1).bind (fun q => some q)) (fun q => frL h q ∧ cS q f t) := Pc.bind (pc_stopF Sc fz) (fun q hq => Pc.ret ⟨hq.1.l, hq.2⟩)
  have lp : Pc (if (x1 : Int32) < (6 : Int32) then ((F_X7_take n h q1.1).bind (fun q7 => (if (q7.1 : Int32) = (0 : Int32) then some q7.2 else ((S n q7.2 (x1 + 1)).bind (fun q10 => ((F_X7_take n q10 41).bind (fun q12 => some q12.2))))))) else ((F_X7_stop n h 2).bind (fun q14 => ((F_X7_take n q14 q1.1).bind (fun q16 => (if (q16.1 : Int32) = (0 : Int32) then some q16.2 else ((S n q16.2 (x1 + 1)).bind (fun q19 => ((F_X7_take n q19 41).bind (fun q21 => some q21.2)))))))))) (fun q => frL h q ∧ cS q f t) := by
    refine Pc.lt (fun _ => ?_) (fun _ => ?_)
    · refine Pc.bind (pc_takeF X C T Sc fz) (fun q7 h7 => ?_)
      exact Pc.eq (fun _ => Pc.ret ⟨h7.1.l, h7.2.1⟩) (fun c => absurd (h7.2.2.trans f0.symm) c)
    · refine Pc.bind (pc_stopF Sc fz) (fun q14 h14 => ?_)
      refine Pc.bind (pc_takeF X (C.cg h14.1.tk) T h14.2 fz) (fun q16 h16 => ?_)
      exact Pc.eq (fun _ => Pc.ret ⟨(h14.1.tr h16.1).l, h16.2.1⟩) (fun c => absurd (h16.2.2.trans f0.symm) c)
  refine Pc.eq (fun c => ?_) (fun c => ?_)
  · refine Pc.bind (pc_valueOf C T Sc.2) (fun q50 h50 => ?_)
    rw [h50.1]
    refine Pc.bind pc_add (fun q52 h52 => ?_)
    exact Pc.bind (pc_takeF X (C.cg h52.l.tk) T (h52.st Sc) fz) (fun q hq => Pc.ret ⟨h52.l.tr hq.1.l, hq.2.1⟩)
  · refine Pc.lt (fun c1 => Pc.eq (fun _ => lp) (fun _ => one)) (fun c1 => ?_)
    refine Pc.le (fun c2 => Pc.eq (fun _ => lp) (fun _ => one)) (fun c2 => ?_)
    refine Pc.bind pc_add (fun q46 h46 => ?_)
    exact Pc.bind (pc_takeF X (C.cg h46.l.tk) T (h46.st Sc) fz) (fun q hq => Pc.ret ⟨h46.l.tr hq.1.l, hq.2.1⟩)
theorem pc_sumLF {S : Nat → Hp → Int32 → Option Hp} {h : Hp} {n : Nat} {l1 l2 l3 : Int32} {f : Int} {t : Nat} (Sc : cS h f t) (fz : f ≠ 0) : Pc (W_X7_readSum S n 9 h l1 l2 l3) (fun q => q = h) := by
  have f0 := lit_0
  cases n with
  | zero => exact Pc.no
  | succ n =>
    rw [u_X7_readSum]
    refine Pc.pos rfl ?_
    refine Pc.lt (fun _ => Pc.ret rfl) (fun _ => ?_)
    exact Pc.eq (fun c => by have := Sc.1; exfalso; omega) (fun _ => Pc.ret rfl)
theorem smP.tr {u : Bool} {d t t1 t' : Nat} {f' : Int} (a : smP kd u d t 0 t1) (b : smP kd false d t1 f' t') : smP kd u d t f' t' := ⟨fun z => a.2 rfl _ (b.1 z), fun z r x => a.2 rfl _ (b.2 z r x)⟩
def loP (N : Nat) (kd : Nat → Int) (d t : Nat) (h q : Hp) : Prop := frL h q ∧ ∃ f' t', cS q f' t' ∧ tI2 N t' ∧ t ≤ t' ∧ smP kd false d t f' t' ∧ (f' = 0 → ¬ isOp (kd t'))
theorem pc_opStep (X : TX N kd pl vl) {S : Nat → Hp → Int32 → Option Hp} (L : lvP N kd pl vl S) {h : Hp} {n : Nat} {l1 x : Int32} {d t : Nat} (C : CT N kd pl vl h) (T : tI2 N t) (Sc : cS h 0 t) (hx : l1.toInt = (d : Int)) (d6 : d ≤ 6) (hk : x.toInt = kd t) (ho : isOp (kd t)) {K : Hp → Option Hp} {P : Hp → Prop} (kk : ∀ r f1 t1, frL h r → cS r f1 t1 → tI2 N t1 → t ≤ t1 → smP kd false d t f1 t1 → (f1 = 0 → t < t1) → Pc (K r) P) : Pc ((F_X7_take n h x).bind (fun q => ((F_X7_readUnit S n q.2 l1).bind K))) P := by
  refine Pc.bind (pc_take X C T Sc) (fun q hq => ?_)
  obtain ⟨k1, k2, -⟩ := hq
  have T' := tk_in X T (k := x.toInt) (f := 0) (by rw [hk]; unfold isOp at ho; omega)
  rw [hk] at k2 T'
  have tk : tkS kd (kd t) 0 t = if t < 400 then (0, t + 1) else (2, t) := by
    unfold tkS
    rw [if_pos rfl, if_pos rfl]
  rw [tk] at k2 T'
  by_cases c4 : t < 400
  · rw [if_pos c4] at k2 T'
    refine Pc.bind (pc_readUnit X L (d := d) (C.cg k1.tk) T' k2 hx d6) (fun r hr => ?_)
    obtain ⟨m1, f1, t1, m2, m3, m4, m5, m6⟩ := hr
    have m4' : t + 1 ≤ t1 := m4
    exact kk r f1 t1 (k1.l.tr m1) m2 m3 (by omega) ⟨fun z => (m5.1 z).op ho c4, fun z y a => (m5.2 z y a).op ho c4⟩ (fun _ => by omega)
  · rw [if_neg c4] at k2 T'
    have z2 : (2 : Int) ≠ 0 := by decide
    refine Pc.bind (pc_unitF X (C.cg k1.tk) T k2 z2) (fun r hr => ?_)
    exact kk r 2 t (k1.l.tr hr.1) hr.2 T (Nat.le_refl t) ⟨fun _ => ExR.opR ho c4, fun z => absurd z z2⟩ (fun z => absurd z z2)
set_option maxHeartbeats 4000000 in
theorem pc_sumL (X : TX N kd pl vl) {S : Nat → Hp → Int32 → Option Hp} (L : lvP N kd pl vl S) {l1 : Int32} {d : Nat} (hx : l1.toInt = (d : Int)) (d6 : d ≤ 6) : ∀ (n : Nat) (h : Hp) (l2 l3 : Int32) (t : Nat), CT N kd pl vl h → tI2 N t → cS h 0 t → 0 ≤ l3.toInt → l3.toInt < (t : Int) → Pc (W_X7_readSum S n 9 h l1 l2 l3) (loP N kd d t h) := by
  have f0 := lit_0
  have f1 := lit_1
  have f42 := lit_42
  have f43 := lit_43
  have f45 := lit_45
  have f47 := lit_47
  have f400 := lit_400
  intro n
  induction n with
  | zero => intro h l2 l3 t C T Sc a b; exact Pc.no
  | succ n ih =>
    intro h l2 l3 t C T Sc a b
    have T2 := T.2
    rw [u_X7_readSum]
    refine Pc.pos rfl ?_
    refine Pc.lt (fun c => by exfalso; omega) (fun c => ?_)
    refine Pc.eq (fun _ => ?_) (fun c => by have := Sc.1; exfalso; omega)
    have a1 := adT l3 1 (by omega) (by omega)
    unfold F_X7_kind
    refine Pc.bind (Q := fun q => q.2 = h ∧ q.1.toInt = kd t) (Pc.bind (pc_kindOf X C T Sc.2) (fun q hq => Pc.ret hq)) (fun q3 h3 => ?_)
    rw [h3.1]
    have v3 := h3.2
    -- what follows an order, from a state that stands at t
    have lo (g : Hp) (fg : frL h g) (y : Int32) (r : Hp) (f1 : Int) (t1 : Nat) (fr : frL g r) (s1 : cS r f1 t1) (i1 : tI2 N t1) (le : t ≤ t1) (sm : smP kd false d t f1 t1) (lt : f1 = 0 → t < t1) : Pc (W_X7_readSum S n 9 r l1 y (l3 + 1)) (loP N kd d t h) := by
      by_cases fz : f1 = 0
      · subst fz
        have lt' := lt rfl
        refine (ih r y (l3 + 1) t1 (C.cg (fg.tr fr).tk) i1 s1 (by omega) (by omega)).mono (fun q hq => ?_)
        obtain ⟨b1, f', t', b2, b3, b4, b5, b6⟩ := hq
        exact ⟨(fg.tr fr).tr b1, f', t', b2, b3, by omega, sm.tr b5, b6⟩
      · refine (pc_sumLF s1 fz).mono (fun q hq => ?_)
        rw [hq]
        exact ⟨fg.tr fr, f1, t1, s1, i1, le, sm, fun z => absurd z fz⟩
    have lo2 (o y : Int32) (r : Hp) (f1 : Int) (t1 : Nat) (fr : frL h r) (s1 : cS r f1 t1) (i1 : tI2 N t1) (le : t ≤ t1) (sm : smP kd false d t f1 t1) (lt : f1 = 0 → t < t1) : Pc ((F_X4_add n r 5 o).bind (fun q => W_X7_readSum S n 9 q l1 y (l3 + 1))) (loP N kd d t h) :=
      Pc.bind pc_add (fun q hq => lo h (frL.rf h) y q f1 t1 (fr.tr hq.l) (hq.st s1) i1 le sm lt)
    refine Pc.eq (fun c1 => ?_) (fun c1 => ?_)
    · refine pc_opStep X L C T Sc hx d6 v3 (by unfold isOp; omega) (fun r f1 t1 x1 x2 x3 x4 x5 x6 => ?_)
      exact Pc.eq (fun _ => lo2 _ _ r f1 t1 x1 x2 x3 x4 x5 x6) (fun _ => lo2 _ _ r f1 t1 x1 x2 x3 x4 x5 x6)
    · refine Pc.eq (fun c2 => ?_) (fun c2 => ?_)
      · refine pc_opStep X L C T Sc hx d6 v3 (by unfold isOp; omega) (fun r f1 t1 x1 x2 x3 x4 x5 x6 => ?_)
        exact Pc.eq (fun _ => lo2 _ _ r f1 t1 x1 x2 x3 x4 x5 x6) (fun _ => lo2 _ _ r f1 t1 x1 x2 x3 x4 x5 x6)
      · -- a sum that goes on with + or -, or ends
        have pm (g : Hp) (fg : frO h g) : Pc (if (q3.1 : Int32) = (43 : Int32) then ((F_X7_take n g q3.1).bind (fun q18 => ((F_X7_readUnit S n q18.2 l1).bind (fun q20 => W_X7_readSum S n 9 q20 l1 q3.1 (l3 + 1))))) else (if (q3.1 : Int32) = (45 : Int32) then ((F_X7_take n g q3.1).bind (fun q23 => ((F_X7_readUnit S n q23.2 l1).bind (fun q25 => W_X7_readSum S n 9 q25 l1 q3.1 (l3 + 1))))) else some g)) (loP N kd d t h) := by
          refine Pc.eq (fun c3 => ?_) (fun c3 => ?_)
          · exact pc_opStep X L (C.cg fg.l.tk) T (fg.st Sc) hx d6 v3 (by unfold isOp; omega) (fun r f1 t1 x1 x2 x3 x4 x5 x6 => lo g fg.l _ r f1 t1 x1 x2 x3 x4 x5 x6)
          · refine Pc.eq (fun c4 => ?_) (fun c4 => ?_)
            · exact pc_opStep X L (C.cg fg.l.tk) T (fg.st Sc) hx d6 v3 (by unfold isOp; omega) (fun r f1 t1 x1 x2 x3 x4 x5 x6 => lo g fg.l _ r f1 t1 x1 x2 x3 x4 x5 x6)
            · exact Pc.ret ⟨fg.l, 0, t, fg.st Sc, T, Nat.le_refl t, ⟨fun z => absurd rfl z, fun _ r x => x⟩, fun _ => by unfold isOp; omega⟩
        refine Pc.eq (fun c3 => pm h ⟨fun _ _ _ _ _ => rfl, fun _ _ => rfl⟩) (fun c3 => ?_)
        exact Pc.eq (fun c4 => Pc.bind pc_add (fun g hg => pm g hg)) (fun c4 => Pc.bind pc_add (fun g hg => pm g hg))
/-- a sum, at every level -/
theorem pc_levels (X : TX N kd pl vl) : ∀ l : Nat, lvP N kd pl vl (L_X7_readSum l) := by
  have f0 := lit_0
  intro l
  induction l with
  | zero => intro n h x d t C T Sc a b; exact Pc.no
  | succ l ih =>
    intro n h x d t C T Sc a b
    show Pc (F_X7_readSum (L_X7_readSum l) n h x) _
    unfold F_X7_readSum
    refine Pc.bind (pc_readUnit X ih (d := d) C T Sc a b) (fun q hq => ?_)
    obtain ⟨m1, f1, t1, m2, m3, m4, m5, m6⟩ := hq
    by_cases fz : f1 = 0
    · subst fz
      have lt := m6 rfl
      refine (pc_sumL X ih a b n q 0 0 t1 (C.cg m1.tk) m3 m2 (by omega) (by omega)).mono (fun r hr => ?_)
      obtain ⟨b1, f', t', b2, b3, b4, b5, b6⟩ := hr
      exact ⟨m1.tr b1, f', t', b2, b3, by omega, m5.tr b5, fun z => ⟨by omega, b6 z⟩⟩
    · refine (pc_sumLF m2 fz).mono (fun r hr => ?_)
      rw [hr]
      exact ⟨m1, f1, t1, m2, m3, m4, m5, fun z => absurd z fz⟩
theorem pc_sumF (X : TX N kd pl vl) {h : Hp} {n : Nat} {x : Int32} {f : Int} {t : Nat} (C : CT N kd pl vl h) (T : tI2 N t) (Sc : cS h f t) (fz : f ≠ 0) : Pc (F_X7_readSumT n h x) (fun q => frL h q ∧ cS q f t) := by
  unfold F_X7_readSumT
  show Pc (F_X7_readSum (L_X7_readSum 8) n h x) _
  unfold F_X7_readSum
  refine Pc.bind (pc_unitF X C T Sc fz) (fun q hq => ?_)
  refine (pc_sumLF hq.2 fz).mono (fun r hr => ?_)
  rw [hr]
  exact hq
/-- a whole sum: the fault and where, as the rules say -/
def sumR (kd : Nat → Int) (f : Int) (t : Nat) (f' : Int) (t' : Nat) : Prop := (f ≠ 0 → f' = f ∧ t' = t) ∧ (f = 0 → ExR kd true 0 t (f', t'))
theorem sumR.uniq {f f1 f2 : Int} {t t1 t2 : Nat} (a : sumR kd f t f1 t1) (b : sumR kd f t f2 t2) : f1 = f2 ∧ t1 = t2 := by
  by_cases fz : f = 0
  · have := (a.2 fz).uniq (b.2 fz)
    exact ⟨congrArg Prod.fst this, congrArg Prod.snd this⟩
  · have x := a.1 fz
    have y := b.1 fz
    exact ⟨x.1.trans y.1.symm, x.2.trans y.2.symm⟩
theorem pc_sum (X : TX N kd pl vl) {h : Hp} {n : Nat} {f : Int} {t : Nat} (C : CT N kd pl vl h) (T : tI2 N t) (Sc : cS h f t) : Pc (F_X7_readSumT n h 0) (fun q => frL h q ∧ ∃ f' t', cS q f' t' ∧ tI2 N t' ∧ sumR kd f t f' t') := by
  by_cases fz : f = 0
  · subst fz
    unfold F_X7_readSumT
    refine (pc_levels X 9 n h 0 0 t C T Sc lit_0 (by omega)).mono (fun q hq => ?_)
    obtain ⟨m1, f', t', m2, m3, m4, m5, m6⟩ := hq
    refine ⟨m1, f', t', m2, m3, fun z => absurd rfl z, fun _ => ?_⟩
    by_cases z : f' = 0
    · rw [z]
      rw [z] at m5
      exact m5.2 rfl _ (ExR.fin (m6 z).2)
    · exact m5.1 z
  · refine (pc_sumF X C T Sc fz).mono (fun q hq => ⟨hq.1, f, t, hq.2, T, fun _ => ⟨rfl, rfl⟩, fun z => absurd z fz⟩)
end SV
end
section
/-! SUMS: the reference -/
def frE (h h' : Hp) : Prop := (∀ a k, a ≠ 257 → a ≠ 258 → a ≠ 259 → ¬ (a = 226 ∧ (k = 11 ∨ k = 12 ∨ k = 13 ∨ k = 14 ∨ k = 45 ∨ k = 49)) → hi h' a k = hi h a k) ∧ ∀ a k, hl h' a k = hl h a k
/-- only codes, and what waits, have changed -/
def frN (h h' : Hp) : Prop := (∀ a k, a ≠ 257 → a ≠ 258 → a ≠ 259 → ¬ (a = 226 ∧ (k = 45 ∨ k = 49)) → hi h' a k = hi h a k) ∧ ∀ a k, hl h' a k = hl h a k
section EE
variable {N : Nat} {kd pl vl : Nat → Int} {h h' : Hp} {t : Nat} {f : Int} {n : Nat}
theorem frE.rf (h : Hp) : frE h h := ⟨fun _ _ _ _ _ _ => rfl, fun _ _ => rfl⟩
theorem frE.tr {h0 h1 h2 : Hp} (a : frE h0 h1) (b : frE h1 h2) : frE h0 h2 := ⟨fun x k n1 n2 n3 n4 => (b.1 x k n1 n2 n3 n4).trans (a.1 x k n1 n2 n3 n4), fun x k => (b.2 x k).trans (a.2 x k)⟩
theorem frQ.e (a : frQ h h') : frE h h' := ⟨fun x k _ _ _ n => a.1 x k (by omega), a.2⟩
theorem frN.e (a : frN h h') : frE h h' := ⟨fun x k n1 n2 n3 n => a.1 x k n1 n2 n3 (by omega), a.2⟩
theorem frN.tr {h0 h1 h2 : Hp} (a : frN h0 h1) (b : frN h1 h2) : frN h0 h2 := ⟨fun x k n1 n2 n3 n4 => (b.1 x k n1 n2 n3 n4).trans (a.1 x k n1 n2 n3 n4), fun x k => (b.2 x k).trans (a.2 x k)⟩
theorem frE.rt (a : frE h h') : rtK h h' := ⟨fun k => a.1 229 k (by decide) (by decide) (by decide) (by omega), fun k => a.1 230 k (by decide) (by decide) (by decide) (by omega), fun k => a.1 231 k (by decide) (by decide) (by decide) (by omega)⟩
theorem frN.st (a : frN h h') (S : rT pl h f t) : rT pl h' f t := by
  have e (k : Nat) (n : ¬ (k = 45 ∨ k = 49)) : hi h' 226 k = hi h 226 k := a.1 226 k (by decide) (by decide) (by decide) (by omega)
  unfold rT
  rw [e 13 (by decide), e 11 (by decide), e 14 (by decide)]
  exact S
theorem frN.op (a : frN h h') : hi h' 226 12 = hi h 226 12 := a.1 226 12 (by decide) (by decide) (by decide) (by decide)
theorem frQ.op (a : frQ h h') : hi h' 226 12 = hi h 226 12 := a.1 226 12 (by decide)
theorem pr_emit {x1 x2 : Int32} : Pc (F_X12_emit n h x1 x2) (fun q => frN h q) := by
  unfold F_X12_emit
  refine Pc.chk (fun _ => Pc.chk (fun _ => Pc.ret ⟨fun a k n1 n2 n3 n4 => ?_, fun a k => rfl⟩))
  rw [hi_wrI, if_neg (by omega), hi_wrI, if_neg (by omega), hi_wrI, if_neg (by omega)]
theorem pr_comesOut {l1 : Int32} : ∀ (n : Nat) (h : Hp), Pc (W_X12_comesOut n 0 h l1) (fun q => frN h q) := by
  intro n
  induction n with
  | zero => intro h; exact Pc.no
  | succ n ih =>
    intro h
    have me : frN h h := ⟨fun _ _ _ _ _ _ => rfl, fun _ _ => rfl⟩
    have wr (v : Int32) : frN h (wrI h 226 49 v) := ⟨fun a k n1 n2 n3 n4 => by rw [hi_wrI, if_neg (by omega)], fun _ _ => rfl⟩
    have go (v a b : Int32) : Pc ((F_X12_emit n (wrI h 226 49 v) a b).bind (fun q => W_X12_comesOut n 0 q l1)) (fun q => frN h q) := Pc.bind pr_emit (fun q hq => (ih q).mono (fun r hr => ((wr v).tr hq).tr hr))
    rw [u_X12_comesOut]
    refine Pc.pos rfl ?_
    refine Pc.ite (fun _ => Pc.ret me) (fun _ => Pc.chk (fun _ => ?_))
    refine Pc.ite (fun _ => Pc.ret me) (fun _ => ?_)
    refine Pc.ite (fun _ => ?_) (fun _ => ?_)
    · exact Pc.ite (fun _ => go _ _ _) (fun _ => Pc.ite (fun _ => go _ _ _) (fun _ => Pc.ite (fun _ => go _ _ _) (fun _ => go _ _ _)))
    · exact Pc.ite (fun _ => Pc.ret me) (fun _ => Pc.ite (fun _ => Pc.ret me) (fun _ => Pc.ite (fun _ => go _ _ _) (fun _ => Pc.ite (fun _ => go _ _ _) (fun _ => Pc.ite (fun _ => go _ _ _) (fun _ => go _ _ _)))))
theorem rk_var : ∀ k ∈ vdL, (33 ≤ rk k ∧ rk k ≤ 41) ↔ (0 ≤ k ∧ k < 9) := by decide
/-- a TOKEN that is there is taken -/
def gnS (t : Nat) : Int × Nat := if t < 400 then (0, t + 1) else (2, t)
theorem pr_goesOn' (R : RT N kd pl vl h) (T : tI2 N t) (S : rT pl h 0 t) : Pc (F_X12_goesOn n h) (fun q => frQ h q ∧ rT pl q (gnS t).1 (gnS t).2) := by
  refine (pr_goesOn R T S).mono (fun q hq => ⟨hq.1, ?_⟩)
  have z := hq.2
  unfold gnS
  by_cases c : t < 400
  · rw [if_pos c] at z ⊢
    rw [if_pos c] at z
    exact z
  · rw [if_neg c] at z ⊢
    rw [if_neg c] at z
    exact z
theorem gn_in (X : TX N kd pl vl) (T : tI2 N t) (h2 : kd t ≠ 32) : tI2 N (gnS t).2 := by
  have := tk_in X T (k := kd t) (f := 0) h2
  unfold tkS at this
  rw [if_pos rfl, if_pos rfl] at this
  exact this
def unP (N : Nat) (kd pl : Nat → Int) (t : Nat) (h q : Hp) : Prop := frE h q ∧ hi q 226 12 = hi h 226 12 ∧ ((isUn (kd t) ∧ rT pl q (gnS t).1 (gnS t).2) ∨ (¬ isUn (kd t) ∧ rT pl q 1 t))
theorem pr_unit (X : TX N kd pl vl) (R : RT N kd pl vl h) (T : tI2 N t) (S : rT pl h 0 t) : Pc (F_X12_unit n h) (unP N kd pl t h) := by
  have f0 := lit_0
  have f1 := lit_1
  have l33 : (33 : Int32).toInt = 33 := by decide
  have l41 := lit_41
  have d30 : (30 : Int) ∈ vdL := by decide
  unfold F_X12_unit
  refine Pc.bind (pr_is X R T S 30 d30 (by decide)) (fun q1 h1 => ?_)
  rw [h1.1]
  have st := S.2.2.1 rfl
  have n1 := ncT (show 0 ≤ (hi h 226 11).toInt by omega)
  have n2 : Int32.toNatClampNeg (hi h 226 11) = t := by omega
  rw [n2]
  have rt := (R t T).1
  have rv := rk_var _ (vdT X T)
  have em (hu : isUn (kd t)) (a b : Int32) : Pc ((F_X12_emit n h a b).bind (fun q16 => ((F_X12_goesOn n q16).bind (fun q18 => some q18)))) (unP N kd pl t h) := by
    refine Pc.bind pr_emit (fun q16 h16 => ?_)
    refine Pc.bind (pr_goesOn' (R.cg h16.e.rt) T (h16.st S)) (fun q hq => Pc.ret ⟨h16.e.tr hq.1.e, hq.1.op.trans h16.op, Or.inl ⟨hu, hq.2⟩⟩)
  have no (nu : ¬ isUn (kd t)) : Pc ((F_X12_fail n h 1).bind (fun q9 => some q9)) (unP N kd pl t h) := by
    refine Pc.bind (pr_fail R T S (by decide)) (fun q hq => Pc.ret ⟨hq.1.e, hq.1.op, Or.inr ⟨nu, ?_⟩⟩)
    have z := hq.2
    rw [if_pos rfl, f1] at z
    exact z
  refine Pc.eq (fun c => ?_) (fun c => ?_)
  · have n30 : kd t ≠ 30 := fun z => h1.2.mpr ⟨rfl, z⟩ (c.trans f0)
    refine Pc.eq (fun _ => ?_) (fun c2 => by have := S.2.1; exfalso; omega)
    refine Pc.chk (fun c3 => ?_)
    refine Pc.lt (fun c4 => no (by unfold isUn; omega)) (fun c4 => ?_)
    refine Pc.chk (fun _ => ?_)
    refine Pc.lt (fun c5 => no (by unfold isUn; omega)) (fun c5 => ?_)
    exact Pc.chk (fun _ => em (Or.inr (rv.mp (by omega))) _ _)
  · obtain ⟨-, e3⟩ := h1.2.mp (by omega)
    exact Pc.chk (fun _ => em (Or.inl e3) _ _)
theorem pr_isF (S : rT pl h f t) (fz : f ≠ 0) {x1 : Int32} : Pc (F_X12_is n h x1) (fun q => q.2 = h ∧ q.1.toInt = 0) := by
  have f0 := lit_0
  unfold F_X12_is
  exact Pc.eq (fun c => by have := S.2.1; exfalso; omega) (fun _ => Pc.ret ⟨rfl, f0⟩)
theorem pr_failF (S : rT pl h f t) (fz : f ≠ 0) {x1 : Int32} : Pc (F_X12_fail n h x1) (fun q => q = h) := by
  have f0 := lit_0
  unfold F_X12_fail
  exact Pc.le (fun c => by have := S.2.1; have := S.1; exfalso; omega) (fun _ => Pc.ret rfl)
def opG (n : Nat) (x : Hp) (s l1 : Int32) : Option Hp := ((F_X12_comesOut n x s).bind (fun q28 => (if ixOK (hi q28 226 11) 403 = true then (if ixOK (hi q28 226 49) 64 = true then ((F_X12_goesOn n (wrI (wrI q28 259 (Int32.toNatClampNeg (hi q28 226 49)) (hi q28 229 (Int32.toNatClampNeg (hi q28 226 11)))) 226 49 ((hi (wrI q28 259 (Int32.toNatClampNeg (hi q28 226 49)) (hi q28 229 (Int32.toNatClampNeg (hi q28 226 11)))) 226 49) + 1))).bind (fun q32 => W_X12_expression n 12 q32  l1 1)) else none) else none)))
def opD (n : Nat) (x : Hp) (l1 : Int32) : Option Hp := ((F_X12_is n x 10).bind (fun q25 => (if (q25.1 : Int32) = 0 then ((F_X12_is n q25.2 15).bind (fun q34 => (if (q34.1 : Int32) = 0 then ((F_X12_comesOut n q34.2 0).bind (fun q37 => (if ixOK (hi q37 226 11) 403 = true then (if ixOK (hi q37 226 49) 64 = true then ((F_X12_goesOn n (wrI (wrI q37 259 (Int32.toNatClampNeg (hi q37 226 49)) (hi q37 229 (Int32.toNatClampNeg (hi q37 226 11)))) 226 49 ((hi (wrI q37 259 (Int32.toNatClampNeg (hi q37 226 49)) (hi q37 229 (Int32.toNatClampNeg (hi q37 226 11)))) 226 49) + 1))).bind (fun q41 => W_X12_expression n 12 q41  l1 1)) else none) else none))) else ((F_X12_comesOut n q34.2 1).bind (fun q43 => (if ixOK (hi q43 226 11) 403 = true then (if ixOK (hi q43 226 49) 64 = true then ((F_X12_goesOn n (wrI (wrI q43 259 (Int32.toNatClampNeg (hi q43 226 49)) (hi q43 229 (Int32.toNatClampNeg (hi q43 226 11)))) 226 49 ((hi (wrI q43 259 (Int32.toNatClampNeg (hi q43 226 49)) (hi q43 229 (Int32.toNatClampNeg (hi q43 226 11)))) 226 49) + 1))).bind (fun q47 => W_X12_expression n 12 q47  l1 1)) else none) else none)))))) else ((F_X12_comesOut n q25.2 1).bind (fun q28 => (if ixOK (hi q28 226 11) 403 = true then (if ixOK (hi q28 226 49) 64 = true then ((F_X12_goesOn n (wrI (wrI q28 259 (Int32.toNatClampNeg (hi q28 226 49)) (hi q28 229 (Int32.toNatClampNeg (hi q28 226 11)))) 226 49 ((hi (wrI q28 259 (Int32.toNatClampNeg (hi q28 226 49)) (hi q28 229 (Int32.toNatClampNeg (hi q28 226 11)))) 226 49) + 1))).bind (fun q32 => W_X12_expression n 12 q32  l1 1)) else none) else none))))))
def mrT (n : Nat) (x : Hp) (l1 : Int32) : Option Hp := ((F_X12_is n x 8).bind (fun q21 => (if (q21.1 : Int32) = 0 then ((F_X12_is n q21.2 9).bind (fun q56 => (if (q56.1 : Int32) = 0 then ((F_X12_is n q56.2 10).bind (fun q91 => (if (q91.1 : Int32) = 0 then ((F_X12_is n q91.2 15).bind (fun q126 => (if (q126.1 : Int32) = 0 then (if (0 : Int32) = 0 then (if ((hi q126.2 226 12) : Int32) ≤ (l1 : Int32) then ((F_X12_comesOut n q126.2 0).bind (fun q155 => some q155)) else ((F_X12_fail n q126.2 1).bind (fun q157 => ((F_X12_comesOut n q157 0).bind (fun q159 => some q159))))) else ((F_X12_is n q126.2 10).bind (fun q130 => (if (q130.1 : Int32) = 0 then ((F_X12_is n q130.2 15).bind (fun q139 => (if (q139.1 : Int32) = 0 then ((F_X12_comesOut n q139.2 0).bind (fun q142 => (if ixOK (hi q142 226 11) 403 = true then (if ixOK (hi q142 226 49) 64 = true then ((F_X12_goesOn n (wrI (wrI q142 259 (Int32.toNatClampNeg (hi q142 226 49)) (hi q142 229 (Int32.toNatClampNeg (hi q142 226 11)))) 226 49 ((hi (wrI q142 259 (Int32.toNatClampNeg (hi q142 226 49)) (hi q142 229 (Int32.toNatClampNeg (hi q142 226 11)))) 226 49) + 1))).bind (fun q146 => W_X12_expression n 12 q146  l1 0)) else none) else none))) else ((F_X12_comesOut n q139.2 1).bind (fun q148 => (if ixOK (hi q148 226 11) 403 = true then (if ixOK (hi q148 226 49) 64 = true then ((F_X12_goesOn n (wrI (wrI q148 259 (Int32.toNatClampNeg (hi q148 226 49)) (hi q148 229 (Int32.toNatClampNeg (hi q148 226 11)))) 226 49 ((hi (wrI q148 259 (Int32.toNatClampNeg (hi q148 226 49)) (hi q148 229 (Int32.toNatClampNeg (hi q148 226 11)))) 226 49) + 1))).bind (fun q152 => W_X12_expression n 12 q152  l1 0)) else none) else none)))))) else ((F_X12_comesOut n q130.2 1).bind (fun q133 => (if ixOK (hi q133 226 11) 403 = true then (if ixOK (hi q133 226 49) 64 = true then ((F_X12_goesOn n (wrI (wrI q133 259 (Int32.toNatClampNeg (hi q133 226 49)) (hi q133 229 (Int32.toNatClampNeg (hi q133 226 11)))) 226 49 ((hi (wrI q133 259 (Int32.toNatClampNeg (hi q133 226 49)) (hi q133 229 (Int32.toNatClampNeg (hi q133 226 11)))) 226 49) + 1))).bind (fun q137 => W_X12_expression n 12 q137  l1 0)) else none) else none))))))) else (if (1 : Int32) = 0 then (if ((hi q126.2 226 12) : Int32) ≤ (l1 : Int32) then ((F_X12_comesOut n q126.2 0).bind (fun q187 => some q187)) else ((F_X12_fail n q126.2 1).bind (fun q189 => ((F_X12_comesOut n q189 0).bind (fun q191 => some q191))))) else ((F_X12_is n q126.2 10).bind (fun q162 => (if (q162.1 : Int32) = 0 then ((F_X12_is n q162.2 15).bind (fun q171 => (if (q171.1 : Int32) = 0 then ((F_X12_comesOut n q171.2 0).bind (fun q174 => (if ixOK (hi q174 226 11) 403 = true then (if ixOK (hi q174 226 49) 64 = true then ((F_X12_goesOn n (wrI (wrI q174 259 (Int32.toNatClampNeg (hi q174 226 49)) (hi q174 229 (Int32.toNatClampNeg (hi q174 226 11)))) 226 49 ((hi (wrI q174 259 (Int32.toNatClampNeg (hi q174 226 49)) (hi q174 229 (Int32.toNatClampNeg (hi q174 226 11)))) 226 49) + 1))).bind (fun q178 => W_X12_expression n 12 q178  l1 1)) else none) else none))) else ((F_X12_comesOut n q171.2 1).bind (fun q180 => (if ixOK (hi q180 226 11) 403 = true then (if ixOK (hi q180 226 49) 64 = true then ((F_X12_goesOn n (wrI (wrI q180 259 (Int32.toNatClampNeg (hi q180 226 49)) (hi q180 229 (Int32.toNatClampNeg (hi q180 226 11)))) 226 49 ((hi (wrI q180 259 (Int32.toNatClampNeg (hi q180 226 49)) (hi q180 229 (Int32.toNatClampNeg (hi q180 226 11)))) 226 49) + 1))).bind (fun q184 => W_X12_expression n 12 q184  l1 1)) else none) else none)))))) else ((F_X12_comesOut n q162.2 1).bind (fun q165 => (if ixOK (hi q165 226 11) 403 = true then (if ixOK (hi q165 226 49) 64 = true then ((F_X12_goesOn n (wrI (wrI q165 259 (Int32.toNatClampNeg (hi q165 226 49)) (hi q165 229 (Int32.toNatClampNeg (hi q165 226 11)))) 226 49 ((hi (wrI q165 259 (Int32.toNatClampNeg (hi q165 226 49)) (hi q165 229 (Int32.toNatClampNeg (hi q165 226 11)))) 226 49) + 1))).bind (fun q169 => W_X12_expression n 12 q169  l1 1)) else none) else none)))))))))) else (if (1 : Int32) = 0 then (if ((hi q91.2 226 12) : Int32) ≤ (l1 : Int32) then ((F_X12_comesOut n q91.2 0).bind (fun q120 => some q120)) else ((F_X12_fail n q91.2 1).bind (fun q122 => ((F_X12_comesOut n q122 0).bind (fun q124 => some q124))))) else ((F_X12_is n q91.2 10).bind (fun q95 => (if (q95.1 : Int32) = 0 then ((F_X12_is n q95.2 15).bind (fun q104 => (if (q104.1 : Int32) = 0 then ((F_X12_comesOut n q104.2 0).bind (fun q107 => (if ixOK (hi q107 226 11) 403 = true then (if ixOK (hi q107 226 49) 64 = true then ((F_X12_goesOn n (wrI (wrI q107 259 (Int32.toNatClampNeg (hi q107 226 49)) (hi q107 229 (Int32.toNatClampNeg (hi q107 226 11)))) 226 49 ((hi (wrI q107 259 (Int32.toNatClampNeg (hi q107 226 49)) (hi q107 229 (Int32.toNatClampNeg (hi q107 226 11)))) 226 49) + 1))).bind (fun q111 => W_X12_expression n 12 q111  l1 1)) else none) else none))) else ((F_X12_comesOut n q104.2 1).bind (fun q113 => (if ixOK (hi q113 226 11) 403 = true then (if ixOK (hi q113 226 49) 64 = true then ((F_X12_goesOn n (wrI (wrI q113 259 (Int32.toNatClampNeg (hi q113 226 49)) (hi q113 229 (Int32.toNatClampNeg (hi q113 226 11)))) 226 49 ((hi (wrI q113 259 (Int32.toNatClampNeg (hi q113 226 49)) (hi q113 229 (Int32.toNatClampNeg (hi q113 226 11)))) 226 49) + 1))).bind (fun q117 => W_X12_expression n 12 q117  l1 1)) else none) else none)))))) else ((F_X12_comesOut n q95.2 1).bind (fun q98 => (if ixOK (hi q98 226 11) 403 = true then (if ixOK (hi q98 226 49) 64 = true then ((F_X12_goesOn n (wrI (wrI q98 259 (Int32.toNatClampNeg (hi q98 226 49)) (hi q98 229 (Int32.toNatClampNeg (hi q98 226 11)))) 226 49 ((hi (wrI q98 259 (Int32.toNatClampNeg (hi q98 226 49)) (hi q98 229 (Int32.toNatClampNeg (hi q98 226 11)))) 226 49) + 1))).bind (fun q102 => W_X12_expression n 12 q102  l1 1)) else none) else none)))))))))) else (if (1 : Int32) = 0 then (if ((hi q56.2 226 12) : Int32) ≤ (l1 : Int32) then ((F_X12_comesOut n q56.2 0).bind (fun q85 => some q85)) else ((F_X12_fail n q56.2 1).bind (fun q87 => ((F_X12_comesOut n q87 0).bind (fun q89 => some q89))))) else ((F_X12_is n q56.2 10).bind (fun q60 => (if (q60.1 : Int32) = 0 then ((F_X12_is n q60.2 15).bind (fun q69 => (if (q69.1 : Int32) = 0 then ((F_X12_comesOut n q69.2 0).bind (fun q72 => (if ixOK (hi q72 226 11) 403 = true then (if ixOK (hi q72 226 49) 64 = true then ((F_X12_goesOn n (wrI (wrI q72 259 (Int32.toNatClampNeg (hi q72 226 49)) (hi q72 229 (Int32.toNatClampNeg (hi q72 226 11)))) 226 49 ((hi (wrI q72 259 (Int32.toNatClampNeg (hi q72 226 49)) (hi q72 229 (Int32.toNatClampNeg (hi q72 226 11)))) 226 49) + 1))).bind (fun q76 => W_X12_expression n 12 q76  l1 1)) else none) else none))) else ((F_X12_comesOut n q69.2 1).bind (fun q78 => (if ixOK (hi q78 226 11) 403 = true then (if ixOK (hi q78 226 49) 64 = true then ((F_X12_goesOn n (wrI (wrI q78 259 (Int32.toNatClampNeg (hi q78 226 49)) (hi q78 229 (Int32.toNatClampNeg (hi q78 226 11)))) 226 49 ((hi (wrI q78 259 (Int32.toNatClampNeg (hi q78 226 49)) (hi q78 229 (Int32.toNatClampNeg (hi q78 226 11)))) 226 49) + 1))).bind (fun q82 => W_X12_expression n 12 q82  l1 1)) else none) else none)))))) else ((F_X12_comesOut n q60.2 1).bind (fun q63 => (if ixOK (hi q63 226 11) 403 = true then (if ixOK (hi q63 226 49) 64 = true then ((F_X12_goesOn n (wrI (wrI q63 259 (Int32.toNatClampNeg (hi q63 226 49)) (hi q63 229 (Int32.toNatClampNeg (hi q63 226 11)))) 226 49 ((hi (wrI q63 259 (Int32.toNatClampNeg (hi q63 226 49)) (hi q63 229 (Int32.toNatClampNeg (hi q63 226 11)))) 226 49) + 1))).bind (fun q67 => W_X12_expression n 12 q67  l1 1)) else none) else none)))))))))) else (if (1 : Int32) = 0 then (if ((hi q21.2 226 12) : Int32) ≤ (l1 : Int32) then ((F_X12_comesOut n q21.2 0).bind (fun q50 => some q50)) else ((F_X12_fail n q21.2 1).bind (fun q52 => ((F_X12_comesOut n q52 0).bind (fun q54 => some q54))))) else ((F_X12_is n q21.2 10).bind (fun q25 => (if (q25.1 : Int32) = 0 then ((F_X12_is n q25.2 15).bind (fun q34 => (if (q34.1 : Int32) = 0 then ((F_X12_comesOut n q34.2 0).bind (fun q37 => (if ixOK (hi q37 226 11) 403 = true then (if ixOK (hi q37 226 49) 64 = true then ((F_X12_goesOn n (wrI (wrI q37 259 (Int32.toNatClampNeg (hi q37 226 49)) (hi q37 229 (Int32.toNatClampNeg (hi q37 226 11)))) 226 49 ((hi (wrI q37 259 (Int32.toNatClampNeg (hi q37 226 49)) (hi q37 229 (Int32.toNatClampNeg (hi q37 226 11)))) 226 49) + 1))).bind (fun q41 => W_X12_expression n 12 q41  l1 1)) else none) else none))) else ((F_X12_comesOut n q34.2 1).bind (fun q43 => (if ixOK (hi q43 226 11) 403 = true then (if ixOK (hi q43 226 49) 64 = true then ((F_X12_goesOn n (wrI (wrI q43 259 (Int32.toNatClampNeg (hi q43 226 49)) (hi q43 229 (Int32.toNatClampNeg (hi q43 226 11)))) 226 49 ((hi (wrI q43 259 (Int32.toNatClampNeg (hi q43 226 49)) (hi q43 229 (Int32.toNatClampNeg (hi q43 226 11)))) 226 49) + 1))).bind (fun q47 => W_X12_expression n 12 q47  l1 1)) else none) else none)))))) else ((F_X12_comesOut n q25.2 1).bind (fun q28 => (if ixOK (hi q28 226 11) 403 = true then (if ixOK (hi q28 226 49) 64 = true then ((F_X12_goesOn n (wrI (wrI q28 259 (Int32.toNatClampNeg (hi q28 226 49)) (hi q28 229 (Int32.toNatClampNeg (hi q28 226 11)))) 226 49 ((hi (wrI q28 259 (Int32.toNatClampNeg (hi q28 226 49)) (hi q28 229 (Int32.toNatClampNeg (hi q28 226 11)))) 226 49) + 1))).bind (fun q32 => W_X12_expression n 12 q32  l1 1)) else none) else none))))))))))

theorem endF (S : rT pl h f t) (fz : f ≠ 0) {l1 : Int32} : Pc (if ((hi h 226 12) : Int32) ≤ (l1 : Int32) then ((F_X12_comesOut n h 0).bind (fun q155 => some q155)) else ((F_X12_fail n h 1).bind (fun q157 => ((F_X12_comesOut n q157 0).bind (fun q159 => some q159))))) (fun q => frE h q ∧ rT pl q f t) := by
  unfold F_X12_comesOut
  refine Pc.ite (fun _ => ?_) (fun _ => ?_)
  · exact Pc.bind (pr_comesOut n h) (fun q hq => Pc.ret ⟨hq.e, hq.st S⟩)
  · refine Pc.bind (pr_failF S fz) (fun q hq => ?_)
    rw [hq]
    exact Pc.bind (pr_comesOut n h) (fun q hq => Pc.ret ⟨hq.e, hq.st S⟩)
theorem pr_mrF (S : rT pl h f t) (fz : f ≠ 0) {l1 : Int32} : Pc (mrT n h l1) (fun q => frE h q ∧ rT pl q f t) := by
  have f0 := lit_0
  unfold mrT
  refine Pc.bind (pr_isF S fz) (fun q1 h1 => ?_)
  rw [h1.1]
  refine Pc.eq (fun _ => ?_) (fun c => absurd (h1.2.trans f0.symm) c)
  refine Pc.bind (pr_isF S fz) (fun q2 h2 => ?_)
  rw [h2.1]
  refine Pc.eq (fun _ => ?_) (fun c => absurd (h2.2.trans f0.symm) c)
  refine Pc.bind (pr_isF S fz) (fun q3 h3 => ?_)
  rw [h3.1]
  refine Pc.eq (fun _ => ?_) (fun c => absurd (h3.2.trans f0.symm) c)
  refine Pc.bind (pr_isF S fz) (fun q4 h4 => ?_)
  rw [h4.1]
  refine Pc.eq (fun _ => ?_) (fun c => absurd (h4.2.trans f0.symm) c)
  refine Pc.pos rfl ?_
  exact endF S fz
/-- where a sum comes to -/
def exP (N : Nat) (kd pl : Nat → Int) (u : Bool) (d t : Nat) (h q : Hp) : Prop := frE h q ∧ ∃ f' t', rT pl q f' t' ∧ tI2 N t' ∧ ExR kd u d t (f', t') ∧ (f' = 0 → (hi q 226 12).toInt = 0)
theorem pr_mr (X : TX N kd pl vl) (R : RT N kd pl vl h) (T : tI2 N t) (S : rT pl h 0 t) {d : Nat} (od : (hi h 226 12).toInt = (d : Int)) {l1 : Int32} (b0 : l1.toInt = 0) (rp : d ≠ 0 → kd t ≠ 41) (kk : ∀ q f' t', frE h q → rT pl q f' t' → hi q 226 12 = hi h 226 12 → f' = (gnS t).1 → t' = (gnS t).2 → isOp (kd t) → Pc (W_X12_expression n 12 q l1 1) (exP N kd pl false d t h)) : Pc (mrT n h l1) (exP N kd pl false d t h) := by
  have f0 := lit_0
  have f1 := lit_1
  have one (hop : isOp (kd t)) (s : Int32) : Pc (opG n h s l1) (exP N kd pl false d t h) := by
    unfold opG F_X12_comesOut
    refine Pc.bind (pr_comesOut n h) (fun q hq => ?_)
    refine Pc.chk (fun _ => Pc.chk (fun _ => ?_))
    generalize eg : wrI (wrI q 259 _ _) 226 49 _ = g
    have fg : frN h g := by
      refine hq.tr ⟨fun a k n1 n2 n3 n4 => ?_, fun a k => ?_⟩
      · rw [← eg, hi_wrI, if_neg (by omega), hi_wrI, if_neg (by omega)]
      · rw [← eg, hl_wrI, hl_wrI]
    refine Pc.bind (pr_goesOn' (R.cg fg.e.rt) T (fg.st S)) (fun r hr => ?_)
    exact kk r _ _ (fg.e.tr hr.1.e) hr.2 (hr.1.op.trans fg.op) rfl rfl hop
  have two (hop : isOp (kd t)) : Pc (opD n h l1) (exP N kd pl false d t h) := by
    unfold opD
    refine Pc.bind (pr_is X R T S 42 (by decide) (by decide)) (fun q1 h1 => ?_)
    rw [h1.1]
    refine Pc.eq (fun _ => ?_) (fun _ => one hop 1)
    refine Pc.bind (pr_is X R T S 47 (by decide) (by decide)) (fun q2 h2 => ?_)
    rw [h2.1]
    exact Pc.eq (fun _ => one hop 0) (fun _ => one hop 1)
  unfold mrT
  refine Pc.bind (pr_is X R T S 43 (by decide) (by decide)) (fun q1 h1 => ?_)
  rw [h1.1]
  refine Pc.eq (fun c1 => ?_) (fun c1 => Pc.neg (by decide) (two (by have := (h1.2.mp (by omega)).2; unfold isOp; omega)))
  refine Pc.bind (pr_is X R T S 45 (by decide) (by decide)) (fun q2 h2 => ?_)
  rw [h2.1]
  refine Pc.eq (fun c2 => ?_) (fun c2 => Pc.neg (by decide) (two (by have := (h2.2.mp (by omega)).2; unfold isOp; omega)))
  refine Pc.bind (pr_is X R T S 42 (by decide) (by decide)) (fun q3 h3 => ?_)
  rw [h3.1]
  refine Pc.eq (fun c3 => ?_) (fun c3 => Pc.neg (by decide) (two (by have := (h3.2.mp (by omega)).2; unfold isOp; omega)))
  refine Pc.bind (pr_is X R T S 47 (by decide) (by decide)) (fun q4 h4 => ?_)
  rw [h4.1]
  refine Pc.eq (fun c4 => ?_) (fun c4 => Pc.neg (by decide) (two (by have := (h4.2.mp (by omega)).2; unfold isOp; omega)))
  have no : ¬ isOp (kd t) := by
    intro z
    unfold isOp at z
    rcases z with z | z | z | z
    · exact h3.2.mpr ⟨rfl, z⟩ (c3.trans f0)
    · exact h1.2.mpr ⟨rfl, z⟩ (c1.trans f0)
    · exact h2.2.mpr ⟨rfl, z⟩ (c2.trans f0)
    · exact h4.2.mpr ⟨rfl, z⟩ (c4.trans f0)
  refine Pc.pos rfl ?_
  unfold F_X12_comesOut
  refine Pc.le (fun c => ?_) (fun c => ?_)
  · have dz : d = 0 := by omega
    subst dz
    exact Pc.bind (pr_comesOut n h) (fun q hq => Pc.ret ⟨hq.e, 0, t, hq.st S, T, ExR.fin no, fun _ => by rw [hq.op]; exact od⟩)
  · have dn : d ≠ 0 := by omega
    refine Pc.bind (pr_fail R T S (by decide)) (fun q hq => ?_)
    have z := hq.2
    rw [if_pos rfl, f1] at z
    exact Pc.bind (pr_comesOut n q) (fun r hr => Pc.ret ⟨hq.1.e.tr hr.e, 1, t, hr.st z, T, ExR.no no (rp dn) dn, fun y => absurd y (show ¬ (1 : Int) = 0 by decide)⟩)
theorem pr_12F (S : rT pl h f t) (fz : f ≠ 0) {l1 l2 : Int32} : Pc (W_X12_expression n 12 h l1 l2) (fun q => q = h) := by
  have f0 := lit_0
  cases n with
  | zero => exact Pc.no
  | succ n =>
    rw [u_X12_expression]
    refine Pc.pos rfl ?_
    refine Pc.ite (fun _ => Pc.ret rfl) (fun _ => ?_)
    exact Pc.eq (fun c => by have := S.2.1; exfalso; omega) (fun _ => Pc.ret rfl)
theorem pr_unitF (S : rT pl h f t) (fz : f ≠ 0) : Pc (F_X12_unit n h) (fun q => q = h) := by
  have f0 := lit_0
  unfold F_X12_unit
  refine Pc.bind (pr_isF S fz) (fun q1 h1 => ?_)
  rw [h1.1]
  refine Pc.eq (fun _ => ?_) (fun c => absurd (h1.2.trans f0.symm) c)
  refine Pc.eq (fun c => by have := S.2.1; exfalso; omega) (fun _ => ?_)
  exact Pc.bind (pr_failF S fz) (fun q hq => Pc.ret hq)
theorem pr_23F (S : rT pl h f t) (fz : f ≠ 0) {l1 l2 : Int32} : Pc (W_X12_expression n 23 h l1 l2) (fun q => q = h) := by
  have f0 := lit_0
  cases n with
  | zero => exact Pc.no
  | succ n =>
    rw [u_X12_expression]
    refine Pc.neg (by decide) (Pc.pos rfl ?_)
    refine Pc.bind (pr_isF S fz) (fun q1 h1 => ?_)
    rw [h1.1]
    refine Pc.eq (fun _ => ?_) (fun c => absurd (h1.2.trans f0.symm) c)
    refine Pc.bind (pr_unitF S fz) (fun q hq => ?_)
    rw [hq]
    exact Pc.le (fun c => by have := S.2.1; have := S.1; exfalso; omega) (fun _ => Pc.ret rfl)
theorem pr_96F (S : rT pl h f t) (fz : f ≠ 0) {l1 l2 : Int32} : Pc (W_X12_expression n 96 h l1 l2) (fun q => frE h q ∧ rT pl q f t) := by
  have f0 := lit_0
  cases n with
  | zero => exact Pc.no
  | succ n =>
    rw [u_X12_expression]
    refine Pc.neg (by decide) (Pc.neg (by decide) (Pc.pos rfl ?_))
    refine Pc.bind (pr_isF S fz) (fun q1 h1 => ?_)
    rw [h1.1]
    refine Pc.eq (fun _ => ?_) (fun c => absurd (h1.2.trans f0.symm) c)
    exact pr_mrF S fz
theorem exP.pre {u u' : Bool} {d d' t1 : Nat} {q : Hp} (a : frE h h') (c : ∀ r, ExR kd u' d' t1 r → ExR kd u d t r) (b : exP N kd pl u' d' t1 h' q) : exP N kd pl u d t h q := by
  obtain ⟨b1, f', t', b2, b3, b4, b5⟩ := b
  exact ⟨a.tr b1, f', t', b2, b3, c _ b4, b5⟩
set_option maxHeartbeats 4000000 in
theorem pr_exL (X : TX N kd pl vl) {l1 : Int32} (b0 : l1.toInt = 0) : ∀ n : Nat, (∀ (h : Hp) (d t : Nat), RT N kd pl vl h → tI2 N t → rT pl h 0 t → (hi h 226 12).toInt = (d : Int) → d ≤ 6 → Pc (W_X12_expression n 12 h l1 1) (exP N kd pl true d t h)) ∧ (∀ (h : Hp) (l2 : Int32) (d t : Nat), RT N kd pl vl h → tI2 N t → rT pl h 0 t → (hi h 226 12).toInt = (d : Int) → d ≤ 6 → Pc (W_X12_expression n 23 h l1 l2) (exP N kd pl true d t h)) ∧ (∀ (h : Hp) (l2 : Int32) (d t : Nat), RT N kd pl vl h → tI2 N t → rT pl h 0 t → (hi h 226 12).toInt = (d : Int) → d ≤ 6 → Pc (W_X12_expression n 96 h l1 l2) (exP N kd pl false d t h)) := by
  have f0 := lit_0
  have f1 := lit_1
  have f2 := lit_2
  have f6 := lit_6
  have z1 : (1 : Int) ≠ 0 := by decide
  have z2 : (2 : Int) ≠ 0 := by decide
  intro n
  induction n with
  | zero => exact ⟨fun _ _ _ _ _ _ _ _ => Pc.no, fun _ _ _ _ _ _ _ _ _ => Pc.no, fun _ _ _ _ _ _ _ _ _ => Pc.no⟩
  | succ n ih =>
    obtain ⟨i12, i23, i96⟩ := ih
    refine ⟨fun h d t R T S od d6 => ?_, fun h l2 d t R T S od d6 => ?_, fun h l2 d t R T S od d6 => ?_⟩
    · rw [u_X12_expression]
      refine Pc.pos rfl ?_
      refine Pc.neg (by decide) ?_
      exact Pc.eq (fun _ => i23 h _ d t R T S od d6) (fun c => by have := S.2.1; exfalso; omega)
    · rw [u_X12_expression]
      refine Pc.neg (by decide) (Pc.pos rfl ?_)
      refine Pc.bind (pr_is X R T S 40 (by decide) (by decide)) (fun q3 h3 => ?_)
      rw [h3.1]
      refine Pc.eq (fun c => ?_) (fun c => ?_)
      · have n4 : kd t ≠ 40 := fun z => h3.2.mpr ⟨rfl, z⟩ (c.trans f0)
        refine Pc.bind (pr_unit X R T S) (fun q hq => ?_)
        obtain ⟨u1, u2, u3⟩ := hq
        rcases u3 with ⟨hu, s1⟩ | ⟨nu, s1⟩
        · have T1 := gn_in X T (by unfold isUn at hu; omega)
          have g1 := s1.2.1
          unfold gnS at s1 g1 T1
          by_cases c4 : t < 400
          · rw [if_pos c4] at s1 g1 T1
            refine Pc.le (fun _ => ?_) (fun c5 => by exfalso; have g1' : (hi q 226 13).toInt = 0 := g1; omega)
            exact (i96 q l2 d (t + 1) (R.cg u1.rt) T1 s1 (by rw [u2]; exact od) d6).mono (fun r hr => exP.pre u1 (fun y a => a.un hu c4) hr)
          · rw [if_neg c4] at s1 g1 T1
            refine Pc.le (fun c5 => by exfalso; have g1' : (hi q 226 13).toInt = 2 := g1; omega) (fun _ => Pc.ret ⟨u1, 2, t, s1, T, ExR.unR hu c4, fun y => absurd y z2⟩)
        · have g1 := s1.2.1
          refine Pc.le (fun c5 => by exfalso; omega) (fun _ => Pc.ret ⟨u1, 1, t, s1, T, ExR.bad nu n4, fun y => absurd y z1⟩)
      · have e4 : kd t = 40 := (h3.2.mp (by omega)).2
        refine Pc.eq (fun c6 => ?_) (fun c6 => ?_)
        · refine Pc.bind (pr_fail R T S (by decide)) (fun q13 h13 => ?_)
          have s13 := h13.2
          rw [if_pos rfl, f2] at s13
          generalize eg : wrI q13 226 12 _ = g
          have fg : frE q13 g := ⟨fun a k n1 n2 n3 n4 => by rw [← eg, hi_wrI, if_neg (by omega)], fun a k => by rw [← eg, hl_wrI]⟩
          have sg : rT pl g 2 t := by
            unfold rT
            rw [← eg, hi_wrI, if_neg (by decide), hi_wrI, if_neg (by decide), hi_wrI, if_neg (by decide)]
            exact s13
          have eg1 := h13.1.e.tr fg
          refine Pc.bind (pr_goesOnF (R.cg eg1.rt) T z2 sg) (fun q15 h15 => ?_)
          refine Pc.chk (fun _ => ?_)
          generalize ek : wrI (wrI q15 259 _ _) 226 49 _ = k
          have fk : frN q15 k := by
            refine ⟨fun a z n1 n2 n3 n4 => ?_, fun a z => ?_⟩
            · rw [← ek, hi_wrI, if_neg (by omega), hi_wrI, if_neg (by omega)]
            · rw [← ek, hl_wrI, hl_wrI]
          refine (pr_23F (fk.st h15.2) z2).mono (fun r hr => ?_)
          rw [hr]
          exact ⟨(eg1.tr h15.1.e).tr fk.e, 2, t, fk.st h15.2, T, ExR.lpR e4 (Or.inl (by omega)), fun y => absurd y z2⟩
        · have a1 := adT (hi h 226 12) 1 (by omega) (by omega)
          generalize eg : wrI h 226 12 _ = g
          have fg : frE h g := ⟨fun a k n1 n2 n3 n4 => by rw [← eg, hi_wrI, if_neg (by omega)], fun a k => by rw [← eg, hl_wrI]⟩
          have og : hi g 226 12 = hi h 226 12 + 1 := hiE eg
          have sg : rT pl g 0 t := by
            unfold rT
            rw [← eg, hi_wrI, if_neg (by decide), hi_wrI, if_neg (by decide), hi_wrI, if_neg (by decide)]
            exact S
          refine Pc.bind (pr_goesOn' (R.cg fg.rt) T sg) (fun q10 h10 => ?_)
          refine Pc.chk (fun _ => ?_)
          generalize ek : wrI (wrI q10 259 _ _) 226 49 _ = k
          have fk : frN q10 k := by
            refine ⟨fun a z n1 n2 n3 n4 => ?_, fun a z => ?_⟩
            · rw [← ek, hi_wrI, if_neg (by omega), hi_wrI, if_neg (by omega)]
            · rw [← ek, hl_wrI, hl_wrI]
          have fa := (fg.tr h10.1.e).tr fk.e
          have s1 := fk.st h10.2
          have T1 := gn_in X T (by omega)
          unfold gnS at s1 T1
          by_cases c4 : t < 400
          · rw [if_pos c4] at s1 T1
            refine (i23 k l2 (d + 1) (t + 1) (R.cg fa.rt) T1 s1 (by rw [fk.op, h10.1.op, og]; omega) (by omega)).mono (fun r hr => exP.pre fa (fun y a => a.lp e4 (by omega) c4) hr)
          · rw [if_neg c4] at s1 T1
            refine (pr_23F s1 z2).mono (fun r hr => ?_)
            rw [hr]
            exact ⟨fa, 2, t, s1, T, ExR.lpR e4 (Or.inr c4), fun y => absurd y z2⟩
    · have kk : ∀ q f' t', frE h q → rT pl q f' t' → hi q 226 12 = hi h 226 12 → f' = (gnS t).1 → t' = (gnS t).2 → isOp (kd t) → Pc (W_X12_expression n 12 q l1 1) (exP N kd pl false d t h) := by
        intro q f' t' x1 x2 x3 x4 x5 hop
        subst x4
        subst x5
        have T1 := gn_in X T (by unfold isOp at hop; omega)
        unfold gnS at x2 T1
        by_cases c4 : t < 400
        · rw [if_pos c4] at x2 T1
          exact (i12 q d (t + 1) (R.cg x1.rt) T1 x2 (by rw [x3]; exact od) d6).mono (fun r hr => exP.pre x1 (fun y a => a.op hop c4) hr)
        · rw [if_neg c4] at x2 T1
          refine (pr_12F x2 z2).mono (fun r hr => ?_)
          rw [hr]
          exact ⟨x1, 2, t, x2, T, ExR.opR hop c4, fun y => absurd y z2⟩
      rw [u_X12_expression]
      refine Pc.neg (by decide) (Pc.neg (by decide) (Pc.pos rfl ?_))
      refine Pc.bind (pr_is X R T S 41 (by decide) (by decide)) (fun q18 h18 => ?_)
      rw [h18.1]
      refine Pc.eq (fun c => ?_) (fun c => ?_)
      · exact pr_mr X R T S od b0 (fun _ z => h18.2.mpr ⟨rfl, z⟩ (c.trans f0)) kk
      · have e1 : kd t = 41 := (h18.2.mp (by omega)).2
        refine Pc.le (fun c2 => pr_mr X R T S od b0 (fun dn => by exfalso; omega) kk) (fun c2 => ?_)
        unfold F_X12_comesOut
        refine Pc.bind (pr_comesOut n h) (fun q366 h366 => ?_)
        have o3 := h366.op
        have s3 := sbT (hi h 226 12) 1 (by omega) (by omega)
        have e12 (v : Int32) : hi (wrI q366 226 49 v) 226 12 = hi h 226 12 := by rw [hi_wrI, if_neg (by decide)]; exact o3
        rw [e12]
        generalize eg : wrI (wrI q366 226 49 _) 226 12 _ = g
        have fg : frE q366 g := by
          refine ⟨fun a k n1 n2 n3 n4 => ?_, fun a k => ?_⟩
          · rw [← eg, hi_wrI, if_neg (by omega), hi_wrI, if_neg (by omega)]
          · rw [← eg, hl_wrI, hl_wrI]
        have og : hi g 226 12 = hi h 226 12 - 1 := hiE eg
        have S3 := h366.st S
        have sg : rT pl g 0 t := by
          unfold rT
          rw [← eg, hi_wrI, if_neg (by decide), hi_wrI, if_neg (by decide), hi_wrI, if_neg (by decide), hi_wrI, if_neg (by decide), hi_wrI, if_neg (by decide), hi_wrI, if_neg (by decide)]
          exact S3
        have fa := h366.e.tr fg
        refine Pc.bind (pr_goesOn' (R.cg fa.rt) T sg) (fun q368 h368 => ?_)
        have s1 := h368.2
        have T1 := gn_in X T (by omega)
        unfold gnS at s1 T1
        by_cases c4 : t < 400
        · rw [if_pos c4] at s1 T1
          refine (i96 q368 l2 (d - 1) (t + 1) (R.cg (fa.tr h368.1.e).rt) T1 s1 (by rw [h368.1.op, og]; omega) (by omega)).mono (fun r hr => exP.pre (fa.tr h368.1.e) (fun y a => a.rp e1 (by omega) c4) hr)
        · rw [if_neg c4] at s1 T1
          refine (pr_96F s1 z2).mono (fun r hr => ?_)
          exact ⟨(fa.tr h368.1.e).tr hr.1, 2, t, hr.2, T, ExR.rpR e1 (by omega) c4, fun y => absurd y z2⟩
theorem pr_sum (X : TX N kd pl vl) (R : RT N kd pl vl h) (T : tI2 N t) (S : rT pl h f t) (od : f = 0 → (hi h 226 12).toInt = 0) : Pc (F_X12_expression n h) (fun q => frE h q ∧ ∃ f' t', rT pl q f' t' ∧ tI2 N t' ∧ sumR kd f t f' t' ∧ (f' = 0 → (hi q 226 12).toInt = 0)) := by
  unfold F_X12_expression
  generalize eg : wrI h 226 49 0 = g
  have fg : frN h g := ⟨fun a k n1 n2 n3 n4 => by rw [← eg, hi_wrI, if_neg (by omega)], fun a k => by rw [← eg, hl_wrI]⟩
  have sg := fg.st S
  by_cases fz : f = 0
  · subst fz
    have o0 := od rfl
    refine ((pr_exL X (l1 := hi g 226 12) (by rw [fg.op]; exact o0) n).1 g 0 t (R.cg fg.e.rt) T sg (by rw [fg.op]; exact o0) (by omega)).mono (fun q hq => ?_)
    obtain ⟨b1, f', t', b2, b3, b4, b5⟩ := hq
    exact ⟨fg.e.tr b1, f', t', b2, b3, ⟨fun z => absurd rfl z, fun _ => b4⟩, b5⟩
  · refine (pr_12F sg fz).mono (fun q hq => ?_)
    rw [hq]
    exact ⟨fg.e, f, t, sg, T, ⟨fun _ => ⟨rfl, rfl⟩, fun z => absurd z fz⟩, fun z => absurd z fz⟩
end EE
end
section
/-! LAWS: what is one, and the class -/
/-- behind the =: ifs of them so far; the fault and where, ahead of the ; -/
def lwF (kd : Nat → Int) : Nat → Nat → Int → Nat → Int → Nat → Prop
  | 0 => fun _ _ _ _ _ => False
  | k + 1 => fun i f t f' t' => (f ≠ 0 ∧ f' = f ∧ t' = t) ∨ (f = 0 ∧ kd t ≠ 19 ∧ sumR kd 0 t f' t') ∨ (f = 0 ∧ kd t = 19 ∧ ¬ i < 4 ∧ f' = 2 ∧ t' = t) ∨ (f = 0 ∧ kd t = 19 ∧ i < 4 ∧ ∃ f1 t1 f2 t2 f3 t3, sumR kd (tkS kd 19 0 t).1 (tkS kd 19 0 t).2 f1 t1 ∧ sumR kd (tkS kd 60 f1 t1).1 (tkS kd 60 f1 t1).2 f2 t2 ∧ sumR kd (tkS kd 20 f2 t2).1 (tkS kd 20 f2 t2).2 f3 t3 ∧ lwF kd k (i + 1) (tkS kd 21 f3 t3).1 (tkS kd 21 f3 t3).2 f' t')
theorem lwF.uniq {kd : Nat → Int} : ∀ (k k' i : Nat) (f : Int) (t : Nat) (f1 : Int) (t1 : Nat) (f2 : Int) (t2 : Nat), lwF kd k i f t f1 t1 → lwF kd k' i f t f2 t2 → f1 = f2 ∧ t1 = t2 := by
  intro k
  induction k with
  | zero => intro k' i f t f1 t1 f2 t2 a b; exact False.elim a
  | succ k ih =>
    intro k' i f t f1 t1 f2 t2 a b
    cases k' with
    | zero => exact False.elim b
    | succ k' =>
      rcases a with ⟨a1, a2, a3⟩ | ⟨a1, a2, a3⟩ | ⟨a1, a2, a3, a4, a5⟩ | ⟨a1, a2, a3, x1, y1, x2, y2, x3, y3, s1, s2, s3, s4⟩
      · rcases b with ⟨b1, b2, b3⟩ | ⟨b1, -⟩ | ⟨b1, -⟩ | ⟨b1, -⟩
        · exact ⟨a2.trans b2.symm, a3.trans b3.symm⟩
        · exact absurd b1 a1
        · exact absurd b1 a1
        · exact absurd b1 a1
      · rcases b with ⟨b1, -⟩ | ⟨b1, b2, b3⟩ | ⟨b1, b2, -⟩ | ⟨b1, b2, -⟩
        · exact absurd a1 b1
        · exact a3.uniq b3
        · exact absurd b2 a2
        · exact absurd b2 a2
      · rcases b with ⟨b1, -⟩ | ⟨b1, b2, b3⟩ | ⟨b1, b2, b3, b4, b5⟩ | ⟨b1, b2, b3, -⟩
        · exact absurd a1 b1
        · exact absurd a2 b2
        · exact ⟨a4.trans b4.symm, a5.trans b5.symm⟩
        · exact absurd b3 a3
      · rcases b with ⟨b1, -⟩ | ⟨b1, b2, b3⟩ | ⟨b1, b2, b3, b4, b5⟩ | ⟨b1, b2, b3, z1, w1, z2, w2, z3, w3, r1, r2, r3, r4⟩
        · exact absurd a1 b1
        · exact absurd a2 b2
        · exact absurd a3 b3
        · obtain ⟨e1, e2⟩ := s1.uniq r1
          subst e1; subst e2
          obtain ⟨e3, e4⟩ := s2.uniq r2
          subst e3; subst e4
          obtain ⟨e5, e6⟩ := s3.uniq r3
          subst e5; subst e6
          exact ih k' _ _ _ _ _ _ _ s4 r4
section LA
variable {N : Nat} {kd pl vl : Nat → Int}
theorem frO.tr {h0 h1 h2 : Hp} (a : frO h0 h1) (b : frO h1 h2) : frO h0 h2 := ⟨fun x k n1 n2 n3 => (b.1 x k n1 n2 n3).trans (a.1 x k n1 n2 n3), fun x k => (b.2 x k).trans (a.2 x k)⟩
theorem pc_begin {n : Nat} {h : Hp} {x : Int32} : Pc (F_X4_begin n h 5 x) (fun q => frO h q) := by
  have me : frO h h := ⟨fun _ _ _ _ _ => rfl, fun _ _ => rfl⟩
  unfold F_X4_begin
  refine Pc.ite (fun _ => Pc.ret me) (fun _ => Pc.ite (fun _ => Pc.ret me) (fun _ => Pc.chk (fun _ => Pc.ret ⟨fun a k n1 n2 n3 => ?_, fun a k => rfl⟩)))
  rw [hi_wrI, if_neg (by omega)]
theorem pc_addLess {n : Nat} {h : Hp} : Pc (F_X4_addLess n h 5) (fun q => frO h q.2) := by
  unfold F_X4_addLess
  refine Pc.bind pc_add (fun q1 h1 => Pc.bind pc_add (fun q3 h3 => Pc.ret (h1.tr h3)))
theorem pc_elseHere {n : Nat} {h : Hp} {x : Int32} : Pc (F_X4_elseHere n h 5 x) (fun q => frO h q) := by
  have me : frO h h := ⟨fun _ _ _ _ _ => rfl, fun _ _ => rfl⟩
  unfold F_X4_elseHere
  refine Pc.ite (fun _ => Pc.ret me) (fun _ => Pc.ite (fun _ => Pc.ret me) (fun _ => Pc.chk (fun _ => Pc.ret ⟨fun a k n1 n2 n3 => ?_, fun a k => rfl⟩)))
  rw [hi_wrI, if_neg (by omega)]
def lcP (N : Nat) (kd : Nat → Int) (i : Nat) (f : Int) (t : Nat) (h q : Hp) : Prop := frL h q ∧ ∃ f' t' k, cS q f' t' ∧ tI2 N t' ∧ lwF kd k i f t f' t'
theorem pc_lawEnd (X : TX N kd pl vl) {h : Hp} {n : Nat} {f : Int} {t i : Nat} (C : CT N kd pl vl h) (T : tI2 N t) (S : cS h f t) (ok : f = 0 → kd t ≠ 19) : Pc ((F_X7_readSumT n h 0).bind (fun q2 => ((F_X4_add n q2 5 (-15)).bind (fun q4 => some q4)))) (lcP N kd i f t h) := by
  refine Pc.bind (pc_sum X C T S) (fun q2 h2 => ?_)
  obtain ⟨m1, f', t', m2, m3, m4⟩ := h2
  refine Pc.bind pc_add (fun q4 h4 => Pc.ret ⟨m1.tr h4.l, f', t', 1, h4.st m2, m3, ?_⟩)
  by_cases fz : f = 0
  · subst fz
    exact Or.inr (Or.inl ⟨rfl, ok rfl, m4⟩)
  · exact Or.inl ⟨fz, m4.1 fz⟩
set_option maxHeartbeats 4000000 in
theorem pc_lawL (X : TX N kd pl vl) {l1 : Int32} : ∀ (n : Nat) (h : Hp) (l2 : Int32) (i : Nat) (f : Int) (t : Nat), CT N kd pl vl h → tI2 N t → cS h f t → l2.toInt = (i : Int) → i ≤ 5 → (f = 0 → i ≤ 4) → Pc (W_X7_readLaw n 20 h l1 l2) (lcP N kd i f t h) := by
  have f0 := lit_0
  have f1 := lit_1
  have f2 := lit_2
  have f4 := lit_4
  have f19 := lit_19
  have f20 := lit_20
  have f60 := lit_60
  have l21 : (21 : Int32).toInt = 21 := by decide
  intro n
  induction n with
  | zero => intro h l2 i f t C T S a b c; exact Pc.no
  | succ n ih =>
    intro h l2 i f t C T S a b c
    rw [u_X7_readLaw]
    refine Pc.pos rfl ?_
    have s1 := S.1
    refine Pc.eq (fun c0 => ?_) (fun c0 => pc_lawEnd X C T S (fun z => by exfalso; omega))
    have fz : f = 0 := by omega
    subst fz
    unfold F_X7_kind
    refine Pc.bind (Q := fun q => q.2 = h ∧ q.1.toInt = kd t) (Pc.bind (pc_kindOf X C T S.2) (fun q hq => Pc.ret hq)) (fun q6 h6 => ?_)
    rw [h6.1]
    have v6 := h6.2
    refine Pc.eq (fun c1 => ?_) (fun c1 => pc_lawEnd X C T S (fun _ => by omega))
    have i4 := c rfl
    have a1 := adT l2 1 (by omega) (by omega)
    refine Pc.lt (fun c2 => by exfalso; omega) (fun c2 => ?_)
    -- the body, whatever the fault is by now
    have body (g : Hp) (fg : Int) (frg : frL h g) (Sg : cS g fg t) (fgi : fg = 0 → i + 1 ≤ 4) : Pc ((F_X7_take n g 19).bind (fun q19 => ((F_X7_readSumT n q19.2 0).bind (fun q21 => ((F_X7_take n q21 60).bind (fun q23 => ((F_X7_readSumT n q23.2 0).bind (fun q25 => ((F_X7_take n q25 20).bind (fun q27 => ((F_X4_addLess n q27.2 5).bind (fun q29 => ((F_X7_readSumT n q29.2 0).bind (fun q31 => ((F_X7_take n q31 21).bind (fun q33 => ((F_X4_add n q33.2 5 (-15)).bind (fun q35 => ((F_X4_elseHere n q35 5 q29.1).bind (fun q37 => W_X7_readLaw n 20 q37 l1 (l2 + 1))))))))))))))))))))) (fun q => frL h q ∧ ∃ x1 y1 x2 y2 x3 y3 f' t' k, cS q f' t' ∧ tI2 N t' ∧ sumR kd (tkS kd 19 fg t).1 (tkS kd 19 fg t).2 x1 y1 ∧ sumR kd (tkS kd 60 x1 y1).1 (tkS kd 60 x1 y1).2 x2 y2 ∧ sumR kd (tkS kd 20 x2 y2).1 (tkS kd 20 x2 y2).2 x3 y3 ∧ lwF kd k (i + 1) (tkS kd 21 x3 y3).1 (tkS kd 21 x3 y3).2 f' t') := by
      have Cg := C.cg frg.tk
      refine Pc.bind (pc_take X Cg T Sg) (fun q19 h19 => ?_)
      obtain ⟨k1, k2, -⟩ := h19
      have T1 := tk_in X T (k := (19 : Int32).toInt) (f := fg) (by rw [f19]; decide)
      rw [f19] at k2 T1
      have fr1 := frg.tr k1.l
      refine Pc.bind (pc_sum X (C.cg fr1.tk) T1 k2) (fun q21 h21 => ?_)
      obtain ⟨m1, x1, y1, m2, m3, m4⟩ := h21
      have fr2 := fr1.tr m1
      refine Pc.bind (pc_take X (C.cg fr2.tk) m3 m2) (fun q23 h23 => ?_)
      obtain ⟨k3, k4, -⟩ := h23
      have T2 := tk_in X m3 (k := (60 : Int32).toInt) (f := x1) (by rw [f60]; decide)
      rw [f60] at k4 T2
      have fr3 := fr2.tr k3.l
      refine Pc.bind (pc_sum X (C.cg fr3.tk) T2 k4) (fun q25 h25 => ?_)
      obtain ⟨m5, x2, y2, m6, m7, m8⟩ := h25
      have fr4 := fr3.tr m5
      refine Pc.bind (pc_take X (C.cg fr4.tk) m7 m6) (fun q27 h27 => ?_)
      obtain ⟨k5, k6, -⟩ := h27
      have T3 := tk_in X m7 (k := (20 : Int32).toInt) (f := x2) (by rw [f20]; decide)
      rw [f20] at k6 T3
      have fr5 := fr4.tr k5.l
      refine Pc.bind pc_addLess (fun q29 h29 => ?_)
      have fr6 := fr5.tr h29.l
      refine Pc.bind (pc_sum X (C.cg fr6.tk) T3 (h29.st k6)) (fun q31 h31 => ?_)
      obtain ⟨m9, x3, y3, m10, m11, m12⟩ := h31
      have fr7 := fr6.tr m9
      refine Pc.bind (pc_take X (C.cg fr7.tk) m11 m10) (fun q33 h33 => ?_)
      obtain ⟨k7, k8, -⟩ := h33
      have T4 := tk_in X m11 (k := (21 : Int32).toInt) (f := x3) (by rw [l21]; decide)
      rw [l21] at k8 T4
      have fr8 := fr7.tr k7.l
      refine Pc.bind pc_add (fun q35 h35 => ?_)
      refine Pc.bind pc_elseHere (fun q37 h37 => ?_)
      have fr9 := (fr8.tr h35.l).tr h37.l
      refine (ih q37 (l2 + 1) (i + 1) _ _ (C.cg fr9.tk) T4 (h37.st (h35.st k8)) (by omega) (by omega) ?_).mono (fun q hq => ?_)
      · intro z
        -- no fault: the TOKEN at t was taken, so fg = 0; then i < 4
        have z1 := (tk_z z).1
        have z2 : (tkS kd 20 x2 y2).1 = 0 := by
          by_cases w : (tkS kd 20 x2 y2).1 = 0
          · exact w
          · exact absurd ((m12.1 w).1.symm.trans z1) w
        have z3 := (tk_z z2).1
        have z4 : (tkS kd 60 x1 y1).1 = 0 := by
          by_cases w : (tkS kd 60 x1 y1).1 = 0
          · exact w
          · exact absurd ((m8.1 w).1.symm.trans z3) w
        have z5 := (tk_z z4).1
        have z6 : (tkS kd 19 fg t).1 = 0 := by
          by_cases w : (tkS kd 19 fg t).1 = 0
          · exact w
          · exact absurd ((m4.1 w).1.symm.trans z5) w
        have z7 := (tk_z z6).1
        exact fgi z7
      · obtain ⟨b1, f', t', k, b2, b3, b4⟩ := hq
        exact ⟨fr9.tr b1, x1, y1, x2, y2, x3, y3, f', t', k, b2, b3, m4, m8, m12, b4⟩
    refine Pc.lt (fun c3 => ?_) (fun c3 => ?_)
    · refine (body h 0 (frL.rf h) S (fun _ => by omega)).mono (fun q hq => ?_)
      obtain ⟨b1, x1, y1, x2, y2, x3, y3, f', t', k, b2, b3, r1, r2, r3, r4⟩ := hq
      exact ⟨b1, f', t', k + 1, b2, b3, Or.inr (Or.inr (Or.inr ⟨rfl, by omega, by omega, x1, y1, x2, y2, x3, y3, r1, r2, r3, r4⟩))⟩
    · refine Pc.bind (pc_stop S) (fun g hg => ?_)
      have Sg := hg.2
      rw [if_pos rfl, f2] at Sg
      have z2 : (2 : Int) ≠ 0 := by decide
      refine (body g 2 hg.1.l Sg (fun z => absurd z z2)).mono (fun q hq => ?_)
      obtain ⟨b1, x1, y1, x2, y2, x3, y3, f', t', k, b2, b3, r1, r2, r3, r4⟩ := hq
      rw [tk_f z2] at r1
      obtain ⟨e1, e2⟩ := r1.1 z2
      have e1' : x1 = 2 := e1
      have e2' : y1 = t := e2
      rw [e1', e2', tk_f z2] at r2
      obtain ⟨e3, e4⟩ := r2.1 z2
      have e3' : x2 = 2 := e3
      have e4' : y2 = t := e4
      rw [e3', e4', tk_f z2] at r3
      obtain ⟨e5, e6⟩ := r3.1 z2
      have e5' : x3 = 2 := e5
      have e6' : y3 = t := e6
      rw [e5', e6', tk_f z2] at r4
      have e7 : f' = 2 ∧ t' = t := by
        cases k with
        | zero => exact False.elim r4
        | succ k =>
          rcases r4 with ⟨-, q1, q2⟩ | ⟨q1, -⟩ | ⟨q1, -⟩ | ⟨q1, -⟩
          · exact ⟨q1, q2⟩
          · exact absurd q1 z2
          · exact absurd q1 z2
          · exact absurd q1 z2
      rw [e7.1, e7.2] at b2
      exact ⟨b1, 2, t, 1, b2, T, Or.inr (Or.inr (Or.inl ⟨rfl, by omega, by omega, rfl, rfl⟩))⟩
theorem pc_law (X : TX N kd pl vl) {h : Hp} {n : Nat} {x1 : Int32} {f : Int} {t : Nat} (C : CT N kd pl vl h) (T : tI2 N t) (S : cS h f t) : Pc (F_X7_readLaw n h x1) (lcP N kd 0 (tkS kd 61 f t).1 (tkS kd 61 f t).2 h) := by
  have f61 := lit_61
  unfold F_X7_readLaw
  refine Pc.bind (pc_take X C T S) (fun q1 h1 => ?_)
  obtain ⟨k1, k2, -⟩ := h1
  have T1 := tk_in X T (k := (61 : Int32).toInt) (f := f) (by rw [f61]; decide)
  rw [f61] at k2 T1
  refine Pc.bind pc_begin (fun q3 h3 => ?_)
  refine (pc_lawL X n q3 0 0 _ _ (C.cg (k1.l.tr h3.l).tk) T1 (h3.st k2) lit_0 (by omega) (fun _ => by omega)).mono (fun q hq => ?_)
  obtain ⟨b1, b2⟩ := hq
  exact ⟨(k1.l.tr h3.l).tr b1, b2⟩
end LA
end
section
/-! LAWS: the reference -/
def frG (h h' : Hp) : Prop := (∀ a k, ¬ (250 ≤ a ∧ a ≤ 259) → ¬ (a = 226 ∧ (k = 11 ∨ k = 12 ∨ k = 13 ∨ k = 14 ∨ k = 39 ∨ k = 45 ∨ k = 49)) → hi h' a k = hi h a k) ∧ ∀ a k, hl h' a k = hl h a k
section LB
variable {N : Nat} {kd pl vl : Nat → Int} {h h' : Hp} {t : Nat} {f : Int} {n : Nat}
theorem frG.rf (h : Hp) : frG h h := ⟨fun _ _ _ _ => rfl, fun _ _ => rfl⟩
theorem frG.tr {h0 h1 h2 : Hp} (a : frG h0 h1) (b : frG h1 h2) : frG h0 h2 := ⟨fun x k n1 n2 => (b.1 x k n1 n2).trans (a.1 x k n1 n2), fun x k => (b.2 x k).trans (a.2 x k)⟩
theorem frE.g (a : frE h h') : frG h h' := ⟨fun x k n1 n2 => a.1 x k (by omega) (by omega) (by omega) (by omega), a.2⟩
theorem frQ.g (a : frQ h h') : frG h h' := a.e.g
theorem frG.rt (a : frG h h') : rtK h h' := ⟨fun k => a.1 229 k (by omega) (by omega), fun k => a.1 230 k (by omega) (by omega), fun k => a.1 231 k (by omega) (by omega)⟩
/-- a table of laws is written: where one stands is as it was -/
def frH (h h' : Hp) : Prop := (∀ a k, ¬ (250 ≤ a ∧ a ≤ 259) → ¬ (a = 226 ∧ k = 39) → hi h' a k = hi h a k) ∧ ∀ a k, hl h' a k = hl h a k
theorem frH.g (a : frH h h') : frG h h' := ⟨fun x k n1 n2 => a.1 x k n1 (by omega), a.2⟩
theorem frH.tr {h0 h1 h2 : Hp} (a : frH h0 h1) (b : frH h1 h2) : frH h0 h2 := ⟨fun x k n1 n2 => (b.1 x k n1 n2).trans (a.1 x k n1 n2), fun x k => (b.2 x k).trans (a.2 x k)⟩
theorem frH.st (a : frH h h') (S : rT pl h f t) : rT pl h' f t := by
  unfold rT
  rw [a.1 226 13 (by omega) (by omega), a.1 226 11 (by omega) (by omega), a.1 226 14 (by omega) (by omega)]
  exact S
theorem frH.op (a : frH h h') : hi h' 226 12 = hi h 226 12 := a.1 226 12 (by omega) (by omega)
theorem frH.w {x k : Nat} {v : Int32} (n : 250 ≤ x ∧ x ≤ 259) : frH h (wrI h x k v) := ⟨fun a z n1 n2 => by rw [hi_wrI, if_neg (by omega)], fun _ _ => rfl⟩
/-- a sum told into a term, or not, if there is a fault -/
def smR (N : Nat) (kd pl : Nat → Int) (f : Int) (t : Nat) (h q : Hp) : Prop := frG h q ∧ ∃ f' t', rT pl q f' t' ∧ tI2 N t' ∧ sumR kd f t f' t' ∧ (f' = 0 → (hi q 226 12).toInt = 0)
theorem pr_sum' (X : TX N kd pl vl) (R : RT N kd pl vl h) (T : tI2 N t) (S : rT pl h f t) (od : f = 0 → (hi h 226 12).toInt = 0) : Pc (F_X12_expression n h) (smR N kd pl f t h) := (pr_sum X R T S od).mono (fun q hq => ⟨hq.1.g, hq.2⟩)
theorem pr_term (X : TX N kd pl vl) (R : RT N kd pl vl h) (T : tI2 N t) (S : rT pl h f t) (od : f = 0 → (hi h 226 12).toInt = 0) : Pc (F_X12_term n h) (smR N kd pl f t h) := by
  have f0 := lit_0
  unfold F_X12_term
  refine Pc.chk (fun _ => ?_)
  generalize eg : wrI h 255 _ _ = g
  have fg : frH h g := by rw [← eg]; exact frH.w (by omega)
  have Sg := fg.st S
  have s1 := Sg.2.1
  refine Pc.eq (fun c => ?_) (fun c => ?_)
  · have fz : f = 0 := by omega
    refine Pc.bind (pr_sum' X (R.cg fg.g.rt) T Sg (fun z => by rw [fg.op]; exact od z)) (fun q hq => Pc.chk (fun _ => Pc.ret ?_))
    obtain ⟨m1, f', t', m2, m3, m4, m5⟩ := hq
    have fw : frH q (wrI (wrI q 256 (Int32.toNatClampNeg (hi q 226 39)) (hi q 226 45)) 226 39 (hi (wrI q 256 (Int32.toNatClampNeg (hi q 226 39)) (hi q 226 45)) 226 39 + 1)) := ⟨fun a z n1 n2 => by rw [hi_wrI, if_neg n2, hi_wrI, if_neg (by omega)], fun _ _ => rfl⟩
    exact ⟨(fg.g.tr m1).tr fw.g, f', t', fw.st m2, m3, m4, fun z => by rw [fw.op]; exact m5 z⟩
  · have fz : f ≠ 0 := by omega
    refine Pc.chk (fun _ => Pc.ret ?_)
    generalize ev : (hi g 226 39) = v
    have fw : frH g (wrI (wrI g 256 (Int32.toNatClampNeg v) (hi g 226 45)) 226 39 (hi (wrI g 256 (Int32.toNatClampNeg v) (hi g 226 45)) 226 39 + 1)) := ⟨fun a z n1 n2 => by rw [hi_wrI, if_neg n2, hi_wrI, if_neg (by omega)], fun _ _ => rfl⟩
    exact ⟨fg.g.tr fw.g, f, t, fw.st Sg, T, ⟨fun _ => ⟨rfl, rfl⟩, fun z => absurd z fz⟩, fun z => absurd z fz⟩
/-- a law as far as its ; -/
def lrP (N : Nat) (kd pl : Nat → Int) (i : Nat) (f : Int) (t : Nat) (h q : Hp) : Prop := frG h q ∧ ∃ f1 t1 k, lwF kd k i f t f1 t1 ∧ rT pl q (tkS kd 59 f1 t1).1 (tkS kd 59 f1 t1).2 ∧ tI2 N (tkS kd 59 f1 t1).2 ∧ ((tkS kd 59 f1 t1).1 = 0 → (hi q 226 12).toInt = 0)
theorem pr_lawEnd (X : TX N kd pl vl) {i : Nat} {l1 l2 : Int32} (R : RT N kd pl vl h) (T : tI2 N t) (S : rT pl h f t) (od : f = 0 → (hi h 226 12).toInt = 0) (ok : f = 0 → kd t ≠ 19) : Pc (if ixOK (hi h 226 39) 260 = true then ((F_X12_term n (wrI h 252 (Int32.toNatClampNeg (hi h 226 39)) 0)).bind (fun q14 => ((F_X12_must n q14 4).bind (fun q16 => (if ((hi q16 226 13) : Int32) ≤ (0 : Int32) then (if ixOK ((4 * (hi q16 226 19)) + l1) 8 = true then (if ixOK ((4 * (hi (wrI q16 250 (Int32.toNatClampNeg ((4 * (hi q16 226 19)) + l1)) l2) 226 19)) + l1) 8 = true then some (wrI (wrI q16 250 (Int32.toNatClampNeg ((4 * (hi q16 226 19)) + l1)) l2) 251 (Int32.toNatClampNeg ((4 * (hi (wrI q16 250 (Int32.toNatClampNeg ((4 * (hi q16 226 19)) + l1)) l2) 226 19)) + l1)) (hi (wrI q16 250 (Int32.toNatClampNeg ((4 * (hi q16 226 19)) + l1)) l2) 226 39)) else none) else none) else some q16))))) else none) (lrP N kd pl i f t h) := by
  refine Pc.chk (fun _ => ?_)
  generalize eg : wrI h 252 _ 0 = g
  have fg : frH h g := by rw [← eg]; exact frH.w (by omega)
  refine Pc.bind (pr_term X (R.cg fg.g.rt) T (fg.st S) (fun z => by rw [fg.op]; exact od z)) (fun q14 h14 => ?_)
  obtain ⟨m1, f1, t1, m2, m3, m4, m5⟩ := h14
  have fa := fg.g.tr m1
  refine Pc.bind (pr_must X (R.cg fa.rt) m3 m2 59 (by decide) (by decide)) (fun q16 h16 => ?_)
  have fb := fa.tr h16.1.g
  have T' := tk_in X m3 (k := 59) (f := f1) (by decide)
  have oq : (tkS kd 59 f1 t1).1 = 0 → (hi q16 226 12).toInt = 0 := fun z => by rw [h16.1.op]; exact m5 (tk_z z).1
  have lw : lwF kd 1 i f t f1 t1 := by
    by_cases fz : f = 0
    · subst fz
      exact Or.inr (Or.inl ⟨rfl, ok rfl, m4⟩)
    · exact Or.inl ⟨fz, m4.1 fz⟩
  refine Pc.ite (fun _ => ?_) (fun _ => Pc.ret ⟨fb, f1, t1, 1, lw, h16.2, T', oq⟩)
  refine Pc.chk (fun _ => Pc.chk (fun _ => Pc.ret ?_))
  generalize ew : wrI (wrI q16 250 _ l2) 251 _ _ = w
  have fw : frH q16 w := by
    rw [← ew]
    exact (frH.w (by omega)).tr (frH.w (by omega))
  exact ⟨fb.tr fw.g, f1, t1, 1, lw, fw.st h16.2, T', fun z => by rw [fw.op]; exact oq z⟩
set_option maxHeartbeats 4000000 in
theorem pr_lawL (X : TX N kd pl vl) {l1 l2 : Int32} : ∀ (n : Nat) (h : Hp) (l3 : Int32) (i : Nat) (f : Int) (t : Nat), RT N kd pl vl h → tI2 N t → rT pl h f t → (f = 0 → (hi h 226 12).toInt = 0) → l3.toInt = (i : Int) → i ≤ 4 → Pc (W_X12_tellLaw n 12 h l1 l2 l3) (lrP N kd pl i f t h) := by
  have f0 := lit_0
  have f1 := lit_1
  have f2 := lit_2
  have f4 := lit_4
  have z2 : (2 : Int) ≠ 0 := by decide
  intro n
  induction n with
  | zero => intro h l3 i f t R T S od a b; exact Pc.no
  | succ n ih =>
    intro h l3 i f t R T S od a b
    rw [u_X12_tellLaw]
    refine Pc.pos rfl ?_
    have s1 := S.2.1
    refine Pc.eq (fun c0 => ?_) (fun c0 => pr_lawEnd X R T S od (fun z => by exfalso; omega))
    have fz : f = 0 := by omega
    subst fz
    refine Pc.bind (pr_is X R T S 19 (by decide) (by decide)) (fun q10 h10 => ?_)
    rw [h10.1]
    refine Pc.eq (fun c1 => pr_lawEnd X R T S od (fun _ z => h10.2.mpr ⟨rfl, z⟩ (c1.trans f0))) (fun c1 => ?_)
    have ek : kd t = 19 := (h10.2.mp (by omega)).2
    have a1 := adT l3 1 (by omega) (by omega)
    refine Pc.eq (fun c2 => ?_) (fun c2 => ?_)
    · refine Pc.bind (pr_fail R T S (by decide)) (fun q47 h47 => ?_)
      have s47 := h47.2
      rw [if_pos rfl, f2] at s47
      have g1 := s47.2.1
      refine Pc.le (fun c3 => by exfalso; omega) (fun c3 => Pc.ret ⟨h47.1.g, 2, t, 1, Or.inr (Or.inr (Or.inl ⟨rfl, ek, by omega, rfl, rfl⟩)), ?_, ?_, fun z => ?_⟩)
      · rw [tk_f z2]; exact s47
      · rw [tk_f z2]; exact T
      · rw [tk_f z2] at z; exact absurd z z2
    · refine Pc.le (fun c3 => ?_) (fun c3 => by exfalso; omega)
      refine Pc.bind (pr_goesOn' R T S) (fun q23 h23 => ?_)
      have T1 := gn_in X T (by omega)
      have e19 : gnS t = tkS kd 19 0 t := by
        unfold gnS tkS
        rw [if_pos rfl, if_pos ek]
      have s23 := h23.2
      rw [e19] at s23 T1
      have o23 : (tkS kd 19 0 t).1 = 0 → (hi q23 226 12).toInt = 0 := fun _ => by rw [h23.1.op]; exact od rfl
      refine Pc.chk (fun _ => Pc.chk (fun _ => ?_))
      generalize eg : wrI (wrI q23 252 _ 1) 253 _ _ = g
      have fg : frH q23 g := by
        rw [← eg]
        exact (frH.w (by omega)).tr (frH.w (by omega))
      have fa := h23.1.g.tr fg.g
      refine Pc.bind (pr_sum' X (R.cg fa.rt) T1 (fg.st s23) (fun z => by rw [fg.op]; exact o23 z)) (fun q27 h27 => ?_)
      obtain ⟨m1, x1, y1, m2, m3, m4, m5⟩ := h27
      have fb := fa.tr m1
      refine Pc.bind (pr_must X (R.cg fb.rt) m3 m2 60 (by decide) (by decide)) (fun q29 h29 => ?_)
      have T2 := tk_in X m3 (k := 60) (f := x1) (by decide)
      have fc := fb.tr h29.1.g
      have o29 : (tkS kd 60 x1 y1).1 = 0 → (hi q29 226 12).toInt = 0 := fun z => by rw [h29.1.op]; exact m5 (tk_z z).1
      refine Pc.chk (fun _ => ?_)
      generalize ev : wrI q29 254 _ _ = v
      have fv : frH q29 v := by rw [← ev]; exact frH.w (by omega)
      have fd := fc.tr fv.g
      have sv := fv.st h29.2
      have ov : (tkS kd 60 x1 y1).1 = 0 → (hi v 226 12).toInt = 0 := fun z => by rw [fv.op]; exact o29 z
      -- THEN, its term, ELSE, and on
      have tail (g2 : Hp) (x2 : Int) (y2 : Nat) (fg2 : frG h g2) (s2 : rT pl g2 x2 y2) (T3 : tI2 N y2) (o2 : x2 = 0 → (hi g2 226 12).toInt = 0) (r2 : sumR kd (tkS kd 60 x1 y1).1 (tkS kd 60 x1 y1).2 x2 y2) : Pc ((F_X12_must n g2 31).bind (fun q41 => ((F_X12_term n q41).bind (fun q43 => ((F_X12_must n q43 32).bind (fun q45 => W_X12_tellLaw n 12 q45 l1 l2 (l3 + 1))))))) (lrP N kd pl i 0 t h) := by
        refine Pc.bind (pr_must X (R.cg fg2.rt) T3 s2 20 (by decide) (by decide)) (fun q41 h41 => ?_)
        have T4 := tk_in X T3 (k := 20) (f := x2) (by decide)
        have fe := fg2.tr h41.1.g
        refine Pc.bind (pr_term X (R.cg fe.rt) T4 h41.2 (fun z => by rw [h41.1.op]; exact o2 (tk_z z).1)) (fun q43 h43 => ?_)
        obtain ⟨m6, x3, y3, m7, m8, m9, m10⟩ := h43
        have ff := fe.tr m6
        refine Pc.bind (pr_must X (R.cg ff.rt) m8 m7 21 (by decide) (by decide)) (fun q45 h45 => ?_)
        have T5 := tk_in X m8 (k := 21) (f := x3) (by decide)
        have fh := ff.tr h45.1.g
        refine (ih q45 (l3 + 1) (i + 1) _ _ (R.cg fh.rt) T5 h45.2 (fun z => by rw [h45.1.op]; exact m10 (tk_z z).1) (by omega) (by omega)).mono (fun q hq => ?_)
        obtain ⟨b1, f', t', k, b2, b3, b4, b5⟩ := hq
        exact ⟨fh.tr b1, f', t', k + 1, Or.inr (Or.inr (Or.inr ⟨rfl, ek, by omega, x1, y1, x2, y2, x3, y3, m4, r2, m9, b2⟩)), b3, b4, b5⟩
      have g1 := sv.2.1
      refine Pc.eq (fun c4 => ?_) (fun c4 => ?_)
      · refine Pc.bind (pr_sum' X (R.cg fd.rt) T2 sv ov) (fun q39 h39 => ?_)
        obtain ⟨m6, x2, y2, m7, m8, m9, m10⟩ := h39
        exact tail q39 x2 y2 (fd.tr m6) m7 m8 m10 m9
      · have nz : (tkS kd 60 x1 y1).1 ≠ 0 := by omega
        exact tail v _ _ fd sv T2 ov ⟨fun _ => ⟨rfl, rfl⟩, fun z => absurd z nz⟩
theorem pr_law (X : TX N kd pl vl) {x1 : Int32} (R : RT N kd pl vl h) (T : tI2 N t) (S : rT pl h f t) (od : f = 0 → (hi h 226 12).toInt = 0) : Pc (F_X12_tellLaw n h x1) (lrP N kd pl 0 (tkS kd 61 f t).1 (tkS kd 61 f t).2 h) := by
  unfold F_X12_tellLaw
  refine Pc.bind (pr_must X R T S 61 (by decide) (by decide)) (fun q hq => ?_)
  have T1 := tk_in X T (k := 61) (f := f) (by decide)
  refine (pr_lawL X n q 0 0 _ _ (R.cg hq.1.rt) T1 hq.2 (fun z => by rw [hq.1.op]; exact od (tk_z z).1) lit_0 (by omega)).mono (fun r hr => ?_)
  obtain ⟨b1, b2⟩ := hr
  exact ⟨hq.1.g.tr b1, b2⟩
end LB
end
section
/-! NUMBERS within bounds, of both: the fault, where, the worst that is not one yet, and where -/
def tkQ (kd : Nat → Int) (k : Int) (s : Int × Nat × Int × Int) : Int × Nat × Int × Int := ((tkS kd k s.1 s.2.1).1, (tkS kd k s.1 s.2.1).2, s.2.2)
def nbQ (kd pl vl : Nat → Int) (lo up : Int) (s : Int × Nat × Int × Int) : Int × Nat × Int × Int := ((tkS kd 30 s.1 s.2.1).1, (tkS kd 30 s.1 s.2.1).2, if (tkS kd 30 s.1 s.2.1).1 = 0 ∧ ¬ (lo ≤ vl s.2.1 ∧ vl s.2.1 ≤ up) ∧ s.2.2.1 = 0 then (5, pl s.2.1) else s.2.2)
/-- the class stands so -/
def cQ (h : Hp) (s : Int × Nat × Int × Int) : Prop := cS h s.1 s.2.1 ∧ (s.1 = 0 → (hi h 2 6).toInt = s.2.2.1 ∧ (s.2.2.1 ≠ 0 → (hi h 2 7).toInt = s.2.2.2))
/-- the reference stands so -/
def rQ (pl : Nat → Int) (h : Hp) (s : Int × Nat × Int × Int) : Prop := rT pl h s.1 s.2.1 ∧ (s.1 = 0 → (hi h 226 15).toInt = s.2.2.1 ∧ (s.2.2.1 ≠ 0 → (hi h 226 16).toInt = s.2.2.2 ∧ s.2.2.2 < pl s.2.1))
def frV (h h' : Hp) : Prop := (∀ a k, ¬ (a = 2 ∧ (k = 4 ∨ k = 5 ∨ k = 6 ∨ k = 7)) → hi h' a k = hi h a k) ∧ ∀ a k, hl h' a k = hl h a k
section NB
variable {N : Nat} {kd pl vl : Nat → Int} {h h' : Hp} {s : Int × Nat × Int × Int} {n : Nat}
theorem frV.rf (h : Hp) : frV h h := ⟨fun _ _ _ => rfl, fun _ _ => rfl⟩
theorem frV.tr {h0 h1 h2 : Hp} (a : frV h0 h1) (b : frV h1 h2) : frV h0 h2 := ⟨fun x k n => (b.1 x k n).trans (a.1 x k n), fun x k => (b.2 x k).trans (a.2 x k)⟩
theorem frK.v (a : frK h h') : frV h h' := ⟨fun x k n => a.1 x k (by omega), a.2⟩
theorem frV.tk (a : frV h h') : tkK h h' := ⟨fun k => a.1 18 k (by omega), fun k => a.1 20 k (by omega), fun k => a.1 21 k (by omega), fun k => a.2 22 k⟩
theorem nb_in (X : TX N kd pl vl) (T : tI2 N s.2.1) {lo up : Int} : tI2 N (nbQ kd pl vl lo up s).2.1 := tk_in X T (by decide)
theorem tq_in (X : TX N kd pl vl) (T : tI2 N s.2.1) {k : Int} (k2 : k ≠ 32) : tI2 N (tkQ kd k s).2.1 := tk_in X T k2
theorem pl_lt (X : TX N kd pl vl) {t t' : Nat} (T' : tI2 N t') (h : t < t') : pl t < pl t' := X.2.2.2 t t' h T'.1
/-- one more TOKEN: the class -/
theorem cq_take (X : TX N kd pl vl) (C : CT N kd pl vl h) (T : tI2 N s.2.1) (S : cQ h s) {x1 : Int32} (k : Int) (hx : x1.toInt = k) : Pc (F_X7_take n h x1) (fun q => frK h q.2 ∧ cQ q.2 (tkQ kd k s) ∧ (q.1.toInt = 0 ↔ (tkQ kd k s).1 ≠ 0)) := by
  subst hx
  refine (pc_take X C T S.1).mono (fun q hq => ⟨hq.1, ⟨hq.2.1, fun z => ?_⟩, hq.2.2⟩)
  have z1 := (tk_z z).1
  rw [hq.1.1 2 6 (by decide), hq.1.1 2 7 (by decide)]
  exact S.2 z1
theorem rq_tk (X : TX N kd pl vl) (T : tI2 N s.2.1) (S : rQ pl h s) {k : Int} (k2 : k ≠ 32) {q : Hp} (fr : frQ h q) (r : rT pl q (tkS kd k s.1 s.2.1).1 (tkS kd k s.1 s.2.1).2) : rQ pl q (tkQ kd k s) := by
  refine ⟨r, fun z => ?_⟩
  obtain ⟨z1, -, z3, z4⟩ := tk_z z
  have a := S.2 z1
  rw [fr.1 226 15 (by decide), fr.1 226 16 (by decide)]
  refine ⟨a.1, fun w => ⟨(a.2 w).1, ?_⟩⟩
  have T' := tk_in X T (k := k) (f := s.1) k2
  have lt : pl s.2.1 < pl (tkQ kd k s).2.1 := pl_lt X T' (by show s.2.1 < (tkS kd k s.1 s.2.1).2; rw [z4]; exact Nat.lt_succ_self _)
  have := (a.2 w).2
  show s.2.2.2 < pl (tkQ kd k s).2.1
  omega
theorem rq_must (X : TX N kd pl vl) (R : RT N kd pl vl h) (T : tI2 N s.2.1) (S : rQ pl h s) {x1 : Int32} (k : Int) (hk : k ∈ vdL) (k2 : k ≠ 32) (hx : x1.toInt = rk k) : Pc (F_X12_must n h x1) (fun q => frQ h q ∧ rQ pl q (tkQ kd k s)) := (pr_must X R T S.1 k hk hx).mono (fun q hq => ⟨hq.1, rq_tk X T S k2 hq.1 hq.2⟩)
theorem i64 {x : Int64} (h0 : 0 ≤ x.toInt) (h1 : x.toInt ≤ 9999) : x.toInt32.toInt = x.toInt := by
  rw [Int64.toInt_toInt32]
  exact Int.bmod_eq_of_le (by omega) (by omega)
theorem cl_T {a lo up : Int32} (h : lo.toInt ≤ up.toInt) : lo.toInt ≤ (if lo < (if a < up then a else up) then (if a < up then a else up) else lo : Int32).toInt ∧ (if lo < (if a < up then a else up) then (if a < up then a else up) else lo : Int32).toInt ≤ up.toInt ∧ (lo.toInt ≤ a.toInt → a.toInt ≤ up.toInt → (if lo < (if a < up then a else up) then (if a < up then a else up) else lo : Int32).toInt = a.toInt) := by
  have key (b : Int32) (hb : b.toInt ≤ up.toInt) (hb2 : lo.toInt ≤ a.toInt → a.toInt ≤ up.toInt → b.toInt = a.toInt) : lo.toInt ≤ (if lo < b then b else lo : Int32).toInt ∧ (if lo < b then b else lo : Int32).toInt ≤ up.toInt ∧ (lo.toInt ≤ a.toInt → a.toInt ≤ up.toInt → (if lo < b then b else lo : Int32).toInt = a.toInt) := by
    by_cases c : lo < b
    · rw [if_pos c]
      have := Int32.lt_iff_toInt_lt.mp c
      exact ⟨by omega, hb, hb2⟩
    · rw [if_neg c]
      have : ¬ lo.toInt < b.toInt := fun z => c (Int32.lt_iff_toInt_lt.mpr z)
      exact ⟨by omega, h, fun x y => by have := hb2 x y; omega⟩
  by_cases c : a < up
  · have c' := Int32.lt_iff_toInt_lt.mp c
    rw [if_pos c]
    exact key a (by omega) (fun _ _ => rfl)
  · have c' : ¬ a.toInt < up.toInt := fun z => c (Int32.lt_iff_toInt_lt.mpr z)
    rw [if_neg c]
    exact key up (Int.le_refl _) (fun x y => by omega)
theorem pc_blame {x1 x2 : Int32} : Pc (F_X7_blame n h x1 x2) (fun q => frV h q ∧ (∀ k, k ≠ 6 → k ≠ 7 → hi q 2 k = hi h 2 k) ∧ ((hi h 2 6).toInt = 0 → hi q 2 6 = x1 ∧ hi q 2 7 = x2) ∧ ((hi h 2 6).toInt ≠ 0 → q = h)) := by
  have f0 := lit_0
  unfold F_X7_blame
  refine Pc.eq (fun c => Pc.ret ⟨⟨fun a k n => by rw [hi_wrI, if_neg (by omega), hi_wrI, if_neg (by omega)], fun a k => rfl⟩, fun k n1 n2 => by rw [hi_wrI, if_neg (by omega), hi_wrI, if_neg (by omega)], fun _ => ⟨?_, ?_⟩, fun z => by exfalso; omega⟩) (fun c => Pc.ret ⟨frV.rf h, fun k _ _ => rfl, fun z => by exfalso; omega, fun _ => rfl⟩)
  · rw [hi_wrI, if_neg (by decide), hi_wrI, if_pos ⟨rfl, rfl⟩]
  · rw [hi_wrI, if_pos ⟨rfl, rfl⟩]
/-- a number: the class -/
def cnQ (kd pl vl : Nat → Int) (lo up : Int) (s : Int × Nat × Int × Int) (h : Hp) (q : Int32 × Hp) : Prop := frV h q.2 ∧ cQ q.2 (nbQ kd pl vl lo up s) ∧ (lo ≤ q.1.toInt ∧ q.1.toInt ≤ up) ∧ ((nbQ kd pl vl lo up s).1 = 0 → lo ≤ vl s.2.1 → vl s.2.1 ≤ up → q.1.toInt = vl s.2.1)
set_option maxHeartbeats 4000000 in
theorem cq_number (X : TX N kd pl vl) (C : CT N kd pl vl h) (T : tI2 N s.2.1) (S : cQ h s) {x1 x2 : Int32} (lu : x1.toInt ≤ x2.toInt) : Pc (F_X7_takeNumber n h x1 x2) (cnQ kd pl vl x1.toInt x2.toInt s h) := by
  have f0 := lit_0
  have f5 := lit_5
  have f30 := lit_30
  unfold F_X7_takeNumber
  refine Pc.bind (pc_valueOf C T S.1.2) (fun q1 h1 => ?_)
  rw [h1.1]
  refine Pc.bind (pc_placeOf C T S.1.2) (fun q3 h3 => ?_)
  rw [h3.1]
  refine Pc.bind (cq_take X C T S 30 f30) (fun q5 h5 => ?_)
  obtain ⟨k1, k2, k3⟩ := h5
  have e1 : (nbQ kd pl vl x1.toInt x2.toInt s).1 = (tkQ kd 30 s).1 := rfl
  refine Pc.eq (fun c => Pc.ret ⟨k1.v, ?_, ⟨Int.le_refl _, lu⟩, fun z => ?_⟩) (fun c => ?_)
  · have nz : (tkQ kd 30 s).1 ≠ 0 := k3.mp (c.trans f0)
    exact ⟨k2.1, fun z => absurd z nz⟩
  · exact absurd z (k3.mp (c.trans f0))
  · have z : (tkQ kd 30 s).1 = 0 := by
      by_cases w : (tkQ kd 30 s).1 = 0
      · exact w
      · exact absurd ((k3.mpr w).trans f0.symm) c
    obtain ⟨z1, z2, z3, z4⟩ := tk_z z
    have tN : s.2.1 < N := by
      by_cases y : s.2.1 < N
      · exact y
      · exfalso
        have : s.2.1 = N := by have := T.1; omega
        rw [this, X.2.1] at z2
        exact absurd z2 (by decide)
    have vb := X.2.2.1 s.2.1 tN z2
    have v1 := (h1.2 tN).2
    have v2 := i64 (x := q1.1) (by omega) (by omega)
    have cl := cl_T (a := q1.1.toInt32) lu
    have k2w := k2.2 z
    have ok (g : Hp) (fr : frV h g) (cg : cQ g (nbQ kd pl vl x1.toInt x2.toInt s)) : Pc (some ((if x1 < (if (q1.1 : Int64).toInt32 < x2 then (q1.1 : Int64).toInt32 else x2) then (if (q1.1 : Int64).toInt32 < x2 then (q1.1 : Int64).toInt32 else x2) else x1), g)) (cnQ kd pl vl x1.toInt x2.toInt s h) := by
      refine Pc.ret ⟨fr, cg, ⟨cl.1, cl.2.1⟩, fun _ a b => ?_⟩
      have := cl.2.2 (by omega) (by omega)
      show (if x1 < (if (q1.1 : Int64).toInt32 < x2 then (q1.1 : Int64).toInt32 else x2) then (if (q1.1 : Int64).toInt32 < x2 then (q1.1 : Int64).toInt32 else x2) else x1 : Int32).toInt = vl s.2.1
      omega
    have bad (nr : ¬ (x1.toInt ≤ vl s.2.1 ∧ vl s.2.1 ≤ x2.toInt)) : Pc ((F_X7_blame n q5.2 5 q3.1).bind (fun q9 => some ((if x1 < (if (q1.1 : Int64).toInt32 < x2 then (q1.1 : Int64).toInt32 else x2) then (if (q1.1 : Int64).toInt32 < x2 then (q1.1 : Int64).toInt32 else x2) else x1), q9))) (cnQ kd pl vl x1.toInt x2.toInt s h) := by
      refine Pc.bind pc_blame (fun g hg => ?_)
      obtain ⟨b1, b2, b3, b4⟩ := hg
      refine ok g (k1.v.tr b1) ⟨⟨by rw [b2 5 (by decide) (by decide)]; exact k2.1.1, by rw [b2 4 (by decide) (by decide)]; exact k2.1.2⟩, fun _ => ?_⟩
      have k2a : (hi q5.2 2 6).toInt = s.2.2.1 := k2w.1
      by_cases w : s.2.2.1 = 0
      · have e : (nbQ kd pl vl x1.toInt x2.toInt s).2.2 = (5, pl s.2.1) := if_pos ⟨z, nr, w⟩
        rw [e]
        have y := b3 (by omega)
        refine ⟨by rw [y.1]; exact f5, fun _ => by rw [y.2]; exact h3.2⟩
      · have e : (nbQ kd pl vl x1.toInt x2.toInt s).2.2 = s.2.2 := if_neg (fun u => w u.2.2)
        rw [e]
        have y := b4 (by omega)
        rw [y]
        exact k2w
    have good (yr : x1.toInt ≤ vl s.2.1 ∧ vl s.2.1 ≤ x2.toInt) : cQ q5.2 (nbQ kd pl vl x1.toInt x2.toInt s) := by
      refine ⟨k2.1, fun _ => ?_⟩
      have e : (nbQ kd pl vl x1.toInt x2.toInt s).2.2 = s.2.2 := if_neg (fun u => u.2.1 yr)
      rw [e]
      exact k2w
    refine Pc.lt (fun c2 => bad (by omega)) (fun c2 => ?_)
    exact Pc.le (fun c3 => ok q5.2 k1.v (good (by omega))) (fun c3 => bad (by omega))
/-- a number: the reference -/
def rnQ (kd pl vl : Nat → Int) (lo up : Int) (s : Int × Nat × Int × Int) (h : Hp) (q : Int32 × Hp) : Prop := frW h q.2 ∧ rQ pl q.2 (nbQ kd pl vl lo up s) ∧ ((nbQ kd pl vl lo up s).1 = 0 → q.1.toInt = vl s.2.1)
theorem rq_number (X : TX N kd pl vl) (R : RT N kd pl vl h) (T : tI2 N s.2.1) (S : rQ pl h s) {x1 x2 : Int32} : Pc (F_X12_bounded n h x1 x2) (rnQ kd pl vl x1.toInt x2.toInt s h) := by
  refine (pr_bounded X R T S.1).mono (fun q hq => ?_)
  obtain ⟨b1, b2, b3⟩ := hq
  refine ⟨b1, ⟨b2, fun z => ?_⟩, fun z => (b3 z).1⟩
  have z' : (tkS kd 30 s.1 s.2.1).1 = 0 := z
  obtain ⟨z1, z2, z3, z4⟩ := tk_z z'
  obtain ⟨-, c1, c2⟩ := b3 z'
  have a := S.2 z1
  have T' := tk_in X T (k := 30) (f := s.1) (by decide)
  have lt : pl s.2.1 < pl (tkS kd 30 s.1 s.2.1).2 := pl_lt X T' (by rw [z4]; exact Nat.lt_succ_self _)
  by_cases yr : x1.toInt ≤ vl s.2.1 ∧ vl s.2.1 ≤ x2.toInt
  · have e : (nbQ kd pl vl x1.toInt x2.toInt s).2.2 = s.2.2 := if_neg (fun u => u.2.1 yr)
    rw [e, (c1 yr).1, (c1 yr).2]
    refine ⟨a.1, fun w => ⟨(a.2 w).1, ?_⟩⟩
    have := (a.2 w).2
    show s.2.2.2 < pl (tkS kd 30 s.1 s.2.1).2
    omega
  · have ws := c2 yr
    by_cases w : s.2.2.1 = 0
    · have e : (nbQ kd pl vl x1.toInt x2.toInt s).2.2 = (5, pl s.2.1) := if_pos ⟨z', yr, w⟩
      rw [e]
      have y := ws.1 (by rw [a.1]; exact w)
      exact ⟨y.1, fun _ => ⟨y.2, lt⟩⟩
    · have e : (nbQ kd pl vl x1.toInt x2.toInt s).2.2 = s.2.2 := if_neg (fun u => w u.2.2)
      rw [e]
      have aw := a.2 w
      have y := ws.2 (by rw [a.1]; exact w) (by rw [aw.1]; exact aw.2)
      rw [y.1, y.2]
      refine ⟨a.1, fun _ => ⟨aw.1, ?_⟩⟩
      have := aw.2
      show s.2.2.2 < pl (tkS kd 30 s.1 s.2.1).2
      omega
end NB
end
