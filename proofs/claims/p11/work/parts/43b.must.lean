/-! TAKING TOKENS: the reference -/
def RT (N : Nat) (kd pl vl : Nat → Int) (h : Hp) : Prop := ∀ t, tI2 N t → (hi h 229 t).toInt = rk (kd t) ∧ (hi h 230 t).toInt = pl t ∧ (kd t = 30 → (hi h 231 t).toInt = vl t)
def rtK (h h' : Hp) : Prop := (∀ k, hi h' 229 k = hi h 229 k) ∧ (∀ k, hi h' 230 k = hi h 230 k) ∧ ∀ k, hi h' 231 k = hi h 231 k
/-- the reference stands at t with the fault f, or had it there -/
def rT (pl : Nat → Int) (h : Hp) (f : Int) (t : Nat) : Prop := 0 ≤ f ∧ (hi h 226 13).toInt = f ∧ (f = 0 → (hi h 226 11).toInt = (t : Int)) ∧ (f ≠ 0 → (hi h 226 14).toInt = pl t)
def frQ (h h' : Hp) : Prop := (∀ a k, ¬ (a = 226 ∧ (k = 11 ∨ k = 13 ∨ k = 14)) → hi h' a k = hi h a k) ∧ ∀ a k, hl h' a k = hl h a k
theorem vdT {N : Nat} {kd pl vl : Nat → Int} {t : Nat} (X : TX N kd pl vl) (T : tI2 N t) : kd t ∈ vdL := by
  by_cases z : t < N
  · exact (X.1 t z).1
  · have : t = N := by unfold tI2 at T; omega
    rw [this, X.2.1]
    decide
section TB
variable {N : Nat} {kd pl vl : Nat → Int} {h h' : Hp} {t : Nat} {f : Int} {n : Nat}
theorem frQ.rf (h : Hp) : frQ h h := ⟨fun _ _ _ => rfl, fun _ _ => rfl⟩
theorem frQ.tr {h0 h1 h2 : Hp} (a : frQ h0 h1) (b : frQ h1 h2) : frQ h0 h2 := ⟨fun x k n => (b.1 x k n).trans (a.1 x k n), fun x k => (b.2 x k).trans (a.2 x k)⟩
theorem frQ.rt (a : frQ h h') : rtK h h' := ⟨fun k => a.1 229 k (by omega), fun k => a.1 230 k (by omega), fun k => a.1 231 k (by omega)⟩
theorem RT.cg (R : RT N kd pl vl h) (k : rtK h h') : RT N kd pl vl h' := fun t T => by rw [k.1, k.2.1, k.2.2]; exact R t T
theorem pr_fail (R : RT N kd pl vl h) (T : tI2 N t) (S : rT pl h f t) {x1 : Int32} (hx : 0 < x1.toInt) : Pc (F_X12_fail n h x1) (fun q => frQ h q ∧ rT pl q (if f = 0 then x1.toInt else f) t) := by
  have f0 := lit_0
  obtain ⟨s0, s1, s2, s3⟩ := S
  unfold F_X12_fail
  refine Pc.le (fun c => ?_) (fun c => Pc.ret ⟨frQ.rf h, ?_⟩)
  · have fz : f = 0 := by omega
    have e11 : hi (wrI h 226 13 x1) 226 11 = hi h 226 11 := by rw [hi_wrI, if_neg (by decide)]
    have e30 (k : Nat) : hi (wrI h 226 13 x1) 230 k = hi h 230 k := by rw [hi_wrI, if_neg (by omega)]
    rw [e11, e30]
    have n1 := ncT (show 0 ≤ (hi h 226 11).toInt by have := s2 fz; omega)
    have n2 : Int32.toNatClampNeg (hi h 226 11) = t := by have := s2 fz; omega
    rw [n2, if_pos fz]
    refine Pc.chk (fun _ => Pc.ret ⟨⟨fun a k n => by rw [hi_wrI, if_neg (by omega), hi_wrI, if_neg (by omega)], fun a k => rfl⟩, by omega, ?_, fun z => by omega, fun _ => ?_⟩)
    · rw [hi_wrI, if_neg (by decide), hi_wrI, if_pos ⟨rfl, rfl⟩]
    · rw [hi_wrI, if_pos ⟨rfl, rfl⟩]
      exact (R t T).2.1
  · have fz : f ≠ 0 := by omega
    rw [if_neg fz]
    exact ⟨s0, s1, s2, s3⟩
theorem pr_goesOn (R : RT N kd pl vl h) (T : tI2 N t) (S : rT pl h 0 t) : Pc (F_X12_goesOn n h) (fun q => frQ h q ∧ rT pl q (if t < 400 then 0 else 2) (if t < 400 then t + 1 else t)) := by
  have f1 := lit_1
  have f2 := lit_2
  have f4 := lit_400
  have s2 := S.2.2.1 rfl
  have T2 := T.2
  unfold F_X12_goesOn
  refine Pc.eq (fun c => ?_) (fun c => Pc.ret ⟨⟨fun a k n => by rw [hi_wrI, if_neg (by omega)], fun a k => rfl⟩, ?_⟩)
  · refine Pc.bind (pr_fail R T S (by decide)) (fun q hq => Pc.ret ⟨hq.1, ?_⟩)
    have z := hq.2
    rw [if_pos rfl, f2] at z
    rw [if_neg (by omega), if_neg (by omega)]
    exact z
  · have a1 := adT (hi h 226 11) 1 (by omega) (by omega)
    rw [if_pos (by omega), if_pos (by omega)]
    refine ⟨by omega, ?_, fun _ => ?_, fun z => absurd rfl z⟩
    · rw [hi_wrI, if_neg (by decide)]; exact S.2.1
    · rw [hi_wrI, if_pos ⟨rfl, rfl⟩]; omega
/-- once there is a fault, going on changes nothing that counts -/
theorem pr_goesOnF (R : RT N kd pl vl h) (T : tI2 N t) (fz : f ≠ 0) (S : rT pl h f t) : Pc (F_X12_goesOn n h) (fun q => frQ h q ∧ rT pl q f t) := by
  unfold F_X12_goesOn
  refine Pc.eq (fun c => ?_) (fun c => Pc.ret ⟨⟨fun a k n => by rw [hi_wrI, if_neg (by omega)], fun a k => rfl⟩, S.1, ?_, fun z => absurd z fz, fun _ => ?_⟩)
  · refine Pc.bind (pr_fail R T S (by decide)) (fun q hq => Pc.ret ⟨hq.1, ?_⟩)
    have z := hq.2
    rw [if_neg fz] at z
    exact z
  · rw [hi_wrI, if_neg (by decide)]; exact S.2.1
  · rw [hi_wrI, if_neg (by decide)]; exact S.2.2.2 fz
theorem pr_is (X : TX N kd pl vl) (R : RT N kd pl vl h) (T : tI2 N t) (S : rT pl h f t) {x1 : Int32} (k : Int) (hk : k ∈ vdL) (hx : x1.toInt = rk k) : Pc (F_X12_is n h x1) (fun q => q.2 = h ∧ (q.1.toInt ≠ 0 ↔ (f = 0 ∧ kd t = k))) := by
  have f0 := lit_0
  have f1 := lit_1
  obtain ⟨s0, s1, s2, s3⟩ := S
  unfold F_X12_is
  refine Pc.eq (fun c => ?_) (fun c => Pc.ret ⟨rfl, fun z => absurd f0 z, fun z => by exfalso; omega⟩)
  have fz : f = 0 := by omega
  have st := s2 fz
  have n1 := ncT (show 0 ≤ (hi h 226 11).toInt by omega)
  have n2 : Int32.toNatClampNeg (hi h 226 11) = t := by omega
  rw [n2]
  refine Pc.chk (fun _ => ?_)
  have rt := (R t T).1
  refine Pc.eq (fun c2 => Pc.ret ⟨rfl, fun _ => ⟨fz, ?_⟩, fun _ => by show (1 : Int32).toInt ≠ 0; omega⟩) (fun c2 => Pc.ret ⟨rfl, fun z => absurd f0 z, fun z => ?_⟩)
  · exact rk_inj _ (vdT X T) _ hk (by rw [← rt, c2, hx])
  · exfalso
    apply c2
    rw [rt, hx, z.2]
theorem pr_must (X : TX N kd pl vl) (R : RT N kd pl vl h) (T : tI2 N t) (S : rT pl h f t) {x1 : Int32} (k : Int) (hk : k ∈ vdL) (hx : x1.toInt = rk k) : Pc (F_X12_must n h x1) (fun q => frQ h q ∧ rT pl q (tkS kd k f t).1 (tkS kd k f t).2) := by
  have f0 := lit_0
  have f1 := lit_1
  unfold F_X12_must
  refine Pc.bind (pr_is X R T S k hk hx) (fun q1 h1 => ?_)
  rw [h1.1]
  refine Pc.eq (fun c => ?_) (fun c => ?_)
  · have nn : ¬ (f = 0 ∧ kd t = k) := fun z => h1.2.mpr z (c.trans f0)
    refine Pc.bind (pr_fail R T S (by decide)) (fun q hq => Pc.ret ⟨hq.1, ?_⟩)
    have z := hq.2
    by_cases fz : f = 0
    · rw [if_pos fz, f1] at z
      have e : tkS kd k f t = (1, t) := by unfold tkS; rw [if_pos fz, if_neg (fun y => nn ⟨fz, y⟩)]
      rw [e]; exact z
    · rw [if_neg fz] at z
      rw [tk_f fz]; exact z
  · obtain ⟨fz, ek⟩ := h1.2.mp (by omega)
    subst fz
    refine Pc.bind (pr_goesOn R T S) (fun q hq => Pc.ret ⟨hq.1, ?_⟩)
    have z := hq.2
    unfold tkS
    rw [if_pos rfl, if_pos ek]
    by_cases c4 : t < 400
    · rw [if_pos c4] at z ⊢
      rw [if_pos c4] at z
      exact z
    · rw [if_neg c4] at z ⊢
      rw [if_neg c4] at z
      exact z
/-- a number that is out of its bounds: the worst so far, and where -/
def wsP (h h' : Hp) (p k : Int) : Prop := ((hi h 226 15).toInt = 0 → (hi h' 226 15).toInt = k ∧ (hi h' 226 16).toInt = p) ∧ ((hi h 226 15).toInt ≠ 0 → (hi h 226 16).toInt < p → hi h' 226 15 = hi h 226 15 ∧ hi h' 226 16 = hi h 226 16)
def frW (h h' : Hp) : Prop := (∀ a k, ¬ (a = 226 ∧ (k = 11 ∨ k = 13 ∨ k = 14 ∨ k = 15 ∨ k = 16)) → hi h' a k = hi h a k) ∧ ∀ a k, hl h' a k = hl h a k
theorem frQ.w (a : frQ h h') : frW h h' := ⟨fun x k n => a.1 x k (by omega), a.2⟩
theorem frW.tr {h0 h1 h2 : Hp} (a : frW h0 h1) (b : frW h1 h2) : frW h0 h2 := ⟨fun x k n => (b.1 x k n).trans (a.1 x k n), fun x k => (b.2 x k).trans (a.2 x k)⟩
theorem frW.rt (a : frW h h') : rtK h h' := ⟨fun k => a.1 229 k (by omega), fun k => a.1 230 k (by omega), fun k => a.1 231 k (by omega)⟩
theorem pr_wrong (R : RT N kd pl vl h) {t0 : Nat} (T0 : tI2 N t0) (S : rT pl h 0 t) {x1 x2 : Int32} (hx : x2.toInt = (t0 : Int)) : Pc (F_X12_wrong n h x1 x2) (fun q => (frW h q ∧ rT pl q 0 t) ∧ wsP h q (pl t0) x1.toInt) := by
  have f0 := lit_0
  have s1 := S.2.1
  unfold F_X12_wrong
  have n1 := ncT (show 0 ≤ x2.toInt by omega)
  have n2 : Int32.toNatClampNeg x2 = t0 := by omega
  rw [n2]
  have rp := (R t0 T0).2.1
  have wr (ok : (hi h 226 15).toInt = 0 ∨ ¬ (hi h 226 16).toInt < pl t0) : Pc (some (wrI (wrI h 226 15 x1) 226 16 (hi h 230 t0))) (fun q => (frW h q ∧ rT pl q 0 t) ∧ wsP h q (pl t0) x1.toInt) := by
    refine Pc.ret ⟨⟨⟨fun a k n => by rw [hi_wrI, if_neg (by omega), hi_wrI, if_neg (by omega)], fun a k => rfl⟩, by omega, ?_, fun _ => ?_, fun z => absurd rfl z⟩, fun _ => ⟨?_, ?_⟩, fun z y => by omega⟩
    · rw [hi_wrI, if_neg (by decide), hi_wrI, if_neg (by decide)]; exact s1
    · rw [hi_wrI, if_neg (by decide), hi_wrI, if_neg (by decide)]; exact S.2.2.1 rfl
    · rw [hi_wrI, if_neg (by decide), hi_wrI, if_pos ⟨rfl, rfl⟩]
    · rw [hi_wrI, if_pos ⟨rfl, rfl⟩]; exact rp
  have sm (w : (hi h 226 15).toInt ≠ 0) : Pc (some h) (fun q => (frW h q ∧ rT pl q 0 t) ∧ wsP h q (pl t0) x1.toInt) := Pc.ret ⟨⟨⟨fun _ _ _ => rfl, fun _ _ => rfl⟩, S⟩, fun z => absurd z w, fun _ _ => ⟨rfl, rfl⟩⟩
  refine Pc.chk (fun _ => ?_)
  refine Pc.lt (fun c => by exfalso; omega) (fun _ => ?_)
  refine Pc.eq (fun c => wr (Or.inl (by omega))) (fun c => ?_)
  refine Pc.lt (fun _ => sm (by omega)) (fun c2 => ?_)
  refine Pc.eq (fun c3 => Pc.lt (fun _ => wr (Or.inr (by omega))) (fun _ => sm (by omega))) (fun _ => wr (Or.inr (by omega)))
/-- a number is read -/
def bdP (kd pl vl : Nat → Int) (lo up f : Int) (t : Nat) (h : Hp) (q : Int32 × Hp) : Prop := frW h q.2 ∧ rT pl q.2 (tkS kd 30 f t).1 (tkS kd 30 f t).2 ∧ ((tkS kd 30 f t).1 = 0 → q.1.toInt = vl t ∧ ((lo ≤ vl t ∧ vl t ≤ up) → hi q.2 226 15 = hi h 226 15 ∧ hi q.2 226 16 = hi h 226 16) ∧ (¬ (lo ≤ vl t ∧ vl t ≤ up) → wsP h q.2 (pl t) 5))
theorem pr_bounded (X : TX N kd pl vl) (R : RT N kd pl vl h) (T : tI2 N t) (S : rT pl h f t) {x1 x2 : Int32} : Pc (F_X12_bounded n h x1 x2) (bdP kd pl vl x1.toInt x2.toInt f t h) := by
  have f0 := lit_0
  have f1 := lit_1
  have f5 := lit_5
  have d30 : (30 : Int) ∈ vdL := by decide
  unfold F_X12_bounded
  refine Pc.lt (fun c => ?_) (fun c => ?_)
  · have fz : f ≠ 0 := by have := S.2.1; omega
    refine Pc.bind (pr_fail R T S (by decide)) (fun q hq => Pc.ret ⟨hq.1.w, ?_, fun z => ?_⟩)
    · have z := hq.2
      rw [if_neg fz] at z
      rw [tk_f fz]; exact z
    · rw [tk_f fz] at z; exact absurd z fz
  · have fz : f = 0 := by have := S.2.1; have := S.1; omega
    subst fz
    refine Pc.bind (pr_is X R T S 30 d30 (by decide)) (fun q4 h4 => ?_)
    rw [h4.1]
    refine Pc.eq (fun c1 => ?_) (fun c1 => ?_)
    · have nn : kd t ≠ 30 := fun z => h4.2.mpr ⟨rfl, z⟩ (c1.trans f0)
      have e : tkS kd 30 0 t = (1, t) := by unfold tkS; rw [if_pos rfl, if_neg nn]
      refine Pc.bind (pr_fail R T S (by decide)) (fun q hq => Pc.ret ⟨hq.1.w, ?_, fun z => ?_⟩)
      · have z := hq.2
        rw [if_pos rfl, f1] at z
        rw [e]; exact z
      · rw [e] at z; exact absurd z (show ¬ (1 : Int) = 0 by decide)
    · obtain ⟨-, ek⟩ := h4.2.mp (by omega)
      have st := S.2.2.1 rfl
      have n1 := ncT (show 0 ≤ (hi h 226 11).toInt by omega)
      have n2 : Int32.toNatClampNeg (hi h 226 11) = t := by omega
      rw [n2]
      have rv := (R t T).2.2 ek
      have e2 (q : Hp) (z : rT pl q (if t < 400 then 0 else 2) (if t < 400 then t + 1 else t)) : rT pl q (tkS kd 30 0 t).1 (tkS kd 30 0 t).2 := by
        unfold tkS
        rw [if_pos rfl, if_pos ek]
        by_cases c4 : t < 400
        · rw [if_pos c4] at z ⊢
          rw [if_pos c4] at z
          exact z
        · rw [if_neg c4] at z ⊢
          rw [if_neg c4] at z
          exact z
      have bad (nr : ¬ (x1.toInt ≤ vl t ∧ vl t ≤ x2.toInt)) : Pc ((F_X12_wrong n h 5 (hi h 226 11)).bind (fun q9 => ((F_X12_goesOn n q9).bind (fun q11 => some ((hi h 231 t), q11))))) (bdP kd pl vl x1.toInt x2.toInt 0 t h) := by
        refine Pc.bind (pr_wrong R T S st) (fun q9 h9 => ?_)
        refine Pc.bind (pr_goesOn (R.cg h9.1.1.rt) T h9.1.2) (fun q hq => Pc.ret ⟨h9.1.1.tr hq.1.w, e2 q hq.2, fun _ => ⟨rv, fun z => absurd z nr, fun _ => ?_⟩⟩)
        have w := h9.2
        rw [f5] at w
        unfold wsP at w ⊢
        rw [hq.1.1 226 15 (by decide), hq.1.1 226 16 (by decide)]
        exact w
      refine Pc.chk (fun _ => ?_)
      refine Pc.lt (fun c2 => bad (by omega)) (fun c2 => ?_)
      refine Pc.le (fun c3 => ?_) (fun c3 => bad (by omega))
      refine Pc.bind (pr_goesOn R T S) (fun q hq => Pc.ret ⟨hq.1.w, e2 q hq.2, fun _ => ⟨rv, fun _ => ⟨hq.1.1 226 15 (by decide), hq.1.1 226 16 (by decide)⟩, fun z => absurd (by omega) z⟩⟩)
end TB
