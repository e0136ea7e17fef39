/-! SUMS: what is one, and the class -/
def isOp (k : Int) : Prop := k = 42 ∨ k = 43 ∨ k = 45 ∨ k = 47
def isUn (k : Int) : Prop := k = 30 ∨ (0 ≤ k ∧ k < 9)
/-- a sum is gone through: u where a unit is due; d how many ( stand unclosed. The fault, and where it ends -/
def esF (kd : Nat → Int) : Nat → Bool → Nat → Nat → Option (Int × Nat)
  | 0 => fun _ _ _ => none
  | k + 1 => fun u d t =>
    if u = true then (if kd t = 30 ∨ (0 ≤ kd t ∧ kd t < 9) then (if t < 400 then esF kd k false d (t + 1) else some (2, t)) else if kd t = 40 then (if d < 6 then (if t < 400 then esF kd k true (d + 1) (t + 1) else some (2, t)) else some (2, t)) else some (1, t))
    else (if kd t = 42 ∨ kd t = 43 ∨ kd t = 45 ∨ kd t = 47 then (if t < 400 then esF kd k true d (t + 1) else some (2, t)) else if d = 0 then some (0, t) else if kd t = 41 then (if t < 400 then esF kd k false (d - 1) (t + 1) else some (2, t)) else some (1, t))
def ExR (kd : Nat → Int) (u : Bool) (d t : Nat) (r : Int × Nat) : Prop := ∃ k, esF kd k u d t = some r
theorem esF_up {kd : Nat → Int} {r : Int × Nat} : ∀ (k : Nat) (u : Bool) (d t : Nat), esF kd k u d t = some r → esF kd (k + 1) u d t = some r := by
  intro k
  induction k with
  | zero => intro u d t e; cases e
  | succ k ih =>
    intro u d t e
    unfold esF at e ⊢
    split at e
    · rw [if_pos ‹_›]
      split at e
      · rw [if_pos ‹_›]
        split at e
        · rw [if_pos ‹_›]; exact ih _ _ _ e
        · rw [if_neg ‹_›]; exact e
      · rw [if_neg ‹_›]
        split at e
        · rw [if_pos ‹_›]
          split at e
          · rw [if_pos ‹_›]
            split at e
            · rw [if_pos ‹_›]; exact ih _ _ _ e
            · rw [if_neg ‹_›]; exact e
          · rw [if_neg ‹_›]; exact e
        · rw [if_neg ‹_›]; exact e
    · rw [if_neg ‹_›]
      split at e
      · rw [if_pos ‹_›]
        split at e
        · rw [if_pos ‹_›]; exact ih _ _ _ e
        · rw [if_neg ‹_›]; exact e
      · rw [if_neg ‹_›]
        split at e
        · rw [if_pos ‹_›]; exact e
        · rw [if_neg ‹_›]
          split at e
          · rw [if_pos ‹_›]
            split at e
            · rw [if_pos ‹_›]; exact ih _ _ _ e
            · rw [if_neg ‹_›]; exact e
          · rw [if_neg ‹_›]; exact e
theorem esF_le {kd : Nat → Int} {r : Int × Nat} {u : Bool} {d t : Nat} : ∀ (j k : Nat), esF kd k u d t = some r → esF kd (k + j) u d t = some r := by
  intro j
  induction j with
  | zero => intro k e; exact e
  | succ j ih => intro k e; exact esF_up _ _ _ _ (ih k e)
theorem ExR.uniq {kd : Nat → Int} {u : Bool} {d t : Nat} {r r' : Int × Nat} (a : ExR kd u d t r) (b : ExR kd u d t r') : r = r' := by
  obtain ⟨k, a⟩ := a
  obtain ⟨j, b⟩ := b
  have x := esF_le j k a
  have y := esF_le k j b
  rw [Nat.add_comm] at y
  rw [x] at y
  exact Option.some.inj y
section EX
theorem un_d {k : Int} (h : isUn k) : k = 30 ∨ (0 ≤ k ∧ k < 9) := h
theorem un_n {k : Int} (h : ¬ isUn k) : ¬ (k = 30 ∨ (0 ≤ k ∧ k < 9)) := h
theorem op_d {k : Int} (h : isOp k) : k = 42 ∨ k = 43 ∨ k = 45 ∨ k = 47 := h
theorem op_n {k : Int} (h : ¬ isOp k) : ¬ (k = 42 ∨ k = 43 ∨ k = 45 ∨ k = 47) := h
variable {kd : Nat → Int} {d t : Nat} {r : Int × Nat}
theorem ExR.un (h : isUn (kd t)) (c : t < 400) (a : ExR kd false d (t + 1) r) : ExR kd true d t r := by
  obtain ⟨k, a⟩ := a
  refine ⟨k + 1, ?_⟩
  unfold esF
  rw [if_pos rfl, if_pos (un_d h), if_pos c]
  exact a
theorem ExR.unR (h : isUn (kd t)) (c : ¬ t < 400) : ExR kd true d t (2, t) := by
  refine ⟨1, ?_⟩
  unfold esF
  rw [if_pos rfl, if_pos (un_d h), if_neg c]
theorem ExR.lp (h : kd t = 40) (d6 : d < 6) (c : t < 400) (a : ExR kd true (d + 1) (t + 1) r) : ExR kd true d t r := by
  obtain ⟨k, a⟩ := a
  refine ⟨k + 1, ?_⟩
  unfold esF
  rw [if_pos rfl, if_neg (by omega), if_pos h, if_pos d6, if_pos c]
  exact a
theorem ExR.lpR (h : kd t = 40) (c : ¬ d < 6 ∨ ¬ t < 400) : ExR kd true d t (2, t) := by
  refine ⟨1, ?_⟩
  unfold esF
  rw [if_pos rfl, if_neg (by omega), if_pos h]
  by_cases d6 : d < 6
  · rw [if_pos d6, if_neg (by omega)]
  · rw [if_neg d6]
theorem ExR.bad (h1 : ¬ isUn (kd t)) (h2 : kd t ≠ 40) : ExR kd true d t (1, t) := by
  refine ⟨1, ?_⟩
  unfold esF
  rw [if_pos rfl, if_neg (un_n h1), if_neg h2]
theorem ExR.op (h : isOp (kd t)) (c : t < 400) (a : ExR kd true d (t + 1) r) : ExR kd false d t r := by
  obtain ⟨k, a⟩ := a
  refine ⟨k + 1, ?_⟩
  unfold esF
  rw [if_neg (by decide), if_pos (op_d h), if_pos c]
  exact a
theorem ExR.opR (h : isOp (kd t)) (c : ¬ t < 400) : ExR kd false d t (2, t) := by
  refine ⟨1, ?_⟩
  unfold esF
  rw [if_neg (by decide), if_pos (op_d h), if_neg c]
theorem ExR.fin (h : ¬ isOp (kd t)) : ExR kd false 0 t (0, t) := by
  refine ⟨1, ?_⟩
  unfold esF
  rw [if_neg (by decide), if_neg (op_n h), if_pos rfl]
theorem ExR.rp (h : kd t = 41) (d0 : d ≠ 0) (c : t < 400) (a : ExR kd false (d - 1) (t + 1) r) : ExR kd false d t r := by
  obtain ⟨k, a⟩ := a
  refine ⟨k + 1, ?_⟩
  unfold esF
  rw [if_neg (by decide), if_neg (by omega), if_neg d0, if_pos h, if_pos c]
  exact a
theorem ExR.rpR (h : kd t = 41) (d0 : d ≠ 0) (c : ¬ t < 400) : ExR kd false d t (2, t) := by
  refine ⟨1, ?_⟩
  unfold esF
  rw [if_neg (by decide), if_neg (by omega), if_neg d0, if_pos h, if_neg c]
theorem ExR.no (h : ¬ isOp (kd t)) (h2 : kd t ≠ 41) (d0 : d ≠ 0) : ExR kd false d t (1, t) := by
  refine ⟨1, ?_⟩
  unfold esF
  rw [if_neg (by decide), if_neg (op_n h), if_neg d0, if_neg h2]
end EX
/-- what reading a sum writes -/
def frL (h h' : Hp) : Prop := (∀ a k, a ≠ 5 → a ≠ 6 → a ≠ 7 → ¬ (a = 2 ∧ (k = 4 ∨ k = 5)) → hi h' a k = hi h a k) ∧ ∀ a k, hl h' a k = hl h a k
theorem frL.rf (h : Hp) : frL h h := ⟨fun _ _ _ _ _ _ => rfl, fun _ _ => rfl⟩
theorem frL.tr {h0 h1 h2 : Hp} (a : frL h0 h1) (b : frL h1 h2) : frL h0 h2 := ⟨fun x k n1 n2 n3 n4 => (b.1 x k n1 n2 n3 n4).trans (a.1 x k n1 n2 n3 n4), fun x k => (b.2 x k).trans (a.2 x k)⟩
theorem frK.l {h h' : Hp} (a : frK h h') : frL h h' := ⟨fun x k _ _ _ n => a.1 x k n, a.2⟩
theorem frL.tk {h h' : Hp} (a : frL h h') : tkK h h' := ⟨fun k => a.1 18 k (by decide) (by decide) (by decide) (by omega), fun k => a.1 20 k (by decide) (by decide) (by decide) (by omega), fun k => a.1 21 k (by decide) (by decide) (by decide) (by omega), fun k => a.2 22 k⟩
/-- an order is laid down: one stands where one stood -/
def frO (h h' : Hp) : Prop := (∀ a k, a ≠ 5 → a ≠ 6 → a ≠ 7 → hi h' a k = hi h a k) ∧ ∀ a k, hl h' a k = hl h a k
theorem frO.l {h h' : Hp} (a : frO h h') : frL h h' := ⟨fun x k n1 n2 n3 _ => a.1 x k n1 n2 n3, a.2⟩
theorem frO.st {h h' : Hp} {f : Int} {t : Nat} (a : frO h h') (S : cS h f t) : cS h' f t := by
  unfold cS
  rw [a.1 2 5 (by decide) (by decide) (by decide), a.1 2 4 (by decide) (by decide) (by decide)]
  exact S
theorem pc_add {n : Nat} {h : Hp} {x : Int32} : Pc (F_X4_add n h 5 x) (fun q => frO h q) := by
  unfold F_X4_add
  refine Pc.le (fun _ => Pc.ret ⟨fun _ _ _ _ _ => rfl, fun _ _ => rfl⟩) (fun _ => Pc.chk (fun _ => Pc.ret ⟨fun a k n1 n2 n3 => ?_, fun a k => rfl⟩))
  rw [hi_wrI, if_neg (by omega), hi_wrI, if_neg (by omega)]
/-- where a sum (u: a unit) of depth d, begun at t, comes to: its end is what the rules say, or one goes on there -/
def smP (kd : Nat → Int) (u : Bool) (d t : Nat) (f' : Int) (t' : Nat) : Prop := (f' ≠ 0 → ExR kd u d t (f', t')) ∧ (f' = 0 → ∀ r, ExR kd false d t' r → ExR kd u d t r)
section SU
variable {N : Nat} {kd pl vl : Nat → Int}
/-- the level below does as it should -/
def lvP (N : Nat) (kd pl vl : Nat → Int) (S : Nat → Hp → Int32 → Option Hp) : Prop := ∀ (n : Nat) (h : Hp) (x : Int32) (d t : Nat), CT N kd pl vl h → tI2 N t → cS h 0 t → x.toInt = (d : Int) → d ≤ 6 → Pc (S n h x) (fun q => frL h q ∧ ∃ f' t', cS q f' t' ∧ tI2 N t' ∧ t ≤ t' ∧ smP kd true d t f' t' ∧ (f' = 0 → t < t' ∧ ¬ isOp (kd t')))
theorem unP_take (X : TX N kd pl vl) {h : Hp} {n : Nat} {x1 : Int32} {d t : Nat} (C : CT N kd pl vl h) (T : tI2 N t) (S : cS h 0 t) (hk : x1.toInt = kd t) (hu : isUn (kd t)) : Pc ((F_X7_take n h x1).bind (fun q => some q.2)) (fun q => frL h q ∧ ∃ f' t', cS q f' t' ∧ tI2 N t' ∧ t ≤ t' ∧ smP kd true d t f' t' ∧ (f' = 0 → t < t')) := by
  refine Pc.bind (pc_take X C T S) (fun q hq => Pc.ret ⟨hq.1.l, _, _, hq.2.1, tk_in X T (by rw [hk]; unfold isUn at hu; omega), tk_le, ?_, fun z => ?_⟩)
  · rw [hk]
    unfold tkS
    rw [if_pos rfl, if_pos rfl]
    by_cases c : t < 400
    · rw [if_pos c]
      exact ⟨fun z => absurd rfl z, fun _ r a => a.un hu c⟩
    · rw [if_neg c]
      exact ⟨fun _ => ExR.unR hu c, fun z => absurd z (show ¬ (2 : Int) = 0 by decide)⟩
  · have := (tk_z z).2.2.2
    rw [this]
    show t < t + 1
    omega
set_option maxHeartbeats 4000000 in
theorem pc_readUnit (X : TX N kd pl vl) {S : Nat → Hp → Int32 → Option Hp} (L : lvP N kd pl vl S) {h : Hp} {n : Nat} {x1 : Int32} {d t : Nat} (C : CT N kd pl vl h) (T : tI2 N t) (Sc : cS h 0 t) (hx : x1.toInt = (d : Int)) (d6 : d ≤ 6) : Pc (F_X7_readUnit S n h x1) (fun q => frL h q ∧ ∃ f' t', cS q f' t' ∧ tI2 N t' ∧ t ≤ t' ∧ smP kd true d t f' t' ∧ (f' = 0 → t < t')) := by
  have f0 := lit_0
  have f1 := lit_1
  have f2 := lit_2
  have f6 := lit_6
  have f9 := lit_9
  have f30 := lit_30
  have f40 := lit_40
  have f41 := lit_41
  unfold F_X7_readUnit F_X7_kind
  refine Pc.bind (Q := fun q => q.2 = h ∧ q.1.toInt = kd t) (Pc.bind (pc_kindOf X C T Sc.2) (fun q hq => Pc.ret hq)) (fun q1 h1 => ?_)
  rw [h1.1]
  have v1 := h1.2
  have one (nu : ¬ isUn (kd t)) (n4 : kd t ≠ 40) : Pc ((F_X7_stop n h 1).bind (fun q => some q)) (fun q => frL h q ∧ ∃ f' t', cS q f' t' ∧ tI2 N t' ∧ t ≤ t' ∧ smP kd true d t f' t' ∧ (f' = 0 → t < t')) := by
    refine Pc.bind (pc_stop Sc) (fun q hq => Pc.ret ⟨hq.1.l, 1, t, ?_, T, Nat.le_refl t, ⟨fun _ => ExR.bad nu n4, fun z => absurd z (show ¬ (1 : Int) = 0 by decide)⟩, fun z => absurd z (show ¬ (1 : Int) = 0 by decide)⟩)
    have z := hq.2
    rw [if_pos rfl, f1] at z
    exact z
  have lp (e4 : kd t = 40) : Pc (if (x1 : Int32) < (6 : Int32) then ((F_X7_take n h q1.1).bind (fun q7 => (if (q7.1 : Int32) = (0 : Int32) then some q7.2 else ((S n q7.2 (x1 + 1)).bind (fun q10 => ((F_X7_take n q10 41).bind (fun q12 => some q12.2))))))) else ((F_X7_stop n h 2).bind (fun q14 => ((F_X7_take n q14 q1.1).bind (fun q16 => (if (q16.1 : Int32) = (0 : Int32) then some q16.2 else ((S n q16.2 (x1 + 1)).bind (fun q19 => ((F_X7_take n q19 41).bind (fun q21 => some q21.2)))))))))) (fun q => frL h q ∧ ∃ f' t', cS q f' t' ∧ tI2 N t' ∧ t ≤ t' ∧ smP kd true d t f' t' ∧ (f' = 0 → t < t')) := by
    refine Pc.lt (fun c => ?_) (fun c => ?_)
    · refine Pc.bind (pc_take X C T Sc) (fun q7 h7 => ?_)
      obtain ⟨k1, k2, k3⟩ := h7
      have T7 := tk_in X T (k := q1.1.toInt) (f := 0) (by omega)
      rw [v1] at k2 k3 T7
      have tk : tkS kd (kd t) 0 t = if t < 400 then (0, t + 1) else (2, t) := by
        unfold tkS
        rw [if_pos rfl, if_pos rfl]
      rw [tk] at k2 k3 T7
      by_cases c4 : t < 400
      · rw [if_pos c4] at k2 k3 T7
        refine Pc.eq (fun c0 => absurd rfl (k3.mp (c0.trans f0))) (fun _ => ?_)
        have a1 := adT x1 1 (by omega) (by omega)
        refine Pc.bind (L n q7.2 (x1 + 1) (d + 1) (t + 1) (C.cg k1.tk) T7 k2 (by omega) (by omega)) (fun q10 h10 => ?_)
        obtain ⟨m1, f', t', m2, m3, m4, m5, m6⟩ := h10
        have C10 := C.cg (k1.l.tr m1).tk
        refine Pc.bind (pc_take X C10 m3 m2) (fun q12 h12 => Pc.ret ⟨(k1.l.tr m1).tr h12.1.l, _, _, h12.2.1, tk_in X m3 (by rw [f41]; decide), ?_, ?_, fun z => ?_⟩)
        · have := tk_le (kd := kd) (t := t') (k := (41 : Int32).toInt) (f := f')
          omega
        · rw [f41]
          by_cases fz : f' = 0
          · have go := m5.2 fz
            have no := (m6 fz).2
            unfold tkS
            rw [if_pos fz]
            by_cases e1 : kd t' = 41
            · rw [if_pos e1]
              by_cases c5 : t' < 400
              · rw [if_pos c5]
                exact ⟨fun z => absurd rfl z, fun _ r a => (go r (ExR.rp e1 (by omega) c5 (by rw [show d + 1 - 1 = d by omega]; exact a))).lp e4 (by omega) c4⟩
              · rw [if_neg c5]
                exact ⟨fun _ => (go _ (ExR.rpR e1 (by omega) c5)).lp e4 (by omega) c4, fun z => absurd z (show ¬ (2 : Int) = 0 by decide)⟩
            · rw [if_neg e1]
              exact ⟨fun _ => (go _ (ExR.no no e1 (by omega))).lp e4 (by omega) c4, fun z => absurd z (show ¬ (1 : Int) = 0 by decide)⟩
          · rw [tk_f fz]
            exact ⟨fun _ => (m5.1 fz).lp e4 (by omega) c4, fun z => absurd z fz⟩
        · have y := tk_z z
          have := tk_le (kd := kd) (t := t') (k := (41 : Int32).toInt) (f := f')
          omega
      · rw [if_neg c4] at k2 k3 T7
        refine Pc.eq (fun _ => Pc.ret ⟨k1.l, 2, t, k2, T, Nat.le_refl t, ⟨fun _ => ExR.lpR e4 (Or.inr c4), fun z => absurd z (show ¬ (2 : Int) = 0 by decide)⟩, fun z => absurd z (show ¬ (2 : Int) = 0 by decide)⟩) (fun c0 => ?_)
        exfalso
        exact c0 ((k3.mpr (show (2 : Int) ≠ 0 by decide)).trans f0.symm)
    · refine Pc.bind (pc_stop Sc) (fun q14 h14 => ?_)
      have S14 := h14.2
      rw [if_pos rfl, f2] at S14
      refine Pc.bind (pc_take X (C.cg h14.1.tk) T S14) (fun q16 h16 => ?_)
      obtain ⟨k1, k2, k3⟩ := h16
      rw [tk_f (show (2 : Int) ≠ 0 by decide)] at k2 k3
      refine Pc.eq (fun _ => Pc.ret ⟨(h14.1.tr k1).l, 2, t, k2, T, Nat.le_refl t, ⟨fun _ => ExR.lpR e4 (Or.inl (by omega)), fun z => absurd z (show ¬ (2 : Int) = 0 by decide)⟩, fun z => absurd z (show ¬ (2 : Int) = 0 by decide)⟩) (fun c0 => ?_)
      exfalso
      exact c0 ((k3.mpr (show (2 : Int) ≠ 0 by decide)).trans f0.symm)
  refine Pc.eq (fun c => ?_) (fun c => ?_)
  · have hu : isUn (kd t) := Or.inl (by omega)
    refine Pc.bind (pc_valueOf C T Sc.2) (fun q50 h50 => ?_)
    rw [h50.1]
    refine Pc.bind pc_add (fun q52 h52 => ?_)
    refine (unP_take (d := d) X (C.cg h52.l.tk) T (h52.st Sc) v1 hu).mono (fun q hq => ?_)
    obtain ⟨a1, f', t', a2⟩ := hq
    exact ⟨h52.l.tr a1, f', t', a2⟩
  · refine Pc.lt (fun c1 => ?_) (fun c1 => ?_)
    · have nu : ¬ isUn (kd t) := by unfold isUn; omega
      refine Pc.eq (fun c2 => lp (by omega)) (fun c2 => one nu (by omega))
    · refine Pc.le (fun c2 => ?_) (fun c2 => ?_)
      · have nu : ¬ isUn (kd t) := by unfold isUn; omega
        refine Pc.eq (fun c2 => lp (by omega)) (fun c2 => one nu (by omega))
      · have hu : isUn (kd t) := Or.inr (by omega)
        refine Pc.bind pc_add (fun q46 h46 => ?_)
        refine (unP_take (d := d) X (C.cg h46.l.tk) T (h46.st Sc) v1 hu).mono (fun q hq => ?_)
        obtain ⟨a1, f', t', a2⟩ := hq
        exact ⟨h46.l.tr a1, f', t', a2⟩
end SU
