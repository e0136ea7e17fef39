/-! READING: an expression. What waits: a level's orders, ( of each level -/
def wtO (f : Nat → Int32) : Nat → Option (Nat × Nat × Nat)
  | 0 => some (0, 0, 0)
  | n + 1 => match wtO f n with
    | none => none
    | some (k, O, P) => if (f n).toInt = 6 then some (0, O + 1, P) else if (f n).toInt = 8 ∨ (f n).toInt = 9 then (if k = 0 then some (1, O, P + 1) else none) else if (f n).toInt = 10 ∨ (f n).toInt = 15 then (if k ≤ 1 then some (2, O, P + 1) else none) else none
theorem wt_cg {f g : Nat → Int32} : ∀ n : Nat, (∀ i, i < n → f i = g i) → wtO f n = wtO g n := by
  intro n
  induction n with
  | zero => intro _; rfl
  | succ n ih =>
    intro h
    unfold wtO
    rw [ih (fun i hi2 => h i (by omega)), h n (by omega)]
theorem wt_pop {f : Nat → Int32} {n k O P : Nat} (h : wtO f (n + 1) = some (k, O, P)) : ∃ k' O' P', wtO f n = some (k', O', P') ∧ (((f n).toInt = 6 ∧ k = 0 ∧ O = O' + 1 ∧ P = P') ∨ (((f n).toInt = 8 ∨ (f n).toInt = 9) ∧ k = 1 ∧ k' = 0 ∧ O = O' ∧ P = P' + 1) ∨ (((f n).toInt = 10 ∨ (f n).toInt = 15) ∧ k = 2 ∧ k' ≤ 1 ∧ O = O' ∧ P = P' + 1)) := by
  unfold wtO at h
  cases e : wtO f n with
  | none => rw [e] at h; cases h
  | some q =>
    obtain ⟨k', O', P'⟩ := q
    rw [e] at h
    simp only at h
    refine ⟨k', O', P', rfl, ?_⟩
    by_cases c1 : (f n).toInt = 6
    · rw [if_pos c1] at h
      cases h
      exact Or.inl ⟨c1, rfl, rfl, rfl⟩
    · rw [if_neg c1] at h
      by_cases c2 : (f n).toInt = 8 ∨ (f n).toInt = 9
      · rw [if_pos c2] at h
        by_cases c3 : k' = 0
        · rw [if_pos c3] at h
          cases h
          exact Or.inr (Or.inl ⟨c2, rfl, c3, rfl, rfl⟩)
        · rw [if_neg c3] at h; cases h
      · rw [if_neg c2] at h
        by_cases c4 : (f n).toInt = 10 ∨ (f n).toInt = 15
        · rw [if_pos c4] at h
          by_cases c3 : k' ≤ 1
          · rw [if_pos c3] at h
            cases h
            exact Or.inr (Or.inr ⟨c4, rfl, c3, rfl, rfl⟩)
          · rw [if_neg c3] at h; cases h
        · rw [if_neg c4] at h; cases h
theorem wt_bd {f : Nat → Int32} : ∀ n k O P : Nat, wtO f n = some (k, O, P) → k ≤ 2 ∧ n ≤ 3 * O + k ∧ n = O + P := by
  intro n
  induction n with
  | zero =>
    intro k O P h
    unfold wtO at h
    cases h
    omega
  | succ n ih =>
    intro k O P h
    obtain ⟨k', O', P', e, q⟩ := wt_pop h
    have := ih k' O' P' e
    omega
theorem wt_o {f : Nat → Int32} {n k O P : Nat} (h : wtO f n = some (k, O, P)) (c : (f n).toInt = 6) : wtO f (n + 1) = some (0, O + 1, P) := by
  show (match wtO f n with | none => none | some (k, O, P) => _) = _
  rw [h]
  simp only
  rw [if_pos c]
theorem wt_w {f : Nat → Int32} {n O P : Nat} (h : wtO f n = some (0, O, P)) (c : (f n).toInt = 8 ∨ (f n).toInt = 9) : wtO f (n + 1) = some (1, O, P + 1) := by
  show (match wtO f n with | none => none | some (k, O, P) => _) = _
  rw [h]
  simp only
  rw [if_neg (by omega), if_pos c, if_pos trivial]
theorem wt_s {f : Nat → Int32} {n k O P : Nat} (h : wtO f n = some (k, O, P)) (hk : k ≤ 1) (c : (f n).toInt = 10 ∨ (f n).toInt = 15) : wtO f (n + 1) = some (2, O, P + 1) := by
  show (match wtO f n with | none => none | some (k, O, P) => _) = _
  rw [h]
  simp only
  rw [if_neg (by omega), if_neg (by omega), if_pos c, if_pos hk]
theorem dp_cg {f g : Nat → Int32} {s : Nat} : ∀ m : Nat, (∀ i, s ≤ i → i < s + m → f i = g i) → dpO f s m = dpO g s m := by
  intro m
  induction m with
  | zero => intro _; rfl
  | succ m ih =>
    intro h
    rw [dpO_succ, dpO_succ, ih (fun i h1 h2 => h i h1 (by omega)), h (s + m) (by omega) (by omega)]
theorem oc_ext {f fi g gi : Nat → Int32} {s e : Nat} {D : Int} (o : ocO f fi s e) (hD : dpO f s (e - s) = D) (c1 : ∀ i, s ≤ i → i < e → g i = f i) (c2 : ∀ i, s ≤ i → i < e → gi i = fi i) (he : e + 1 ≤ 840) (d0 : 0 ≤ D) (d1 : D ≤ 300) (x1 : 2 ≤ (g e).toInt → 2 ≤ D ∧ (g e).toInt ≤ 5) (x2 : (g e).toInt ≠ 0 → (g e).toInt < 2 → 0 ≤ (gi e).toInt ∧ (gi e).toInt < 9) : ocO g gi s (e + 1) ∧ dpO g s (e + 1 - s) = D + (if (g e).toInt < 2 then 1 else -1) := by
  have o1 := o.1
  have dq (m : Nat) (hm : s + m ≤ e) : dpO g s m = dpO f s m := dp_cg m (fun i h1 h2 => c1 i h1 (by omega))
  refine ⟨⟨by omega, he, fun m hm => ?_⟩, ?_⟩
  · rw [dq m (by omega)]
    by_cases z : s + m = e
    · rw [z, show m = e - s by omega, hD]
      exact ⟨d0, d1, x1, x2⟩
    · rw [c1 (s + m) (by omega) (by omega), c2 (s + m) (by omega) (by omega)]
      exact o.2.2 m (by omega)
  · rw [show e + 1 - s = (e - s) + 1 by omega, dpO_succ, dq _ (by omega), hD, show s + (e - s) = e by omega]
theorem oc_zero (f fi : Nat → Int32) {s : Nat} (h : s ≤ 840) : ocO f fi s s := ⟨Nat.le_refl s, h, fun m hm => by omega⟩
/-- what an expression may change -/
def eK (c0 a k : Nat) : Bool := pK a k || (a == 226 && (k == 12 || k == 45 || k == 49)) || a == 259 || ((a == 257 || a == 258) && (decide (c0 ≤ k) && decide (k < 420 * (c0 / 420) + 420)))
/-- orders are counted by TOKENS, from the side's window on -/
def bO (c0 : Nat) (hE : Hp) : Prop := (c0 : Int) ≤ 420 * ((c0 / 420 : Nat) : Int) + (hi hE 226 11).toInt ∧ c0 < 840
/-- where an expression stands: c orders, n that wait (of the level: k, of ( : O, of orders: P), D on the pile -/
def eC (hE : Hp) (c0 : Nat) (h : Hp) (c n k O P : Nat) (D : Int) : Prop :=
  ((∀ a x, eK c0 a x = false → hi h a x = hi hE a x) ∧ (∀ a x, hl h a x = hl hE a x)) ∧ tI h ∧ (((hi h 226 13).toInt = 0 → (hi hE 226 13).toInt = 0) ∧ ((hi h 226 15).toInt = 0 → (hi hE 226 15).toInt = 0) ∧ (hi hE 226 11).toInt ≤ (hi h 226 11).toInt) ∧ ((hi h 226 45).toInt = c ∧ (hi h 226 49).toInt = n ∧ (hi h 226 12).toInt = O ∧ O ≤ 7) ∧ wtO (hi h 259) n = some (k, O, P) ∧ (ocO (hi h 257) (hi h 258) c0 c ∧ dpO (hi h 257) c0 (c - c0) = D)
/-- no order without a TOKEN -/
def eA (hE : Hp) (c0 : Nat) (h : Hp) (c P : Nat) : Prop := ((hi h 226 13).toInt = 0 → (c : Int) + P ≤ c0 + (hi h 226 11).toInt - (hi hE 226 11).toInt) ∧ (c : Int) + P ≤ c0 + (hi h 226 11).toInt - (hi hE 226 11).toInt + 2
theorem eKp {c0 a k : Nat} (h : eK c0 a k = false) : pK a k = false := by
  unfold eK at h
  simp only [Bool.or_eq_false_iff] at h
  exact h.1.1.1
theorem eKq {c0 a k : Nat} (h : eK c0 a k = false) : pK a k = false ∧ ¬ (a = 226 ∧ (k = 12 ∨ k = 45 ∨ k = 49)) ∧ a ≠ 259 ∧ ¬ ((a = 257 ∨ a = 258) ∧ c0 ≤ k ∧ k < 420 * (c0 / 420) + 420) := by
  unfold eK at h
  simp only [Bool.or_eq_false_iff, Bool.and_eq_false_iff, beq_eq_false_iff_ne, decide_eq_false_iff_not] at h
  refine ⟨h.1.1.1, ?_, h.1.2, ?_⟩
  · have := h.1.1.2
    omega
  · have := h.2
    omega
theorem pK226 {a k : Nat} (h : a ≠ 226) : pK a k = false := by
  simp [pK, h]
section EI
variable {hE : Hp} {c0 : Nat} {h : Hp} {c n k O P : Nat} {D : Int}
theorem eC.p (e : eC hE c0 h c n k O P D) {h' : Hp} (p : pR h h') : eC hE c0 h' c n k O P D := by
  obtain ⟨⟨e1, e2⟩, e3, ⟨e4, e5, e6⟩, ⟨e7, e8, e9, e10⟩, e11, e12, e13⟩ := e
  obtain ⟨p1, p2, p3, p4, p5, p6⟩ := p
  have r (a : Nat) (ha : a ≠ 226) : hi h' a = hi h a := funext fun x => p1 a x (pK226 ha)
  refine ⟨⟨fun a x q => (p1 a x (eKp q)).trans (e1 a x q), fun a x => (p2 a x).trans (e2 a x)⟩, p3, ⟨fun q => e4 (p5 q), fun q => e5 (p6 q), by omega⟩, ⟨?_, ?_, ?_, e10⟩, ?_, ?_, ?_⟩
  · rw [p1 226 45 (by decide)]; exact e7
  · rw [p1 226 49 (by decide)]; exact e8
  · rw [p1 226 12 (by decide)]; exact e9
  · rw [r 259 (by decide)]; exact e11
  · rw [r 257 (by decide), r 258 (by decide)]; exact e12
  · rw [r 257 (by decide)]; exact e13
theorem eA.p (e : eA hE c0 h c P) {h' : Hp} (p : pR h h') : eA hE c0 h' c P := by
  have a := p.2.2.2.1
  refine ⟨fun q => ?_, by have := e.2; omega⟩
  have := e.1 (p.2.2.2.2.1 q)
  omega
theorem eC.cb (e : eC hE c0 h c n k O P D) (x : eA hE c0 h c P) (b : bO c0 hE) : (c ≤ 822 ∧ c < 420 * (c0 / 420) + 420) ∧ c0 ≤ c := by
  have t := e.2.1.1
  have a := x.2
  have b1 := b.1
  have b2 := b.2
  exact ⟨⟨by omega, by omega⟩, e.2.2.2.2.2.1.1⟩
/-- an order comes -/
theorem eC.emit (e : eC hE c0 h c n k O P D) (cb : c ≤ 830 ∧ c < 420 * (c0 / 420) + 420) {m : Nat} {x y : Int32} (d0 : 0 ≤ D) (d1 : D ≤ 300) (x1 : 2 ≤ x.toInt → 2 ≤ D ∧ x.toInt ≤ 5) (x2 : x.toInt ≠ 0 → x.toInt < 2 → 0 ≤ y.toInt ∧ y.toInt < 9) : Ok (F_X12_emit m h x y) (fun q => eC hE c0 q (c + 1) n k O P (D + (if x.toInt < 2 then 1 else -1)) ∧ hi q 226 11 = hi h 226 11 ∧ hi q 226 13 = hi h 226 13 ∧ (∀ z, hi q 229 z = hi h 229 z)) := by
  obtain ⟨⟨e1, e2⟩, e3, e4, ⟨e7, e8, e9, e10⟩, e11, e12, e13⟩ := e
  have o1 := e12.1
  have f1 := lit_1
  have nc := ncT (show 0 ≤ (hi h 226 45).toInt by omega)
  have ec : Int32.toNatClampNeg (hi h 226 45) = c := by omega
  unfold F_X12_emit
  refine Ok.chk (ixT (by omega) (by omega)) (fun c1 => ?_)
  rw [ec]
  generalize eg : wrI h 257 c x = g
  have g1 : hi g 226 45 = hi h 226 45 := hiA eg 226 45 (by decide)
  rw [g1]
  refine Ok.pos c1 ?_
  rw [ec]
  generalize eg2 : wrI g 258 c y = g2
  have g2' : hi g2 226 45 = hi h 226 45 := (hiA eg2 226 45 (by decide)).trans g1
  rw [g2']
  have a1 := adT (hi h 226 45) 1 (by omega) (by omega)
  generalize eg3 : wrI g2 226 45 (hi h 226 45 + 1) = g3
  have fr (a z : Nat) (n1 : ¬ (a = 257 ∧ z = c)) (n2 : ¬ (a = 258 ∧ z = c)) (n3 : ¬ (a = 226 ∧ z = 45)) : hi g3 a z = hi h a z := by
    rw [← eg3, hi_wrI, if_neg n3, ← eg2, hi_wrI, if_neg n2, ← eg, hi_wrI, if_neg n1]
  have v1 : hi g3 257 c = x := by
    rw [hiA eg3 257 c (by decide), hiA eg2 257 c (by decide)]
    exact hiE eg
  have v2 : hi g3 258 c = y := by
    rw [hiA eg3 258 c (by decide)]
    exact hiE eg2
  have z := oc_ext (g := hi g3 257) (gi := hi g3 258) e12 e13 (fun i _ h2 => fr 257 i (by omega) (by omega) (by omega)) (fun i _ h2 => fr 258 i (by omega) (by omega) (by omega)) (by omega) d0 d1 (by rw [v1]; exact x1) (by rw [v1, v2]; exact x2)
  rw [v1] at z
  have t11 := fr 226 11 (by omega) (by omega) (by omega)
  have t13 := fr 226 13 (by omega) (by omega) (by omega)
  have t15 := fr 226 15 (by omega) (by omega) (by omega)
  have h259 : hi g3 259 = hi h 259 := funext fun z => fr 259 z (by omega) (by omega) (by omega)
  refine Ok.ret ⟨⟨⟨fun a x q => ?_, fun a z => ?_⟩, ?_, ?_, ⟨?_, ?_, ?_, e10⟩, ?_, z.1, z.2⟩, t11, t13, fun z => fr 229 z (by omega) (by omega) (by omega)⟩
  · have w := eKq q
    rw [fr a x (by omega) (by omega) (by omega)]
    exact e1 a x q
  · rw [← e2 a z, ← eg3, ← eg2, ← eg]
    rfl
  · show (0 ≤ (hi g3 226 11).toInt ∧ (hi g3 226 11).toInt ≤ 400) ∧ 0 ≤ (hi g3 226 13).toInt ∧ 0 ≤ (hi g3 226 15).toInt
    rw [t11, t13, t15]
    exact e3
  · rw [t11, t13, t15]
    exact e4
  · rw [hiE eg3]
    omega
  · rw [fr 226 49 (by omega) (by omega) (by omega)]; exact e8
  · rw [fr 226 12 (by omega) (by omega) (by omega)]; exact e9
  · rw [h259]; exact e11
/-- what waits and how many ( are another -/
theorem eC.top (e : eC hE c0 h c n k O P D) {h' : Hp} {n' k' O' P' : Nat} (f : ∀ a z, ¬ (a = 226 ∧ (z = 12 ∨ z = 49)) → a ≠ 259 → hi h' a z = hi h a z) (l : ∀ a z, hl h' a z = hl h a z) (hn : (hi h' 226 49).toInt = n') (ho : (hi h' 226 12).toInt = O') (o7 : O' ≤ 7) (w : wtO (hi h' 259) n' = some (k', O', P')) : eC hE c0 h' c n' k' O' P' D := by
  obtain ⟨⟨e1, e2⟩, e3, e4, ⟨e7, e8, e9, e10⟩, e11, e12, e13⟩ := e
  have r (a : Nat) (h1 : a ≠ 226) (h2 : a ≠ 259) : hi h' a = hi h a := funext fun x => f a x (by omega) h2
  have t11 := f 226 11 (by decide) (by decide)
  have t13 := f 226 13 (by decide) (by decide)
  have t15 := f 226 15 (by decide) (by decide)
  refine ⟨⟨fun a x q => ?_, fun a z => (l a z).trans (e2 a z)⟩, ?_, ?_, ⟨?_, hn, ho, o7⟩, w, ?_, ?_⟩
  · have w := eKq q
    rw [f a x (by omega) w.2.2.1]
    exact e1 a x q
  · show (0 ≤ (hi h' 226 11).toInt ∧ (hi h' 226 11).toInt ≤ 400) ∧ 0 ≤ (hi h' 226 13).toInt ∧ 0 ≤ (hi h' 226 15).toInt
    rw [t11, t13, t15]
    exact e3
  · rw [t11, t13, t15]
    exact e4
  · rw [f 226 45 (by decide) (by decide)]; exact e7
  · rw [r 257 (by decide) (by decide), r 258 (by decide) (by decide)]; exact e12
  · rw [r 257 (by decide) (by decide)]; exact e13
theorem eA.eq {h' : Hp} (x : eA hE c0 h c P) (t : hi h' 226 11 = hi h 226 11) (f : hi h' 226 13 = hi h 226 13) {c' P' : Nat} (s : c' + P' ≤ c + P) : eA hE c0 h' c' P' := by
  unfold eA
  rw [t, f]
  refine ⟨fun q => ?_, ?_⟩
  · have := x.1 q
    omega
  · have := x.2
    omega
end EI
