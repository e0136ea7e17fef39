/-! WHAT A TEXT TELLS, so far -/
abbrev LWS : Type := List ((List Int32 × List Int32) × List Int32) × List Int32
/-- the lawn, tunes (where; beat, offset), goers, ropes, wet and seed, laws -/
abbrev TT : Type := (Int × Int) × (List ((Int × Int) × (Int × Int)) × (List (Int × Int) × (List (Int × Int) × ((Int × Int) × (Nat → Option LWS)))))
def TT.lw (T : TT) : Int × Int := T.1
def TT.tn (T : TT) : List ((Int × Int) × (Int × Int)) := T.2.1
def TT.go (T : TT) : List (Int × Int) := T.2.2.1
def TT.ro (T : TT) : List (Int × Int) := T.2.2.2.1
def TT.ws (T : TT) : Int × Int := T.2.2.2.2.1
def TT.la (T : TT) : Nat → Option LWS := T.2.2.2.2.2
def TT.mk (a : Int × Int) (b : List ((Int × Int) × (Int × Int))) (c d : List (Int × Int)) (e : Int × Int) (f : Nat → Option LWS) : TT := (a, b, c, d, e, f)
/-- ahead of all -/
def TT0 : TT := TT.mk (4, 4) [] [] [] (0, 0) (fun _ => none)
def updL (f : Nat → Option LWS) (k : Nat) (v : LWS) : Nat → Option LWS := fun j => if j = k then some v else f j
/-- one statement -/
def STP (kd vl : Nat → Int) (T : TT) (t : Nat) (T' : TT) (t' : Nat) : Prop :=
  (kd t = 9 ∧ T' = TT.mk (vl (t + 1), vl (t + 2)) T.tn T.go T.ro T.ws T.la ∧ t' = t + 4) ∨
  (kd t = 10 ∧ T' = TT.mk T.lw (T.tn ++ [((vl (t + 1), vl (t + 2)), (vl (t + 3), vl (t + 4)))]) T.go T.ro T.ws T.la ∧ t' = t + 6) ∨
  (kd t = 11 ∧ T' = TT.mk T.lw T.tn (T.go ++ [(vl (t + 2), vl (t + 3))]) T.ro T.ws T.la ∧ t' = t + 5) ∨
  (kd t = 12 ∧ T' = TT.mk T.lw T.tn T.go (T.ro ++ [(vl (t + 1), vl (t + 2))]) T.ws T.la ∧ t' = t + 4) ∨
  (kd t = 17 ∧ T' = TT.mk T.lw T.tn T.go T.ro (vl (t + 1), T.ws.2) T.la ∧ t' = t + 3) ∨
  (kd t = 18 ∧ T' = TT.mk T.lw T.tn T.go T.ro (T.ws.1, vl (t + 1)) T.la ∧ t' = t + 3) ∨
  (13 ≤ kd t ∧ kd t ≤ 16 ∧ ∃ bs f t1, LW (meE kd vl) kd bs (t + 2) f t1 ∧ T' = TT.mk T.lw T.tn T.go T.ro T.ws (updL T.la (kd t - 13).toNat (bs, f)) ∧ t' = t1 + 1)
theorem STP.uniq {kd vl : Nat → Int} {T T1 T2 : TT} {t t1 t2 : Nat} (a : STP kd vl T t T1 t1) (b : STP kd vl T t T2 t2) : T1 = T2 ∧ t1 = t2 := by
  rcases a with ⟨k, e, f⟩ | ⟨k, e, f⟩ | ⟨k, e, f⟩ | ⟨k, e, f⟩ | ⟨k, e, f⟩ | ⟨k, e, f⟩ | ⟨k, k2, bs, g, u, l, e, f⟩ <;> rcases b with ⟨j, x, y⟩ | ⟨j, x, y⟩ | ⟨j, x, y⟩ | ⟨j, x, y⟩ | ⟨j, x, y⟩ | ⟨j, x, y⟩ | ⟨j, j2, bs', g', u', l', x, y⟩ <;> first | (exfalso; omega) | exact ⟨e.trans x.symm, f.trans y.symm⟩ | skip
  obtain ⟨e1, e2, e3⟩ := LW.uniq me_u l l'
  subst e1 e2 e3
  exact ⟨e.trans x.symm, f.trans y.symm⟩
/-- m statements -/
def TLD (kd vl : Nat → Int) : Nat → TT → Nat → TT → Nat → Prop
  | 0, T, t, T', t' => T' = T ∧ t' = t
  | m + 1, T, t, T', t' => ∃ T1 t1, STP kd vl T t T1 t1 ∧ TLD kd vl m T1 t1 T' t'
theorem TLD.uniq {kd vl : Nat → Int} : ∀ {m m' : Nat} {T T1 T2 : TT} {t t1 t2 : Nat}, TLD kd vl m T t T1 t1 → TLD kd vl m' T t T2 t2 → kd t1 = 32 → kd t2 = 32 → T1 = T2 ∧ t1 = t2 := by
  have no {T T' : TT} {t t' : Nat} (a : STP kd vl T t T' t') (e : kd t = 32) : False := by
    rcases a with ⟨k, _⟩ | ⟨k, _⟩ | ⟨k, _⟩ | ⟨k, _⟩ | ⟨k, _⟩ | ⟨k, _⟩ | ⟨k, k2, _⟩ <;> omega
  intro m
  induction m with
  | zero =>
    intro m' T T1 T2 t t1 t2 a b e1 e2
    obtain ⟨a1, a2⟩ := a
    subst a1 a2
    cases m' with
    | zero => exact ⟨b.1.symm, b.2.symm⟩
    | succ m' =>
      obtain ⟨U, u, b1, b2⟩ := b
      exact absurd e1 (fun z => no b1 z)
  | succ m ih =>
    intro m' T T1 T2 t t1 t2 a b e1 e2
    obtain ⟨U, u, a1, a2⟩ := a
    cases m' with
    | zero =>
      obtain ⟨b1, b2⟩ := b
      subst b1 b2
      exact absurd e2 (fun z => no a1 z)
    | succ m' =>
      obtain ⟨V, v, b1, b2⟩ := b
      obtain ⟨x, y⟩ := a1.uniq b1
      subst x y
      exact ih a2 b2 e1 e2
theorem TLD.snoc {kd vl : Nat → Int} : ∀ {m : Nat} {T T1 T2 : TT} {t t1 t2 : Nat}, TLD kd vl m T t T1 t1 → STP kd vl T1 t1 T2 t2 → TLD kd vl (m + 1) T t T2 t2 := by
  intro m
  induction m with
  | zero =>
    intro T T1 T2 t t1 t2 a b
    obtain ⟨a1, a2⟩ := a
    subst a1 a2
    exact ⟨T2, t2, b, rfl, rfl⟩
  | succ m ih =>
    intro T T1 T2 t t1 t2 a b
    obtain ⟨U, u, a1, a2⟩ := a
    exact ⟨U, u, a1, ih a2 b⟩
/-- the last tune told of a spot -/
def lastT (l : List ((Int × Int) × (Int × Int))) (c : Nat) : Option (Int × Int) := l.foldl (fun a x => if x.1.1 + 5 * x.1.2 = (c : Int) then some x.2 else a) none
theorem lastT_snoc {l : List ((Int × Int) × (Int × Int))} {x : (Int × Int) × (Int × Int)} {c : Nat} : lastT (l ++ [x]) c = if x.1.1 + 5 * x.1.2 = (c : Int) then some x.2 else lastT l c := by
  unfold lastT
  rw [List.foldl_append]; rfl
/-- what is told is within bounds -/
def sp5 (p : Int × Int) : Prop := (0 ≤ p.1 ∧ p.1 ≤ 4) ∧ 0 ≤ p.2 ∧ p.2 ≤ 4
def VT (T : TT) : Prop := ((2 ≤ T.lw.1 ∧ T.lw.1 ≤ 5) ∧ 2 ≤ T.lw.2 ∧ T.lw.2 ≤ 5) ∧ (T.tn.length ≤ 8 ∧ ∀ x ∈ T.tn, sp5 x.1 ∧ (2 ≤ x.2.1 ∧ x.2.1 ≤ 6) ∧ 0 ≤ x.2.2 ∧ x.2.2 < x.2.1) ∧ (T.go.length ≤ 5 ∧ ∀ x ∈ T.go, sp5 x) ∧ (T.ro.length ≤ 8 ∧ ∀ x ∈ T.ro, sp5 x) ∧ ((0 ≤ T.ws.1 ∧ T.ws.1 ≤ 100) ∧ 0 ≤ T.ws.2 ∧ T.ws.2 ≤ 9999) ∧ ∀ k b, T.la k = some b → gdB 16 b.1 ∧ gdC 16 b.2
/-! the class's draft -/
/-- a field -/
def FLD (h : Hp) (a w g : Nat) : Prop := (hi h a 0).toInt = (w : Int) ∧ (hi h a 1).toInt = (g : Int) ∧ (∀ i, i < 32 → bt (hi h a 2) i = decide (i < w * g)) ∧ ∀ i, i < 32 → bt (hi h a 3) i = decide (i % w = 0 ∧ i < w * g)
def plW4 (k : Nat) : Int32 := if k = 0 ∨ k = 2 then 0 else 1
/-- a law that isn't told -/
def lawD (f : Nat → Option LWS) (k : Nat) : LWS := (f k).getD ([], [plW4 k])
def ctW (p : Int × Int) (h : Hp) : Prop := FLD h 4 p.1.toNat p.2.toNat
def ctT (l : List ((Int × Int) × (Int × Int))) (h : Hp) : Prop := (hi h 2 13).toInt = (l.length : Int) ∧ ∀ c, c < 25 → (lastT l c = none → (hi h 16 c).toInt = 0) ∧ ∀ q, lastT l c = some q → (hi h 16 c).toInt = q.1 ∧ (hi h 17 c).toInt = q.2
def ctG (l : List (Int × Int)) (h : Hp) : Prop := (hi h 3 2).toInt = (l.length : Int) ∧ ∀ g, g < l.length → (hi h 15 g).toInt = (l.getD g (0, 0)).1 + 5 * (l.getD g (0, 0)).2
def ctR (l : List (Int × Int)) (h : Hp) : Prop := (hi h 2 14).toInt = (l.length : Int) ∧ ∀ c, c < 25 → (bt (hi h 2 12) c = true ↔ ∃ p ∈ l, p.1 + 5 * p.2 = (c : Int))
def ctN (p : Int × Int) (h : Hp) : Prop := (hi h 3 3).toInt = p.1 ∧ (hi h 3 4).toInt = p.2
/-- the laws laid down, S orders in all -/
def ctL (f : Nat → Option LWS) (S : Nat) (h : Hp) : Prop := osN h S ∧ ∀ k, k < 4 → ∃ p : Nat, (hi h 7 k).toInt = (p : Int) ∧ clO (hi h 6) S p (lawD f k).1 (lawD f k).2
def cD (T : TT) (t : Nat) (h : Hp) : Prop := (ctW T.lw h ∧ ctT T.tn h ∧ ctG T.go h ∧ ctR T.ro h ∧ ctN T.ws h) ∧ (∃ S, ctL T.la S h ∧ S ≤ 4 + t) ∧ VT T
section CD
variable {h q : Hp} {A : Nat → Nat → Prop}
theorem ctW.cg {p : Int × Int} (a : ctW p h) (e : ∀ k, hi q 4 k = hi h 4 k) : ctW p q := by
  unfold ctW FLD at *
  rw [e, e, e, e]
  exact a
theorem ctT.cg {l : List ((Int × Int) × (Int × Int))} (a : ctT l h) (e : hi q 2 13 = hi h 2 13) (e1 : ∀ k, hi q 16 k = hi h 16 k) (e2 : ∀ k, hi q 17 k = hi h 17 k) : ctT l q := ⟨by rw [e]; exact a.1, fun c hc => by rw [e1, e2]; exact a.2 c hc⟩
theorem ctG.cg {l : List (Int × Int)} (a : ctG l h) (e : hi q 3 2 = hi h 3 2) (e1 : ∀ k, hi q 15 k = hi h 15 k) : ctG l q := ⟨by rw [e]; exact a.1, fun c hc => by rw [e1]; exact a.2 c hc⟩
theorem ctR.cg {l : List (Int × Int)} (a : ctR l h) (e : hi q 2 14 = hi h 2 14) (e1 : hi q 2 12 = hi h 2 12) : ctR l q := ⟨by rw [e]; exact a.1, fun c hc => by rw [e1]; exact a.2 c hc⟩
theorem ctN.cg {p : Int × Int} (a : ctN p h) (e : hi q 3 3 = hi h 3 3) (e1 : hi q 3 4 = hi h 3 4) : ctN p q := by
  unfold ctN at *
  rw [e, e1]
  exact a
theorem ctL.cg {f : Nat → Option LWS} {S : Nat} (a : ctL f S h) (e : hi q 5 3 = hi h 5 3) (e6 : ∀ k, hi q 6 k = hi h 6 k) (e7 : ∀ k, hi q 7 k = hi h 7 k) : ctL f S q := by
  refine ⟨by unfold osN; rw [e]; exact a.1, fun k hk => ?_⟩
  obtain ⟨p, p1, p2⟩ := a.2 k hk
  exact ⟨p, by rw [e7]; exact p1, p2.cg (Nat.le_refl S) (fun j _ => e6 j)⟩
end CD
/-! the class's field, laid -/
theorem lay_bits : ∀ w, w < 6 → ∀ g, g < 6 → ∀ i, i < 32 → bt (((1 : Int32) <<< (Int32.ofNat (w * g) &&& 31)) - 1) i = decide (i < w * g) := by decide +kernel
theorem fld_loop {a w g : Nat} (hw : 2 ≤ w ∧ w ≤ 5) (hg : 2 ≤ g ∧ g ≤ 5) {l1 l2 : Int32} : ∀ (n : Nat) (h : Hp) (l3 : Int32) (y : Nat), (hi h a 0).toInt = (w : Int) → (hi h a 1).toInt = (g : Int) → l3.toInt = (y : Int) → y ≤ g → (∀ i, i < 32 → bt (hi h a 3) i = decide (i % w = 0 ∧ i < w * y)) → Pc (W_X3_lay n 17 h a l1 l2 l3) (fun q => FLD q a w g ∧ frZ (fun x k => x = a ∧ (k = 2 ∨ k = 3)) h q) := by
  have f1 := lit_1
  have hx : w * g ≤ 25 := Nat.le_trans (Nat.mul_le_mul hw.2 hg.2) (by decide)
  intro n
  induction n with
  | zero => intro h l3 y e0 e1 e3 yg eb; exact Pc.no
  | succ n ih =>
    intro h l3 y e0 e1 e3 yg eb
    rw [u_X3_lay]
    refine Pc.pos rfl ?_
    refine Pc.le (fun c => Pc.ret ?_) (fun c => ?_)
    · have yy : y = g := by omega
      subst yy
      have m := mlT (hi h a 0) (hi h a 1) (w : Int) e0 (by rw [e1]; omega) (by rw [e1, ← Int.natCast_mul]; omega)
      rw [e1, ← Int.natCast_mul] at m
      have em : (hi h a 0 * hi h a 1) = Int32.ofNat (w * y) := by
        have nn : 0 ≤ (hi h a 0 * hi h a 1).toInt := by rw [m]; omega
        have := nc32 nn
        rw [← this]
        congr 1
        have := ncT nn
        omega
      refine ⟨⟨?_, ?_, fun i hi' => ?_, fun i hi' => ?_⟩, frZ.w (frZ.rf h) ⟨rfl, Or.inl rfl⟩⟩
      · rw [hi_wrI, if_neg (by omega)]; exact e0
      · rw [hi_wrI, if_neg (by omega)]; exact e1
      · rw [hi_wrI, if_pos ⟨rfl, rfl⟩, em]
        exact lay_bits w (by omega) y (by omega) i hi'
      · rw [hi_wrI, if_neg (by omega)]
        exact eb i hi'
    · have a1 := adT l3 1 (by omega) (by omega)
      have wy : w * y ≤ 20 := Nat.le_trans (Nat.mul_le_mul hw.2 (show y ≤ 4 by omega)) (by decide)
      have m := mlT (hi h a 0) l3 (w : Int) e0 (by rw [e3]; omega) (by rw [e3, ← Int.natCast_mul]; omega)
      rw [e3, ← Int.natCast_mul] at m
      have nn := ncT (show 0 ≤ (hi h a 0 * l3).toInt by omega)
      have nn' : Int32.toNatClampNeg (hi h a 0 * l3) = w * y := by omega
      refine (ih _ (l3 + 1) (y + 1) ?_ ?_ (by omega) (by omega) (fun i hi' => ?_)).mono (fun q hq => ⟨hq.1, frZ.tr (frZ.w (frZ.rf h) ⟨rfl, Or.inr rfl⟩) hq.2⟩)
      · rw [hi_wrI, if_neg (by omega)]; exact e0
      · rw [hi_wrI, if_neg (by omega)]; exact e1
      · rw [hi_wrI, if_pos ⟨rfl, rfl⟩, bt_or, eb i hi', btL (by omega) (by omega) i, nn']
        have e : w * (y + 1) = w * y + w := by rw [Nat.mul_add, Nat.mul_one]
        rw [e]
        by_cases z : i = w * y
        · subst z
          rw [Nat.mul_mod_right]
          simp
          omega
        · by_cases z1 : i % w = 0
          · by_cases z2 : i < w * y
            · simp [z, z1, z2]; omega
            · have : ¬ i < w * y + w := by
                intro z3
                obtain ⟨d, hd⟩ := Nat.dvd_of_mod_eq_zero z1
                subst hd
                have d1 : y ≤ d := by
                  refine Nat.le_of_not_lt (fun z4 => z2 ?_)
                  exact Nat.mul_lt_mul_of_pos_left z4 (by omega)
                have d2 : d < y + 1 := by
                  refine Nat.lt_of_not_le (fun z4 => ?_)
                  have := Nat.mul_le_mul_left w z4
                  omega
                exact z (by rw [show d = y by omega])
              simp [z, z1, z2, this]
          · simp [z, z1]
theorem fld_lay {n : Nat} {h : Hp} {a w g : Nat} (hw : 2 ≤ w ∧ w ≤ 5) (hg : 2 ≤ g ∧ g ≤ 5) {x1 x2 : Int32} (e1 : x1.toInt = (w : Int)) (e2 : x2.toInt = (g : Int)) : Pc (F_X3_lay n h a x1 x2) (fun q => FLD q a w g ∧ frZ (fun x _ => x = a) h q) := by
  unfold F_X3_lay
  refine (fld_loop hw hg n _ 0 0 ?_ ?_ lit_0 (Nat.zero_le g) (fun i hi' => ?_)).mono (fun q hq => ⟨hq.1, frZ.tr (frZ.w (A := fun x _ => x = a) (frZ.w (A := fun x _ => x = a) (frZ.w (A := fun x _ => x = a) (frZ.rf h) rfl) rfl) rfl) (hq.2.sub (fun x k z => z.1))⟩)
  · rw [hi_wrI, if_neg (by omega), hi_wrI, if_neg (by omega), hi_wrI, if_pos ⟨rfl, rfl⟩]; exact e1
  · rw [hi_wrI, if_neg (by omega), hi_wrI, if_pos ⟨rfl, rfl⟩]; exact e2
  · rw [hi_wrI, if_pos ⟨rfl, rfl⟩, bt_zero]
    simp
