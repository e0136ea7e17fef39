section
/-! A LAW's value, the reference -/
section RV
variable {v : Nat → Int32} {h0 : Hp}
/-- an order as the reference has it -/
def rcO (c : Int32) (k ci : Int32) : Prop := (k.toInt = 0 ∧ 0 ≤ c.toInt ∧ ci = c) ∨ (k.toInt = 1 ∧ -9 ≤ c.toInt ∧ c.toInt < 0 ∧ ci.toInt = -1 - c.toInt) ∨ (k.toInt = 2 ∧ c.toInt = -10) ∨ (k.toInt = 3 ∧ c.toInt = -11) ∨ (k.toInt = 4 ∧ c.toInt = -12) ∨ (k.toInt = 5 ∧ c.toInt = -13)
/-- orders laid down by the reference -/
def rcA (g gi : Nat → Int32) : Nat → List Int32 → Prop
  | _, [] => True
  | p, c :: r => rcO c (g p) (gi p) ∧ rcA g gi (p + 1) r
theorem rcA.cg {g gi g' gi' : Nat → Int32} : ∀ {C : List Int32} {p : Nat}, rcA g gi p C → (∀ k, p ≤ k → k < p + C.length → g' k = g k ∧ gi' k = gi k) → rcA g' gi' p C := by
  intro C
  induction C with
  | nil => intro p _ _; trivial
  | cons x r ih =>
    intro p h e
    have l : (x :: r).length = r.length + 1 := rfl
    refine ⟨?_, ih h.2 (fun k h1 h2 => e k (by omega) (by omega))⟩
    rw [(e p (Nat.le_refl p) (by omega)).1, (e p (Nat.le_refl p) (by omega)).2]
    exact h.1
theorem rcA.app {g gi : Nat → Int32} : ∀ {C D : List Int32} {p : Nat}, rcA g gi p (C ++ D) ↔ rcA g gi p C ∧ rcA g gi (p + C.length) D := by
  intro C
  induction C with
  | nil => intro D p; exact ⟨fun h => ⟨trivial, h⟩, fun h => h.2⟩
  | cons x r ih =>
    intro D p
    have l : p + (x :: r).length = p + 1 + r.length := by simp; omega
    rw [l]
    exact ⟨fun h => ⟨⟨h.1, (ih.mp h.2).1⟩, (ih.mp h.2).2⟩, fun h => ⟨h.1.1, ih.mpr ⟨h.1.2, h.2⟩⟩⟩
/-- what a term's telling changes: the pile, and whether it is broken -/
def trK (h h' : Hp) : Prop := (∀ x k, x ≠ 261 → ¬ (x = 226 ∧ k = 52) → hi h' x k = hi h x k) ∧ ∀ x k, hl h' x k = hl h x k
theorem trK.rf (h : Hp) : trK h h := ⟨fun _ _ _ _ => rfl, fun _ _ => rfl⟩
theorem trK.tr {p q r : Hp} (a : trK p q) (b : trK q r) : trK p r := ⟨fun x k n m => (b.1 x k n m).trans (a.1 x k n m), fun x k => (b.2 x k).trans (a.2 x k)⟩
theorem agr.t {h h' : Hp} (a : agr 261 h h') : trK h h' := ⟨fun x k n _ => a.1 x k n, a.2⟩
theorem trK.b {h h' : Hp} (a : trK h h') (u : Int32) : trK h (wrI h' 226 52 u) := ⟨fun x k n m => by rw [hi_wrI, if_neg m]; exact a.1 x k n m, fun x k => a.2 x k⟩
set_option maxHeartbeats 4000000 in
/-- orders gone through -/
theorem rv_run {l1 l2 : Int32} {S : Nat} (hS : l2.toInt = (S : Int)) (hv : ∀ k, k < 9 → hi h0 260 k = v k) : ∀ (C st : List Int32) (e : Nat) (n : Nat) (h : Hp) (l3 l4 : Int32) (p : Nat), agr 261 h0 h → dpL 400 C st.length = some e → rcA (hi h0 257) (hi h0 258) p C → p + C.length = S → skR (hi h 261) st → l3.toInt = (st.length : Int) → l4.toInt = (p : Int) → (0 < st.length ∨ C ≠ []) → Pc (W_X12_termOf n 5 h l1 l2 l3 l4) (fun q => trK h0 q.2 ∧ ((∃ s, rnV v C st = some s ∧ agr 261 h0 q.2 ∧ skR (hi q.2 261) s ∧ q.1 = hi q.2 261 0) ∨ (rnV v C st = none ∧ q.1 = 0 ∧ hi q.2 226 52 = 1))) := by
  have f0 := lit_0
  have f1 := lit_1
  have f2 := lit_2
  have f3 := lit_3
  have f4 := lit_4
  have f5 := lit_5
  have m1 := lit_m1
  intro C
  induction C with
  | nil =>
    intro st e n h l3 l4 p g d o z s e3 e4 ne
    cases n with
    | zero => exact Pc.no
    | succ n =>
      have lr : ([] : List Int32).length = 0 := rfl
      rw [u_X12_termOf]
      refine Pc.pos rfl ?_
      exact Pc.le (fun _ => Pc.ret ⟨g.t, Or.inl ⟨st, rfl, g, s, rfl⟩⟩) (fun q => by exfalso; omega)
  | cons c r ih =>
    intro st e n h l3 l4 p g d o z s e3 e4 ne
    cases n with
    | zero => exact Pc.no
    | succ n =>
      have lr : (c :: r).length = r.length + 1 := rfl
      have g57 (k : Nat) : hi h 257 k = hi h0 257 k := g.1 257 k (by decide)
      have g58 (k : Nat) : hi h 258 k = hi h0 258 k := g.1 258 k (by decide)
      have g60 (k : Nat) : hi h 260 k = hi h0 260 k := g.1 260 k (by decide)
      have n4 := ncT (show 0 ≤ l4.toInt by omega)
      have n4' : Int32.toNatClampNeg l4 = p := by omega
      obtain ⟨d1, d2⟩ := dpL_cons d
      obtain ⟨o1, o2⟩ := o
      rw [u_X12_termOf, n4', g57, g58]
      refine Pc.pos rfl ?_
      refine Pc.le (fun q => by exfalso; omega) (fun _ => Pc.chk (fun c84 => ?_))
      have p84 := ixO_lt c84
      have a4 := adT l4 1 (by omega) (by omega)
      have nx (s1 : List Int32) (h1 : Hp) (l3' : Int32) (e' : opV v c st = some s1) (x1 : agr 261 h0 h1) (x2 : skR (hi h1 261) s1) (x3 : l3'.toInt = (s1.length : Int)) (x4 : dpL 400 r s1.length = some e) (x5 : 0 < s1.length) : Pc (W_X12_termOf n 5 h1 l1 l2 l3' (l4 + 1)) (fun q => trK h0 q.2 ∧ ((∃ s, rnV v (c :: r) st = some s ∧ agr 261 h0 q.2 ∧ skR (hi q.2 261) s ∧ q.1 = hi q.2 261 0) ∨ (rnV v (c :: r) st = none ∧ q.1 = 0 ∧ hi q.2 226 52 = 1))) := by
        have er : rnV v (c :: r) st = rnV v r s1 := by
          show (opV v c st).bind (rnV v r) = _
          rw [e']; rfl
        rw [er]
        exact ih s1 e n h1 l3' (l4 + 1) (p + 1) x1 x4 o2 (by omega) x2 x3 (by omega) (Or.inl x5)
      unfold rcO at o1
      rcases opV_ok (v := v) (st := st) d1 (by omega) with ⟨q1, q2⟩ | ⟨q1, x, y, t, q2, q3⟩
      · rcases d2 with ⟨k1, k2, k3⟩ | ⟨k1, _⟩
        · refine Pc.le (fun q => by exfalso; omega) (fun _ => ?_)
          have n3 := ncT (show 0 ≤ l3.toInt by omega)
          have n3' : Int32.toNatClampNeg l3 = st.length := by omega
          have a3 := adT l3 1 (by omega) (by omega)
          have sl (u : Int32) : (u :: st).length = st.length + 1 := rfl
          refine Pc.eq (fun q => ?_) (fun q => ?_)
          · refine Pc.chk (fun _ => Pc.chk (fun _ => ?_))
            have ec : hi h0 258 p = c := by
              rcases o1 with ⟨_, _, w⟩ | ⟨w, _⟩ | ⟨w, _⟩ | ⟨w, _⟩ | ⟨w, _⟩ | ⟨w, _⟩
              · exact w
              all_goals (exfalso; omega)
            have c0 : 0 ≤ c.toInt := by omega
            rw [n3', ec]
            rw [if_pos c0] at q2
            exact nx _ _ _ q2 (g.w _ _) (sk_push s) (by rw [sl]; omega) k3 (by rw [sl]; omega)
          · refine Pc.chk (fun _ => Pc.chk (fun _ => Pc.chk (fun _ => ?_)))
            have cn : c.toInt < 0 ∧ (hi h0 258 p).toInt = -1 - c.toInt := by
              rcases o1 with ⟨w, _, _⟩ | ⟨_, _, w⟩ | ⟨w, _⟩ | ⟨w, _⟩ | ⟨w, _⟩ | ⟨w, _⟩
              · exfalso; omega
              · exact w
              all_goals (exfalso; omega)
            have ns := ncT (show 0 ≤ (hi h0 258 p).toInt by omega)
            have ns' : Int32.toNatClampNeg (hi h0 258 p) = (-1 - c.toInt).toNat := by omega
            rw [n3', ns', g60, hv _ (by omega)]
            rw [if_neg (by omega)] at q2
            exact nx _ _ _ q2 (g.w _ _) (sk_push s) (by rw [sl]; omega) k3 (by rw [sl]; omega)
        · exfalso; omega
      · rcases d2 with ⟨k1, _⟩ | ⟨k1, k2, k3⟩
        · exfalso; omega
        · subst q2
          have sl : ((y :: x :: t).length : Int) = t.length + 2 := by simp; omega
          have r3 := rgT l3
          generalize ed1 : (l3 + -1 : Int32) = d1
          generalize ed2 : (d1 - 1 : Int32) = d2
          have b1 := adG ed1 (e3.trans sl) m1 (by omega) (by omega)
          have b2' := sbG ed2 b1 f1 (by omega) (by omega)
          clear ed1 ed2
          have na := ncT (show 0 ≤ d1.toInt by omega)
          have na' : Int32.toNatClampNeg d1 = t.length + 1 := by omega
          have nb := ncT (show 0 ≤ d2.toInt by omega)
          have nb' : Int32.toNatClampNeg d2 = t.length := by omega
          have sy : hi h 261 (t.length + 1) = y := s.1
          have sx : hi h 261 t.length = x := s.2.1
          have k4 (u : Int32) : dpL 400 r (u :: t).length = some e := k3
          have tl (u : Int32) : ((u :: t).length : Int) = t.length + 1 := by simp
          have tl0 (u : Int32) : 0 < (u :: t).length := by simp
          refine Pc.le (fun _ => ?_) (fun q => by exfalso; omega)
          refine Pc.chk (fun _ => Pc.chk (fun _ => ?_))
          rw [na', nb', sy, sx]
          have go (u : Int32) (e' : opV v c (y :: x :: t) = some (u :: t)) : Pc (if ixOK d2 400 = true then W_X12_termOf n 5 (wrI h 261 t.length u) l1 l2 d1 (l4 + 1) else none) (fun q => trK h0 q.2 ∧ ((∃ s, rnV v (c :: r) (y :: x :: t) = some s ∧ agr 261 h0 q.2 ∧ skR (hi q.2 261) s ∧ q.1 = hi q.2 261 0) ∨ (rnV v (c :: r) (y :: x :: t) = none ∧ q.1 = 0 ∧ hi q.2 226 52 = 1))) :=
            Pc.chk (fun _ => nx _ _ _ e' (g.w _ _) (sk_op s) (by rw [tl]; omega) (k4 u) (tl0 u))
          refine Pc.eq (fun q => ?_) (fun q => ?_)
          · refine Pc.eq (fun q5 => ?_) (fun q5 => ?_)
            · have y0 : y = 0 := Int32.toInt_inj.mp q5
              have nn : rnV v (c :: r) (y :: x :: t) = none := by
                show (opV v c (y :: x :: t)).bind (rnV v r) = _
                rcases q3 with ⟨w1, w2, w3⟩ | ⟨w1, w2, w3⟩ | ⟨w1, w3⟩ | ⟨w1, w3⟩ | ⟨w1, w3⟩
                · rw [w3]; rfl
                · exact absurd y0 w2
                all_goals (exfalso; omega)
              exact Pc.ret ⟨g.t.b 1, Or.inr ⟨nn, rfl, hiE rfl⟩⟩
            · have y0 : y ≠ 0 := fun z => q5 (by rw [z])
              refine Pc.eq (fun q => by exfalso; omega) (fun _ => ?_)
              refine Pc.eq (fun q => by exfalso; omega) (fun _ => ?_)
              refine Pc.eq (fun q => by exfalso; omega) (fun _ => ?_)
              refine Pc.eq (fun q => absurd q q5) (fun _ => ?_)
              rcases q3 with ⟨w1, w2, w3⟩ | ⟨w1, w2, w3⟩ | ⟨w1, w3⟩ | ⟨w1, w3⟩ | ⟨w1, w3⟩
              · exact absurd w2 y0
              · exact go _ w3
              all_goals (exfalso; omega)
          · refine Pc.eq (fun q2 => ?_) (fun q2 => ?_)
            · rcases q3 with ⟨w1, w2, w3⟩ | ⟨w1, w2, w3⟩ | ⟨w1, w3⟩ | ⟨w1, w3⟩ | ⟨w1, w3⟩
              · exfalso; omega
              · exfalso; omega
              · exfalso; omega
              · exfalso; omega
              · exact go _ w3
            · refine Pc.eq (fun q2 => ?_) (fun q2 => ?_)
              · rcases q3 with ⟨w1, w2, w3⟩ | ⟨w1, w2, w3⟩ | ⟨w1, w3⟩ | ⟨w1, w3⟩ | ⟨w1, w3⟩
                · exfalso; omega
                · exfalso; omega
                · exfalso; omega
                · exact go _ w3
                · exfalso; omega
              · refine Pc.eq (fun q2 => ?_) (fun q2 => ?_)
                · rcases q3 with ⟨w1, w2, w3⟩ | ⟨w1, w2, w3⟩ | ⟨w1, w3⟩ | ⟨w1, w3⟩ | ⟨w1, w3⟩
                  · exfalso; omega
                  · exfalso; omega
                  · exact go _ w3
                  · exfalso; omega
                  · exfalso; omega
                · exfalso; omega
/-- a term, as it is told -/
theorem rv_term {n : Nat} {h : Hp} {x1 x2 : Int32} {p : Nat} {C : List Int32} (hv : ∀ k, k < 9 → hi h 260 k = v k) (gd : gdC 400 C) (o : rcA (hi h 257) (hi h 258) p C) (e1 : x1.toInt = (p : Int)) (e2 : x2.toInt = (p : Int) + C.length) : Pc (F_X12_termOf n h x1 x2) (fun q => trK h q.2 ∧ ((∃ x, rnV v C [] = some [x] ∧ q.1 = x ∧ hi q.2 226 52 = hi h 226 52) ∨ (rnV v C [] = none ∧ hi q.2 226 52 = 1))) := by
  have f0 := lit_0
  unfold F_X12_termOf
  have cn : C ≠ [] := fun z => by
    rw [z] at gd
    have gd' : (some 0 : Option Nat) = some 1 := gd
    exact absurd gd' (by decide)
  refine (rv_run (S := p + C.length) (by omega) hv C [] 1 n h 0 x1 p (agr.rf 261 h) gd o rfl trivial f0 e1 (Or.inr cn)).mono (fun q hq => ⟨hq.1, ?_⟩)
  rcases hq.2 with ⟨s, s1, s2, s3, s4⟩ | ⟨s1, s2, s3⟩
  · left
    have sl := rnV_len (st := []) gd s1
    rcases s with _ | ⟨x, _ | ⟨u, t⟩⟩
    · exact absurd sl (by simp)
    rotate_left
    · exact absurd sl (by simp)
    · exact ⟨x, s1, by rw [s4]; exact s3.1, s2.1 226 52 (by decide)⟩
  · exact Or.inr ⟨s1, s3⟩
theorem dpL_mono {m m' : Nat} (hm : m ≤ m') : ∀ {C : List Int32} {d e : Nat}, dpL m C d = some e → dpL m' C d = some e := by
  intro C
  induction C with
  | nil => intro d e h; exact h
  | cons c r ih =>
    intro d e h
    obtain ⟨g1, g2⟩ := dpL_cons h
    show (if -13 ≤ c.toInt then (if -9 ≤ c.toInt then (if d < m' then dpL m' r (d + 1) else none) else if 2 ≤ d then dpL m' r (d - 1) else none) else none) = some e
    rw [if_pos g1]
    rcases g2 with ⟨k1, k2, k3⟩ | ⟨k1, k2, k3⟩
    · rw [if_pos k1, if_pos (by omega)]; exact ih k3
    · rw [if_neg (by omega), if_pos k2]; exact ih k3
theorem gdC.up {C : List Int32} (h : gdC 16 C) : gdC 400 C := dpL_mono (by decide) h
/-- what is laid down of a law by the reference, from branch B on; U: no code from there on -/
def rlB (h : Hp) (U : Nat) : Nat → List ((List Int32 × List Int32) × List Int32) → List Int32 → Prop
  | B, [], f => (vp_nar .boolean (hi h 252 B)).toInt = 0 ∧ ∃ p : Nat, (hi h 255 B).toInt = (p : Int) ∧ (hi h 256 B).toInt = (p : Int) + f.length ∧ rcA (hi h 257) (hi h 258) p f ∧ p + f.length ≤ U
  | B, ((x, y), c) :: r, f => ((vp_nar .boolean (hi h 252 B)).toInt ≠ 0 ∧ ∃ p : Nat, (hi h 253 B).toInt = (p : Int) ∧ (hi h 254 B).toInt = (p : Int) + x.length ∧ (hi h 255 B).toInt = ((p + x.length : Nat) : Int) + y.length ∧ (hi h 256 B).toInt = ((p + x.length + y.length : Nat) : Int) + c.length ∧ rcA (hi h 257) (hi h 258) p x ∧ rcA (hi h 257) (hi h 258) (p + x.length) y ∧ rcA (hi h 257) (hi h 258) (p + x.length + y.length) c ∧ p + x.length + y.length + c.length ≤ U) ∧ rlB h U (B + 1) r f
theorem rlB.cg {h h' : Hp} {U U' : Nat} (hU : U ≤ U') : ∀ {bs : List ((List Int32 × List Int32) × List Int32)} {B : Nat} {f : List Int32}, (∀ a k, 252 ≤ a → a ≤ 256 → B ≤ k → k ≤ B + bs.length → hi h' a k = hi h a k) → (∀ k, k < U → hi h' 257 k = hi h 257 k ∧ hi h' 258 k = hi h 258 k) → rlB h U B bs f → rlB h' U' B bs f := by
  intro bs
  induction bs with
  | nil =>
    intro B f e1 e2 o
    unfold rlB at o ⊢
    have l : B ≤ B + ([] : List ((List Int32 × List Int32) × List Int32)).length := Nat.le_add_right _ _
    rw [e1 252 B (by decide) (by decide) (Nat.le_refl B) l, e1 255 B (by decide) (by decide) (Nat.le_refl B) l, e1 256 B (by decide) (by decide) (Nat.le_refl B) l]
    obtain ⟨o1, p, o2, o3, o4, o5⟩ := o
    exact ⟨o1, p, o2, o3, o4.cg (fun k _ h2 => e2 k (by omega)), by omega⟩
  | cons b t ih =>
    intro B f e1 e2 o
    obtain ⟨⟨x, y⟩, c⟩ := b
    unfold rlB at o ⊢
    have l0 : (((x, y), c) :: t).length = t.length + 1 := rfl
    have l : B ≤ B + (((x, y), c) :: t).length := Nat.le_add_right _ _
    rw [e1 252 B (by decide) (by decide) (Nat.le_refl B) l, e1 253 B (by decide) (by decide) (Nat.le_refl B) l, e1 254 B (by decide) (by decide) (Nat.le_refl B) l, e1 255 B (by decide) (by decide) (Nat.le_refl B) l, e1 256 B (by decide) (by decide) (Nat.le_refl B) l]
    obtain ⟨⟨o1, p, o2, o3, o4, o5, o6, o7, o8, o9⟩, o10⟩ := o
    exact ⟨⟨o1, p, o2, o3, o4, o5, o6.cg (fun k _ h2 => e2 k (by omega)), o7.cg (fun k _ h2 => e2 k (by omega)), o8.cg (fun k _ h2 => e2 k (by omega)), by omega⟩, ih (fun a k h1 h2 h3 h4 => e1 a k h1 h2 (by omega) (by omega)) e2 o10⟩
set_option maxHeartbeats 2000000 in
/-- a law from a branch on -/
theorem rv_law {U : Nat} {l1 l2 l3 : Int32} {f : List Int32} (gf : gdC 16 f) (hv : ∀ k, k < 9 → hi h0 260 k = v k) {E : Nat} {i : Nat} (hi3 : l3.toInt = (i : Int)) (hE : (hi h0 251 i).toInt = (E : Int)) : ∀ (bs : List ((List Int32 × List Int32) × List Int32)) (n : Nat) (h : Hp) (l4 : Int32) (B : Nat), gdB 16 bs → trK h0 h → (vp_nar .boolean (hi h 226 52)).toInt = 0 → rlB h0 U B bs f → B + bs.length + 1 = E → l4.toInt = (B : Int) → Pc (W_X12_lawTells n 39 h l1 l2 l3 l4) (fun q => trK h0 q.2 ∧ q.1 = lwV v bs f) := by
  have f0 := lit_0
  have f1 := lit_1
  have b1 : (vp_nar .boolean (1 : Int32)).toInt = 1 := by decide
  have rE := rgT (hi h0 251 i)
  intro bs
  induction bs with
  | nil =>
    intro n h l4 B gb t br o eE e4
    cases n with
    | zero => exact Pc.no
    | succ n =>
      have lr : ([] : List ((List Int32 × List Int32) × List Int32)).length = 0 := rfl
      have n4 := ncT (show 0 ≤ l4.toInt by omega)
      have n4' : Int32.toNatClampNeg l4 = B := by omega
      have n3 := ncT (show 0 ≤ l3.toInt by omega)
      have n3' : Int32.toNatClampNeg l3 = i := by omega
      have ta (a k : Nat) (x1 : a ≠ 261) (x2 : a ≠ 226) : hi h a k = hi h0 a k := t.1 a k x1 (fun z => x2 z.1)
      obtain ⟨o1, p, o2, o3, o4, -⟩ := o
      rw [u_X12_lawTells, n3', n4', ta 251 i (by decide) (by decide), ta 252 B (by decide) (by decide), ta 255 B (by decide) (by decide), ta 256 B (by decide) (by decide)]
      refine Pc.pos rfl (Pc.chk (fun _ => ?_))
      refine Pc.le (fun q => by exfalso; omega) (fun _ => Pc.chk (fun _ => ?_))
      refine Pc.eq (fun _ => ?_) (fun q => by exfalso; omega)
      refine Pc.chk (fun _ => Pc.chk (fun _ => ?_))
      refine Pc.bind (rv_term (v := v) (p := p) (C := f) (fun k hk => by rw [ta 260 k (by decide) (by decide)]; exact hv k hk) gf.up (o4.cg (fun k _ _ => ⟨ta 257 k (by decide) (by decide), ta 258 k (by decide) (by decide)⟩)) o2 o3) (fun q7 h7 => ?_)
      obtain ⟨k1, k2⟩ := h7
      rcases k2 with ⟨x, x1, x2, x3⟩ | ⟨x1, x2⟩
      · rw [x3]
        refine Pc.eq (fun _ => Pc.ret ⟨t.tr k1, ?_⟩) (fun q => by exfalso; omega)
        show q7.1 = lwV v [] f
        unfold lwV
        rw [x1]; exact x2
      · rw [x2]
        refine Pc.eq (fun q => by exfalso; omega) (fun _ => Pc.ret ⟨t.tr k1, ?_⟩)
        show (0 : Int32) = lwV v [] f
        unfold lwV
        rw [x1]
  | cons b r ih =>
    intro n h l4 B gb t br o eE e4
    obtain ⟨⟨x, y⟩, c⟩ := b
    have gd := gb _ (List.mem_cons_self ..)
    have gr : gdB 16 r := fun b hb => gb b (List.mem_cons_of_mem _ hb)
    cases n with
    | zero => exact Pc.no
    | succ n =>
      have lr : (((x, y), c) :: r).length = r.length + 1 := rfl
      have n4 := ncT (show 0 ≤ l4.toInt by omega)
      have n4' : Int32.toNatClampNeg l4 = B := by omega
      have n3 := ncT (show 0 ≤ l3.toInt by omega)
      have n3' : Int32.toNatClampNeg l3 = i := by omega
      have ta {g : Hp} (t : trK h0 g) (a k : Nat) (x1 : a ≠ 261) (x2 : a ≠ 226) : hi g a k = hi h0 a k := t.1 a k x1 (fun z => x2 z.1)
      obtain ⟨⟨o1, p, o2, o3, o4, o5, o6, o7, o8, -⟩, o9⟩ := o
      rw [u_X12_lawTells, n3', n4', ta t 251 i (by decide) (by decide), ta t 252 B (by decide) (by decide), ta t 253 B (by decide) (by decide), ta t 254 B (by decide) (by decide)]
      refine Pc.pos rfl (Pc.chk (fun _ => ?_))
      refine Pc.le (fun q => by exfalso; omega) (fun c4 => Pc.chk (fun _ => ?_))
      refine Pc.eq (fun q => by exfalso; omega) (fun _ => ?_)
      refine Pc.chk (fun _ => Pc.chk (fun _ => ?_))
      have tm {g : Hp} (t : trK h0 g) {C : List Int32} {p : Nat} (gd : gdC 16 C) (oo : rcA (hi h0 257) (hi h0 258) p C) {x1 x2 : Int32} (e1 : x1.toInt = (p : Int)) (e2 : x2.toInt = (p : Int) + C.length) {n : Nat} : Pc (F_X12_termOf n g x1 x2) (fun q => trK g q.2 ∧ ((∃ x, rnV v C [] = some [x] ∧ q.1 = x ∧ hi q.2 226 52 = hi g 226 52) ∨ (rnV v C [] = none ∧ hi q.2 226 52 = 1))) :=
        rv_term (fun k hk => by rw [ta t 260 k (by decide) (by decide)]; exact hv k hk) gd.up (oo.cg (fun k _ _ => ⟨ta t 257 k (by decide) (by decide), ta t 258 k (by decide) (by decide)⟩)) e1 e2
      refine Pc.bind (tm t gd.1 o6 o2 o3) (fun q12 h12 => ?_)
      obtain ⟨k1, k2⟩ := h12
      have t12 := t.tr k1
      rw [ta t12 254 B (by decide) (by decide), ta t12 255 B (by decide) (by decide)]
      refine Pc.chk (fun _ => Pc.chk (fun _ => ?_))
      refine Pc.bind (tm t12 gd.2.2.1 o7 (by omega) o4) (fun q16 h16 => ?_)
      obtain ⟨j1, j2⟩ := h16
      have t16 := t12.tr j1
      have ap : rnV v (x ++ y) [] = (rnV v x []).bind (rnV v y) := rnV_app
      have bl (u : Int32) : rnV v y [u] = (rnV v y []).map (fun s => s ++ [u]) := rnV_below (st := []) gd.2.2.1
      rcases k2 with ⟨u, u1, u2, u3⟩ | ⟨u1, u2⟩
      · rcases j2 with ⟨w, w1, w2, w3⟩ | ⟨w1, w2⟩
        · have e : rnV v (x ++ y) [] = some [w, u] := by
            rw [ap, u1]
            show rnV v y [u] = _
            rw [bl, w1]; rfl
          rw [w3, u3]
          refine Pc.eq (fun _ => ?_) (fun q => by exfalso; omega)
          unfold lwV
          rw [e]
          simp only
          rw [u2, w2]
          refine Pc.lt (fun q => ?_) (fun q => ?_)
          · rw [if_pos q, ta t16 255 B (by decide) (by decide), ta t16 256 B (by decide) (by decide)]
            refine Pc.chk (fun _ => Pc.chk (fun _ => ?_))
            refine Pc.bind (tm t16 gd.2.2.2 o8 (by omega) o5) (fun q22 h22 => ?_)
            obtain ⟨i1, i2⟩ := h22
            rcases i2 with ⟨z, z1, z2, z3⟩ | ⟨z1, z2⟩
            · rw [z3, w3, u3]
              refine Pc.eq (fun _ => Pc.ret ⟨t16.tr i1, ?_⟩) (fun q => by exfalso; omega)
              rw [z1]; exact z2
            · rw [z2]
              refine Pc.eq (fun q => by exfalso; omega) (fun _ => Pc.ret ⟨t16.tr i1, ?_⟩)
              rw [z1]
          · rw [if_neg (by omega)]
            have a4 := adT l4 1 (by omega) (by omega)
            exact ih n _ _ _ gr t16 (by rw [w3, u3]; exact br) o9 (by omega) (by omega)
        · have e : rnV v (x ++ y) [] = none := by
            rw [ap, u1]
            show rnV v y [u] = _
            rw [bl, w1]; rfl
          rw [w2]
          refine Pc.eq (fun q => by exfalso; omega) (fun _ => Pc.ret ⟨t16, ?_⟩)
          show (0 : Int32) = lwV v (((x, y), c) :: r) f
          unfold lwV
          rw [e]
      · have e : rnV v (x ++ y) [] = none := by
          rw [ap, u1]; rfl
        -- what is broken stays so
        have z : hi q16.2 226 52 = 1 := by
          rcases j2 with ⟨w, w1, w2, w3⟩ | ⟨w1, w2⟩
          · rw [w3, u2]
          · exact w2
        rw [z]
        refine Pc.eq (fun q => by exfalso; omega) (fun _ => Pc.ret ⟨t16, ?_⟩)
        show (0 : Int32) = lwV v (((x, y), c) :: r) f
        unfold lwV
        rw [e]
/-- a law of the reference's: not told, or laid down -/
def rlO (h : Hp) (U : Nat) (i : Nat) (pl : Int32) (bs : List ((List Int32 × List Int32) × List Int32)) (f : List Int32) : Prop := ((hi h 250 i).toInt = (hi h 251 i).toInt ∧ bs = [] ∧ f = [pl] ∧ 0 ≤ pl.toInt) ∨ ∃ B : Nat, (hi h 250 i).toInt = (B : Int) ∧ (hi h 251 i).toInt = (B : Int) + bs.length + 1 ∧ rlB h U B bs f
theorem rv_tells {n U : Nat} {h : Hp} {x1 x2 : Int32} {k L : Nat} {bs : List ((List Int32 × List Int32) × List Int32)} {f : List Int32} (gf : gdC 16 f) (gb : gdB 16 bs) (hv : ∀ k, k < 9 → hi h 260 k = v k) (e1 : x1.toInt = (k : Int)) (k4 : k < 4) (eL : (hi h 226 18).toInt = (L : Int)) (L1 : L ≤ 1) (o : rlO h U (4 * L + k) x2 bs f) : Pc (F_X12_lawTells n h x1 x2) (fun q => trK h q.2 ∧ q.1 = lwV v bs f) := by
  have f0 := lit_0
  have f4 := lit_4
  have m4 := mlT 4 (hi h 226 18) 4 f4 (by omega) (by omega)
  have a1 := adT (4 * hi h 226 18) x1 (by omega) (by omega)
  have n1 := ncT (show 0 ≤ (4 * hi h 226 18 + x1).toInt by omega)
  have n1' : Int32.toNatClampNeg (4 * hi h 226 18 + x1) = 4 * L + k := by omega
  unfold F_X12_lawTells
  rw [n1']
  refine Pc.chk (fun _ => Pc.chk (fun _ => ?_))
  rcases o with ⟨o1, o2, o3, o4⟩ | ⟨B, o1, o2, o3⟩
  · refine Pc.eq (fun _ => Pc.ret ⟨trK.rf h, ?_⟩) (fun q => absurd o1 q)
    subst o2 o3
    show x2 = lwV v [] [x2]
    unfold lwV
    have : rnV v [x2] [] = some [x2] := by
      show (opV v x2 []).bind (rnV v []) = _
      unfold opV
      rw [if_pos (by omega), if_pos o4]; rfl
    rw [this]
  · refine Pc.eq (fun q => by exfalso; omega) (fun _ => Pc.chk (fun _ => ?_))
    have b0 : (vp_nar .boolean (0 : Int32)).toInt = 0 := by decide
    refine (rv_law (h0 := wrI h 226 52 0) (E := B + bs.length + 1) (i := 4 * L + k) gf (fun k hk => hv k hk) (by omega) (by
      rw [hi_wrI, if_neg (by omega)]; omega) bs n _ _ B gb (trK.rf _) (by rw [hiE rfl]; exact b0) (o3.cg (Nat.le_refl U) (fun a k x1 x2 _ _ => by rw [hi_wrI, if_neg (by omega)]) (fun k _ => ⟨by rw [hi_wrI, if_neg (by omega)], by rw [hi_wrI, if_neg (by omega)]⟩)) rfl (by rw [hi_wrI, if_neg (by omega)]; exact o1)).mono (fun q hq => ⟨?_, hq.2⟩)
    exact ⟨fun x k y1 y2 => by rw [hq.1.1 x k y1 y2, hi_wrI, if_neg y2], fun x k => hq.1.2 x k⟩
end RV
end
section
/-! SUMS AS ORDERS: by going down, and by what waits -/
def opc (w : Int) : Int32 := if w = 43 then -10 else if w = 45 then -11 else if w = 42 then -12 else -13
def stB (w : Int) : Bool := decide (w = 42 ∨ w = 47)
def wl (w : Int) : List Int32 := if w = 0 then [] else [opc w]
/-- what comes out of those that wait -/
def popW (s : Bool) : List Int → List Int32 × List Int
  | [] => ([], [])
  | w :: r => if w = 40 ∨ (s = true ∧ (w = 43 ∨ w = 45)) then ([], w :: r) else (opc w :: (popW s r).1, (popW s r).2)
/-- by what waits: the orders, and where it ends -/
def mE (kd vl : Nat → Int) : Nat → Bool → List Int → Nat → Option (List Int32 × Nat)
  | 0 => fun _ _ _ => none
  | k + 1 => fun u W t =>
    if u = true then
      (if kd t = 30 then (mE kd vl k false W (t + 1)).map (fun r => (Int32.ofInt (vl t) :: r.1, r.2))
      else if 0 ≤ kd t ∧ kd t < 9 then (mE kd vl k false W (t + 1)).map (fun r => (Int32.ofInt (-1 - kd t) :: r.1, r.2))
      else if kd t = 40 then mE kd vl k true (40 :: W) (t + 1) else none)
    else (if kd t = 42 ∨ kd t = 43 ∨ kd t = 45 ∨ kd t = 47 then (mE kd vl k true (kd t :: (popW (stB (kd t)) W).2) (t + 1)).map (fun r => ((popW (stB (kd t)) W).1 ++ r.1, r.2))
      else if (popW false W).2 = [] then some ((popW false W).1, t)
      else if kd t = 41 then (mE kd vl k false ((popW false W).2.tail) (t + 1)).map (fun r => ((popW false W).1 ++ r.1, r.2)) else none)
def ME (kd vl : Nat → Int) (u : Bool) (W : List Int) (t : Nat) (r : List Int32 × Nat) : Prop := ∃ k, mE kd vl k u W t = some r
theorem map_up {α β : Type} {a b : Option α} {f : α → β} {r : β} (h : ∀ y, a = some y → b = some y) (e : a.map f = some r) : b.map f = some r := by
  cases a with
  | none => cases e
  | some y => rw [h y rfl]; exact e
theorem mE_up {kd vl : Nat → Int} : ∀ (k : Nat) (u : Bool) (W : List Int) (t : Nat) (r : List Int32 × Nat), mE kd vl k u W t = some r → mE kd vl (k + 1) u W t = some r := by
  intro k
  induction k with
  | zero => intro u W t r e; cases e
  | succ k ih =>
    intro u W t r e
    unfold mE at e ⊢
    by_cases h1 : u = true
    · rw [if_pos h1] at e ⊢
      by_cases h2 : kd t = 30
      · rw [if_pos h2] at e ⊢
        exact map_up (ih _ _ _) e
      · rw [if_neg h2] at e ⊢
        by_cases h3 : 0 ≤ kd t ∧ kd t < 9
        · rw [if_pos h3] at e ⊢
          exact map_up (ih _ _ _) e
        · rw [if_neg h3] at e ⊢
          by_cases h4 : kd t = 40
          · rw [if_pos h4] at e ⊢
            exact ih _ _ _ _ e
          · rw [if_neg h4] at e; cases e
    · rw [if_neg h1] at e ⊢
      by_cases h2 : kd t = 42 ∨ kd t = 43 ∨ kd t = 45 ∨ kd t = 47
      · rw [if_pos h2] at e ⊢
        exact map_up (ih _ _ _) e
      · rw [if_neg h2] at e ⊢
        by_cases h3 : (popW false W).2 = []
        · rw [if_pos h3] at e ⊢
          exact e
        · rw [if_neg h3] at e ⊢
          by_cases h4 : kd t = 41
          · rw [if_pos h4] at e ⊢
            exact map_up (ih _ _ _) e
          · rw [if_neg h4] at e; cases e
theorem mE_le {kd vl : Nat → Int} {u : Bool} {W : List Int} {t : Nat} {r : List Int32 × Nat} : ∀ (j k : Nat), mE kd vl k u W t = some r → mE kd vl (k + j) u W t = some r := by
  intro j
  induction j with
  | zero => intro k e; exact e
  | succ j ih => intro k e; exact mE_up _ _ _ _ _ (ih k e)
theorem ME.uniq {kd vl : Nat → Int} {u : Bool} {W : List Int} {t : Nat} {r r' : List Int32 × Nat} (a : ME kd vl u W t r) (b : ME kd vl u W t r') : r = r' := by
  obtain ⟨k, a⟩ := a
  obtain ⟨j, b⟩ := b
  have x := mE_le j k a
  have y := mE_le k j b
  rw [Nat.add_comm] at y
  rw [x] at y
  exact Option.some.inj y
section ME
variable {kd vl : Nat → Int} {W : List Int} {t t' : Nat} {C : List Int32}
theorem ME.num (h : kd t = 30) (a : ME kd vl false W (t + 1) (C, t')) : ME kd vl true W t (Int32.ofInt (vl t) :: C, t') := by
  obtain ⟨k, a⟩ := a
  refine ⟨k + 1, ?_⟩
  unfold mE
  rw [if_pos rfl, if_pos h, a]; rfl
theorem ME.var (h : 0 ≤ kd t ∧ kd t < 9) (a : ME kd vl false W (t + 1) (C, t')) : ME kd vl true W t (Int32.ofInt (-1 - kd t) :: C, t') := by
  obtain ⟨k, a⟩ := a
  refine ⟨k + 1, ?_⟩
  unfold mE
  rw [if_pos rfl, if_neg (by omega), if_pos h, a]; rfl
theorem ME.lp (h : kd t = 40) (a : ME kd vl true (40 :: W) (t + 1) (C, t')) : ME kd vl true W t (C, t') := by
  obtain ⟨k, a⟩ := a
  refine ⟨k + 1, ?_⟩
  unfold mE
  rw [if_pos rfl, if_neg (by omega), if_neg (by omega), if_pos h, a]
theorem ME.op (h : isOp (kd t)) (a : ME kd vl true (kd t :: (popW (stB (kd t)) W).2) (t + 1) (C, t')) : ME kd vl false W t ((popW (stB (kd t)) W).1 ++ C, t') := by
  obtain ⟨k, a⟩ := a
  refine ⟨k + 1, ?_⟩
  unfold mE
  rw [if_neg (by decide), if_pos (op_d h), a]; rfl
theorem ME.fin (h : ¬ isOp (kd t)) (z : (popW false W).2 = []) : ME kd vl false W t ((popW false W).1, t) := by
  refine ⟨1, ?_⟩
  unfold mE
  rw [if_neg (by decide), if_neg (op_n h), if_pos z]
theorem ME.rp (h : kd t = 41) (z : (popW false W).2 ≠ []) (a : ME kd vl false ((popW false W).2.tail) (t + 1) (C, t')) : ME kd vl false W t ((popW false W).1 ++ C, t') := by
  obtain ⟨k, a⟩ := a
  refine ⟨k + 1, ?_⟩
  unfold mE
  rw [if_neg (by decide), if_neg (by omega), if_neg z, if_pos h, a]; rfl
/-- of one that goes on from a unit's end: what is due there -/
theorem ME.inv {r : List Int32 × Nat} (a : ME kd vl false W t r) : (isOp (kd t) ∧ ∃ C, ME kd vl true (kd t :: (popW (stB (kd t)) W).2) (t + 1) (C, r.2) ∧ r.1 = (popW (stB (kd t)) W).1 ++ C) ∨ (¬ isOp (kd t) ∧ (popW false W).2 = [] ∧ r = ((popW false W).1, t)) ∨ (¬ isOp (kd t) ∧ (popW false W).2 ≠ [] ∧ kd t = 41 ∧ ∃ C, ME kd vl false ((popW false W).2.tail) (t + 1) (C, r.2) ∧ r.1 = (popW false W).1 ++ C) := by
  obtain ⟨k, a⟩ := a
  cases k with
  | zero => cases a
  | succ k =>
    unfold mE at a
    rw [if_neg (by decide)] at a
    by_cases h2 : kd t = 42 ∨ kd t = 43 ∨ kd t = 45 ∨ kd t = 47
    · rw [if_pos h2] at a
      obtain ⟨x, x1, x2⟩ := Option.map_eq_some_iff.mp a
      exact Or.inl ⟨h2, x.1, ⟨k, by rw [← x2]; exact x1⟩, by rw [← x2]⟩
    · rw [if_neg h2] at a
      by_cases h3 : (popW false W).2 = []
      · rw [if_pos h3] at a
        exact Or.inr (Or.inl ⟨h2, h3, (Option.some.inj a).symm⟩)
      · rw [if_neg h3] at a
        by_cases h4 : kd t = 41
        · rw [if_pos h4] at a
          obtain ⟨x, x1, x2⟩ := Option.map_eq_some_iff.mp a
          exact Or.inr (Or.inr ⟨h2, h3, h4, x.1, ⟨k, by rw [← x2]; exact x1⟩, by rw [← x2]⟩)
        · rw [if_neg h4] at a; cases a
end ME
/-- what going down asks: 0 a unit, 1 what follows one (w waits), 2 a sum; within d ( -/
def RDc (kd vl : Nat → Int) (P : Nat → Int → Nat → Nat → List Int32 → Nat → Prop) : Prop :=
  (∀ w d t, kd t = 30 → P 0 w d t [Int32.ofInt (vl t)] (t + 1)) ∧
  (∀ w d t, 0 ≤ kd t ∧ kd t < 9 → P 0 w d t [Int32.ofInt (-1 - kd t)] (t + 1)) ∧
  (∀ w d t C t1, kd t = 40 → d < 6 → P 2 0 (d + 1) (t + 1) C t1 → kd t1 = 41 → P 0 w d t C (t1 + 1)) ∧
  (∀ w d t C t1 D t2, (kd t = 42 ∨ kd t = 47) → P 0 0 d (t + 1) C t1 → P 1 w d t1 D t2 → P 1 w d t (C ++ opc (kd t) :: D) t2) ∧
  (∀ w d t C t1 D t2, (kd t = 43 ∨ kd t = 45) → P 0 0 d (t + 1) C t1 → P 1 (kd t) d t1 D t2 → P 1 w d t (wl w ++ (C ++ D)) t2) ∧
  (∀ w d t, ¬ isOp (kd t) → P 1 w d t (wl w) t) ∧
  (∀ w d t C t1 D t2, P 0 0 d t C t1 → P 1 0 d t1 D t2 → P 2 w d t (C ++ D) t2)
def RD (kd vl : Nat → Int) (m : Nat) (w : Int) (d t : Nat) (C : List Int32) (t' : Nat) : Prop := ∀ P, RDc kd vl P → P m w d t C t'
section RD
variable {kd vl : Nat → Int} {w : Int} {d t t1 t2 : Nat} {C D : List Int32}
theorem RD.num (h : kd t = 30) : RD kd vl 0 w d t [Int32.ofInt (vl t)] (t + 1) := fun _ p => p.1 _ _ _ h
theorem RD.var (h : 0 ≤ kd t ∧ kd t < 9) : RD kd vl 0 w d t [Int32.ofInt (-1 - kd t)] (t + 1) := fun _ p => p.2.1 _ _ _ h
theorem RD.par (h : kd t = 40) (h6 : d < 6) (a : RD kd vl 2 0 (d + 1) (t + 1) C t1) (h1 : kd t1 = 41) : RD kd vl 0 w d t C (t1 + 1) := fun P p => p.2.2.1 _ _ _ _ _ h h6 (a P p) h1
theorem RD.str (h : kd t = 42 ∨ kd t = 47) (a : RD kd vl 0 0 d (t + 1) C t1) (b : RD kd vl 1 w d t1 D t2) : RD kd vl 1 w d t (C ++ opc (kd t) :: D) t2 := fun P p => p.2.2.2.1 _ _ _ _ _ _ _ h (a P p) (b P p)
theorem RD.weak (h : kd t = 43 ∨ kd t = 45) (a : RD kd vl 0 0 d (t + 1) C t1) (b : RD kd vl 1 (kd t) d t1 D t2) : RD kd vl 1 w d t (wl w ++ (C ++ D)) t2 := fun P p => p.2.2.2.2.1 _ _ _ _ _ _ _ h (a P p) (b P p)
theorem RD.fin (h : ¬ isOp (kd t)) : RD kd vl 1 w d t (wl w) t := fun _ p => p.2.2.2.2.2.1 _ _ _ h
theorem RD.sum (a : RD kd vl 0 0 d t C t1) (b : RD kd vl 1 0 d t1 D t2) : RD kd vl 2 w d t (C ++ D) t2 := fun P p => p.2.2.2.2.2.2 _ _ _ _ _ _ _ (a P p) (b P p)
end RD
/-- as one waits in a sum: nothing or + -, above ( or nothing -/
def bsW (W : List Int) : Prop := W = [] ∨ ∃ V, W = 40 :: V
def waW (w : Int) : List Int → List Int := fun W => if w = 0 then W else w :: W
theorem pop_b {s : Bool} {W : List Int} (b : bsW W) : popW s W = ([], W) := by
  rcases b with rfl | ⟨V, rfl⟩
  · rfl
  · unfold popW; rw [if_pos (Or.inl rfl)]
theorem pop_ws {w : Int} {W : List Int} (b : bsW W) (h : w = 0 ∨ w = 43 ∨ w = 45) : popW true (waW w W) = ([], waW w W) := by
  unfold waW
  by_cases z : w = 0
  · rw [if_pos z]; exact pop_b b
  · rw [if_neg z]
    unfold popW
    rw [if_pos (Or.inr ⟨rfl, by omega⟩)]
theorem pop_ww {w : Int} {W : List Int} (b : bsW W) (h : w = 0 ∨ w = 43 ∨ w = 45) : popW false (waW w W) = (wl w, W) := by
  unfold waW wl
  by_cases z : w = 0
  · rw [if_pos z, if_pos z]; exact pop_b b
  · rw [if_neg z, if_neg z]
    unfold popW
    rw [if_neg (fun y => by rcases y with y | ⟨y, _⟩ <;> first | omega | cases y), pop_b b]
theorem pop_s {s : Bool} {w : Int} {V : List Int} (h : w = 42 ∨ w = 47) : popW s (w :: V) = (opc w :: (popW s V).1, (popW s V).2) := by
  conv => lhs; unfold popW
  rw [if_neg (by omega)]
/-- a strong one that waits comes out, whatever is next -/
theorem ME.strong {kd vl : Nat → Int} {w : Int} {V : List Int} {t : Nat} {C : List Int32} {t' : Nat} (h : w = 42 ∨ w = 47) (a : ME kd vl false V t (C, t')) : ME kd vl false (w :: V) t (opc w :: C, t') := by
  have e (s : Bool) := pop_s (s := s) (V := V) h
  rcases a.inv with ⟨i1, D, i2, i3⟩ | ⟨i1, i2, i3⟩ | ⟨i1, i2, i3, D, i4, i5⟩
  · have i3' : C = (popW (stB (kd t)) V).1 ++ D := i3
    have := ME.op (W := w :: V) (C := D) (t' := t') i1 (by rw [e]; exact i2)
    rw [e] at this
    rw [i3']; exact this
  · have i3' : (C, t') = ((popW false V).1, t) := i3
    cases i3'
    have := ME.fin (vl := vl) (W := w :: V) i1 (by rw [e]; exact i2)
    rw [e] at this
    exact this
  · have i5' : C = (popW false V).1 ++ D := i5
    have := ME.rp (W := w :: V) (C := D) (t' := t') i3 (by rw [e]; exact i2) (by rw [e]; exact i4)
    rw [e] at this
    rw [i5']; exact this
/-- what going down lays comes out, by what waits -/
theorem RD.me {kd vl : Nat → Int} {m : Nat} {w : Int} {d t t1 : Nat} {C : List Int32} (a : RD kd vl m w d t C t1) :
    (m = 0 → ∀ W C' t', ME kd vl false W t1 (C', t') → ME kd vl true W t (C ++ C', t')) ∧
    (m = 1 → ¬ isOp (kd t1) ∧ ((w = 0 ∨ w = 43 ∨ w = 45) → ∀ W C' t', bsW W → ME kd vl false W t1 (C', t') → ME kd vl false (waW w W) t (C ++ C', t'))) ∧
    (m = 2 → ¬ isOp (kd t1) ∧ ∀ W C' t', bsW W → ME kd vl false W t1 (C', t') → ME kd vl true W t (C ++ C', t')) := by
  refine a (fun m w _ t C t1 => (m = 0 → ∀ W C' t', ME kd vl false W t1 (C', t') → ME kd vl true W t (C ++ C', t')) ∧
    (m = 1 → ¬ isOp (kd t1) ∧ ((w = 0 ∨ w = 43 ∨ w = 45) → ∀ W C' t', bsW W → ME kd vl false W t1 (C', t') → ME kd vl false (waW w W) t (C ++ C', t'))) ∧
    (m = 2 → ¬ isOp (kd t1) ∧ ∀ W C' t', bsW W → ME kd vl false W t1 (C', t') → ME kd vl true W t (C ++ C', t'))) ⟨?_, ?_, ?_, ?_, ?_, ?_, ?_⟩
  · intro w d t h
    exact ⟨fun _ W C' t' x => ME.num h x, fun z => absurd z (by decide), fun z => absurd z (by decide)⟩
  · intro w d t h
    exact ⟨fun _ W C' t' x => ME.var h x, fun z => absurd z (by decide), fun z => absurd z (by decide)⟩
  · intro w d t C t1 h h6 p h1
    refine ⟨fun _ W C' t' x => ?_, fun z => absurd z (by decide), fun z => absurd z (by decide)⟩
    have bw : bsW (40 :: W) := Or.inr ⟨W, rfl⟩
    have e := pop_b (s := false) bw
    have := ME.rp (W := 40 :: W) (C := C') (t' := t') h1 (by rw [e]; exact List.cons_ne_nil _ _) (by rw [e]; exact x)
    rw [e] at this
    exact ((p.2.2 rfl).2 (40 :: W) C' t' bw this).lp h
  · intro w d t C t1 D t2 h p q
    refine ⟨fun z => absurd z (by decide), fun _ => ⟨(q.2.1 rfl).1, fun hw W C' t' b x => ?_⟩, fun z => absurd z (by decide)⟩
    have y := (q.2.1 rfl).2 hw W C' t' b x
    have y2 := (p.1 rfl) (kd t :: waW w W) _ _ (y.strong h)
    have sb : stB (kd t) = true := by unfold stB; exact decide_eq_true h
    have hop : isOp (kd t) := by unfold isOp; omega
    have z := ME.op (W := waW w W) (C := C ++ (opc (kd t) :: (D ++ C'))) (t' := t') hop (by rw [sb, pop_ws b hw]; exact y2)
    rw [sb, pop_ws b hw] at z
    have e : C ++ opc (kd t) :: D ++ C' = [] ++ (C ++ opc (kd t) :: (D ++ C')) := by simp
    rw [e]; exact z
  · intro w d t C t1 D t2 h p q
    refine ⟨fun z => absurd z (by decide), fun _ => ⟨(q.2.1 rfl).1, fun hw W C' t' b x => ?_⟩, fun z => absurd z (by decide)⟩
    have y := (q.2.1 rfl).2 (by omega) W C' t' b x
    have y2 := (p.1 rfl) (waW (kd t) W) _ _ y
    have sb : stB (kd t) = false := by unfold stB; exact decide_eq_false (by omega)
    have ww : waW (kd t) W = kd t :: W := by unfold waW; rw [if_neg (by omega)]
    have hop : isOp (kd t) := by unfold isOp; omega
    have z := ME.op (W := waW w W) (C := C ++ (D ++ C')) (t' := t') hop (by rw [sb, pop_ww b hw, ← ww]; exact y2)
    rw [sb, pop_ww b hw] at z
    have e : wl w ++ (C ++ D) ++ C' = wl w ++ (C ++ (D ++ C')) := by simp
    rw [e]; exact z
  · intro w d t h
    refine ⟨fun z => absurd z (by decide), fun _ => ⟨h, fun hw W C' t' b x => ?_⟩, fun z => absurd z (by decide)⟩
    have e0 := pop_b (s := false) b
    have e1 := pop_ww b hw
    rcases x.inv with ⟨i1, _⟩ | ⟨i1, i2, i3⟩ | ⟨i1, i2, i3, D, i4, i5⟩
    · exact absurd i1 h
    · rw [e0] at i2 i3
      cases i3
      have := ME.fin (vl := vl) (W := waW w W) h (by rw [e1]; exact i2)
      rw [e1] at this
      rw [List.append_nil]; exact this
    · rw [e0] at i2 i4 i5
      have i5' : C' = D := i5
      have := ME.rp (W := waW w W) (C := D) (t' := t') i3 (by rw [e1]; exact i2) (by rw [e1]; exact i4)
      rw [e1] at this
      rw [i5']; exact this
  · intro w d t C t1 D t2 p q
    refine ⟨fun z => absurd z (by decide), fun z => absurd z (by decide), fun _ => ⟨(q.2.1 rfl).1, fun W C' t' b x => ?_⟩⟩
    have y := (q.2.1 rfl).2 (Or.inl rfl) W C' t' b x
    have y2 := (p.1 rfl) W _ _ y
    rw [List.append_assoc]; exact y2
/-- a whole sum's orders, by what waits -/
theorem RD.whole {kd vl : Nat → Int} {w : Int} {d t t1 : Nat} {C : List Int32} (a : RD kd vl 2 w d t C t1) : ME kd vl true [] t (C, t1) := by
  obtain ⟨h1, h2⟩ := a.me.2.2 rfl
  have := h2 [] [] t1 (Or.inl rfl) (ME.fin h1 rfl)
  rw [List.append_nil] at this
  exact this
/-! how deep the pile gets -/
theorem ofI {z : Int} (h1 : -2147483648 ≤ z) (h2 : z ≤ 2147483647) : (Int32.ofInt z).toInt = z := by
  rw [Int32.toInt_ofInt]
  exact bmT h1 h2
theorem opc_i (w : Int) (h : isOp w) : -13 ≤ (opc w).toInt ∧ (opc w).toInt < -9 := by
  unfold isOp at h
  rcases h with rfl | rfl | rfl | rfl <;> decide
theorem dp_op {m d : Nat} {w : Int} {r : List Int32} (h : isOp w) (h2 : 2 ≤ d) : dpL m (opc w :: r) d = dpL m r (d - 1) := by
  have := opc_i w h
  show (if -13 ≤ (opc w).toInt then (if -9 ≤ (opc w).toInt then (if d < m then dpL m r (d + 1) else none) else if 2 ≤ d then dpL m r (d - 1) else none) else none) = _
  rw [if_pos (by omega), if_neg (by omega), if_pos h2]
theorem dp_num {m d : Nat} {c : Int32} {r : List Int32} (h : -9 ≤ c.toInt) (h2 : d < m) : dpL m (c :: r) d = dpL m r (d + 1) := by
  show (if -13 ≤ c.toInt then (if -9 ≤ c.toInt then (if d < m then dpL m r (d + 1) else none) else if 2 ≤ d then dpL m r (d - 1) else none) else none) = _
  rw [if_pos (by omega), if_pos h, if_pos h2]
/-- the orders of a sum within d ( take no more than 15 - 2 d on a pile -/
theorem RD.dp {kd vl : Nat → Int} (vlr : ∀ t, kd t = 30 → 0 ≤ vl t ∧ vl t ≤ 9999) {m : Nat} {w : Int} {d t t1 : Nat} {C : List Int32} (a : RD kd vl m w d t C t1) :
    (m = 0 → ∀ M e, d ≤ 6 → e + 13 ≤ M + 2 * d → dpL M C e = some (e + 1)) ∧
    (m = 1 → (w = 0 ∨ w = 43 ∨ w = 45) → ∀ M e, d ≤ 6 → e + 15 ≤ M + 2 * d → (w = 0 → dpL M C (e + 1) = some (e + 1)) ∧ (w ≠ 0 → dpL M C (e + 2) = some (e + 1))) ∧
    (m = 2 → ∀ M e, d ≤ 6 → e + 15 ≤ M + 2 * d → dpL M C e = some (e + 1)) := by
  refine a (fun m w d t C t1 => (m = 0 → ∀ M e, d ≤ 6 → e + 13 ≤ M + 2 * d → dpL M C e = some (e + 1)) ∧
    (m = 1 → (w = 0 ∨ w = 43 ∨ w = 45) → ∀ M e, d ≤ 6 → e + 15 ≤ M + 2 * d → (w = 0 → dpL M C (e + 1) = some (e + 1)) ∧ (w ≠ 0 → dpL M C (e + 2) = some (e + 1))) ∧
    (m = 2 → ∀ M e, d ≤ 6 → e + 15 ≤ M + 2 * d → dpL M C e = some (e + 1))) ⟨?_, ?_, ?_, ?_, ?_, ?_, ?_⟩
  · intro w d t h
    refine ⟨fun _ M e h6 h1 => ?_, fun z => absurd z (by decide), fun z => absurd z (by decide)⟩
    have := vlr t h
    have o := ofI (z := vl t) (by omega) (by omega)
    rw [dp_num (by omega) (by omega)]; rfl
  · intro w d t h
    refine ⟨fun _ M e h6 h1 => ?_, fun z => absurd z (by decide), fun z => absurd z (by decide)⟩
    have o := ofI (z := -1 - kd t) (by omega) (by omega)
    rw [dp_num (by omega) (by omega)]; rfl
  · intro w d t C t1 h h6 p h1
    exact ⟨fun _ M e h7 h2 => p.2.2 rfl M e (by omega) (by omega), fun z => absurd z (by decide), fun z => absurd z (by decide)⟩
  · intro w d t C t1 D t2 h p q
    refine ⟨fun z => absurd z (by decide), fun _ hw M e h6 h1 => ⟨fun z => ?_, fun z => ?_⟩, fun z => absurd z (by decide)⟩
    · rw [dpL_app, p.1 rfl M (e + 1) h6 (by omega)]
      show dpL M (opc (kd t) :: D) (e + 1 + 1) = _
      rw [dp_op (by unfold isOp; omega) (by omega)]
      exact ((q.2.1 rfl) hw M e h6 h1).1 z
    · rw [dpL_app, p.1 rfl M (e + 2) h6 (by omega)]
      show dpL M (opc (kd t) :: D) (e + 2 + 1) = _
      rw [dp_op (by unfold isOp; omega) (by omega)]
      exact ((q.2.1 rfl) hw M e h6 h1).2 z
  · intro w d t C t1 D t2 h p q
    have nz : kd t ≠ 0 := by omega
    refine ⟨fun z => absurd z (by decide), fun _ hw M e h6 h1 => ⟨fun z => ?_, fun z => ?_⟩, fun z => absurd z (by decide)⟩
    · unfold wl
      rw [if_pos z]
      show dpL M (C ++ D) (e + 1) = _
      rw [dpL_app, p.1 rfl M (e + 1) h6 (by omega)]
      exact ((q.2.1 rfl) (by omega) M e h6 h1).2 nz
    · unfold wl
      rw [if_neg z]
      show dpL M (opc w :: (C ++ D)) (e + 2) = _
      rw [dp_op (by unfold isOp; omega) (by omega)]
      show dpL M (C ++ D) (e + 1) = _
      rw [dpL_app, p.1 rfl M (e + 1) h6 (by omega)]
      exact ((q.2.1 rfl) (by omega) M e h6 h1).2 nz
  · intro w d t h
    refine ⟨fun z => absurd z (by decide), fun _ hw M e h6 h1 => ⟨fun z => ?_, fun z => ?_⟩, fun z => absurd z (by decide)⟩
    · unfold wl
      rw [if_pos z]; rfl
    · unfold wl
      rw [if_neg z, dp_op (by unfold isOp; omega) (by omega)]; rfl
  · intro w d t C t1 D t2 p q
    refine ⟨fun z => absurd z (by decide), fun z => absurd z (by decide), fun _ M e h6 h1 => ?_⟩
    rw [dpL_app, p.1 rfl M e h6 (by omega)]
    exact ((q.2.1 rfl) (Or.inl rfl) M e h6 h1).1 rfl
/-- a sum of a law's: 15 on the pile, 16 behind another -/
theorem RD.gd {kd vl : Nat → Int} (vlr : ∀ t, kd t = 30 → 0 ≤ vl t ∧ vl t ≤ 9999) {w : Int} {t t1 : Nat} {C : List Int32} (a : RD kd vl 2 w 0 t C t1) : gdC 16 C ∧ dpL 16 C 1 = some 2 :=
  ⟨(a.dp vlr).2.2 rfl 16 0 (by decide) (by decide), (a.dp vlr).2.2 rfl 16 1 (by decide) (by decide)⟩
/-- no more orders than TOKENS -/
theorem RD.len {kd vl : Nat → Int} {m : Nat} {w : Int} {d t t1 : Nat} {C : List Int32} (a : RD kd vl m w d t C t1) : (m = 0 → C.length + t ≤ t1) ∧ (m = 1 → C.length + t ≤ t1 + (wl w).length) ∧ (m = 2 → C.length + t ≤ t1) := by
  refine a (fun m w _ t C t1 => (m = 0 → C.length + t ≤ t1) ∧ (m = 1 → C.length + t ≤ t1 + (wl w).length) ∧ (m = 2 → C.length + t ≤ t1)) ⟨?_, ?_, ?_, ?_, ?_, ?_, ?_⟩
  · intro w d t h
    exact ⟨fun _ => by simp; omega, fun z => absurd z (by decide), fun z => absurd z (by decide)⟩
  · intro w d t h
    exact ⟨fun _ => by simp; omega, fun z => absurd z (by decide), fun z => absurd z (by decide)⟩
  · intro w d t C t1 h h6 p h1
    have := p.2.2 rfl
    exact ⟨fun _ => by omega, fun z => absurd z (by decide), fun z => absurd z (by decide)⟩
  · intro w d t C t1 D t2 h p q
    have x := p.1 rfl
    have y := q.2.1 rfl
    have e : (C ++ opc (kd t) :: D).length = C.length + 1 + D.length := by simp; omega
    exact ⟨fun z => absurd z (by decide), fun _ => by omega, fun z => absurd z (by decide)⟩
  · intro w d t C t1 D t2 h p q
    have x := p.1 rfl
    have y := q.2.1 rfl
    have e : (wl w ++ (C ++ D)).length = (wl w).length + C.length + D.length := by simp; omega
    have o : (wl (kd t)).length = 1 := by unfold wl; rw [if_neg (by omega)]; rfl
    exact ⟨fun z => absurd z (by decide), fun _ => by omega, fun z => absurd z (by decide)⟩
  · intro w d t h
    exact ⟨fun z => absurd z (by decide), fun _ => by omega, fun z => absurd z (by decide)⟩
  · intro w d t C t1 D t2 p q
    have x := p.1 rfl
    have y := q.2.1 rfl
    have e : (C ++ D).length = C.length + D.length := by simp
    have o : (wl 0).length = 0 := rfl
    exact ⟨fun z => absurd z (by decide), fun z => absurd z (by decide), fun _ => by omega⟩
/-- a sum has orders -/
theorem RD.ne0 {kd vl : Nat → Int} {m : Nat} {w : Int} {d t t1 : Nat} {C : List Int32} (a : RD kd vl m w d t C t1) : (m = 0 → C ≠ []) ∧ (m = 2 → C ≠ []) := by
  refine a (fun m w _ t C t1 => (m = 0 → C ≠ []) ∧ (m = 2 → C ≠ [])) ⟨?_, ?_, ?_, ?_, ?_, ?_, ?_⟩
  · intro w d t h
    exact ⟨fun _ => List.cons_ne_nil _ _, fun z => absurd z (by decide)⟩
  · intro w d t h
    exact ⟨fun _ => List.cons_ne_nil _ _, fun z => absurd z (by decide)⟩
  · intro w d t C t1 h h6 p h1
    exact ⟨fun _ => p.2 rfl, fun z => absurd z (by decide)⟩
  · intro w d t C t1 D t2 h p q
    exact ⟨fun z => absurd z (by decide), fun z => absurd z (by decide)⟩
  · intro w d t C t1 D t2 h p q
    exact ⟨fun z => absurd z (by decide), fun z => absurd z (by decide)⟩
  · intro w d t h
    exact ⟨fun z => absurd z (by decide), fun z => absurd z (by decide)⟩
  · intro w d t C t1 D t2 p q
    exact ⟨fun z => absurd z (by decide), fun _ z => p.1 rfl (List.append_eq_nil_iff.mp z).1⟩
theorem RD.ne {kd vl : Nat → Int} {t t1 : Nat} {C : List Int32} (a : RD kd vl 2 0 0 t C t1) : C ≠ [] := a.ne0.2 rfl
end
section
/-! SUMS: the orders that the class lays down -/
/-- how many orders there are -/
def osN (h : Hp) (s : Nat) : Prop := (hi h 5 3).toInt = (s : Int)
/-- orders have been laid down from s on -/
def oaP (h q : Hp) (s : Nat) (C : List Int32) : Prop := osN q (s + C.length) ∧ odA (hi q 6) s C ∧ (∀ k, k < s → hi q 6 k = hi h 6 k) ∧ ∀ k, hi q 7 k = hi h 7 k
theorem oaP.nil {h q : Hp} {s : Nat} (o : osN q s) (e : ∀ k, k < s → hi q 6 k = hi h 6 k) (e7 : ∀ k, hi q 7 k = hi h 7 k) : oaP h q s [] := ⟨o, trivial, e, e7⟩
theorem oaP.tr {h q r : Hp} {s : Nat} {C D : List Int32} (a : oaP h q s C) (b : oaP q r (s + C.length) D) : oaP h r s (C ++ D) := by
  refine ⟨?_, odA.app.mpr ⟨a.2.1.cg (fun k h1 h2 => b.2.2.1 k h2), b.2.1⟩, fun k hk => (b.2.2.1 k (by omega)).trans (a.2.2.1 k hk), fun k => (b.2.2.2 k).trans (a.2.2.2 k)⟩
  have := b.1
  rw [Nat.add_assoc, ← List.length_append] at this
  exact this
theorem oaP.k {h q r : Hp} {s : Nat} {C : List Int32} (a : oaP h q s C) (e3 : hi r 5 3 = hi q 5 3) (e6 : ∀ k, hi r 6 k = hi q 6 k) (e7 : ∀ k, hi r 7 k = hi q 7 k) : oaP h r s C := by
  refine ⟨?_, a.2.1.cg (fun k _ _ => e6 k), fun k hk => (e6 k).trans (a.2.2.1 k hk), fun k => (e7 k).trans (a.2.2.2 k)⟩
  unfold osN
  rw [e3]
  exact a.1
theorem oaP.l {h q r : Hp} {s : Nat} {C : List Int32} (a : oaP q r s C) (e6 : ∀ k, hi q 6 k = hi h 6 k) (e7 : ∀ k, hi q 7 k = hi h 7 k) : oaP h r s C := ⟨a.1, a.2.1, fun k hk => (a.2.2.1 k hk).trans (e6 k), fun k => (a.2.2.2 k).trans (e7 k)⟩
theorem frK.os {h q : Hp} (f : frK h q) {s : Nat} (o : osN h s) : osN q s := by
  unfold osN
  rw [f.1 5 3 (by decide)]
  exact o
theorem frK.o6 {h q : Hp} (f : frK h q) (k : Nat) : hi q 6 k = hi h 6 k := f.1 6 k (by omega)
theorem frK.o7 {h q : Hp} (f : frK h q) (k : Nat) : hi q 7 k = hi h 7 k := f.1 7 k (by omega)
theorem frK.o53 {h q : Hp} (f : frK h q) : hi q 5 3 = hi h 5 3 := f.1 5 3 (by decide)
theorem oa_add {n : Nat} {h : Hp} {x : Int32} {s : Nat} (o : osN h s) (s4 : s < 404) : Pc (F_X4_add n h 5 x) (fun q => oaP h q s [x] ∧ frO h q) := by
  have f4 := lit_404'
  have f1 := lit_1
  have o' : (hi h 5 3).toInt = (s : Int) := o
  have n3 := ncT (show 0 ≤ (hi h 5 3).toInt by omega)
  have n3' : Int32.toNatClampNeg (hi h 5 3) = s := by omega
  have a1 := adT (hi h 5 3) 1 (by omega) (by omega)
  refine fun q e => And.intro ?_ (pc_add q e)
  revert q e
  show Pc (F_X4_add n h 5 x) (fun q => oaP h q s [x])
  unfold F_X4_add
  rw [n3']
  refine Pc.le (fun c => by exfalso; omega) (fun _ => Pc.chk (fun _ => Pc.ret ?_))
  have e3 : hi (wrI h 6 s x) 5 3 = hi h 5 3 := hiA rfl 5 3 (by decide)
  refine ⟨?_, ?_, fun k hk => ?_, fun k => ?_⟩
  · show (hi (wrI (wrI h 6 s x) 5 3 (hi (wrI h 6 s x) 5 3 + 1)) 5 3).toInt = ((s + 1 : Nat) : Int)
    rw [hiE rfl, e3]
    omega
  · refine odA.one ?_
    rw [hi_wrI, if_neg (by omega), hi_wrI, if_pos ⟨rfl, rfl⟩]
  · rw [hi_wrI, if_neg (by omega), hi_wrI, if_neg (by omega)]
  · rw [hi_wrI, if_neg (by omega), hi_wrI, if_neg (by omega)]
def zF (q : Hp) : Prop := (hi q 2 5).toInt = 0
section SO
variable {N : Nat} {kd pl vl : Nat → Int}
/-- where there is no fault behind, what was laid down -/
def sumQ (kd vl : Nat → Int) (m : Nat) (w : Int) (d t s : Nat) (h q : Hp) : Prop := zF q → ∃ C t', cS q 0 t' ∧ RD kd vl m w d t C t' ∧ oaP h q s C ∧ s + C.length ≤ 3 + t' ∧ t' ≤ 400
theorem sumQ.no {m : Nat} {w : Int} {d t s t' : Nat} {h q : Hp} {f : Int} (S : cS q f t') (fz : f ≠ 0) : sumQ kd vl m w d t s h q := fun z => by
  exfalso
  have := S.1
  unfold zF at z
  omega
/-- the level below lays down as it should -/
def lvQ (N : Nat) (kd pl vl : Nat → Int) (S : Nat → Hp → Int32 → Option Hp) : Prop := ∀ (n : Nat) (h : Hp) (x : Int32) (d t s : Nat), CT N kd pl vl h → tI2 N t → cS h 0 t → x.toInt = (d : Int) → d ≤ 6 → osN h s → s ≤ 3 + t → Pc (S n h x) (sumQ kd vl 2 0 d t s h)
/-- a TOKEN taken behind a fault: the fault stays -/
theorem take_no (X : TX N kd pl vl) {h : Hp} {n : Nat} {x1 : Int32} {f : Int} {t : Nat} (C : CT N kd pl vl h) (T : tI2 N t) (S : cS h f t) (fz : f ≠ 0) : Pc (F_X7_take n h x1) (fun q => frK h q.2 ∧ cS q.2 f t ∧ q.1.toInt = 0) := pc_takeF X C T S fz
set_option maxHeartbeats 4000000 in
theorem qc_readUnit (X : TX N kd pl vl) {S : Nat → Hp → Int32 → Option Hp} (L : lvP N kd pl vl S) (L' : lvQ N kd pl vl S) {h : Hp} {n : Nat} {x1 : Int32} {w : Int} {d t s : Nat} (C : CT N kd pl vl h) (T : tI2 N t) (Sc : cS h 0 t) (hx : x1.toInt = (d : Int)) (d6 : d ≤ 6) (os : osN h s) (sl : s ≤ 3 + t) : Pc (F_X7_readUnit S n h x1) (sumQ kd vl 0 w d t s h) := by
  have f0 := lit_0
  have f1 := lit_1
  have f2 := lit_2
  have f6 := lit_6
  have f9 := lit_9
  have f30 := lit_30
  have f40 := lit_40
  have f41 := lit_41
  have m1 := lit_m1
  have T2 := T.2
  unfold F_X7_readUnit F_X7_kind
  refine Pc.bind (Q := fun q => q.2 = h ∧ q.1.toInt = kd t) (Pc.bind (pc_kindOf X C T Sc.2) (fun q hq => Pc.ret hq)) (fun q1 h1 => ?_)
  rw [h1.1]
  have v1 := h1.2
  -- one order, one TOKEN
  have un (c : Int32) (hu : isUn (kd t)) (rd : RD kd vl 0 w d t [c] (t + 1)) : Pc ((F_X4_add n h 5 c).bind (fun q52 => ((F_X7_take n q52 q1.1).bind (fun q54 => some q54.2)))) (sumQ kd vl 0 w d t s h) := by
    by_cases s4 : s < 404
    · refine Pc.bind (oa_add os s4) (fun q52 h52 => ?_)
      obtain ⟨a1, a2⟩ := h52
      refine Pc.bind (pc_take X (C.cg a2.l.tk) T (a2.st Sc)) (fun q hq => Pc.ret (fun z => ?_))
      obtain ⟨k1, k2, k3⟩ := hq
      have fz : (tkS kd q1.1.toInt 0 t).1 = 0 := by
        have := k2.1
        unfold zF at z
        omega
      obtain ⟨-, -, t4, e⟩ := tk_z fz
      rw [e] at k2
      exact ⟨[c], t + 1, k2, rd, a1.k k1.o53 k1.o6 k1.o7, by simp; omega, by omega⟩
    · -- no room: then it is the 401st TOKEN
      refine Pc.bind pc_add (fun q52 a2 => ?_)
      refine Pc.bind (pc_take X (C.cg a2.l.tk) T (a2.st Sc)) (fun q hq => Pc.ret (fun z => ?_))
      obtain ⟨k1, k2, k3⟩ := hq
      have fz : (tkS kd q1.1.toInt 0 t).1 = 0 := by
        have := k2.1
        unfold zF at z
        omega
      obtain ⟨-, -, t4, e⟩ := tk_z fz
      exfalso; omega
  have one (nu : ¬ isUn (kd t)) (n4 : kd t ≠ 40) : Pc ((F_X7_stop n h 1).bind (fun q => some q)) (sumQ kd vl 0 w d t s h) := by
    refine Pc.bind (pc_stop Sc) (fun q hq => Pc.ret ?_)
    have z := hq.2
    rw [if_pos rfl, f1] at z
    exact sumQ.no z (by decide)
  have lp (e4 : kd t = 40) : Pc (if (x1 : Int32) < (6 : Int32) then ((F_X7_take n h q1.1).bind (fun q7 => (if (q7.1 : Int32) = (0 : Int32) then some q7.2 else ((S n q7.2 (x1 + 1)).bind (fun q10 => ((F_X7_take n q10 41).bind (fun q12 => some q12.2))))))) else ((F_X7_stop n h 2).bind (fun q14 => ((F_X7_take n q14 q1.1).bind (fun q16 => (if (q16.1 : Int32) = (0 : Int32) then some q16.2 else ((S n q16.2 (x1 + 1)).bind (fun q19 => ((F_X7_take n q19 41).bind (fun q21 => some q21.2)))))))))) (sumQ kd vl 0 w d t s h) := by
    refine Pc.lt (fun c => ?_) (fun c => ?_)
    · refine Pc.bind (pc_take X C T Sc) (fun q7 h7 => ?_)
      obtain ⟨k1, k2, k3⟩ := h7
      have T7 := tk_in X T (k := q1.1.toInt) (f := 0) (by omega)
      rw [v1] at k2 k3 T7
      have tk : tkS kd (kd t) 0 t = if t < 400 then (0, t + 1) else (2, t) := by
        unfold tkS
        rw [if_pos rfl, if_pos rfl]
      rw [tk] at k2 k3 T7
      by_cases c4 : t < 400
      · rw [if_pos c4] at k2 k3 T7
        refine Pc.eq (fun c0 => absurd rfl (k3.mp (c0.trans f0))) (fun _ => ?_)
        have a1 := adT x1 1 (by omega) (by omega)
        refine Pc.bind (fun q e => And.intro (L n q7.2 (x1 + 1) (d + 1) (t + 1) (C.cg k1.tk) T7 k2 (by omega) (by omega) q e) (L' n q7.2 (x1 + 1) (d + 1) (t + 1) s (C.cg k1.tk) T7 k2 (by omega) (by omega) (k1.os os) (by omega) q e)) (fun q10 h10 => ?_)
        obtain ⟨⟨m1, f', t', m2, m3, m4, m5, m6⟩, L10⟩ := h10
        have C10 := C.cg (k1.l.tr m1).tk
        refine Pc.bind (pc_take X C10 m3 m2) (fun q12 h12 => Pc.ret (fun z => ?_))
        obtain ⟨j1, j2, j3⟩ := h12
        have fz : (tkS kd (41 : Int32).toInt f' t').1 = 0 := by
          have := j2.1
          unfold zF at z
          omega
        obtain ⟨f'0, e41, t4, e⟩ := tk_z fz
        rw [e] at j2
        rw [f41] at e41
        obtain ⟨D, t'', r1, r2, r3, r4, r5⟩ := L10 (by have := m2.1; unfold zF; omega)
        have tt : t'' = t' := by
          have x := r1.2
          have y := m2.2
          omega
        subst tt
        exact ⟨D, t'' + 1, j2, RD.par e4 (by omega) r2 e41, (r3.k j1.o53 j1.o6 j1.o7).l k1.o6 k1.o7, by omega, by omega⟩
      · rw [if_neg c4] at k2 k3 T7
        refine Pc.eq (fun _ => Pc.ret (sumQ.no k2 (show (2 : Int) ≠ 0 by decide))) (fun c0 => ?_)
        exfalso
        exact c0 ((k3.mpr (show (2 : Int) ≠ 0 by decide)).trans f0.symm)
    · refine Pc.bind (pc_stop Sc) (fun q14 h14 => ?_)
      have S14 := h14.2
      rw [if_pos rfl, f2] at S14
      refine Pc.bind (pc_take X (C.cg h14.1.tk) T S14) (fun q16 h16 => ?_)
      obtain ⟨k1, k2, k3⟩ := h16
      rw [tk_f (show (2 : Int) ≠ 0 by decide)] at k2 k3
      refine Pc.eq (fun _ => Pc.ret (sumQ.no k2 (show (2 : Int) ≠ 0 by decide))) (fun c0 => ?_)
      exfalso
      exact c0 ((k3.mpr (show (2 : Int) ≠ 0 by decide)).trans f0.symm)
  refine Pc.eq (fun c => ?_) (fun c => ?_)
  · have e30 : kd t = 30 := by omega
    have hu : isUn (kd t) := Or.inl e30
    have tN : t < N := by
      have T1 := T.1
      by_cases y : t < N
      · exact y
      · exfalso
        have : t = N := by omega
        have x := X.2.1
        rw [← this] at x
        omega
    refine Pc.bind (pc_valueOf C T Sc.2) (fun q50 h50 => ?_)
    rw [h50.1]
    have v5 := (h50.2 tN).2
    have vr := X.2.2.1 t tN e30
    have ec : q50.1.toInt32 = Int32.ofInt (vl t) := by
      refine Int32.toInt_inj.mp ?_
      rw [ofI (by omega) (by omega), Int64.toInt_toInt32, v5]
      exact bmT (by omega) (by omega)
    rw [ec]
    exact un _ hu (RD.num e30)
  · refine Pc.lt (fun c1 => ?_) (fun c1 => ?_)
    · have nu : ¬ isUn (kd t) := by unfold isUn; omega
      refine Pc.eq (fun c2 => lp (by omega)) (fun c2 => one nu (by omega))
    · refine Pc.le (fun c2 => ?_) (fun c2 => ?_)
      · have nu : ¬ isUn (kd t) := by unfold isUn; omega
        refine Pc.eq (fun c2 => lp (by omega)) (fun c2 => one nu (by omega))
      · have hv : 0 ≤ kd t ∧ kd t < 9 := by omega
        generalize esc : ((-1 : Int32) - q1.1) = sc
        have sb := sbG esc m1 v1 (by omega) (by omega)
        clear esc
        have o := ofI (z := -1 - kd t) (by omega) (by omega)
        have ec : sc = Int32.ofInt (-1 - kd t) := Int32.toInt_inj.mp (by rw [o]; omega)
        rw [ec]
        exact un _ (Or.inr hv) (RD.var hv)
end SO
end
section
/-! SUMS: the orders that the class lays down, one unit after another -/
section SP
variable {N : Nat} {kd pl vl : Nat → Int}
/-- behind a fault nothing is asked -/
theorem sumQ.bad {m : Nat} {w : Int} {d t s : Nat} {h q : Hp} (z : ¬ zF q) : sumQ kd vl m w d t s h q := fun y => absurd y z
theorem zF.no {h : Hp} {f : Int} {t : Nat} (S : cS h f t) (fz : f ≠ 0) : ¬ zF h := fun z => by
  have := S.1
  unfold zF at z
  omega
/-- what follows a unit: a fault, or a loop that goes on from there -/
theorem qc_sumLF {S : Nat → Hp → Int32 → Option Hp} {h g : Hp} {n : Nat} {l1 l2 l3 : Int32} {w : Int} {m d t s : Nat} (z : ¬ zF h) : Pc (W_X7_readSum S n 9 h l1 l2 l3) (sumQ kd vl m w d t s g) := by
  have f0 := lit_0
  cases n with
  | zero => exact Pc.no
  | succ n =>
    rw [u_X7_readSum]
    refine Pc.pos rfl ?_
    refine Pc.lt (fun _ => Pc.ret (sumQ.bad z)) (fun _ => ?_)
    exact Pc.eq (fun c => absurd (show zF h by unfold zF; omega) z) (fun _ => Pc.ret (sumQ.bad z))
/-- an operator is taken, a unit is read: what there is then -/
theorem qc_opStep (X : TX N kd pl vl) {S : Nat → Hp → Int32 → Option Hp} (L : lvP N kd pl vl S) (L' : lvQ N kd pl vl S) {h : Hp} {n : Nat} {l1 x : Int32} {d t s : Nat} (C : CT N kd pl vl h) (T : tI2 N t) (Sc : cS h 0 t) (hx : l1.toInt = (d : Int)) (d6 : d ≤ 6) (hk : x.toInt = kd t) (ho : isOp (kd t)) (os : osN h s) (sl : s ≤ 4 + t) {K : Hp → Option Hp} {P : Hp → Prop} (k0 : ∀ r, ¬ zF r → (∃ f1 t1, cS r f1 t1) → CT N kd pl vl r → Pc (K r) P) (kk : ∀ r D t1, cS r 0 t1 → CT N kd pl vl r → tI2 N t1 → t < t1 → RD kd vl 0 0 d (t + 1) D t1 → oaP h r s D → s + D.length ≤ 3 + t1 → Pc (K r) P) : Pc ((F_X7_take n h x).bind (fun q => ((F_X7_readUnit S n q.2 l1).bind K))) P := by
  refine Pc.bind (pc_take X C T Sc) (fun q hq => ?_)
  obtain ⟨k1, k2, -⟩ := hq
  have T' := tk_in X T (k := x.toInt) (f := 0) (by rw [hk]; unfold isOp at ho; omega)
  rw [hk] at k2 T'
  have tk : tkS kd (kd t) 0 t = if t < 400 then (0, t + 1) else (2, t) := by
    unfold tkS
    rw [if_pos rfl, if_pos rfl]
  rw [tk] at k2 T'
  by_cases c4 : t < 400
  · rw [if_pos c4] at k2 T'
    refine Pc.bind (fun r e => And.intro (pc_readUnit X L (d := d) (C.cg k1.tk) T' k2 hx d6 r e) (qc_readUnit X L L' (w := 0) (d := d) (C.cg k1.tk) T' k2 hx d6 (k1.os os) (by omega) r e)) (fun r hr => ?_)
    obtain ⟨⟨m1, f1, t1, m2, m3, m4, m5, m6⟩, M⟩ := hr
    have Cr := C.cg (k1.l.tr m1).tk
    by_cases z : zF r
    · obtain ⟨D, t2, r1, r2, r3, r4, r5⟩ := M z
      have z' : (hi r 2 5).toInt = 0 := z
      have f10 : f1 = 0 := by have := m2.1; omega
      have tt : t2 = t1 := by
        have x := r1.2
        have y := m2.2
        omega
      subst tt
      have m4' : t + 1 ≤ t2 := m4
      exact kk r D t2 r1 Cr m3 (by omega) r2 (r3.l k1.o6 k1.o7) r4
    · exact k0 r z ⟨f1, t1, m2⟩ Cr
  · rw [if_neg c4] at k2 T'
    have z2 : (2 : Int) ≠ 0 := by decide
    refine Pc.bind (pc_unitF X (C.cg k1.tk) T k2 z2) (fun r hr => ?_)
    exact k0 r (zF.no hr.2 z2) ⟨2, t, hr.2⟩ (C.cg (k1.l.tr hr.1).tk)
/-- one order more, if there is no fault -/
theorem qc_add {h r : Hp} {n s : Nat} {c : Int32} {D : List Int32} {t1 : Nat} (o : oaP h r s D) (s4 : s + D.length < 404) (S : cS r 0 t1) {K : Hp → Option Hp} {P : Hp → Prop} (kk : ∀ q, frO r q → cS q 0 t1 → oaP h q s (D ++ [c]) → Pc (K q) P) : Pc ((F_X4_add n r 5 c).bind K) P := by
  refine Pc.bind (oa_add o.1 s4) (fun q hq => ?_)
  exact kk q hq.2 (hq.2.st S) (o.tr hq.1)
theorem qc_add0 {r : Hp} {n : Nat} {c : Int32} {f1 : Int} {t1 : Nat} (S : cS r f1 t1) (z : ¬ zF r) {K : Hp → Option Hp} {P : Hp → Prop} (kk : ∀ q, ¬ zF q → Pc (K q) P) : Pc ((F_X4_add n r 5 c).bind K) P := by
  refine Pc.bind pc_add (fun q hq => kk q (fun y => z ?_))
  have a := (hq.st S).1
  have b := S.1
  unfold zF at y ⊢
  omega
set_option maxHeartbeats 8000000 in
theorem qc_sumL (X : TX N kd pl vl) {S : Nat → Hp → Int32 → Option Hp} (L : lvP N kd pl vl S) (L' : lvQ N kd pl vl S) {l1 : Int32} {d : Nat} (hx : l1.toInt = (d : Int)) (d6 : d ≤ 6) : ∀ (n : Nat) (h : Hp) (l2 l3 : Int32) (t s : Nat), CT N kd pl vl h → tI2 N t → cS h 0 t → 0 ≤ l3.toInt → l3.toInt < (t : Int) → (l2.toInt = 0 ∨ l2.toInt = 43 ∨ l2.toInt = 45) → osN h s → s + (wl l2.toInt).length ≤ 3 + t → Pc (W_X7_readSum S n 9 h l1 l2 l3) (sumQ kd vl 1 l2.toInt d t s h) := by
  have f0 := lit_0
  have f1 := lit_1
  have f42 := lit_42
  have f43 := lit_43
  have f45 := lit_45
  have f47 := lit_47
  have f400 := lit_400
  intro n
  induction n with
  | zero => intro h l2 l3 t s C T Sc a b w os sl; exact Pc.no
  | succ n ih =>
    intro h l2 l3 t s C T Sc a b w os sl
    have T2 := T.2
    have T1 := T.1
    have wl0 : (wl (0 : Int)).length = 0 := rfl
    have wl1 {z : Int} (hz : z ≠ 0) : wl z = [opc z] := if_neg hz
    have wlc {z : Int} (hz : z ≠ 0) : (wl z).length = 1 := by rw [wl1 hz]; rfl
    have wle : (wl l2.toInt).length ≤ 1 := by
      by_cases z : l2.toInt = 0
      · rw [z]; exact Nat.zero_le 1
      · rw [wlc z]; exact Nat.le_refl 1
    rw [u_X7_readSum]
    refine Pc.pos rfl ?_
    refine Pc.lt (fun c => by exfalso; omega) (fun c => ?_)
    refine Pc.eq (fun _ => ?_) (fun c => by have := Sc.1; exfalso; omega)
    have a1 := adT l3 1 (by omega) (by omega)
    unfold F_X7_kind
    refine Pc.bind (Q := fun q => q.2 = h ∧ q.1.toInt = kd t) (Pc.bind (pc_kindOf X C T Sc.2) (fun q hq => Pc.ret hq)) (fun q3 h3 => ?_)
    rw [h3.1]
    have v3 := h3.2
    -- a strong one
    have str (o : Int32) (hs : kd t = 42 ∨ kd t = 47) (ho : o = opc (kd t)) (r : Hp) (D : List Int32) (t1 : Nat) (x1 : cS r 0 t1) (x2 : CT N kd pl vl r) (x3 : tI2 N t1) (x4 : t < t1) (x5 : RD kd vl 0 0 d (t + 1) D t1) (x6 : oaP h r s D) : Pc ((F_X4_add n r 5 o).bind (fun q => W_X7_readSum S n 9 q l1 l2 (l3 + 1))) (sumQ kd vl 1 l2.toInt d t s h) := by
      have x32 := x3.2
      have x8 := x5.len.1 rfl
      refine qc_add x6 (by omega) x1 (fun q y1 y2 y3 => ?_)
      have ll : (D ++ [o]).length = D.length + 1 := by simp
      have y4 : osN q (s + (D ++ [o]).length) := y3.1
      refine (ih q l2 (l3 + 1) t1 (s + (D ++ [o]).length) (x2.cg y1.l.tk) x3 y2 (by omega) (by omega) w y4 (by omega)).mono (fun u hu z => ?_)
      obtain ⟨E, t2, e1, e2, e3, e4, e5⟩ := hu z
      refine ⟨D ++ opc (kd t) :: E, t2, e1, RD.str hs x5 e2, ?_, ?_, e5⟩
      · have := y3.tr e3
        rw [ho] at this
        simpa using this
      · have : (D ++ opc (kd t) :: E).length = D.length + 1 + E.length := by simp; omega
        omega
    have str0 (o : Int32) (r : Hp) (z : ¬ zF r) (e : ∃ f1 t1, cS r f1 t1) : Pc ((F_X4_add n r 5 o).bind (fun q => W_X7_readSum S n 9 q l1 l2 (l3 + 1))) (sumQ kd vl 1 l2.toInt d t s h) := by
      obtain ⟨f1, t1, e⟩ := e
      exact qc_add0 e z (fun q y => qc_sumLF y)
    have u42 : kd t = 42 → ((-12 : Int32) = opc (kd t)) := fun z => by rw [z]; rfl
    have u47 : kd t = 47 → ((-13 : Int32) = opc (kd t)) := fun z => by rw [z]; rfl
    refine Pc.eq (fun c1 => ?_) (fun c1 => ?_)
    · have k42 : kd t = 42 := by omega
      refine qc_opStep X L L' C T Sc hx d6 v3 (by unfold isOp; omega) os (by omega) (fun r z e _ => ?_) (fun r D t1 x1 x2 x3 x4 x5 x6 x7 => ?_)
      · exact Pc.eq (fun _ => str0 _ r z e) (fun _ => str0 _ r z e)
      · exact Pc.eq (fun _ => str _ (Or.inl k42) (u42 k42) r D t1 x1 x2 x3 x4 x5 x6) (fun q => by exfalso; omega)
    · refine Pc.eq (fun c2 => ?_) (fun c2 => ?_)
      · have k47 : kd t = 47 := by omega
        refine qc_opStep X L L' C T Sc hx d6 v3 (by unfold isOp; omega) os (by omega) (fun r z e _ => ?_) (fun r D t1 x1 x2 x3 x4 x5 x6 x7 => ?_)
        · exact Pc.eq (fun _ => str0 _ r z e) (fun _ => str0 _ r z e)
        · exact Pc.eq (fun q => by exfalso; omega) (fun _ => str _ (Or.inr k47) (u47 k47) r D t1 x1 x2 x3 x4 x5 x6)
      · -- + or -, or the end
        have weak (g : Hp) (fg : frO h g) (og : oaP h g s (wl l2.toInt)) (hw : kd t = 43 ∨ kd t = 45) : Pc ((F_X7_take n g q3.1).bind (fun q18 => ((F_X7_readUnit S n q18.2 l1).bind (fun q20 => W_X7_readSum S n 9 q20 l1 q3.1 (l3 + 1))))) (sumQ kd vl 1 l2.toInt d t s h) := by
          have os' : osN g (s + (wl l2.toInt).length) := og.1
          refine qc_opStep X L L' (C.cg fg.l.tk) T (fg.st Sc) hx d6 v3 (by unfold isOp; omega) os' (by omega) (fun r z e _ => qc_sumLF z) (fun r D t1 x1 x2 x3 x4 x5 x6 x7 => ?_)
          have x62 : osN r (s + (wl l2.toInt).length + D.length) := x6.1
          have w1 : (wl q3.1.toInt).length = 1 := wlc (by omega)
          have x8 := x5.len.1 rfl
          refine (ih r q3.1 (l3 + 1) t1 _ x2 x3 x1 (by omega) (by omega) (by omega) x62 (by omega)).mono (fun u hu z => ?_)
          obtain ⟨E, t2, e1, e2, e3, e4, e5⟩ := hu z
          refine ⟨wl l2.toInt ++ (D ++ E), t2, e1, RD.weak hw x5 (by rw [← v3]; exact e2), og.tr (x6.tr e3), ?_, e5⟩
          have : (wl l2.toInt ++ (D ++ E)).length = (wl l2.toInt).length + D.length + E.length := by simp; omega
          omega
        have pm (g : Hp) (fg : frO h g) (og : oaP h g s (wl l2.toInt)) : Pc (if (q3.1 : Int32) = (43 : Int32) then ((F_X7_take n g q3.1).bind (fun q18 => ((F_X7_readUnit S n q18.2 l1).bind (fun q20 => W_X7_readSum S n 9 q20 l1 q3.1 (l3 + 1))))) else (if (q3.1 : Int32) = (45 : Int32) then ((F_X7_take n g q3.1).bind (fun q23 => ((F_X7_readUnit S n q23.2 l1).bind (fun q25 => W_X7_readSum S n 9 q25 l1 q3.1 (l3 + 1))))) else some g)) (sumQ kd vl 1 l2.toInt d t s h) := by
          refine Pc.eq (fun c3 => weak g fg og (by omega)) (fun c3 => ?_)
          refine Pc.eq (fun c4 => weak g fg og (by omega)) (fun c4 => Pc.ret (fun z => ?_))
          exact ⟨wl l2.toInt, t, fg.st Sc, RD.fin (by unfold isOp; omega), og, sl, T2⟩
        have hm : oaP h h s [] := oaP.nil os (fun _ _ => rfl) (fun _ => rfl)
        refine Pc.eq (fun c3 => pm h ⟨fun _ _ _ _ _ => rfl, fun _ _ => rfl⟩ (by rw [show l2.toInt = 0 by omega]; exact hm)) (fun c3 => ?_)
        have nz : l2.toInt ≠ 0 := by omega
        rw [wlc nz] at sl
        refine Pc.eq (fun c4 => ?_) (fun c4 => ?_)
        · refine qc_add hm (by simp; omega) Sc (fun g y1 y2 y3 => pm g y1 ?_)
          rw [wl1 nz, show opc l2.toInt = -10 by rw [show l2.toInt = 43 by omega]; rfl]
          exact y3
        · refine qc_add hm (by simp; omega) Sc (fun g y1 y2 y3 => pm g y1 ?_)
          rw [wl1 nz, show opc l2.toInt = -11 by rw [show l2.toInt = 45 by omega]; rfl]
          exact y3
/-- a sum, at every level -/
theorem qc_levels (X : TX N kd pl vl) : ∀ l : Nat, lvQ N kd pl vl (L_X7_readSum l) := by
  have f0 := lit_0
  intro l
  induction l with
  | zero => intro n h x d t s C T Sc a b os sl; exact Pc.no
  | succ l ih =>
    intro n h x d t s C T Sc a b os sl
    have T2 := T.2
    show Pc (F_X7_readSum (L_X7_readSum l) n h x) _
    unfold F_X7_readSum
    refine Pc.bind (fun r e => And.intro (pc_readUnit X (pc_levels X l) (d := d) C T Sc a b r e) (qc_readUnit X (pc_levels X l) ih (w := 0) (d := d) C T Sc a b os sl r e)) (fun q hq => ?_)
    obtain ⟨⟨m1, f1, t1, m2, m3, m4, m5, m6⟩, M⟩ := hq
    by_cases z : zF q
    · obtain ⟨D, t2, r1, r2, r3, r4, r5⟩ := M z
      have z' : (hi q 2 5).toInt = 0 := z
      have f10 : f1 = 0 := by have := m2.1; omega
      have tt : t2 = t1 := by
        have x := r1.2
        have y := m2.2
        omega
      subst tt
      have lt := m6 f10
      have os' : osN q (s + D.length) := r3.1
      have w0 : (wl (0 : Int32).toInt).length = 0 := by rw [f0]; rfl
      refine (qc_sumL X (pc_levels X l) ih a b n q 0 0 t2 (s + D.length) (C.cg m1.tk) m3 r1 (by omega) (by omega) (Or.inl f0) os' (by omega)).mono (fun r hr z => ?_)
      obtain ⟨E, t3, e1, e2, e3, e4, e5⟩ := hr z
      rw [f0] at e2
      refine ⟨D ++ E, t3, e1, RD.sum r2 e2, r3.tr e3, ?_, e5⟩
      have : (D ++ E).length = D.length + E.length := by simp
      omega
    · exact qc_sumLF z
/-- a whole sum -/
theorem qc_sum (X : TX N kd pl vl) {h : Hp} {n : Nat} {t s : Nat} (C : CT N kd pl vl h) (T : tI2 N t) (Sc : cS h 0 t) (os : osN h s) (sl : s ≤ 3 + t) : Pc (F_X7_readSumT n h 0) (sumQ kd vl 2 0 0 t s h) := by
  unfold F_X7_readSumT
  exact qc_levels X 9 n h 0 0 t s C T Sc lit_0 (by omega) os sl
end SP
end
section
/-! SUMS: the orders that the reference lays down -/
/-- those that wait, as they lie there -/
def wsR (g : Nat → Int32) : List Int → Prop
  | [] => True
  | w :: r => (g r.length).toInt = rk w ∧ wsR g r
def wOK (W : List Int) : Prop := ∀ w ∈ W, w = 40 ∨ isOp w
theorem wsR.cg {g g' : Nat → Int32} : ∀ {W : List Int}, wsR g W → (∀ k, k < W.length → g' k = g k) → wsR g' W := by
  intro W
  induction W with
  | nil => intro _ _; trivial
  | cons x r ih =>
    intro h e
    have l : (x :: r).length = r.length + 1 := rfl
    exact ⟨by rw [e r.length (by omega)]; exact h.1, ih h.2 (fun k hk => e k (by omega))⟩
/-- how many ( wait -/
def n40 : List Int → Nat
  | [] => 0
  | w :: r => (if w = 40 then 1 else 0) + n40 r
theorem pop_n {s : Bool} : ∀ {W : List Int}, n40 (popW s W).2 = n40 W := by
  intro W
  induction W with
  | nil => rfl
  | cons w r ih =>
    unfold popW
    by_cases h : w = 40 ∨ (s = true ∧ (w = 43 ∨ w = 45))
    · rw [if_pos h]
    · rw [if_neg h]
      show n40 (popW s r).2 = (if w = 40 then 1 else 0) + n40 r
      rw [ih, if_neg (fun z => h (Or.inl z))]; omega
theorem pop_f : ∀ {W : List Int}, (popW false W).2 = [] ∨ ∃ V, (popW false W).2 = 40 :: V := by
  intro W
  induction W with
  | nil => exact Or.inl rfl
  | cons w r ih =>
    unfold popW
    by_cases h : w = 40 ∨ (false = true ∧ (w = 43 ∨ w = 45))
    · rw [if_pos h]
      rcases h with h | ⟨h, _⟩
      · exact Or.inr ⟨r, by rw [h]⟩
      · cases h
    · rw [if_neg h]
      exact ih
theorem pop_e {W : List Int} : (popW false W).2 = [] ↔ n40 W = 0 := by
  have e := pop_n (s := false) (W := W)
  rcases pop_f (W := W) with h | ⟨V, h⟩
  · rw [h] at e
    exact ⟨fun _ => e.symm, fun _ => h⟩
  · rw [h] at e
    have : n40 (40 :: V) = 1 + n40 V := by show (if (40 : Int) = 40 then 1 else 0) + n40 V = _; rw [if_pos rfl]
    exact ⟨fun z => (by rw [h] at z; cases z), fun z => by omega⟩
theorem pop_ok {s : Bool} : ∀ {W : List Int}, wOK W → wOK (popW s W).2 := by
  intro W
  induction W with
  | nil => intro h; exact h
  | cons w r ih =>
    intro h
    unfold popW
    by_cases c : w = 40 ∨ (s = true ∧ (w = 43 ∨ w = 45))
    · rw [if_pos c]; exact h
    · rw [if_neg c]
      exact ih (fun x hx => h x (List.mem_cons_of_mem _ hx))
/-- codes have been laid down from c on -/
def ocP (h q : Hp) (c : Nat) (C : List Int32) : Prop := (hi q 226 45).toInt = ((c + C.length : Nat) : Int) ∧ rcA (hi q 257) (hi q 258) c C ∧ ∀ k, k < c → hi q 257 k = hi h 257 k ∧ hi q 258 k = hi h 258 k
theorem ocP.nil {h q : Hp} {c : Nat} (o : (hi q 226 45).toInt = (c : Int)) (e : ∀ k, k < c → hi q 257 k = hi h 257 k ∧ hi q 258 k = hi h 258 k) : ocP h q c [] := ⟨o, trivial, e⟩
theorem ocP.tr {h q r : Hp} {c : Nat} {C D : List Int32} (a : ocP h q c C) (b : ocP q r (c + C.length) D) : ocP h r c (C ++ D) := by
  refine ⟨?_, rcA.app.mpr ⟨a.2.1.cg (fun k _ h2 => b.2.2 k h2), b.2.1⟩, fun k hk => ⟨(b.2.2 k (by omega)).1.trans (a.2.2 k hk).1, (b.2.2 k (by omega)).2.trans (a.2.2 k hk).2⟩⟩
  have := b.1
  rw [Nat.add_assoc, ← List.length_append] at this
  exact this
theorem ocP.k {h q r : Hp} {c : Nat} {C : List Int32} (a : ocP h q c C) (e45 : hi r 226 45 = hi q 226 45) (e7 : ∀ k, hi r 257 k = hi q 257 k) (e8 : ∀ k, hi r 258 k = hi q 258 k) : ocP h r c C := ⟨by rw [e45]; exact a.1, a.2.1.cg (fun k _ _ => ⟨e7 k, e8 k⟩), fun k hk => ⟨(e7 k).trans (a.2.2 k hk).1, (e8 k).trans (a.2.2 k hk).2⟩⟩
theorem ocP.l {h q r : Hp} {c : Nat} {C : List Int32} (a : ocP q r c C) (e7 : ∀ k, hi q 257 k = hi h 257 k) (e8 : ∀ k, hi q 258 k = hi h 258 k) : ocP h r c C := ⟨a.1, a.2.1, fun k hk => ⟨(a.2.2 k hk).1.trans (e7 k), (a.2.2 k hk).2.trans (e8 k)⟩⟩
theorem ocP.lk {h q r : Hp} {c : Nat} {C : List Int32} (a : ocP q r c C) (f : frQ h q) : ocP h r c C := a.l (fun k => f.1 257 k (by omega)) (fun k => f.1 258 k (by omega))
theorem ocP.kk {h q r : Hp} {c : Nat} {C : List Int32} (a : ocP h q c C) (f : frQ q r) : ocP h r c C := a.k (f.1 226 45 (by decide)) (fun k => f.1 257 k (by omega)) (fun k => f.1 258 k (by omega))
/-- those that wait lie there -/
def wtP (h : Hp) (W : List Int) : Prop := wsR (hi h 259) W ∧ (hi h 226 49).toInt = (W.length : Int) ∧ wOK W
theorem wtP.k {h q : Hp} {W : List Int} (a : wtP h W) (e49 : hi q 226 49 = hi h 226 49) (e9 : ∀ k, hi q 259 k = hi h 259 k) : wtP q W := ⟨a.1.cg (fun k _ => e9 k), by rw [e49]; exact a.2.1, a.2.2⟩
theorem wtP.q {h q : Hp} {W : List Int} (a : wtP h W) (f : frQ h q) : wtP q W := a.k (f.1 226 49 (by decide)) (fun k => f.1 259 k (by omega))
theorem oc_emit {n : Nat} {h : Hp} {x1 x2 c : Int32} {p : Nat} (o : (hi h 226 45).toInt = (p : Int)) (r : rcO c x1 x2) : Pc (F_X12_emit n h x1 x2) (fun q => ocP h q p [c] ∧ frN h q ∧ hi q 226 49 = hi h 226 49 ∧ ∀ k, hi q 259 k = hi h 259 k) := by
  have f1 := lit_1
  have n5 := ncT (show 0 ≤ (hi h 226 45).toInt by omega)
  have n5' : Int32.toNatClampNeg (hi h 226 45) = p := by omega
  unfold F_X12_emit
  refine Pc.chk (fun c1 => ?_)
  have p84 := ixO_lt c1
  have a1 := adT (hi h 226 45) 1 (by omega) (by omega)
  have e45 (v : Int32) : hi (wrI h 257 (Int32.toNatClampNeg (hi h 226 45)) v) 226 45 = hi h 226 45 := hiA rfl 226 45 (by decide)
  have e46 (v u : Int32) (k : Nat) : hi (wrI (wrI h 257 (Int32.toNatClampNeg (hi h 226 45)) v) 258 k u) 226 45 = hi h 226 45 := (hiA rfl 226 45 (by decide)).trans (e45 v)
  rw [e45, e46, n5']
  refine Pc.chk (fun _ => Pc.ret ⟨⟨?_, ?_, fun k hk => ⟨?_, ?_⟩⟩, ⟨fun a k n1 n2 n3 n4 => ?_, fun a k => rfl⟩, ?_, fun k => ?_⟩)
  · rw [hiE rfl]
    show (hi h 226 45 + 1).toInt = ((p + 1 : Nat) : Int)
    omega
  · refine ⟨?_, trivial⟩
    rw [hi_wrI, if_neg (by omega), hi_wrI, if_neg (by omega), hi_wrI, if_pos ⟨rfl, rfl⟩, hi_wrI, if_neg (by omega), hi_wrI, if_pos ⟨rfl, rfl⟩]
    exact r
  · rw [hi_wrI, if_neg (by omega), hi_wrI, if_neg (by omega), hi_wrI, if_neg (by omega)]
  · rw [hi_wrI, if_neg (by omega), hi_wrI, if_neg (by omega), hi_wrI, if_neg (by omega)]
  · rw [hi_wrI, if_neg (by omega), hi_wrI, if_neg (by omega), hi_wrI, if_neg (by omega)]
  · rw [hi_wrI, if_neg (by decide), hi_wrI, if_neg (by omega), hi_wrI, if_neg (by omega)]
  · rw [hi_wrI, if_neg (by omega), hi_wrI, if_neg (by omega), hi_wrI, if_neg (by omega)]
theorem lit_6' : (6 : Int32).toInt = 6 := by decide
theorem rk_vals : rk 40 = 6 ∧ rk 43 = 8 ∧ rk 45 = 9 ∧ rk 42 = 10 ∧ rk 47 = 15 := by decide
set_option maxHeartbeats 4000000 in
theorem oc_pops {l1 : Int32} {s : Bool} (hs : s = true ↔ l1 ≠ 0) : ∀ (W : List Int) (n : Nat) (h : Hp) (c : Nat), wtP h W → (hi h 226 45).toInt = (c : Int) → Pc (W_X12_comesOut n 0 h l1) (fun q => frN h q ∧ ocP h q c (popW s W).1 ∧ wtP q (popW s W).2 ∧ ∀ k, hi q 259 k = hi h 259 k) := by
  have f0 := lit_0
  have f1 := lit_1
  have f6 := lit_6'
  have f8 := lit_8
  have f9 := lit_9
  have f10 := lit_10
  obtain ⟨r40, r43, r45, r42, r47⟩ := rk_vals
  have me (h : Hp) : frN h h := ⟨fun _ _ _ _ _ _ => rfl, fun _ _ => rfl⟩
  intro W
  induction W with
  | nil =>
    intro n h c w o
    cases n with
    | zero => exact Pc.no
    | succ n =>
      have w2 := w.2.1
      have l0 : (([] : List Int).length : Int) = 0 := rfl
      rw [u_X12_comesOut]
      refine Pc.pos rfl ?_
      exact Pc.le (fun _ => Pc.ret ⟨me h, ocP.nil o (fun _ _ => ⟨rfl, rfl⟩), w, fun _ => rfl⟩) (fun q => by exfalso; omega)
  | cons w r ih =>
    intro n h c ww o
    cases n with
    | zero => exact Pc.no
    | succ n =>
      obtain ⟨w1, w2, w3⟩ := ww
      have l0 : ((w :: r).length : Int) = r.length + 1 := by simp
      have r49 := rgT (hi h 226 49)
      generalize e49' : (hi h 226 49 - 1 : Int32) = v49
      have sb := sbG e49' (w2.trans l0) f1 (by omega) (by omega)
      have n9 := ncT (show 0 ≤ v49.toInt by omega)
      have n9' : Int32.toNatClampNeg v49 = r.length := by omega
      have wv : (hi h 259 r.length).toInt = rk w := w1.1
      have wo := w3 w (List.mem_cons_self ..)
      have st (y : popW s (w :: r) = ([], w :: r)) : Pc (some h) (fun q => frN h q ∧ ocP h q c (popW s (w :: r)).1 ∧ wtP q (popW s (w :: r)).2 ∧ ∀ k, hi q 259 k = hi h 259 k) := by
        rw [y]
        exact Pc.ret ⟨me h, ocP.nil o (fun _ _ => ⟨rfl, rfl⟩), ⟨w1, w2, w3⟩, fun _ => rfl⟩
      have go (a : Int32) (hw : w ≠ 40) (hn : ¬ (s = true ∧ (w = 43 ∨ w = 45))) (ra : rcO (opc w) a 0) : Pc ((F_X12_emit n (wrI h 226 49 v49) a 0).bind (fun q => W_X12_comesOut n 0 q l1)) (fun q => frN h q ∧ ocP h q c (popW s (w :: r)).1 ∧ wtP q (popW s (w :: r)).2 ∧ ∀ k, hi q 259 k = hi h 259 k) := by
        have pe : popW s (w :: r) = (opc w :: (popW s r).1, (popW s r).2) := by
          conv => lhs; unfold popW
          rw [if_neg (fun z => z.elim hw hn)]
        rw [pe]
        have e45 : hi (wrI h 226 49 v49) 226 45 = hi h 226 45 := hiK rfl 226 45 (by decide)
        refine Pc.bind (oc_emit (by rw [e45]; exact o) ra) (fun q hq => ?_)
        obtain ⟨q1, q2, q3, q4⟩ := hq
        have k9 (k : Nat) : hi q 259 k = hi h 259 k := by rw [q4 k, hi_wrI, if_neg (by omega)]
        have wq : wtP q r := by
          refine ⟨w1.2.cg (fun k _ => k9 k), ?_, fun x hx => w3 x (List.mem_cons_of_mem _ hx)⟩
          rw [q3, hiE rfl]; omega
        have q1' := q1.l (h := h) (fun k => by rw [hi_wrI, if_neg (by omega)]) (fun k => by rw [hi_wrI, if_neg (by omega)])
        have fq : frN h q := (show frN h (wrI h 226 49 v49) from ⟨fun a k n1 n2 n3 n4 => by rw [hi_wrI, if_neg (by omega)], fun _ _ => rfl⟩).tr q2
        refine (ih n q (c + 1) wq q1.1).mono (fun u hu => ?_)
        obtain ⟨u1, u2, u3, u4⟩ := hu
        exact ⟨fq.tr u1, q1'.tr u2, u3, fun k => (u4 k).trans (k9 k)⟩
      rw [u_X12_comesOut, e49', n9']
      refine Pc.pos rfl ?_
      refine Pc.le (fun q => by exfalso; omega) (fun _ => Pc.chk (fun _ => ?_))
      unfold isOp at wo
      refine Pc.eq (fun q => ?_) (fun q => ?_)
      · have e40 : w = 40 := by
          rcases wo with z | z | z | z | z
          · exact z
          all_goals (rw [z] at wv; omega)
        refine st ?_
        conv => lhs; unfold popW
        rw [if_pos (Or.inl e40)]
      · have e40 : w ≠ 40 := fun z => by rw [z] at wv; omega
        refine Pc.eq (fun q0 => ?_) (fun q0 => ?_)
        · have sf : ¬ s = true := fun z => hs.mp z (Int32.toInt_inj.mp q0)
          have hn : ¬ (s = true ∧ (w = 43 ∨ w = 45)) := fun z => sf z.1
          refine Pc.eq (fun q8 => ?_) (fun q8 => ?_)
          · have e : w = 43 := by
              rcases wo with z | z | z | z | z
              · exact absurd z e40
              · rw [z] at wv; omega
              · exact z
              all_goals (rw [z] at wv; omega)
            exact go 2 e40 hn (by rw [e]; unfold rcO; decide)
          · refine Pc.eq (fun q9 => ?_) (fun q9 => ?_)
            · have e : w = 45 := by
                rcases wo with z | z | z | z | z
                · exact absurd z e40
                · rw [z] at wv; omega
                · rw [z] at wv; omega
                · exact z
                all_goals (rw [z] at wv; omega)
              exact go 3 e40 hn (by rw [e]; unfold rcO; decide)
            · refine Pc.eq (fun qx => ?_) (fun qx => ?_)
              · have e : w = 42 := by
                  rcases wo with z | z | z | z | z
                  · exact absurd z e40
                  · exact z
                  all_goals (rw [z] at wv; omega)
                exact go 4 e40 hn (by rw [e]; unfold rcO; decide)
              · have e : w = 47 := by
                  rcases wo with z | z | z | z | z
                  · exact absurd z e40
                  · rw [z] at wv; omega
                  · rw [z] at wv; omega
                  · rw [z] at wv; omega
                  · exact z
                exact go 5 e40 hn (by rw [e]; unfold rcO; decide)
        · have sf : s = true := hs.mpr (fun z => q0 (by rw [z]))
          refine Pc.eq (fun q8 => ?_) (fun q8 => ?_)
          · have e : w = 43 := by
              rcases wo with z | z | z | z | z
              · exact absurd z e40
              · rw [z] at wv; omega
              · exact z
              all_goals (rw [z] at wv; omega)
            refine st ?_
            conv => lhs; unfold popW
            rw [if_pos (Or.inr ⟨sf, Or.inl e⟩)]
          · refine Pc.eq (fun q9 => ?_) (fun q9 => ?_)
            · have e : w = 45 := by
                rcases wo with z | z | z | z | z
                · exact absurd z e40
                · rw [z] at wv; omega
                · rw [z] at wv; omega
                · exact z
                all_goals (rw [z] at wv; omega)
              refine st ?_
              conv => lhs; unfold popW
              rw [if_pos (Or.inr ⟨sf, Or.inr e⟩)]
            · have n4 : ¬ (w = 43 ∨ w = 45) := by
                intro z
                rcases z with z | z <;> rw [z] at wv <;> omega
              have hn : ¬ (s = true ∧ (w = 43 ∨ w = 45)) := fun z => n4 z.2
              refine Pc.eq (fun y => absurd y q8) (fun _ => Pc.eq (fun y => absurd y q9) (fun _ => ?_))
              refine Pc.eq (fun qx => ?_) (fun qx => ?_)
              · have e : w = 42 := by
                  rcases wo with z | z | z | z | z
                  · exact absurd z e40
                  · exact z
                  all_goals (rw [z] at wv; omega)
                exact go 4 e40 hn (by rw [e]; unfold rcO; decide)
              · have e : w = 47 := by
                  rcases wo with z | z | z | z | z
                  · exact absurd z e40
                  · rw [z] at wv; omega
                  · exact absurd (Or.inl z) n4
                  · exact absurd (Or.inr z) n4
                  · exact z
                exact go 5 e40 hn (by rw [e]; unfold rcO; decide)
end
section
/-! SUMS: the reference's orders, as it goes on -/
section ER
variable {N : Nat} {kd pl vl : Nat → Int} {h h' : Hp} {t : Nat} {f : Int} {n : Nat}
def zR (q : Hp) : Prop := (hi q 226 13).toInt = 0
/-- where there is no fault behind, what was laid down -/
def exQ (kd vl pl : Nat → Int) (u : Bool) (W : List Int) (t c : Nat) (h q : Hp) : Prop := zR q → ∃ C t', rT pl q 0 t' ∧ ME kd vl u W t (C, t') ∧ ocP h q c C
theorem exQ.no {u : Bool} {W : List Int} {t t' c : Nat} {h q : Hp} {f : Int} (S : rT pl q f t') (fz : f ≠ 0) : exQ kd vl pl u W t c h q := fun z => by
  exfalso
  have := S.2.1
  unfold zR at z
  omega
theorem qr_unit (X : TX N kd pl vl) (R : RT N kd pl vl h) (T : tI2 N t) (S : rT pl h 0 t) {c : Nat} (o : (hi h 226 45).toInt = (c : Int)) {W : List Int} (ws : wtP h W) : Pc (F_X12_unit n h) (fun q => zR q → ∃ x : Int32, rT pl q 0 (t + 1) ∧ (∀ C t', ME kd vl false W (t + 1) (C, t') → ME kd vl true W t (x :: C, t')) ∧ ocP h q c [x] ∧ wtP q W ∧ t < 400) := by
  have f0 := lit_0
  have f1 := lit_1
  have l33 : (33 : Int32).toInt = 33 := by decide
  have l41 := lit_41
  have d30 : (30 : Int) ∈ vdL := by decide
  unfold F_X12_unit
  refine Pc.bind (pr_is X R T S 30 d30 (by decide)) (fun q1 h1 => ?_)
  rw [h1.1]
  have st := S.2.2.1 rfl
  have n1 := ncT (show 0 ≤ (hi h 226 11).toInt by omega)
  have n2 : Int32.toNatClampNeg (hi h 226 11) = t := by omega
  rw [n2]
  have rt := (R t T).1
  have rv := rk_var _ (vdT X T)
  have em (a b x : Int32) (ra : rcO x a b) (me : ∀ C t', ME kd vl false W (t + 1) (C, t') → ME kd vl true W t (x :: C, t')) : Pc ((F_X12_emit n h a b).bind (fun q16 => ((F_X12_goesOn n q16).bind (fun q18 => some q18)))) (fun q => zR q → ∃ x : Int32, rT pl q 0 (t + 1) ∧ (∀ C t', ME kd vl false W (t + 1) (C, t') → ME kd vl true W t (x :: C, t')) ∧ ocP h q c [x] ∧ wtP q W ∧ t < 400) := by
    refine Pc.bind (oc_emit o ra) (fun q16 h16 => ?_)
    obtain ⟨a1, a2, a3, a4⟩ := h16
    refine Pc.bind (pr_goesOn' (R.cg a2.e.rt) T (a2.st S)) (fun q hq => Pc.ret (fun z => ?_))
    have s1 := hq.2
    unfold gnS at s1
    by_cases c4 : t < 400
    · rw [if_pos c4] at s1
      exact ⟨x, s1, me, a1.kk hq.1, (ws.k a3 a4).q hq.1, c4⟩
    · rw [if_neg c4] at s1
      exfalso
      have y : (hi q 226 13).toInt = 2 := s1.2.1
      unfold zR at z
      omega
  have no (nu : ¬ isUn (kd t)) : Pc ((F_X12_fail n h 1).bind (fun q9 => some q9)) (fun q => zR q → ∃ x : Int32, rT pl q 0 (t + 1) ∧ (∀ C t', ME kd vl false W (t + 1) (C, t') → ME kd vl true W t (x :: C, t')) ∧ ocP h q c [x] ∧ wtP q W ∧ t < 400) := by
    refine Pc.bind (pr_fail R T S (by decide)) (fun q hq => Pc.ret (fun z => ?_))
    have y := hq.2
    rw [if_pos rfl, f1] at y
    exfalso
    have y1 := y.2.1
    unfold zR at z
    omega
  refine Pc.eq (fun cc => ?_) (fun cc => ?_)
  · have n30 : kd t ≠ 30 := fun z => h1.2.mpr ⟨rfl, z⟩ (cc.trans f0)
    refine Pc.eq (fun _ => ?_) (fun c2 => by have := S.2.1; exfalso; omega)
    refine Pc.chk (fun c3 => ?_)
    refine Pc.lt (fun c4 => no (by unfold isUn; omega)) (fun c4 => ?_)
    refine Pc.chk (fun _ => ?_)
    refine Pc.lt (fun c5 => no (by unfold isUn; omega)) (fun c5 => ?_)
    refine Pc.chk (fun _ => ?_)
    have kv := rv.mp (by omega)
    have rkv : rk (kd t) = 33 + kd t := by unfold rk; rw [if_pos (by omega)]
    have o1 := ofI (z := -1 - kd t) (by omega) (by omega)
    generalize esc : (hi h 229 t - 33 : Int32) = sc
    have sb := sbG esc rt l33 (by omega) (by omega)
    clear esc
    exact em 1 _ (Int32.ofInt (-1 - kd t)) (by unfold rcO; omega) (fun C t' a => a.var kv)
  · obtain ⟨-, e3⟩ := h1.2.mp (by omega)
    have tN : t < N := by
      have T1 := T.1
      by_cases y : t < N
      · exact y
      · exfalso
        have : t = N := by omega
        have x := X.2.1
        rw [← this] at x
        omega
    have vr := X.2.2.1 t tN e3
    have tv := (R t T).2.2 e3
    have o1 := ofI (z := vl t) (by omega) (by omega)
    refine Pc.chk (fun _ => em 0 _ (Int32.ofInt (vl t)) ?_ (fun C t' a => a.num e3))
    unfold rcO
    refine Or.inl ⟨f0, by omega, Int32.toInt_inj.mp (by omega)⟩
/-- an operator, its waiting ones come out, it waits -/
theorem qr_opG (X : TX N kd pl vl) (R : RT N kd pl vl h) (T : tI2 N t) (S : rT pl h 0 t) {c : Nat} (o : (hi h 226 45).toInt = (c : Int)) {W : List Int} (ws : wtP h W) {s1 l1 : Int32} (hs : stB (kd t) = true ↔ s1 ≠ 0) (hop : isOp (kd t)) {P : Hp → Prop} (kk : ∀ q, frE h q → rT pl q (gnS t).1 (gnS t).2 → hi q 226 12 = hi h 226 12 → ocP h q c (popW (stB (kd t)) W).1 → wtP q (kd t :: (popW (stB (kd t)) W).2) → Pc (W_X12_expression n 12 q l1 1) P) : Pc (opG n h s1 l1) P := by
  have f1 := lit_1
  unfold opG F_X12_comesOut
  refine Pc.bind (oc_pops hs W n h c ws o) (fun q hq => ?_)
  obtain ⟨q1, q2, q3, q4⟩ := hq
  refine Pc.chk (fun _ => Pc.chk (fun c6 => ?_))
  have w2 := q3.2.1
  have ix := ixO_lt c6
  have st := (q1.st S).2.2.1 rfl
  have n1 := ncT (show 0 ≤ (hi q 226 11).toInt by omega)
  have n1' : Int32.toNatClampNeg (hi q 226 11) = t := by omega
  have n9 := ncT (show 0 ≤ (hi q 226 49).toInt by omega)
  have n9' : Int32.toNatClampNeg (hi q 226 49) = (popW (stB (kd t)) W).2.length := by omega
  have a1 := adT (hi q 226 49) 1 (by omega) (by omega)
  have tv : (hi q 229 t).toInt = rk (kd t) := by
    rw [q1.1 229 t (by decide) (by decide) (by decide) (by omega)]
    exact (R t T).1
  rw [n1', n9']
  have e49 (v : Int32) : hi (wrI q 259 (popW (stB (kd t)) W).2.length v) 226 49 = hi q 226 49 := hiA rfl 226 49 (by decide)
  rw [e49]
  generalize eg : wrI (wrI q 259 (popW (stB (kd t)) W).2.length (hi q 229 t)) 226 49 (hi q 226 49 + 1) = g
  have rg (a k : Nat) (m : ¬ (a = 259 ∧ k = (popW (stB (kd t)) W).2.length)) (m2 : ¬ (a = 226 ∧ k = 49)) : hi g a k = hi q a k := by
    rw [← eg, hi_wrI, if_neg m2, hi_wrI, if_neg m]
  have fg : frN h g := by
    refine q1.tr ⟨fun a k n1 n2 n3 n4 => rg a k (by omega) (by omega), fun a k => ?_⟩
    rw [← eg, hl_wrI, hl_wrI]
  have wg : wtP g (kd t :: (popW (stB (kd t)) W).2) := by
    refine ⟨⟨?_, q3.1.cg (fun k hk => rg 259 k (by omega) (by omega))⟩, ?_, ?_⟩
    · rw [← eg, hi_wrI, if_neg (by omega), hi_wrI, if_pos ⟨rfl, rfl⟩]
      exact tv
    · rw [← eg, hiE rfl]
      have : ((kd t :: (popW (stB (kd t)) W).2).length : Int) = (popW (stB (kd t)) W).2.length + 1 := by simp
      omega
    · intro x hx
      rcases List.mem_cons.mp hx with z | z
      · rw [z]; exact Or.inr hop
      · exact q3.2.2 x z
  have og : ocP h g c (popW (stB (kd t)) W).1 := q2.k (rg 226 45 (by omega) (by decide)) (fun k => rg 257 k (by omega) (by omega)) (fun k => rg 258 k (by omega) (by omega))
  refine Pc.bind (pr_goesOn' (R.cg fg.e.rt) T (fg.st S)) (fun r hr => ?_)
  exact kk r (fg.e.tr hr.1.e) hr.2 (hr.1.op.trans fg.op) (og.kk hr.1) (wg.q hr.1)
theorem qr_mr (X : TX N kd pl vl) (R : RT N kd pl vl h) (T : tI2 N t) (S : rT pl h 0 t) {c : Nat} (o : (hi h 226 45).toInt = (c : Int)) {W : List Int} (ws : wtP h W) (od : (hi h 226 12).toInt = (n40 W : Int)) {l1 : Int32} (b0 : l1.toInt = 0) (kk : ∀ q, frE h q → rT pl q (gnS t).1 (gnS t).2 → hi q 226 12 = hi h 226 12 → isOp (kd t) → ocP h q c (popW (stB (kd t)) W).1 → wtP q (kd t :: (popW (stB (kd t)) W).2) → Pc (W_X12_expression n 12 q l1 1) (exQ kd vl pl false W t c h)) : Pc (mrT n h l1) (exQ kd vl pl false W t c h) := by
  have f0 := lit_0
  have f1 := lit_1
  have two (hop : isOp (kd t)) : Pc (opD n h l1) (exQ kd vl pl false W t c h) := by
    unfold opD
    have one (s : Int32) (hs : stB (kd t) = true ↔ s ≠ 0) : Pc (opG n h s l1) (exQ kd vl pl false W t c h) := qr_opG X R T S o ws hs hop (fun q x1 x2 x3 x4 x5 => kk q x1 x2 x3 hop x4 x5)
    have sT (z : kd t = 42 ∨ kd t = 47) : stB (kd t) = true ↔ (1 : Int32) ≠ 0 := ⟨fun _ => by decide, fun _ => by unfold stB; exact decide_eq_true z⟩
    refine Pc.bind (pr_is X R T S 42 (by decide) (by decide)) (fun q1 h1 => ?_)
    rw [h1.1]
    refine Pc.eq (fun c1 => ?_) (fun c1 => one 1 (sT (Or.inl (h1.2.mp (by omega)).2)))
    refine Pc.bind (pr_is X R T S 47 (by decide) (by decide)) (fun q2 h2 => ?_)
    rw [h2.1]
    refine Pc.eq (fun c2 => one 0 ⟨fun z => ?_, fun z => absurd rfl z⟩) (fun c2 => one 1 (sT (Or.inr (h2.2.mp (by omega)).2)))
    unfold stB at z
    rcases of_decide_eq_true z with y | y
    · exact absurd (c1.trans f0) (h1.2.mpr ⟨rfl, y⟩)
    · exact absurd (c2.trans f0) (h2.2.mpr ⟨rfl, y⟩)
  unfold mrT
  refine Pc.bind (pr_is X R T S 43 (by decide) (by decide)) (fun q1 h1 => ?_)
  rw [h1.1]
  refine Pc.eq (fun c1 => ?_) (fun c1 => Pc.neg (by decide) (two (by have := (h1.2.mp (by omega)).2; unfold isOp; omega)))
  refine Pc.bind (pr_is X R T S 45 (by decide) (by decide)) (fun q2 h2 => ?_)
  rw [h2.1]
  refine Pc.eq (fun c2 => ?_) (fun c2 => Pc.neg (by decide) (two (by have := (h2.2.mp (by omega)).2; unfold isOp; omega)))
  refine Pc.bind (pr_is X R T S 42 (by decide) (by decide)) (fun q3 h3 => ?_)
  rw [h3.1]
  refine Pc.eq (fun c3 => ?_) (fun c3 => Pc.neg (by decide) (two (by have := (h3.2.mp (by omega)).2; unfold isOp; omega)))
  refine Pc.bind (pr_is X R T S 47 (by decide) (by decide)) (fun q4 h4 => ?_)
  rw [h4.1]
  refine Pc.eq (fun c4 => ?_) (fun c4 => Pc.neg (by decide) (two (by have := (h4.2.mp (by omega)).2; unfold isOp; omega)))
  have no : ¬ isOp (kd t) := by
    intro z
    unfold isOp at z
    rcases z with z | z | z | z
    · exact h3.2.mpr ⟨rfl, z⟩ (c3.trans f0)
    · exact h1.2.mpr ⟨rfl, z⟩ (c1.trans f0)
    · exact h2.2.mpr ⟨rfl, z⟩ (c2.trans f0)
    · exact h4.2.mpr ⟨rfl, z⟩ (c4.trans f0)
  have s0 : (false = true ↔ (0 : Int32) ≠ 0) := ⟨fun z => Bool.noConfusion z, fun z => absurd rfl z⟩
  refine Pc.pos rfl ?_
  unfold F_X12_comesOut
  refine Pc.le (fun cc => ?_) (fun cc => ?_)
  · have dz : n40 W = 0 := by omega
    have pe := pop_e.mpr dz
    refine Pc.bind (oc_pops s0 W n h c ws o) (fun q hq => Pc.ret (fun _ => ?_))
    exact ⟨_, t, hq.1.st S, ME.fin no pe, hq.2.1⟩
  · refine Pc.bind (pr_fail R T S (by decide)) (fun q hq => ?_)
    have z := hq.2
    rw [if_pos rfl, f1] at z
    exact Pc.bind (pr_comesOut n q) (fun r hr => Pc.ret (exQ.no (hr.st z) (by decide)))
theorem exQ.pre {u u' : Bool} {W W' : List Int} {t1 c : Nat} {D : List Int32} {q : Hp} (a : ocP h h' c D) (m : ∀ C t', ME kd vl u' W' t1 (C, t') → ME kd vl u W t (D ++ C, t')) (b : exQ kd vl pl u' W' t1 (c + D.length) h' q) : exQ kd vl pl u W t c h q := fun z => by
  obtain ⟨C, t', b1, b2, b3⟩ := b z
  exact ⟨D ++ C, t', b1, m C t' b2, a.tr b3⟩
set_option maxHeartbeats 8000000 in
theorem qr_exL (X : TX N kd pl vl) {l1 : Int32} (b0 : l1.toInt = 0) : ∀ n : Nat, (∀ (h : Hp) (W : List Int) (t c : Nat), RT N kd pl vl h → tI2 N t → rT pl h 0 t → (hi h 226 12).toInt = (n40 W : Int) → n40 W ≤ 6 → wtP h W → (hi h 226 45).toInt = (c : Int) → Pc (W_X12_expression n 12 h l1 1) (exQ kd vl pl true W t c h)) ∧ (∀ (h : Hp) (l2 : Int32) (W : List Int) (t c : Nat), RT N kd pl vl h → tI2 N t → rT pl h 0 t → (hi h 226 12).toInt = (n40 W : Int) → n40 W ≤ 6 → wtP h W → (hi h 226 45).toInt = (c : Int) → Pc (W_X12_expression n 23 h l1 l2) (exQ kd vl pl true W t c h)) ∧ (∀ (h : Hp) (l2 : Int32) (W : List Int) (t c : Nat), RT N kd pl vl h → tI2 N t → rT pl h 0 t → (hi h 226 12).toInt = (n40 W : Int) → n40 W ≤ 6 → wtP h W → (hi h 226 45).toInt = (c : Int) → Pc (W_X12_expression n 96 h l1 l2) (exQ kd vl pl false W t c h)) := by
  have f0 := lit_0
  have f1 := lit_1
  have f2 := lit_2
  have f6 := lit_6'
  have z1 : (1 : Int) ≠ 0 := by decide
  have z2 : (2 : Int) ≠ 0 := by decide
  obtain ⟨r40, -, -, -, -⟩ := rk_vals
  have s0 : (false = true ↔ (0 : Int32) ≠ 0) := ⟨fun z => Bool.noConfusion z, fun z => absurd rfl z⟩
  intro n
  induction n with
  | zero => exact ⟨fun _ _ _ _ _ _ _ _ _ _ _ => Pc.no, fun _ _ _ _ _ _ _ _ _ _ _ _ => Pc.no, fun _ _ _ _ _ _ _ _ _ _ _ _ => Pc.no⟩
  | succ n ih =>
    obtain ⟨i12, i23, i96⟩ := ih
    refine ⟨fun h W t c R T S od d6 ws o => ?_, fun h l2 W t c R T S od d6 ws o => ?_, fun h l2 W t c R T S od d6 ws o => ?_⟩
    · rw [u_X12_expression]
      refine Pc.pos rfl ?_
      refine Pc.neg (by decide) ?_
      exact Pc.eq (fun _ => i23 h _ W t c R T S od d6 ws o) (fun c => by have := S.2.1; exfalso; omega)
    · rw [u_X12_expression]
      refine Pc.neg (by decide) (Pc.pos rfl ?_)
      refine Pc.bind (pr_is X R T S 40 (by decide) (by decide)) (fun q3 h3 => ?_)
      rw [h3.1]
      refine Pc.eq (fun cc => ?_) (fun cc => ?_)
      · refine Pc.bind (fun q e => And.intro (pr_unit X R T S q e) (qr_unit X R T S o ws q e)) (fun q hq => ?_)
        obtain ⟨⟨u1, u2, u3⟩, U⟩ := hq
        refine Pc.le (fun c5 => ?_) (fun c5 => Pc.ret (fun z => by exfalso; unfold zR at z; omega))
        have zq : zR q := by
          unfold zR
          rcases u3 with ⟨hu, s1⟩ | ⟨nu, s1⟩
          · have := s1.1; have := s1.2.1; omega
          · have := s1.2.1; omega
        obtain ⟨x, x1, x2, x3, x4, x5⟩ := U zq
        have T1 : tI2 N (t + 1) := by
          rcases u3 with ⟨hu, s1⟩ | ⟨nu, s1⟩
          · have := gn_in X T (by unfold isUn at hu; omega)
            unfold gnS at this
            rw [if_pos x5] at this
            exact this
          · exfalso; have := s1.2.1; unfold zR at zq; omega
        exact (i96 q l2 W (t + 1) (c + 1) (R.cg u1.rt) T1 x1 (by rw [u2]; exact od) d6 x4 x3.1).mono (fun r hr => exQ.pre x3 x2 hr)
      · have e4 : kd t = 40 := (h3.2.mp (by omega)).2
        refine Pc.eq (fun c6 => ?_) (fun c6 => ?_)
        · refine Pc.bind (pr_fail R T S (by decide)) (fun q13 h13 => ?_)
          have s13 := h13.2
          rw [if_pos rfl, f2] at s13
          generalize eg : wrI q13 226 12 _ = g
          have fg : frE q13 g := ⟨fun a k n1 n2 n3 n4 => by rw [← eg, hi_wrI, if_neg (by omega)], fun a k => by rw [← eg, hl_wrI]⟩
          have sg : rT pl g 2 t := by
            unfold rT
            rw [← eg, hi_wrI, if_neg (by decide), hi_wrI, if_neg (by decide), hi_wrI, if_neg (by decide)]
            exact s13
          have eg1 := h13.1.e.tr fg
          refine Pc.bind (pr_goesOnF (R.cg eg1.rt) T z2 sg) (fun q15 h15 => ?_)
          refine Pc.chk (fun _ => ?_)
          generalize ek : wrI (wrI q15 259 _ _) 226 49 _ = k
          have fk : frN q15 k := by
            refine ⟨fun a z n1 n2 n3 n4 => ?_, fun a z => ?_⟩
            · rw [← ek, hi_wrI, if_neg (by omega), hi_wrI, if_neg (by omega)]
            · rw [← ek, hl_wrI, hl_wrI]
          refine (pr_23F (fk.st h15.2) z2).mono (fun r hr => ?_)
          rw [hr]
          exact exQ.no (fk.st h15.2) z2
        · have a1 := adT (hi h 226 12) 1 (by omega) (by omega)
          generalize eg : wrI h 226 12 _ = g
          have rg (a k : Nat) (m : ¬ (a = 226 ∧ k = 12)) : hi g a k = hi h a k := by rw [← eg, hi_wrI, if_neg m]
          have fg : frE h g := ⟨fun a k n1 n2 n3 n4 => rg a k (by omega), fun a k => by rw [← eg, hl_wrI]⟩
          have og : hi g 226 12 = hi h 226 12 + 1 := hiE eg
          have sg : rT pl g 0 t := by
            unfold rT
            rw [← eg, hi_wrI, if_neg (by decide), hi_wrI, if_neg (by decide), hi_wrI, if_neg (by decide)]
            exact S
          have wsg : wtP g W := ws.k (rg 226 49 (by decide)) (fun k => rg 259 k (by omega))
          have ocg : ocP h g c [] := ocP.nil (by rw [rg 226 45 (by decide)]; exact o) (fun k _ => ⟨rg 257 k (by omega), rg 258 k (by omega)⟩)
          refine Pc.bind (pr_goesOn' (R.cg fg.rt) T sg) (fun q10 h10 => ?_)
          refine Pc.chk (fun c64 => ?_)
          have wq := wsg.q h10.1
          have oq := ocg.kk h10.1
          have ix := ixO_lt c64
          have w2 := wq.2.1
          have n9 := ncT (show 0 ≤ (hi q10 226 49).toInt by omega)
          have n9' : Int32.toNatClampNeg (hi q10 226 49) = W.length := by omega
          have a9 := adT (hi q10 226 49) 1 (by omega) (by omega)
          rw [n9']
          have e49 (v : Int32) : hi (wrI q10 259 W.length v) 226 49 = hi q10 226 49 := hiA rfl 226 49 (by decide)
          rw [e49]
          generalize ek : wrI (wrI q10 259 _ _) 226 49 _ = k
          have rk' (a z : Nat) (m : ¬ (a = 259 ∧ z = W.length)) (m2 : ¬ (a = 226 ∧ z = 49)) : hi k a z = hi q10 a z := by
            rw [← ek, hi_wrI, if_neg m2, hi_wrI, if_neg m]
          have fk : frN q10 k := by
            refine ⟨fun a z n1 n2 n3 n4 => rk' a z (by omega) (by omega), fun a z => ?_⟩
            rw [← ek, hl_wrI, hl_wrI]
          have wk : wtP k (40 :: W) := by
            refine ⟨⟨?_, wq.1.cg (fun z hz => rk' 259 z (by omega) (by omega))⟩, ?_, ?_⟩
            · rw [← ek, hi_wrI, if_neg (by omega), hi_wrI, if_pos ⟨rfl, rfl⟩]
              omega
            · rw [← ek, hiE rfl]
              have : (((40 : Int) :: W).length : Int) = W.length + 1 := by simp
              omega
            · intro x hx
              rcases List.mem_cons.mp hx with z | z
              · exact Or.inl z
              · exact wq.2.2 x z
          have ok : ocP h k c [] := oq.k (rk' 226 45 (by omega) (by decide)) (fun z => rk' 257 z (by omega) (by omega)) (fun z => rk' 258 z (by omega) (by omega))
          have fa := (fg.tr h10.1.e).tr fk.e
          have s1 := fk.st h10.2
          have T1 := gn_in X T (by omega)
          have n41 : n40 (40 :: W) = 1 + n40 W := by show (if (40 : Int) = 40 then 1 else 0) + n40 W = _; rw [if_pos rfl]
          unfold gnS at s1 T1
          by_cases c4 : t < 400
          · rw [if_pos c4] at s1 T1
            exact (i23 k l2 (40 :: W) (t + 1) c (R.cg fa.rt) T1 s1 (by rw [fk.op, h10.1.op, og]; omega) (by omega) wk ok.1).mono (fun r hr => exQ.pre ok (fun C t' a => a.lp e4) hr)
          · rw [if_neg c4] at s1 T1
            refine (pr_23F s1 z2).mono (fun r hr => ?_)
            rw [hr]
            exact exQ.no s1 z2
    · have kk : ∀ q, frE h q → rT pl q (gnS t).1 (gnS t).2 → hi q 226 12 = hi h 226 12 → isOp (kd t) → ocP h q c (popW (stB (kd t)) W).1 → wtP q (kd t :: (popW (stB (kd t)) W).2) → Pc (W_X12_expression n 12 q l1 1) (exQ kd vl pl false W t c h) := by
        intro q x1 x2 x3 hop x4 x5
        have T1 := gn_in X T (by unfold isOp at hop; omega)
        have nn : n40 (kd t :: (popW (stB (kd t)) W).2) = n40 W := by
          show (if kd t = 40 then 1 else 0) + n40 (popW (stB (kd t)) W).2 = _
          rw [if_neg (by unfold isOp at hop; omega), pop_n]; omega
        unfold gnS at x2 T1
        by_cases c4 : t < 400
        · rw [if_pos c4] at x2 T1
          exact (i12 q _ (t + 1) _ (R.cg x1.rt) T1 x2 (by rw [x3, nn]; exact od) (by rw [nn]; exact d6) x5 x4.1).mono (fun r hr => exQ.pre x4 (fun C t' a => a.op hop) hr)
        · rw [if_neg c4] at x2 T1
          refine (pr_12F x2 z2).mono (fun r hr => ?_)
          rw [hr]
          exact exQ.no x2 z2
      rw [u_X12_expression]
      refine Pc.neg (by decide) (Pc.neg (by decide) (Pc.pos rfl ?_))
      refine Pc.bind (pr_is X R T S 41 (by decide) (by decide)) (fun q18 h18 => ?_)
      rw [h18.1]
      refine Pc.eq (fun cc => ?_) (fun cc => ?_)
      · exact qr_mr X R T S o ws od b0 kk
      · have e1 : kd t = 41 := (h18.2.mp (by omega)).2
        refine Pc.le (fun c2 => qr_mr X R T S o ws od b0 kk) (fun c2 => ?_)
        unfold F_X12_comesOut
        have dn : n40 W ≠ 0 := by omega
        have pn : (popW false W).2 ≠ [] := fun z => dn (pop_e.mp z)
        refine Pc.bind (oc_pops s0 W n h c ws o) (fun q366 h366 => ?_)
        obtain ⟨p1, p2, p3, p4⟩ := h366
        have o3 := p1.op
        generalize e12' : (hi h 226 12 - 1 : Int32) = v12
        have s3 := sbG e12' od f1 (by omega) (by omega)
        have e12 (v : Int32) : hi (wrI q366 226 49 v) 226 12 = hi h 226 12 := by rw [hi_wrI, if_neg (by decide)]; exact o3
        rw [e12, e12']
        obtain ⟨V, pV⟩ : ∃ V, (popW false W).2 = 40 :: V := (pop_f (W := W)).resolve_left pn
        have w2 := p3.2.1
        rw [pV] at w2 p3
        have lV : (((40 : Int) :: V).length : Int) = V.length + 1 := by simp
        generalize e49' : (hi q366 226 49 - 1 : Int32) = v49
        have s9 := sbG e49' (w2.trans lV) f1 (by omega) (by have := rgT (hi q366 226 49); omega)
        generalize eg : wrI (wrI q366 226 49 _) 226 12 _ = g
        have rg (a k : Nat) (m : ¬ (a = 226 ∧ (k = 49 ∨ k = 12))) : hi g a k = hi q366 a k := by
          rw [← eg, hi_wrI, if_neg (by omega), hi_wrI, if_neg (by omega)]
        have fg : frE q366 g := ⟨fun a k n1 n2 n3 n4 => rg a k (by omega), fun a k => by rw [← eg, hl_wrI, hl_wrI]⟩
        have og : hi g 226 12 = v12 := hiE eg
        have S3 := p1.st S
        have sg : rT pl g 0 t := by
          unfold rT
          rw [rg 226 13 (by decide), rg 226 11 (by decide), rg 226 14 (by decide)]
          exact S3
        have wg : wtP g V := by
          refine ⟨p3.1.2.cg (fun k _ => rg 259 k (by omega)), ?_, fun x hx => p3.2.2 x (List.mem_cons_of_mem _ hx)⟩
          rw [← eg, hi_wrI, if_neg (by decide), hiE rfl]
          omega
        have okg : ocP h g c (popW false W).1 := p2.k (rg 226 45 (by decide)) (fun k => rg 257 k (by omega)) (fun k => rg 258 k (by omega))
        have nV : n40 W = 1 + n40 V := by
          have := pop_n (s := false) (W := W)
          rw [pV] at this
          rw [← this]
          show (if (40 : Int) = 40 then 1 else 0) + n40 V = _
          rw [if_pos rfl]
        have fa := p1.e.tr fg
        refine Pc.bind (pr_goesOn' (R.cg fa.rt) T sg) (fun q368 h368 => ?_)
        have s1 := h368.2
        have T1 := gn_in X T (by omega)
        unfold gnS at s1 T1
        by_cases c4 : t < 400
        · rw [if_pos c4] at s1 T1
          refine (i96 q368 l2 V (t + 1) _ (R.cg (fa.tr h368.1.e).rt) T1 s1 (by rw [h368.1.op, og]; omega) (by omega) (wg.q h368.1) (okg.kk h368.1).1).mono (fun r hr => exQ.pre (okg.kk h368.1) (fun C t' a => ?_) hr)
          exact ME.rp e1 pn (by rw [pV]; exact a)
        · rw [if_neg c4] at s1 T1
          exact (pr_96F s1 z2).mono (fun r hr => exQ.no hr.2 z2)
/-- a whole sum -/
theorem qr_sum (X : TX N kd pl vl) (R : RT N kd pl vl h) (T : tI2 N t) (S : rT pl h 0 t) (od : (hi h 226 12).toInt = 0) {c : Nat} (o : (hi h 226 45).toInt = (c : Int)) : Pc (F_X12_expression n h) (exQ kd vl pl true [] t c h) := by
  have f0 := lit_0
  unfold F_X12_expression
  generalize eg : wrI h 226 49 0 = g
  have rg (a k : Nat) (m : ¬ (a = 226 ∧ k = 49)) : hi g a k = hi h a k := by rw [← eg, hi_wrI, if_neg m]
  have fg : frN h g := ⟨fun a k n1 n2 n3 n4 => rg a k (by omega), fun a k => by rw [← eg, hl_wrI]⟩
  have e49 : hi g 226 49 = 0 := hiE eg
  refine ((qr_exL X (l1 := hi g 226 12) (by rw [fg.op]; exact od) n).1 g [] t c (R.cg fg.e.rt) T (fg.st S) (by rw [fg.op]; exact od) (by decide) ⟨trivial, by rw [e49]; exact f0, fun x hx => absurd hx List.not_mem_nil⟩ (by rw [rg 226 45 (by decide)]; exact o)).mono (fun q hq z => ?_)
  obtain ⟨C, t', a1, a2, a3⟩ := hq z
  exact ⟨C, t', a1, a2, a3.l (fun k => rg 257 k (by omega)) (fun k => rg 258 k (by omega))⟩
end ER
end
