/-! A LAW's value, the reference -/
section RV
variable {v : Nat → Int32} {h0 : Hp}
/-- an order as the reference has it -/
def rcO (c : Int32) (k ci : Int32) : Prop := (k.toInt = 0 ∧ 0 ≤ c.toInt ∧ ci = c) ∨ (k.toInt = 1 ∧ -9 ≤ c.toInt ∧ c.toInt < 0 ∧ ci.toInt = -1 - c.toInt) ∨ (k.toInt = 2 ∧ c.toInt = -10) ∨ (k.toInt = 3 ∧ c.toInt = -11) ∨ (k.toInt = 4 ∧ c.toInt = -12) ∨ (k.toInt = 5 ∧ c.toInt = -13)
/-- orders laid down by the reference -/
def rcA (g gi : Nat → Int32) : Nat → List Int32 → Prop
  | _, [] => True
  | p, c :: r => rcO c (g p) (gi p) ∧ rcA g gi (p + 1) r
theorem rcA.cg {g gi g' gi' : Nat → Int32} : ∀ {C : List Int32} {p : Nat}, rcA g gi p C → (∀ k, p ≤ k → k < p + C.length → g' k = g k ∧ gi' k = gi k) → rcA g' gi' p C := by
  intro C
  induction C with
  | nil => intro p _ _; trivial
  | cons x r ih =>
    intro p h e
    have l : (x :: r).length = r.length + 1 := rfl
    refine ⟨?_, ih h.2 (fun k h1 h2 => e k (by omega) (by omega))⟩
    rw [(e p (Nat.le_refl p) (by omega)).1, (e p (Nat.le_refl p) (by omega)).2]
    exact h.1
theorem rcA.app {g gi : Nat → Int32} : ∀ {C D : List Int32} {p : Nat}, rcA g gi p (C ++ D) ↔ rcA g gi p C ∧ rcA g gi (p + C.length) D := by
  intro C
  induction C with
  | nil => intro D p; exact ⟨fun h => ⟨trivial, h⟩, fun h => h.2⟩
  | cons x r ih =>
    intro D p
    have l : p + (x :: r).length = p + 1 + r.length := by simp; omega
    rw [l]
    exact ⟨fun h => ⟨⟨h.1, (ih.mp h.2).1⟩, (ih.mp h.2).2⟩, fun h => ⟨h.1.1, ih.mpr ⟨h.1.2, h.2⟩⟩⟩
/-- what a term's telling changes: the pile, and whether it is broken -/
def trK (h h' : Hp) : Prop := (∀ x k, x ≠ 261 → ¬ (x = 226 ∧ k = 52) → hi h' x k = hi h x k) ∧ ∀ x k, hl h' x k = hl h x k
theorem trK.rf (h : Hp) : trK h h := ⟨fun _ _ _ _ => rfl, fun _ _ => rfl⟩
theorem trK.tr {p q r : Hp} (a : trK p q) (b : trK q r) : trK p r := ⟨fun x k n m => (b.1 x k n m).trans (a.1 x k n m), fun x k => (b.2 x k).trans (a.2 x k)⟩
theorem agr.t {h h' : Hp} (a : agr 261 h h') : trK h h' := ⟨fun x k n _ => a.1 x k n, a.2⟩
theorem trK.b {h h' : Hp} (a : trK h h') (u : Int32) : trK h (wrI h' 226 52 u) := ⟨fun x k n m => by rw [hi_wrI, if_neg m]; exact a.1 x k n m, fun x k => a.2 x k⟩
set_option maxHeartbeats 4000000 in
/-- orders gone through -/
theorem rv_run {l1 l2 : Int32} {S : Nat} (hS : l2.toInt = (S : Int)) (hv : ∀ k, k < 9 → hi h0 260 k = v k) : ∀ (C st : List Int32) (e : Nat) (n : Nat) (h : Hp) (l3 l4 : Int32) (p : Nat), agr 261 h0 h → dpL 400 C st.length = some e → rcA (hi h0 257) (hi h0 258) p C → p + C.length = S → skR (hi h 261) st → l3.toInt = (st.length : Int) → l4.toInt = (p : Int) → (0 < st.length ∨ C ≠ []) → Pc (W_X12_termOf n 5 h l1 l2 l3 l4) (fun q => trK h0 q.2 ∧ ((∃ s, rnV v C st = some s ∧ agr 261 h0 q.2 ∧ skR (hi q.2 261) s ∧ q.1 = hi q.2 261 0) ∨ (rnV v C st = none ∧ q.1 = 0 ∧ hi q.2 226 52 = 1))) := by
  have f0 := lit_0
  have f1 := lit_1
  have f2 := lit_2
  have f3 := lit_3
  have f4 := lit_4
  have f5 := lit_5
  have m1 := lit_m1
  intro C
  induction C with
  | nil =>
    intro st e n h l3 l4 p g d o z s e3 e4 ne
    cases n with
    | zero => exact Pc.no
    | succ n =>
      have lr : ([] : List Int32).length = 0 := rfl
      rw [u_X12_termOf]
      refine Pc.pos rfl ?_
      exact Pc.le (fun _ => Pc.ret ⟨g.t, Or.inl ⟨st, rfl, g, s, rfl⟩⟩) (fun q => by exfalso; omega)
  | cons c r ih =>
    intro st e n h l3 l4 p g d o z s e3 e4 ne
    cases n with
    | zero => exact Pc.no
    | succ n =>
      have lr : (c :: r).length = r.length + 1 := rfl
      have g57 (k : Nat) : hi h 257 k = hi h0 257 k := g.1 257 k (by decide)
      have g58 (k : Nat) : hi h 258 k = hi h0 258 k := g.1 258 k (by decide)
      have g60 (k : Nat) : hi h 260 k = hi h0 260 k := g.1 260 k (by decide)
      have n4 := ncT (show 0 ≤ l4.toInt by omega)
      have n4' : Int32.toNatClampNeg l4 = p := by omega
      obtain ⟨d1, d2⟩ := dpL_cons d
      obtain ⟨o1, o2⟩ := o
      rw [u_X12_termOf, n4', g57, g58]
      refine Pc.pos rfl ?_
      refine Pc.le (fun q => by exfalso; omega) (fun _ => Pc.chk (fun c84 => ?_))
      have p84 := ixO_lt c84
      have a4 := adT l4 1 (by omega) (by omega)
      have nx (s1 : List Int32) (h1 : Hp) (l3' : Int32) (e' : opV v c st = some s1) (x1 : agr 261 h0 h1) (x2 : skR (hi h1 261) s1) (x3 : l3'.toInt = (s1.length : Int)) (x4 : dpL 400 r s1.length = some e) (x5 : 0 < s1.length) : Pc (W_X12_termOf n 5 h1 l1 l2 l3' (l4 + 1)) (fun q => trK h0 q.2 ∧ ((∃ s, rnV v (c :: r) st = some s ∧ agr 261 h0 q.2 ∧ skR (hi q.2 261) s ∧ q.1 = hi q.2 261 0) ∨ (rnV v (c :: r) st = none ∧ q.1 = 0 ∧ hi q.2 226 52 = 1))) := by
        have er : rnV v (c :: r) st = rnV v r s1 := by
          show (opV v c st).bind (rnV v r) = _
          rw [e']; rfl
        rw [er]
        exact ih s1 e n h1 l3' (l4 + 1) (p + 1) x1 x4 o2 (by omega) x2 x3 (by omega) (Or.inl x5)
      unfold rcO at o1
      rcases opV_ok (v := v) (st := st) d1 (by omega) with ⟨q1, q2⟩ | ⟨q1, x, y, t, q2, q3⟩
      · rcases d2 with ⟨k1, k2, k3⟩ | ⟨k1, _⟩
        · refine Pc.le (fun q => by exfalso; omega) (fun _ => ?_)
          have n3 := ncT (show 0 ≤ l3.toInt by omega)
          have n3' : Int32.toNatClampNeg l3 = st.length := by omega
          have a3 := adT l3 1 (by omega) (by omega)
          have sl (u : Int32) : (u :: st).length = st.length + 1 := rfl
          refine Pc.eq (fun q => ?_) (fun q => ?_)
          · refine Pc.chk (fun _ => Pc.chk (fun _ => ?_))
            have ec : hi h0 258 p = c := by
              rcases o1 with ⟨_, _, w⟩ | ⟨w, _⟩ | ⟨w, _⟩ | ⟨w, _⟩ | ⟨w, _⟩ | ⟨w, _⟩
              · exact w
              all_goals (exfalso; omega)
            have c0 : 0 ≤ c.toInt := by omega
            rw [n3', ec]
            rw [if_pos c0] at q2
            exact nx _ _ _ q2 (g.w _ _) (sk_push s) (by rw [sl]; omega) k3 (by rw [sl]; omega)
          · refine Pc.chk (fun _ => Pc.chk (fun _ => Pc.chk (fun _ => ?_)))
            have cn : c.toInt < 0 ∧ (hi h0 258 p).toInt = -1 - c.toInt := by
              rcases o1 with ⟨w, _, _⟩ | ⟨_, _, w⟩ | ⟨w, _⟩ | ⟨w, _⟩ | ⟨w, _⟩ | ⟨w, _⟩
              · exfalso; omega
              · exact w
              all_goals (exfalso; omega)
            have ns := ncT (show 0 ≤ (hi h0 258 p).toInt by omega)
            have ns' : Int32.toNatClampNeg (hi h0 258 p) = (-1 - c.toInt).toNat := by omega
            rw [n3', ns', g60, hv _ (by omega)]
            rw [if_neg (by omega)] at q2
            exact nx _ _ _ q2 (g.w _ _) (sk_push s) (by rw [sl]; omega) k3 (by rw [sl]; omega)
        · exfalso; omega
      · rcases d2 with ⟨k1, _⟩ | ⟨k1, k2, k3⟩
        · exfalso; omega
        · subst q2
          have sl : ((y :: x :: t).length : Int) = t.length + 2 := by simp; omega
          have r3 := rgT l3
          generalize ed1 : (l3 + -1 : Int32) = d1
          generalize ed2 : (d1 - 1 : Int32) = d2
          have b1 := adG ed1 (e3.trans sl) m1 (by omega) (by omega)
          have b2' := sbG ed2 b1 f1 (by omega) (by omega)
          clear ed1 ed2
          have na := ncT (show 0 ≤ d1.toInt by omega)
          have na' : Int32.toNatClampNeg d1 = t.length + 1 := by omega
          have nb := ncT (show 0 ≤ d2.toInt by omega)
          have nb' : Int32.toNatClampNeg d2 = t.length := by omega
          have sy : hi h 261 (t.length + 1) = y := s.1
          have sx : hi h 261 t.length = x := s.2.1
          have k4 (u : Int32) : dpL 400 r (u :: t).length = some e := k3
          have tl (u : Int32) : ((u :: t).length : Int) = t.length + 1 := by simp
          have tl0 (u : Int32) : 0 < (u :: t).length := by simp
          refine Pc.le (fun _ => ?_) (fun q => by exfalso; omega)
          refine Pc.chk (fun _ => Pc.chk (fun _ => ?_))
          rw [na', nb', sy, sx]
          have go (u : Int32) (e' : opV v c (y :: x :: t) = some (u :: t)) : Pc (if ixOK d2 400 = true then W_X12_termOf n 5 (wrI h 261 t.length u) l1 l2 d1 (l4 + 1) else none) (fun q => trK h0 q.2 ∧ ((∃ s, rnV v (c :: r) (y :: x :: t) = some s ∧ agr 261 h0 q.2 ∧ skR (hi q.2 261) s ∧ q.1 = hi q.2 261 0) ∨ (rnV v (c :: r) (y :: x :: t) = none ∧ q.1 = 0 ∧ hi q.2 226 52 = 1))) :=
            Pc.chk (fun _ => nx _ _ _ e' (g.w _ _) (sk_op s) (by rw [tl]; omega) (k4 u) (tl0 u))
          refine Pc.eq (fun q => ?_) (fun q => ?_)
          · refine Pc.eq (fun q5 => ?_) (fun q5 => ?_)
            · have y0 : y = 0 := Int32.toInt_inj.mp q5
              have nn : rnV v (c :: r) (y :: x :: t) = none := by
                show (opV v c (y :: x :: t)).bind (rnV v r) = _
                rcases q3 with ⟨w1, w2, w3⟩ | ⟨w1, w2, w3⟩ | ⟨w1, w3⟩ | ⟨w1, w3⟩ | ⟨w1, w3⟩
                · rw [w3]; rfl
                · exact absurd y0 w2
                all_goals (exfalso; omega)
              exact Pc.ret ⟨g.t.b 1, Or.inr ⟨nn, rfl, hiE rfl⟩⟩
            · have y0 : y ≠ 0 := fun z => q5 (by rw [z])
              refine Pc.eq (fun q => by exfalso; omega) (fun _ => ?_)
              refine Pc.eq (fun q => by exfalso; omega) (fun _ => ?_)
              refine Pc.eq (fun q => by exfalso; omega) (fun _ => ?_)
              refine Pc.eq (fun q => absurd q q5) (fun _ => ?_)
              rcases q3 with ⟨w1, w2, w3⟩ | ⟨w1, w2, w3⟩ | ⟨w1, w3⟩ | ⟨w1, w3⟩ | ⟨w1, w3⟩
              · exact absurd w2 y0
              · exact go _ w3
              all_goals (exfalso; omega)
          · refine Pc.eq (fun q2 => ?_) (fun q2 => ?_)
            · rcases q3 with ⟨w1, w2, w3⟩ | ⟨w1, w2, w3⟩ | ⟨w1, w3⟩ | ⟨w1, w3⟩ | ⟨w1, w3⟩
              · exfalso; omega
              · exfalso; omega
              · exfalso; omega
              · exfalso; omega
              · exact go _ w3
            · refine Pc.eq (fun q2 => ?_) (fun q2 => ?_)
              · rcases q3 with ⟨w1, w2, w3⟩ | ⟨w1, w2, w3⟩ | ⟨w1, w3⟩ | ⟨w1, w3⟩ | ⟨w1, w3⟩
                · exfalso; omega
                · exfalso; omega
                · exfalso; omega
                · exact go _ w3
                · exfalso; omega
              · refine Pc.eq (fun q2 => ?_) (fun q2 => ?_)
                · rcases q3 with ⟨w1, w2, w3⟩ | ⟨w1, w2, w3⟩ | ⟨w1, w3⟩ | ⟨w1, w3⟩ | ⟨w1, w3⟩
                  · exfalso; omega
                  · exfalso; omega
                  · exact go _ w3
                  · exfalso; omega
                  · exfalso; omega
                · exfalso; omega
/-- a term, as it is told -/
theorem rv_term {n : Nat} {h : Hp} {x1 x2 : Int32} {p : Nat} {C : List Int32} (hv : ∀ k, k < 9 → hi h 260 k = v k) (gd : gdC 400 C) (o : rcA (hi h 257) (hi h 258) p C) (e1 : x1.toInt = (p : Int)) (e2 : x2.toInt = (p : Int) + C.length) : Pc (F_X12_termOf n h x1 x2) (fun q => trK h q.2 ∧ ((∃ x, rnV v C [] = some [x] ∧ q.1 = x ∧ hi q.2 226 52 = hi h 226 52) ∨ (rnV v C [] = none ∧ hi q.2 226 52 = 1))) := by
  have f0 := lit_0
  unfold F_X12_termOf
  have cn : C ≠ [] := fun z => by
    rw [z] at gd
    have gd' : (some 0 : Option Nat) = some 1 := gd
    exact absurd gd' (by decide)
  refine (rv_run (S := p + C.length) (by omega) hv C [] 1 n h 0 x1 p (agr.rf 261 h) gd o rfl trivial f0 e1 (Or.inr cn)).mono (fun q hq => ⟨hq.1, ?_⟩)
  rcases hq.2 with ⟨s, s1, s2, s3, s4⟩ | ⟨s1, s2, s3⟩
  · left
    have sl := rnV_len (st := []) gd s1
    rcases s with _ | ⟨x, _ | ⟨u, t⟩⟩
    · exact absurd sl (by simp)
    rotate_left
    · exact absurd sl (by simp)
    · exact ⟨x, s1, by rw [s4]; exact s3.1, s2.1 226 52 (by decide)⟩
  · exact Or.inr ⟨s1, s3⟩
theorem dpL_mono {m m' : Nat} (hm : m ≤ m') : ∀ {C : List Int32} {d e : Nat}, dpL m C d = some e → dpL m' C d = some e := by
  intro C
  induction C with
  | nil => intro d e h; exact h
  | cons c r ih =>
    intro d e h
    obtain ⟨g1, g2⟩ := dpL_cons h
    show (if -13 ≤ c.toInt then (if -9 ≤ c.toInt then (if d < m' then dpL m' r (d + 1) else none) else if 2 ≤ d then dpL m' r (d - 1) else none) else none) = some e
    rw [if_pos g1]
    rcases g2 with ⟨k1, k2, k3⟩ | ⟨k1, k2, k3⟩
    · rw [if_pos k1, if_pos (by omega)]; exact ih k3
    · rw [if_neg (by omega), if_pos k2]; exact ih k3
theorem gdC.up {C : List Int32} (h : gdC 16 C) : gdC 400 C := dpL_mono (by decide) h
/-- what is laid down of a law by the reference, from branch B on; U: no code from there on -/
def rlB (h : Hp) (U : Nat) : Nat → List ((List Int32 × List Int32) × List Int32) → List Int32 → Prop
  | B, [], f => (vp_nar .boolean (hi h 252 B)).toInt = 0 ∧ ∃ p : Nat, (hi h 255 B).toInt = (p : Int) ∧ (hi h 256 B).toInt = (p : Int) + f.length ∧ rcA (hi h 257) (hi h 258) p f ∧ p + f.length ≤ U
  | B, ((x, y), c) :: r, f => ((vp_nar .boolean (hi h 252 B)).toInt ≠ 0 ∧ ∃ p : Nat, (hi h 253 B).toInt = (p : Int) ∧ (hi h 254 B).toInt = (p : Int) + x.length ∧ (hi h 255 B).toInt = ((p + x.length : Nat) : Int) + y.length ∧ (hi h 256 B).toInt = ((p + x.length + y.length : Nat) : Int) + c.length ∧ rcA (hi h 257) (hi h 258) p x ∧ rcA (hi h 257) (hi h 258) (p + x.length) y ∧ rcA (hi h 257) (hi h 258) (p + x.length + y.length) c ∧ p + x.length + y.length + c.length ≤ U) ∧ rlB h U (B + 1) r f
theorem rlB.cg {h h' : Hp} {U U' : Nat} (hU : U ≤ U') : ∀ {bs : List ((List Int32 × List Int32) × List Int32)} {B : Nat} {f : List Int32}, (∀ a k, 252 ≤ a → a ≤ 256 → B ≤ k → k ≤ B + bs.length → hi h' a k = hi h a k) → (∀ k, k < U → hi h' 257 k = hi h 257 k ∧ hi h' 258 k = hi h 258 k) → rlB h U B bs f → rlB h' U' B bs f := by
  intro bs
  induction bs with
  | nil =>
    intro B f e1 e2 o
    unfold rlB at o ⊢
    have l : B ≤ B + ([] : List ((List Int32 × List Int32) × List Int32)).length := Nat.le_add_right _ _
    rw [e1 252 B (by decide) (by decide) (Nat.le_refl B) l, e1 255 B (by decide) (by decide) (Nat.le_refl B) l, e1 256 B (by decide) (by decide) (Nat.le_refl B) l]
    obtain ⟨o1, p, o2, o3, o4, o5⟩ := o
    exact ⟨o1, p, o2, o3, o4.cg (fun k _ h2 => e2 k (by omega)), by omega⟩
  | cons b t ih =>
    intro B f e1 e2 o
    obtain ⟨⟨x, y⟩, c⟩ := b
    unfold rlB at o ⊢
    have l0 : (((x, y), c) :: t).length = t.length + 1 := rfl
    have l : B ≤ B + (((x, y), c) :: t).length := Nat.le_add_right _ _
    rw [e1 252 B (by decide) (by decide) (Nat.le_refl B) l, e1 253 B (by decide) (by decide) (Nat.le_refl B) l, e1 254 B (by decide) (by decide) (Nat.le_refl B) l, e1 255 B (by decide) (by decide) (Nat.le_refl B) l, e1 256 B (by decide) (by decide) (Nat.le_refl B) l]
    obtain ⟨⟨o1, p, o2, o3, o4, o5, o6, o7, o8, o9⟩, o10⟩ := o
    exact ⟨⟨o1, p, o2, o3, o4, o5, o6.cg (fun k _ h2 => e2 k (by omega)), o7.cg (fun k _ h2 => e2 k (by omega)), o8.cg (fun k _ h2 => e2 k (by omega)), by omega⟩, ih (fun a k h1 h2 h3 h4 => e1 a k h1 h2 (by omega) (by omega)) e2 o10⟩
set_option maxHeartbeats 2000000 in
/-- a law from a branch on -/
theorem rv_law {U : Nat} {l1 l2 l3 : Int32} {f : List Int32} (gf : gdC 16 f) (hv : ∀ k, k < 9 → hi h0 260 k = v k) {E : Nat} {i : Nat} (hi3 : l3.toInt = (i : Int)) (hE : (hi h0 251 i).toInt = (E : Int)) : ∀ (bs : List ((List Int32 × List Int32) × List Int32)) (n : Nat) (h : Hp) (l4 : Int32) (B : Nat), gdB 16 bs → trK h0 h → (vp_nar .boolean (hi h 226 52)).toInt = 0 → rlB h0 U B bs f → B + bs.length + 1 = E → l4.toInt = (B : Int) → Pc (W_X12_lawTells n 39 h l1 l2 l3 l4) (fun q => trK h0 q.2 ∧ q.1 = lwV v bs f) := by
  have f0 := lit_0
  have f1 := lit_1
  have b1 : (vp_nar .boolean (1 : Int32)).toInt = 1 := by decide
  have rE := rgT (hi h0 251 i)
  intro bs
  induction bs with
  | nil =>
    intro n h l4 B gb t br o eE e4
    cases n with
    | zero => exact Pc.no
    | succ n =>
      have lr : ([] : List ((List Int32 × List Int32) × List Int32)).length = 0 := rfl
      have n4 := ncT (show 0 ≤ l4.toInt by omega)
      have n4' : Int32.toNatClampNeg l4 = B := by omega
      have n3 := ncT (show 0 ≤ l3.toInt by omega)
      have n3' : Int32.toNatClampNeg l3 = i := by omega
      have ta (a k : Nat) (x1 : a ≠ 261) (x2 : a ≠ 226) : hi h a k = hi h0 a k := t.1 a k x1 (fun z => x2 z.1)
      obtain ⟨o1, p, o2, o3, o4, -⟩ := o
      rw [u_X12_lawTells, n3', n4', ta 251 i (by decide) (by decide), ta 252 B (by decide) (by decide), ta 255 B (by decide) (by decide), ta 256 B (by decide) (by decide)]
      refine Pc.pos rfl (Pc.chk (fun _ => ?_))
      refine Pc.le (fun q => by exfalso; omega) (fun _ => Pc.chk (fun _ => ?_))
      refine Pc.eq (fun _ => ?_) (fun q => by exfalso; omega)
      refine Pc.chk (fun _ => Pc.chk (fun _ => ?_))
      refine Pc.bind (rv_term (v := v) (p := p) (C := f) (fun k hk => by rw [ta 260 k (by decide) (by decide)]; exact hv k hk) gf.up (o4.cg (fun k _ _ => ⟨ta 257 k (by decide) (by decide), ta 258 k (by decide) (by decide)⟩)) o2 o3) (fun q7 h7 => ?_)
      obtain ⟨k1, k2⟩ := h7
      rcases k2 with ⟨x, x1, x2, x3⟩ | ⟨x1, x2⟩
      · rw [x3]
        refine Pc.eq (fun _ => Pc.ret ⟨t.tr k1, ?_⟩) (fun q => by exfalso; omega)
        show q7.1 = lwV v [] f
        unfold lwV
        rw [x1]; exact x2
      · rw [x2]
        refine Pc.eq (fun q => by exfalso; omega) (fun _ => Pc.ret ⟨t.tr k1, ?_⟩)
        show (0 : Int32) = lwV v [] f
        unfold lwV
        rw [x1]
  | cons b r ih =>
    intro n h l4 B gb t br o eE e4
    obtain ⟨⟨x, y⟩, c⟩ := b
    have gd := gb _ (List.mem_cons_self ..)
    have gr : gdB 16 r := fun b hb => gb b (List.mem_cons_of_mem _ hb)
    cases n with
    | zero => exact Pc.no
    | succ n =>
      have lr : (((x, y), c) :: r).length = r.length + 1 := rfl
      have n4 := ncT (show 0 ≤ l4.toInt by omega)
      have n4' : Int32.toNatClampNeg l4 = B := by omega
      have n3 := ncT (show 0 ≤ l3.toInt by omega)
      have n3' : Int32.toNatClampNeg l3 = i := by omega
      have ta {g : Hp} (t : trK h0 g) (a k : Nat) (x1 : a ≠ 261) (x2 : a ≠ 226) : hi g a k = hi h0 a k := t.1 a k x1 (fun z => x2 z.1)
      obtain ⟨⟨o1, p, o2, o3, o4, o5, o6, o7, o8, -⟩, o9⟩ := o
      rw [u_X12_lawTells, n3', n4', ta t 251 i (by decide) (by decide), ta t 252 B (by decide) (by decide), ta t 253 B (by decide) (by decide), ta t 254 B (by decide) (by decide)]
      refine Pc.pos rfl (Pc.chk (fun _ => ?_))
      refine Pc.le (fun q => by exfalso; omega) (fun c4 => Pc.chk (fun _ => ?_))
      refine Pc.eq (fun q => by exfalso; omega) (fun _ => ?_)
      refine Pc.chk (fun _ => Pc.chk (fun _ => ?_))
      have tm {g : Hp} (t : trK h0 g) {C : List Int32} {p : Nat} (gd : gdC 16 C) (oo : rcA (hi h0 257) (hi h0 258) p C) {x1 x2 : Int32} (e1 : x1.toInt = (p : Int)) (e2 : x2.toInt = (p : Int) + C.length) {n : Nat} : Pc (F_X12_termOf n g x1 x2) (fun q => trK g q.2 ∧ ((∃ x, rnV v C [] = some [x] ∧ q.1 = x ∧ hi q.2 226 52 = hi g 226 52) ∨ (rnV v C [] = none ∧ hi q.2 226 52 = 1))) :=
        rv_term (fun k hk => by rw [ta t 260 k (by decide) (by decide)]; exact hv k hk) gd.up (oo.cg (fun k _ _ => ⟨ta t 257 k (by decide) (by decide), ta t 258 k (by decide) (by decide)⟩)) e1 e2
      refine Pc.bind (tm t gd.1 o6 o2 o3) (fun q12 h12 => ?_)
      obtain ⟨k1, k2⟩ := h12
      have t12 := t.tr k1
      rw [ta t12 254 B (by decide) (by decide), ta t12 255 B (by decide) (by decide)]
      refine Pc.chk (fun _ => Pc.chk (fun _ => ?_))
      refine Pc.bind (tm t12 gd.2.2.1 o7 (by omega) o4) (fun q16 h16 => ?_)
      obtain ⟨j1, j2⟩ := h16
      have t16 := t12.tr j1
      have ap : rnV v (x ++ y) [] = (rnV v x []).bind (rnV v y) := rnV_app
      have bl (u : Int32) : rnV v y [u] = (rnV v y []).map (fun s => s ++ [u]) := rnV_below (st := []) gd.2.2.1
      rcases k2 with ⟨u, u1, u2, u3⟩ | ⟨u1, u2⟩
      · rcases j2 with ⟨w, w1, w2, w3⟩ | ⟨w1, w2⟩
        · have e : rnV v (x ++ y) [] = some [w, u] := by
            rw [ap, u1]
            show rnV v y [u] = _
            rw [bl, w1]; rfl
          rw [w3, u3]
          refine Pc.eq (fun _ => ?_) (fun q => by exfalso; omega)
          unfold lwV
          rw [e]
          simp only
          rw [u2, w2]
          refine Pc.lt (fun q => ?_) (fun q => ?_)
          · rw [if_pos q, ta t16 255 B (by decide) (by decide), ta t16 256 B (by decide) (by decide)]
            refine Pc.chk (fun _ => Pc.chk (fun _ => ?_))
            refine Pc.bind (tm t16 gd.2.2.2 o8 (by omega) o5) (fun q22 h22 => ?_)
            obtain ⟨i1, i2⟩ := h22
            rcases i2 with ⟨z, z1, z2, z3⟩ | ⟨z1, z2⟩
            · rw [z3, w3, u3]
              refine Pc.eq (fun _ => Pc.ret ⟨t16.tr i1, ?_⟩) (fun q => by exfalso; omega)
              rw [z1]; exact z2
            · rw [z2]
              refine Pc.eq (fun q => by exfalso; omega) (fun _ => Pc.ret ⟨t16.tr i1, ?_⟩)
              rw [z1]
          · rw [if_neg (by omega)]
            have a4 := adT l4 1 (by omega) (by omega)
            exact ih n _ _ _ gr t16 (by rw [w3, u3]; exact br) o9 (by omega) (by omega)
        · have e : rnV v (x ++ y) [] = none := by
            rw [ap, u1]
            show rnV v y [u] = _
            rw [bl, w1]; rfl
          rw [w2]
          refine Pc.eq (fun q => by exfalso; omega) (fun _ => Pc.ret ⟨t16, ?_⟩)
          show (0 : Int32) = lwV v (((x, y), c) :: r) f
          unfold lwV
          rw [e]
      · have e : rnV v (x ++ y) [] = none := by
          rw [ap, u1]; rfl
        -- what is broken stays so
        have z : hi q16.2 226 52 = 1 := by
          rcases j2 with ⟨w, w1, w2, w3⟩ | ⟨w1, w2⟩
          · rw [w3, u2]
          · exact w2
        rw [z]
        refine Pc.eq (fun q => by exfalso; omega) (fun _ => Pc.ret ⟨t16, ?_⟩)
        show (0 : Int32) = lwV v (((x, y), c) :: r) f
        unfold lwV
        rw [e]
/-- a law of the reference's: not told, or laid down -/
def rlO (h : Hp) (U : Nat) (i : Nat) (pl : Int32) (bs : List ((List Int32 × List Int32) × List Int32)) (f : List Int32) : Prop := ((hi h 250 i).toInt = (hi h 251 i).toInt ∧ bs = [] ∧ f = [pl] ∧ 0 ≤ pl.toInt) ∨ ∃ B : Nat, (hi h 250 i).toInt = (B : Int) ∧ (hi h 251 i).toInt = (B : Int) + bs.length + 1 ∧ rlB h U B bs f
theorem rv_tells {n U : Nat} {h : Hp} {x1 x2 : Int32} {k L : Nat} {bs : List ((List Int32 × List Int32) × List Int32)} {f : List Int32} (gf : gdC 16 f) (gb : gdB 16 bs) (hv : ∀ k, k < 9 → hi h 260 k = v k) (e1 : x1.toInt = (k : Int)) (k4 : k < 4) (eL : (hi h 226 18).toInt = (L : Int)) (L1 : L ≤ 1) (o : rlO h U (4 * L + k) x2 bs f) : Pc (F_X12_lawTells n h x1 x2) (fun q => trK h q.2 ∧ q.1 = lwV v bs f) := by
  have f0 := lit_0
  have f4 := lit_4
  have m4 := mlT 4 (hi h 226 18) 4 f4 (by omega) (by omega)
  have a1 := adT (4 * hi h 226 18) x1 (by omega) (by omega)
  have n1 := ncT (show 0 ≤ (4 * hi h 226 18 + x1).toInt by omega)
  have n1' : Int32.toNatClampNeg (4 * hi h 226 18 + x1) = 4 * L + k := by omega
  unfold F_X12_lawTells
  rw [n1']
  refine Pc.chk (fun _ => Pc.chk (fun _ => ?_))
  rcases o with ⟨o1, o2, o3, o4⟩ | ⟨B, o1, o2, o3⟩
  · refine Pc.eq (fun _ => Pc.ret ⟨trK.rf h, ?_⟩) (fun q => absurd o1 q)
    subst o2 o3
    show x2 = lwV v [] [x2]
    unfold lwV
    have : rnV v [x2] [] = some [x2] := by
      show (opV v x2 []).bind (rnV v []) = _
      unfold opV
      rw [if_pos (by omega), if_pos o4]; rfl
    rw [this]
  · refine Pc.eq (fun q => by exfalso; omega) (fun _ => Pc.chk (fun _ => ?_))
    have b0 : (vp_nar .boolean (0 : Int32)).toInt = 0 := by decide
    refine (rv_law (h0 := wrI h 226 52 0) (E := B + bs.length + 1) (i := 4 * L + k) gf (fun k hk => hv k hk) (by omega) (by
      rw [hi_wrI, if_neg (by omega)]; omega) bs n _ _ B gb (trK.rf _) (by rw [hiE rfl]; exact b0) (o3.cg (Nat.le_refl U) (fun a k x1 x2 _ _ => by rw [hi_wrI, if_neg (by omega)]) (fun k _ => ⟨by rw [hi_wrI, if_neg (by omega)], by rw [hi_wrI, if_neg (by omega)]⟩)) rfl (by rw [hi_wrI, if_neg (by omega)]; exact o1)).mono (fun q hq => ⟨?_, hq.2⟩)
    exact ⟨fun x k y1 y2 => by rw [hq.1.1 x k y1 y2, hi_wrI, if_neg y2], fun x k => hq.1.2 x k⟩
end RV
