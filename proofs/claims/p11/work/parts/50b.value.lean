/-! A LAW's value, the class -/
theorem lit_404' : (404 : Int32).toInt = 404 := by decide
section CV
variable {a b2 : Nat} {l1 : Int32} {v : Nat → Int32} {P : Int32 × Hp → Prop} {h0 : Hp}
theorem agr.tr {x : Nat} {p q r : Hp} (h1 : agr x p q) (h2 : agr x q r) : agr x p r := ⟨fun y k n => (h2.1 y k n).trans (h1.1 y k n), fun y k => (h2.2 y k).trans (h1.2 y k)⟩
theorem agr.rf (x : Nat) (p : Hp) : agr x p p := ⟨fun _ _ _ => rfl, fun _ _ => rfl⟩
theorem agr.w {x : Nat} {p q : Hp} (h : agr x p q) (k : Nat) (u : Int32) : agr x p (wrI q x k u) := ⟨fun y j n => by rw [hi_wrI, if_neg (fun z => n z.1)]; exact h.1 y j n, fun y j => h.2 y j⟩
theorem sk_push {x : Nat} {h : Hp} {st : List Int32} {u : Int32} (s : skR (hi h x) st) : skR (hi (wrI h x st.length u) x) (u :: st) := by
  refine ⟨by rw [hi_wrI, if_pos ⟨rfl, rfl⟩], s.cg (fun k hk => ?_)⟩
  rw [hi_wrI, if_neg (by omega)]
theorem sk_op {x : Nat} {h : Hp} {r : List Int32} {p q u : Int32} (s : skR (hi h x) (q :: p :: r)) : skR (hi (wrI h x r.length u) x) (u :: r) := by
  refine ⟨by rw [hi_wrI, if_pos ⟨rfl, rfl⟩], s.2.2.cg (fun k hk => ?_)⟩
  rw [hi_wrI, if_neg (by omega)]
set_option maxHeartbeats 4000000 in
/-- orders gone through -/
theorem cv_run {S : Int} (sz : (hi h0 a 3).toInt = S) (s4 : S ≤ 404) (hv : ∀ k, k < 9 → hi h0 b2 k = v k) (nb : b2 ≠ a + 3) : ∀ (C st : List Int32) (e : Nat) (n : Nat) (h : Hp) (l3 l4 l5 : Int32) (p : Nat), agr (a + 3) h0 h → dpL 16 C st.length = some e → odA (hi h0 (a + 1)) p C → (p : Int) + C.length < S → skR (hi h (a + 3)) st → l3.toInt = (st.length : Int) → l4.toInt = (p : Int) → 0 ≤ l5.toInt → l5.toInt ≤ l4.toInt → (∀ (s : List Int32) (n' : Nat) (h' : Hp) (l3' l4' l5' : Int32), rnV v C st = some s → agr (a + 3) h0 h' → skR (hi h' (a + 3)) s → l3'.toInt = (s.length : Int) → l4'.toInt = (p : Int) + C.length → 0 ≤ l5'.toInt → l5'.toInt ≤ l4'.toInt → Pc (W_X4_value n' 29 h' a b2 l1 l3' l4' l5') P) → (rnV v C st = none → ∀ h', agr (a + 3) h0 h' → P (0, h')) → Pc (W_X4_value n 29 h a b2 l1 l3 l4 l5) P := by
  have f0 := lit_0
  have f1 := lit_1
  have f2 := lit_2
  have f9 := lit_9
  have f16 := lit_16
  have f4 := lit_404'
  have m1 := lit_m1
  have m9 := lit_m9
  have m10 := lit_m10
  have m11 := lit_m11
  have m12 := lit_m12
  have m13 := lit_m13
  have m14 := lit_m14
  have m15 := lit_m15
  intro C
  induction C with
  | nil =>
    intro st e n h l3 l4 l5 p g d o z s e3 e4 e5 e6 K N
    exact K st n h l3 l4 l5 rfl g s e3 (by simpa using e4) e5 e6
  | cons c r ih =>
    intro st e n h l3 l4 l5 p g d o z s e3 e4 e5 e6 K N
    cases n with
    | zero => exact Pc.no
    | succ n =>
      have lr : ((c :: r).length : Int) = r.length + 1 := by simp
      have g3 : hi h a 3 = hi h0 a 3 := g.1 a 3 (by omega)
      have g1 (k : Nat) : hi h (a + 1) k = hi h0 (a + 1) k := g.1 (a + 1) k (by omega)
      have gb (k : Nat) : hi h b2 k = hi h0 b2 k := g.1 b2 k nb
      have n4 := ncT (show 0 ≤ l4.toInt by omega)
      have n4' : Int32.toNatClampNeg l4 = p := by omega
      obtain ⟨d1, d2⟩ := dpL_cons d
      rw [u_X4_value, g3, n4', g1 p, o.1]
      refine Pc.pos rfl ?_
      refine Pc.le (fun q => by exfalso; omega) (fun _ => ?_)
      refine Pc.lt (fun q => by exfalso; omega) (fun _ => ?_)
      refine Pc.le (fun q => by exfalso; omega) (fun _ => ?_)
      refine Pc.chk (fun _ => ?_)
      have a4 := adT l4 1 (by omega) (by omega)
      have a5 := adT l5 1 (by omega) (by omega)
      have nx (s1 : List Int32) (h1 : Hp) (l3' : Int32) (e' : opV v c st = some s1) (x1 : agr (a + 3) h0 h1) (x2 : skR (hi h1 (a + 3)) s1) (x3 : l3'.toInt = (s1.length : Int)) (x4 : dpL 16 r s1.length = some e) : Pc (W_X4_value n 29 h1 a b2 l1 l3' (l4 + 1) (l5 + 1)) P := by
        refine ih s1 e n h1 l3' (l4 + 1) (l5 + 1) (p + 1) x1 x4 o.2 (by omega) x2 x3 (by omega) (by omega) (by omega) (fun s2 n' h' y3 y4 y5 w1 w2 w3 w4 w5 w6 w7 => ?_) (fun w1 h' w2 => ?_)
        · refine K s2 n' h' y3 y4 y5 ?_ w2 w3 w4 (by omega) w6 w7
          show (opV v c st).bind (rnV v r) = _
          rw [e']; exact w1
        · refine N ?_ h' w2
          show (opV v c st).bind (rnV v r) = _
          rw [e']; exact w1
      rcases opV_ok (v := v) (st := st) d1 (by omega) with ⟨o1, o2⟩ | ⟨o1, x, y, t, o2, o3⟩
      · rcases d2 with ⟨k1, k2, k3⟩ | ⟨k1, _⟩
        · refine Pc.lt (fun q => by exfalso; omega) (fun _ => ?_)
          refine Pc.le (fun q => by exfalso; omega) (fun _ => ?_)
          have rc := rgT c
          generalize esc : ((-1 : Int32) - c) = sc
          have sb := sbG esc m1 rfl (by omega) (by omega)
          clear esc
          have n3 := ncT (show 0 ≤ l3.toInt by omega)
          have n3' : Int32.toNatClampNeg l3 = st.length := by omega
          have a3 := adT l3 1 (by omega) (by omega)
          have sl (u : Int32) : (u :: st).length = st.length + 1 := rfl
          refine Pc.lt (fun q => ?_) (fun q => by exfalso; omega)
          refine Pc.lt (fun q => ?_) (fun q => ?_)
          · refine Pc.chk (fun _ => Pc.chk (fun _ => ?_))
            have ns := ncT (show 0 ≤ sc.toInt by omega)
            have ns' : Int32.toNatClampNeg sc = (-1 - c.toInt).toNat := by omega
            rw [n3', ns', gb, hv _ (by omega)]
            rw [if_neg (by omega)] at o2
            exact nx _ _ _ o2 (g.w _ _) (sk_push s) (by rw [sl]; omega) k3
          · refine Pc.chk (fun _ => ?_)
            rw [n3']
            rw [if_pos (by omega)] at o2
            exact nx _ _ _ o2 (g.w _ _) (sk_push s) (by rw [sl]; omega) k3
        · exfalso; omega
      · rcases d2 with ⟨k1, _⟩ | ⟨k1, k2, k3⟩
        · exfalso; omega
        · subst o2
          have sl : ((y :: x :: t).length : Int) = t.length + 2 := by simp; omega
          have r3 := rgT l3
          generalize ed1 : (l3 + -1 : Int32) = d1
          generalize ed2 : (d1 - 1 : Int32) = d2
          have b1 := adG ed1 (e3.trans sl) m1 (by omega) (by omega)
          have b2' := sbG ed2 b1 f1 (by omega) (by omega)
          clear ed1 ed2
          have na := ncT (show 0 ≤ d1.toInt by omega)
          have na' : Int32.toNatClampNeg d1 = t.length + 1 := by omega
          have nb := ncT (show 0 ≤ d2.toInt by omega)
          have nb' : Int32.toNatClampNeg d2 = t.length := by omega
          have sy : hi h (a + 3) (t.length + 1) = y := s.1
          have sx : hi h (a + 3) t.length = x := s.2.1
          have k4 (u : Int32) : dpL 16 r (u :: t).length = some e := k3
          have tl (u : Int32) : ((u :: t).length : Int) = t.length + 1 := by simp
          refine Pc.lt (fun _ => ?_) (fun q => by exfalso; omega)
          refine Pc.eq (fun q => by exfalso; omega) (fun _ => ?_)
          refine Pc.le (fun _ => ?_) (fun q => by exfalso; omega)
          refine Pc.chk (fun _ => Pc.chk (fun _ => ?_))
          rw [na', nb', sy, sx]
          refine Pc.eq (fun q => by exfalso; omega) (fun _ => ?_)
          have go (u : Int32) (e' : opV v c (y :: x :: t) = some (u :: t)) : Pc (if ixOK d2 16 = true then W_X4_value n 29 (wrI h (a + 3) t.length u) a b2 l1 d1 (l4 + 1) (l5 + 1) else none) P :=
            Pc.chk (fun _ => nx _ _ _ e' (g.w _ _) (sk_op s) (by rw [tl]; omega) (k4 u))
          refine Pc.eq (fun q => ?_) (fun q => ?_)
          · refine Pc.eq (fun q2 => ?_) (fun q2 => ?_)
            · have y0 : y = 0 := Int32.toInt_inj.mp q2
              rcases o3 with ⟨w1, w2, w3⟩ | ⟨w1, w2, w3⟩ | ⟨w1, w3⟩ | ⟨w1, w3⟩ | ⟨w1, w3⟩
              · refine Pc.ret (N ?_ h g)
                show (opV v c (y :: x :: t)).bind (rnV v r) = _
                rw [w3]; rfl
              · exact absurd y0 w2
              · exfalso; omega
              · exfalso; omega
              · exfalso; omega
            · have y0 : y ≠ 0 := fun z => q2 (by rw [z])
              unfold F_X4_reckon
              rcases o3 with ⟨w1, w2, w3⟩ | ⟨w1, w2, w3⟩ | ⟨w1, w3⟩ | ⟨w1, w3⟩ | ⟨w1, w3⟩
              · exact absurd w2 y0
              · refine Pc.bind (Q := fun q => q = (x / y, h)) (Pc.eq (fun _ => Pc.eq (fun z => absurd z q2) (fun _ => Pc.eq (fun z => absurd z q2) (fun _ => Pc.ret rfl))) (fun z => absurd q z)) (fun q hq => ?_)
                rw [hq]
                exact go _ w3
              · exfalso; omega
              · exfalso; omega
              · exfalso; omega
          · unfold F_X4_reckon
            rcases o3 with ⟨w1, w2, w3⟩ | ⟨w1, w2, w3⟩ | ⟨w1, w3⟩ | ⟨w1, w3⟩ | ⟨w1, w3⟩
            · exfalso; omega
            · exfalso; omega
            · refine Pc.bind (Q := fun q => q = (x * y, h)) (Pc.eq (fun z => by exfalso; omega) (fun _ => Pc.eq (fun _ => Pc.ret rfl) (fun z => by exfalso; omega))) (fun q hq => ?_)
              rw [hq]
              exact go _ w3
            · refine Pc.bind (Q := fun q => q = (x - y, h)) (Pc.eq (fun z => by exfalso; omega) (fun _ => Pc.eq (fun z => by exfalso; omega) (fun _ => Pc.eq (fun _ => Pc.ret rfl) (fun z => by exfalso; omega)))) (fun q hq => ?_)
              rw [hq]
              exact go _ w3
            · refine Pc.bind (Q := fun q => q = (x + y, h)) (Pc.eq (fun z => by exfalso; omega) (fun _ => Pc.eq (fun z => by exfalso; omega) (fun _ => Pc.eq (fun z => by exfalso; omega) (fun _ => Pc.eq (fun _ => Pc.ret rfl) (fun z => by exfalso; omega))))) (fun q hq => ?_)
              rw [hq]
              exact go _ w3
/-- what is laid down of a law from p on, S how many orders there are -/
def clO (g : Nat → Int32) (S : Nat) : Nat → List ((List Int32 × List Int32) × List Int32) → List Int32 → Prop
  | p, [], f => odA g p (f ++ [-15]) ∧ p + f.length < S
  | p, ((x, y), c) :: r, f => odA g p (x ++ y) ∧ g (p + (x ++ y).length) = -14 ∧ (g (p + (x ++ y).length + 1)).toInt = ((p + (x ++ y).length + 2 + c.length + 1 : Nat) : Int) ∧ odA g (p + (x ++ y).length + 2) (c ++ [-15]) ∧ p + (x ++ y).length + 2 + c.length < S ∧ clO g S (p + (x ++ y).length + 2 + c.length + 1) r f
/-- a term's end -/
theorem cv_end {S : Int} (sz : (hi h0 a 3).toInt = S) (s4 : S ≤ 404) (hv : ∀ k, k < 9 → hi h0 b2 k = v k) (nb : b2 ≠ a + 3) {C : List Int32} (gd : gdC 16 C) {n : Nat} {h : Hp} {l3 l4 l5 : Int32} {p : Nat} (g : agr (a + 3) h0 h) (o : odA (hi h0 (a + 1)) p (C ++ [-15])) (z : (p : Int) + C.length < S) (e3 : l3.toInt = 0) (e4 : l4.toInt = (p : Int)) (e5 : 0 ≤ l5.toInt) (e6 : l5.toInt ≤ l4.toInt) : Pc (W_X4_value n 29 h a b2 l1 l3 l4 l5) (fun q => agr (a + 3) h0 q.2 ∧ q.1 = (match rnV v C [] with
    | some [x] => x
    | _ => 0)) := by
  have f1 := lit_1
  have f4 := lit_404'
  have f0 := lit_0
  have m9 := lit_m9
  have m15 := lit_m15
  obtain ⟨o1, o2⟩ := odA.app.mp o
  refine cv_run sz s4 hv nb C [] 1 n h l3 l4 l5 p g gd o1 z trivial e3 e4 e5 e6 (fun s n' h' y3 y4 y5 w1 w2 w3 w4 w5 w6 w7 => ?_) (fun w1 h' w2 => ⟨w2, by rw [w1]⟩)
  have sl := rnV_len (st := []) gd w1
  rcases s with _ | ⟨x, _ | ⟨u, t⟩⟩
  · exact absurd sl (by simp)
  rotate_left
  · exact absurd sl (by simp)
  · rw [w1]
    cases n' with
    | zero => exact Pc.no
    | succ n' =>
      have n4 := ncT (show 0 ≤ y4.toInt by omega)
      have n4' : Int32.toNatClampNeg y4 = p + C.length := by omega
      have lx : (([x] : List Int32).length : Int) = 1 := rfl
      rw [u_X4_value, w2.1 a 3 (by omega), n4', w2.1 (a + 1) _ (by omega), o2.1]
      refine Pc.pos rfl ?_
      refine Pc.le (fun q => by exfalso; omega) (fun _ => ?_)
      refine Pc.lt (fun q => by exfalso; omega) (fun _ => ?_)
      refine Pc.le (fun q => by exfalso; omega) (fun _ => ?_)
      refine Pc.chk (fun _ => ?_)
      refine Pc.lt (fun _ => ?_) (fun q => by exfalso; omega)
      refine Pc.eq (fun _ => ?_) (fun q => by exfalso; omega)
      refine Pc.eq (fun _ => Pc.ret ⟨w2, w3.1⟩) (fun q => by exfalso; omega)
set_option maxHeartbeats 2000000 in
/-- a law from p on -/
theorem cv_law {S : Nat} (sz : (hi h0 a 3).toInt = (S : Int)) (s4 : S ≤ 404) (hv : ∀ k, k < 9 → hi h0 b2 k = v k) (nb : b2 ≠ a + 3) {f : List Int32} (gf : gdC 16 f) : ∀ (bs : List ((List Int32 × List Int32) × List Int32)) (n : Nat) (h : Hp) (l3 l4 l5 : Int32) (p : Nat), gdB 16 bs → agr (a + 3) h0 h → clO (hi h0 (a + 1)) S p bs f → l3.toInt = 0 → l4.toInt = (p : Int) → 0 ≤ l5.toInt → l5.toInt ≤ l4.toInt → Pc (W_X4_value n 29 h a b2 l1 l3 l4 l5) (fun q => agr (a + 3) h0 q.2 ∧ q.1 = lwV v bs f) := by
  have f1 := lit_1
  have f2 := lit_2
  have f4 := lit_404'
  have f0 := lit_0
  have m1 := lit_m1
  have m9 := lit_m9
  have m14 := lit_m14
  have m15 := lit_m15
  intro bs
  induction bs with
  | nil =>
    intro n h l3 l4 l5 p gb g o e3 e4 e5 e6
    exact cv_end sz (by omega) hv nb gf g o.1 (by have := o.2; omega) e3 e4 e5 e6
  | cons b r ih =>
    intro n h l3 l4 l5 p gb g o e3 e4 e5 e6
    obtain ⟨⟨x, y⟩, c⟩ := b
    obtain ⟨o1, o2, o3, o4, o5, o6⟩ := o
    have gd := gb _ (List.mem_cons_self ..)
    have gr : gdB 16 r := fun b hb => gb b (List.mem_cons_of_mem _ hb)
    refine cv_run sz (by omega) hv nb (x ++ y) [] 2 n h l3 l4 l5 p g gd.2.1 o1 (by omega) trivial e3 e4 e5 e6 (fun s n' h' y3 y4 y5 w1 w2 w3 w4 w5 w6 w7 => ?_) (fun w1 h' w2 => ⟨w2, by show (0 : Int32) = _; unfold lwV; rw [w1]⟩)
    have sl := rnV_len (st := []) gd.2.1 w1
    rcases s with _ | ⟨q1, _ | ⟨q2, _ | ⟨q3, t⟩⟩⟩
    · exact absurd sl (by simp)
    · exact absurd sl (by simp)
    rotate_left
    · exact absurd sl (by simp)
    · unfold lwV
      rw [w1]
      simp only
      cases n' with
      | zero => exact Pc.no
      | succ n' =>
        have n4 := ncT (show 0 ≤ y4.toInt by omega)
        have n4' : Int32.toNatClampNeg y4 = p + (x ++ y).length := by omega
        have lx : (([q1, q2] : List Int32).length : Int) = 2 := rfl
        have s1 : hi h' (a + 3) 1 = q1 := w3.1
        have s2 : hi h' (a + 3) 0 = q2 := w3.2.1
        have a4 := adT y4 1 (by omega) (by omega)
        have a44 := adT (y4 + 1) 1 (by omega) (by omega)
        have a5 := adT y5 1 (by omega) (by omega)
        have t3 := w2.1 a 3 (by omega)
        rw [u_X4_value, t3, n4', w2.1 (a + 1) _ (by omega), o2]
        generalize ed1 : (y3 + -1 : Int32) = d1
        generalize ed2 : (d1 - 1 : Int32) = d2
        generalize ed3 : (d1 + -1 : Int32) = d3
        have b1 := adG ed1 (w4.trans lx) m1 (by omega) (by omega)
        have b2' := sbG ed2 b1 f1 (by omega) (by omega)
        have b3 := adG ed3 b1 m1 (by omega) (by omega)
        clear ed1 ed2 ed3
        have na := ncT (show 0 ≤ d1.toInt by omega)
        have na' : Int32.toNatClampNeg d1 = 1 := by omega
        have nbv := ncT (show 0 ≤ d2.toInt by omega)
        have nb' : Int32.toNatClampNeg d2 = 0 := by omega
        rw [na', nb', s1, s2]
        refine Pc.pos rfl ?_
        refine Pc.le (fun q => by exfalso; omega) (fun _ => ?_)
        refine Pc.lt (fun q => by exfalso; omega) (fun _ => ?_)
        refine Pc.le (fun q => by exfalso; omega) (fun _ => ?_)
        refine Pc.chk (fun _ => ?_)
        refine Pc.lt (fun _ => ?_) (fun q => by exfalso; omega)
        refine Pc.eq (fun q => by exfalso; omega) (fun _ => ?_)
        refine Pc.le (fun _ => ?_) (fun q => by exfalso; omega)
        refine Pc.chk (fun _ => Pc.chk (fun _ => ?_))
        refine Pc.eq (fun _ => ?_) (fun q => by exfalso; omega)
        refine Pc.le (fun q => ?_) (fun q => ?_)
        · rw [if_neg (by omega)]
          have n5 := ncT (show 0 ≤ (y4 + 1).toInt by omega)
          have n5' : Int32.toNatClampNeg (y4 + 1) = p + (x ++ y).length + 1 := by omega
          refine Pc.bind (Q := fun q => q = (hi h0 (a + 1) (p + (x ++ y).length + 1), h')) ?_ (fun q hq => ?_)
          · unfold F_X4_elseOf
            rw [t3, n5', w2.1 (a + 1) _ (by omega)]
            refine Pc.lt (fun q => by exfalso; omega) (fun _ => ?_)
            refine Pc.le (fun q => by exfalso; omega) (fun _ => ?_)
            exact Pc.chk (fun _ => Pc.ret rfl)
          · rw [hq]
            exact ih n' h' d3 (hi h0 (a + 1) (p + (x ++ y).length + 1)) (y5 + 1) _ gr w2 o6 (by omega) o3 (by omega) (by omega)
        · rw [if_pos (by omega)]
          exact cv_end (C := c) sz (by omega) hv nb gd.2.2.2 w2 o4 (by omega) (by omega) (by omega) (by omega) (by omega)
end CV
