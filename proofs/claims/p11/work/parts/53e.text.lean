/-! A WHOLE TEXT: the class -/
section CE
variable {h : Hp} {n : Nat}
theorem fill5_all {b : Nat} {x : Int32} : ∀ (n : Nat) (h : Hp) (l2 l3 : Int32) (i : Nat), l2.toInt = (i : Int) → l3.toInt = 5 → i ≤ 5 → (∀ k, k < i → hi h b k = x) → Pc (W_J7_fill_5 n 5 h b x l2 l3) (fun q => frA (fun a => a = b) h q ∧ ∀ k, k < 5 → hi q b k = x) := by
  have f1 := lit_1
  intro n
  induction n with
  | zero => intro h l2 l3 i a b' c d; exact Pc.no
  | succ n ih =>
    intro h l2 l3 i a b' c d
    have n2 := ncT (show 0 ≤ l2.toInt by omega)
    have n2' : Int32.toNatClampNeg l2 = i := by omega
    rw [u_J7_fill_5, n2']
    refine Pc.pos rfl ?_
    refine Pc.le (fun c1 => Pc.ret ⟨frA.rf h, fun k hk => d k (by omega)⟩) (fun c1 => Pc.chk (fun _ => ?_))
    have a1 := adT l2 1 (by omega) (by omega)
    refine (ih _ (l2 + 1) l3 (i + 1) (by omega) b' (by omega) (fun k hk => ?_)).mono (fun q hq => ⟨((frA.rf (A := fun a => a = b) h).w rfl).tr hq.1, hq.2⟩)
    rw [hi_wrI]
    by_cases e : k = i
    · rw [if_pos ⟨rfl, e⟩]
    · rw [if_neg (fun z => e z.2)]; exact d k (by omega)
theorem clr8 {a : Nat} : Pc (F_X8_clear n h a) (fun q => (hi q a 0 = 0 ∧ hi q a 1 = 0 ∧ hi q a 2 = 0 ∧ hi q a 3 = 0) ∧ (∀ k, k < 5 → hi q (a + 3) k = 0) ∧ frZ (fun x _ => x = a ∨ x = a + 3) h q) := by
  unfold F_X8_clear F_J7_fill_5
  refine Pc.bind (fill5_all n _ 0 5 0 lit_0 lit_5 (by decide) (fun k hk => absurd hk (Nat.not_lt_zero k))) (fun q hq => Pc.ret ⟨⟨?_, ?_, ?_, ?_⟩, hq.2, ?_⟩)
  · rw [hq.1.1 a 0 (by omega), hi_wrI, if_neg (by omega), hi_wrI, if_neg (by omega), hi_wrI, if_neg (by omega), hi_wrI, if_pos ⟨rfl, rfl⟩]
  · rw [hq.1.1 a 1 (by omega), hi_wrI, if_neg (by omega), hi_wrI, if_neg (by omega), hi_wrI, if_pos ⟨rfl, rfl⟩]
  · rw [hq.1.1 a 2 (by omega), hi_wrI, if_neg (by omega), hi_wrI, if_pos ⟨rfl, rfl⟩]
  · rw [hq.1.1 a 3 (by omega), hi_wrI, if_pos ⟨rfl, rfl⟩]
  · refine ⟨fun x k m => ?_, fun x k m => ?_⟩
    · rw [hq.1.1 x k (fun z => m (Or.inr z)), hi_wrI, if_neg (fun z => m (Or.inl z.1)), hi_wrI, if_neg (fun z => m (Or.inl z.1)), hi_wrI, if_neg (fun z => m (Or.inl z.1)), hi_wrI, if_neg (fun z => m (Or.inl z.1))]
    · rw [hq.1.2 x k]; rfl
theorem clr4 : Pc (F_X4_clear n h 5) (fun q => ctL (fun _ => none) 4 q ∧ frO h q) := by
  have f0 := lit_0
  unfold F_X4_clear
  have o0 : osN (wrI h 5 3 0) 0 := by
    unfold osN
    rw [hiE rfl]; exact f0
  have fr0 : frO h (wrI h 5 3 0) := ⟨fun a k n1 _ _ => by rw [hi_wrI, if_neg (by omega)], fun _ _ => rfl⟩
  refine Pc.bind (oa_begin (k := 0) lit_0 (by decide) o0) (fun q1 h1 => ?_)
  refine Pc.bind (oa_begin (k := 2) lit_2 (by decide) h1.2.1) (fun q3 h3 => ?_)
  refine Pc.bind (oa_add h3.2.1 (by decide)) (fun q5 h5 => ?_)
  refine Pc.bind (oa_add (s := 1) h5.1.1 (by decide)) (fun q7 h7 => ?_)
  refine Pc.bind (oa_begin (k := 1) (s := 2) lit_1 (by decide) h7.1.1) (fun q9 h9 => ?_)
  refine Pc.bind (oa_begin (k := 3) lit_3 (by decide) h9.2.1) (fun q11 h11 => ?_)
  refine Pc.bind (oa_add h11.2.1 (by decide)) (fun q13 h13 => ?_)
  refine Pc.bind (oa_add (s := 3) h13.1.1 (by decide)) (fun q15 h15 => Pc.ret ?_)
  have s7 (k : Nat) : hi q15 7 k = hi q11 7 k := by rw [h15.1.2.2.2 k, h13.1.2.2.2 k]
  have s7b (k : Nat) : hi q7 7 k = hi q3 7 k := by rw [h7.1.2.2.2 k, h5.1.2.2.2 k]
  have e0 : (hi q15 7 0).toInt = 0 := by
    rw [s7, h11.2.2.2.1 0 (by decide), h9.2.2.2.1 0 (by decide), s7b, h3.2.2.2.1 0 (by decide)]; exact h1.2.2.1
  have e1 : (hi q15 7 1).toInt = 2 := by
    rw [s7, h11.2.2.2.1 1 (by decide)]; exact h9.2.2.1
  have e2 : (hi q15 7 2).toInt = 0 := by
    rw [s7, h11.2.2.2.1 2 (by decide), h9.2.2.2.1 2 (by decide), s7b]; exact h3.2.2.1
  have e3 : (hi q15 7 3).toInt = 2 := by
    rw [s7]; exact h11.2.2.1
  have c11 (k : Nat) : hi q11 6 k = hi q7 6 k := by rw [h11.2.2.2.2 k, h9.2.2.2.2 k]
  have g0 : hi q15 6 0 = 0 := by
    rw [h15.1.2.2.1 0 (by decide), h13.1.2.2.1 0 (by decide), c11, h7.1.2.2.1 0 (by decide)]; exact h5.1.2.1.1
  have g1 : hi q15 6 1 = -15 := by
    rw [h15.1.2.2.1 1 (by decide), h13.1.2.2.1 1 (by decide), c11]; exact h7.1.2.1.1
  have g2 : hi q15 6 2 = 1 := by
    rw [h15.1.2.2.1 2 (by decide)]; exact h13.1.2.1.1
  have g3 : hi q15 6 3 = -15 := h15.1.2.1.1
  refine ⟨⟨h15.1.1, fun k hk => ?_⟩, (((((((fr0.tr h1.1).tr h3.1).tr h5.2).tr h7.2).tr h9.1).tr h11.1).tr h13.2).tr h15.2⟩
  rcases (show k = 0 ∨ k = 1 ∨ k = 2 ∨ k = 3 by omega) with rfl | rfl | rfl | rfl
  · exact ⟨0, e0, ⟨g0, g1, trivial⟩, by decide⟩
  · exact ⟨2, e1, ⟨g2, g3, trivial⟩, by decide⟩
  · exact ⟨0, e2, ⟨g0, g1, trivial⟩, by decide⟩
  · exact ⟨2, e3, ⟨g2, g3, trivial⟩, by decide⟩
theorem clr0 : Pc (F_X0_clear n h 3) (fun q => FLD q 4 4 4 ∧ ctL (fun _ => none) 4 q ∧ (hi q 3 2 = 0 ∧ hi q 3 3 = 0 ∧ hi q 3 4 = 0)) := by
  unfold F_X0_clear
  refine Pc.bind (fld_lay (w := 4) (g := 4) (by decide) (by decide) lit_4 lit_4) (fun q1 h1 => ?_)
  refine Pc.bind clr4 (fun q3 h3 => Pc.ret ⟨?_, ?_, ?_, ?_, ?_⟩)
  · have e (k : Nat) : hi (wrI (wrI (wrI q3 3 2 0) 3 3 0) 3 4 0) 4 k = hi q1 4 k := by
      rw [hi_wrI, if_neg (by omega), hi_wrI, if_neg (by omega), hi_wrI, if_neg (by omega), h3.2.1 4 k (by decide) (by decide) (by decide)]
    have := h1.1
    unfold FLD at this ⊢
    rw [e, e, e, e]
    exact this
  · exact h3.1.cg (by rw [hi_wrI, if_neg (by omega), hi_wrI, if_neg (by omega), hi_wrI, if_neg (by omega)]) (fun k => by rw [hi_wrI, if_neg (by omega), hi_wrI, if_neg (by omega), hi_wrI, if_neg (by omega)]) (fun k => by rw [hi_wrI, if_neg (by omega), hi_wrI, if_neg (by omega), hi_wrI, if_neg (by omega)])
  · rw [hi_wrI, if_neg (by decide), hi_wrI, if_neg (by decide), hi_wrI, if_pos ⟨rfl, rfl⟩]
  · rw [hi_wrI, if_neg (by decide), hi_wrI, if_pos ⟨rfl, rfl⟩]
  · rw [hi_wrI, if_pos ⟨rfl, rfl⟩]
/-- ahead of all: the draft and the scene -/
def cB0 (q : Hp) : Prop := cD TT0 0 q ∧ cS q 0 0 ∧ (hi q 2 6).toInt = 0 ∧ (hi q 10 0 = 0 ∧ hi q 10 1 = 0 ∧ hi q 10 2 = 0 ∧ hi q 10 3 = 0) ∧ ∀ k, k < 5 → hi q 13 k = 0
theorem vt0 : VT TT0 := by
  refine ⟨⟨⟨?_, ?_⟩, ?_, ?_⟩, ⟨Nat.zero_le 8, fun x hx => absurd hx List.not_mem_nil⟩, ⟨Nat.zero_le 5, fun x hx => absurd hx List.not_mem_nil⟩, ⟨Nat.zero_le 8, fun x hx => absurd hx List.not_mem_nil⟩, ⟨⟨?_, ?_⟩, ?_, ?_⟩, fun k b hb => absurd hb (fun z => nsn (show (none : Option LWS) = some b from z))⟩
  · show (2 : Int) ≤ 4; decide
  · show (4 : Int) ≤ 5; decide
  · show (2 : Int) ≤ 4; decide
  · show (4 : Int) ≤ 5; decide
  · show (0 : Int) ≤ 0; decide
  · show (0 : Int) ≤ 100; decide
  · show (0 : Int) ≤ 0; decide
  · show (0 : Int) ≤ 9999; decide
theorem clr7 : Pc (F_X7_clear n h) cB0 := by
  have f0 := lit_0
  unfold F_X7_clear F_J7_fill_25
  refine Pc.bind clr0 (fun q1 h1 => ?_)
  obtain ⟨a1, a2, a3, a4, a5⟩ := h1
  refine Pc.bind clr8 (fun q2 h2 => ?_)
  obtain ⟨⟨b1, b2, b3, b4⟩, b5, b6⟩ := h2
  refine Pc.bind (pc_fill25 n _ 0 25 0 f0 lit_25 (by decide) (fun k hk => absurd hk (Nat.not_lt_zero k))) (fun q3 h3 => Pc.ret ?_)
  obtain ⟨c1, c2⟩ := h3
  generalize eg : wrI (wrI (wrI q3 2 12 0) 2 13 0) 2 14 0 = g
  have rn (a k : Nat) (m : a ≠ 2) : hi g a k = hi q3 a k := by
    rw [← eg, hi_wrI, if_neg (by omega), hi_wrI, if_neg (by omega), hi_wrI, if_neg (by omega)]
  have rm (a k : Nat) (m : a ≠ 2) (m2 : a ≠ 16) : hi g a k = hi q2 a k := by
    rw [rn a k m, c1.1 a k m2, hi_wrI, if_neg (by omega), hi_wrI, if_neg (by omega), hi_wrI, if_neg (by omega), hi_wrI, if_neg (by omega), hi_wrI, if_neg (by omega)]
  have r1 (a k : Nat) (m : a ≠ 2) (m2 : a ≠ 16) (m3 : a ≠ 10 ∧ a ≠ 13) : hi g a k = hi q1 a k := by
    rw [rm a k m m2, b6.1 a k (fun (z : a = 10 ∨ a = 10 + 3) => by omega)]
  have r2 (k : Nat) (m : ¬ (k = 12 ∨ k = 13 ∨ k = 14)) : hi g 2 k = hi (wrI (wrI (wrI (wrI (wrI q2 2 2 (-1)) 2 4 0) 2 5 0) 2 6 0) 2 7 (-1)) 2 k := by
    rw [← eg, hi_wrI, if_neg (by omega), hi_wrI, if_neg (by omega), hi_wrI, if_neg (by omega)]
    exact c1.1 2 k (by decide)
  refine ⟨cD.mk' ?_ ⟨?_, fun c hc => ⟨fun _ => ?_, fun q hq => ?_⟩⟩ ⟨?_, fun g hg => absurd hg (Nat.not_lt_zero g)⟩ ⟨?_, fun c hc => ?_⟩ ⟨?_, ?_⟩ ⟨4, a2.cg (r1 5 3 (by decide) (by decide) (by decide)) (fun k => r1 6 k (by decide) (by decide) (by decide)) (fun k => r1 7 k (by decide) (by decide) (by decide)), by decide⟩ vt0, ⟨?_, ?_⟩, ?_, ⟨?_, ?_, ?_, ?_⟩, fun k hk => ?_⟩
  · show FLD g 4 4 4
    unfold FLD at a1 ⊢
    rw [r1 4 0 (by decide) (by decide) (by decide), r1 4 1 (by decide) (by decide) (by decide), r1 4 2 (by decide) (by decide) (by decide), r1 4 3 (by decide) (by decide) (by decide)]
    exact a1
  · rw [← eg, hi_wrI, if_neg (by decide), hi_wrI, if_pos ⟨rfl, rfl⟩]; exact f0
  · rw [rn 16 c (by decide), c2 c hc]; exact f0
  · exact absurd hq (fun z => nsn (show (none : Option (Int × Int)) = some q from z))
  · rw [r1 3 2 (by decide) (by decide) (by decide), a3]; exact f0
  · rw [← eg, hi_wrI, if_pos ⟨rfl, rfl⟩]; exact f0
  · rw [← eg, hi_wrI, if_neg (by decide), hi_wrI, if_neg (by decide), hi_wrI, if_pos ⟨rfl, rfl⟩, bt_zero]
    exact ⟨fun z => Bool.noConfusion z, fun ⟨p, p1, _⟩ => absurd p1 List.not_mem_nil⟩
  · rw [r1 3 3 (by decide) (by decide) (by decide), a4]; exact f0
  · rw [r1 3 4 (by decide) (by decide) (by decide), a5]; exact f0
  · rw [r2 5 (by decide), hi_wrI, if_neg (by omega), hi_wrI, if_neg (by omega), hi_wrI, if_pos ⟨rfl, rfl⟩]; exact f0
  · rw [r2 4 (by decide), hi_wrI, if_neg (by omega), hi_wrI, if_neg (by omega), hi_wrI, if_neg (by omega), hi_wrI, if_pos ⟨rfl, rfl⟩]; exact f0
  · rw [r2 6 (by decide), hi_wrI, if_neg (by omega), hi_wrI, if_pos ⟨rfl, rfl⟩]; exact f0
  · rw [rm 10 0 (by decide) (by decide)]; exact b1
  · rw [rm 10 1 (by decide) (by decide)]; exact b2
  · rw [rm 10 2 (by decide) (by decide)]; exact b3
  · rw [rm 10 3 (by decide) (by decide)]; exact b4
  · rw [rm 13 k (by decide) (by decide)]; exact b5 k hk
/-- the last tune of a spot is one of those told -/
theorem lastT_mem : ∀ {l : List ((Int × Int) × (Int × Int))} {c : Nat} {q : Int × Int}, lastT l c = some q → ∃ x ∈ l, x.2 = q ∧ x.1.1 + 5 * x.1.2 = (c : Int) := by
  intro l
  -- from the end
  have key : ∀ (r : List ((Int × Int) × (Int × Int))) (c : Nat) (q : Int × Int), lastT r.reverse c = some q → ∃ x ∈ r.reverse, x.2 = q ∧ x.1.1 + 5 * x.1.2 = (c : Int) := by
    intro r
    induction r with
    | nil => intro c q e; exact absurd e (fun z => nsn (show (none : Option (Int × Int)) = some q from z))
    | cons y r ih =>
      intro c q e
      rw [List.reverse_cons, lastT_snoc] at e
      rw [List.reverse_cons]
      by_cases z : y.1.1 + 5 * y.1.2 = (c : Int)
      · rw [if_pos z] at e
        exact ⟨y, List.mem_append_right _ (List.mem_singleton.mpr rfl), Option.some.inj e, z⟩
      · rw [if_neg z] at e
        obtain ⟨x, x1, x2⟩ := ih c q e
        exact ⟨x, List.mem_append_left _ x1, x2⟩
  intro c q e
  have := key l.reverse c q (by rw [List.reverse_reverse]; exact e)
  rw [List.reverse_reverse] at this
  exact this
/-- the scene that a text tells, at a -/
def ropeT (T : TT) (c : Nat) : Prop := ∃ p ∈ T.ro, p.1 + 5 * p.2 = (c : Int)
def wT (T : TT) : Nat := T.lw.1.toNat
def gT (T : TT) : Nat := T.lw.2.toNat
/-- the spot of the k-th goer -/
def gsT (T : TT) (k : Nat) : Nat := ((T.go.getD k (0, 0)).1 + 5 * (T.go.getD k (0, 0)).2).toNat
def SCF (T : TT) (a : Nat) (q : Hp) : Prop :=
  (hi q a 0 = 0 ∧ hi q a 1 = 0 ∧ ∀ k, k < 5 → hi q (a + 3) k = 0) ∧
  (∀ b, b < 32 → (bt (hi q a 2) b = true ↔ b < wT T * gT T ∧ ropeT T (spt (wT T) b))) ∧
  (∀ b, b < 32 → (bt (hi q a 3) b = true ↔ b < wT T * gT T ∧ lastT T.tn (spt (wT T) b) ≠ none)) ∧
  (∀ b p, b < wT T * gT T → lastT T.tn (spt (wT T) b) = some p → (vp_nar .byte (hi q (a + 1) b)).toInt = 8 * p.1 + p.2) ∧
  ∀ k, k < T.go.length → (hi q (a + 2) k).toInt = (clw (wT T) (gsT T k) : Nat)
/-- all lies on the lawn -/
def VLw (T : TT) : Prop := (∀ c, c < 25 → ropeT T c → onW (wT T) (gT T) c) ∧ (∀ c, c < 25 → lastT T.tn c ≠ none → onW (wT T) (gT T) c) ∧ ∀ k, k < T.go.length → onW (wT T) (gT T) (gsT T k) ∧ ¬ ropeT T (gsT T k)
/-- what the class's draft tells, at a band a and a scene b -/
def BDF (T : TT) (a : Nat) (q : Hp) : Prop := FLD q (a + 1) (wT T) (gT T) ∧ ((hi q a 2).toInt = (T.go.length : Int) ∧ (hi q a 3).toInt = T.ws.1 ∧ (hi q a 4).toInt = T.ws.2) ∧ ∃ S : Nat, (hi q (a + 2) 3).toInt = (S : Int) ∧ S ≤ 404 ∧ ∀ k, k < 4 → ∃ p : Nat, (hi q (a + 4) k).toInt = (p : Int) ∧ clO (hi q (a + 3)) S p (lawD T.la k).1 (lawD T.la k).2
def CF (T : TT) (q : Hp) : Prop := VT T ∧ VLw T ∧ BDF T 3 q ∧ SCF T 10 q
variable {N : Nat} {kd pl vl : Nat → Int}
theorem zx_kindOf {x1 : Int32} : Pc (F_X9_kindOf n h x1) (fun q => q.2 = h) := by
  unfold F_X9_kindOf
  exact Pc.ite (fun _ => Pc.ret rfl) (fun _ => Pc.ite (fun _ => Pc.ret rfl) (fun _ => Pc.chk (fun _ => Pc.ret rfl)))
theorem gs_lt {T : TT} (v : VT T) {k : Nat} (hk : k < T.go.length) : gsT T k < 25 ∧ ((gsT T k : Nat) : Int) = (T.go.getD k (0, 0)).1 + 5 * (T.go.getD k (0, 0)).2 := by
  have m : T.go.getD k (0, 0) ∈ T.go := by
    rw [List.getD_eq_getElem?_getD, List.getElem?_eq_getElem hk]
    exact List.getElem_mem hk
  have s := v.2.2.1.2 _ m
  unfold sp5 at s
  unfold gsT
  omega
/-- the end of the class's text: all laid out -/
theorem ct_end {t : Nat} (a : cX N kd pl vl t h) {T : TT} (d : cD T t h) (z1 : hi h 10 0 = 0 ∧ hi h 10 1 = 0 ∧ hi h 10 2 = 0 ∧ hi h 10 3 = 0) (z2 : ∀ k, k < 5 → hi h 13 k = 0) {x1 : Int32} : Pc ((F_X7_layOut n h x1).bind (fun q3 => some ((hi q3 2 6), (wrI q3 2 2 (hi q3 2 7))))) (fun q => q.1.toInt = 0 → CF T q.2) := by
  obtain ⟨⟨d1, d2, d3, d4, d5⟩, ⟨S, d6, d7⟩, d8⟩ := d
  have v := d8
  obtain ⟨⟨v1, v1b⟩, v2, v3, v4, v5, v6⟩ := d8
  have T2 := a.2.1.2
  have ew : ((wT T : Nat) : Int) = T.lw.1 := by unfold wT; omega
  have eg : ((gT T : Nat) : Int) = T.lw.2 := by unfold gT; omega
  have w5 : wT T ≤ 5 := by omega
  have g5 : gT T ≤ 5 := by omega
  have fl : FLD h 4 (wT T) (gT T) := d1
  have tp {c : Nat} (hc : c < 25) : 0 < (hi h 16 c).toInt ↔ lastT T.tn c ≠ none := by
    cases e : lastT T.tn c with
    | none =>
      have := (d2.2 c hc).1 e
      exact ⟨fun z => by omega, fun z => absurd rfl z⟩
    | some q =>
      obtain ⟨x, x1, x2, x3⟩ := lastT_mem e
      have := (d2.2 c hc).2 q e
      have b := (v2.2 x x1).2
      rw [x2] at b
      exact ⟨fun _ z => nsn z.symm, fun _ => by omega⟩
  have tb : ∀ c, c < 25 → 0 < (hi h 16 c).toInt → (2 ≤ (hi h 16 c).toInt ∧ (hi h 16 c).toInt ≤ 6) ∧ 0 ≤ (hi h 17 c).toInt ∧ (hi h 17 c).toInt < (hi h 16 c).toInt := by
    intro c hc z
    cases e : lastT T.tn c with
    | none => exact absurd e ((tp hc).mp z)
    | some q =>
      obtain ⟨x, x1, x2, x3⟩ := lastT_mem e
      have := (d2.2 c hc).2 q e
      have b := (v2.2 x x1).2
      rw [x2] at b
      rw [this.1, this.2]
      exact b
  have sg (k : Nat) (hk : (k : Int) < (hi h 3 2).toInt) : (hi h 15 k).toInt = (gsT T k : Nat) ∧ gsT T k < 25 := by
    have hk' : k < T.go.length := by have := d3.1; omega
    have := gs_lt v hk'
    rw [d3.2 k hk']
    omega
  have sp : ∀ k : Nat, (k : Int) < (hi h 3 2).toInt → 0 ≤ (hi h 15 k).toInt ∧ (hi h 15 k).toInt ≤ 24 := fun k hk => by
    have := sg k hk
    omega
  refine Pc.bind (fun q e => And.intro (lo_out w5 g5 fl.1 fl.2.1 a.2.2.2 sp tb z1.2.2.1 z1.2.2.2 q e) (ly_out (fun _ => sp) q e)) (fun q hq => Pc.ret (fun z => ?_))
  obtain ⟨q1, bb, q2, -⟩ := hq
  have f5 : (hi q 2 5).toInt = 0 := by
    rw [q2.1 2 5 (by decide) (by decide) (by decide) (by decide)]
    exact a.2.2.1.1
  obtain ⟨⟨l1, l2⟩, l3, l4, l5, ⟨l6, l7⟩, l8⟩ := q1 ⟨f5, z⟩
  show CF T (wrI q 2 2 (hi q 2 7))
  generalize eu : wrI q 2 2 (hi q 2 7) = u
  have ru (x k : Nat) (m : x ≠ 2) : hi u x k = hi q x k := hiA eu x k m
  have rh (x k : Nat) (m : x ≠ 2 ∧ x ≠ 10 ∧ x ≠ 11 ∧ x ≠ 12) : hi u x k = hi h x k := by rw [ru x k m.1, l1 x k m.2.1 m.2.2.1 m.2.2.2]
  have ro {c : Nat} (hc : c < 25) : bt (hi h 2 12) c = true ↔ ropeT T c := d4.2 c hc
  refine ⟨v, ⟨fun c hc z => l6 c hc ((ro hc).mpr z), fun c hc z => l7 c hc ((tp hc).mpr z), fun k hk => ?_⟩, ⟨?_, ⟨?_, ?_, ?_⟩, S, ?_, by omega, fun k hk => ?_⟩, ⟨?_, ?_, fun k hk => ?_⟩, fun b hb => ?_, fun b hb => ?_, fun b p hb hp => ?_, fun k hk => ?_⟩
  · have hk' : (k : Int) < (hi h 3 2).toInt := by have := d3.1; omega
    have s1 := sg k hk'
    have s2 := l8 k hk' (by have := v3.1; omega)
    have e : (hi h 15 k).toInt.toNat = gsT T k := by omega
    rw [e] at s2
    exact ⟨s2.1, fun y => s2.2.1 ((ro s1.2).mpr y)⟩
  · show FLD u 4 (wT T) (gT T)
    unfold FLD at fl ⊢
    rw [rh 4 0 (by decide), rh 4 1 (by decide), rh 4 2 (by decide), rh 4 3 (by decide)]
    exact fl
  · rw [rh 3 2 (by decide)]; exact d3.1
  · rw [rh 3 3 (by decide)]; exact d5.1
  · rw [rh 3 4 (by decide)]; exact d5.2
  · show (hi u 5 3).toInt = _
    rw [rh 5 3 (by decide)]; exact d6.1
  · obtain ⟨p, p1, p2⟩ := d6.2 k hk
    refine ⟨p, ?_, p2.cg (Nat.le_refl S) (fun j _ => rh 6 j (by omega))⟩
    show (hi u 7 k).toInt = _
    rw [rh 7 k (by omega)]; exact p1
  · rw [ru 10 0 (by decide), l2 0 (by decide) (by decide)]; exact z1.1
  · rw [ru 10 1 (by decide), l2 1 (by decide) (by decide)]; exact z1.2.1
  · show hi u 13 k = 0
    rw [rh 13 k (by omega)]; exact z2 k hk
  · rw [ru 10 2 (by decide), l3 b hb]
    exact ⟨fun y => ⟨y.1, (ro (spt_on w5 g5 y.1).1).mp y.2⟩, fun y => ⟨y.1, (ro (spt_on w5 g5 y.1).1).mpr y.2⟩⟩
  · rw [ru 10 3 (by decide), l4 b hb]
    exact ⟨fun y => ⟨y.1, (tp (spt_on w5 g5 y.1).1).mp y.2⟩, fun y => ⟨y.1, (tp (spt_on w5 g5 y.1).1).mpr y.2⟩⟩
  · show (vp_nar .byte (hi u 11 b)).toInt = _
    have c25 := (spt_on w5 g5 hb).1
    rw [ru 11 b (by omega), l5 b hb ((tp c25).mpr (by rw [hp]; exact Option.some_ne_none p))]
    have := (d2.2 (spt (wT T) b) c25).2 p hp
    rw [this.1, this.2]
  · have hk' : (k : Int) < (hi h 3 2).toInt := by have := d3.1; omega
    have s1 := sg k hk'
    have s2 := l8 k hk' (by have := v3.1; omega)
    have e : (hi h 15 k).toInt.toNat = gsT T k := by omega
    rw [e] at s2
    show (hi u 12 k).toInt = _
    rw [ru 12 k (by omega)]
    exact s2.2.2
/-- the class's text, from a statement on -/
theorem ct_loop (X : TX N kd pl vl) (vlr : ∀ t, kd t = 30 → 0 ≤ vl t ∧ vl t ≤ 9999) {x1 : Int32} : ∀ (n : Nat) (h : Hp) (l2 : Int32) (T : TT) (t : Nat), cX N kd pl vl t h → cD T t h → (hi h 10 0 = 0 ∧ hi h 10 1 = 0 ∧ hi h 10 2 = 0 ∧ hi h 10 3 = 0) → (∀ k, k < 5 → hi h 13 k = 0) → 0 ≤ l2.toInt → l2.toInt ≤ t → Pc (W_X7_readText n 14 h x1 l2) (fun q => q.1.toInt = 0 → ∃ m T' t', TLD kd vl m T t T' t' ∧ kd t' = 32 ∧ CF T' q.2) := by
  have f0 := lit_0
  have f1 := lit_1
  have f32 := lit_32
  have f4 := lit_400
  -- behind a fault the answer is none
  have bad : ∀ (n : Nat) (h : Hp) (l2 : Int32), Pc (W_X7_readText n 14 h x1 l2) (fun q => q.1.toInt = 0 → ZC h) := by
    intro n
    induction n with
    | zero => intro h l2; exact Pc.no
    | succ n ih =>
      intro h l2
      have lo (c : (hi h 2 5).toInt = (0 : Int32).toInt) : Pc ((F_X7_layOut n h x1).bind (fun q3 => some ((hi q3 2 6), (wrI q3 2 2 (hi q3 2 7))))) (fun q => q.1.toInt = 0 → ZC h) := by
        refine Pc.bind zb_X7_layOut (fun q hq => Pc.ret (fun z => ⟨by omega, hq.2.2 z⟩))
      have pl' (c : ¬ (hi h 2 5).toInt = (0 : Int32).toInt) : Pc ((F_X9_placeOf n h (hi h 2 4)).bind (fun q5 => some ((hi q5.2 2 5), (wrI q5.2 2 2 q5.1)))) (fun q => q.1.toInt = 0 → ZC h) := by
        refine Pc.bind zf_X9_placeOf (fun q hq => Pc.ret (fun z => ?_))
        have e : hi q.2 2 5 = hi h 2 5 := hq.1 2 5 (fun z => z)
        have z' : (hi q.2 2 5).toInt = 0 := z
        rw [e] at z'
        exfalso; omega
      rw [u_X7_readText]
      refine Pc.pos rfl ?_
      refine Pc.lt (fun _ => Pc.eq (fun c => lo c) (fun c => pl' c)) (fun _ => ?_)
      refine Pc.eq (fun c => ?_) (fun c => Pc.eq (fun c2 => lo c2) (fun c2 => pl' c2))
      unfold F_X7_kind
      refine Pc.bind (Q := fun q => q.2 = h) (Pc.bind (Q := fun q => q.2 = h) zx_kindOf (fun q hq => Pc.ret hq)) (fun q13 h13 => ?_)
      rw [h13]
      refine Pc.eq (fun _ => Pc.eq (fun c2 => lo c2) (fun c2 => pl' c2)) (fun _ => ?_)
      refine Pc.bind (Q := fun q => q.2 = h) (Pc.bind (Q := fun q => q.2 = h) zx_kindOf (fun q hq => Pc.ret hq)) (fun q21 h21 => ?_)
      rw [h21]
      exact Pc.bind zb_X7_readTell (fun q23 m => (ih q23 _).mono (fun q hq z => m.1 (hq z)))
  intro n
  induction n with
  | zero => intro h l2 T t a d z1 z2 b1 b2; exact Pc.no
  | succ n ih =>
    intro h l2 T t a d z1 z2 b1 b2
    have T2 := a.2.1.2
    have s1 := a.2.2.1.1
    rw [u_X7_readText]
    refine Pc.pos rfl ?_
    refine Pc.lt (fun c => by exfalso; omega) (fun _ => ?_)
    refine Pc.eq (fun _ => ?_) (fun c => by exfalso; omega)
    unfold F_X7_kind
    refine Pc.bind (Q := fun q => q.2 = h ∧ q.1.toInt = kd t) (Pc.bind (pc_kindOf X a.1 a.2.1 a.2.2.1.2) (fun q hq => Pc.ret hq)) (fun q13 h13 => ?_)
    rw [h13.1]
    refine Pc.eq (fun c1 => ?_) (fun c1 => ?_)
    · refine Pc.eq (fun _ => ?_) (fun c => by exfalso; omega)
      exact (ct_end a d z1 z2).mono (fun q hq z => ⟨0, T, t, ⟨rfl, rfl⟩, by have := h13.2; omega, hq z⟩)
    · refine Pc.bind (Q := fun q => q.2 = h ∧ q.1.toInt = kd t) (Pc.bind (pc_kindOf X a.1 a.2.1 a.2.2.1.2) (fun q hq => Pc.ret hq)) (fun q21 h21 => ?_)
      rw [h21.1]
      have a1 := adT l2 1 (by omega) (by omega)
      refine Pc.bind (qc_tell X vlr a d h21.2) (fun q23 hq => ?_)
      by_cases z : ZC q23
      · obtain ⟨T', t', o1, o2, o3, o4, o5⟩ := hq z
        refine (ih q23 (l2 + 1) T' t' o3 o4 ?_ (fun k hk => by rw [o5 13 k (Or.inr rfl)]; exact z2 k hk) (by omega) (by omega)).mono (fun q hq z => ?_)
        · rw [o5 10 0 (Or.inl rfl), o5 10 1 (Or.inl rfl), o5 10 2 (Or.inl rfl), o5 10 3 (Or.inl rfl)]; exact z1
        · obtain ⟨m, T'', t'', p1, p2, p3⟩ := hq z
          exact ⟨m + 1, T'', t'', ⟨T', t', o1, p1⟩, p2, p3⟩
      · exact (bad n q23 _).mono (fun q hq y => absurd (hq y) z)
end CE
