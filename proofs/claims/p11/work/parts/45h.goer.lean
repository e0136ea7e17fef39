/-! GOER of both: together -/
section GJ
variable {N : Nat} {kd pl vl nm : Nat → Int} {s : Nat} {hc hr h : Hp} {st : Int × Nat × Int × Int} {n : Nat}
theorem tw_f {b : Bool} {p : Int} (fz : st.1 ≠ 0) : twQ b p st = st := by
  unfold twQ
  rw [if_neg (fun u => fz u.2.1)]
theorem go_f {b : Bool} (fz : (tkQ kd 11 st).1 ≠ 0) : goE kd pl vl b st = tkQ kd 11 st := by
  unfold goE
  rw [tq_f (k := 31) fz, tw_f fz, nq_f fz, nq_f fz, tq_f fz]
theorem go_b {b b' : Bool} (h : (tkQ kd 31 (tkQ kd 11 st)).1 = 0 → b = b') : goE kd pl vl b st = goE kd pl vl b' st := by
  by_cases z : (tkQ kd 31 (tkQ kd 11 st)).1 = 0
  · rw [h z]
  · unfold goE
    rw [tw_f z, tw_f z]
def rgP (kd pl vl : Nat → Int) (s : Nat) (st : Int × Nat × Int × Int) (h q : Hp) : Prop := ∃ b : Bool, rQ pl q (goE kd pl vl b st) ∧ ((tkQ kd 31 (tkQ kd 11 st)).1 = 0 → (b = true ↔ ∃ o : Nat, (o : Int) < (hi h 226 20).toInt ∧ (hl h 234 o).toInt = (hl h 232 (st.2.1 + 1)).toInt)) ∧ ((goE kd pl vl b st).1 = 0 → (∀ a k : Nat, (((235 ≤ a ∧ a ≤ 241) ∨ (245 ≤ a ∧ a ≤ 247)) ∨ ((a = 243 ∨ a = 244) ∧ (k : Int) ≠ 5 * s + (hi h 242 s).toInt) ∨ (a = 226 ∧ k = 12)) → hi q a k = hi h a k) ∧ (∀ k : Nat, (k : Int) ≠ (hi h 226 20).toInt → hl q 234 k = hl h 234 k) ∧ hi q 242 s = hi h 242 s + 1 ∧ hi q 226 20 = hi h 226 20 + 1 ∧ (∀ k : Nat, (k : Int) = (hi h 226 20).toInt → hl q 234 k = hl h 232 (st.2.1 + 1)) ∧ ∀ k : Nat, (k : Int) = 5 * s + (hi h 242 s).toInt → (hi q 243 k).toInt = vl (st.2.1 + 2) ∧ (hi q 244 k).toInt = vl (st.2.1 + 3))
set_option maxHeartbeats 4000000 in
theorem rq_goer (X : TX N kd pl vl) (hs : s ≤ 1) (R : RT N kd pl vl hr) (T : tI2 N st.2.1) (S : rQ pl hr st) (fz : st.1 = 0) (hk : kd st.2.1 = 11) (sd : (hi hr 226 19).toInt = (s : Int)) (c0 : 0 ≤ (hi hr 242 s).toInt) (c5 : (hi hr 242 s).toInt ≤ 5) (c20 : (hi hr 226 20).toInt = (hi hr 242 s).toInt) : Pc (if ixOK (hi hr 226 19) 2 = true then ((F_X12_roomFor n hr (hi hr 242 (Int32.toNatClampNeg (hi hr 226 19))) 5).bind (fun q22 => (if ((hi q22 226 13) : Int32) = 0 then ((F_X12_tellGoer n q22).bind (fun q25 => some q25)) else some q22))) else none) (fun q => fT hr q ∧ (((hi hr 242 s).toInt ≠ 5 ∧ rgP kd pl vl s st hr q) ∨ ((hi hr 242 s).toInt = 5 ∧ rQ pl q (fuE st)))) := by
  have f0 := lit_0
  have f5 := lit_5
  have ns := ncT (show 0 ≤ (hi hr 226 19).toInt by omega)
  have es : Int32.toNatClampNeg (hi hr 226 19) = s := by omega
  refine Pc.chk (fun _ => ?_)
  rw [es]
  refine Pc.bind (rq_room X R T S fz 11 hk (by decide)) (fun q1 h1 => ?_)
  obtain ⟨fr, alt⟩ := h1
  rcases alt with ⟨n8, Sq⟩ | ⟨e8, Sq⟩
  · rw [f5] at n8
    have T1 := tq_in X T (k := 11) (by decide)
    by_cases zf : (tkQ kd 11 st).1 = 0
    · have g1 := Sq.1.2.1
      rw [zf] at g1
      refine Pc.eq (fun _ => ?_) (fun c => by exfalso; omega)
      have e19 : hi q1 226 19 = hi hr 226 19 := fr.1 226 19 (by decide)
      have e42 : hi q1 242 s = hi hr 242 s := fr.1 242 s (by omega)
      have e1 := (tq_0 zf).2.2
      have t11 := Sq.1.2.2.1 zf
      unfold F_X12_tellGoer
      rw [e19, es, e42]
      have m1 := mlT 5 (hi hr 226 19) 5 lit_5 (by omega) (by omega)
      have a1 := adT (5 * hi hr 226 19) (hi hr 242 s) (by omega) (by omega)
      obtain ⟨g, hg⟩ : ∃ g : Nat, (hi hr 242 s).toInt = (g : Int) := ⟨(hi hr 242 s).toInt.toNat, by omega⟩
      refine Pc.bind (Q := fun q => fT hr q ∧ rgP kd pl vl s st hr q) ?_ (fun q25 h25 => Pc.ret ⟨h25.1, Or.inl ⟨n8, h25.2⟩⟩)
      refine Pc.chk (fun _ => ?_)
      refine Pc.bind (rq_must X (R.cg fr.rt) T1 Sq 31 (by decide) (by decide) (by decide)) (fun q35 h35 => ?_)
      have T2 := tq_in X T1 (k := 31) (by decide)
      have fa := fr.tr h35.1
      have e0 : twQ false (pl (tkQ kd 11 st).2.1) (tkQ kd 31 (tkQ kd 11 st)) = tkQ kd 31 (tkQ kd 11 st) := by
        unfold twQ
        rw [if_neg (fun u => absurd u.1 (by decide))]
      have q20 : hi q35 226 20 = hi hr 226 20 := fa.1 226 20 (by decide)
      refine (rq_goerL X hs (h0 := q35) (R.cg fa.rt) (K := 5 * s + g) (g := g) (by omega) t11 T2 T1 (by rw [fa.1 226 19 (by decide)]; exact sd) (by rw [q20]; omega) (by omega) (fun z => pl_lt X T2 (by rw [(tq_0 z).2.2]; exact Nat.lt_succ_self _)) (fun z w => ((Sq.2 zf).2 w).2) n q35 0 0 false ⟨fun _ _ _ => rfl, fun _ _ => rfl⟩ (by rw [e0]; exact h35.2) f0 (by omega) (fun _ => ⟨fun z => absurd z (by decide), fun ⟨o, o1, _⟩ => absurd o1 (Nat.not_lt_zero o)⟩) (fun _ => rfl)).mono (fun q hq => ?_)
      obtain ⟨b, b1, b2, b3, b4, b5, b6⟩ := hq
      refine ⟨fa.t.tr b2, b, b5, fun z => ?_, fun z => ?_⟩
      · rw [b1 z, e1]
        constructor
        · intro ⟨o, o1, o2⟩
          exact ⟨o, by omega, by rw [fa.2, fa.2] at o2; exact o2⟩
        · intro ⟨o, o1, o2⟩
          exact ⟨o, by omega, by rw [fa.2, fa.2]; exact o2⟩
      · obtain ⟨d1, d2, d3, d4, d5⟩ := b6 z
        have z1 := (tq_0 z).1
        have z2 : (tkQ kd 31 (tkQ kd 11 st)).1 = 0 := (nq_0 (nq_0 z1).1).1
        have e2 := (tq_0 z2).2.2
        have t2 : (twQ b (pl (tkQ kd 11 st).2.1) (tkQ kd 31 (tkQ kd 11 st))).2.1 = st.2.1 + 2 := by
          show (tkQ kd 31 (tkQ kd 11 st)).2.1 = _
          rw [e2, e1]
        rw [t2] at d4 d5
        refine ⟨fun a k n1 => (b3 a k (by omega)).trans (fa.1 a k (by omega)), fun k n1 => ?_, ?_, ?_, fun k hk => ?_, fun k hk => ?_⟩
        · rw [b4 k (by rw [q20]; exact n1), fa.2]
        · rw [d1, fa.1 242 s (by omega)]
        · rw [d2, q20]
        · rw [d3 k (by rw [q20]; exact hk), fa.2, e1]
        · have : k = 5 * s + g := by omega
          subst this
          exact ⟨d4, d5⟩
    · have g1 := Sq.1.2.1
      refine Pc.eq (fun c => by exfalso; omega) (fun _ => Pc.ret ⟨fr.t, Or.inl ⟨n8, false, ?_, fun z => absurd (tq_0 z).1 zf, fun z => ?_⟩⟩)
      · rw [go_f zf]; exact Sq
      · rw [go_f zf] at z; exact absurd z zf
  · have g1 := Sq.1.2.1
    have z2 : (fuE st).1 = 2 := rfl
    refine Pc.eq (fun c => by exfalso; omega) (fun _ => Pc.ret ⟨fr.t, Or.inr ⟨by omega, Sq⟩⟩)
theorem go_t {b : Bool} (z : (goE kd pl vl b st).1 = 0) : st.2.1 < (goE kd pl vl b st).2.1 := by
  have z1 := tq_0 z
  have e5 := nq_0 z1.1
  have e4 := nq_0 e5.1
  have z2 : (tkQ kd 31 (tkQ kd 11 st)).1 = 0 := e4.1
  have e3 := tq_0 z2
  have e2 := tq_0 e3.1
  have e6 : (twQ b (pl (tkQ kd 11 st).2.1) (tkQ kd 31 (tkQ kd 11 st))).2.1 = st.2.1 + 2 := by
    show (tkQ kd 31 (tkQ kd 11 st)).2.1 = _
    rw [e3.2.2, e2.2.2]
  unfold goE
  rw [z1.2.2, e5.2.2, e4.2.2, e6]
  omega
set_option maxHeartbeats 4000000 in
theorem j_goer (X : TX N kd pl vl) (Y : TN N kd vl nm) (j : JA N kd pl vl nm s hc hr st) (fz : st.1 = 0) {qc qr : Hp} (a : cgP kd pl vl st hc qc) (b : fT hr qr ∧ (((hi hr 242 s).toInt ≠ 5 ∧ rgP kd pl vl s st hr qr) ∨ ((hi hr 242 s).toInt = 5 ∧ rQ pl qr (fuE st)))) : ∃ st', JA N kd pl vl nm s qc qr st' ∧ (st'.1 = 0 → st.2.1 < st'.2.1) := by
  obtain ⟨j1, j2, j3, j4⟩ := j.2.2.2.2 fz
  obtain ⟨⟨n1, n2, n3⟩, ⟨m1, m2, m3⟩, ⟨o1, o2, o3⟩, p1⟩ := id j2
  obtain ⟨a1, a2⟩ := a
  obtain ⟨b1, b2⟩ := b
  have nmh := j.1.2.2.1
  rcases a2 with ⟨a3, a4, a5, a6, bc, a7, a8, a9⟩ | ⟨a3, a4⟩
  · rcases b2 with ⟨b3, br, b6, b7, b8⟩ | ⟨b3, -⟩
    · have T1 := tq_in X j.2.1 (k := 11) (by decide)
      -- the name that is taken
      have nam : (tkQ kd 31 (tkQ kd 11 st)).1 = 0 → st.2.1 + 1 < N ∧ kd (st.2.1 + 1) = 31 := by
        intro z
        have z1 := tq_0 z
        have e1 := (tq_0 z1.1).2.2
        have k1 := z1.2.1
        rw [e1] at k1 T1
        refine ⟨?_, k1⟩
        by_cases y : st.2.1 + 1 < N
        · exact y
        · exfalso
          have : st.2.1 + 1 = N := by have := T1.1; omega
          rw [this, X.2.1] at k1
          exact absurd k1 (by decide)
      obtain ⟨tau, ht⟩ := j3
      have bb : (tkQ kd 31 (tkQ kd 11 st)).1 = 0 → br = bc := by
        intro z
        obtain ⟨nN, n31⟩ := nam z
        have x := (a8 z).2
        have y := b7 z
        have : (bc = true ↔ br = true) := by
          rw [x, y]
          constructor
          · intro ⟨o, q1, q2⟩
            have h1 := ht o (by omega)
            refine ⟨o, by omega, ?_⟩
            rw [h1.2.2.2, nmh _ nN]
            exact (Y _ _ h1.1 nN h1.2.1 n31).mp (by rw [← h1.2.2.1]; exact q2)
          · intro ⟨o, q1, q2⟩
            have h1 := ht o (by omega)
            refine ⟨o, by omega, ?_⟩
            rw [h1.2.2.1]
            rw [h1.2.2.2, nmh _ nN] at q2
            exact (Y _ _ h1.1 nN h1.2.1 n31).mpr q2
        cases br <;> cases bc
        · rfl
        · exact absurd (this.mp rfl) (by decide)
        · exact absurd (this.mpr rfl) (by decide)
        · rfl
      have eb := go_b (pl := pl) (vl := vl) bb
      rw [eb] at b6 b8
      have i5 : tI2 N (twQ bc (pl (tkQ kd 11 st).2.1) (tkQ kd 31 (tkQ kd 11 st))).2.1 := tq_in X T1 (k := 31) (by decide)
      refine ⟨goE kd pl vl bc st, ⟨j.ctx a1 b1, tq_in X (nb_in X (nb_in X i5)) (by decide), a7, b6, fun z => ?_⟩, go_t⟩
      obtain ⟨c1, c2, c3, c4, c5, c6⟩ := b8 z
      have z1 := (tq_0 z).1
      have zn : (tkQ kd 31 (tkQ kd 11 st)).1 = 0 := (nq_0 (nq_0 z1).1).1
      obtain ⟨nN, n31⟩ := nam zn
      have f1 := lit_1
      have ad1 := adT (hi hr 242 s) 1 (by omega) (by omega)
      have ad2 := adT (hi hc 3 2) 1 (by omega) (by omega)
      have ad3 := adT (hi hr 226 20) 1 (by omega) (by omega)
      have r (x : Nat) (n : (235 ≤ x ∧ x ≤ 241) ∨ (245 ≤ x ∧ x ≤ 247)) : hi qr x = hi hr x := funext fun k => c1 x k (by omega)
      have c (x : Nat) (n : x = 4 ∨ x = 16) : hi qc x = hi hc x := funext fun k => a4 x k (by omega)
      obtain ⟨cc, hcc⟩ : ∃ cc : Nat, (hi hr 242 s).toInt = (cc : Int) := ⟨(hi hr 242 s).toInt.toNat, by omega⟩
      refine ⟨by rw [c1 226 12 (by omega)]; exact j1, ?_, ?_, fun w => ?_⟩
      · unfold CN
        rw [a4 2 13 (by omega), a5, a4 2 14 (by omega), r 237 (by omega), c3, r 245 (by omega), c4]
        exact ⟨⟨n1, n2, n3⟩, ⟨by omega, by omega, by omega⟩, ⟨o1, o2, o3⟩, by omega⟩
      · refine ⟨updP tau cc (st.2.1 + 1), fun g hg => ?_⟩
        rw [c3] at hg
        by_cases q : g = cc
        · subst q
          rw [updP_eq]
          exact ⟨nN, n31, (a8 zn).1 g (by omega), by rw [c5 g (by omega)]; exact nmh _ nN⟩
        · rw [updP_ne q, a6 g (by omega), c2 g (by omega)]
          exact ht g (by omega)
      · have t2 := two_w z1 w
        have tw := tw_w zn t2.1
        obtain ⟨d1, d2, d3, d5⟩ := j4 tw.1
        have e2 := (tq_0 zn).2.2
        have e1 := (tq_0 (tq_0 zn).1).2.2
        have t3 : (twQ bc (pl (tkQ kd 11 st).2.1) (tkQ kd 31 (tkQ kd 11 st))).2.1 = st.2.1 + 2 := by
          show (tkQ kd 31 (tkQ kd 11 st)).2.1 = _
          rw [e2, e1]
        have v := t2.2
        rw [t3] at v
        have v2 : 0 ≤ vl (st.2.1 + 3) ∧ vl (st.2.1 + 3) ≤ 4 := v.2
        refine ⟨?_, ?_, ?_, fun g hg => ?_⟩
        · rw [c 4 (by omega), r 235 (by omega), r 236 (by omega)]; exact d1
        · rw [c 16 (by omega), r 237 (by omega), r 238 (by omega), r 239 (by omega)]; exact d2
        · rw [a4 2 12 (by omega), r 245 (by omega), r 246 (by omega), r 247 (by omega)]; exact d3
        · rw [c3] at hg
          by_cases q : g = cc
          · subst q
            have k6 := c6 (5 * s + g) (by omega)
            unfold sp4
            rw [k6.1, k6.2]
            exact ⟨a9 z w g (by omega), v.1, v2⟩
          · rw [a4 15 g (by omega), c1 243 _ (by omega), c1 244 _ (by omega)]
            exact d5 g (by omega)
    · exfalso; omega
  · rcases b2 with ⟨b3, -⟩ | ⟨b3, b4⟩
    · exfalso; omega
    · exact ⟨fuE st, ⟨j.ctx a1 b1, j.2.1, a4, b4, fun z => absurd z (show ¬ (2 : Int) = 0 by decide)⟩, fun z => absurd z (show ¬ (2 : Int) = 0 by decide)⟩
end GJ
