/-! GOER of both: the class -/
/-- told twice: the worst, if none is worse; p: where the name stands -/
def twQ (b : Bool) (p : Int) (s : Int × Nat × Int × Int) : Int × Nat × Int × Int := (s.1, s.2.1, if b = true ∧ s.1 = 0 ∧ s.2.2.1 = 0 then (3, p) else s.2.2)
def goE (kd pl vl : Nat → Int) (b : Bool) (st : Int × Nat × Int × Int) : Int × Nat × Int × Int := tkQ kd 59 (nbQ kd pl vl 0 4 (nbQ kd pl vl 0 4 (twQ b (pl (tkQ kd 11 st).2.1) (tkQ kd 31 (tkQ kd 11 st)))))
section GO
variable {N : Nat} {kd pl vl nm : Nat → Int} {s : Nat} {hc hr h : Hp} {st : Int × Nat × Int × Int} {n : Nat}
theorem tw_w {b : Bool} {p : Int} (fz : st.1 = 0) (w : (twQ b p st).2.2.1 = 0) : st.2.2.1 = 0 ∧ b ≠ true := by
  unfold twQ at w
  by_cases c : b = true ∧ st.1 = 0 ∧ st.2.2.1 = 0
  · rw [if_pos c] at w
    exact absurd w (show ¬ (3 : Int) = 0 by decide)
  · rw [if_neg c] at w
    exact ⟨w, fun z => c ⟨z, fz, w⟩⟩
def cgL (N : Nat) (kd pl vl : Nat → Int) (p : Int) (g : Nat) (s2 : Int × Nat × Int × Int) (h q : Hp) : Prop := tkK h q ∧ (∀ a k, ¬ (a = 2 ∧ (k = 4 ∨ k = 5 ∨ k = 6 ∨ k = 7)) → ¬ (a = 15 ∧ k = g) → ¬ (a = 3 ∧ k = 2) → hi q a k = hi h a k) ∧ (∀ a k, hl q a k = hl h a k) ∧ hi q 3 2 = hi h 3 2 + 1 ∧ ∃ b : Bool, (s2.1 = 0 → (b = true ↔ ∃ o, o < g ∧ (hl h 14 o).toInt = (hl h 14 g).toInt)) ∧ cQ q (nbQ kd pl vl 0 4 (nbQ kd pl vl 0 4 (twQ b p s2))) ∧ tI2 N (nbQ kd pl vl 0 4 (nbQ kd pl vl 0 4 (twQ b p s2))).2.1 ∧ ((nbQ kd pl vl 0 4 (nbQ kd pl vl 0 4 (twQ b p s2))).1 = 0 → (nbQ kd pl vl 0 4 (nbQ kd pl vl 0 4 (twQ b p s2))).2.2.1 = 0 → (hi q 15 g).toInt = vl s2.2.1 + 5 * vl (s2.2.1 + 1))
set_option maxHeartbeats 4000000 in
theorem cq_goerL (X : TX N kd pl vl) {h0 : Hp} {l1 l2 : Int32} {g : Nat} (hg : l1.toInt = (g : Int)) (g5 : g < 5) {p : Int} (hp : l2.toInt = p) {s2 : Int × Nat × Int × Int} (C0 : CT N kd pl vl h0) (T : tI2 N s2.2.1) : ∀ (n : Nat) (h : Hp) (l3 : Int32) (i : Nat) (b : Bool), frV h0 h → cQ h (twQ b p s2) → l3.toInt = (i : Int) → i ≤ g → (s2.1 = 0 → (b = true ↔ ∃ o, o < i ∧ (hl h0 14 o).toInt = (hl h0 14 g).toInt)) → Pc (W_X7_readGoer n 64 h l1 l2 l3) (cgL N kd pl vl p g s2 h0) := by
  have f0 := lit_0
  have f1 := lit_1
  have f3 := lit_3
  have ng := ncT (show 0 ≤ l1.toInt by omega)
  have eg : Int32.toNatClampNeg l1 = g := by omega
  intro n
  induction n with
  | zero => intro h l3 i b fr S a c d; exact Pc.no
  | succ n ih =>
    intro h l3 i b fr S a c d
    rw [u_X7_readGoer]
    refine Pc.pos rfl ?_
    rw [eg]
    refine Pc.le (fun c1 => ?_) (fun c1 => ?_)
    · have ig : i = g := by omega
      subst ig
      have T' : tI2 N (twQ b p s2).2.1 := T
      refine Pc.bind (cq_spot X (C0.cg fr.tk) T' S) (fun q2 h2 => Pc.chk (fun _ => Pc.ret ?_))
      have fa := fr.tr h2.1
      have e32 (v : Int32) : hi (wrI q2.2 15 i v) 3 2 = hi h0 3 2 := by rw [hi_wrI, if_neg (by omega), fa.1 3 2 (by decide)]
      refine ⟨((fa.tk).tr (tkK.w (by decide) (by decide) (by decide))).tr (tkK.w (by decide) (by decide) (by decide)), fun x k n1 n2 n3 => ?_, fun x k => ?_, ?_, b, d, (h2.2.1.w (by omega)).w (by omega), nb_in X (nb_in X T'), fun z w => ?_⟩
      · rw [hi_wrI, if_neg (by omega), hi_wrI, if_neg (by omega), fa.1 x k (by omega)]
      · rw [hl_wrI, hl_wrI, fa.2]
      · rw [hi_wrI, if_pos ⟨rfl, rfl⟩, e32]
      · rw [hi_wrI, if_neg (by omega), hi_wrI, if_pos ⟨rfl, rfl⟩]
        exact h2.2.2.2 z w
    · have ni := ncT (show 0 ≤ l3.toInt by omega)
      have ei : Int32.toNatClampNeg l3 = i := by omega
      have a1 := adT l3 1 (by omega) (by omega)
      rw [ei]
      refine Pc.chk (fun _ => Pc.chk (fun _ => ?_))
      have lz := lgz (hl h 14 i) (hl h 14 g)
      rw [fr.2 14 i, fr.2 14 g] at lz ⊢
      refine Pc.eq (fun c2 => ?_) (fun c2 => ?_)
      · have eq := lz.mp (c2.trans f0)
        refine Pc.bind pc_blame (fun q8 h8 => ?_)
        obtain ⟨b1, b2, b3, b4⟩ := h8
        refine ih q8 (l3 + 1) (i + 1) true (fr.tr b1) ⟨⟨by rw [b2 5 (by decide) (by decide)]; exact S.1.1, by rw [b2 4 (by decide) (by decide)]; exact S.1.2⟩, fun z => ?_⟩ (by omega) (by omega) (fun _ => ⟨fun _ => ⟨i, by omega, eq⟩, fun _ => rfl⟩)
        have z' : s2.1 = 0 := z
        have sw := S.2 z'
        by_cases w : s2.2.2.1 = 0
        · have e1 : (twQ true p s2).2.2 = (3, p) := if_pos ⟨rfl, z', w⟩
          rw [e1]
          by_cases bb : b = true
          · have e2 : (twQ b p s2).2.2 = (3, p) := if_pos ⟨bb, z', w⟩
            rw [e2] at sw
            have s3 : (hi h 2 6).toInt = 3 := sw.1
            rw [b4 (by omega)]
            exact sw
          · have e2 : (twQ b p s2).2.2 = s2.2.2 := if_neg (fun u => bb u.1)
            rw [e2] at sw
            have y := b3 (by rw [sw.1]; exact w)
            exact ⟨by rw [y.1]; exact f3, fun _ => by rw [y.2]; exact hp⟩
        · have e1 : (twQ true p s2).2.2 = s2.2.2 := if_neg (fun u => w u.2.2)
          have e2 : (twQ b p s2).2.2 = s2.2.2 := if_neg (fun u => w u.2.2)
          rw [e1]
          rw [e2] at sw
          rw [b4 (by rw [sw.1]; exact w)]
          exact sw
      · refine ih h (l3 + 1) (i + 1) b fr S (by omega) (by omega) (fun z => ?_)
        rw [d z]
        constructor
        · intro ⟨o, o1, o2⟩
          exact ⟨o, by omega, o2⟩
        · intro ⟨o, o1, o2⟩
          by_cases q : o = i
          · subst q
            exact absurd ((lz.mpr o2).trans f0.symm) c2
          · exact ⟨o, by omega, o2⟩
def cgP (kd pl vl : Nat → Int) (st : Int × Nat × Int × Int) (h q : Hp) : Prop := tkK h q ∧ (((hi h 3 2).toInt < 5 ∧ (∀ a k : Nat, ((a = 2 ∧ (k = 12 ∨ k = 13 ∨ k = 14)) ∨ a = 4 ∨ a = 16 ∨ (a = 15 ∧ (k : Int) ≠ (hi h 3 2).toInt)) → hi q a k = hi h a k) ∧ hi q 3 2 = hi h 3 2 + 1 ∧ (∀ k : Nat, (k : Int) ≠ (hi h 3 2).toInt → hl q 14 k = hl h 14 k) ∧ ∃ b : Bool, cQ q (goE kd pl vl b st) ∧ ((tkQ kd 31 (tkQ kd 11 st)).1 = 0 → (∀ g : Nat, (g : Int) = (hi h 3 2).toInt → (hl q 14 g).toInt = vl (st.2.1 + 1)) ∧ (b = true ↔ ∃ o : Nat, (o : Int) < (hi h 3 2).toInt ∧ (hl h 14 o).toInt = vl (st.2.1 + 1))) ∧ ((goE kd pl vl b st).1 = 0 → (goE kd pl vl b st).2.2.1 = 0 → ∀ g : Nat, (g : Int) = (hi h 3 2).toInt → (hi q 15 g).toInt = vl (st.2.1 + 2) + 5 * vl (st.2.1 + 3))) ∨ (5 ≤ (hi h 3 2).toInt ∧ cQ q (fuE st)))
set_option maxHeartbeats 4000000 in
theorem cq_goer (X : TX N kd pl vl) (C : CT N kd pl vl hc) (T : tI2 N st.2.1) (S : cQ hc st) (fz : st.1 = 0) (g0 : 0 ≤ (hi hc 3 2).toInt) : Pc ((F_X7_readGoer n hc).bind (fun q2 => ((F_X7_take n q2 59).bind (fun q4 => some q4.2)))) (cgP kd pl vl st hc) := by
  have f0 := lit_0
  have f2 := lit_2
  have f5 := lit_5
  unfold F_X7_readGoer
  by_cases c : (hi hc 3 2) < (5 : Int32)
  · rw [if_pos c]
    have c' := Int32.lt_iff_toInt_lt.mp c
    obtain ⟨g, hg⟩ : ∃ g : Nat, (hi hc 3 2).toInt = (g : Int) := ⟨(hi hc 3 2).toInt.toNat, by omega⟩
    have ng := ncT g0
    have eg : Int32.toNatClampNeg (hi hc 3 2) = g := by omega
    rw [eg, Option.bind_assoc]
    refine Pc.bind (cq_take X C T S 11 lit_11) (fun q11 h11 => ?_)
    rw [Option.bind_assoc]
    have T1 := tq_in X T (k := 11) (by decide)
    refine Pc.bind (pc_valueOf (C.cg h11.1.tk) T1 h11.2.1.1.2) (fun q13 h13 => ?_)
    rw [h13.1]
    generalize ew : wrL q11.2 14 g q13.1 = w
    have tw : tkK hc w := by
      rw [← ew]
      exact h11.1.tk.tr ⟨fun _ => rfl, fun _ => rfl, fun _ => rfl, fun k => by rw [hl_wrL, if_neg (by omega)]⟩
    have hw (a k : Nat) : hi w a k = hi q11.2 a k := by rw [← ew]; rfl
    have Sw : cQ w (tkQ kd 11 st) := by
      have := h11.2.1
      unfold cQ cS at this ⊢
      rw [hw, hw, hw, hw]
      exact this
    have lw' (a k : Nat) : hl w a k = if a = 14 ∧ k = g then q13.1 else hl hc a k := by
      rw [← ew, hl_wrL, h11.1.2]
    by_cases ci : ixOK (hi hc 3 2) 5 = true
    · rw [if_pos ci, Option.bind_assoc]
      refine Pc.bind (pc_placeOf (C.cg tw) T1 Sw.1.2) (fun q16 h16 => ?_)
      rw [h16.1, Option.bind_assoc]
      refine Pc.bind (cq_take X (C.cg tw) T1 Sw 31 lit_31) (fun q18 h18 => ?_)
      have T2 := tq_in X T1 (k := 31) (by decide)
      have e0 : twQ false (pl (tkQ kd 11 st).2.1) (tkQ kd 31 (tkQ kd 11 st)) = tkQ kd 31 (tkQ kd 11 st) := by
        unfold twQ
        rw [if_neg (fun u => absurd u.1 (by decide))]
      refine Pc.bind (cq_goerL X (h0 := q18.2) hg (by omega) h16.2 (C.cg (tw.tr h18.1.tk)) T2 n q18.2 0 0 false (frV.rf q18.2) (by rw [e0]; exact h18.2.1) f0 (by omega) (fun _ => ⟨fun z => absurd z (by decide), fun ⟨o, o1, _⟩ => absurd o1 (Nat.not_lt_zero o)⟩)) (fun q hq => ?_)
      obtain ⟨a1, a2, a3, a4, b, a5, a6, a7, a8⟩ := hq
      have tk1 := (tw.tr h18.1.tk).tr a1
      refine Pc.bind (cq_take X (C.cg tk1) a7 a6 59 lit_59) (fun r hr' => Pc.ret ⟨tk1.tr hr'.1.tk, Or.inl ⟨by omega, fun a k n1 => ?_, ?_, fun k nk => ?_, b, hr'.2.1, fun z => ?_, fun z w g' hg' => ?_⟩⟩)
      · rw [hr'.1.1 a k (by omega), a2 a k (by omega) (by omega) (by omega), h18.1.1 a k (by omega), hw, h11.1.1 a k (by omega)]
      · rw [hr'.1.1 3 2 (by decide), a4, h18.1.1 3 2 (by decide), hw, h11.1.1 3 2 (by decide)]
      · rw [hr'.1.2, a3, h18.1.2, lw', if_neg (by omega)]
      · have z1 := tq_0 z
        have e1 := (tq_0 z1.1).2.2
        have tN : (tkQ kd 11 st).2.1 < N := by
          by_cases y : (tkQ kd 11 st).2.1 < N
          · exact y
          · exfalso
            have : (tkQ kd 11 st).2.1 = N := by have := T1.1; omega
            have z2 := z1.2.1
            rw [this, X.2.1] at z2
            exact absurd z2 (by decide)
        have v13 := (h13.2 tN).2
        rw [e1] at v13
        refine ⟨fun g' hg' => ?_, ?_⟩
        · have : g' = g := by omega
          subst this
          rw [hr'.1.2, a3, h18.1.2, lw', if_pos ⟨rfl, rfl⟩]
          exact v13
        · rw [a5 z]
          have lg : hl q18.2 14 g = q13.1 := by rw [h18.1.2, lw', if_pos ⟨rfl, rfl⟩]
          rw [lg, v13]
          constructor
          · intro ⟨o, o1, o2⟩
            refine ⟨o, by omega, ?_⟩
            rw [h18.1.2, lw', if_neg (by omega)] at o2
            exact o2
          · intro ⟨o, o1, o2⟩
            refine ⟨o, by omega, ?_⟩
            rw [h18.1.2, lw', if_neg (by omega)]
            exact o2
      · have : g' = g := by omega
        subst this
        have z1 := (tq_0 z).1
        have z2 : (tkQ kd 31 (tkQ kd 11 st)).1 = 0 := (nq_0 (nq_0 z1).1).1
        have e2 := (tq_0 z2).2.2
        have e1 := (tq_0 (tq_0 z2).1).2.2
        have y := a8 z1 w
        rw [e2, e1] at y
        rw [hr'.1.1 15 g' (by omega)]
        exact y
    · rw [if_neg ci]
      exact Pc.no
  · rw [if_neg c]
    have c' : ¬ (hi hc 3 2).toInt < (5 : Int32).toInt := fun z => c (Int32.lt_iff_toInt_lt.mpr z)
    rw [Option.bind_assoc]
    have S1 := S.1
    rw [fz] at S1
    refine Pc.bind (pc_stop S1) (fun q6 h6 => ?_)
    have S6 := h6.2
    rw [if_pos rfl, f2] at S6
    have z2 : (2 : Int) ≠ 0 := by decide
    have c6 : cQ q6 (fuE st) := ⟨S6, fun z => absurd z z2⟩
    show Pc ((F_X7_take n q6 59).bind (fun q4 => some q4.2)) (cgP kd pl vl st hc)
    refine Pc.bind (cq_take (s := fuE st) X (C.cg h6.1.tk) T c6 59 lit_59) (fun r hr' => Pc.ret ⟨h6.1.tk.tr hr'.1.tk, Or.inr ⟨by omega, ?_⟩⟩)
    have e : tkQ kd 59 (fuE st) = fuE st := tq_f z2
    rw [← e]
    exact hr'.2.1
end GO
