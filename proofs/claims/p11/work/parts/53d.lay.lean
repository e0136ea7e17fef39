/-! WHAT IS TOLD IS LAID OUT: the class, all of it -/
section LZ
variable {w g : Nat} {h0 : Hp}
/-- what is laid out in the end -/
def LF (w g : Nat) (h0 q : Hp) : Prop :=
  ((∀ a k, a ≠ 10 → a ≠ 11 → a ≠ 12 → hi q a k = hi h0 a k) ∧ (∀ k, k ≠ 2 → k ≠ 3 → hi q 10 k = hi h0 10 k)) ∧
  (∀ b, b < 32 → (bt (hi q 10 2) b = true ↔ b < w * g ∧ bt (hi h0 2 12) (spt w b) = true)) ∧
  (∀ b, b < 32 → (bt (hi q 10 3) b = true ↔ b < w * g ∧ 0 < (hi h0 16 (spt w b)).toInt)) ∧
  (∀ b, b < w * g → 0 < (hi h0 16 (spt w b)).toInt → (vp_nar .byte (hi q 11 b)).toInt = 8 * (hi h0 16 (spt w b)).toInt + (hi h0 17 (spt w b)).toInt) ∧
  ((∀ c, c < 25 → bt (hi h0 2 12) c = true → onW w g c) ∧ ∀ c, c < 25 → 0 < (hi h0 16 c).toInt → onW w g c) ∧
  ∀ k : Nat, (k : Int) < (hi h0 3 2).toInt → k < 5 → onW w g (hi h0 15 k).toInt.toNat ∧ ¬ bt (hi h0 2 12) (hi h0 15 k).toInt.toNat = true ∧ (hi q 12 k).toInt = (clw w (hi h0 15 k).toInt.toNat : Nat)
theorem lo_goers (hw : w ≤ 5) (hg : g ≤ 5) (e0 : (hi h0 4 0).toInt = (w : Int)) (e1 : (hi h0 4 1).toInt = (g : Int)) (f6 : (hi h0 2 6).toInt = 0) (sp : ∀ k : Nat, (k : Int) < (hi h0 3 2).toInt → 0 ≤ (hi h0 15 k).toInt ∧ (hi h0 15 k).toInt ≤ 24) {x1 : Int32} {hS : Hp} (lS : LI w g h0 25 25 hS) : ∀ (n : Nat) (h : Hp) (l2 : Int32) (i : Nat), (∀ a k, a ≠ 12 → hi h a k = hi hS a k) → (∀ k : Nat, k < i → (k : Int) < (hi h0 3 2).toInt → onW w g (hi h0 15 k).toInt.toNat ∧ ¬ bt (hi h0 2 12) (hi h0 15 k).toInt.toNat = true ∧ (hi h 12 k).toInt = (clw w (hi h0 15 k).toInt.toNat : Nat)) → l2.toInt = (i : Int) → i ≤ 5 → Pc (W_X7_layOut n 128 h x1 l2) (fun q => ZC q → LF w g h0 q) := by
  have f0 := lit_0
  have f1 := lit_1
  have f5 := lit_5
  have f6' := lit_6'
  intro n
  induction n with
  | zero => intro h l2 i a b c d; exact Pc.no
  | succ n ih =>
    intro h l2 i a b c d
    obtain ⟨l1, l2', l3, l4, l5, l6⟩ := lS
    have r (x k : Nat) (m : x ≠ 10 ∧ x ≠ 11 ∧ x ≠ 12) : hi h x k = hi h0 x k := by rw [a x k m.2.2, l1.1 x k m.1 m.2.1 m.2.2]
    have fin (cc : ∀ k : Nat, (k : Int) < (hi h0 3 2).toInt → k < 5 → k < i) : LF w g h0 h := by
      refine ⟨⟨fun x k m1 m2 m3 => r x k ⟨m1, m2, m3⟩, fun k m1 m2 => by rw [a 10 k (by decide)]; exact l1.2.1 k m1 m2⟩, fun b' hb => ?_, fun b' hb => ?_, fun b' hb z => ?_, ⟨fun c' hc z => l5 c' hc z, fun c' hc z => l6 c' hc z⟩, fun k hk k5 => b k (cc k hk k5) hk⟩
      · rw [a 10 2 (by decide), l2' b' hb]
        exact ⟨fun z => ⟨z.1, z.2.2⟩, fun z => ⟨z.1, (spt_on hw hg z.1).1, z.2⟩⟩
      · rw [a 10 3 (by decide), l3 b' hb]
        exact ⟨fun z => ⟨z.1, z.2.2⟩, fun z => ⟨z.1, (spt_on hw hg z.1).1, z.2⟩⟩
      · rw [a 11 b' (by decide)]
        exact l4 b' hb (spt_on hw hg hb).1 z
    have n2 := ncT (show 0 ≤ l2.toInt by omega)
    have n2' : Int32.toNatClampNeg l2 = i := by omega
    rw [u_X7_layOut, n2', r 3 2 (by decide), r 15 i (by decide)]
    refine Pc.neg (by decide) (Pc.pos rfl ?_)
    refine Pc.le (fun z => Pc.ret (fun _ => fin (fun k hk _ => by omega))) (fun c1 => ?_)
    refine Pc.le (fun z => Pc.ret (fun _ => fin (fun k _ k5 => by omega))) (fun c2 => Pc.chk (fun _ => ?_))
    have s1 := sp i (by omega)
    have a1 := adT l2 1 (by omega) (by omega)
    obtain ⟨m, hm⟩ : ∃ m : Nat, (hi h0 15 i).toInt = (m : Int) := ⟨(hi h0 15 i).toInt.toNat, by omega⟩
    have m25 : m < 25 := by omega
    have em : (hi h0 15 i).toInt.toNat = m := by omega
    refine Pc.bind (ly_on' (w := w) (g := g) (k := m) (by rw [r 4 0 (by decide)]; exact e0) (by rw [r 4 1 (by decide)]; exact e1) m25 hm) (fun q hq => ?_)
    rw [hq.1]
    have bad : Pc ((F_X7_blame n h 6 x1).bind (fun q321 => ((F_X7_cellOf n q321 (hi h0 15 i)).bind (fun q323 => (if ixOK l2 5 = true then W_X7_layOut n 128 (wrI q323.2 12 i q323.1) x1 (l2 + 1) else none))))) (fun q => ZC q → LF w g h0 q) := by
      refine Pc.bind pc_blame (fun g' hg' => ?_)
      have e6 : hi g' 2 6 = 6 := (hg'.2.2.1 (by rw [r 2 6 (by decide)]; exact f6)).1
      have nz : ¬ ZC g' := fun z => by
        have := z.2
        rw [e6] at this
        omega
      refine Pc.bind ly_cell (fun q' hq' => Pc.chk (fun _ => ?_))
      refine (zv_X7_layOut _ _ _ _ _).mono (fun q m z => absurd ((((zc.rf _).w (by omega)).tr m).1 z) ?_)
      rw [hq']
      exact nz
    refine Pc.eq (fun _ => bad) (fun c3 => ?_)
    have on : onW w g m := onW.nn (fun z => c3 ((hq.2.mpr z).trans f0.symm))
    have rb := sh_bit (hi h 2 12) (hi h0 15 i) m m25 hm
    refine Pc.ite (fun c4 => ?_) (fun c4 => bad)
    have nr : ¬ bt (hi h0 2 12) m = true := by
      have := rb.mp c4
      rw [r 2 12 (by decide)] at this
      exact this
    refine Pc.bind (ly_cell' (w := w) (k := m) (by rw [r 4 0 (by decide)]; exact e0) hw m25 hm) (fun q' hq' => Pc.chk (fun _ => ?_))
    rw [hq'.1]
    refine ih _ (l2 + 1) (i + 1) (fun x k y => ?_) (fun k hk hk2 => ?_) (by omega) (by omega)
    · rw [hi_wrI, if_neg (fun z => y z.1)]; exact a x k y
    · by_cases e : k = i
      · rw [e, em, hi_wrI, if_pos ⟨rfl, rfl⟩]
        exact ⟨on, nr, hq'.2⟩
      · rw [hi_wrI, if_neg (fun z => e z.2)]
        exact b k (by omega) hk2
set_option maxHeartbeats 4000000 in
theorem lo_spots (hw : w ≤ 5) (hg : g ≤ 5) (e0 : (hi h0 4 0).toInt = (w : Int)) (e1 : (hi h0 4 1).toInt = (g : Int)) (f6 : (hi h0 2 6).toInt = 0) (sp : ∀ k : Nat, (k : Int) < (hi h0 3 2).toInt → 0 ≤ (hi h0 15 k).toInt ∧ (hi h0 15 k).toInt ≤ 24) (tb : ∀ c, c < 25 → 0 < (hi h0 16 c).toInt → (2 ≤ (hi h0 16 c).toInt ∧ (hi h0 16 c).toInt ≤ 6) ∧ 0 ≤ (hi h0 17 c).toInt ∧ (hi h0 17 c).toInt < (hi h0 16 c).toInt) {x1 : Int32} : ∀ (n : Nat) (h : Hp) (l2 : Int32) (i : Nat), LI w g h0 i i h → l2.toInt = (i : Int) → i ≤ 25 → Pc (W_X7_layOut n 2 h x1 l2) (fun q => ZC q → LF w g h0 q) := by
  have f0 := lit_0
  have f1 := lit_1
  have f25 := lit_25
  have f6' := lit_6'
  intro n
  induction n with
  | zero => intro h l2 i l a b; exact Pc.no
  | succ n ih =>
    intro h l2 i l a b
    have r (x k : Nat) (m : x ≠ 10 ∧ x ≠ 11 ∧ x ≠ 12) : hi h x k = hi h0 x k := l.1.1 x k m.1 m.2.1 m.2.2
    have n2 := ncT (show 0 ≤ l2.toInt by omega)
    have n2' : Int32.toNatClampNeg l2 = i := by omega
    rw [u_X7_layOut, n2', r 16 i (by decide)]
    refine Pc.pos rfl ?_
    refine Pc.le (fun c => ?_) (fun c => ?_)
    · have i25 : i = 25 := by omega
      subst i25
      exact lo_goers hw hg e0 e1 f6 sp l n h 0 0 (fun _ _ _ => rfl) (fun k hk => absurd hk (Nat.not_lt_zero k)) f0 (by decide)
    · have i25 : i < 25 := by omega
      have a1 := adT l2 1 (by omega) (by omega)
      have go (h' : Hp) (l' : LI w g h0 (i + 1) (i + 1) h') : Pc (W_X7_layOut n 2 h' x1 (l2 + 1)) (fun q => ZC q → LF w g h0 q) := ih h' (l2 + 1) (i + 1) l' (by omega) (by omega)
      have rb := sh_bit (hi h 2 12) l2 i i25 a
      rw [r 2 12 (by decide)] at rb
      have nzb (g' : Hp) (e6 : hi g' 2 6 = 6) : ¬ ZC g' := fun z => by
        have := z.2
        rw [e6] at this
        omega
      have on : Pc (F_X7_onLawn n h l2) (fun q => q.2 = h ∧ (q.1.toInt = 0 ↔ ¬ onW w g i)) := ly_on' (by rw [r 4 0 (by decide)]; exact e0) (by rw [r 4 1 (by decide)]; exact e1) i25 a
      have cl (h' : Hp) (y : hi h' 4 0 = hi h0 4 0) : Pc (F_X7_cellOf n h' l2) (fun q => q.2 = h' ∧ q.1.toInt = (clw w i : Nat)) := ly_cell' (by rw [y]; exact e0) hw i25 a
      have bl : Pc (F_X7_blame n h 6 x1) (fun g' => ¬ ZC g') := pc_blame.mono (fun g' hg' => nzb g' (hg'.2.2.1 (by rw [r 2 6 (by decide)]; exact f6)).1)
      -- behind a fault
      have ba (h' : Hp) (z : ¬ ZC h') : Pc (W_X7_layOut n 2 h' x1 (l2 + 1)) (fun q => ZC q → LF w g h0 q) := (zv_X7_layOut _ _ _ _ _).mono (fun q m y => absurd (m.1 y) z)
      have bt' (h' : Hp) (z : ¬ ZC h') : Pc ((F_X7_cellOf n h' l2).bind (fun q76 => (if ixOK l2 25 = true then (if ixOK l2 25 = true then ((F_X8_soundIn n q76.2 10 q76.1 (hi q76.2 16 i) (hi q76.2 17 i)).bind (fun q80 => W_X7_layOut n 2 q80 x1 (l2 + 1))) else none) else none))) (fun q => ZC q → LF w g h0 q) := by
        refine Pc.bind ly_cell (fun q hq => Pc.chk (fun _ => Pc.chk (fun _ => ?_)))
        rw [hq]
        exact Pc.bind zf_X8_soundIn (fun q' hq' => ba q' (fun y => z ((zc.fr hq' (by intro z; omega) (by intro z; omega)).1 y)))
      -- a tune
      have tu (h' : Hp) (l' : LI w g h0 (i + 1) i h') (o : onW w g i) (tp : 0 < (hi h0 16 i).toInt) : Pc ((F_X7_cellOf n h' l2).bind (fun q76 => (if ixOK l2 25 = true then (if ixOK l2 25 = true then ((F_X8_soundIn n q76.2 10 q76.1 (hi q76.2 16 i) (hi q76.2 17 i)).bind (fun q80 => W_X7_layOut n 2 q80 x1 (l2 + 1))) else none) else none))) (fun q => ZC q → LF w g h0 q) := by
        refine Pc.bind (cl h' (l'.1.1 4 0 (by decide) (by decide) (by decide))) (fun q hq => Pc.chk (fun _ => Pc.chk (fun _ => ?_)))
        rw [hq.1]
        have e16 := l'.1.1 16 i (by decide) (by decide) (by decide)
        have e17 := l'.1.1 17 i (by decide) (by decide) (by decide)
        have t2 := tb i i25 tp
        exact Pc.bind (LI.tun hw hg i25 l' o hq.2 e16 e17 (by rw [e16]; exact t2.1) (by rw [e16, e17]; exact t2.2)) (fun q' hq' => go q' hq')
      refine Pc.ite (fun c1 => ?_) (fun c1 => ?_)
      · have nr : ¬ bt (hi h0 2 12) i = true := rb.mp (by rw [r 2 12 (by decide)] at c1; exact c1)
        have lr := l.rno nr
        refine Pc.chk (fun _ => Pc.le (fun c2 => ?_) (fun c2 => ?_))
        · repeat (first | refine Pc.pos rfl ?_ | refine Pc.neg (show ¬ ((1 : Int32) = 0) by decide) ?_)
          exact go h (lr.tno (by omega))
        · repeat (first | refine Pc.pos rfl ?_ | refine Pc.neg (show ¬ ((1 : Int32) = 0) by decide) ?_)
          refine Pc.bind on (fun q hq => ?_)
          rw [hq.1]
          refine Pc.eq (fun c3 => ?_) (fun c3 => ?_)
          · refine Pc.bind bl (fun g' hg' => ?_)
            repeat (first | refine Pc.pos rfl ?_ | refine Pc.neg (show ¬ ((1 : Int32) = 0) by decide) ?_)
            exact bt' g' hg'
          · have o : onW w g i := onW.nn (fun z => c3 ((hq.2.mpr z).trans f0.symm))
            repeat (first | refine Pc.pos rfl ?_ | refine Pc.neg (show ¬ ((1 : Int32) = 0) by decide) ?_)
            exact tu h lr o (by omega)
      · have yr : bt (hi h0 2 12) i = true := by
          refine Decidable.not_not.mp (fun z => c1 ?_)
          rw [r 2 12 (by decide)]
          exact rb.mpr z
        refine Pc.chk (fun _ => Pc.le (fun c2 => ?_) (fun c2 => ?_))
        · repeat (first | refine Pc.pos rfl ?_ | refine Pc.neg (show ¬ ((1 : Int32) = 0) by decide) ?_)
          refine Pc.bind on (fun q hq => ?_)
          rw [hq.1]
          refine Pc.eq (fun c3 => ?_) (fun c3 => ?_)
          · refine Pc.bind bl (fun g' hg' => ?_)
            repeat (first | refine Pc.pos rfl ?_ | refine Pc.neg (show ¬ ((1 : Int32) = 0) by decide) ?_)
            exact ba g' hg'
          · have o : onW w g i := onW.nn (fun z => c3 ((hq.2.mpr z).trans f0.symm))
            repeat (first | refine Pc.pos rfl ?_ | refine Pc.neg (show ¬ ((1 : Int32) = 0) by decide) ?_)
            refine Pc.bind (cl h (r 4 0 (by decide))) (fun q' hq' => ?_)
            rw [hq'.1]
            repeat (first | refine Pc.pos rfl ?_ | refine Pc.neg (show ¬ ((1 : Int32) = 0) by decide) ?_)
            exact go _ ((l.rop hw hg i25 yr o hq'.2).tno (by omega))
        · repeat (first | refine Pc.pos rfl ?_ | refine Pc.neg (show ¬ ((1 : Int32) = 0) by decide) ?_)
          refine Pc.bind on (fun q hq => ?_)
          rw [hq.1]
          refine Pc.eq (fun c3 => ?_) (fun c3 => ?_)
          · refine Pc.bind bl (fun g' hg' => ?_)
            repeat (first | refine Pc.pos rfl ?_ | refine Pc.neg (show ¬ ((1 : Int32) = 0) by decide) ?_)
            exact bt' g' hg'
          · have o : onW w g i := onW.nn (fun z => c3 ((hq.2.mpr z).trans f0.symm))
            repeat (first | refine Pc.pos rfl ?_ | refine Pc.neg (show ¬ ((1 : Int32) = 0) by decide) ?_)
            refine Pc.bind (cl h (r 4 0 (by decide))) (fun q' hq' => ?_)
            rw [hq'.1]
            repeat (first | refine Pc.pos rfl ?_ | refine Pc.neg (show ¬ ((1 : Int32) = 0) by decide) ?_)
            exact tu _ (l.rop hw hg i25 yr o hq'.2) o (by omega)
theorem lo_out (hw : w ≤ 5) (hg : g ≤ 5) (e0 : (hi h0 4 0).toInt = (w : Int)) (e1 : (hi h0 4 1).toInt = (g : Int)) (f6 : (hi h0 2 6).toInt = 0) (sp : ∀ k : Nat, (k : Int) < (hi h0 3 2).toInt → 0 ≤ (hi h0 15 k).toInt ∧ (hi h0 15 k).toInt ≤ 24) (tb : ∀ c, c < 25 → 0 < (hi h0 16 c).toInt → (2 ≤ (hi h0 16 c).toInt ∧ (hi h0 16 c).toInt ≤ 6) ∧ 0 ≤ (hi h0 17 c).toInt ∧ (hi h0 17 c).toInt < (hi h0 16 c).toInt) (z2 : hi h0 10 2 = 0) (z3 : hi h0 10 3 = 0) {x1 : Int32} {n : Nat} : Pc (F_X7_layOut n h0 x1) (fun q => ZC q → LF w g h0 q) := by
  unfold F_X7_layOut
  refine lo_spots hw hg e0 e1 f6 sp tb n h0 0 0 ⟨⟨fun _ _ _ _ _ => rfl, fun _ _ _ => rfl, fun _ => rfl⟩, fun b hb => ?_, fun b hb => ?_, fun b hb h1 => absurd h1 (Nat.not_lt_zero _), fun c hc => absurd hc (Nat.not_lt_zero c), fun c hc => absurd hc (Nat.not_lt_zero c)⟩ lit_0 (by decide)
  · rw [z2, bt_zero]
    exact ⟨fun z => Bool.noConfusion z, fun z => absurd z.2.1 (Nat.not_lt_zero _)⟩
  · rw [z3, bt_zero]
    exact ⟨fun z => Bool.noConfusion z, fun z => absurd z.2.1 (Nat.not_lt_zero _)⟩
end LZ
