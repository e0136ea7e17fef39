/-! BEYOND THE LAWN: the class -/
theorem sh_bit (x : Int32) (y : Int32) (k : Nat) (hk : k < 25) (hy : y.toInt = (k : Int)) : (((x.toUInt32 >>> (y.toUInt32 &&& Int32.toUInt32 31)).toInt32 &&& 1) : Int32) = 0 ↔ ¬ x.toBitVec.getLsbD k = true := by
  have e : y = Int32.ofNat k := by
    apply Int32.toInt_inj.mp
    rw [hy, Int32.toInt_ofNat_of_lt (by omega)]
  subst e
  have key : ∀ k : Fin 25, (((Int32.ofNat k.val).toUInt32 &&& Int32.toUInt32 31).toBitVec % 32#32).toNat = k.val := by decide
  have z := key ⟨k, hk⟩
  rw [← Int32.toBitVec_inj]
  show ((x.toUInt32 >>> ((Int32.ofNat k).toUInt32 &&& Int32.toUInt32 31)).toBitVec &&& 1#32) = 0#32 ↔ _
  rw [UInt32.toBitVec_shiftRight]
  have e1 : (x.toUInt32.toBitVec >>> (((Int32.ofNat k).toUInt32 &&& Int32.toUInt32 31).toBitVec % 32#32)) = x.toBitVec >>> k := by
    show x.toBitVec >>> (((Int32.ofNat k).toUInt32 &&& Int32.toUInt32 31).toBitVec % 32#32).toNat = _
    rw [z]
  have e2 : (x.toUInt32.toBitVec >>> (((Int32.ofNat k).toUInt32 &&& Int32.toUInt32 31).toBitVec % 32)) = x.toBitVec >>> k := e1
  rw [e2, BitVec.and_one_eq_setWidth_ofBool_getLsbD, BitVec.getLsbD_ushiftRight, Nat.add_zero]
  cases x.toBitVec.getLsbD k
  · exact ⟨fun _ z => Bool.noConfusion z, fun _ => by decide⟩
  · exact ⟨fun z => absurd z (by decide), fun z => absurd rfl z⟩
theorem mod5 (x : Int32) (k : Nat) (hk : k < 25) (hx : x.toInt = (k : Int)) : (x - x / 5 * 5).toInt = ((k % 5 : Nat) : Int) ∧ (x / 5).toInt = ((k / 5 : Nat) : Int) := by
  have e : x = Int32.ofNat k := by
    apply Int32.toInt_inj.mp
    rw [hx, Int32.toInt_ofNat_of_lt (by omega)]
  subst e
  have key : ∀ k : Fin 25, (Int32.ofNat k.val - Int32.ofNat k.val / 5 * 5).toInt = ((k.val % 5 : Nat) : Int) ∧ (Int32.ofNat k.val / 5).toInt = ((k.val / 5 : Nat) : Int) := by decide
  exact key ⟨k, hk⟩
/-- off a lawn of w by g -/
def offC (w g : Int) (c : Nat) : Prop := w ≤ ((c % 5 : Nat) : Int) ∨ g ≤ ((c / 5 : Nat) : Int)
def rpB (h : Hp) (c : Nat) : Prop := (hi h 2 12).toBitVec.getLsbD c = true
/-- a rope or a tune off the lawn -/
def BC (h : Hp) (c : Nat) : Prop := (rpB h c ∨ 0 < (hi h 16 c).toInt) ∧ offC (hi h 4 0).toInt (hi h 4 1).toInt c
/-- a goer off the lawn or on a rope -/
def BG (h : Hp) (g : Nat) : Prop := offC (hi h 4 0).toInt (hi h 4 1).toInt (hi h 15 g).toInt.toNat ∨ rpB h (hi h 15 g).toInt.toNat
def BY (h : Hp) : Prop := (∃ c, c < 25 ∧ BC h c) ∨ ∃ g : Nat, (g : Int) < (hi h 3 2).toInt ∧ g < 5 ∧ BG h g
/-- what laying out leaves: b says that something was blamed -/
def lyS (h0 : Hp) (x1 : Int32) (b : Bool) (h : Hp) : Prop := (∀ a k, ¬ (a = 2 ∧ (k = 6 ∨ k = 7)) → a ≠ 10 → a ≠ 11 → a ≠ 12 → hi h a k = hi h0 a k) ∧ (((hi h0 2 6).toInt ≠ 0 ∨ b = false) → hi h 2 6 = hi h0 2 6 ∧ hi h 2 7 = hi h0 2 7) ∧ ((hi h0 2 6).toInt = 0 → b = true → hi h 2 6 = 6 ∧ hi h 2 7 = x1)
section LY
variable {h0 h : Hp} {x1 : Int32} {b : Bool} {n : Nat}
theorem lyS.rf : lyS h0 x1 false h0 := ⟨fun _ _ _ _ _ _ => rfl, fun _ => ⟨rfl, rfl⟩, fun _ z => Bool.noConfusion z⟩
theorem lyS.w (s : lyS h0 x1 b h) {a k : Nat} {v : Int32} (q : a = 10 ∨ a = 11 ∨ a = 12) : lyS h0 x1 b (wrI h a k v) := by
  have e (k' : Nat) : hi (wrI h a k v) 2 k' = hi h 2 k' := by rw [hi_wrI, if_neg (by omega)]
  refine ⟨fun x y n1 n2 n3 n4 => ?_, ?_, ?_⟩
  · rw [hi_wrI, if_neg (by omega)]; exact s.1 x y n1 n2 n3 n4
  · rw [e 6, e 7]; exact s.2.1
  · rw [e 6, e 7]; exact s.2.2
theorem ly_blame (s : lyS h0 x1 b h) : Pc (F_X7_blame n h 6 x1) (lyS h0 x1 true) := by
  refine pc_blame.mono (fun q hq => ?_)
  obtain ⟨b1, b2, b3, b4⟩ := hq
  have f6 := lit_6
  refine ⟨fun a k n1 n2 n3 n4 => ?_, fun z => ?_, fun z _ => ?_⟩
  · by_cases y : a = 2
    · subst y
      rw [b2 k (by omega) (by omega)]
      exact s.1 2 k n1 n2 n3 n4
    · rw [b1.1 a k (by omega)]
      exact s.1 a k n1 n2 n3 n4
  · have z' : (hi h0 2 6).toInt ≠ 0 := by
      rcases z with z | z
      · exact z
      · exact Bool.noConfusion z
    have y := s.2.1 (Or.inl z')
    rw [b4 (by rw [y.1]; exact z')]
    exact y
  · cases b with
    | true =>
      have y := s.2.2 z rfl
      rw [b4 (by rw [y.1]; omega)]
      exact y
    | false =>
      have y := s.2.1 (Or.inr rfl)
      exact b3 (by rw [y.1]; exact z)
theorem ly_on {x : Int32} : Pc (F_X7_onLawn n h x) (fun q => q.2 = h ∧ ∀ k : Nat, k < 25 → x.toInt = (k : Int) → (q.1.toInt = 0 ↔ offC (hi h 4 0).toInt (hi h 4 1).toInt k)) := by
  have f0 := lit_0
  have f1 := lit_1
  unfold F_X7_onLawn
  refine Pc.le (fun c => Pc.ret ⟨rfl, fun k hk hx => ⟨fun _ => Or.inl ?_, fun _ => f0⟩⟩) (fun c => ?_)
  · have := (mod5 x k hk hx).1
    omega
  · refine Pc.le (fun c' => Pc.ret ⟨rfl, fun k hk hx => ⟨fun _ => Or.inr ?_, fun _ => f0⟩⟩) (fun c' => Pc.ret ⟨rfl, fun k hk hx => ⟨fun z => ?_, fun z => ?_⟩⟩)
    · have := (mod5 x k hk hx).2
      omega
    · have z' : (1 : Int32).toInt = 0 := z
      exfalso; omega
    · have := mod5 x k hk hx
      unfold offC at z
      exfalso; omega
theorem ly_sound (s : lyS h0 x1 b h) {x y z : Int32} : Pc (F_X8_soundIn n h 10 x y z) (lyS h0 x1 b) := by
  unfold F_X8_soundIn
  refine Pc.lt (fun _ => Pc.ret s) (fun _ => Pc.le (fun _ => Pc.ret s) (fun _ => Pc.chk (fun _ => Pc.ret ?_)))
  exact (s.w (Or.inr (Or.inl rfl))).w (Or.inl rfl)
theorem ly_cell {x : Int32} : Pc (F_X7_cellOf n h x) (fun q => q.2 = h) := by
  unfold F_X7_cellOf
  exact Pc.ret rfl
/-- a goer is laid out -/
theorem ly_128 (sp : (hi h0 2 6).toInt = 0 → ∀ g : Nat, (g : Int) < (hi h0 3 2).toInt → 0 ≤ (hi h0 15 g).toInt ∧ (hi h0 15 g).toInt ≤ 24) : ∀ (n : Nat) (h : Hp) (l2 : Int32) (i : Nat) (b : Bool), lyS h0 x1 b h → l2.toInt = (i : Int) → i ≤ 5 → ((hi h0 2 6).toInt = 0 → (b = true ↔ (∃ c, c < 25 ∧ BC h0 c) ∨ ∃ g : Nat, (g : Int) < (hi h0 3 2).toInt ∧ g < i ∧ BG h0 g)) → Pc (W_X7_layOut n 128 h x1 l2) (fun q => ∃ b, lyS h0 x1 b q ∧ ((hi h0 2 6).toInt = 0 → (b = true ↔ BY h0))) := by
  intro n
  induction n with
  | zero => intro h l2 i b s hi' i5 hb; exact Pc.no
  | succ n ih =>
    intro h l2 i b s hi' i5 hb
    have f0 := lit_0
    have f1 := lit_1
    have f5 := lit_5
    have e32 : hi h 3 2 = hi h0 3 2 := s.1 3 2 (by decide) (by decide) (by decide) (by decide)
    have n1 := ncT (show 0 ≤ l2.toInt by omega)
    have n2 : Int32.toNatClampNeg l2 = i := by omega
    have e15 : hi h 15 i = hi h0 15 i := s.1 15 i (by omega) (by decide) (by decide) (by decide)
    have e12 : hi h 2 12 = hi h0 2 12 := s.1 2 12 (by decide) (by decide) (by decide) (by decide)
    have e40 : hi h 4 0 = hi h0 4 0 := s.1 4 0 (by decide) (by decide) (by decide) (by decide)
    have e41 : hi h 4 1 = hi h0 4 1 := s.1 4 1 (by decide) (by decide) (by decide) (by decide)
    have a1 := adT l2 1 (by omega) (by omega)
    rw [u_X7_layOut]
    refine Pc.neg (by decide) (Pc.pos rfl ?_)
    rw [e32, n2, e15]
    have done (k : i = 5 ∨ (hi h0 3 2).toInt ≤ (i : Int)) : Pc (some h) (fun q => ∃ b, lyS h0 x1 b q ∧ ((hi h0 2 6).toInt = 0 → (b = true ↔ BY h0))) := by
      refine Pc.ret ⟨b, s, fun z => (hb z).trans ⟨fun y => ?_, fun y => ?_⟩⟩
      · rcases y with y | ⟨g, y1, y2, y3⟩
        · exact Or.inl y
        · exact Or.inr ⟨g, y1, by omega, y3⟩
      · rcases y with y | ⟨g, y1, y2, y3⟩
        · exact Or.inl y
        · exact Or.inr ⟨g, y1, by omega, y3⟩
    refine Pc.le (fun c => done (Or.inr (by omega))) (fun c => ?_)
    refine Pc.le (fun c' => done (Or.inl (by omega))) (fun c' => ?_)
    have next (b' : Bool) (g : Hp) (s' : lyS h0 x1 b' g) (hb' : (hi h0 2 6).toInt = 0 → (b' = true ↔ b = true ∨ BG h0 i)) : Pc (W_X7_layOut n 128 g x1 (l2 + 1)) (fun q => ∃ b, lyS h0 x1 b q ∧ ((hi h0 2 6).toInt = 0 → (b = true ↔ BY h0))) := by
      refine ih g (l2 + 1) (i + 1) b' s' (by omega) (by omega) (fun z => (hb' z).trans ?_)
      rw [hb z]
      constructor
      · rintro ((y | ⟨g, y1, y2, y3⟩) | y)
        · exact Or.inl y
        · exact Or.inr ⟨g, y1, by omega, y3⟩
        · exact Or.inr ⟨i, by omega, by omega, y⟩
      · rintro (y | ⟨g, y1, y2, y3⟩)
        · exact Or.inl (Or.inl y)
        · by_cases w : g = i
          · subst w; exact Or.inr y3
          · exact Or.inl (Or.inr ⟨g, y1, by omega, y3⟩)
    have cell (b' : Bool) (g : Hp) (s' : lyS h0 x1 b' g) (hb' : (hi h0 2 6).toInt = 0 → (b' = true ↔ b = true ∨ BG h0 i)) : Pc ((F_X7_cellOf n g (hi h0 15 i)).bind (fun q323 => (if ixOK l2 5 = true then W_X7_layOut n 128 (wrI q323.2 12 i q323.1) x1 (l2 + 1) else none))) (fun q => ∃ b, lyS h0 x1 b q ∧ ((hi h0 2 6).toInt = 0 → (b = true ↔ BY h0))) := by
      refine Pc.bind ly_cell (fun q hq => Pc.chk (fun _ => ?_))
      rw [hq]
      exact next b' _ (s'.w (Or.inr (Or.inr rfl))) hb'
    refine Pc.chk (fun _ => ?_)
    refine Pc.bind ly_on (fun q hq => ?_)
    obtain ⟨q1, q2⟩ := hq
    rw [q1, e12]
    rw [e40, e41] at q2
    have ln (z : (hi h0 2 6).toInt = 0) : (hi h0 15 i).toInt = ((hi h0 15 i).toInt.toNat : Int) ∧ (hi h0 15 i).toInt.toNat < 25 := by
      have := sp z i (by omega)
      omega
    have bl (z : (hi h0 2 6).toInt = 0 → BG h0 i) : Pc ((F_X7_blame n h 6 x1).bind (fun q321 => ((F_X7_cellOf n q321 (hi h0 15 i)).bind (fun q323 => (if ixOK l2 5 = true then W_X7_layOut n 128 (wrI q323.2 12 i q323.1) x1 (l2 + 1) else none))))) (fun q => ∃ b, lyS h0 x1 b q ∧ ((hi h0 2 6).toInt = 0 → (b = true ↔ BY h0))) :=
      Pc.bind (ly_blame s) (fun g hg => cell true g hg (fun y => ⟨fun _ => Or.inr (z y), fun _ => rfl⟩))
    refine Pc.eq (fun c2 => bl (fun z => Or.inl ((q2 _ (ln z).2 (ln z).1).mp (c2.trans f0)))) (fun c2 => ?_)
    refine Pc.ite (fun c3 => cell b h s (fun z => ⟨fun y => Or.inl y, fun y => ?_⟩)) (fun c3 => bl (fun z => Or.inr ?_))
    · rcases y with y | y | y
      · exact y
      · exact absurd (((q2 _ (ln z).2 (ln z).1).mpr y).trans f0.symm) c2
      · exact absurd y ((sh_bit _ _ _ (ln z).2 (ln z).1).mp c3)
    · by_cases w : rpB h0 (hi h0 15 i).toInt.toNat
      · exact w
      · exact absurd ((sh_bit _ _ _ (ln z).2 (ln z).1).mpr w) c3
def lyR (h0 : Hp) (x1 : Int32) (q : Hp) : Prop := ∃ b, lyS h0 x1 b q ∧ ((hi h0 2 6).toInt = 0 → (b = true ↔ BY h0))
set_option maxHeartbeats 8000000 in
/-- the spots are laid out -/
theorem ly_2 (sp : (hi h0 2 6).toInt = 0 → ∀ g : Nat, (g : Int) < (hi h0 3 2).toInt → 0 ≤ (hi h0 15 g).toInt ∧ (hi h0 15 g).toInt ≤ 24) : ∀ (n : Nat) (h : Hp) (l2 : Int32) (i : Nat) (b : Bool), lyS h0 x1 b h → l2.toInt = (i : Int) → i ≤ 25 → ((hi h0 2 6).toInt = 0 → (b = true ↔ ∃ c, c < i ∧ BC h0 c)) → Pc (W_X7_layOut n 2 h x1 l2) (lyR h0 x1) := by
  intro n
  induction n with
  | zero => intro h l2 i b s hi' i5 hb; exact Pc.no
  | succ n ih =>
    intro h l2 i b s hi' i5 hb
    have f0 := lit_0
    have f1 := lit_1
    have f25 := lit_25
    have n1 := ncT (show 0 ≤ l2.toInt by omega)
    have n2 : Int32.toNatClampNeg l2 = i := by omega
    have e12 : hi h 2 12 = hi h0 2 12 := s.1 2 12 (by decide) (by decide) (by decide) (by decide)
    have e16 : hi h 16 i = hi h0 16 i := s.1 16 i (by omega) (by decide) (by decide) (by decide)
    have e40 : hi h 4 0 = hi h0 4 0 := s.1 4 0 (by decide) (by decide) (by decide) (by decide)
    have e41 : hi h 4 1 = hi h0 4 1 := s.1 4 1 (by decide) (by decide) (by decide) (by decide)
    have a1 := adT l2 1 (by omega) (by omega)
    rw [u_X7_layOut]
    refine Pc.pos rfl ?_
    refine Pc.le (fun c => ?_) (fun c => ?_)
    · have i25 : i = 25 := by omega
      subst i25
      refine ly_128 sp n h 0 0 b s f0 (by decide) (fun z => (hb z).trans ⟨fun y => Or.inl y, fun y => ?_⟩)
      rcases y with y | ⟨g, -, y, -⟩
      · exact y
      · exact absurd y (Nat.not_lt_zero g)
    · have il : i < 25 := by omega
      have sb := sh_bit (hi h0 2 12) l2 i il hi'
      have next (b' : Bool) (g : Hp) (s' : lyS h0 x1 b' g) (hb' : (hi h0 2 6).toInt = 0 → (b' = true ↔ b = true ∨ BC h0 i)) : Pc (W_X7_layOut n 2 g x1 (l2 + 1)) (lyR h0 x1) := by
        refine ih g (l2 + 1) (i + 1) b' s' (by omega) (by omega) (fun z => (hb' z).trans ?_)
        rw [hb z]
        constructor
        · rintro (⟨g, y2, y3⟩ | y)
          · exact ⟨g, by omega, y3⟩
          · exact ⟨i, by omega, y⟩
        · rintro ⟨g, y2, y3⟩
          by_cases w : g = i
          · subst w; exact Or.inr y3
          · exact Or.inl ⟨g, by omega, y3⟩
      have nw (g : Hp) (s' : lyS h0 x1 b g) (nb : ¬ BC h0 i) : Pc (W_X7_layOut n 2 g x1 (l2 + 1)) (lyR h0 x1) := next b g s' (fun _ => ⟨fun y => Or.inl y, fun y => y.elim (fun y => y) (fun y => absurd y nb)⟩)
      have yw (g : Hp) (s' : lyS h0 x1 true g) (nb : BC h0 i) : Pc (W_X7_layOut n 2 g x1 (l2 + 1)) (lyR h0 x1) := next true g s' (fun _ => ⟨fun _ => Or.inr nb, fun _ => rfl⟩)
      -- a tune is laid down there
      have sound (b' : Bool) (g : Hp) (s' : lyS h0 x1 b' g) (k : ∀ g', lyS h0 x1 b' g' → Pc (W_X7_layOut n 2 g' x1 (l2 + 1)) (lyR h0 x1)) : Pc ((F_X7_cellOf n g l2).bind (fun q => (if ixOK l2 25 = true then (if ixOK l2 25 = true then ((F_X8_soundIn n q.2 10 q.1 (hi q.2 16 (Int32.toNatClampNeg l2)) (hi q.2 17 (Int32.toNatClampNeg l2))).bind (fun q' => W_X7_layOut n 2 q' x1 (l2 + 1))) else none) else none))) (lyR h0 x1) := by
        refine Pc.bind ly_cell (fun q hq => Pc.chk (fun _ => Pc.chk (fun _ => ?_)))
        rw [hq]
        exact Pc.bind (ly_sound s') (fun q' hq' => k q' hq')
      refine Pc.ite (fun c1 => ?_) (fun c1 => ?_)
      · rw [e12] at c1
        have nr : ¬ rpB h0 i := sb.mp c1
        refine Pc.chk (fun _ => ?_)
        refine Pc.le (fun c2 => ?_) (fun c2 => ?_)
        · rw [n2, e16] at c2
          refine Pc.pos rfl (Pc.pos rfl (Pc.pos rfl (Pc.pos rfl (nw h s (fun z => ?_)))))
          rcases z.1 with z | z
          · exact nr z
          · omega
        · rw [n2, e16] at c2
          refine Pc.pos rfl (Pc.neg (by decide) (Pc.bind ly_on (fun q hq => ?_)))
          obtain ⟨q1, q2⟩ := hq
          rw [q1]
          rw [e40, e41] at q2
          have q3 := q2 i il hi'
          refine Pc.eq (fun c3 => ?_) (fun c3 => ?_)
          · refine Pc.bind (ly_blame s) (fun g hg => Pc.neg (by decide) (sound true g hg (fun g' s' => yw g' s' ⟨Or.inr (by omega), q3.mp (c3.trans f0)⟩)))
          · refine Pc.pos rfl (Pc.neg (by decide) (sound b h s (fun g' s' => nw g' s' (fun z => ?_))))
            exact absurd ((q3.mpr z.2).trans f0.symm) c3
      · rw [e12] at c1
        have yr : rpB h0 i := by
          by_cases w : rpB h0 i
          · exact w
          · exact absurd (sb.mpr w) c1
        refine Pc.chk (fun _ => ?_)
        refine Pc.le (fun c2 => ?_) (fun c2 => ?_)
        · refine Pc.neg (by decide) (Pc.bind ly_on (fun q hq => ?_))
          obtain ⟨q1, q2⟩ := hq
          rw [q1]
          rw [e40, e41] at q2
          have q3 := q2 i il hi'
          refine Pc.eq (fun c3 => ?_) (fun c3 => ?_)
          · refine Pc.bind (ly_blame s) (fun g hg => Pc.pos rfl (yw g hg ⟨Or.inl yr, q3.mp (c3.trans f0)⟩))
          · refine Pc.neg (by decide) (Pc.bind ly_cell (fun g hg => Pc.pos rfl ?_))
            rw [hg]
            exact nw _ (s.w (Or.inl rfl)) (fun z => absurd ((q3.mpr z.2).trans f0.symm) c3)
        · refine Pc.neg (by decide) (Pc.bind ly_on (fun q hq => ?_))
          obtain ⟨q1, q2⟩ := hq
          rw [q1]
          rw [e40, e41] at q2
          have q3 := q2 i il hi'
          refine Pc.eq (fun c3 => ?_) (fun c3 => ?_)
          · refine Pc.bind (ly_blame s) (fun g hg => Pc.neg (by decide) (sound true g hg (fun g' s' => yw g' s' ⟨Or.inl yr, q3.mp (c3.trans f0)⟩)))
          · refine Pc.neg (by decide) (Pc.bind ly_cell (fun g hg => Pc.neg (by decide) ?_))
            rw [hg]
            exact sound b _ (s.w (Or.inl rfl)) (fun g' s' => nw g' s' (fun z => absurd ((q3.mpr z.2).trans f0.symm) c3))
theorem ly_out (sp : (hi h0 2 6).toInt = 0 → ∀ g : Nat, (g : Int) < (hi h0 3 2).toInt → 0 ≤ (hi h0 15 g).toInt ∧ (hi h0 15 g).toInt ≤ 24) : Pc (F_X7_layOut n h0 x1) (lyR h0 x1) := by
  unfold F_X7_layOut
  exact ly_2 sp n h0 0 0 false lyS.rf lit_0 (by decide) (fun _ => ⟨fun z => Bool.noConfusion z, fun ⟨c, y, _⟩ => absurd y (Nat.not_lt_zero c)⟩)
end LY
