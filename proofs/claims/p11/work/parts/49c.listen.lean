/-! FITS, LISTEN: both -/
section FL
variable {h h0 : Hp} {n : Nat} {x1 x2 : Int32}
theorem ez_knows : Pc (F_X2_knows n h x1) (fun q => q.2 = h ∧ (q.1.toInt ≠ 0 ↔ 0 ≤ x1.toInt ∧ x1.toInt ≤ (hi h 201 2).toInt)) := by
  have f0 := lit_0
  have f1 := lit_1
  unfold F_X2_knows
  refine Pc.lt (fun c1 => Pc.ret ⟨rfl, ?_⟩) (fun c1 => Pc.lt (fun c2 => Pc.ret ⟨rfl, ?_⟩) (fun c2 => Pc.ret ⟨rfl, ?_⟩))
  · show (0 : Int32).toInt ≠ 0 ↔ _
    omega
  · show (0 : Int32).toInt ≠ 0 ↔ _
    omega
  · show (1 : Int32).toInt ≠ 0 ↔ _
    omega
theorem ez_nought : Pc (F_X11_isNoughtOrOne n h x1) (fun q => q.2 = h ∧ (q.1.toInt ≠ 0 ↔ 0 ≤ x1.toInt ∧ x1.toInt ≤ 1)) := by
  have f0 := lit_0
  have f1 := lit_1
  unfold F_X11_isNoughtOrOne
  refine Pc.eq (fun c1 => Pc.ret ⟨rfl, ?_⟩) (fun c1 => Pc.eq (fun c2 => Pc.ret ⟨rfl, ?_⟩) (fun c2 => Pc.ret ⟨rfl, ?_⟩))
  · show (1 : Int32).toInt ≠ 0 ↔ _
    omega
  · show (1 : Int32).toInt ≠ 0 ↔ _
    omega
  · show (0 : Int32).toInt ≠ 0 ↔ _
    omega
/-- what the class answers: -1, how many, the first -/
def fsP (h : Hp) (x1 x2 v : Int32) : Prop := (¬ ((0 ≤ x1.toInt ∧ x1.toInt ≤ (hi h 201 2).toInt) ∧ 0 ≤ x2.toInt ∧ x2.toInt ≤ 1) ∧ v = -1) ∨ (((0 ≤ x1.toInt ∧ x1.toInt ≤ (hi h 201 2).toInt) ∧ 0 ≤ x2.toInt ∧ x2.toInt ≤ 1) ∧ ∃ F : Int32, fiB F h x1.toInt.toNat ∧ (x2.toInt = 0 → v.toInt = (cntB (bt F) 20 : Nat)) ∧ (x2.toInt ≠ 0 → ∀ u, ffP F u → v = u))
theorem fs_class (w : ezTold h) : Pc (F_X11_fits n h x1 x2) (fun q => q.2 = h ∧ fsP h x1 x2 q.1) := by
  have f0 := lit_0
  unfold F_X11_fits
  refine Pc.bind ez_knows (fun q1 hq1 => ?_)
  obtain ⟨s1, s2⟩ := hq1
  rw [s1]
  refine Pc.eq (fun c1 => Pc.ret ⟨rfl, Or.inl ⟨by omega, rfl⟩⟩) (fun c1 => ?_)
  refine Pc.bind ez_nought (fun q4 hq4 => ?_)
  obtain ⟨t1, t2⟩ := hq4
  rw [t1]
  refine Pc.eq (fun c2 => Pc.ret ⟨rfl, Or.inl ⟨by omega, rfl⟩⟩) (fun c2 => ?_)
  refine Pc.bind (fi_class (k := x1.toInt.toNat) (by omega) (by omega) w) (fun q7 hq7 => ?_)
  obtain ⟨u1, u2⟩ := hq7
  rw [u1]
  refine Pc.eq (fun c3 => ?_) (fun c3 => ?_)
  · refine Pc.bind pc_bits (fun q12 hq => Pc.ret ⟨hq.1, Or.inr ⟨⟨⟨by omega, by omega⟩, by omega, by omega⟩, q7.1, u2, fun _ => ?_, fun z => absurd (c3.trans f0) z⟩⟩)
    show q12.1.toInt = _
    rw [hq.2, cnt20 u2.2]
  · refine Pc.bind (fr_class u2.2) (fun q10 hq => Pc.ret ⟨hq.1, Or.inr ⟨⟨⟨by omega, by omega⟩, by omega, by omega⟩, q7.1, u2, fun z => absurd (z.trans f0.symm) c3, fun _ u hu => ?_⟩⟩)
    exact hq.2 u hu
theorem ft_ie {q1 q2 : Int32 × Hp} {n1 n2 : Nat} (w : Ie h0) (e1 : F_X11_fits n1 h0 x1 x2 = some q1) (e2 : F_X12_fits n2 q1.2 x1 x2 = some q2) : q1.1 = q2.1 ∧ Ie q2.2 := by
  have f0 := lit_0
  have f1 := lit_1
  obtain ⟨r1, r2⟩ := fs_class w.2 q1 e1
  rw [r1] at e2
  obtain ⟨w1, w2, w3⟩ := w.2
  have tm : ∀ i, i < x1.toInt.toNat → x1.toInt ≤ (hi h0 201 2).toInt → 0 ≤ (hi h0 271 i).toInt := fun i hi' l => (w3 i (by omega)).2.2.1
  have e5 : (hi h0 226 65).toInt = (hi h0 201 2).toInt := by rw [w1]
  have key : Pc (F_X12_fits n2 h0 x1 x2) (fun q => q.2 = h0 ∧ q1.1 = q.1) := by
    unfold F_X12_fits
    refine Pc.bind ez_in (fun q3 hq3 => ?_)
    obtain ⟨s1, s2⟩ := hq3
    rw [s1]
    refine Pc.eq (fun c1 => Pc.ret ⟨rfl, ?_⟩) (fun c1 => ?_)
    · rcases r2 with ⟨_, b⟩ | ⟨a, _⟩
      · exact b
      · exfalso; omega
    refine Pc.bind ez_in (fun q4 hq4 => ?_)
    obtain ⟨t1, t2⟩ := hq4
    rw [t1]
    refine Pc.eq (fun c2 => Pc.ret ⟨rfl, ?_⟩) (fun c2 => ?_)
    · rcases r2 with ⟨_, b⟩ | ⟨a, _⟩
      · exact b
      · exfalso; omega
    rcases r2 with ⟨a, _⟩ | ⟨a, F, b1, b2, b3⟩
    · exfalso
      refine a ⟨⟨?_, ?_⟩, ?_, ?_⟩ <;> omega
    refine Pc.eq (fun c3 => ?_) (fun c3 => ?_)
    · have m1 : (-1 : Int32).toInt = -1 := by decide
      refine Pc.bind (fc_ref (k := x1.toInt.toNat) (G := F) (by omega) (by omega) (fun i hi' => tm i hi' (by omega)) (fun c hc o ho => ?_)) (fun q10 hq => Pc.ret ⟨hq.1, Int32.toInt_inj.mp ?_⟩)
      · rw [b1.1 c hc o ho]
        exact ⟨fun y => ⟨y, Or.inl (by omega)⟩, fun y => y.1⟩
      · show q1.1.toInt = q10.1.toInt
        rw [hq.2, b2 (by omega)]
    · refine Pc.bind (ff_ref (k := x1.toInt.toNat) (by omega) (by omega) (fun i hi' => tm i hi' (by omega)) b1) (fun q8 hq => Pc.ret ⟨hq.1, ?_⟩)
      exact b3 (by omega) q8.1 hq.2
  obtain ⟨k1, k2⟩ := key q2 e2
  refine ⟨k2, ?_⟩
  rw [k1]
  exact w
/-- both go through the times -/
theorem ls_loop {F T x1 : Int32} {k : Nat} (hk : x1.toInt = (k : Int)) (k20 : k ≤ 20) (tm : ∀ i, i < k → 0 ≤ (hi h 271 i).toInt) (g : fiB F h k) (hT : T.toInt = (cntB (bt F) 20 : Nat)) : ∀ (n : Nat) (l1 l2 l3 : Int32), 0 ≤ l3.toInt → l3.toInt ≤ 60 → l2.toInt ≤ 100 → Pc (W_X2_bestTime n 12 h F l1 l2 l3) (fun qc => qc.2 = h ∧ ∀ (m : Nat) (l4 : Int32), (l1.toInt < 0 ∧ l2.toInt = T.toInt + 1) ∨ (0 ≤ l1.toInt ∧ l2 = l4) → Pc (W_X12_listen m 30 h x1 T l1 l4 l3) (fun qr => qr.2 = h ∧ qc.1 = qr.1)) := by
  have f0 := lit_0
  have f1 := lit_1
  have f60 := lit_60
  have c20 := cntB_le (bt F) 20
  intro n
  induction n with
  | zero => intro l1 l2 l3 a b d; exact Pc.no
  | succ n ih =>
    intro l1 l2 l3 a b d
    rw [u_X2_bestTime]
    refine Pc.pos rfl (Pc.le (fun c1 => Pc.ret ⟨rfl, fun m l4 _ => ?_⟩) (fun c1 => Pc.ite (fun c2 => Pc.ret ⟨rfl, fun m l4 _ => ?_⟩) (fun c2 => ?_)))
    · cases m with
      | zero => exact Pc.no
      | succ m =>
        rw [u_X12_listen]
        exact Pc.pos rfl (Pc.le (fun _ => Pc.ret ⟨rfl, rfl⟩) (fun c3 => by exfalso; omega))
    · cases m with
      | zero => exact Pc.no
      | succ m =>
        rw [u_X12_listen]
        have z : cntB (bt F) 20 = 0 := cntB_no 20 (fun i _ => by rw [c2]; exact bt_zero i)
        exact Pc.pos rfl (Pc.le (fun _ => Pc.ret ⟨rfl, rfl⟩) (fun c3 => Pc.le (fun _ => Pc.ret ⟨rfl, rfl⟩) (fun c4 => by exfalso; omega)))
    have Tp : 1 ≤ cntB (bt F) 20 := by
      obtain ⟨i, i1, i2⟩ := bt_ne c2
      by_cases y : i < 20
      · exact cntB_pos i2 20 y
      · rw [g.2 i (by omega)] at i2
        exact Bool.noConfusion i2
    refine Pc.bind (so_at a) (fun q3 hq3 => ?_)
    obtain ⟨s1, s2, s3⟩ := hq3
    rw [s1]
    refine Pc.bind pc_bits (fun q5 hq5 => ?_)
    obtain ⟨t1, t2⟩ := hq5
    rw [t1]
    refine Pc.bind pc_bits (fun q7 hq7 => ?_)
    obtain ⟨u1, u2⟩ := hq7
    rw [u1]
    have sp := cntB_two F q3.1 32 (Nat.le_refl 32)
    have e32 := cnt20 g.2
    have eG : cntB (bt (F &&& q3.1)) 32 = cntB (bt (F &&& q3.1)) 20 := cnt20 (fun j hj => by rw [bt_and, g.2 j hj, Bool.false_and])
    have a3 := adT l3 1 (by omega) (by omega)
    -- what the reference counts at this time
    have rf (m : Nat) : Pc (F_X12_fitting m h x1 l3) (fun q => q.2 = h ∧ q.1.toInt = q5.1.toInt) := by
      refine (fc_ref (k := k) (G := F &&& q3.1) hk k20 tm (fun c hc o ho => ?_)).mono (fun q hq => ⟨hq.1, ?_⟩)
      · rw [bt_and, Bool.and_eq_true, g.1 c hc o ho, s2 c hc o ho]
        exact ⟨fun y => ⟨y.1, Or.inr y.2⟩, fun y => ⟨y.1, by rcases y.2 with z | z; exact absurd z (by omega); exact z⟩⟩
      · rw [hq.2, t2, eG]
    -- the greater of both
    generalize eM : (if q5.1 < q7.1 then q7.1 else q5.1 : Int32) = M
    have hM : (q5.1.toInt < q7.1.toInt ∧ M = q7.1) ∨ (q7.1.toInt ≤ q5.1.toInt ∧ M = q5.1) := by
      by_cases y : q5.1 < q7.1
      · rw [if_pos y] at eM
        exact Or.inl ⟨Int32.lt_iff_toInt_lt.mp y, eM.symm⟩
      · rw [if_neg y] at eM
        refine Or.inr ⟨?_, eM.symm⟩
        have : ¬ q5.1.toInt < q7.1.toInt := fun z => y (Int32.lt_iff_toInt_lt.mpr z)
        omega
    have hMi : M.toInt = q5.1.toInt ∨ M.toInt = q7.1.toInt := by
      rcases hM with ⟨_, y⟩ | ⟨_, y⟩
      · rw [y]; exact Or.inr rfl
      · rw [y]; exact Or.inl rfl
    have hMg : q5.1.toInt ≤ M.toInt ∧ q7.1.toInt ≤ M.toInt := by
      rcases hM with ⟨z, y⟩ | ⟨z, y⟩
      · rw [y]; omega
      · rw [y]; omega
    refine Pc.le (fun c3 => ?_) (fun c3 => ?_)
    · refine (ih l1 l2 (l3 + 1) (by omega) (by omega) d).mono (fun qc hqc => ⟨hqc.1, fun m l4 rel => ?_⟩)
      cases m with
      | zero => exact Pc.no
      | succ m =>
        have go := hqc.2 m l4 rel
        have r0 : 0 ≤ l1.toInt ∧ l2 = l4 := by
          rcases rel with y | y
          · exfalso; omega
          · exact y
        have r1 : l2.toInt = l4.toInt := by rw [r0.2]
        rw [u_X12_listen]
        refine Pc.pos rfl (Pc.le (fun _ => by exfalso; omega) (fun _ => Pc.le (fun _ => by exfalso; omega) (fun _ => ?_)))
        refine Pc.bind (rf m) (fun q9 hq9 => ?_)
        obtain ⟨v1, v2⟩ := hq9
        rw [v1]
        have sb := sbT T q9.1 (by omega) (by omega)
        refine Pc.le (fun c5 => Pc.lt (fun c6 => by exfalso; omega) (fun c6 => Pc.lt (fun c7 => by exfalso; omega) (fun _ => go))) (fun c5 => Pc.lt (fun c6 => by exfalso; omega) (fun c6 => Pc.lt (fun c7 => by exfalso; omega) (fun _ => go)))
    · refine (ih l3 M (l3 + 1) (by omega) (by omega) (by omega)).mono (fun qc hqc => ⟨hqc.1, fun m l4 rel => ?_⟩)
      cases m with
      | zero => exact Pc.no
      | succ m =>
        have r1 : 0 ≤ l1.toInt → l2.toInt = l4.toInt := by
          intro z
          rcases rel with y | y
          · exfalso; omega
          · rw [y.2]
        rw [u_X12_listen]
        refine Pc.pos rfl (Pc.le (fun _ => by exfalso; omega) (fun _ => Pc.le (fun _ => by exfalso; omega) (fun _ => ?_)))
        refine Pc.bind (rf m) (fun q9 hq9 => ?_)
        obtain ⟨v1, v2⟩ := hq9
        rw [v1]
        have sb := sbT T q9.1 (by omega) (by omega)
        refine Pc.le (fun c5 => ?_) (fun c5 => ?_)
        · have eM2 : M = T - q9.1 := Int32.toInt_inj.mp (by omega)
          have go := hqc.2 m (T - q9.1) (Or.inr ⟨a, eM2⟩)
          exact Pc.lt (fun _ => go) (fun c6 => Pc.lt (fun _ => go) (fun c7 => by have := r1 (by omega); exfalso; omega))
        · have eM2 : M = q9.1 := Int32.toInt_inj.mp (by omega)
          have go := hqc.2 m q9.1 (Or.inr ⟨a, eM2⟩)
          exact Pc.lt (fun _ => go) (fun c6 => Pc.lt (fun _ => go) (fun c7 => by have := r1 (by omega); exfalso; omega))
theorem ls_ie {q1 q2 : Int32 × Hp} {n1 n2 : Nat} (w : Ie h0) (e1 : F_X11_listen n1 h0 x1 = some q1) (e2 : F_X12_listen n2 q1.2 x1 = some q2) : q1.1 = q2.1 ∧ Ie q2.2 := by
  have f0 := lit_0
  have f1 := lit_1
  obtain ⟨w1, w2, w3⟩ := w.2
  have tm : ∀ i, i < x1.toInt.toNat → x1.toInt ≤ (hi h0 201 2).toInt → 0 ≤ (hi h0 271 i).toInt := fun i hi' l => (w3 i (by omega)).2.2.1
  have e5 : (hi h0 226 65).toInt = (hi h0 201 2).toInt := by rw [w1]
  have m1 : (-1 : Int32).toInt = -1 := by decide
  have m2 : (-2 : Int32).toInt = -2 := by decide
  have key : Pc (F_X11_listen n1 h0 x1) (fun qc => qc.2 = h0 ∧ ∀ m, Pc (F_X12_listen m h0 x1) (fun qr => qr.2 = h0 ∧ qc.1 = qr.1)) := by
    unfold F_X11_listen
    refine Pc.bind ez_knows (fun q3 hq3 => ?_)
    obtain ⟨s1, s2⟩ := hq3
    rw [s1]
    refine Pc.eq (fun c1 => Pc.ret ⟨rfl, fun m => ?_⟩) (fun c1 => ?_)
    · unfold F_X12_listen
      refine Pc.bind ez_in (fun q4 hq4 => ?_)
      obtain ⟨t1, t2⟩ := hq4
      rw [t1]
      exact Pc.eq (fun _ => Pc.ret ⟨rfl, rfl⟩) (fun c2 => by exfalso; omega)
    refine Pc.bind (fi_class (k := x1.toInt.toNat) (by omega) (by omega) w.2) (fun q4 hq4 => ?_)
    obtain ⟨u1, u2⟩ := hq4
    rw [u1]
    unfold F_X2_bestTime
    have c20 := cntB_le (bt q4.1) 20
    have hl : Pc ((F_J6_bitCount_0f7a4 n1 h0 q4.1).bind (fun q10 => W_X2_bestTime n1 12 q10.2 q4.1 (-2) (q10.1 + 1) 0)) (fun qc => qc.2 = h0 ∧ ∀ m, Pc (F_X12_listen m h0 x1) (fun qr => qr.2 = h0 ∧ qc.1 = qr.1)) := by
      refine Pc.bind pc_bits (fun q10 hq10 => ?_)
      obtain ⟨v1, v2⟩ := hq10
      rw [v1]
      have e32 := cnt20 u2.2
      have a1 := adT q10.1 1 (by omega) (by omega)
      have hT : q10.1.toInt = (cntB (bt q4.1) 20 : Nat) := by rw [v2, e32]
      refine (ls_loop (k := x1.toInt.toNat) (T := q10.1) (x1 := x1) (by omega) (by omega) (fun i hi' => tm i hi' (by omega)) u2 hT n1 (-2) (q10.1 + 1) 0 (by omega) (by omega) (by omega)).mono (fun qc hqc => ⟨hqc.1, fun m => ?_⟩)
      unfold F_X12_listen
      refine Pc.bind ez_in (fun q5 hq5 => ?_)
      obtain ⟨t1, t2⟩ := hq5
      rw [t1]
      refine Pc.eq (fun c2 => by exfalso; omega) (fun c2 => ?_)
      refine Pc.bind (fc_ref (k := x1.toInt.toNat) (G := q4.1) (by omega) (by omega) (fun i hi' => tm i hi' (by omega)) (fun c hc o ho => ?_)) (fun q13 hq13 => ?_)
      · rw [u2.1 c hc o ho]
        exact ⟨fun y => ⟨y, Or.inl (by omega)⟩, fun y => y.1⟩
      · have eT : q13.1 = q10.1 := Int32.toInt_inj.mp (by rw [hq13.2, hT])
        rw [hq13.1, eT]
        exact hqc.2 m 0 (Or.inl ⟨by omega, by omega⟩)
    exact Pc.bind hl (fun q6 hq6 => Pc.ret hq6)
  obtain ⟨r1, r2⟩ := key q1 e1
  rw [r1] at e2
  obtain ⟨k1, k2⟩ := r2 n2 q2 e2
  refine ⟨k2, ?_⟩
  rw [k1]
  exact w
end FL
