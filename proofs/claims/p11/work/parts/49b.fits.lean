/-! WHAT FITS: which tunes sound at a time, and which fit what was told -/
/-- tunes before those of beat c + 2 -/
def pr5 : Nat → Nat
  | 0 => 0
  | c + 1 => pr5 c + (c + 2)
theorem pr5_le : ∀ c, c < 6 → pr5 c ≤ 20 := by decide
theorem pr5_mono {a : Nat} (b : Nat) (h : a ≤ b) : pr5 a ≤ pr5 b := by
  induction b with
  | zero =>
    rw [show a = 0 by omega]
    exact Nat.le_refl _
  | succ b ih =>
    by_cases z : a = b + 1
    · rw [z]
      exact Nat.le_refl _
    · have := ih (by omega)
      show pr5 a ≤ pr5 b + (b + 2)
      omega
theorem pr5_lt {c' c o : Nat} (h : c' < c) (ho : o < c' + 2) : pr5 c' + o < pr5 c := by
  have := pr5_mono (a := c' + 1) c h
  have e : pr5 (c' + 1) = pr5 c' + (c' + 2) := rfl
  omega
theorem cntB_pos {f : Nat → Bool} {i : Nat} (h : f i = true) (n : Nat) (hn : i < n) : 1 ≤ cntB f n := by
  induction n with
  | zero => omega
  | succ n ih =>
    show 1 ≤ cntB f n + (f n).toNat
    by_cases z : i = n
    · subst z
      rw [h]
      exact Nat.le_add_left 1 _
    · have := ih (by omega)
      omega
theorem cntB_two (F S : Int32) (n : Nat) (hn : n ≤ 32) : cntB (bt (F &&& S)) n + cntB (bt (F &&& (S ^^^ (-1)))) n = cntB (bt F) n := by
  induction n with
  | zero => rfl
  | succ n ih =>
    have i1 := ih (by omega)
    show (cntB (bt (F &&& S)) n + (bt (F &&& S) n).toNat) + (cntB (bt (F &&& (S ^^^ (-1)))) n + (bt (F &&& (S ^^^ (-1))) n).toNat) = cntB (bt F) n + (bt F n).toNat
    have e : (bt (F &&& S) n).toNat + (bt (F &&& (S ^^^ (-1))) n).toNat = (bt F n).toNat := by
      rw [bt_and, bt_and, bt_not S (by omega)]
      cases bt F n <;> cases bt S n <;> rfl
    omega
theorem cnt20 {F : Int32} (h : ∀ j, 20 ≤ j → bt F j = false) : cntB (bt F) 32 = cntB (bt F) 20 := by
  have a : cntB (bt F) (20 + 12) = cntB (bt F) 20 + cntB (fun i => bt F (20 + i)) 12 := cntB_add (bt F) 20 12
  rw [cntB_no 12 (fun i _ => h (20 + i) (by omega))] at a
  exact a
theorem bt_20 : ∀ j, j < 20 → bt (1048575 : Int32) j = true := by decide
theorem bt_32 : ∀ j, j < 32 → 20 ≤ j → bt (1048575 : Int32) j = false := by decide
/-- the tunes that sound at a time, those of the first c beats -/
def soA (S t : Int32) (c : Nat) : Prop := (∀ c', c' < c → ∀ o, o < c' + 2 → (bt S (pr5 c' + o) = true ↔ t.toInt % ((c' : Int) + 2) = (o : Int))) ∧ ∀ j, pr5 c ≤ j → bt S j = false
theorem so_loop {h : Hp} {l0 : Int32} (t0 : 0 ≤ l0.toInt) : ∀ (n : Nat) (l1 l2 l3 : Int32) (c : Nat), l3.toInt = (c : Int) + 2 → c ≤ 5 → l2.toInt = (pr5 c : Nat) → soA l1 l0 c → Pc (W_X2_soundingAt n 6 h l0 l1 l2 l3) (fun q => q.2 = h ∧ soA q.1 l0 5) := by
  intro n
  induction n with
  | zero => intro l1 l2 l3 c a b d s; exact Pc.no
  | succ n ih =>
    intro l1 l2 l3 c a b d s
    have f6 := lit_6
    have f1 := lit_1
    rw [u_X2_soundingAt]
    refine Pc.pos rfl ?_
    refine Pc.lt (fun c1 => Pc.ret ⟨rfl, ?_⟩) (fun c1 => Pc.ite (fun _ => Pc.no) (fun c2 => ?_))
    · have : c = 5 := by omega
      rw [this] at s
      exact s
    · have p1 := pr5_le c (by omega)
      have p2 := pr5_le (c + 1) (by omega)
      have p3 : pr5 (c + 1) = pr5 c + (c + 2) := rfl
      have m0 := rmT l0 l3 ((c : Int) + 2) a (by omega) t0
      have m1 := Int.emod_nonneg l0.toInt (show ((c : Int) + 2) ≠ 0 by omega)
      have m2 := Int.emod_lt_of_pos l0.toInt (show 0 < (c : Int) + 2 by omega)
      generalize em : (l0 - l0 / l3 * l3 : Int32) = m at m0 ⊢
      have a0 := adT l2 m (by omega) (by omega)
      generalize ea : (l2 + m : Int32) = w at a0 ⊢
      have n0 := ncT (show 0 ≤ w.toInt by omega)
      have a2 := adT l2 l3 (by omega) (by omega)
      have a3 := adT l3 1 (by omega) (by omega)
      refine ih _ (l2 + l3) (l3 + 1) (c + 1) (by omega) (by omega) (by omega) ⟨fun c' hc' o ho => ?_, fun j hj => ?_⟩
      · rw [bt_or, btL (show 0 ≤ w.toInt by omega) (by omega), Bool.or_eq_true, decide_eq_true_iff]
        by_cases z : c' = c
        · rw [z] at ho ⊢
          have k := s.2 (pr5 c + o) (by omega)
          rw [k]
          refine ⟨fun y => ?_, fun y => Or.inr ?_⟩
          · rcases y with y | y
            · exact Bool.noConfusion y
            · omega
          · omega
        · have l := pr5_lt (show c' < c by omega) ho
          have k := s.1 c' (by omega) o ho
          refine ⟨fun y => ?_, fun y => Or.inl (k.mpr y)⟩
          rcases y with y | y
          · exact k.mp y
          · exfalso; omega
      · rw [bt_or, btL (show 0 ≤ w.toInt by omega) (by omega), s.2 j (by omega), Bool.false_or]
        exact decide_eq_false (by omega)
theorem so_at {n : Nat} {h : Hp} {x1 : Int32} (t0 : 0 ≤ x1.toInt) : Pc (F_X2_soundingAt n h x1) (fun q => q.2 = h ∧ soA q.1 x1 5) := by
  have f2 := lit_2
  unfold F_X2_soundingAt
  exact so_loop t0 n 0 0 2 0 (by omega) (by decide) lit_0 ⟨fun c' hc' => absurd hc' (Nat.not_lt_zero c'), fun j _ => bt_zero j⟩
/-- a tune fits the first k that were told -/
def fiP (h : Hp) (k c o : Nat) : Prop := ∀ i, i < k → ((hi h 271 i).toInt % ((c : Int) + 2) = (o : Int) ↔ vp_nar .boolean (hi h 272 i) ≠ 0)
theorem fiP_succ {h : Hp} {k c o : Nat} : fiP h (k + 1) c o ↔ fiP h k c o ∧ ((hi h 271 k).toInt % ((c : Int) + 2) = (o : Int) ↔ vp_nar .boolean (hi h 272 k) ≠ 0) := by
  refine ⟨fun a => ⟨fun i hi' => a i (by omega), a k (by omega)⟩, fun a i hi' => ?_⟩
  by_cases z : i = k
  · rw [z]; exact a.2
  · exact a.1 i (by omega)
def fiB (F : Int32) (h : Hp) (k : Nat) : Prop := (∀ c, c < 5 → ∀ o, o < c + 2 → (bt F (pr5 c + o) = true ↔ fiP h k c o)) ∧ ∀ j, 20 ≤ j → bt F j = false
section FI
variable {h : Hp} {k : Nat}
theorem fi_loop {l1 : Int32} (hk : l1.toInt = (k : Int)) (ks : (k : Int) ≤ (hi h 201 2).toInt) (w : ezTold h) : ∀ (n : Nat) (l2 l3 : Int32) (i : Nat), l3.toInt = (i : Int) → i ≤ k → fiB l2 h i → Pc (W_X2_fitting n 5 h l1 l2 l3) (fun q => q.2 = h ∧ fiB q.1 h k) := by
  obtain ⟨w1, w2, w3⟩ := w
  intro n
  induction n with
  | zero => intro l2 l3 i a b s; exact Pc.no
  | succ n ih =>
    intro l2 l3 i a b s
    have f20 := lit_20
    have f1 := lit_1
    have n1 := ncT (show 0 ≤ l3.toInt by omega)
    have n2 : Int32.toNatClampNeg l3 = i := by omega
    rw [u_X2_fitting, n2]
    refine Pc.pos rfl ?_
    refine Pc.le (fun c1 => Pc.ret ⟨rfl, ?_⟩) (fun c1 => ?_)
    · have : i = k := by omega
      rw [this] at s
      exact s
    refine Pc.le (fun c2 => by exfalso; omega) (fun c2 => ?_)
    refine Pc.le (fun c3 => by exfalso; omega) (fun c3 => Pc.chk (fun _ => ?_))
    obtain ⟨y1, y2, y3, y4⟩ := w3 i (by omega)
    have e : vp_nar .byte (hi h 202 i) = hi h 271 i := by rw [narB, y1]; exact b8 _ (by omega) (by omega)
    rw [e]
    refine Pc.bind (so_at y3) (fun q5 hq => ?_)
    obtain ⟨g1, g2, g3⟩ := hq
    rw [g1]
    have a1 := adT l3 1 (by omega) (by omega)
    have p20 : pr5 5 = 20 := rfl
    refine Pc.chk (fun _ => Pc.ite (fun c4 => ?_) (fun c4 => ?_))
    · rw [y2] at c4
      refine ih _ (l3 + 1) (i + 1) (by omega) (by omega) ⟨fun c hc o ho => ?_, fun j hj => ?_⟩
      · have l := pr5_lt (show c < 5 by omega) ho
        rw [bt_and, bt_not q5.1 (by omega), fiP_succ, Bool.and_eq_true, s.1 c hc o ho]
        have k2 := g2 c hc o ho
        refine ⟨fun y => ⟨y.1, fun z => ?_, fun z => absurd c4 z⟩, fun y => ⟨y.1, ?_⟩⟩
        · rw [k2.mpr z] at y
          exact Bool.noConfusion y.2
        · cases z : bt q5.1 (pr5 c + o) with
          | false => rfl
          | true => exact absurd c4 (y.2.mp (k2.mp z))
      · rw [bt_and, s.2 j hj, Bool.false_and]
    · rw [y2] at c4
      refine ih _ (l3 + 1) (i + 1) (by omega) (by omega) ⟨fun c hc o ho => ?_, fun j hj => ?_⟩
      · rw [bt_and, fiP_succ, Bool.and_eq_true, s.1 c hc o ho, g2 c hc o ho]
        exact ⟨fun y => ⟨y.1, fun _ => c4, fun _ => y.2⟩, fun y => ⟨y.1, y.2.mpr c4⟩⟩
      · rw [bt_and, s.2 j hj, Bool.false_and]
theorem fi_class {n : Nat} {x1 : Int32} (hk : x1.toInt = (k : Int)) (ks : (k : Int) ≤ (hi h 201 2).toInt) (w : ezTold h) : Pc (F_X2_fitting n h x1) (fun q => q.2 = h ∧ fiB q.1 h k) := by
  unfold F_X2_fitting
  refine fi_loop hk ks w n 1048575 0 0 lit_0 (Nat.zero_le k) ⟨fun c hc o ho => ?_, fun j hj => ?_⟩
  · have l := pr5_lt (show c < 5 from hc) ho
    have p20 : pr5 5 = 20 := rfl
    rw [bt_20 _ (by omega)]
    exact ⟨fun _ i hi' => absurd hi' (Nat.not_lt_zero i), fun _ => rfl⟩
  · by_cases z : j < 32
    · exact bt_32 j z hj
    · exact bt_ge _ (by omega)
/-- the reference: does one fit -/
theorem df_loop {l1 l2 l3 : Int32} {c o : Nat} (hb : l1.toInt = (c : Int) + 2) (ho : l2.toInt = (o : Int)) (hk : l3.toInt = (k : Int)) (k20 : k ≤ 20) (w : ∀ i, i < k → 0 ≤ (hi h 271 i).toInt) : ∀ (n : Nat) (l4 : Int32) (i : Nat), l4.toInt = (i : Int) → i ≤ k → fiP h i c o → Pc (W_X12_doesFit n 3 h l1 l2 l3 l4) (fun q => q.2 = h ∧ (q.1.toInt ≠ 0 ↔ fiP h k c o)) := by
  intro n
  induction n with
  | zero => intro l4 i a b s; exact Pc.no
  | succ n ih =>
    intro l4 i a b s
    have f1 := lit_1
    have f0 := lit_0
    have n1 := ncT (show 0 ≤ l4.toInt by omega)
    have n2 : Int32.toNatClampNeg l4 = i := by omega
    rw [u_X12_doesFit, n2]
    refine Pc.pos rfl ?_
    refine Pc.le (fun c1 => Pc.ret ⟨rfl, ?_⟩) (fun c1 => Pc.chk (fun _ => Pc.ite (fun _ => Pc.no) (fun _ => ?_)))
    · have : i = k := by omega
      rw [this] at s
      exact ⟨fun _ => s, fun _ => by show (1 : Int32).toInt ≠ 0; omega⟩
    have a1 := adT l4 1 (by omega) (by omega)
    have m0 := rmT (hi h 271 i) l1 ((c : Int) + 2) hb (by omega) (w i (by omega))
    have bz := boT (hi h 272 i)
    have bad (y : ¬ ((hi h 271 i).toInt % ((c : Int) + 2) = (o : Int) ↔ vp_nar .boolean (hi h 272 i) ≠ 0)) : ((0 : Int32).toInt ≠ 0 ↔ fiP h k c o) := ⟨fun z => absurd f0 z, fun z => absurd (z i (by omega)) y⟩
    refine Pc.eq (fun c2 => Pc.chk (fun _ => Pc.eq (fun c3 => ?_) (fun c3 => Pc.ret ⟨rfl, bad (fun y => ?_)⟩))) (fun c2 => Pc.chk (fun _ => Pc.eq (fun c3 => ?_) (fun c3 => Pc.ret ⟨rfl, bad (fun y => ?_)⟩)))
    · refine ih (l4 + 1) (i + 1) (by omega) (by omega) (fiP_succ.mpr ⟨s, fun _ z => ?_, fun _ => by omega⟩)
      rw [z] at c3
      omega
    · have e := y.mp (by omega)
      refine e (Int32.toInt_inj.mp ?_)
      omega
    · refine ih (l4 + 1) (i + 1) (by omega) (by omega) (fiP_succ.mpr ⟨s, fun z => by exfalso; omega, fun z => ?_⟩)
      exact absurd (Int32.toInt_inj.mp c3.symm) z
    · have e : vp_nar .boolean (hi h 272 i) ≠ 0 := fun z => c3 (by rw [z])
      have := y.mpr e
      omega
theorem df_ref {n : Nat} {x1 x2 x3 : Int32} {c o : Nat} (hb : x1.toInt = (c : Int) + 2) (ho : x2.toInt = (o : Int)) (hk : x3.toInt = (k : Int)) (k20 : k ≤ 20) (w : ∀ i, i < k → 0 ≤ (hi h 271 i).toInt) : Pc (F_X12_doesFit n h x1 x2 x3) (fun q => q.2 = h ∧ (q.1.toInt ≠ 0 ↔ fiP h k c o)) := by
  unfold F_X12_doesFit
  exact df_loop hb ho hk k20 w n 0 0 lit_0 (Nat.zero_le k) (fun i hi' => absurd hi' (Nat.not_lt_zero i))
/-- the reference: how many fit -/
theorem fc_loop {l1 l2 G : Int32} (hk : l1.toInt = (k : Int)) (k20 : k ≤ 20) (w : ∀ i, i < k → 0 ≤ (hi h 271 i).toInt) (g : ∀ c, c < 5 → ∀ o, o < c + 2 → (bt G (pr5 c + o) = true ↔ fiP h k c o ∧ (l2.toInt < 0 ∨ l2.toInt % ((c : Int) + 2) = (o : Int)))) : ∀ n : Nat, (∀ (l3 l4 l5 : Int32) (c : Nat), l4.toInt = (c : Int) + 2 → c ≤ 5 → l3.toInt = (cntB (bt G) (pr5 c) : Nat) → Pc (W_X12_fitting n 5 h l1 l2 l3 l4 l5) (fun q => q.2 = h ∧ q.1.toInt = (cntB (bt G) 20 : Nat))) ∧ (∀ (l3 l4 l5 : Int32) (c o : Nat), l4.toInt = (c : Int) + 2 → c < 5 → l5.toInt = (o : Int) → o ≤ c + 2 → l3.toInt = (cntB (bt G) (pr5 c + o) : Nat) → Pc (W_X12_fitting n 15 h l1 l2 l3 l4 l5) (fun q => q.2 = h ∧ q.1.toInt = (cntB (bt G) 20 : Nat))) := by
  have f6 := lit_6
  have f0 := lit_0
  have f1 := lit_1
  intro n
  induction n with
  | zero => exact ⟨fun l3 l4 l5 c a b d => Pc.no, fun l3 l4 l5 c o a b d e f => Pc.no⟩
  | succ n ih =>
    obtain ⟨ih5, ih15⟩ := ih
    refine ⟨fun l3 l4 l5 c a b d => ?_, fun l3 l4 l5 c o a b d e f => ?_⟩
    · rw [u_X12_fitting]
      refine Pc.pos rfl (Pc.lt (fun c1 => Pc.ret ⟨rfl, ?_⟩) (fun c1 => ?_))
      · have : c = 5 := by omega
        rw [this] at d
        exact d
      · exact ih15 l3 l4 0 c 0 a (by omega) f0 (by omega) d
    · rw [u_X12_fitting]
      refine Pc.neg (by decide) (Pc.pos rfl ?_)
      have a4 := adT l4 1 (by omega) (by omega)
      have a5 := adT l5 1 (by omega) (by omega)
      have p3 : pr5 (c + 1) = pr5 c + (c + 2) := rfl
      have p4 := pr5_le (c + 1) (by omega)
      have cl := cntB_le (bt G) (pr5 c + o)
      have a3 := adT l3 1 (by omega) (by omega)
      have cs : cntB (bt G) (pr5 c + (o + 1)) = cntB (bt G) (pr5 c + o) + (bt G (pr5 c + o)).toNat := rfl
      refine Pc.le (fun c1 => ?_) (fun c1 => ?_)
      · have : o = c + 2 := by omega
        rw [this, ← p3] at f
        exact ih5 l3 (l4 + 1) 0 (c + 1) (by omega) (by omega) f
      have ol : o < c + 2 := by omega
      have go := g c b o ol
      -- it fits, or it doesn't
      have yes (q : Int32 × Hp) (y1 : q.2 = h) (y2 : fiP h k c o) (y3 : l2.toInt < 0 ∨ l2.toInt % ((c : Int) + 2) = (o : Int)) : Pc (W_X12_fitting n 15 q.2 l1 l2 (l3 + 1) l4 (l5 + 1)) (fun q => q.2 = h ∧ q.1.toInt = (cntB (bt G) 20 : Nat)) := by
        rw [y1]
        have t := go.mpr ⟨y2, y3⟩
        rw [t] at cs
        have cs' : cntB (bt G) (pr5 c + (o + 1)) = cntB (bt G) (pr5 c + o) + 1 := cs
        exact ih15 (l3 + 1) l4 (l5 + 1) c (o + 1) a b (by omega) (by omega) (by omega)
      have non (q : Hp) (y1 : q = h) (y2 : ¬ (fiP h k c o ∧ (l2.toInt < 0 ∨ l2.toInt % ((c : Int) + 2) = (o : Int)))) : Pc (W_X12_fitting n 15 q l1 l2 l3 l4 (l5 + 1)) (fun q => q.2 = h ∧ q.1.toInt = (cntB (bt G) 20 : Nat)) := by
        rw [y1]
        have t : bt G (pr5 c + o) = false := Bool.eq_false_iff.mpr (fun z => y2 (go.mp z))
        rw [t] at cs
        have cs' : cntB (bt G) (pr5 c + (o + 1)) = cntB (bt G) (pr5 c + o) := cs
        exact ih15 l3 l4 (l5 + 1) c (o + 1) a b (by omega) (by omega) (by omega)
      refine Pc.lt (fun c2 => ?_) (fun c2 => Pc.ite (fun _ => Pc.no) (fun _ => ?_))
      · refine Pc.bind (df_ref a d hk k20 w) (fun q4 hq => Pc.eq (fun c3 => ?_) (fun c3 => ?_))
        · exact non q4.2 hq.1 (fun z => (hq.2.mpr z.1) (by omega))
        · exact yes q4 hq.1 (hq.2.mp (by omega)) (Or.inl (by omega))
      · have m0 := rmT l2 l4 ((c : Int) + 2) a (by omega) (by omega)
        refine Pc.eq (fun c3 => ?_) (fun c3 => ?_)
        · refine Pc.bind (df_ref a d hk k20 w) (fun q4 hq => Pc.eq (fun c4 => ?_) (fun c4 => ?_))
          · exact non q4.2 hq.1 (fun z => (hq.2.mpr z.1) (by omega))
          · exact yes q4 hq.1 (hq.2.mp (by omega)) (Or.inr (by omega))
        · exact non h rfl (fun z => by rcases z.2 with y | y <;> omega)
theorem fc_ref {n : Nat} {x1 x2 G : Int32} (hk : x1.toInt = (k : Int)) (k20 : k ≤ 20) (w : ∀ i, i < k → 0 ≤ (hi h 271 i).toInt) (g : ∀ c, c < 5 → ∀ o, o < c + 2 → (bt G (pr5 c + o) = true ↔ fiP h k c o ∧ (x2.toInt < 0 ∨ x2.toInt % ((c : Int) + 2) = (o : Int)))) : Pc (F_X12_fitting n h x1 x2) (fun q => q.2 = h ∧ q.1.toInt = (cntB (bt G) 20 : Nat)) := by
  have f2 := lit_2
  unfold F_X12_fitting
  exact (fc_loop hk k20 w g n).1 0 2 0 0 (by omega) (by decide) lit_0
/-- the first that fits -/
def ffP (F : Int32) (v : Int32) : Prop := ((∀ m, m < 20 → bt F m = false) ∧ v.toInt = -2) ∨ ∃ c o : Nat, c < 5 ∧ o < c + 2 ∧ bt F (pr5 c + o) = true ∧ (∀ m, m < pr5 c + o → bt F m = false) ∧ v.toInt = 10 * ((c : Int) + 2) + (o : Int)
theorem ff_loop {l1 F : Int32} (hk : l1.toInt = (k : Int)) (k20 : k ≤ 20) (w : ∀ i, i < k → 0 ≤ (hi h 271 i).toInt) (g : fiB F h k) : ∀ n : Nat, (∀ (l2 l3 : Int32) (c : Nat), l2.toInt = (c : Int) + 2 → c ≤ 5 → (∀ m, m < pr5 c → bt F m = false) → Pc (W_X12_firstFit n 2 h l1 l2 l3) (fun q => q.2 = h ∧ ffP F q.1)) ∧ (∀ (l2 l3 : Int32) (c o : Nat), l2.toInt = (c : Int) + 2 → c < 5 → l3.toInt = (o : Int) → o ≤ c + 2 → (∀ m, m < pr5 c + o → bt F m = false) → Pc (W_X12_firstFit n 10 h l1 l2 l3) (fun q => q.2 = h ∧ ffP F q.1)) := by
  have f6 := lit_6
  have f0 := lit_0
  have f1 := lit_1
  have f10 := lit_10
  intro n
  induction n with
  | zero => exact ⟨fun l2 l3 c a b d => Pc.no, fun l2 l3 c o a b d e f => Pc.no⟩
  | succ n ih =>
    obtain ⟨ih2, ih10⟩ := ih
    refine ⟨fun l2 l3 c a b d => ?_, fun l2 l3 c o a b d e f => ?_⟩
    · rw [u_X12_firstFit]
      refine Pc.pos rfl (Pc.lt (fun c1 => Pc.ret ⟨rfl, Or.inl ⟨?_, ?_⟩⟩) (fun c1 => ?_))
      · have : c = 5 := by omega
        rw [this] at d
        exact d
      · show (-2 : Int32).toInt = -2
        decide
      · exact ih10 l2 0 c 0 a (by omega) f0 (by omega) d
    · rw [u_X12_firstFit]
      refine Pc.neg (by decide) (Pc.pos rfl ?_)
      have a2 := adT l2 1 (by omega) (by omega)
      have a3 := adT l3 1 (by omega) (by omega)
      have p3 : pr5 (c + 1) = pr5 c + (c + 2) := rfl
      refine Pc.le (fun c1 => ?_) (fun c1 => ?_)
      · have : o = c + 2 := by omega
        rw [this, ← p3] at f
        exact ih2 (l2 + 1) 0 (c + 1) (by omega) (by omega) f
      have ol : o < c + 2 := by omega
      have go := g.1 c b o ol
      refine Pc.bind (df_ref a d hk k20 w) (fun q3 hq => Pc.eq (fun c3 => ?_) (fun c3 => ?_))
      · rw [hq.1]
        refine ih10 l2 (l3 + 1) c (o + 1) a b (by omega) (by omega) (fun m hm => ?_)
        by_cases z : m < pr5 c + o
        · exact f m z
        · rw [show m = pr5 c + o by omega]
          exact Bool.eq_false_iff.mpr (fun y => (hq.2.mpr (go.mp y)) (by omega))
      · refine Pc.ret ⟨hq.1, Or.inr ⟨c, o, b, ol, go.mpr (hq.2.mp (by omega)), f, ?_⟩⟩
        show (10 * l2 + l3 : Int32).toInt = _
        have m1 := mlT 10 l2 10 f10 (by omega) (by omega)
        have m2 := adT (10 * l2) l3 (by omega) (by omega)
        omega
theorem ff_ref {n : Nat} {x1 F : Int32} (hk : x1.toInt = (k : Int)) (k20 : k ≤ 20) (w : ∀ i, i < k → 0 ≤ (hi h 271 i).toInt) (g : fiB F h k) : Pc (F_X12_firstFit n h x1) (fun q => q.2 = h ∧ ffP F q.1) := by
  have f2 := lit_2
  unfold F_X12_firstFit
  exact (ff_loop hk k20 w g n).1 2 0 0 (by omega) (by decide) (fun m hm => absurd hm (Nat.not_lt_zero m))
/-- the class: the first of a set -/
theorem fr_loop {l0 l2 : Int32} {j : Nat} (hj : l2.toInt = (j : Int)) (j32 : j ≤ 32) : ∀ (n : Nat) (l1 l3 : Int32) (c : Nat), l3.toInt = (c : Int) + 2 → c ≤ 5 → l1.toInt = (pr5 c : Nat) → pr5 c ≤ j → Pc (W_X2_firstTune n 9 h l0 l1 l2 l3) (fun q => q.2 = h ∧ (20 ≤ j → q.1.toInt = -2) ∧ ∀ c o : Nat, c < 5 → o < c + 2 → j = pr5 c + o → q.1.toInt = 10 * ((c : Int) + 2) + (o : Int)) := by
  have f6 := lit_6
  have f1 := lit_1
  have f10 := lit_10
  intro n
  induction n with
  | zero => intro l1 l3 c a b d e; exact Pc.no
  | succ n ih =>
    intro l1 l3 c a b d e
    have p1 := pr5_le c (by omega)
    have p20 : pr5 5 = 20 := rfl
    have a2 := adT l1 l3 (by omega) (by omega)
    have a3 := adT l3 1 (by omega) (by omega)
    have p3 : pr5 (c + 1) = pr5 c + (c + 2) := rfl
    rw [u_X2_firstTune]
    refine Pc.pos rfl (Pc.lt (fun c1 => Pc.ret ⟨rfl, fun _ => ?_, fun c' o h1 h2 h3 => ?_⟩) (fun c1 => Pc.le (fun c2 => ?_) (fun c2 => Pc.ret ⟨rfl, fun z => ?_, fun c' o h1 h2 h3 => ?_⟩)))
    · show (-2 : Int32).toInt = -2
      decide
    · have z : c = 5 := by omega
      have l := pr5_lt h1 h2
      rw [z] at e
      exfalso; omega
    · exact ih (l1 + l3) (l3 + 1) (c + 1) (by omega) (by omega) (by omega) (by omega)
    · have p2 := pr5_le (c + 1) (by omega)
      exfalso; omega
    · have z : c' = c := by
        rcases Nat.lt_trichotomy c' c with y | y | y
        · have l := pr5_lt y h2
          exfalso; omega
        · exact y
        · have l := pr5_mono (a := c + 1) c' y
          exfalso; omega
      rw [z] at h3 ⊢
      show (10 * l3 + l2 - l1 : Int32).toInt = _
      have m1 := mlT 10 l3 10 f10 (by omega) (by omega)
      have m2 := adT (10 * l3) l2 (by omega) (by omega)
      have m3 := sbT (10 * l3 + l2) l1 (by omega) (by omega)
      omega
theorem fr_class {n : Nat} {F : Int32} (g : ∀ j, 20 ≤ j → bt F j = false) : Pc (F_X2_firstTune n h F) (fun q => q.2 = h ∧ ∀ v, ffP F v → q.1 = v) := by
  have f2 := lit_2
  unfold F_X2_firstTune
  refine Pc.bind pc_lowest (fun q3 hq => ?_)
  obtain ⟨h1, h2, h3⟩ := hq
  rw [h1]
  by_cases z : F = 0
  · refine (fr_loop (j := 32) (by have := h2 z; omega) (by decide) n 0 2 0 (by omega) (by decide) lit_0 (Nat.zero_le _)).mono (fun q hq => ⟨hq.1, fun v hv => Int32.toInt_inj.mp ?_⟩)
    rcases hv with ⟨v1, v2⟩ | ⟨c, o, v1, v2, v3, v4, v5⟩
    · rw [v2]; exact hq.2.1 (by decide)
    · rw [z, bt_zero] at v3
      exact Bool.noConfusion v3
  · have ex : ∃ i, i < 20 ∧ bt F i = true ∧ ∀ m, m < i → bt F m = false := by
      obtain ⟨i, i1, i2⟩ := bt_ne z
      have key : ∀ d i, i < d → bt F i = true → ∃ i, bt F i = true ∧ ∀ m, m < i → bt F m = false := by
        intro d
        induction d with
        | zero => intro i hi'; exact absurd hi' (Nat.not_lt_zero i)
        | succ d ih =>
          intro i hi' ht
          by_cases y : ∃ m, m < i ∧ bt F m = true
          · obtain ⟨m, y1, y2⟩ := y
            exact ih m (by omega) y2
          · exact ⟨i, ht, fun m hm => Bool.eq_false_iff.mpr (fun t => y ⟨m, hm, t⟩)⟩
      obtain ⟨i', t1, t2⟩ := key 32 i i1 i2
      refine ⟨i', ?_, t1, t2⟩
      by_cases y : i' < 20
      · exact y
      · rw [g i' (by omega)] at t1
        exact Bool.noConfusion t1
    obtain ⟨j, j1, j2, j3⟩ := ex
    have e := h3 j (by omega) j2 j3
    refine (fr_loop (j := j) e (by omega) n 0 2 0 (by omega) (by decide) lit_0 (Nat.zero_le _)).mono (fun q hq => ⟨hq.1, fun v hv => Int32.toInt_inj.mp ?_⟩)
    rcases hv with ⟨v1, v2⟩ | ⟨c, o, v1, v2, v3, v4, v5⟩
    · rw [v1 j j1] at j2
      exact Bool.noConfusion j2
    · have s : j = pr5 c + o := by
        rcases Nat.lt_trichotomy j (pr5 c + o) with y | y | y
        · rw [v4 j y] at j2
          exact Bool.noConfusion j2
        · exact y
        · rw [j3 _ y] at v3
          exact Bool.noConfusion v3
      rw [v5]
      exact hq.2.2 c o v1 v2 s
end FI
