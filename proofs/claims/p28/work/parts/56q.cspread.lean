section
/-! TUNES SPREAD, in the class; and many beats -/
theorem bt_low {x : Int32} (h : x ≠ 0) : ∃ i, i < 32 ∧ bt x i = true ∧ ∀ m, m < i → bt x m = false := by
  obtain ⟨j0, k1, k2⟩ := bt_ne h
  have key : ∀ j, bt x j = true → ∃ i, i ≤ j ∧ bt x i = true ∧ ∀ m, m < i → bt x m = false := by
    intro j
    induction j using Nat.strongRecOn with
    | ind j ih =>
      intro hj
      by_cases y : ∃ m, m < j ∧ bt x m = true
      · obtain ⟨m, m1, m2⟩ := y
        obtain ⟨i, i1, i2, i3⟩ := ih m m1 m2
        exact ⟨i, by omega, i2, i3⟩
      · refine ⟨j, Nat.le_refl j, hj, fun m hm => ?_⟩
        cases e : bt x m with
        | false => rfl
        | true => exact absurd ⟨m, hm, e⟩ y
  obtain ⟨i, i1, i2, i3⟩ := key j0 k2
  exact ⟨i, by omega, i2, i3⟩
theorem cntB_skip {f : Nat → Bool} {p i : Nat} (h : p ≤ i) (z : ∀ m, p ≤ m → m < i → f m = false) : cntB f i = cntB f p := by
  obtain ⟨d, hd⟩ : ∃ d, i = p + d := ⟨i - p, by omega⟩
  rw [hd, cntB_add, cntB_no d (fun m hm => z (p + m) (by omega) (by omega)), Nat.add_zero]
section R56Q
variable {f : Nat → Int32} {a : Nat} {h h0 : Hp} {n : Nat} {T : TT} {G : Nat} {l2 l3 l5 x2 x3 : Int32}
theorem spI_d {p : Nat} : ∀ d, (∀ i, p ≤ i → i < p + d → snF T f i = false) → ∀ k, spI T f (p + d) k = spI T f p k := by
  intro d
  induction d with
  | zero => intro _ k; rfl
  | succ d ih => intro z k; exact (spI_n (z (p + d) (by omega) (by omega)) k).trans (ih (fun i h1 h2 => z i h1 (by omega)) k)
theorem spI_fin {p : Nat} (z : ∀ i, p ≤ i → snF T f i = false) (k : Nat) : spF T f k = spI T f p k := by
  unfold spI spF
  by_cases y1 : (1 ≤ k ∧ k < 25) ∧ snF T f (k - 1) = true
  · have lt : k - 1 < p := by
      by_cases w : k - 1 < p
      · exact w
      · have := z (k - 1) (by omega)
        rw [this] at y1
        exact absurd y1.2 (by decide)
    rw [if_pos y1, if_pos ⟨⟨y1.1.1, y1.1.2, lt⟩, y1.2⟩]
  · have m1 : ¬ ((1 ≤ k ∧ k < 25 ∧ k - 1 < p) ∧ snF T f (k - 1) = true) := fun w => y1 ⟨⟨w.1.1, w.1.2.1⟩, w.2⟩
    rw [if_neg y1, if_neg m1]
    by_cases y2 : (26 ≤ k ∧ k < 50) ∧ snF T f (k - 26) = true
    · have lt : k - 26 < p := by
        by_cases w : k - 26 < p
        · exact w
        · have := z (k - 26) (by omega)
          rw [this] at y2
          exact absurd y2.2 (by decide)
      rw [if_pos y2, if_pos ⟨⟨y2.1.1, y2.1.2, lt⟩, y2.2⟩]
      unfold offF
      rw [show 25 + (k - 26) = k - 1 by omega]
    · have m2 : ¬ ((26 ≤ k ∧ k < 50 ∧ k - 26 < p) ∧ snF T f (k - 26) = true) := fun w => y2 ⟨⟨w.1.1, w.1.2.1⟩, w.2⟩
      rw [if_neg y2, if_neg m2]
theorem RVR.so {c : Nat} (x : RVR c G f) (c25 : c ≤ 25) (G5 : G ≤ 5) {b : Nat} (hb : b < c) (y2 : 2 ≤ x2.toInt ∧ x2.toInt ≤ 6) (z2 : 0 ≤ x3.toInt ∧ x3.toInt < x2.toInt) : RVR c G (upF (upF f b x2) (25 + b) x3) := by
  obtain ⟨x1, x2', x3', x4⟩ := x
  refine ⟨fun i hi' => ?_, fun i hi' => ?_, fun k hk => ?_, fun k h1 h2 => ?_⟩
  · by_cases z : i = b
    · rw [z, upF_n (show b ≠ 25 + b by omega), upF_e, upF_e]
      exact ⟨fun w => by exfalso; omega, by omega, fun _ => ⟨y2, z2⟩⟩
    · rw [upF_n (show i ≠ 25 + b by omega), upF_n z, upF_n (show 25 + i ≠ 25 + b by omega), upF_n (show 25 + i ≠ b by omega)]
      exact x1 i hi'
  · rw [upF_n (by omega), upF_n (by omega)]; exact x2' i hi'
  · rw [upF_n (by omega), upF_n (by omega), upF_n (by omega), upF_n (by omega)]; exact x3' k hk
  · rw [upF_n (by omega), upF_n (by omega), upF_n (by omega), upF_n (by omega)]; exact x4 k h1 h2
theorem sn_lt {b : Nat} (z : snF T f b = true) : b < wT T * gT T := (wl_qt (sn_wl z)).1.1
theorem sn_no (v : VT T) {b : Nat} (z : 25 ≤ b) : snF T f b = false := by
  have c25 := (wg_T v).1
  cases e : snF T f b with
  | false => rfl
  | true => have := sn_lt e; exfalso; omega
theorem spr_112 (v : VT T) (G5 : G ≤ 5) : ∀ (n : Nat) (h : Hp) (l4 l6 : Int32) (p : Nat), 0 ≤ l6.toInt → l6.toInt ≤ p → p ≤ 32 → SCR (wT T * gT T) G (spI T f p) a h → RVR (wT T * gT T) G (spI T f p) → (∀ j, j < 32 → bt l4 j = (decide (p + 1 ≤ j) && snF T f (j - 1))) → Pc (W_X0_spread n 112 h 23 a l2 l3 l4 l5 l6) (SCR (wT T * gT T) G (spF T f) a) := by
  intro n
  have c25 := (wg_T v).1
  induction n with
  | zero => intro h l4 l6 p a1 a2 a3 sc rv bits; exact Pc.no
  | succ n ih =>
    intro h l4 l6 p a1 a2 a3 sc rv bits
    have f0 := lit_0
    have f1 := lit_1
    have f25 := lit_25
    have fin (z : ∀ i, p ≤ i → snF T f i = false) : SCR (wT T * gT T) G (spF T f) a h := sc.cg c25 G5 (fun k _ => spI_fin z k)
    rw [u_X0_spread]
    refine Pc.neg (by decide) (Pc.pos rfl ?_)
    refine Pc.le (fun z => Pc.ret (fin (fun i hi' => sn_no v (by omega)))) (fun z => ?_)
    refine Pc.ite (fun e0 => Pc.ret (fin (fun i hi' => ?_))) (fun e0 => ?_)
    · by_cases y : i < 25
      · have := bits (i + 1) (by omega)
        rw [e0, bt_zero, decide_eq_true (show p + 1 ≤ i + 1 by omega), Bool.true_and] at this
        exact this.symm
      · exact sn_no v (by omega)
    · obtain ⟨j, j32, j1, j2⟩ := bt_low e0
      have b1 := bits j j32
      rw [j1] at b1
      have b2 : p + 1 ≤ j ∧ snF T f (j - 1) = true := by
        have := b1.symm
        rw [Bool.and_eq_true, decide_eq_true_eq] at this
        exact this
      obtain ⟨i, hi'⟩ : ∃ i, j = i + 1 := ⟨j - 1, by omega⟩
      subst hi'
      have sn : snF T f i = true := b2.2
      have nn : ∀ m, p ≤ m → m < i → snF T f m = false := by
        intro m h1 h2
        have := bits (m + 1) (by omega)
        rw [j2 (m + 1) (by omega), decide_eq_true (show p + 1 ≤ m + 1 by omega), Bool.true_and] at this
        exact this.symm
      have wl := sn_wl sn
      have ic := wl_in v wl
      obtain ⟨⟨q1, q2⟩, -, -⟩ := wl_qt wl
      obtain ⟨p1, p2, p3⟩ := spI_at (T := T) (f := f) (i := i) (by omega) q2
      have eqI (k : Nat) : spI T f i k = spI T f p k := by
        obtain ⟨d, hd⟩ : ∃ d, i = p + d := ⟨i - p, by omega⟩
        subst hd
        exact spI_d d nn k
      have scI := sc.cg (g := spI T f i) c25 G5 (fun k _ => eqI k)
      have rvI := rv.cg (g := spI T f i) G5 (fun k _ => eqI k)
      have r3 := (rvI.1 i (by omega)).2.2
      rw [p1, p2] at r3
      have r4 := r3 q2
      have a5 := adT (f (25 + i)) 1 (by omega) (by omega)
      have rg := rmG (f (25 + i) + 1) (f i) (by omega) q2
      refine Pc.bind pc_lowest (fun q14 h14 => ?_)
      obtain ⟨t1, -, t3⟩ := h14
      have hx := t3 (i + 1) j32 j1 j2
      rw [t1]
      refine Pc.bind (sl_c scI rvI c25 G5 (b := i) ic (by rw [p1]; exact q2) hx) (fun q16 h16 => ?_)
      have off : offF (spI T f i) i = offF f i := by
        unfold offF
        rw [p1, p2]
      rw [p1, off] at h16
      have eqS (k : Nat) : spI T f (i + 1) k = upF (upF (spI T f i) (i + 1) (f i)) (25 + (i + 1)) (offF f i) k := by
        rw [show 25 + (i + 1) = i + 26 by omega]
        exact spI_s (by omega) sn k
      have rvS : RVR (wT T * gT T) G (upF (upF (spI T f i) (i + 1) (f i)) (25 + (i + 1)) (offF f i)) := rvI.so c25 G5 ic r4.1 rg
      have a6 := adT l6 1 (by omega) (by omega)
      refine ih q16 _ (l6 + 1) (i + 1) (by omega) (by omega) (by omega) (h16.cg c25 G5 (fun k _ => eqS k)) (rvS.cg G5 (fun k _ => eqS k)) (fun j hj => ?_)
      rw [lo_clr j32 j1 j2 j]
      by_cases y : j = i + 1
      · rw [decide_eq_true y, decide_eq_false (show ¬ i + 1 + 1 ≤ j by omega), Bool.not_true, Bool.and_false, Bool.false_and]
      · rw [decide_eq_false y, Bool.not_false, Bool.and_true]
        by_cases y2 : j < i + 1
        · rw [j2 j y2, decide_eq_false (show ¬ i + 1 + 1 ≤ j by omega), Bool.false_and]
        · rw [bits j hj, decide_eq_true (show p + 1 ≤ j by omega), decide_eq_true (show i + 1 + 1 ≤ j by omega)]
theorem spI_0 (k : Nat) : spI T f 0 k = f k := by
  unfold spI
  rw [if_neg (by omega), if_neg (by omega)]
theorem sn_of {b : Nat} (z : wlF T f b = false) : snF T f b = false := by
  unfold snF
  rw [z]
  rfl
theorem spr_30 (v : VT T) (ha : 30 ≤ a) (G5 : G ≤ 5) (rv : RVR (wT T * gT T) G f) (hs : l2.toInt = T.ws.2) : ∀ (n : Nat) (h : Hp) (l3 l4 l5 l6 : Int32) (p : Nat), 0 ≤ l6.toInt → l6.toInt ≤ p → p ≤ 32 → BDF T 23 h → SCR (wT T * gT T) G f a h → l3.toInt = 8 - (tnN T f : Int) - (cntB (wlF T f) p : Int) → (∀ j, j < 32 → bt l5 j = (decide (p ≤ j) && qtF T f j)) → (∀ j, j < 32 → bt l4 j = (decide (1 ≤ j) && (decide (j - 1 < p) && snF T f (j - 1)))) → Pc (W_X0_spread n 30 h 23 a l2 l3 l4 l5 l6) (SCR (wT T * gT T) G (spF T f) a) := by
  intro n
  have c25 := (wg_T v).1
  induction n with
  | zero => intro h l3 l4 l5 l6 p a1 a2 a3 bd sc b3 b5 b4; exact Pc.no
  | succ n ih =>
    intro h l3 l4 l5 l6 p a1 a2 a3 bd sc b3 b5 b4
    have f0 := lit_0
    have f1 := lit_1
    have fm := lit_m1
    have f2 := lit_2
    have f25 := lit_25
    have c1 := cntB_le (fun i => decide (0 < (f i).toInt)) (wT T * gT T)
    have c2 := cntB_le (wlF T f) p
    have tn : tnN T f ≤ wT T * gT T := c1
    have fin (z : ∀ i, p ≤ i → snF T f i = false) : Pc (W_X0_spread n 112 h 23 a l2 l3 l4 l5 0) (SCR (wT T * gT T) G (spF T f) a) := by
      refine spr_112 v G5 n h l4 0 0 (by omega) (by omega) (by decide) (sc.cg c25 G5 (fun k _ => spI_0 k)) (rv.cg G5 (fun k _ => spI_0 k)) (fun j hj => ?_)
      rw [b4 j hj]
      by_cases y : 1 ≤ j
      · rw [decide_eq_true y, Bool.true_and, Bool.true_and]
        by_cases y2 : j - 1 < p
        · rw [decide_eq_true y2, Bool.true_and]
        · rw [decide_eq_false y2, Bool.false_and, z (j - 1) (by omega)]
      · rw [decide_eq_false y, Bool.false_and, Bool.false_and]
    have qn (i : Nat) (z : qtF T f i = false) : wlF T f i = false := by
      unfold wlF
      rw [z]
      rfl
    rw [u_X0_spread]
    refine Pc.pos rfl ?_
    refine Pc.le (fun z => fin (fun i hi' => sn_no v (by omega))) (fun z => ?_)
    refine Pc.ite (fun e0 => fin (fun i hi' => ?_)) (fun e0 => ?_)
    · by_cases y : i < 25
      · have := b5 i (by omega)
        rw [e0, bt_zero, decide_eq_true (show p ≤ i by omega), Bool.true_and] at this
        exact sn_of (qn i this.symm)
      · exact sn_no v (by omega)
    refine Pc.le (fun z3 => fin (fun i hi' => ?_)) (fun z3 => ?_)
    · have := cntB_mono (wlF T f) hi'
      unfold snF
      rw [decide_eq_false (show ¬ tnN T f + cntB (wlF T f) i < 8 by omega), Bool.and_false]
    obtain ⟨i, i32, i1, i2⟩ := bt_low e0
    have b1 := b5 i i32
    rw [i1] at b1
    have pq : p ≤ i ∧ qtF T f i = true := by
      have := b1.symm
      rw [Bool.and_eq_true, decide_eq_true_eq] at this
      exact this
    have nq : ∀ m, p ≤ m → m < i → wlF T f m = false := by
      intro m h1 h2
      have := b5 m (by omega)
      rw [i2 m h2, decide_eq_true h1, Bool.true_and] at this
      exact qn m this.symm
    have ic : i < wT T * gT T := by
      have := pq.2
      unfold qtF at this
      simp only [Bool.and_eq_true, decide_eq_true_eq] at this
      exact this.1.1
    have ci : cntB (wlF T f) i = cntB (wlF T f) p := cntB_skip pq.1 nq
    have e1 : cntB (wlF T f) (i + 1) = cntB (wlF T f) i + (wlF T f i).toNat := rfl
    have a6 := adT l6 1 (by omega) (by omega)
    have b5' : ∀ j, j < 32 → bt (l5 &&& (l5 - 1)) j = (decide (i + 1 ≤ j) && qtF T f j) := by
      intro j hj
      rw [lo_clr i32 i1 i2 j]
      by_cases y : j = i
      · rw [decide_eq_true y, decide_eq_false (show ¬ i + 1 ≤ j by omega), Bool.not_true, Bool.and_false, Bool.false_and]
      · rw [decide_eq_false y, Bool.not_false, Bool.and_true]
        by_cases y2 : j < i
        · rw [i2 j y2, decide_eq_false (show ¬ i + 1 ≤ j by omega), Bool.false_and]
        · rw [b5 j hj, decide_eq_true (show p ≤ j by omega), decide_eq_true (show i + 1 ≤ j by omega)]
    -- nothing spreads from here
    have nx (h' : Hp) (bd' : BDF T 23 h') (sc' : SCR (wT T * gT T) G f a h') (no : wlF T f i = false) : Pc (W_X0_spread n 30 h' 23 a l2 l3 l4 (l5 &&& (l5 - 1)) (l6 + 1)) (SCR (wT T * gT T) G (spF T f) a) := by
      refine ih h' l3 l4 _ (l6 + 1) (i + 1) (by omega) (by omega) (by omega) bd' sc' ?_ b5' (fun j hj => ?_)
      · rw [e1, no, ci]
        exact b3
      · rw [b4 j hj]
        by_cases y : j - 1 < p
        · rw [decide_eq_true y, decide_eq_true (show j - 1 < i + 1 by omega)]
        · by_cases y2 : j - 1 < i + 1
          · have ns : snF T f (j - 1) = false := by
              by_cases y3 : j - 1 = i
              · rw [y3]; exact sn_of no
              · exact sn_of (nq (j - 1) (by omega) (by omega))
            simp only [ns, Bool.and_false]
          · rw [decide_eq_false y, decide_eq_false y2]
    refine Pc.bind pc_lowest (fun q4 h4 => ?_)
    obtain ⟨t1, -, t3⟩ := h4
    have hx := t3 i i32 i1 i2
    rw [t1]
    refine Pc.bind (we_c (f := f) bd (b := i) (by omega) sc.1.1 hx hs) (fun q6 h6 => ?_)
    obtain ⟨t4, t5⟩ := h6
    rw [t4, t5]
    by_cases w : wetF T f i = true
    · rw [if_pos w]
      refine Pc.ite (fun y => absurd y (by decide)) (fun _ => ?_)
      refine Pc.bind (fun y e => And.intro (as_c v bd sc rv ha (b := i) ic hx (k := 2) (by decide) f2 (x4 := 0) (x5 := 0) y e) (zf_X0_ask y e)) (fun q9 h9 => ?_)
      obtain ⟨t6, z9⟩ := h9
      have r9 (x j : Nat) (n1 : x ≠ 28) (n2 : x ≠ 29) : hi q9.2 x j = hi h x j := z9.1 x j (by omega)
      have sc9 : SCR (wT T * gT T) G f a q9.2 := sc.to c25 G5 (fun j _ => r9 a j (by omega) (by omega)) (fun j _ => r9 (a + 1) j (by omega) (by omega)) (fun j _ => r9 (a + 2) j (by omega) (by omega)) (fun j _ => r9 (a + 3) j (by omega) (by omega))
      have bd9 : BDF T 23 q9.2 := bd.at (fun y k h1 h2 => r9 y k (by omega) (by omega))
      refine Pc.le (fun y => nx q9.2 bd9 sc9 ?_) (fun y => ?_)
      · unfold wlF
        rw [decide_eq_false (show ¬ 0 < (lwT T f i 0 0 2).toInt by rw [← t6]; omega), Bool.and_false, Bool.and_false]
      have yes : wlF T f i = true := by
        unfold wlF
        rw [pq.2, w, decide_eq_true (show 0 < (lwT T f i 0 0 2).toInt by rw [← t6]; omega)]
        rfl
      have sn : snF T f i = true := by
        unfold snF
        rw [yes, decide_eq_true (show tnN T f + cntB (wlF T f) i < 8 by omega)]
        rfl
      generalize ey : l3 + (-1) = y7
      have a7 := adG ey rfl fm (by omega) (by omega)
      have a8 := adT q4.1 1 (by omega) (by omega)
      have ya : (true : Bool).toNat = 1 := rfl
      refine ih q9.2 _ _ _ (l6 + 1) (i + 1) (by omega) (by omega) (by omega) bd9 sc9 ?_ b5' (fun j hj => ?_)
      · rw [e1, yes, ci, ya]
        omega
      · rw [bt_add (v := i + 1) (by omega) (by omega), b4 j hj]
        by_cases y1 : j = i + 1
        · rw [y1, decide_eq_true (show i + 1 = i + 1 from rfl), decide_eq_true (show 1 ≤ i + 1 by omega), decide_eq_true (show i + 1 - 1 < i + 1 by omega), show i + 1 - 1 = i by omega, sn, Bool.or_true]
          rfl
        · rw [decide_eq_false y1, Bool.or_false]
          by_cases y : j - 1 < p
          · rw [decide_eq_true y, decide_eq_true (show j - 1 < i + 1 by omega)]
          · by_cases y0 : 1 ≤ j
            · by_cases y2 : j - 1 < i + 1
              · have ns : snF T f (j - 1) = false := sn_of (nq (j - 1) (by omega) (by omega))
                simp only [ns, Bool.and_false]
              · rw [decide_eq_false y, decide_eq_false y2]
            · rw [decide_eq_false y0, Bool.false_and, Bool.false_and]
    · rw [if_neg w]
      refine Pc.ite (fun _ => nx h bd sc ?_) (fun y => absurd rfl y)
      unfold wlF
      rw [Bool.eq_false_iff.mpr w, Bool.false_and, Bool.and_false]
theorem spr_c (v : VT T) (ha : 30 ≤ a) (G5 : G ≤ 5) (bd : BDF T 23 h) (sc : SCR (wT T * gT T) G f a h) (rv : RVR (wT T * gT T) G f) (hs : x2.toInt = T.ws.2) : Pc (F_X0_spread n h 23 a x2) (SCR (wT T * gT T) G (spF T f) a) := by
  have c25 := (wg_T v).1
  have f0 := lit_0
  have f8 := lit_8
  unfold F_X0_spread
  refine Pc.bind pc_bits (fun q18 h18 => ?_)
  obtain ⟨t1, t2⟩ := h18
  rw [t1]
  refine Pc.bind (qt_c v bd sc rv) (fun q20 h20 => ?_)
  obtain ⟨t3, t4⟩ := h20
  rw [t3]
  rw [cn_c sc c25] at t2
  have c1 := cntB_le (fun i => decide (0 < (f i).toInt)) (wT T * gT T)
  have s1 := sbT 8 q18.1 (by omega) (by omega)
  refine spr_30 v ha G5 rv hs n h _ 0 _ 0 0 (by omega) (by omega) (by decide) bd sc ?_ (fun j hj => ?_) (fun j hj => ?_)
  · show (8 - q18.1 : Int32).toInt = 8 - (cntB (fun i => decide (0 < (f i).toInt)) (wT T * gT T) : Int) - ((0 : Nat) : Int)
    omega
  · rw [t4 j hj, decide_eq_true (Nat.zero_le j), Bool.true_and]
  · rw [bt_zero, decide_eq_false (Nat.not_lt_zero (j - 1)), Bool.false_and, Bool.and_false]
theorem gn_2 (v : VT T) (ha : 30 ≤ a) {m : Nat} (hm : l2.toInt = (m : Int)) : ∀ (n : Nat) (f : Nat → Int32) (h : Hp) (l3 : Int32) (i : Nat), l3.toInt = (i : Int) → i ≤ m → BDF T 23 h → SCR (wT T * gT T) T.go.length f a h → RVR (wT T * gT T) T.go.length f → Pc (W_X0_goOn n 2 h 23 a l2 l3) (fun q => SCR (wT T * gT T) T.go.length (itB T (m - i) f) a q ∧ RVR (wT T * gT T) T.go.length (itB T (m - i) f)) := by
  intro n
  have c25 := (wg_T v).1
  have G5 := v.2.2.1.1
  induction n with
  | zero => intro f h l3 i e1 e2 bd sc rv; exact Pc.no
  | succ n ih =>
    intro f h l3 i e1 e2 bd sc rv
    have f1 := lit_1
    have rl := l2.toInt_lt
    rw [u_X0_goOn]
    refine Pc.pos rfl ?_
    refine Pc.le (fun z => Pc.ret ?_) (fun z => ?_)
    · rw [show m - i = 0 by omega]
      exact ⟨sc, rv⟩
    have a1 := adT l3 1 (by omega) (by omega)
    refine Pc.bind (fun y e => And.intro (wk_c v ha bd sc rv y e) (zf_X0_walk y e)) (fun q2 h2 => ?_)
    obtain ⟨⟨s2, r2⟩, z2⟩ := h2
    have bd2 : BDF T 23 q2 := bd.at (fun y k h1 h2 => z2.1 y k (by omega))
    refine Pc.bind (fun y e => And.intro (spr_c v ha G5 bd2 s2 r2 bd2.2.1.2.2 y e) (zf_X0_spread y e)) (fun q4 h4 => ?_)
    obtain ⟨s4, z4⟩ := h4
    have bd4 : BDF T 23 q4 := bd2.at (fun y k h1 h2 => z4.1 y k (by omega))
    have := ih (beF T f) q4 (l3 + 1) (i + 1) (by omega) (by omega) bd4 s4 (rv.be v)
    rw [show m - i = m - (i + 1) + 1 by omega]
    exact this
theorem gn_c (v : VT T) (ha : 30 ≤ a) {m : Nat} (hm : x2.toInt = (m : Int)) (bd : BDF T 23 h) (sc : SCR (wT T * gT T) T.go.length f a h) (rv : RVR (wT T * gT T) T.go.length f) : Pc (F_X0_goOn n h 23 a x2) (fun q => SCR (wT T * gT T) T.go.length (itB T m f) a q ∧ RVR (wT T * gT T) T.go.length (itB T m f)) := by
  unfold F_X0_goOn
  exact gn_2 v ha hm n f h 0 0 lit_0 (Nat.zero_le _) bd sc rv
end R56Q
end
section
/-! WHAT BOTH HOLD: the row, what was, what is held; kept by what is done -/
def YN (y : Int32) (P : Prop) : Prop := (y = 0 ∧ ¬ P) ∨ (y = 1 ∧ P)
/-- within a count -/
def inN (c : Nat) (x : Int32) : Prop := 0 ≤ x.toInt ∧ x.toInt < (c : Int)
def inL (x : Int32) : Prop := 0 ≤ x.toInt ∧ x.toInt ≤ 100
/-- the row that both hold; what a text told; what was, what is held -/
def RLs (s : Nat) (T : TT) (h : Hp) : Prop := (VT T ∧ BDF T 23 h ∧ EN2 s T h ∧ SD5 T h) ∧ (SCR (wT T * gT T) T.go.length (hi h 262) 30 h ∧ RVR (wT T * gT T) T.go.length (hi h 262)) ∧ PST (wT T * gT T) T.go.length h ∧ HLD (wT T * gT T) T.go.length h
def rlC (a k : Nat) : Prop := (23 ≤ a ∧ a ≤ 27) ∨ (30 ≤ a ∧ a ≤ 33) ∨ (38 ≤ a ∧ a < 200) ∨ (214 ≤ a ∧ a < 226) ∨ (a = 226 ∧ (k = 18 ∨ k = 59)) ∨ (235 ≤ a ∧ a ≤ 258) ∨ a = 262 ∨ a = 264 ∨ a = 266 ∨ a = 273 ∨ a = 274
def rlK (h q : Hp) : Prop := ∀ a k, rlC a k → hi q a k = hi h a k
def DNc (T : TT) (f' : Nat → Int32) (h q : Hp) : Prop := ∃ qa, KC h qa ∧ (∀ a k, ¬ (28 ≤ a ∧ a ≤ 33) → hi q a k = hi qa a k) ∧ SCR (wT T * gT T) T.go.length f' 30 q
def bgJ (x k : Nat) : Prop := (260 ≤ x ∧ x ≤ 261) ∨ x = 263 ∨ x = 265 ∨ (x = 226 ∧ (k = 52 ∨ k = 55 ∨ k = 56))
def DNr (f' : Nat → Int32) (h q : Hp) : Prop := ∃ hb, frZ bgJ h hb ∧ (∀ k, k < 63 → hi hb 263 k = f' k) ∧ KRr hb q ∧ frZ (fun x k => x = 262 ∨ x = 266 ∨ (x = 226 ∧ k = 59)) hb q
def RFW (h : Hp) (f : Nat → Int32) : Prop := ∀ k, k < 63 → f k = hi h 262 k
def CPR (T : TT) (h q : Hp) : Prop := (∀ k, k < 63 → hi q 263 k = hi h 262 k) ∧ ((hi q 226 55).toInt = T.ws.2 ∧ vp_nar .boolean (hi q 226 56) = 0) ∧ frZ (fun x k => x = 263 ∨ (x = 226 ∧ (k = 55 ∨ k = 56))) h q
section R56R
variable {s G c : Nat} {T : TT} {h h0 q q1 q2 : Hp} {n : Nat} {x1 x2 : Int32} {f f' : Nat → Int32} {a : Nat}
theorem rlK.z {S : Nat → Nat → Prop} (f : frZ S h q) (m : ∀ x k, S x k → ¬ rlC x k) : rlK h q := fun a k e => f.1 a k (fun z => m a k z e)
theorem rlK.tr (a : rlK h0 h) (b : rlK h q) : rlK h0 q := fun x k e => (b x k e).trans (a x k e)
theorem rlK.rf (h : Hp) : rlK h h := fun _ _ _ => rfl
theorem RLs.kf (r : RLs s T h) (en' : EN2 s T q) (k : ∀ a j, rlC a j → ¬ (235 ≤ a ∧ a ≤ 258) → hi q a j = hi h a j) : RLs s T q := by
  obtain ⟨⟨v, bd, en, sd⟩, ⟨sc, rv⟩, ps, hd⟩ := r
  have c25 := (wg_T v).1
  have G5 := v.2.2.1.1
  have k62 : hi q 262 = hi h 262 := funext (fun j => k 262 j (by unfold rlC; omega) (by decide))
  refine ⟨⟨v, bd.at (fun y j h1 h2 => k y j (by unfold rlC; omega) (by omega)), en', fun c j hc hj => by rw [k 264 _ (by unfold rlC; omega) (by decide)]; exact sd c j hc hj⟩, ⟨?_, ?_⟩, ?_, ?_⟩
  · rw [k62]
    exact sc.to c25 G5 (fun j _ => k 30 j (by unfold rlC; omega) (by decide)) (fun j _ => k 31 j (by unfold rlC; omega) (by decide)) (fun j _ => k 32 j (by unfold rlC; omega) (by decide)) (fun j _ => k 33 j (by unfold rlC; omega) (by decide))
  · rw [k62]; exact rv
  · exact ps.same c25 G5 (fun a j h1 h2 => k a j (by unfold rlC; omega) (by omega)) (k 226 59 (by unfold rlC; omega) (by decide)) (fun j => k 266 j (by unfold rlC; omega) (by decide))
  · exact hd.same c25 G5 (fun a j h1 h2 => k a j (by unfold rlC; omega) (by omega)) (fun j => k 273 j (by unfold rlC; omega) (by decide)) (fun j => k 274 j (by unfold rlC; omega) (by decide))
theorem RLs.ke (r : RLs s T h) (k : rlK h q) : RLs s T q := r.kf (r.1.2.2.1.cg (fun a j h1 h2 => k a j (by unfold rlC; omega)) (k 226 18 (by unfold rlC; omega))) (fun a j h1 _ => k a j h1)
theorem KC.fr (kc : KC h q) (a k : Nat) (h1 : a ≠ 38) (h2 : ¬ (40 ≤ a ∧ a < 200)) : hi q a k = hi h a k := by
  obtain ⟨p, p', ⟨-, -, y3⟩, -, -, y10⟩ := kc
  have : p' < 40 := by rw [y3]; exact Nat.mod_lt _ (by decide)
  exact y10 a k h1 (by omega)
theorem RLs.done (r : RLs s T h0) (k1 : ∀ a k, 226 ≤ a → hi q1 a k = hi h0 a k) (a : DNc T f' h0 q1) (b : DNr f' q1 q2) (rv : RVR (wT T * gT T) T.go.length f') : RLs s T q2 := by
  obtain ⟨⟨v, bd, en, sd⟩, ⟨sc, rv0⟩, ps, hd⟩ := r
  have c25 := (wg_T v).1
  have G5 := v.2.2.1.1
  obtain ⟨qa, kc, fa, sc'⟩ := a
  obtain ⟨hb, fb, eb, kr, fq⟩ := b
  have lo (a k : Nat) (l : a < 226) : hi q2 a k = hi q1 a k := by
    rw [fq.1 a k (by omega), fb.1 a k (by unfold bgJ; omega)]
  have cl (a k : Nat) (h1 : ¬ (28 ≤ a ∧ a ≤ 33)) (h2 : a ≠ 38) (h3 : ¬ (40 ≤ a ∧ a < 200)) (l : a < 226) : hi q2 a k = hi h0 a k := by
    rw [lo a k l, fa a k h1, kc.fr a k h2 h3]
  have hC (a k : Nat) (h1 : ¬ bgJ a k) (h2 : ¬ (a = 262 ∨ a = 266 ∨ (a = 226 ∧ k = 59))) (g : 226 ≤ a) : hi q2 a k = hi h0 a k := by
    rw [fq.1 a k h2, fb.1 a k h1, k1 a k g]
  refine ⟨⟨v, bd.at (fun y k h1 h2 => cl y k (by omega) (by omega) (by omega) (by omega)), en.cg (fun a k h1 h2 => hC a k (by unfold bgJ; omega) (by omega) (by omega)) (hC 226 18 (by unfold bgJ; omega) (by omega) (by decide)), fun c k hc hk => by rw [hC 264 _ (by unfold bgJ; omega) (by omega) (by decide)]; exact sd c k hc hk⟩, ⟨?_, ?_⟩, ?_, ?_⟩
  · exact (sc'.to c25 G5 (b := 30) (fun k _ => lo 30 k (by decide)) (fun k _ => lo 31 k (by decide)) (fun k _ => lo 32 k (by decide)) (fun k _ => lo 33 k (by decide))).cg c25 G5 (fun k hk => (kr.1 k hk).trans (eb k hk))
  · exact rv.cg G5 (fun k hk => (kr.1 k (by omega)).trans (eb k (by omega)))
  · exact ps.keep c25 G5 sc rv0 kc (fun a k h1 h2 => by rw [lo a k (by omega), fa a k (by omega)]) kr (by rw [fb.1 226 59 (by unfold bgJ; omega), k1 226 59 (by decide)]) (fun k => by rw [fb.1 262 k (by unfold bgJ; omega), k1 262 k (by decide)]) (fun k => by rw [fb.1 266 k (by unfold bgJ; omega), k1 266 k (by decide)])
  · exact hd.same c25 G5 (fun a k h1 h2 => cl a k (by omega) (by omega) (by omega) (by omega)) (fun k => hC 273 k (by unfold bgJ; omega) (by omega) (by decide)) (fun k => hC 274 k (by unfold bgJ; omega) (by omega) (by decide))
/-- the reference's side, behind the class's call -/
theorem RLs.ref (r : RLs s T h0) (k1 : ∀ a k, 226 ≤ a → hi q a k = hi h0 a k) : EN2 s T q ∧ SD5 T q ∧ hi q 262 = hi h0 262 ∧ 0 ≤ (hi q 226 59).toInt ∧ (hi q 226 59).toInt ≤ 40 := by
  obtain ⟨⟨v, bd, en, sd⟩, -, ps, -⟩ := r
  obtain ⟨m, p, ⟨m40, -⟩, ⟨-, x2, -⟩, -⟩ := ps
  refine ⟨en.cg (fun a k h1 h2 => k1 a k (by omega)) (k1 226 18 (by decide)), fun c k hc hk => by rw [k1 264 _ (by decide)]; exact sd c k hc hk, funext (fun k => k1 262 k (by decide)), ?_⟩
  rw [k1 226 59 (by decide)]
  omega
theorem RLs.rg (r : RLs s T h0) : 0 ≤ (hi h0 38 1).toInt ∧ (hi h0 38 1).toInt ≤ 39 := by
  obtain ⟨-, -, ps, -⟩ := r
  obtain ⟨m, p, ⟨-, p40⟩, ⟨-, -, x3⟩, -⟩ := ps
  omega
/-! looks -/
theorem hs_c {w g : Nat} (e : FLD h a w g) (w5 : w ≤ 5) (g5 : g ≤ 5) : Pc (F_X3_has n h a x1) (fun q => q.2 = h ∧ YN q.1 (inN (w * g) x1)) := by
  have f0 := lit_0
  obtain ⟨e0, e1, -, -⟩ := e
  have c25 : w * g ≤ 25 := Nat.le_trans (Nat.mul_le_mul w5 g5) (by decide)
  have m := mlT (hi h a 0) (hi h a 1) (w : Int) e0 (by rw [e1, ← Int.natCast_mul]; omega) (by rw [e1, ← Int.natCast_mul]; omega)
  rw [e1, ← Int.natCast_mul] at m
  generalize w * g = c at m c25
  unfold F_X3_has
  generalize hi h a 0 * hi h a 1 = y at m
  refine Pc.lt (fun z => Pc.ret ⟨rfl, Or.inl ⟨rfl, fun w => ?_⟩⟩) (fun z => Pc.le (fun y => Pc.ret ⟨rfl, Or.inl ⟨rfl, fun w => ?_⟩⟩) (fun y => Pc.ret ⟨rfl, Or.inr ⟨rfl, ?_⟩⟩))
  · have := w.1
    omega
  · have := w.2
    omega
  · exact ⟨by omega, by omega⟩
theorem ic_r (v : VT T) (e : EN2 s T h) : Pc (F_X12_isCell n h x1) (fun q => q.2 = h ∧ YN q.1 (inN (wT T * gT T) x1)) := by
  have c25 := (wg_T v).1
  have f0 := lit_0
  have f1 := lit_1
  unfold F_X12_isCell
  refine Pc.bind (ce_r v e) (fun q1 h1 => ?_)
  obtain ⟨t1, t2⟩ := h1
  have s1 := sbT q1.1 1 (by omega) (by omega)
  rw [t1]
  generalize q1.1 - 1 = y3 at s1
  refine Pc.bind ez_in (fun q3 h3 => ?_)
  obtain ⟨t3, t4⟩ := h3
  refine Pc.chk (fun y => Pc.ret ⟨t3, ?_⟩)
  rcases y with y | y
  · refine Or.inl ⟨y, fun z => ?_⟩
    have z1 := z.1
    have z2 := z.2
    have := t4.mpr ⟨by omega, by omega⟩
    rw [y] at this
    exact this f0
  · refine Or.inr ⟨y, ?_⟩
    have := t4.mp (by rw [y, f1]; decide)
    exact ⟨by omega, by omega⟩
theorem ig_r (v : VT T) (e : EN2 s T h) : Pc (F_X12_isGoer n h x1) (fun q => q.2 = h ∧ YN q.1 (inN T.go.length x1)) := by
  have G5 := v.2.2.1.1
  have f0 := lit_0
  have f1 := lit_1
  have t2 := e.2.2.1
  unfold F_X12_isGoer
  rw [e.nc]
  have s1 := sbT (hi h 242 s) 1 (by omega) (by omega)
  generalize hi h 242 s - 1 = y3 at s1
  refine Pc.chk (fun _ => Pc.bind ez_in (fun q3 h3 => ?_))
  obtain ⟨t3, t4⟩ := h3
  refine Pc.chk (fun y => Pc.ret ⟨t3, ?_⟩)
  rcases y with y | y
  · refine Or.inl ⟨y, fun z => ?_⟩
    have z1 := z.1
    have z2 := z.2
    have := t4.mpr ⟨by omega, by omega⟩
    rw [y] at this
    exact this f0
  · refine Or.inr ⟨y, ?_⟩
    have := t4.mp (by rw [y, f1]; decide)
    exact ⟨by omega, by omega⟩
theorem hg_c (bd : BDF T 23 h) (G5 : T.go.length ≤ 5) : Pc (F_X0_hasGoer n h 23 x1) (fun q => q.2 = h ∧ YN q.1 (inN T.go.length x1)) := by
  have f0 := lit_0
  have f5 := lit_5
  have t2 := bd.2.1.1
  unfold F_X0_hasGoer
  refine Pc.lt (fun z => Pc.ret ⟨rfl, Or.inl ⟨rfl, fun w => ?_⟩⟩) (fun z => Pc.le (fun y => Pc.ret ⟨rfl, Or.inl ⟨rfl, fun w => ?_⟩⟩) (fun y => Pc.le (fun u => by exfalso; omega) (fun u => Pc.ret ⟨rfl, Or.inr ⟨rfl, by omega, by omega⟩⟩)))
  · have := w.1
    omega
  · have := w.2
    omega
theorem sp_c : Pc (F_X11_isSpan n h x1) (fun q => q.2 = h ∧ YN q.1 (inL x1)) := by
  have f0 := lit_0
  have f100 := lit_100
  unfold F_X11_isSpan
  refine Pc.lt (fun z => Pc.ret ⟨rfl, Or.inl ⟨rfl, fun w => ?_⟩⟩) (fun z => Pc.lt (fun y => Pc.ret ⟨rfl, Or.inl ⟨rfl, fun w => ?_⟩⟩) (fun y => Pc.ret ⟨rfl, Or.inr ⟨rfl, by omega, by omega⟩⟩))
  · have := w.1
    omega
  · have := w.2
    omega
theorem sp_r : Pc (F_X12_isLong n h x1) (fun q => q.2 = h ∧ YN q.1 (inL x1)) := by
  have f0 := lit_0
  have f1 := lit_1
  have f100 := lit_100
  unfold F_X12_isLong
  refine Pc.bind ez_in (fun q3 h3 => ?_)
  obtain ⟨t3, t4⟩ := h3
  refine Pc.chk (fun y => Pc.ret ⟨t3, ?_⟩)
  rcases y with y | y
  · refine Or.inl ⟨y, fun z => ?_⟩
    have z1 := z.1
    have z2 := z.2
    have := t4.mpr ⟨by omega, by omega⟩
    rw [y] at this
    exact this f0
  · refine Or.inr ⟨y, ?_⟩
    have := t4.mp (by rw [y, f1]; decide)
    exact ⟨by omega, by omega⟩
/-! the row is copied -/
theorem cp_2 (en : EN2 s T h0) : ∀ (n : Nat) (h : Hp) (l1 : Int32) (i : Nat), l1.toInt = (i : Int) → i ≤ 63 → (∀ a k, a ≠ 263 → hi h a k = hi h0 a k) → (∀ k, k < i → hi h 263 k = hi h0 262 k) → Pc (W_X12_copies n 2 h l1) (fun q => (∀ k, k < 63 → hi q 263 k = hi h0 262 k) ∧ (hi q 226 55).toInt = T.ws.2 ∧ vp_nar .boolean (hi q 226 56) = 0) := by
  intro n
  induction n with
  | zero => intro h l1 i a b c d; exact Pc.no
  | succ n ih =>
    intro h l1 i a b c d
    have f63 := lit_63
    have f1 := lit_1
    rw [u_X12_copies]
    refine Pc.pos rfl ?_
    refine Pc.le (fun z => Pc.chk (fun _ => Pc.ret ⟨fun k hk => ?_, ?_, ?_⟩)) (fun z => Pc.chk (fun _ => Pc.chk (fun _ => ?_)))
    · rw [hi_wrI, if_neg (by omega), hi_wrI, if_neg (by omega)]
      exact d k (by omega)
    · rw [hi_wrI, if_neg (by omega), hi_wrI, if_pos ⟨rfl, rfl⟩, c 226 18 (by decide), en.nc, c 249 s (by decide)]
      exact en.2.2.2.1.2
    · rw [hi_wrI, if_pos ⟨rfl, rfl⟩]
      decide
    · have n1 := ncT (show 0 ≤ l1.toInt by omega)
      have n2 : Int32.toNatClampNeg l1 = i := by omega
      have a1 := adT l1 1 (by omega) (by omega)
      rw [n2]
      refine ih _ (l1 + 1) (i + 1) (by omega) (by omega) (fun x k ne => by rw [hi_wrI, if_neg (fun w => ne w.1)]; exact c x k ne) (fun k hk => ?_)
      rw [hi_wrI]
      by_cases y : k = i
      · rw [if_pos ⟨rfl, y⟩, y]; exact c 262 i (by decide)
      · rw [if_neg (fun w => y w.2)]; exact d k (by omega)
theorem cp_r (en : EN2 s T h) : Pc (F_X12_copies n h) (CPR T h) := by
  intro q hq
  have z := zf_X12_copies q hq
  have e : W_X12_copies n 2 h 0 = some q := hq
  obtain ⟨k1, k2, k3⟩ := cp_2 (h0 := h) en n h 0 0 lit_0 (Nat.zero_le _) (fun _ _ _ => rfl) (fun k hk => absurd hk (Nat.not_lt_zero k)) q e
  exact ⟨k1, ⟨k2, k3⟩, z⟩
theorem CPR.en (x : CPR T h q) (e : EN2 s T h) : EN2 s T q := e.cg (fun a k h1 h2 => x.2.2.1 a k (by omega)) (x.2.2.1 226 18 (by omega))
theorem CPR.sd (x : CPR T h q) (e : SD5 T h) : SD5 T q := fun c k hc hk => by rw [x.2.2.1 264 _ (by omega)]; exact e c k hc hk
theorem CPR.bg (x : CPR T h q) : frZ bgJ h q := x.2.2.sub (fun x k z => by unfold bgJ; omega)
theorem wr_up {g : Hp} {a j : Nat} {v : Int32} : hi (wrI g a j v) a = upF (hi g a) j v := by
  funext k
  unfold upF
  rw [hi_wrI]
  by_cases y : k = j
  · rw [if_pos ⟨rfl, y⟩, if_pos y]
  · rw [if_neg (fun w => y w.2), if_neg y]
end R56R
end
section
/-! WHAT IS DONE BY HAND: mow, rope, in both -/
/-- a rope behind it -/
def rpF (f : Nat → Int32) (x1 : Int32) : Nat → Int32 := upF f 50 (f 50 ^^^ ((1 : Int32) <<< (x1 &&& 31)))
def MWO (T : TT) (f : Nat → Int32) (x1 : Int32) (b : Nat) : Prop := (b < wT T * gT T ∧ x1.toInt = (b : Int)) ∧ 0 < (f b).toInt
def RPO (T : TT) (f : Nat → Int32) (x1 x2 : Int32) (b : Nat) : Prop := (b < wT T * gT T ∧ x1.toInt = (b : Int)) ∧ (if bt (f 50) b = true then (1 : Int32) else 0) ≠ x2 ∧ (∀ k, k < T.go.length → f (51 + k) ≠ x1) ∧ (x2 = 0 ∨ ¬ 0 < (f b).toInt)
theorem bt_xor (x y : Int32) (i : Nat) : bt (x ^^^ y) i = (bt x i ^^ bt y i) := by
  unfold bt
  rw [Int32.toBitVec_xor, BitVec.getLsbD_xor]
theorem gi_0 {y : Int32} {G : Nat} {p : Nat → Bool} (G5 : G ≤ 5) (e : ∀ j, j < 32 → bt y j = (decide (j < G) && p j)) : y = 0 ↔ ∀ k, k < G → p k = false := by
  refine ⟨fun z k hk => ?_, fun z => bt_ext (fun i hi' => ?_)⟩
  · have := e k (by omega)
    rw [z, bt_zero, decide_eq_true hk, Bool.true_and] at this
    exact this.symm
  · rw [e i hi', bt_zero]
    by_cases y : i < G
    · rw [z i y, Bool.and_false]
    · rw [decide_eq_false y, Bool.false_and]
section R56S
variable {s G c : Nat} {T : TT} {h h0 q : Hp} {n : Nat} {x1 x2 x3 : Int32} {f f' : Nat → Int32} {a : Nat}
theorem hu_c : Pc (F_X8_hush n h a x1) (fun q => q = wrI h a 3 (hi h a 3 &&& (((1 : Int32) <<< (x1 &&& 31)) ^^^ (-1)))) := by
  unfold F_X8_hush
  exact Pc.ret rfl
theorem in_b (z : inN c x1) : ∃ b : Nat, b < c ∧ x1.toInt = (b : Int) := by
  obtain ⟨z1, z2⟩ := z
  exact ⟨x1.toInt.toNat, by omega, by omega⟩
theorem in_n {b : Nat} (z : ¬ inN c x1) (h1 : b < c) (h2 : x1.toInt = (b : Int)) : False := z ⟨by omega, by omega⟩
theorem mw_c (v : VT T) (bd : BDF T 23 h) (sc : SCR (wT T * gT T) T.go.length f 30 h) (rv : RVR (wT T * gT T) T.go.length f) (r : 0 ≤ (hi h 38 1).toInt ∧ (hi h 38 1).toInt ≤ 39) : Pc (F_X11_mow n h x1) (fun q => ((∀ b, ¬ MWO T f x1 b) ∧ q.1 = -1 ∧ q.2 = h) ∨ ∃ b, MWO T f x1 b ∧ q.1 = coF T f b ∧ DNc T (mwF T f b) h q.2) := by
  obtain ⟨c25, ⟨w2, w5⟩, ⟨g2, g5⟩, -, -⟩ := wg_T v
  have G5 := v.2.2.1.1
  unfold F_X11_mow
  refine Pc.bind (hs_c bd.1 w5 g5) (fun q1 h1 => ?_)
  obtain ⟨t1, t2⟩ := h1
  rw [t1]
  rcases t2 with ⟨y, z⟩ | ⟨y, z⟩
  · rw [y]
    exact Pc.pos rfl (Pc.ret (Or.inl ⟨fun b w => in_n z w.1.1 w.1.2, rfl, rfl⟩))
  rw [y]
  refine Pc.neg (by decide) ?_
  obtain ⟨b, bc, hb⟩ := in_b z
  refine Pc.bind (tu_c sc (b := b) (by omega) hb) (fun q4 h4 => ?_)
  obtain ⟨t4, t5, t6⟩ := h4
  rw [t4]
  refine Pc.ite (fun z0 => Pc.ret (Or.inl ⟨fun b' w => ?_, rfl, rfl⟩)) (fun z0 => ?_)
  · have e : b' = b := by have := w.1.2; omega
    subst e
    exact t6.mpr ⟨bc, w.2⟩ z0
  obtain ⟨-, pos⟩ := t6.mp z0
  refine Pc.bind (kp_c r) (fun q7 kc => ?_)
  have fr (a k : Nat) (h1 : a < 38) : hi q7 a k = hi h a k := kc.fr a k (by omega) (by omega)
  have bd7 : BDF T 23 q7 := bd.at (fun y k h1 h2 => fr y k (by omega))
  have sc7 : SCR (wT T * gT T) T.go.length f 30 q7 := sc.to c25 G5 (fun j _ => fr 30 j (by decide)) (fun j _ => fr 31 j (by decide)) (fun j _ => fr 32 j (by decide)) (fun j _ => fr 33 j (by decide))
  refine Pc.bind (fun y e => And.intro (co_c v bd7 sc7 rv (by decide) (b := b) bc hb y e) (zf_X0_costOf y e)) (fun q9 h9 => ?_)
  obtain ⟨t7, z9⟩ := h9
  have r9 (x j : Nat) (n1 : x ≠ 28) (n2 : x ≠ 29) : hi q9.2 x j = hi q7 x j := z9.1 x j (by omega)
  have sc9 : SCR (wT T * gT T) T.go.length f 30 q9.2 := sc7.to c25 G5 (fun j _ => r9 30 j (by decide) (by decide)) (fun j _ => r9 31 j (by decide) (by decide)) (fun j _ => r9 32 j (by decide) (by decide)) (fun j _ => r9 33 j (by decide) (by decide))
  have e62 : hi q9.2 30 1 = f 62 := sc9.1.2.1
  rw [e62, t7]
  refine Pc.bind hu_c (fun q11 h11 => Pc.ret (Or.inr ⟨b, ⟨⟨bc, hb⟩, pos⟩, rfl, q7, kc, fun a k h1 => ?_, ?_⟩))
  · show hi q11 a k = _
    rw [h11, hi_wrI, if_neg (by omega), hi_wrI, if_neg (by omega), r9 a k (by omega) (by omega)]
  · show SCR _ _ _ 30 q11
    rw [h11]
    exact (sc9.pd c25 G5).hu c25 G5 bc hb
theorem mw_r (v : VT T) (e : EN2 s T h) (rv : RVR (wT T * gT T) T.go.length (hi h 262)) (r59 : 0 ≤ (hi h 226 59).toInt ∧ (hi h 226 59).toInt ≤ 40) : Pc (F_X12_mow n h x1) (fun q => ∃ f, RFW h f ∧ (((∀ b, ¬ MWO T f x1 b) ∧ q.1 = -1 ∧ frZ bgJ h q.2) ∨ ∃ b, MWO T f x1 b ∧ q.1 = coF T f b ∧ DNr (mwF T f b) h q.2)) := by
  have c25 := (wg_T v).1
  have f0 := lit_0
  have f25 := lit_25
  unfold F_X12_mow
  refine Pc.bind (ic_r v e) (fun q1 h1 => ?_)
  obtain ⟨t1, t2⟩ := h1
  rw [t1]
  rcases t2 with ⟨y, z⟩ | ⟨y, z⟩
  · rw [y]
    exact Pc.pos rfl (Pc.ret ⟨hi h 262, fun _ _ => rfl, Or.inl ⟨fun b w => in_n z w.1.1 w.1.2, rfl, frZ.rf h⟩⟩)
  rw [y]
  refine Pc.neg (by decide) (Pc.chk (fun _ => ?_))
  obtain ⟨b, bc, hb⟩ := in_b z
  have n1 := ncT (show 0 ≤ x1.toInt by omega)
  have n2 : Int32.toNatClampNeg x1 = b := by omega
  have a1 := adT 25 x1 (by omega) (by omega)
  have n3 := ncT (show 0 ≤ (25 + x1).toInt by omega)
  have n4 : Int32.toNatClampNeg (25 + x1) = 25 + b := by omega
  rw [n2, n4]
  have rb := (rv.1 b (by omega)).2.1
  refine Pc.ite (fun z0 => Pc.ret ⟨hi h 262, fun _ _ => rfl, Or.inl ⟨fun b' w => ?_, rfl, frZ.rf h⟩⟩) (fun z0 => ?_)
  · have e : b' = b := by have := w.1.2; omega
    subst e
    have := w.2
    rw [z0, f0] at this
    exact absurd this (by decide)
  have pos : 0 < (hi h 262 b).toInt := by
    have : (hi h 262 b).toInt ≠ 0 := fun w => z0 (Int32.toInt_inj.mp (w.trans f0.symm))
    omega
  refine Pc.bind (cp_r e) (fun q6 cp => ?_)
  have e6 := cp.en e
  refine Pc.bind (fun y e' => And.intro (co_r v e6 (b := b) bc hb y e') (zf_X12_costsOf y e')) (fun q8 h8 => Pc.chk (fun _ => Pc.chk (fun _ => ?_)))
  obtain ⟨t7, z8⟩ := h8
  have e263 : hi q8.2 263 = hi q6 263 := funext (fun k => z8.1 263 k (by omega))
  rw [t7, e263]
  generalize eg : wrI (wrI (wrI q8.2 263 62 (hi q6 263 62 + coF T (hi q6 263) b)) 263 b 0) 263 (25 + b) 0 = hb'
  have row : hi hb' 263 = mwF T (hi q6 263) b := by
    rw [← eg, wr_up, wr_up, wr_up, e263]
    rfl
  have fb : frZ bgJ h hb' := by
    rw [← eg]
    exact (((cp.bg.tr (z8.sub (fun x k z => by unfold bgJ; omega))).w (by unfold bgJ; omega)).w (by unfold bgJ; omega)).w (by unfold bgJ; omega)
  refine Pc.bind (fun y e' => And.intro (kp_r (by rw [fb.1 226 59 (by unfold bgJ; omega)]; exact r59) y e') (zf_X12_records y e')) (fun q12 h12 => Pc.ret ⟨hi q6 263, cp.1, Or.inr ⟨b, ⟨⟨bc, hb⟩, by rw [cp.1 b (by omega)]; exact pos⟩, rfl, hb', fb, fun k _ => congrFun row k, h12.1, h12.2⟩⟩)
/-- mown by both -/
theorem mw_rl {q1 q2 : Int32 × Hp} {n1 n2 : Nat} (r : RLs s T h0) (e1 : F_X11_mow n1 h0 x1 = some q1) (e2 : F_X12_mow n2 q1.2 x1 = some q2) : q1.1 = q2.1 ∧ RLs s T q2.2 := by
  have k1 := frZ.hr (zf_X11_mow q1 e1) (fun x k z => by omega)
  have r0 := r
  obtain ⟨⟨v, bd, en, sd⟩, ⟨sc, rv⟩, -, -⟩ := r
  have c25 := (wg_T v).1
  have G5 := v.2.2.1.1
  obtain ⟨en1, sd1, e262, r59⟩ := r0.ref k1
  obtain ⟨f, rf, k⟩ := mw_r v en1 (by rw [e262]; exact rv) r59 q2 e2
  have rf0 (k : Nat) (hk : k < 63) : f k = hi h0 262 k := by rw [rf k hk, e262]
  have scf := sc.cg (g := f) c25 G5 rf0
  have rvf := rv.cg (g := f) G5 (fun k hk => rf0 k (by omega))
  rcases mw_c v bd scf rvf r0.rg q1 e1 with ⟨a1, a2, a3⟩ | ⟨b, a1, a2, a3⟩
  · rcases k with ⟨-, d2, d3⟩ | ⟨b', d1, -⟩
    · refine ⟨a2.trans d2.symm, r0.ke ?_⟩
      rw [a3] at d3
      exact rlK.z d3 (fun x k z => by unfold bgJ at z; unfold rlC; omega)
    · exact absurd d1 (a1 b')
  · rcases k with ⟨d1, -⟩ | ⟨b', d1, d2, d3⟩
    · exact absurd a1 (d1 b)
    · have e : b' = b := by have := a1.1.2; have := d1.1.2; omega
      subst e
      exact ⟨a2.trans d2.symm, r0.done k1 a3 d3 (rvf.mw c25 G5 a1.1.1)⟩
/-! who is there -/
theorem gi_5 {x2 : Int32} (G5 : G ≤ 5) (sc : SCR c G f a h) (hG : x2.toInt = (G : Int)) : ∀ (n : Nat) (l3 l4 : Int32) (i : Nat), l4.toInt = (i : Int) → i ≤ G → (∀ j, j < 32 → bt l3 j = (decide (j < i) && decide (f (51 + j) = x1))) → Pc (W_X8_goersIn n 5 h a x1 x2 l3 l4) (fun q => q.2 = h ∧ ∀ j, j < 32 → bt q.1 j = (decide (j < G) && decide (f (51 + j) = x1))) := by
  intro n
  induction n with
  | zero => intro l3 l4 i e1 e2 b; exact Pc.no
  | succ n ih =>
    intro l3 l4 i e1 e2 b
    have f1 := lit_1
    have f5 := lit_5
    rw [u_X8_goersIn]
    refine Pc.pos rfl ?_
    have fin (z : G ≤ i) : ∀ j, j < 32 → bt l3 j = (decide (j < G) && decide (f (51 + j) = x1)) := by
      have : i = G := by omega
      rw [← this]
      exact b
    refine Pc.le (fun z => Pc.ret ⟨rfl, fin (by omega)⟩) (fun z => Pc.le (fun z2 => Pc.ret ⟨rfl, fin (by omega)⟩) (fun z2 => Pc.chk (fun _ => ?_)))
    have n1 := ncT (show 0 ≤ l4.toInt by omega)
    have n2 : Int32.toNatClampNeg l4 = i := by omega
    have a1 := adT l4 1 (by omega) (by omega)
    rw [n2, (sc.2.2.2 i (by omega)).1]
    have st (y : Bool) (hy : y = decide (f (51 + i) = x1)) (l3' : Int32) (hl : ∀ j, j < 32 → bt l3' j = (bt l3 j || (y && decide (j = i)))) : ∀ j, j < 32 → bt l3' j = (decide (j < i + 1) && decide (f (51 + j) = x1)) := by
      intro j hj
      rw [hl j hj, b j hj]
      by_cases w : j = i
      · rw [w, hy, decide_eq_false (Nat.lt_irrefl i), decide_eq_true (show i < i + 1 by omega), decide_eq_true (show i = i from rfl), Bool.false_and, Bool.false_or, Bool.and_true, Bool.true_and]
      · rw [decide_eq_false w, Bool.and_false, Bool.or_false]
        by_cases w2 : j < i
        · rw [decide_eq_true w2, decide_eq_true (show j < i + 1 by omega)]
        · rw [decide_eq_false w2, decide_eq_false (show ¬ j < i + 1 by omega)]
    refine Pc.ite (fun z3 => ?_) (fun z3 => ?_)
    · exact ih _ (l4 + 1) (i + 1) (by omega) (by omega) (st true (decide_eq_true z3).symm _ (fun j hj => by rw [bt_add e1 (by omega), Bool.true_and]))
    · exact ih _ (l4 + 1) (i + 1) (by omega) (by omega) (st false (decide_eq_false z3).symm _ (fun j hj => by rw [Bool.false_and, Bool.or_false]))
theorem gi_c (G5 : G ≤ 5) (sc : SCR c G f a h) (hG : x2.toInt = (G : Int)) : Pc (F_X8_goersIn n h a x1 x2) (fun q => q.2 = h ∧ ∀ j, j < 32 → bt q.1 j = (decide (j < G) && decide (f (51 + j) = x1))) := by
  unfold F_X8_goersIn
  exact gi_5 G5 sc hG n 0 0 0 lit_0 (Nat.zero_le _) (fun j _ => by rw [bt_zero, decide_eq_false (Nat.not_lt_zero j), Bool.false_and])
theorem wa_4 (v : VT T) (e : EN2 s T h) : ∀ (n : Nat) (l2 l3 : Int32) (i : Nat), l3.toInt = (i : Int) → i ≤ T.go.length → (∀ j, j < 32 → bt l2 j = (decide (j < i) && decide (hi h 263 (51 + j) = x1))) → Pc (W_X12_whoAt n 4 h x1 l2 l3) (fun q => q.2 = h ∧ ∀ j, j < 32 → bt q.1 j = (decide (j < T.go.length) && decide (hi h 263 (51 + j) = x1))) := by
  intro n
  have G5 := v.2.2.1.1
  have hG := e.2.2.1
  induction n with
  | zero => intro l2 l3 i e1 e2 b; exact Pc.no
  | succ n ih =>
    intro l2 l3 i e1 e2 b
    have f1 := lit_1
    have f51 := lit_51
    rw [u_X12_whoAt, e.nc]
    refine Pc.pos rfl (Pc.chk (fun _ => ?_))
    refine Pc.le (fun z => Pc.ret ⟨rfl, ?_⟩) (fun z => Pc.chk (fun _ => ?_))
    · have : i = T.go.length := by omega
      rw [← this]
      exact b
    have n1 := ncT (show 0 ≤ l3.toInt by omega)
    have n2 : Int32.toNatClampNeg l3 = i := by omega
    have a1 := adT l3 1 (by omega) (by omega)
    have a2 := adT 51 l3 (by omega) (by omega)
    have n3 := ncT (show 0 ≤ (51 + l3).toInt by omega)
    have n4 : Int32.toNatClampNeg (51 + l3) = 51 + i := by omega
    rw [n4]
    have st (y : Bool) (hy : y = decide (hi h 263 (51 + i) = x1)) (l3' : Int32) (hl : ∀ j, j < 32 → bt l3' j = (bt l2 j || (y && decide (j = i)))) : ∀ j, j < 32 → bt l3' j = (decide (j < i + 1) && decide (hi h 263 (51 + j) = x1)) := by
      intro j hj
      rw [hl j hj, b j hj]
      by_cases w : j = i
      · rw [w, hy, decide_eq_false (Nat.lt_irrefl i), decide_eq_true (show i < i + 1 by omega), decide_eq_true (show i = i from rfl), Bool.false_and, Bool.false_or, Bool.and_true, Bool.true_and]
      · rw [decide_eq_false w, Bool.and_false, Bool.or_false]
        by_cases w2 : j < i
        · rw [decide_eq_true w2, decide_eq_true (show j < i + 1 by omega)]
        · rw [decide_eq_false w2, decide_eq_false (show ¬ j < i + 1 by omega)]
    refine Pc.ite (fun z3 => ?_) (fun z3 => ?_)
    · exact ih _ (l3 + 1) (i + 1) (by omega) (by omega) (st true (decide_eq_true z3).symm _ (fun j hj => by rw [bt_add e1 (by omega), Bool.true_and]))
    · exact ih _ (l3 + 1) (i + 1) (by omega) (by omega) (st false (decide_eq_false z3).symm _ (fun j hj => by rw [Bool.false_and, Bool.or_false]))
theorem wa_r (v : VT T) (e : EN2 s T h) : Pc (F_X12_whoAt n h x1) (fun q => q.2 = h ∧ ∀ j, j < 32 → bt q.1 j = (decide (j < T.go.length) && decide (hi h 263 (51 + j) = x1))) := by
  unfold F_X12_whoAt
  exact wa_4 v e n 0 0 0 lit_0 (Nat.zero_le _) (fun j _ => by rw [bt_zero, decide_eq_false (Nat.not_lt_zero j), Bool.false_and])
/-! a rope -/
theorem SCR.rp (x : SCR c G f a h) (c25 : c ≤ 25) (G5 : G ≤ 5) : SCR c G (rpF f x1) a (wrI h a 2 (hi h a 2 ^^^ ((1 : Int32) <<< (x1 &&& 31)))) := by
  obtain ⟨⟨y1, y2, y3⟩, y4, y5, y6⟩ := x
  unfold rpF
  refine ⟨⟨?_, ?_, ?_⟩, fun i hi' => ?_, fun i hi' => ?_, fun k hk => ?_⟩
  · rw [hi_wrI, if_neg (by omega), upF_n (by omega)]; exact y1
  · rw [hi_wrI, if_neg (by omega), upF_n (by omega)]; exact y2
  · rw [hi_wrI, if_pos ⟨rfl, rfl⟩, upF_e, y3]
  · rw [hi_wrI, if_neg (by omega)]
    by_cases y : i < c
    · rw [upF_n (by omega)]; exact y4 i hi'
    · exact ⟨fun z => absurd ((y4 i hi').mp z).1 y, fun z => absurd z.1 y⟩
  · rw [hi_wrI, if_neg (by omega), upF_n (by omega), upF_n (by omega)]; exact y5 i hi'
  · rw [hi_wrI, if_neg (by omega), hi_wrI, if_neg (by omega), upF_n (by omega), upF_n (by omega)]; exact y6 k hk
theorem RVR.rp (x : RVR c G f) (c25 : c ≤ 25) (G5 : G ≤ 5) {b : Nat} (bc : b < c) (hb : x1.toInt = (b : Int)) (no : ∀ k, k < G → f (51 + k) ≠ x1) : RVR c G (rpF f x1) := by
  obtain ⟨y1, y2, y3, y4⟩ := x
  have n1 := ncT (show 0 ≤ x1.toInt by omega)
  have n2 : Int32.toNatClampNeg x1 = b := by omega
  unfold rpF
  refine ⟨fun i hi' => ?_, fun i hi' z => ?_, fun k hk => ?_, fun k h1 h2 => ?_⟩
  · rw [upF_n (by omega), upF_n (by omega)]; exact y1 i hi'
  · rw [upF_e, bt_xor, btL (by omega) (by omega), n2] at z
    by_cases w : i = b
    · omega
    · rw [decide_eq_false w, Bool.xor_false] at z
      exact y2 i hi' z
  · obtain ⟨⟨z1, z2⟩, z3⟩ := y3 k hk
    rw [upF_n (show 51 + k ≠ 50 by omega), upF_e, bt_xor, btL (by omega) (by omega), n2, z3]
    refine ⟨⟨z1, z2⟩, ?_⟩
    rw [Bool.false_xor]
    refine decide_eq_false (fun w => no k hk (Int32.toInt_inj.mp ?_))
    omega
  · rw [upF_n (by omega), upF_n (by omega)]; exact y4 k h1 h2
end R56S
end
section
/-! WHAT IS DONE BY HAND: rope, carry, beats, in both -/
def CRO (T : TT) (f : Nat → Int32) (x1 x2 : Int32) (g b : Nat) : Prop := (g < T.go.length ∧ x1.toInt = (g : Int)) ∧ (b < wT T * gT T ∧ x2.toInt = (b : Int)) ∧ f (51 + g) ≠ x2 ∧ bt (f 50) b = false
section R56T
variable {s G c : Nat} {T : TT} {h h0 q : Hp} {n : Nat} {x1 x2 x3 : Int32} {f f' : Nat → Int32} {a : Nat}
theorem gi_no {y : Int32} (G5 : G ≤ 5) (e : ∀ j, j < 32 → bt y j = (decide (j < G) && decide (f (51 + j) = x1))) : y = 0 ↔ ∀ k, k < G → f (51 + k) ≠ x1 := by
  rw [gi_0 G5 e]
  exact ⟨fun z k hk => of_decide_eq_false (z k hk), fun z k hk => decide_eq_false (z k hk)⟩
theorem rp_c (v : VT T) (bd : BDF T 23 h) (sc : SCR (wT T * gT T) T.go.length f 30 h) (rv : RVR (wT T * gT T) T.go.length f) (r : 0 ≤ (hi h 38 1).toInt ∧ (hi h 38 1).toInt ≤ 39) : Pc (F_X11_rope n h x1 x2) (fun q => ((∀ b, ¬ RPO T f x1 x2 b) ∧ q.1 = 0 ∧ q.2 = h) ∨ ∃ b, RPO T f x1 x2 b ∧ q.1 = 1 ∧ DNc T (rpF f x1) h q.2) := by
  obtain ⟨c25, ⟨w2, w5⟩, ⟨g2, g5⟩, -, -⟩ := wg_T v
  have G5 := v.2.2.1.1
  unfold F_X11_rope
  refine Pc.bind (hs_c bd.1 w5 g5) (fun q1 h1 => ?_)
  obtain ⟨t1, t2⟩ := h1
  rw [t1]
  rcases t2 with ⟨y, z⟩ | ⟨y, z⟩
  · rw [y]
    exact Pc.pos rfl (Pc.ret (Or.inl ⟨fun b w => in_n z w.1.1 w.1.2, rfl, rfl⟩))
  rw [y]
  refine Pc.neg (by decide) ?_
  obtain ⟨b, bc, hb⟩ := in_b z
  have un (b' : Nat) (w : RPO T f x1 x2 b') : b' = b := by have := w.1.2; omega
  refine Pc.bind (ro_c sc (b := b) (by omega) hb) (fun q4 h4 => ?_)
  obtain ⟨t4, t5⟩ := h4
  rw [t4, t5]
  refine Pc.ite (fun z0 => Pc.ret (Or.inl ⟨fun b' w => ?_, rfl, rfl⟩)) (fun z0 => ?_)
  · have e := un b' w
    subst e
    exact w.2.1 z0
  refine Pc.bind (gi_c G5 sc bd.2.1.1) (fun q7 h7 => ?_)
  obtain ⟨t7, t8⟩ := h7
  have t9 := gi_no G5 t8
  rw [t7]
  refine Pc.ite (fun z1 => ?_) (fun z1 => Pc.ret (Or.inl ⟨fun b' w => z1 (t9.mpr w.2.2.1), rfl, rfl⟩))
  have no := t9.mp z1
  -- it is done
  have go (ok : x2 = 0 ∨ ¬ 0 < (f b).toInt) : Pc ((F_X6_keep n h 30).bind (fun q11 => some ((1 : Int32), (wrI q11 30 2 ((hi q11 30 2) ^^^ ((1 : Int32) <<< (x1 &&& 31))))))) (fun q => ((∀ b, ¬ RPO T f x1 x2 b) ∧ q.1 = 0 ∧ q.2 = h) ∨ ∃ b, RPO T f x1 x2 b ∧ q.1 = 1 ∧ DNc T (rpF f x1) h q.2) := by
    refine Pc.bind (kp_c r) (fun q11 kc => Pc.ret (Or.inr ⟨b, ⟨⟨bc, hb⟩, z0, no, ok⟩, rfl, q11, kc, fun a k h1 => ?_, ?_⟩))
    · show hi (wrI q11 30 2 _) a k = _
      rw [hi_wrI, if_neg (by omega)]
    · have fr (a k : Nat) (h1 : a < 38) : hi q11 a k = hi h a k := kc.fr a k (by omega) (by omega)
      have sc7 : SCR (wT T * gT T) T.go.length f 30 q11 := sc.to c25 G5 (fun j _ => fr 30 j (by decide)) (fun j _ => fr 31 j (by decide)) (fun j _ => fr 32 j (by decide)) (fun j _ => fr 33 j (by decide))
      exact sc7.rp c25 G5
  refine Pc.ite (fun z2 => go (Or.inl z2)) (fun z2 => ?_)
  refine Pc.bind (tu_c sc (b := b) (by omega) hb) (fun q13 h13 => ?_)
  obtain ⟨u1, u2, u3⟩ := h13
  rw [u1]
  refine Pc.ite (fun z3 => go (Or.inr (fun w => u3.mpr ⟨bc, w⟩ z3))) (fun z3 => Pc.ret (Or.inl ⟨fun b' w => ?_, rfl, rfl⟩))
  have e := un b' w
  subst e
  rcases w.2.2.2 with w | w
  · exact z2 w
  · exact w (u3.mp z3).2
theorem rp_r (v : VT T) (e : EN2 s T h) (rv : RVR (wT T * gT T) T.go.length (hi h 262)) (r59 : 0 ≤ (hi h 226 59).toInt ∧ (hi h 226 59).toInt ≤ 40) : Pc (F_X12_rope n h x1 x2) (fun q => ∃ f, RFW h f ∧ (((∀ b, ¬ RPO T f x1 x2 b) ∧ q.1 = 0 ∧ frZ bgJ h q.2) ∨ ∃ b, RPO T f x1 x2 b ∧ q.1 = 1 ∧ DNr (rpF f x1) h q.2)) := by
  have c25 := (wg_T v).1
  have G5 := v.2.2.1.1
  have f0 := lit_0
  unfold F_X12_rope
  refine Pc.bind (cp_r e) (fun q1 cp => ?_)
  have en1 := cp.en e
  have rvf : RVR (wT T * gT T) T.go.length (hi q1 263) := rv.cg G5 (fun k hk => cp.1 k (by omega))
  -- the answers
  have no' (hr : ∀ b, ¬ RPO T (hi q1 263) x1 x2 b) : ∃ f, RFW h f ∧ (((∀ b, ¬ RPO T f x1 x2 b) ∧ (0 : Int32) = 0 ∧ frZ bgJ h q1) ∨ ∃ b, RPO T f x1 x2 b ∧ (0 : Int32) = 1 ∧ DNr (rpF f x1) h q1) := ⟨hi q1 263, cp.1, Or.inl ⟨hr, rfl, cp.bg⟩⟩
  refine Pc.bind (ic_r v en1) (fun q3 h3 => ?_)
  obtain ⟨t1, t2⟩ := h3
  rw [t1]
  rcases t2 with ⟨y, z⟩ | ⟨y, z⟩
  · rw [y]
    exact Pc.pos rfl (Pc.ret (no' (fun b w => in_n z w.1.1 w.1.2)))
  rw [y]
  refine Pc.neg (by decide) ?_
  obtain ⟨b, bc, hb⟩ := in_b z
  have n1 := ncT (show 0 ≤ x1.toInt by omega)
  have n2 : Int32.toNatClampNeg x1 = b := by omega
  have un (b' : Nat) (w : RPO T (hi q1 263) x1 x2 b') : b' = b := by have := w.1.2; omega
  refine Pc.bind (ir_r (b := b) (by omega) hb) (fun q6 h6 => ?_)
  obtain ⟨t4, t5⟩ := h6
  rw [t4, t5]
  refine Pc.ite (fun z0 => Pc.ret (no' (fun b' w => ?_))) (fun z0 => ?_)
  · have e := un b' w
    subst e
    exact w.2.1 z0
  have go (no : ∀ k, k < T.go.length → hi q1 263 (51 + k) ≠ x1) (ok : x2 = 0 ∨ ¬ 0 < (hi q1 263 b).toInt) : Pc ((F_X12_records n (wrI q1 263 50 ((hi q1 263 50) ^^^ ((1 : Int32) <<< (x1 &&& 31))))).bind (fun q10 => some ((1 : Int32), q10))) (fun q => ∃ f, RFW h f ∧ (((∀ b, ¬ RPO T f x1 x2 b) ∧ q.1 = 0 ∧ frZ bgJ h q.2) ∨ ∃ b, RPO T f x1 x2 b ∧ q.1 = 1 ∧ DNr (rpF f x1) h q.2)) := by
    generalize eg : wrI q1 263 50 ((hi q1 263 50) ^^^ ((1 : Int32) <<< (x1 &&& 31))) = hb'
    have row : hi hb' 263 = rpF (hi q1 263) x1 := by
      rw [← eg, wr_up]
      rfl
    have fb : frZ bgJ h hb' := by
      rw [← eg]
      exact cp.bg.w (by unfold bgJ; omega)
    exact Pc.bind (fun y e' => And.intro (kp_r (by rw [fb.1 226 59 (by unfold bgJ; omega)]; exact r59) y e') (zf_X12_records y e')) (fun q12 h12 => Pc.ret ⟨hi q1 263, cp.1, Or.inr ⟨b, ⟨⟨bc, hb⟩, z0, no, ok⟩, rfl, hb', fb, fun k _ => congrFun row k, h12.1, h12.2⟩⟩)
  refine Pc.ite (fun z2 => go (fun k hk w => ?_) (Or.inl z2)) (fun z2 => Pc.chk (fun _ => ?_))
  · have br : bt (hi q1 263 50) b = true := by
      by_cases u : bt (hi q1 263 50) b = true
      · exact u
      · rw [if_neg u] at z0
        exact absurd z2.symm z0
    have := (rvf.2.2.1 k hk).2
    rw [w, show x1.toInt.toNat = b by omega, br] at this
    exact absurd this (by decide)
  rw [n2]
  refine Pc.lt (fun z3 => Pc.ret (no' (fun b' w => ?_))) (fun z3 => ?_)
  · have e := un b' w
    subst e
    rcases w.2.2.2 with w | w
    · exact z2 w
    · exact w (by omega)
  refine Pc.bind (wa_r v en1) (fun q14 h14 => ?_)
  obtain ⟨t7, t8⟩ := h14
  have t9 := gi_no G5 t8
  rw [t7]
  exact Pc.ite (fun z4 => go (t9.mp z4) (Or.inr (by omega))) (fun z4 => Pc.ret (no' (fun b' w => z4 (t9.mpr w.2.2.1))))
/-- roped by both -/
theorem rp_rl {q1 q2 : Int32 × Hp} {n1 n2 : Nat} (r : RLs s T h0) (e1 : F_X11_rope n1 h0 x1 x2 = some q1) (e2 : F_X12_rope n2 q1.2 x1 x2 = some q2) : q1.1 = q2.1 ∧ RLs s T q2.2 := by
  have k1 := frZ.hr (zf_X11_rope q1 e1) (fun x k z => by omega)
  have r0 := r
  obtain ⟨⟨v, bd, en, sd⟩, ⟨sc, rv⟩, -, -⟩ := r
  have c25 := (wg_T v).1
  have G5 := v.2.2.1.1
  obtain ⟨en1, sd1, e262, r59⟩ := r0.ref k1
  obtain ⟨f, rf, k⟩ := rp_r v en1 (by rw [e262]; exact rv) r59 q2 e2
  have rf0 (k : Nat) (hk : k < 63) : f k = hi h0 262 k := by rw [rf k hk, e262]
  have scf := sc.cg (g := f) c25 G5 rf0
  have rvf := rv.cg (g := f) G5 (fun k hk => rf0 k (by omega))
  rcases rp_c v bd scf rvf r0.rg q1 e1 with ⟨a1, a2, a3⟩ | ⟨b, a1, a2, a3⟩
  · rcases k with ⟨-, d2, d3⟩ | ⟨b', d1, -⟩
    · refine ⟨a2.trans d2.symm, r0.ke ?_⟩
      rw [a3] at d3
      exact rlK.z d3 (fun x k z => by unfold bgJ at z; unfold rlC; omega)
    · exact absurd d1 (a1 b')
  · rcases k with ⟨d1, -⟩ | ⟨b', d1, d2, d3⟩
    · exact absurd a1 (d1 b)
    · exact ⟨a2.trans d2.symm, r0.done k1 a3 d3 (rvf.rp c25 G5 a1.1.1 a1.1.2 a1.2.2.1)⟩
/-! a goer is carried -/
theorem cr_c (v : VT T) (bd : BDF T 23 h) (sc : SCR (wT T * gT T) T.go.length f 30 h) (r : 0 ≤ (hi h 38 1).toInt ∧ (hi h 38 1).toInt ≤ 39) : Pc (F_X11_carry n h x1 x2) (fun q => ((∀ g b, ¬ CRO T f x1 x2 g b) ∧ q.1 = 0 ∧ q.2 = h) ∨ ∃ g b, CRO T f x1 x2 g b ∧ q.1 = 1 ∧ DNc T (upF f (51 + g) x2) h q.2) := by
  obtain ⟨c25, ⟨w2, w5⟩, ⟨g2, g5⟩, -, -⟩ := wg_T v
  have G5 := v.2.2.1.1
  unfold F_X11_carry
  refine Pc.bind (hg_c bd G5) (fun q1 h1 => ?_)
  obtain ⟨t1, t2⟩ := h1
  rw [t1]
  rcases t2 with ⟨y, z⟩ | ⟨y, z⟩
  · rw [y]
    exact Pc.pos rfl (Pc.ret (Or.inl ⟨fun g b w => in_n z w.1.1 w.1.2, rfl, rfl⟩))
  rw [y]
  refine Pc.neg (by decide) ?_
  obtain ⟨g, gG, hg⟩ := in_b z
  refine Pc.bind (hs_c bd.1 w5 g5) (fun q4 h4 => ?_)
  obtain ⟨t3, t4⟩ := h4
  rw [t3]
  rcases t4 with ⟨y2, z2⟩ | ⟨y2, z2⟩
  · rw [y2]
    exact Pc.pos rfl (Pc.ret (Or.inl ⟨fun g b w => in_n z2 w.2.1.1 w.2.1.2, rfl, rfl⟩))
  rw [y2]
  refine Pc.neg (by decide) (Pc.chk (fun _ => ?_))
  obtain ⟨b, bc, hb⟩ := in_b z2
  have n1 := ncT (show 0 ≤ x1.toInt by omega)
  have n2 : Int32.toNatClampNeg x1 = g := by omega
  have un (g' b' : Nat) (w : CRO T f x1 x2 g' b') : g' = g ∧ b' = b := by
    have := w.1.2
    have := w.2.1.2
    omega
  rw [n2, (sc.2.2.2 g gG).1]
  refine Pc.ite (fun z3 => Pc.ret (Or.inl ⟨fun g' b' w => ?_, rfl, rfl⟩)) (fun z3 => ?_)
  · obtain ⟨e1, e2⟩ := un g' b' w
    subst e1
    exact w.2.2.1 z3
  refine Pc.bind (ro_c sc (b := b) (by omega) hb) (fun q9 h9 => ?_)
  obtain ⟨t5, t6⟩ := h9
  rw [t5, t6]
  by_cases z4 : bt (f 50) b = true
  · rw [if_pos z4]
    refine Pc.neg (by decide) (Pc.ret (Or.inl ⟨fun g' b' w => ?_, rfl, rfl⟩))
    obtain ⟨e1, e2⟩ := un g' b' w
    subst e2
    have := w.2.2.2
    rw [z4] at this
    exact absurd this (by decide)
  rw [if_neg z4]
  refine Pc.pos rfl ?_
  refine Pc.bind (kp_c r) (fun q11 kc => Pc.chk (fun _ => Pc.ret (Or.inr ⟨g, b, ⟨⟨gG, hg⟩, ⟨bc, hb⟩, z3, Bool.eq_false_iff.mpr z4⟩, rfl, q11, kc, fun a k h1 => ?_, ?_⟩)))
  · show hi (wrI q11 32 _ _) a k = _
    rw [hi_wrI, if_neg (by omega)]
  · have fr (a k : Nat) (h1 : a < 38) : hi q11 a k = hi h a k := kc.fr a k (by omega) (by omega)
    have sc7 : SCR (wT T * gT T) T.go.length f 30 q11 := sc.to c25 G5 (fun j _ => fr 30 j (by decide)) (fun j _ => fr 31 j (by decide)) (fun j _ => fr 32 j (by decide)) (fun j _ => fr 33 j (by decide))
    exact sc7.go c25 G5 (by omega)
theorem cr_r (v : VT T) (e : EN2 s T h) (r59 : 0 ≤ (hi h 226 59).toInt ∧ (hi h 226 59).toInt ≤ 40) : Pc (F_X12_carry n h x1 x2) (fun q => ∃ f, RFW h f ∧ (((∀ g b, ¬ CRO T f x1 x2 g b) ∧ q.1 = 0 ∧ frZ bgJ h q.2) ∨ ∃ g b, CRO T f x1 x2 g b ∧ q.1 = 1 ∧ DNr (upF f (51 + g) x2) h q.2)) := by
  have c25 := (wg_T v).1
  have G5 := v.2.2.1.1
  have f51 := lit_51
  unfold F_X12_carry
  refine Pc.bind (cp_r e) (fun q1 cp => ?_)
  have en1 := cp.en e
  have no' (hr : ∀ g b, ¬ CRO T (hi q1 263) x1 x2 g b) : ∃ f, RFW h f ∧ (((∀ g b, ¬ CRO T f x1 x2 g b) ∧ (0 : Int32) = 0 ∧ frZ bgJ h q1) ∨ ∃ g b, CRO T f x1 x2 g b ∧ (0 : Int32) = 1 ∧ DNr (upF f (51 + g) x2) h q1) := ⟨hi q1 263, cp.1, Or.inl ⟨hr, rfl, cp.bg⟩⟩
  refine Pc.bind (ig_r v en1) (fun q3 h3 => ?_)
  obtain ⟨t1, t2⟩ := h3
  rw [t1]
  rcases t2 with ⟨y, z⟩ | ⟨y, z⟩
  · rw [y]
    exact Pc.pos rfl (Pc.ret (no' (fun g b w => in_n z w.1.1 w.1.2)))
  rw [y]
  refine Pc.neg (by decide) ?_
  obtain ⟨g, gG, hg⟩ := in_b z
  refine Pc.bind (ic_r v en1) (fun q6 h6 => ?_)
  obtain ⟨t3, t4⟩ := h6
  rw [t3]
  rcases t4 with ⟨y2, z2⟩ | ⟨y2, z2⟩
  · rw [y2]
    exact Pc.pos rfl (Pc.ret (no' (fun g b w => in_n z2 w.2.1.1 w.2.1.2)))
  rw [y2]
  refine Pc.neg (by decide) ?_
  obtain ⟨b, bc, hb⟩ := in_b z2
  have a1 := adT 51 x1 (by omega) (by omega)
  have n1 := ncT (show 0 ≤ (51 + x1).toInt by omega)
  have n2 : Int32.toNatClampNeg (51 + x1) = 51 + g := by omega
  have un (g' b' : Nat) (w : CRO T (hi q1 263) x1 x2 g' b') : g' = g ∧ b' = b := by
    have := w.1.2
    have := w.2.1.2
    omega
  refine Pc.bind (ir_r (b := b) (by omega) hb) (fun q9 h9 => ?_)
  obtain ⟨t5, t6⟩ := h9
  rw [t5, t6]
  by_cases z4 : bt (hi q1 263 50) b = true
  · rw [if_pos z4]
    refine Pc.neg (by decide) (Pc.ret (no' (fun g' b' w => ?_)))
    obtain ⟨e1, e2⟩ := un g' b' w
    subst e2
    have := w.2.2.2
    rw [z4] at this
    exact absurd this (by decide)
  rw [if_neg z4, n2]
  refine Pc.pos rfl (Pc.chk (fun _ => ?_))
  refine Pc.ite (fun z3 => Pc.ret (no' (fun g' b' w => ?_))) (fun z3 => Pc.chk (fun _ => ?_))
  · obtain ⟨e1, e2⟩ := un g' b' w
    subst e1
    exact w.2.2.1 z3
  generalize eg : wrI q1 263 (51 + g) x2 = hb'
  have row : hi hb' 263 = upF (hi q1 263) (51 + g) x2 := by rw [← eg, wr_up]
  have fb : frZ bgJ h hb' := by
    rw [← eg]
    exact cp.bg.w (by unfold bgJ; omega)
  exact Pc.bind (fun y e' => And.intro (kp_r (by rw [fb.1 226 59 (by unfold bgJ; omega)]; exact r59) y e') (zf_X12_records y e')) (fun q12 h12 => Pc.ret ⟨hi q1 263, cp.1, Or.inr ⟨g, b, ⟨⟨gG, hg⟩, ⟨bc, hb⟩, z3, Bool.eq_false_iff.mpr z4⟩, rfl, hb', fb, fun k _ => congrFun row k, h12.1, h12.2⟩⟩)
/-- carried by both -/
theorem cr_rl {q1 q2 : Int32 × Hp} {n1 n2 : Nat} (r : RLs s T h0) (e1 : F_X11_carry n1 h0 x1 x2 = some q1) (e2 : F_X12_carry n2 q1.2 x1 x2 = some q2) : q1.1 = q2.1 ∧ RLs s T q2.2 := by
  have k1 := frZ.hr (zf_X11_carry q1 e1) (fun x k z => by omega)
  have r0 := r
  obtain ⟨⟨v, bd, en, sd⟩, ⟨sc, rv⟩, -, -⟩ := r
  have c25 := (wg_T v).1
  have G5 := v.2.2.1.1
  obtain ⟨en1, sd1, e262, r59⟩ := r0.ref k1
  obtain ⟨f, rf, k⟩ := cr_r v en1 r59 q2 e2
  have rf0 (k : Nat) (hk : k < 63) : f k = hi h0 262 k := by rw [rf k hk, e262]
  have scf := sc.cg (g := f) c25 G5 rf0
  have rvf := rv.cg (g := f) G5 (fun k hk => rf0 k (by omega))
  rcases cr_c v bd scf r0.rg q1 e1 with ⟨a1, a2, a3⟩ | ⟨g, b, a1, a2, a3⟩
  · rcases k with ⟨-, d2, d3⟩ | ⟨g', b', d1, -⟩
    · refine ⟨a2.trans d2.symm, r0.ke ?_⟩
      rw [a3] at d3
      exact rlK.z d3 (fun x k z => by unfold bgJ at z; unfold rlC; omega)
    · exact absurd d1 (a1 g' b')
  · rcases k with ⟨d1, -⟩ | ⟨g', b', d1, d2, d3⟩
    · exact absurd a1 (d1 g b)
    · have e : g' = g := by have := a1.1.2; have := d1.1.2; omega
      subst e
      exact ⟨a2.trans d2.symm, r0.done k1 a3 d3 (rvf.go G5 c25 a1.1.1 (d := b) a1.2.1.2 a1.2.1.1 a1.2.2.2)⟩
/-! beats go by -/
theorem bt_c (v : VT T) (bd : BDF T 23 h) (sc : SCR (wT T * gT T) T.go.length f 30 h) (rv : RVR (wT T * gT T) T.go.length f) (r : 0 ≤ (hi h 38 1).toInt ∧ (hi h 38 1).toInt ≤ 39) : Pc (F_X11_beats n h x1) (fun q => (¬ inL x1 ∧ q.1 = -1 ∧ q.2 = h) ∨ (x1.toInt = 0 ∧ q.1 = f 61 ∧ q.2 = h) ∨ ∃ m : Nat, (inL x1 ∧ x1.toInt ≠ 0 ∧ x1.toInt = (m : Int)) ∧ q.1 = itB T m f 61 ∧ DNc T (itB T m f) h q.2 ∧ RVR (wT T * gT T) T.go.length (itB T m f)) := by
  have c25 := (wg_T v).1
  have G5 := v.2.2.1.1
  have f0 := lit_0
  unfold F_X11_beats
  refine Pc.bind sp_c (fun q1 h1 => ?_)
  obtain ⟨t1, t2⟩ := h1
  rw [t1]
  rcases t2 with ⟨y, z⟩ | ⟨y, z⟩
  · rw [y]
    exact Pc.pos rfl (Pc.ret (Or.inl ⟨z, rfl, rfl⟩))
  rw [y]
  refine Pc.neg (by decide) ?_
  have z1 := z.1
  have z2 := z.2
  refine Pc.le (fun w => Pc.ret (Or.inr (Or.inl ⟨by omega, sc.1.1, rfl⟩))) (fun w => ?_)
  obtain ⟨m, hm⟩ : ∃ m : Nat, x1.toInt = (m : Int) := ⟨x1.toInt.toNat, by omega⟩
  refine Pc.bind (kp_c r) (fun q5 kc => ?_)
  have fr (a k : Nat) (h1 : a < 38) : hi q5 a k = hi h a k := kc.fr a k (by omega) (by omega)
  have bd5 : BDF T 23 q5 := bd.at (fun y k h1 h2 => fr y k (by omega))
  have sc5 : SCR (wT T * gT T) T.go.length f 30 q5 := sc.to c25 G5 (fun j _ => fr 30 j (by decide)) (fun j _ => fr 31 j (by decide)) (fun j _ => fr 32 j (by decide)) (fun j _ => fr 33 j (by decide))
  refine Pc.bind (fun y e => And.intro (gn_c v (by decide) hm bd5 sc5 rv y e) (zf_X0_goOn y e)) (fun q7 h7 => ?_)
  obtain ⟨⟨s7, r7⟩, z7⟩ := h7
  exact Pc.ret (Or.inr (Or.inr ⟨m, ⟨z, by omega, hm⟩, s7.1.1, ⟨q5, kc, fun a k h1 => z7.1 a k (by omega), s7⟩, r7⟩))
theorem bt_r (v : VT T) (e : EN2 s T h) (sd : SD5 T h) (rv : RVR (wT T * gT T) T.go.length (hi h 262)) (r59 : 0 ≤ (hi h 226 59).toInt ∧ (hi h 226 59).toInt ≤ 40) : Pc (F_X12_beats n h x1) (fun q => ∃ f, RFW h f ∧ ((¬ inL x1 ∧ q.1 = -1 ∧ frZ bgJ h q.2) ∨ (x1.toInt = 0 ∧ q.1 = f 61 ∧ frZ bgJ h q.2) ∨ ∃ m : Nat, (inL x1 ∧ x1.toInt ≠ 0 ∧ x1.toInt = (m : Int)) ∧ q.1 = itB T m f 61 ∧ DNr (itB T m f) h q.2)) := by
  have c25 := (wg_T v).1
  have G5 := v.2.2.1.1
  have f0 := lit_0
  unfold F_X12_beats
  refine Pc.bind sp_r (fun q1 h1 => ?_)
  obtain ⟨t1, t2⟩ := h1
  rw [t1]
  rcases t2 with ⟨y, z⟩ | ⟨y, z⟩
  · rw [y]
    exact Pc.pos rfl (Pc.ret ⟨hi h 262, fun _ _ => rfl, Or.inl ⟨z, rfl, frZ.rf h⟩⟩)
  rw [y]
  refine Pc.neg (by decide) ?_
  have z1 := z.1
  have z2 := z.2
  refine Pc.eq (fun w => Pc.ret ⟨hi h 262, fun _ _ => rfl, Or.inr (Or.inl ⟨by omega, rfl, frZ.rf h⟩)⟩) (fun w => ?_)
  obtain ⟨m, hm⟩ : ∃ m : Nat, x1.toInt = (m : Int) := ⟨x1.toInt.toNat, by omega⟩
  refine Pc.bind (cp_r e) (fun q5 cp => ?_)
  have en5 := cp.en e
  have rvf : RVR (wT T * gT T) T.go.length (hi q5 263) := rv.cg G5 (fun k hk => cp.1 k (by omega))
  refine Pc.bind (go_r v hm en5 (cp.sd sd) rvf cp.2.1.1 cp.2.1.2) (fun q7 h7 => ?_)
  obtain ⟨z7, d7, -⟩ := h7
  have fb : frZ bgJ h q7 := cp.bg.tr (z7.sub (fun x k z => by unfold bgF at z; unfold bgJ; omega))
  refine Pc.bind (fun y e' => And.intro (kp_r (by rw [fb.1 226 59 (by unfold bgJ; omega)]; exact r59) y e') (zf_X12_records y e')) (fun q9 h9 => Pc.ret ⟨hi q5 263, cp.1, Or.inr (Or.inr ⟨m, ⟨z, by omega, hm⟩, ?_, q7, fb, fun k _ => d7 k, h9.1, h9.2⟩)⟩)
  exact (h9.1.1 61 (by decide)).trans (d7 61)
/-- beats by both -/
theorem bt_rl {q1 q2 : Int32 × Hp} {n1 n2 : Nat} (r : RLs s T h0) (e1 : F_X11_beats n1 h0 x1 = some q1) (e2 : F_X12_beats n2 q1.2 x1 = some q2) : q1.1 = q2.1 ∧ RLs s T q2.2 := by
  have k1 := frZ.hr (zf_X11_beats q1 e1) (fun x k z => by omega)
  have f0 := lit_0
  have r0 := r
  obtain ⟨⟨v, bd, en, sd⟩, ⟨sc, rv⟩, -, -⟩ := r
  have c25 := (wg_T v).1
  have G5 := v.2.2.1.1
  obtain ⟨en1, sd1, e262, r59⟩ := r0.ref k1
  obtain ⟨f, rf, k⟩ := bt_r v en1 sd1 (by rw [e262]; exact rv) r59 q2 e2
  have rf0 (k : Nat) (hk : k < 63) : f k = hi h0 262 k := by rw [rf k hk, e262]
  have scf := sc.cg (g := f) c25 G5 rf0
  have rvf := rv.cg (g := f) G5 (fun k hk => rf0 k (by omega))
  have same (a3 : q1.2 = h0) (d3 : frZ bgJ q1.2 q2.2) : RLs s T q2.2 := by
    rw [a3] at d3
    exact r0.ke (rlK.z d3 (fun x k z => by unfold bgJ at z; unfold rlC; omega))
  rcases bt_c v bd scf rvf r0.rg q1 e1 with ⟨a1, a2, a3⟩ | ⟨a1, a2, a3⟩ | ⟨m, a1, a2, a3, a4⟩
  · rcases k with ⟨-, d2, d3⟩ | ⟨d1, -⟩ | ⟨m', d1, -⟩
    · exact ⟨a2.trans d2.symm, same a3 d3⟩
    · exact absurd ⟨by omega, by omega⟩ a1
    · exact absurd d1.1 a1
  · rcases k with ⟨d1, -⟩ | ⟨-, d2, d3⟩ | ⟨m', d1, -⟩
    · exact absurd ⟨by omega, by omega⟩ d1
    · exact ⟨a2.trans d2.symm, same a3 d3⟩
    · exact absurd a1 d1.2.1
  · rcases k with ⟨d1, -⟩ | ⟨d1, -⟩ | ⟨m', d1, d2, d3⟩
    · exact absurd a1.1 d1
    · exact absurd d1 a1.2.1
    · have e : m' = m := by have := a1.2.2; have := d1.2.2; omega
      subst e
      exact ⟨a2.trans d2.symm, r0.done k1 a3 d3 a4⟩
end R56T
end
section
/-! READING: the live side stays while the other is told -/
def twW (s x k : Nat) : Prop := (234 ≤ x ∧ x ≤ 247) ∨ (250 ≤ x ∧ x ≤ 259) ∨ ((x = 248 ∨ x = 249) ∧ k = s) ∨ (x = 226 ∧ (k = 11 ∨ k = 12 ∨ k = 13 ∨ k = 14 ∨ k = 15 ∨ k = 16 ∨ k = 20 ∨ k = 39 ∨ k = 45 ∨ k = 49))
theorem zg_tellOne {n s : Nat} {h : Hp} (hs : Int32.toNatClampNeg (hi h 226 19) = s) : Pc (F_X12_tellOne n h) (fun q => frZ (twW s) h q) := by
  unfold F_X12_tellOne
  refine Pc.chk (fun c1 => ?_)
  refine Pc.ite (fun _ => ?_) (fun _ => ?_)
  · refine Pc.bind zf_X12_goesOn (fun q2 h3 => ?_)
    have f4 : frZ (twW s) h q2 := frZ.tr (frZ.rf h) (frZ.sub h3 (fun x k z => by unfold twW; omega))
    refine Pc.bind zf_X12_bounded (fun q5 h6 => ?_)
    have f7 : frZ (twW s) h q5.2 := frZ.tr f4 (frZ.sub h6 (fun x k z => by unfold twW; omega))
    refine Pc.chk (fun c8 => ?_)
    refine Pc.bind zf_X12_bounded (fun q9 h10 => ?_)
    have f11 : frZ (twW s) h q9.2 := frZ.tr (frZ.w f7 (by unfold twW; omega)) (frZ.sub h10 (fun x k z => by unfold twW; omega))
    refine Pc.chk (fun c12 => ?_)
    refine Pc.bind zf_X12_must (fun q13 h14 => ?_)
    have f15 : frZ (twW s) h q13 := frZ.tr (frZ.w f11 (by unfold twW; omega)) (frZ.sub h14 (fun x k z => by unfold twW; omega))
    exact Pc.ret f15
  · refine Pc.ite (fun _ => ?_) (fun _ => ?_)
    · refine Pc.chk (fun c16 => ?_)
      refine Pc.bind zf_X12_roomFor (fun q17 h18 => ?_)
      have f19 : frZ (twW s) h q17 := frZ.tr (frZ.rf h) (frZ.sub h18 (fun x k z => by unfold twW; omega))
      refine Pc.ite (fun _ => ?_) (fun _ => ?_)
      · refine Pc.bind zf_X12_tellTune (fun q20 h21 => ?_)
        have f22 : frZ (twW s) h q20 := frZ.tr f19 (frZ.sub h21 (fun x k z => by unfold twW; omega))
        exact Pc.ret f22
      · exact Pc.ret f19
    · refine Pc.ite (fun _ => ?_) (fun _ => ?_)
      · refine Pc.chk (fun c23 => ?_)
        refine Pc.bind zf_X12_roomFor (fun q24 h25 => ?_)
        have f26 : frZ (twW s) h q24 := frZ.tr (frZ.rf h) (frZ.sub h25 (fun x k z => by unfold twW; omega))
        refine Pc.ite (fun _ => ?_) (fun _ => ?_)
        · refine Pc.bind zf_X12_tellGoer (fun q27 h28 => ?_)
          have f29 : frZ (twW s) h q27 := frZ.tr f26 (frZ.sub h28 (fun x k z => by unfold twW; omega))
          exact Pc.ret f29
        · exact Pc.ret f26
      · refine Pc.ite (fun _ => ?_) (fun _ => ?_)
        · refine Pc.chk (fun c30 => ?_)
          refine Pc.bind zf_X12_roomFor (fun q31 h32 => ?_)
          have f33 : frZ (twW s) h q31 := frZ.tr (frZ.rf h) (frZ.sub h32 (fun x k z => by unfold twW; omega))
          refine Pc.ite (fun _ => ?_) (fun _ => ?_)
          · refine Pc.bind zf_X12_tellRope (fun q34 h35 => ?_)
            have f36 : frZ (twW s) h q34 := frZ.tr f33 (frZ.sub h35 (fun x k z => by unfold twW; omega))
            exact Pc.ret f36
          · exact Pc.ret f33
        · refine Pc.ite (fun _ => ?_) (fun _ => ?_)
          · refine Pc.chk (fun c37 => ?_)
            refine Pc.ite (fun _ => ?_) (fun _ => ?_)
            · refine Pc.bind zf_X12_fail (fun q38 h39 => ?_)
              have f40 : frZ (twW s) h q38 := frZ.tr (frZ.rf h) (frZ.sub h39 (fun x k z => by unfold twW; omega))
              refine Pc.ite (fun _ => ?_) (fun _ => ?_)
              · refine Pc.bind zf_X12_goesOn (fun q41 h42 => ?_)
                have f43 : frZ (twW s) h q41 := frZ.tr f40 (frZ.sub h42 (fun x k z => by unfold twW; omega))
                refine Pc.bind zf_X12_tellLaw (fun q44 h45 => ?_)
                have f46 : frZ (twW s) h q44 := frZ.tr f43 (frZ.sub h45 (fun x k z => by unfold twW; omega))
                exact Pc.ret f46
              · exact Pc.ret f40
            · refine Pc.chk (fun c47 => ?_)
              refine Pc.ite (fun _ => ?_) (fun _ => ?_)
              · refine Pc.ite (fun _ => ?_) (fun _ => ?_)
                · refine Pc.bind zf_X12_goesOn (fun q48 h49 => ?_)
                  have f50 : frZ (twW s) h q48 := frZ.tr (frZ.rf h) (frZ.sub h49 (fun x k z => by unfold twW; omega))
                  refine Pc.bind zf_X12_tellLaw (fun q51 h52 => ?_)
                  have f53 : frZ (twW s) h q51 := frZ.tr f50 (frZ.sub h52 (fun x k z => by unfold twW; omega))
                  exact Pc.ret f53
                · exact Pc.ret (frZ.rf h)
              · refine Pc.bind zf_X12_fail (fun q54 h55 => ?_)
                have f56 : frZ (twW s) h q54 := frZ.tr (frZ.rf h) (frZ.sub h55 (fun x k z => by unfold twW; omega))
                refine Pc.ite (fun _ => ?_) (fun _ => ?_)
                · refine Pc.bind zf_X12_goesOn (fun q57 h58 => ?_)
                  have f59 : frZ (twW s) h q57 := frZ.tr f56 (frZ.sub h58 (fun x k z => by unfold twW; omega))
                  refine Pc.bind zf_X12_tellLaw (fun q60 h61 => ?_)
                  have f62 : frZ (twW s) h q60 := frZ.tr f59 (frZ.sub h61 (fun x k z => by unfold twW; omega))
                  exact Pc.ret f62
                · exact Pc.ret f56
          · refine Pc.ite (fun _ => ?_) (fun _ => ?_)
            · refine Pc.chk (fun c63 => ?_)
              refine Pc.ite (fun _ => ?_) (fun _ => ?_)
              · refine Pc.bind zf_X12_fail (fun q64 h65 => ?_)
                have f66 : frZ (twW s) h q64 := frZ.tr (frZ.rf h) (frZ.sub h65 (fun x k z => by unfold twW; omega))
                refine Pc.ite (fun _ => ?_) (fun _ => ?_)
                · refine Pc.bind zf_X12_goesOn (fun q67 h68 => ?_)
                  have f69 : frZ (twW s) h q67 := frZ.tr f66 (frZ.sub h68 (fun x k z => by unfold twW; omega))
                  refine Pc.bind zf_X12_tellLaw (fun q70 h71 => ?_)
                  have f72 : frZ (twW s) h q70 := frZ.tr f69 (frZ.sub h71 (fun x k z => by unfold twW; omega))
                  exact Pc.ret f72
                · exact Pc.ret f66
              · refine Pc.chk (fun c73 => ?_)
                refine Pc.ite (fun _ => ?_) (fun _ => ?_)
                · refine Pc.ite (fun _ => ?_) (fun _ => ?_)
                  · refine Pc.bind zf_X12_goesOn (fun q74 h75 => ?_)
                    have f76 : frZ (twW s) h q74 := frZ.tr (frZ.rf h) (frZ.sub h75 (fun x k z => by unfold twW; omega))
                    refine Pc.bind zf_X12_tellLaw (fun q77 h78 => ?_)
                    have f79 : frZ (twW s) h q77 := frZ.tr f76 (frZ.sub h78 (fun x k z => by unfold twW; omega))
                    exact Pc.ret f79
                  · exact Pc.ret (frZ.rf h)
                · refine Pc.bind zf_X12_fail (fun q80 h81 => ?_)
                  have f82 : frZ (twW s) h q80 := frZ.tr (frZ.rf h) (frZ.sub h81 (fun x k z => by unfold twW; omega))
                  refine Pc.ite (fun _ => ?_) (fun _ => ?_)
                  · refine Pc.bind zf_X12_goesOn (fun q83 h84 => ?_)
                    have f85 : frZ (twW s) h q83 := frZ.tr f82 (frZ.sub h84 (fun x k z => by unfold twW; omega))
                    refine Pc.bind zf_X12_tellLaw (fun q86 h87 => ?_)
                    have f88 : frZ (twW s) h q86 := frZ.tr f85 (frZ.sub h87 (fun x k z => by unfold twW; omega))
                    exact Pc.ret f88
                  · exact Pc.ret f82
            · refine Pc.ite (fun _ => ?_) (fun _ => ?_)
              · refine Pc.chk (fun c89 => ?_)
                refine Pc.ite (fun _ => ?_) (fun _ => ?_)
                · refine Pc.bind zf_X12_fail (fun q90 h91 => ?_)
                  have f92 : frZ (twW s) h q90 := frZ.tr (frZ.rf h) (frZ.sub h91 (fun x k z => by unfold twW; omega))
                  refine Pc.ite (fun _ => ?_) (fun _ => ?_)
                  · refine Pc.bind zf_X12_goesOn (fun q93 h94 => ?_)
                    have f95 : frZ (twW s) h q93 := frZ.tr f92 (frZ.sub h94 (fun x k z => by unfold twW; omega))
                    refine Pc.bind zf_X12_tellLaw (fun q96 h97 => ?_)
                    have f98 : frZ (twW s) h q96 := frZ.tr f95 (frZ.sub h97 (fun x k z => by unfold twW; omega))
                    exact Pc.ret f98
                  · exact Pc.ret f92
                · refine Pc.chk (fun c99 => ?_)
                  refine Pc.ite (fun _ => ?_) (fun _ => ?_)
                  · refine Pc.ite (fun _ => ?_) (fun _ => ?_)
                    · refine Pc.bind zf_X12_goesOn (fun q100 h101 => ?_)
                      have f102 : frZ (twW s) h q100 := frZ.tr (frZ.rf h) (frZ.sub h101 (fun x k z => by unfold twW; omega))
                      refine Pc.bind zf_X12_tellLaw (fun q103 h104 => ?_)
                      have f105 : frZ (twW s) h q103 := frZ.tr f102 (frZ.sub h104 (fun x k z => by unfold twW; omega))
                      exact Pc.ret f105
                    · exact Pc.ret (frZ.rf h)
                  · refine Pc.bind zf_X12_fail (fun q106 h107 => ?_)
                    have f108 : frZ (twW s) h q106 := frZ.tr (frZ.rf h) (frZ.sub h107 (fun x k z => by unfold twW; omega))
                    refine Pc.ite (fun _ => ?_) (fun _ => ?_)
                    · refine Pc.bind zf_X12_goesOn (fun q109 h110 => ?_)
                      have f111 : frZ (twW s) h q109 := frZ.tr f108 (frZ.sub h110 (fun x k z => by unfold twW; omega))
                      refine Pc.bind zf_X12_tellLaw (fun q112 h113 => ?_)
                      have f114 : frZ (twW s) h q112 := frZ.tr f111 (frZ.sub h113 (fun x k z => by unfold twW; omega))
                      exact Pc.ret f114
                    · exact Pc.ret f108
              · refine Pc.ite (fun _ => ?_) (fun _ => ?_)
                · refine Pc.chk (fun c115 => ?_)
                  refine Pc.ite (fun _ => ?_) (fun _ => ?_)
                  · refine Pc.bind zf_X12_fail (fun q116 h117 => ?_)
                    have f118 : frZ (twW s) h q116 := frZ.tr (frZ.rf h) (frZ.sub h117 (fun x k z => by unfold twW; omega))
                    refine Pc.ite (fun _ => ?_) (fun _ => ?_)
                    · refine Pc.bind zf_X12_goesOn (fun q119 h120 => ?_)
                      have f121 : frZ (twW s) h q119 := frZ.tr f118 (frZ.sub h120 (fun x k z => by unfold twW; omega))
                      refine Pc.bind zf_X12_tellLaw (fun q122 h123 => ?_)
                      have f124 : frZ (twW s) h q122 := frZ.tr f121 (frZ.sub h123 (fun x k z => by unfold twW; omega))
                      exact Pc.ret f124
                    · exact Pc.ret f118
                  · refine Pc.chk (fun c125 => ?_)
                    refine Pc.ite (fun _ => ?_) (fun _ => ?_)
                    · refine Pc.ite (fun _ => ?_) (fun _ => ?_)
                      · refine Pc.bind zf_X12_goesOn (fun q126 h127 => ?_)
                        have f128 : frZ (twW s) h q126 := frZ.tr (frZ.rf h) (frZ.sub h127 (fun x k z => by unfold twW; omega))
                        refine Pc.bind zf_X12_tellLaw (fun q129 h130 => ?_)
                        have f131 : frZ (twW s) h q129 := frZ.tr f128 (frZ.sub h130 (fun x k z => by unfold twW; omega))
                        exact Pc.ret f131
                      · exact Pc.ret (frZ.rf h)
                    · refine Pc.bind zf_X12_fail (fun q132 h133 => ?_)
                      have f134 : frZ (twW s) h q132 := frZ.tr (frZ.rf h) (frZ.sub h133 (fun x k z => by unfold twW; omega))
                      refine Pc.ite (fun _ => ?_) (fun _ => ?_)
                      · refine Pc.bind zf_X12_goesOn (fun q135 h136 => ?_)
                        have f137 : frZ (twW s) h q135 := frZ.tr f134 (frZ.sub h136 (fun x k z => by unfold twW; omega))
                        refine Pc.bind zf_X12_tellLaw (fun q138 h139 => ?_)
                        have f140 : frZ (twW s) h q138 := frZ.tr f137 (frZ.sub h139 (fun x k z => by unfold twW; omega))
                        exact Pc.ret f140
                      · exact Pc.ret f134
                · refine Pc.ite (fun _ => ?_) (fun _ => ?_)
                  · refine Pc.bind zf_X12_goesOn (fun q141 h142 => ?_)
                    have f143 : frZ (twW s) h q141 := frZ.tr (frZ.rf h) (frZ.sub h142 (fun x k z => by unfold twW; omega))
                    refine Pc.bind zf_X12_bounded (fun q144 h145 => ?_)
                    have f146 : frZ (twW s) h q144.2 := frZ.tr f143 (frZ.sub h145 (fun x k z => by unfold twW; omega))
                    refine Pc.chk (fun c147 => ?_)
                    refine Pc.bind zf_X12_must (fun q148 h149 => ?_)
                    have f150 : frZ (twW s) h q148 := frZ.tr (frZ.w f146 (Or.inr (Or.inr (Or.inl ⟨by omega, by rw [f143.1 226 19 (by unfold twW; omega)]; exact hs⟩)))) (frZ.sub h149 (fun x k z => by unfold twW; omega))
                    exact Pc.ret f150
                  · refine Pc.ite (fun _ => ?_) (fun _ => ?_)
                    · refine Pc.bind zf_X12_goesOn (fun q151 h152 => ?_)
                      have f153 : frZ (twW s) h q151 := frZ.tr (frZ.rf h) (frZ.sub h152 (fun x k z => by unfold twW; omega))
                      refine Pc.bind zf_X12_bounded (fun q154 h155 => ?_)
                      have f156 : frZ (twW s) h q154.2 := frZ.tr f153 (frZ.sub h155 (fun x k z => by unfold twW; omega))
                      refine Pc.chk (fun c157 => ?_)
                      refine Pc.bind zf_X12_must (fun q158 h159 => ?_)
                      have f160 : frZ (twW s) h q158 := frZ.tr (frZ.w f156 (Or.inr (Or.inr (Or.inl ⟨by omega, by rw [f153.1 226 19 (by unfold twW; omega)]; exact hs⟩)))) (frZ.sub h159 (fun x k z => by unfold twW; omega))
                      exact Pc.ret f160
                    · refine Pc.chk (fun c161 => ?_)
                      refine Pc.ite (fun _ => ?_) (fun _ => ?_)
                      · refine Pc.bind zf_X12_fail (fun q162 h163 => ?_)
                        have f164 : frZ (twW s) h q162 := frZ.tr (frZ.rf h) (frZ.sub h163 (fun x k z => by unfold twW; omega))
                        refine Pc.ite (fun _ => ?_) (fun _ => ?_)
                        · refine Pc.bind zf_X12_goesOn (fun q165 h166 => ?_)
                          have f167 : frZ (twW s) h q165 := frZ.tr f164 (frZ.sub h166 (fun x k z => by unfold twW; omega))
                          refine Pc.bind zf_X12_tellLaw (fun q168 h169 => ?_)
                          have f170 : frZ (twW s) h q168 := frZ.tr f167 (frZ.sub h169 (fun x k z => by unfold twW; omega))
                          exact Pc.ret f170
                        · exact Pc.ret f164
                      · refine Pc.chk (fun c171 => ?_)
                        refine Pc.ite (fun _ => ?_) (fun _ => ?_)
                        · refine Pc.ite (fun _ => ?_) (fun _ => ?_)
                          · refine Pc.bind zf_X12_goesOn (fun q172 h173 => ?_)
                            have f174 : frZ (twW s) h q172 := frZ.tr (frZ.rf h) (frZ.sub h173 (fun x k z => by unfold twW; omega))
                            refine Pc.bind zf_X12_tellLaw (fun q175 h176 => ?_)
                            have f177 : frZ (twW s) h q175 := frZ.tr f174 (frZ.sub h176 (fun x k z => by unfold twW; omega))
                            exact Pc.ret f177
                          · exact Pc.ret (frZ.rf h)
                        · refine Pc.bind zf_X12_fail (fun q178 h179 => ?_)
                          have f180 : frZ (twW s) h q178 := frZ.tr (frZ.rf h) (frZ.sub h179 (fun x k z => by unfold twW; omega))
                          refine Pc.ite (fun _ => ?_) (fun _ => ?_)
                          · refine Pc.bind zf_X12_goesOn (fun q181 h182 => ?_)
                            have f183 : frZ (twW s) h q181 := frZ.tr f180 (frZ.sub h182 (fun x k z => by unfold twW; omega))
                            refine Pc.bind zf_X12_tellLaw (fun q184 h185 => ?_)
                            have f186 : frZ (twW s) h q184 := frZ.tr f183 (frZ.sub h185 (fun x k z => by unfold twW; omega))
                            exact Pc.ret f186
                          · exact Pc.ret f180
end
section
/-! READING: a text that is refused leaves all as it was; one that holds lays all down -/
def LVx (s : Nat) (hS x : Hp) : Prop := (∀ a k, ¬ (227 ≤ a ∧ a ≤ 231) → frB (1 - s) a k → hi x a k = hi hS a k) ∧ ∀ k : Nat, k ≠ s → hi x 248 k = hi hS 248 k ∧ hi x 249 k = hi hS 249 k
def LVo (s : Nat) (hS : Hp) (q : Int32 × Hp) : Prop := q.1.toInt ≠ 0 → ∃ (x : Hp) (p : Int32), LVx s hS x ∧ q.2 = wrI x 226 17 p
def LVr (hS : Hp) (q : Int32 × Hp) : Prop := q.1.toInt ≠ 0 → ∃ (s : Nat) (x : Hp) (p : Int32), (s ≤ 1 ∧ (hi hS 226 18).toInt = 1 - (s : Int)) ∧ LVx s hS x ∧ q.2 = wrI x 226 17 p
/-- what both hold -/
def RLx (h : Hp) : Prop := ∃ s T, RLs s T h
section R56V
variable {s l : Nat} {T : TT} {h h0 hS hC x g q : Hp} {n : Nat} {p x1 : Int32}
theorem LVx.fr (y : LVx s hS g) (f : ∀ a k, ¬ (a = 226 ∧ k ≠ 18 ∧ k ≠ 59 ∧ k ≠ 65) → hi q a k = hi g a k) : LVx s hS q := by
  refine ⟨fun a k n1 n2 => ?_, fun k hk => ⟨?_, ?_⟩⟩
  · rw [f a k (by unfold frB at n2; omega)]; exact y.1 a k n1 n2
  · rw [f 248 k (by omega)]; exact (y.2 k hk).1
  · rw [f 249 k (by omega)]; exact (y.2 k hk).2
theorem is_r : Pc (F_X12_is n h x1) (fun q => q.2 = h) := by
  unfold F_X12_is
  exact Pc.ite (fun _ => Pc.chk (fun _ => Pc.ite (fun _ => Pc.ret rfl) (fun _ => Pc.ret rfl))) (fun _ => Pc.ret rfl)
theorem lv_E : Pc (rdE n x p) (fun q => q.1.toInt ≠ 0 → q.2 = wrI x 226 17 p) := by
  have f0 := lit_0
  unfold rdE
  refine Pc.le (fun c1 => ?_) (fun c1 => Pc.ret (fun _ => rfl))
  refine Pc.le (fun c2 => ?_) (fun c2 => Pc.ret (fun _ => rfl))
  refine Pc.bind zf_X12_begins (fun q6 _ => ?_)
  refine Pc.bind zf_X12_keepsRow (fun q8 _ => ?_)
  exact (ez_243 n _ 0 0 f0 (by decide) (fun k hk => absurd hk (Nat.not_lt_zero k))).mono (fun q hq z => absurd (by rw [hq.1]; exact f0) z)
theorem lv_o (y : LVx s hS x) : Pc (rdE n x p) (LVo s hS) := fun q e z => ⟨x, p, y, lv_E q e z⟩
theorem lv_T (y : LVx s hS x) : Pc (rdT n x) (LVo s hS) := by
  unfold rdT
  exact Pc.le (fun _ => Pc.le (fun _ => lv_o y) (fun _ => lv_o y)) (fun _ => lv_o y)
theorem lv_B (y : LVx s hS x) : Pc (rdB n x) (LVo s hS) := by
  unfold rdB
  refine Pc.bind zf_X12_isBeyond (fun q99 h99 => ?_)
  have l9 : LVx s hS q99.2 := y.fr (fun a k _ => h99.1 a k (fun z => z))
  refine Pc.ite (fun _ => lv_T l9) (fun _ => ?_)
  exact Pc.bind zf_X12_wrong (fun q hq => lv_T (l9.fr (fun a k z => hq.1 a k (by omega))))
theorem lv_112 (hs : s ≤ 1) (rc : rdC s hS hC) : ∀ (n : Nat) (h : Hp) (l1 : Int32), jR s hC h → LVx s hS h → ((hi h 226 13).toInt = 0 → (10000 : Int) + (402 - (hi h 226 11).toInt) < n) → Pc (W_X12_read n 112 h l1) (LVo s hS) := by
  intro n
  induction n with
  | zero => intro h l1 j y hn; exact Pc.no
  | succ n ih =>
    intro h l1 j y hn
    have f0 := lit_0
    obtain ⟨t1, t2⟩ := j.1.2.2.1.1
    rw [u_X12_read]
    refine Pc.neg (by decide) (Pc.pos rfl ?_)
    refine Pc.eq (fun c1 => ?_) (fun c1 => ?_)
    · have fz : (hi h 226 13).toInt = 0 := by omega
      have hn' := hn fz
      have e19 : (hi h 226 19).toInt = (s : Int) := j.1.2.1.2
      have n1 := ncT (show 0 ≤ (hi h 226 19).toInt by omega)
      have n2 : Int32.toNatClampNeg (hi h 226 19) = s := by omega
      refine Pc.bind is_r (fun q75 h75 => ?_)
      rw [h75]
      refine Pc.ite (fun _ => ?_) (fun _ => ?_)
      · refine Pc.bind (fun y e => And.intro ((sr_one (by omega) hs j fz ((rd_x rc j).2.2 _)).pc y e) (zg_tellOne n2 y e)) (fun q hq => ?_)
        obtain ⟨⟨jq, up⟩, zq⟩ := hq
        refine ih q l1 jq ⟨fun a k n1 n2 => (rd_x rc jq).1 a k n1 n2, fun k hk => ⟨?_, ?_⟩⟩ (fun z => by have := up z; omega)
        · exact (zq.1 248 k (by unfold twW; omega)).trans (y.2 k hk).1
        · exact (zq.1 249 k (by unfold twW; omega)).trans (y.2 k hk).2
      · exact Pc.ite (fun _ => lv_B y) (fun _ => lv_T y)
    · exact Pc.ite (fun _ => lv_B y) (fun _ => lv_T y)
set_option maxHeartbeats 4000000 in
theorem lv_10 (d : dI hS) (kd : ∀ k, 0 ≤ (hi hS 229 k).toInt) {g0 : Hp} (e0 : wrI hS 226 4 (hi hS 226 2) = g0) : ∀ n : Nat, ∀ (h : Hp) (l1 : Int32), 0 ≤ l1.toInt → l1.toInt ≤ 2000 → (∀ a k, a ≠ 228 → hi h a k = hi g0 a k) → (∀ a k, hl h a k = hl g0 a k) → (68719500000 : Int) + (2001 - l1.toInt) < n → Pc (W_X12_read n 10 h l1) (LVr hS) := by
  intro n
  induction n with
  | zero => intro h l1 a a' b c e; exact Pc.no
  | succ n ih =>
    intro h l1 a a' b c e
    have f0 := lit_0
    have f1 := lit_1
    have tp := d.2.1
    have e4 : hi h 226 4 = hi hS 226 2 := (b 226 4 (by decide)).trans (hiE e0)
    rw [u_X12_read]
    refine Pc.pos rfl ?_
    rw [e4]
    refine Pc.le (fun c1 => ?_) (fun c1 => ?_)
    · generalize eC : wrI h 226 2 0 = gC
      have rC (x k : Nat) (n0 : x ≠ 228) (n1 : ¬ (x = 226 ∧ (k = 2 ∨ k = 4))) : hi gC x k = hi hS x k := by
        rw [← eC, hi_wrI, if_neg (by omega), b x k n0, ← e0, hi_wrI, if_neg (by omega)]
      have lC (x k : Nat) : hl gC x k = hl hS x k := by
        rw [← eC]
        show hl h x k = _
        rw [c x k, ← e0]
        rfl
      have z4 : hi gC 226 4 = hi hS 226 2 := (hiK eC 226 4 (by decide)).trans e4
      have z2 : (hi gC 226 2).toInt = 0 := by rw [hiE eC]; exact f0
      refine Pc.bind (sf_X12_cut (h0 := gC) (by rw [z4]; exact tp) n gC (by omega) ⟨fun _ _ _ _ _ _ => rfl, fun _ _ _ => rfl, fun k => by rw [rC 229 k (by decide) (by omega)]; exact kd k⟩).pc (fun q2 hq2 => ?_)
      obtain ⟨jc, -⟩ := hq2
      have e18 : hi (wrI (wrI (wrI (wrI q2 226 11 0) 226 12 0) 226 13 0) 226 15 0) 226 18 = hi hS 226 18 := by
        rw [hi_wrI, if_neg (by decide), hi_wrI, if_neg (by decide), hi_wrI, if_neg (by decide), hi_wrI, if_neg (by decide), jc.1 226 18 (by decide) (by decide) (by decide) (by decide)]
        exact rC 226 18 (by decide) (by decide)
      rw [e18]
      have l01 := d.1.1
      generalize ev : (1 - hi hS 226 18 : Int32) = v
      have fv := sbG ev lit_1 rfl (by omega) (by omega)
      obtain ⟨s, hs⟩ : ∃ s : Nat, v.toInt = (s : Int) := ⟨v.toInt.toNat, by omega⟩
      have hs1 : s ≤ 1 := by omega
      generalize e6 : wrI (wrI (wrI (wrI (wrI (wrI q2 226 11 0) 226 12 0) 226 13 0) 226 15 0) 226 19 v) 226 20 0 = g6
      have w19 : hi g6 226 19 = v := by rw [← e6]; exact (rd_w6 q2 v).2.2.2.2.1
      rw [w19]
      refine Pc.bind (sf_X12_plain (s := s) (by omega) hs1 hs).pc (fun q4 pl => ?_)
      have x19 : hi q4 226 19 = v := (pl.1.1.1 226 19 (by unfold plW; omega)).trans w19
      rw [x19]
      have y19 : hi (wrI q4 226 39 (130 * v)) 226 19 = v := (hiK rfl 226 19 (by decide)).trans x19
      rw [y19]
      have m1 := mlT 130 v 130 lit_130 (by omega) (by omega)
      have m2 := mlT 420 v 420 lit_420 (by omega) (by omega)
      generalize eH : wrI (wrI q4 226 39 (130 * v)) 226 45 (420 * v) = hC
      obtain ⟨jr, rc⟩ := rd_begin hs1 rC lC z2 jc hs e6 pl (by omega) (by omega) eH
      have t0 := jr.1.2.2.1.1
      have r8 (a k : Nat) (ha : a = 248 ∨ a = 249) (hk : k ≠ s) : hi hC a k = hi hS a k := by
        rw [← eH, hi_wrI, if_neg (by omega), hi_wrI, if_neg (by omega), pl.1.1.1 a k (by unfold plW; omega), ← e6, rd_w6n q2 v a k (by omega), jc.1 a k (by omega) (by omega) (by omega) (by omega)]
        exact rC a k (by omega) (by omega)
      refine (lv_112 hs1 rc n hC l1 jr ⟨rc.1, fun k hk => ⟨r8 248 k (Or.inl rfl) hk, r8 249 k (Or.inr rfl) hk⟩⟩ (fun _ => by omega)).mono (fun q hq z => ?_)
      obtain ⟨x, p, y1, y2⟩ := hq z
      exact ⟨s, x, p, ⟨hs1, by omega⟩, y1, y2⟩
    · refine Pc.chk (fun _ => Pc.chk (fun _ => ?_))
      have a1 := adT l1 1 (by omega) (by omega)
      refine ih _ (l1 + 1) (by omega) (by omega) (fun x k q => ?_) (fun x k => c x k) (by omega)
      rw [hi_wrI, if_neg (fun w => q w.1)]
      exact b x k q
theorem lv_read (hn : 68719600000 ≤ n) (d : dI hS) (kd : ∀ k, 0 ≤ (hi hS 229 k).toInt) : Pc (F_X12_read n hS) (LVr hS) := by
  have f0 := lit_0
  unfold F_X12_read
  exact lv_10 d kd rfl n _ 0 (by omega) (by omega) (fun _ _ _ => rfl) (fun _ _ => rfl) (by omega)
/-- a law's orders, by the windows of one side -/
theorem rlB.lw {h h' : Hp} {U l : Nat} : ∀ {bs : List ((List Int32 × List Int32) × List Int32)} {B : Nat} {f : List Int32}, (∀ b, B ≤ b → b ≤ B + bs.length → obO (l : Int) h b) → (∀ a k, 252 ≤ a → a ≤ 256 → B ≤ k → k ≤ B + bs.length → hi h' a k = hi h a k) → (∀ k, 420 * l ≤ k → k < U → hi h' 257 k = hi h 257 k ∧ hi h' 258 k = hi h 258 k) → rlB h U B bs f → rlB h' U B bs f := by
  intro bs
  induction bs with
  | nil =>
    intro B f w e1 e2 o
    have wB := w B (Nat.le_refl B) (Nat.le_add_right _ _)
    unfold rlB at o ⊢
    have le : B ≤ B + ([] : List ((List Int32 × List Int32) × List Int32)).length := Nat.le_add_right _ _
    rw [e1 252 B (by decide) (by decide) (Nat.le_refl B) le, e1 255 B (by decide) (by decide) (Nat.le_refl B) le, e1 256 B (by decide) (by decide) (Nat.le_refl B) le]
    obtain ⟨o1, p, o2, o3, o4, o5⟩ := o
    have w3 := wB.2.2.1
    exact ⟨o1, p, o2, o3, o4.cg (fun k h1 h2 => e2 k (by omega) (by omega)), o5⟩
  | cons b t ih =>
    intro B f w e1 e2 o
    obtain ⟨⟨x, y⟩, c⟩ := b
    have wB := w B (Nat.le_refl B) (Nat.le_add_right _ _)
    unfold rlB at o ⊢
    have l0 : (((x, y), c) :: t).length = t.length + 1 := rfl
    have le : B ≤ B + (((x, y), c) :: t).length := Nat.le_add_right _ _
    rw [e1 252 B (by decide) (by decide) (Nat.le_refl B) le, e1 253 B (by decide) (by decide) (Nat.le_refl B) le, e1 254 B (by decide) (by decide) (Nat.le_refl B) le, e1 255 B (by decide) (by decide) (Nat.le_refl B) le, e1 256 B (by decide) (by decide) (Nat.le_refl B) le]
    obtain ⟨⟨o1, p, o2, o3, o4, o5, o6, o7, o8, o9⟩, o10⟩ := o
    have w4 := wB.2.2.2.1 o1
    exact ⟨⟨o1, p, o2, o3, o4, o5, o6.cg (fun k h1 h2 => e2 k (by omega) (by omega)), o7.cg (fun k h1 h2 => e2 k (by omega) (by omega)), o8.cg (fun k h1 h2 => e2 k (by omega) (by omega)), o9⟩, ih (fun b h1 h2 => w b (by omega) (by omega)) (fun a k h1 h2 h3 h4 => e1 a k h1 h2 (by omega) (by omega)) e2 o10⟩
theorem rtL.lw {f : Nat → Option LWS} {B c : Nat} (a : rtL l f B c h) (ol : ∀ k, k < 4 → olO (l : Int) h (4 * l + k)) (hB : B ≤ 130 * l + 130) (hc : c ≤ 420 * l + 420) (e0 : ∀ k, k < 4 → hi q 250 (4 * l + k) = hi h 250 (4 * l + k) ∧ hi q 251 (4 * l + k) = hi h 251 (4 * l + k)) (e1 : ∀ x j, 252 ≤ x → x ≤ 256 → 130 * l ≤ j → j < 130 * l + 130 → hi q x j = hi h x j) (e2 : ∀ j, 420 * l ≤ j → j < 420 * l + 420 → hi q 257 j = hi h 257 j ∧ hi q 258 j = hi h 258 j) : rtL l f B c q := by
  intro k hk
  rw [(e0 k hk).1, (e0 k hk).2]
  refine ⟨(a k hk).1, fun b hb => ?_⟩
  obtain ⟨D, d1, d2, d3, d4⟩ := (a k hk).2 b hb
  rcases ol k hk with z | ⟨z1, z2, z3⟩
  · exfalso; omega
  · exact ⟨D, d1, d2, d3, d4.lw (fun b' h1 h2 => z3 b' (by omega) (by omega)) (fun x j h1 h2 h3 h4 => e1 x j h1 h2 (by omega) (by omega)) (fun j h1 h2 => e2 j h1 (by omega))⟩
theorem EN2.lv (e : EN2 l T hS) (d : dI hS) (hs : s ≤ 1) (hv : (hi hS 226 18).toInt = 1 - (s : Int)) (y : LVx s hS g) : EN2 l T (wrI g 226 17 p) := by
  obtain ⟨⟨e1, e2⟩, e3, e4, e5, B, c, e6, e7, e8⟩ := e
  have el : (l : Int) = 1 - (s : Int) := by omega
  have r (a k : Nat) (n1 : ¬ (227 ≤ a ∧ a ≤ 231)) (n2 : frB (1 - s) a k) : hi (wrI g 226 17 p) a k = hi hS a k := by
    rw [hi_wrI, if_neg (by unfold frB at n2; omega)]
    exact y.1 a k n1 n2
  have r8 (a : Nat) (ha : a = 248 ∨ a = 249) : hi (wrI g 226 17 p) a l = hi hS a l := by
    rw [hi_wrI, if_neg (by omega)]
    rcases ha with rfl | rfl
    · exact (y.2 l (by omega)).1
    · exact (y.2 l (by omega)).2
  have lw := d.1.2.2.2.2.2.1
  have ol (k : Nat) (hk : k < 4) : olO (l : Int) hS (4 * l + k) := by
    have := lw (4 * l + k) (by omega) (by omega)
    rw [e2] at this
    exact this
  refine ⟨⟨e1, by rw [r 226 18 (by decide) (by unfold frB; omega)]; exact e2⟩, e3.cg (r 235 l (by decide) (by unfold frB; omega)) (r 236 l (by decide) (by unfold frB; omega)), by rw [r 242 l (by decide) (by unfold frB; omega)]; exact e4, e5.cg (r8 248 (Or.inl rfl)) (r8 249 (Or.inr rfl)), B, c, ?_, e7, e8⟩
  exact e6.lw ol (by omega) (by omega) (fun k hk => ⟨r 250 _ (by decide) (by unfold frB; omega), r 251 _ (by decide) (by unfold frB; omega)⟩) (fun x j h1 h2 h3 h4 => r x j (by omega) (by unfold frB; omega)) (fun j h1 h2 => ⟨r 257 j (by decide) (by unfold frB; omega), r 258 j (by decide) (by unfold frB; omega)⟩)
/-- the class leaves all as it was, if it tells a fault -/
theorem zc_read : Pc (F_X11_read n h) (fun q => q.1.toInt ≠ 0 → frZ (fun x k => (x = 0 ∧ (k = 1 ∨ k = 2)) ∨ (2 ≤ x ∧ x ≤ 22)) h q.2) := by
  have f0 := lit_0
  unfold F_X11_read
  refine Pc.bind zf_X7_readText (fun q1 f1 => ?_)
  refine Pc.eq (fun c1 => ?_) (fun c1 => ?_)
  · refine Pc.eq (fun _ => ?_) (fun c2 => absurd c1 c2)
    refine Pc.bind zf_X0_become (fun q14 _ => ?_)
    refine Pc.bind zf_X8_become (fun q16 _ => ?_)
    refine Pc.bind zf_X6_clear (fun q18 _ => ?_)
    exact Pc.bind zf_X2_clear (fun q20 _ => Pc.ret (fun z => absurd (c1.trans f0) z))
  · refine Pc.eq (fun c2 => absurd c2 c1) (fun _ => Pc.ret (fun _ => ?_))
    have g1 : frZ (fun x k => (x = 0 ∧ (k = 1 ∨ k = 2)) ∨ (2 ≤ x ∧ x ≤ 22)) h q1.2 := f1.sub (fun x k z => Or.inr z)
    exact (g1.w (Or.inl ⟨rfl, Or.inl rfl⟩)).w (Or.inl ⟨rfl, Or.inr rfl⟩)
theorem rd_env2 {h0 : Hp} (w : Iw h0) : ∃ (n1 : Nat) (q1 : Int32 × Hp) (n2 : Nat) (q2 : Int32 × Hp), F_X11_read n1 h0 = some q1 ∧ F_X12_read n2 q1.2 = some q2 ∧ q1.1 = q2.1 ∧ Iw q2.2 ∧ (q1.1.toInt = 0 → ENV q2.2) ∧ LVr q1.2 q2 := by
  have w0 := w
  obtain ⟨⟨w1, w2, w3, w4⟩, v1, v2, v3, v4⟩ := w0
  have t0 : 0 ≤ (hi h0 0 1).toInt ∧ (hi h0 0 1).toInt ≤ 2000 := w1.1 (0, 1, 0, 2000) (by decide)
  obtain ⟨m, hm⟩ : ∃ m : Nat, (hi h0 0 1).toInt = (m : Int) := ⟨(hi h0 0 1).toInt.toNat, by omega⟩
  have B : BS (tpB h0 m) m := tpB_bs (by omega)
  obtain ⟨q1, e1, ⟨i1, k1, r1, l1⟩, qt, Q, c1, c2, c3⟩ := sj_X11_read (n := 10000000000000) (by decide) w1 B v3 hm (fun i hi' => (if_pos hi').symm)
  have kdp : ∀ k, 0 ≤ (hi q1.2 229 k).toInt := fun k => by rw [(k1 229 k (by decide)).1]; exact w4 k
  have ky : KY q1.2 := fun k hk => by rw [(k1 233 k (by decide)).2]; exact v4 k hk
  have tm2 : (hi q1.2 226 2).toInt = (m : Int) := by rw [(k1 226 2 (by decide)).1, ← w3]; exact hm
  have hb2 : ∀ i, i < m → ((vp_nar .byte (hi q1.2 227 i) : Int32) &&& 255).toInt = tpB h0 m i := fun i hi' => by rw [(k1 227 i (by decide)).1, ← v2 i (by omega)]; exact (if_pos hi').symm
  obtain ⟨q2, e2, ⟨d2, k2, t2, l2, g2⟩, a1, a2, a3⟩ := sj_X12_read (n := 10000000000000) (by decide) (w2.km k1) kdp B ky tm2 hb2 Q
  have iw : Iw q2.2 := by
    refine ⟨⟨i1.kX k2, d2, Int32.toInt_inj.mp ?_, g2⟩, ?_, fun k hk => ?_, fun k hk => ?_, fun k hk => ?_⟩
    · rw [(k2 0 1 (by decide)).1, r1, t2]
    · rw [(k2 0 2 (by decide)).1]
      by_cases z : qt.1.toInt = 0
      · rw [c2 z, a3 z]
      · rw [c3 z, a2 z]
    · exfalso
      rw [(k2 0 1 (by decide)).1, r1] at hk
      omega
    · rw [(k2 19 k (by decide)).2, l1 k]
      exact v3 k hk
    · rw [l2 k, (k1 233 k (by decide)).2]
      exact v4 k hk
  refine ⟨_, q1, _, q2, e1, e2, c1.trans a1, iw, fun z => ?_, lv_read (n := 10000000000000) (by decide) (w2.km k1) kdp q2 e2⟩
  obtain ⟨qu, Q', u1, u2⟩ := cr_read (n := 10000000000000) B v3 hm (fun i hi' => (if_pos hi').symm) q1 e1
  have zu : qu.1.toInt = 0 := by rw [← u1]; exact z
  have z2 : q2.1.toInt = 0 := by rw [← c1.trans a1]; exact z
  obtain ⟨s, hs, T, cf, rf⟩ := sj_X12_read2 (n := 10000000000000) (by decide) (w2.km k1) kdp B ky tm2 hb2 Q' q2 e2 zu z2
  obtain ⟨x1, x2, x3⟩ := u2 z T cf
  have kc (a k : Nat) (l : a < 226) : hi q2.2 a k = hi q1.2 a k := (k2 a k l).1
  refine ⟨s, hs, T, ⟨cf.1, cf.2.1⟩, x1.to (fun k _ => kc 24 k (by decide)) (fun k _ _ => kc 23 k (by decide)) (kc 25 3 (by decide)) (fun k _ => kc 26 k (by decide)) (fun k _ => kc 27 k (by decide)), x2.to cf.1 (fun k _ => kc 30 k (by decide)) (fun k _ => kc 31 k (by decide)) (fun k _ => kc 32 k (by decide)) (fun k _ => kc 33 k (by decide)), rf, ?_⟩
  rw [kc 38 2 (by decide)]
  exact x3
theorem rl_env {q : Hp} (en : ENV q) (d : dI q) (ix : IX q) : RLx q := by
  obtain ⟨s, hs, T, ⟨v, vl⟩, bd, sc, rf, z38⟩ := en
  obtain ⟨r18, ⟨B, c, rd, hb⟩, rwf, ⟨z59, z65⟩, z73⟩ := rf
  obtain ⟨s1, r1⟩ := env_row v vl sc rwf
  obtain ⟨⟨d1, d2, d3, d4, d5⟩, d6, d7⟩ := rd
  have e2 : EN2 s T q := ⟨⟨hs, r18⟩, d1, d3.1, d5, B, c, d6, hb⟩
  have i38 : 0 ≤ (hi q 38 1).toInt ∧ (hi q 38 1).toInt ≤ 39 := ix.1 (38, 1, 0, 39) (by decide)
  exact ⟨s, T, ⟨v, bd, e2, SD5.of v e2 d.1.2.2.2.2.1⟩, ⟨s1, r1⟩, PST.none z38 i38.2 i38.1 z59, fun j j3 nz => absurd (z73 j j3) nz⟩
/-- read by both -/
theorem rd_rl {h0 : Hp} (w : Iz h0) (r : RLx h0) : ∃ (n1 : Nat) (q1 : Int32 × Hp) (n2 : Nat) (q2 : Int32 × Hp), F_X11_read n1 h0 = some q1 ∧ F_X12_read n2 q1.2 = some q2 ∧ q1.1 = q2.1 ∧ Iz q2.2 ∧ RLx q2.2 := by
  obtain ⟨n1, q1, n2, q2, e1, e2, e3, e4, e5, e6⟩ := rd_env2 w.1
  have f0 := lit_0
  refine ⟨n1, q1, n2, q2, e1, e2, e3, ⟨e4, ?_⟩, ?_⟩
  · have r1 : (q1.1.toInt ≠ 0 ∧ ezK h0 q1.2) ∨ (q1.1.toInt = 0 ∧ hi q1.2 201 2 = 0 ∧ hi q1.2 0 10 = 0) := ez_X11_read q1 e1
    have r2 : (q2.1.toInt ≠ 0 ∧ ezK q1.2 q2.2) ∨ (q2.1.toInt = 0 ∧ hi q2.2 226 65 = 0 ∧ (∀ k, k < 3 → hi q2.2 273 k = 0) ∧ hi q2.2 201 2 = hi q1.2 201 2 ∧ hi q2.2 0 10 = hi q1.2 0 10) := ez_X12_read q2 e2
    rw [e3] at r1
    rcases r1 with ⟨a1, a2⟩ | ⟨a1, a2, a3⟩
    · rcases r2 with ⟨b1, b2⟩ | ⟨b1, _⟩
      · exact w.2.ke (a2.tr b2)
      · exact absurd b1 a1
    · rcases r2 with ⟨b1, _⟩ | ⟨b1, b2, b3, b4, b5⟩
      · exact absurd a1 b1
      · have z2 : hi q2.2 201 2 = 0 := b4.trans a2
        refine ⟨⟨false, false, false, ?_, b3 0 (by decide), b3 1 (by decide), b3 2 (by decide)⟩, z2.trans b2.symm, by rw [z2]; omega, fun k hk => ?_⟩
        · rw [b5, a3]; decide
        · rw [z2] at hk
          exfalso; omega
  · by_cases z : q1.1.toInt = 0
    · exact rl_env (e5 z) e4.1.2.1 e4.1.1
    · obtain ⟨l, T, r⟩ := r
      have z1 := zc_read q1 e1 z
      obtain ⟨s, x, p, ⟨hs, hv⟩, y, eq⟩ := e6 (by rw [← e3]; exact z)
      have k1 (a k : Nat) (ha : 23 ≤ a) : hi q1.2 a k = hi h0 a k := z1.1 a k (by omega)
      have en1 : EN2 l T q1.2 := r.1.2.2.1.cg (fun a k h1 h2 => k1 a k (by omega)) (k1 226 18 (by decide))
      have d1 : dI q1.2 := by
        have i := w.1.1.2.1
        exact i.fr rfl (fun a k h1 _ _ => k1 a k (by omega)) (by rw [k1 226 2 (by decide)]; exact i.2.1)
      have en2 : EN2 l T q2.2 := by
        rw [eq]
        exact en1.lv d1 hs hv y
      refine ⟨l, T, r.kf en2 (fun a k h1 h2 => ?_)⟩
      rw [eq, hi_wrI, if_neg (by unfold rlC at h1; omega), y.1 a k (by unfold rlC at h1; omega) (by unfold rlC at h1; unfold frB; omega)]
      exact k1 a k (by unfold rlC at h1; omega)
end R56V
end
section
/-! WHAT BOTH HOLD: undone, held, gone on from; as both are made -/
section R56W
variable {s G c : Nat} {T : TT} {h h0 q : Hp} {n n1 n2 : Nat} {x1 x2 x3 : Int32} {f f' : Nat → Int32} {a : Nat} {q1 q2 : Int32 × Hp}
theorem ub_c (r : 0 ≤ (hi h 38 1).toInt ∧ (hi h 38 1).toInt ≤ 39) : Pc (F_X11_undo n h) (TC h) := by
  unfold F_X11_undo
  exact Pc.bind (tb_c r) (fun q1 h1 => Pc.chk (fun _ => Pc.ret h1))
/-- undone by both -/
theorem ub_rl (r : RLs s T h0) (e1 : F_X11_undo n1 h0 = some q1) (e2 : F_X12_undo n2 q1.2 = some q2) : q1.1 = q2.1 ∧ RLs s T q2.2 := by
  have z1 := zf_X11_undo q1 e1
  have z2 := zf_X12_undo q2 e2
  have k1 := frZ.hr z1 (fun x k z => by omega)
  obtain ⟨en1, sd1, e262, r59⟩ := r.ref k1
  have rg := r.rg
  obtain ⟨⟨v, bd, en, sd⟩, ⟨sc, rv⟩, ps, hd⟩ := r
  have c25 := (wg_T v).1
  have G5 := v.2.2.1.1
  have lo (a k : Nat) (l : a < 226) : hi q2.2 a k = hi q1.2 a k := z2.1 a k (by omega)
  obtain ⟨b1, b2, b3⟩ := ps.undo c25 G5 (ub_c rg q1 e1) (ub_r r59 q2 e2) k1 lo
  refine ⟨b1, ?_⟩
  rcases b3 with ⟨d1, d2⟩ | ⟨d1, d2, d3⟩
  · rw [d2]; exact ⟨⟨v, bd, en, sd⟩, ⟨sc, rv⟩, ps, hd⟩
  · have up (a k : Nat) (g : 226 ≤ a) (h1 : a ≠ 262) (h2 : ¬ (a = 226 ∧ k = 59)) : hi q2.2 a k = hi h0 a k := by
      rw [z2.1 a k (by omega), k1 a k g]
    refine ⟨⟨v, bd.at (fun y k h1 h2 => d3 y k (by omega) (by omega) (by omega)), en.cg (fun a k h1 h2 => up a k (by omega) (by omega) (by omega)) (up 226 18 (by decide) (by decide) (by omega)), fun c k hc hk => by rw [up 264 _ (by decide) (by decide) (by omega)]; exact sd c k hc hk⟩, ⟨d1, d2⟩, b2, ?_⟩
    exact hd.same c25 G5 (fun a k h1 h2 => d3 a k (by omega) (by omega) (by omega)) (fun k => up 273 k (by decide) (by decide) (by omega)) (fun k => up 274 k (by decide) (by decide) (by omega))
/-- held by both -/
theorem hd_rl (r : RLs s T h0) (e1 : F_X11_hold n1 h0 x1 = some q1) (e2 : F_X12_hold n2 q1.2 x1 = some q2) : RLs s T q2.2 := by
  have z1 := zf_X11_hold q1 e1
  have z2 := zf_X12_hold q2 e2
  have k1 := frZ.hr z1 (fun x k z => by omega)
  have r0 := r
  obtain ⟨⟨v, bd, en, sd⟩, ⟨sc, rv⟩, ps, hd⟩ := r
  have c25 := (wg_T v).1
  have G5 := v.2.2.1.1
  have lo (a k : Nat) (l : a < 226) : hi q2.2 a k = hi q1.2 a k := z2.1 a k (by omega)
  have hd' := hd.hold c25 G5 sc rv (hc_hold q1 e1) (hr_hold q2 e2) k1 lo
  have cl (a k : Nat) (h1 : a ≠ 0) (h2 : ¬ (214 ≤ a ∧ a < 226)) (h3 : a ≠ 273) (h4 : a ≠ 274) : hi q2.2 a k = hi h0 a k := by
    rw [z2.1 a k (by omega), z1.1 a k (by omega)]
  have k62 : hi q2.2 262 = hi h0 262 := funext (fun j => cl 262 j (by decide) (by decide) (by decide) (by decide))
  refine ⟨⟨v, bd.at (fun y j h1 h2 => cl y j (by omega) (by omega) (by omega) (by omega)), en.cg (fun a j h1 h2 => cl a j (by omega) (by omega) (by omega) (by omega)) (cl 226 18 (by decide) (by decide) (by decide) (by decide)), fun c j hc hj => by rw [cl 264 _ (by decide) (by decide) (by decide) (by decide)]; exact sd c j hc hj⟩, ⟨?_, ?_⟩, ?_, hd'⟩
  · rw [k62]
    exact sc.to c25 G5 (fun j _ => cl 30 j (by decide) (by decide) (by decide) (by decide)) (fun j _ => cl 31 j (by decide) (by decide) (by decide) (by decide)) (fun j _ => cl 32 j (by decide) (by decide) (by decide) (by decide)) (fun j _ => cl 33 j (by decide) (by decide) (by decide) (by decide))
  · rw [k62]; exact rv
  · exact ps.same c25 G5 (fun a j h1 h2 => cl a j (by omega) (by omega) (by omega) (by omega)) (cl 226 59 (by decide) (by decide) (by decide) (by decide)) (fun j => cl 266 j (by decide) (by decide) (by decide) (by decide))
/-- gone on from, by both -/
theorem rs_rl (w : Ie h0) (r : RLs s T h0) (e1 : F_X11_restore n1 h0 x1 = some q1) (e2 : F_X12_restore n2 q1.2 x1 = some q2) : RLs s T q2.2 := by
  have z1 := zf_X11_restore q1 e1
  have z2 := zf_X12_restore q2 e2
  have k1 := frZ.hr z1 (fun x k z => by omega)
  have eq := (rs_ie w e1 e2).1
  have r0 := r
  have rg := r.rg
  obtain ⟨⟨v, bd, en, sd⟩, ⟨sc, rv⟩, ps, hd⟩ := r
  have c25 := (wg_T v).1
  have G5 := v.2.2.1.1
  have lo (a k : Nat) (l : a < 226) : hi q2.2 a k = hi q1.2 a k := z2.1 a k (by omega)
  have n01 : (0 : Int32) ≠ 1 := by decide
  rcases sc_rest q1 e1 with ⟨a1, a2⟩ | ⟨a1, j, ⟨j3, hj⟩, a3, ⟨a4, a5, a6, a7⟩, a8⟩
  · rcases sr_rest q2 e2 with ⟨b1, b2⟩ | ⟨b1, -⟩
    · rw [b2, a2]; exact r0
    · exact absurd (a1.symm.trans (eq.trans b1)) n01
  · rcases sr_rest q2 e2 with ⟨b1, -⟩ | ⟨b1, j', ⟨j3', hj'⟩, b3, b4, b5, b6⟩
    · exact absurd (b1.symm.trans (eq.symm.trans a1)) n01
    · have ej : j' = j := by omega
      subst ej
      rw [k1 273 j' (by decide)] at b3
      obtain ⟨s1, r1⟩ := hd j' j3 b3
      have row (k : Nat) (hk : k < 63) : hi q2.2 262 k = rwU h0 274 j' k := (b5 k hk).trans (k1 274 _ (by decide))
      have up (a k : Nat) (g : 226 ≤ a) (h1 : a ≠ 262) (h2 : ¬ (a = 226 ∧ k = 59)) : hi q2.2 a k = hi h0 a k := by
        rw [z2.1 a k (by omega), k1 a k g]
      have dn (a k : Nat) (l : a < 226) (h1 : ¬ (a = 38 ∧ k = 2)) (h2 : ¬ (30 ≤ a ∧ a ≤ 33)) : hi q2.2 a k = hi h0 a k := by
        rw [lo a k l, a8 a k h1 h2]
      refine ⟨⟨v, bd.at (fun y k h1 h2 => dn y k (by omega) (by omega) (by omega)), en.cg (fun a k h1 h2 => up a k (by omega) (by omega) (by omega)) (up 226 18 (by decide) (by decide) (by omega)), fun c k hc hk => by rw [up 264 _ (by decide) (by decide) (by omega)]; exact sd c k hc hk⟩, ⟨?_, ?_⟩, ?_, ?_⟩
      · refine (s1.to c25 G5 (b := 30) (fun k hk => ?_) (fun k hk => ?_) (fun k hk => ?_) (fun k hk => ?_)).cg c25 G5 row
        · rw [lo 30 k (by decide)]; exact a4 k hk
        · rw [lo 31 k (by decide)]; exact a5 k hk
        · rw [lo 32 k (by decide)]; exact a6 k hk
        · rw [lo 33 k (by decide)]; exact a7 k hk
      · exact r1.cg G5 (fun k hk => row k (by omega))
      · refine PST.none ?_ ?_ ?_ b4
        · rw [lo 38 2 (by decide)]; exact a3
        · rw [dn 38 1 (by decide) (by omega) (by omega)]; exact rg.2
        · rw [dn 38 1 (by decide) (by omega) (by omega)]; exact rg.1
      · exact hd.same c25 G5 (fun a k h1 h2 => dn a k (by omega) (by omega) (by omega)) (fun k => up 273 k (by decide) (by decide) (by omega)) (fun k => up 274 k (by decide) (by decide) (by omega))
end R56W
/-! as both are made -/
theorem fd505 : (hi hk_505 24 0 = 4 ∧ hi hk_505 24 1 = 4) ∧ (∀ i, i < 32 → bt (hi hk_505 24 2) i = decide (i < 4 * 4)) ∧ ∀ i, i < 32 → bt (hi hk_505 24 3) i = decide (i % 4 = 0 ∧ i < 4 * 4) := by decide +kernel
theorem lw505 : (hi hk_505 23 2 = 0 ∧ hi hk_505 23 3 = 0 ∧ hi hk_505 23 4 = 0) ∧ hi hk_505 25 3 = 4 ∧ (hi hk_505 26 0 = 0 ∧ hi hk_505 26 1 = -15 ∧ hi hk_505 26 2 = 1 ∧ hi hk_505 26 3 = -15) ∧ hi hk_505 27 0 = 0 ∧ hi hk_505 27 1 = 2 ∧ hi hk_505 27 2 = 0 ∧ hi hk_505 27 3 = 2 := by decide +kernel
theorem sc505 : (hi hk_505 30 0 = 0 ∧ hi hk_505 30 1 = 0 ∧ hi hk_505 30 2 = 0 ∧ hi hk_505 30 3 = 0) ∧ hi hk_505 38 2 = 0 ∧ 0 ≤ (hi hk_505 38 1).toInt ∧ (hi hk_505 38 1).toInt ≤ 39 := by decide +kernel
theorem rwY : (∀ k, k < 63 → hi hk_Y 262 k = 0) ∧ hi hk_Y 248 0 = 0 ∧ hi hk_Y 249 0 = 0 := by decide +kernel
theorem rlxY : RLx hk_Y := by
  obtain ⟨t1, -, -, ⟨t7, t8, t9⟩, t10⟩ := tlY
  obtain ⟨y2, y59, y65, y1, y73⟩ := fl505
  obtain ⟨⟨a0, a1⟩, a2, a3⟩ := fd505
  obtain ⟨⟨b2, b3, b4⟩, b5, ⟨c0, c1, c2, c3⟩, d0, d1, d2, d3⟩ := lw505
  obtain ⟨⟨g0, g1, g2, g3⟩, g4, g5, g6⟩ := sc505
  obtain ⟨r0, r1, r2⟩ := rwY
  have f0 := lit_0
  have f2 := lit_2
  have f4 := lit_4
  have rf (k : Nat) (n : ¬ (k = 55 ∨ k = 56)) : hi hk_Y 226 k = hi hk_505 226 k := t1 226 k (by decide) (by decide) (by decide) (by omega) (by unfold plW; omega) (by unfold plW; omega)
  have ra (a k : Nat) (n : a < 226 ∨ a = 229 ∨ 265 ≤ a) : hi hk_Y a k = hi hk_505 a k := t1 a k (by omega) (by omega) (by omega) (by omega) (by unfold plW; omega) (by unfold plW; omega)
  have w4 : wT TT0 = 4 := rfl
  have h4 : gT TT0 = 4 := rfl
  have l0 : TT0.go.length = 0 := rfl
  have i18 : hi hk_Y 226 18 = 0 := (rf 18 (by decide)).trans y18
  have en : EN2 0 TT0 hk_Y := by
    refine ⟨⟨Nat.zero_le 1, by rw [i18]; exact f0⟩, ⟨t7, t8⟩, by rw [t9]; rfl, ⟨by rw [r1]; exact f0, by rw [r2]; exact f0⟩, 0, 0, fun k hk => ⟨fun _ => ?_, fun b hb => (nsn (show none = some b from hb)).elim⟩, Nat.zero_le _, Nat.zero_le _⟩
    rw [show 4 * 0 + k = k by omega]
    exact t10 k hk
  have od (k : Nat) (hk : k < 4) : ∃ p : Nat, (hi hk_Y 27 k).toInt = (p : Int) ∧ clO (hi hk_Y 26) 4 p (lawD TT0.la k).1 (lawD TT0.la k).2 := by
    have q (i : Nat) : hi hk_Y 26 i = hi hk_505 26 i := ra 26 i (by decide)
    have q7 (i : Nat) : hi hk_Y 27 i = hi hk_505 27 i := ra 27 i (by decide)
    have : k = 0 ∨ k = 1 ∨ k = 2 ∨ k = 3 := by omega
    rcases this with rfl | rfl | rfl | rfl
    · exact ⟨0, by rw [q7, d0]; exact f0, ⟨(q 0).trans c0, (q 1).trans c1, trivial⟩, by decide⟩
    · exact ⟨2, by rw [q7, d1]; exact f2, ⟨(q 2).trans c2, (q 3).trans c3, trivial⟩, by decide⟩
    · exact ⟨0, by rw [q7, d2]; exact f0, ⟨(q 0).trans c0, (q 1).trans c1, trivial⟩, by decide⟩
    · exact ⟨2, by rw [q7, d3]; exact f2, ⟨(q 2).trans c2, (q 3).trans c3, trivial⟩, by decide⟩
  have bd : BDF TT0 23 hk_Y := by
    refine ⟨⟨?_, ?_, fun i hi' => ?_, fun i hi' => ?_⟩, ⟨?_, ?_, ?_⟩, 4, ?_, by decide, od⟩
    · rw [ra 24 0 (by decide), a0]; exact f4
    · rw [ra 24 1 (by decide), a1]; exact f4
    · rw [ra 24 2 (by decide)]; exact a2 i hi'
    · rw [ra 24 3 (by decide)]; exact a3 i hi'
    · rw [ra 23 2 (by decide), b2]; exact f0
    · rw [ra 23 3 (by decide), b3]; exact f0
    · rw [ra 23 4 (by decide), b4]; exact f0
    · rw [ra 25 3 (by decide), b5]; exact f4
  refine ⟨0, TT0, ⟨vt0, bd, en, SD5.of vt0 en iwY.1.2.1.1.2.2.2.2.1⟩, ⟨⟨⟨?_, ?_, ?_⟩, fun b hb => ?_, fun b hb z => ?_, fun k hk => ?_⟩, fun b hb => ?_, fun b hb z => ?_, fun k hk => ?_, fun k h1 h2 => ⟨r0 _ (by omega), r0 _ (by omega)⟩⟩, PST.none ?_ ?_ ?_ ?_, fun j hj nz => ?_⟩
  · rw [ra 30 0 (by decide), g0, r0 61 (by decide)]
  · rw [ra 30 1 (by decide), g1, r0 62 (by decide)]
  · rw [ra 30 2 (by decide), g2, r0 50 (by decide)]
  · rw [ra 30 3 (by decide), g3, bt_zero]
    refine ⟨fun z => absurd z (by decide), fun z => ?_⟩
    have := z.2
    rw [r0 b (by omega)] at this
    omega
  · rw [r0 b (by rw [w4, h4] at hb; omega)] at z
    exfalso; omega
  · exact absurd hk (Nat.not_lt_zero k)
  · rw [r0 b (by omega)]
    exact ⟨fun _ => f0, by omega, fun z => by exfalso; omega⟩
  · rw [r0 50 (by decide), bt_zero] at z
    exact absurd z (by decide)
  · exact absurd hk (Nat.not_lt_zero k)
  · rw [ra 38 2 (by decide)]; exact g4
  · rw [ra 38 1 (by decide)]; exact g6
  · rw [ra 38 1 (by decide)]; exact g5
  · rw [rf 59 (by decide)]; exact y59
  · exact absurd ((ra 273 j (by decide)).trans (y73 j hj)) nz
end
section
/-! WHAT IS KEPT BETWEEN CALLS, all of it -/
def Ir (h : Hp) : Prop := Iz h ∧ RLx h
theorem irY : Ir hk_Y := ⟨izY, rlxY⟩
section R56X
variable {h0 : Hp} {A : Nat → Option (Int32 × Hp)} {B : Nat → Hp → Option (Int32 × Hp)}
theorem rlx_of {P : Prop} {q : Hp} (w : RLx h0) (f : ∀ s T, RLs s T h0 → P ∧ RLs s T q) : P ∧ RLx q := by
  obtain ⟨s, T, r⟩ := w
  exact ⟨(f s T r).1, s, T, (f s T r).2⟩
theorem rlx_ke {q : Hp} (w : RLx h0) (k : rlK h0 q) : RLx q := by
  obtain ⟨s, T, r⟩ := w
  exact ⟨s, T, r.ke k⟩
theorem pr_mk (w : Ir h0) (e : ∃ (n1 : Nat) (q1 : Int32 × Hp) (n2 : Nat) (q2 : Int32 × Hp), A n1 = some q1 ∧ B n2 q1.2 = some q2 ∧ Iz q2.2) (a : ∀ n q, A n = some q → rlK h0 q.2) (b : ∀ n h q, B n h = some q → rlK h q.2) : ∃ (n1 : Nat) (q1 : Int32 × Hp) (n2 : Nat) (q2 : Int32 × Hp), A n1 = some q1 ∧ B n2 q1.2 = some q2 ∧ Ir q2.2 := by
  obtain ⟨n1, q1, n2, q2, e1, e2, e3⟩ := e
  exact ⟨n1, q1, n2, q2, e1, e2, e3, rlx_ke w.2 ((a n1 q1 e1).tr (b n2 q1.2 q2 e2))⟩
theorem pr_ask (w : Ir h0) (e : ∃ (n1 : Nat) (q1 : Int32 × Hp) (n2 : Nat) (q2 : Int32 × Hp), A n1 = some q1 ∧ B n2 q1.2 = some q2 ∧ Iz q2.2) (a : ∀ n q, A n = some q → rlK h0 q.2) (b : ∀ n h q, B n h = some q → rlK h q.2) (c : ∀ n1 n2 q1 q2, A n1 = some q1 → B n2 q1.2 = some q2 → q1.1 = q2.1) : ∃ (n1 : Nat) (q1 : Int32 × Hp) (n2 : Nat) (q2 : Int32 × Hp), A n1 = some q1 ∧ B n2 q1.2 = some q2 ∧ q1.1 = q2.1 ∧ Ir q2.2 := by
  obtain ⟨n1, q1, n2, q2, e1, e2, e3⟩ := e
  exact ⟨n1, q1, n2, q2, e1, e2, c n1 n2 q1 q2 e1 e2, e3, rlx_ke w.2 ((a n1 q1 e1).tr (b n2 q1.2 q2 e2))⟩
theorem pr_own (e : ∃ (n1 : Nat) (q1 : Int32 × Hp) (n2 : Nat) (q2 : Int32 × Hp), A n1 = some q1 ∧ B n2 q1.2 = some q2 ∧ Iz q2.2) (c : ∀ n1 n2 q1 q2, A n1 = some q1 → B n2 q1.2 = some q2 → q1.1 = q2.1 ∧ RLx q2.2) : ∃ (n1 : Nat) (q1 : Int32 × Hp) (n2 : Nat) (q2 : Int32 × Hp), A n1 = some q1 ∧ B n2 q1.2 = some q2 ∧ q1.1 = q2.1 ∧ Ir q2.2 := by
  obtain ⟨n1, q1, n2, q2, e1, e2, e3⟩ := e
  have k := c n1 n2 q1 q2 e1 e2
  exact ⟨n1, q1, n2, q2, e1, e2, k.1, e3, k.2⟩
theorem pr_hd (e : ∃ (n1 : Nat) (q1 : Int32 × Hp) (n2 : Nat) (q2 : Int32 × Hp), A n1 = some q1 ∧ B n2 q1.2 = some q2 ∧ Iz q2.2) (c : ∀ n1 n2 q1 q2, A n1 = some q1 → B n2 q1.2 = some q2 → RLx q2.2) : ∃ (n1 : Nat) (q1 : Int32 × Hp) (n2 : Nat) (q2 : Int32 × Hp), A n1 = some q1 ∧ B n2 q1.2 = some q2 ∧ Ir q2.2 := by
  obtain ⟨n1, q1, n2, q2, e1, e2, e3⟩ := e
  exact ⟨n1, q1, n2, q2, e1, e2, e3, c n1 n2 q1 q2 e1 e2⟩
theorem pr_no (h : ∃ (n1 : Nat) (q1 : Int32 × Hp) (n2 : Nat) (q2 : Int32 × Hp), A n1 = some q1 ∧ B n2 q1.2 = some q2 ∧ q1.1 = q2.1 ∧ Ir q2.2) : ∃ (n1 : Nat) (q1 : Int32 × Hp) (n2 : Nat) (q2 : Int32 × Hp), A n1 = some q1 ∧ B n2 q1.2 = some q2 ∧ Ir q2.2 := by
  obtain ⟨n1, q1, n2, q2, a, b, -, c⟩ := h
  exact ⟨n1, q1, n2, q2, a, b, c⟩
theorem pr_rd {h0 : Hp} (w : Ir h0) : ∃ (n1 : Nat) (q1 : Int32 × Hp) (n2 : Nat) (q2 : Int32 × Hp), F_X11_read n1 h0 = some q1 ∧ F_X12_read n2 q1.2 = some q2 ∧ q1.1 = q2.1 ∧ Ir q2.2 := rd_rl w.1 w.2
end R56X
end
