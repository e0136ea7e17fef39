/-! TUNES SPREAD, in the class; and many beats -/
theorem bt_low {x : Int32} (h : x ≠ 0) : ∃ i, i < 32 ∧ bt x i = true ∧ ∀ m, m < i → bt x m = false := by
  obtain ⟨j0, k1, k2⟩ := bt_ne h
  have key : ∀ j, bt x j = true → ∃ i, i ≤ j ∧ bt x i = true ∧ ∀ m, m < i → bt x m = false := by
    intro j
    induction j using Nat.strongRecOn with
    | ind j ih =>
      intro hj
      by_cases y : ∃ m, m < j ∧ bt x m = true
      · obtain ⟨m, m1, m2⟩ := y
        obtain ⟨i, i1, i2, i3⟩ := ih m m1 m2
        exact ⟨i, by omega, i2, i3⟩
      · refine ⟨j, Nat.le_refl j, hj, fun m hm => ?_⟩
        cases e : bt x m with
        | false => rfl
        | true => exact absurd ⟨m, hm, e⟩ y
  obtain ⟨i, i1, i2, i3⟩ := key j0 k2
  exact ⟨i, by omega, i2, i3⟩
theorem cntB_skip {f : Nat → Bool} {p i : Nat} (h : p ≤ i) (z : ∀ m, p ≤ m → m < i → f m = false) : cntB f i = cntB f p := by
  obtain ⟨d, hd⟩ : ∃ d, i = p + d := ⟨i - p, by omega⟩
  rw [hd, cntB_add, cntB_no d (fun m hm => z (p + m) (by omega) (by omega)), Nat.add_zero]
section R56Q
variable {f : Nat → Int32} {a : Nat} {h h0 : Hp} {n : Nat} {T : TT} {G : Nat} {l2 l3 l5 x2 x3 : Int32}
theorem spI_d {p : Nat} : ∀ d, (∀ i, p ≤ i → i < p + d → snF T f i = false) → ∀ k, spI T f (p + d) k = spI T f p k := by
  intro d
  induction d with
  | zero => intro _ k; rfl
  | succ d ih => intro z k; exact (spI_n (z (p + d) (by omega) (by omega)) k).trans (ih (fun i h1 h2 => z i h1 (by omega)) k)
theorem spI_fin {p : Nat} (z : ∀ i, p ≤ i → snF T f i = false) (k : Nat) : spF T f k = spI T f p k := by
  unfold spI spF
  by_cases y1 : (1 ≤ k ∧ k < 25) ∧ snF T f (k - 1) = true
  · have lt : k - 1 < p := by
      by_cases w : k - 1 < p
      · exact w
      · have := z (k - 1) (by omega)
        rw [this] at y1
        exact absurd y1.2 (by decide)
    rw [if_pos y1, if_pos ⟨⟨y1.1.1, y1.1.2, lt⟩, y1.2⟩]
  · have m1 : ¬ ((1 ≤ k ∧ k < 25 ∧ k - 1 < p) ∧ snF T f (k - 1) = true) := fun w => y1 ⟨⟨w.1.1, w.1.2.1⟩, w.2⟩
    rw [if_neg y1, if_neg m1]
    by_cases y2 : (26 ≤ k ∧ k < 50) ∧ snF T f (k - 26) = true
    · have lt : k - 26 < p := by
        by_cases w : k - 26 < p
        · exact w
        · have := z (k - 26) (by omega)
          rw [this] at y2
          exact absurd y2.2 (by decide)
      rw [if_pos y2, if_pos ⟨⟨y2.1.1, y2.1.2, lt⟩, y2.2⟩]
      unfold offF
      rw [show 25 + (k - 26) = k - 1 by omega]
    · have m2 : ¬ ((26 ≤ k ∧ k < 50 ∧ k - 26 < p) ∧ snF T f (k - 26) = true) := fun w => y2 ⟨⟨w.1.1, w.1.2.1⟩, w.2⟩
      rw [if_neg y2, if_neg m2]
theorem RVR.so {c : Nat} (x : RVR c G f) (c25 : c ≤ 25) (G5 : G ≤ 5) {b : Nat} (hb : b < c) (y2 : 2 ≤ x2.toInt ∧ x2.toInt ≤ 6) (z2 : 0 ≤ x3.toInt ∧ x3.toInt < x2.toInt) : RVR c G (upF (upF f b x2) (25 + b) x3) := by
  obtain ⟨x1, x2', x3', x4⟩ := x
  refine ⟨fun i hi' => ?_, fun i hi' => ?_, fun k hk => ?_, fun k h1 h2 => ?_⟩
  · by_cases z : i = b
    · rw [z, upF_n (show b ≠ 25 + b by omega), upF_e, upF_e]
      exact ⟨fun w => by exfalso; omega, by omega, fun _ => ⟨y2, z2⟩⟩
    · rw [upF_n (show i ≠ 25 + b by omega), upF_n z, upF_n (show 25 + i ≠ 25 + b by omega), upF_n (show 25 + i ≠ b by omega)]
      exact x1 i hi'
  · rw [upF_n (by omega), upF_n (by omega)]; exact x2' i hi'
  · rw [upF_n (by omega), upF_n (by omega), upF_n (by omega), upF_n (by omega)]; exact x3' k hk
  · rw [upF_n (by omega), upF_n (by omega), upF_n (by omega), upF_n (by omega)]; exact x4 k h1 h2
theorem sn_lt {b : Nat} (z : snF T f b = true) : b < wT T * gT T := (wl_qt (sn_wl z)).1.1
theorem sn_no (v : VT T) {b : Nat} (z : 25 ≤ b) : snF T f b = false := by
  have c25 := (wg_T v).1
  cases e : snF T f b with
  | false => rfl
  | true => have := sn_lt e; exfalso; omega
theorem spr_112 (v : VT T) (G5 : G ≤ 5) : ∀ (n : Nat) (h : Hp) (l4 l6 : Int32) (p : Nat), 0 ≤ l6.toInt → l6.toInt ≤ p → p ≤ 32 → SCR (wT T * gT T) G (spI T f p) a h → RVR (wT T * gT T) G (spI T f p) → (∀ j, j < 32 → bt l4 j = (decide (p + 1 ≤ j) && snF T f (j - 1))) → Pc (W_X0_spread n 112 h 23 a l2 l3 l4 l5 l6) (SCR (wT T * gT T) G (spF T f) a) := by
  intro n
  have c25 := (wg_T v).1
  induction n with
  | zero => intro h l4 l6 p a1 a2 a3 sc rv bits; exact Pc.no
  | succ n ih =>
    intro h l4 l6 p a1 a2 a3 sc rv bits
    have f0 := lit_0
    have f1 := lit_1
    have f25 := lit_25
    have fin (z : ∀ i, p ≤ i → snF T f i = false) : SCR (wT T * gT T) G (spF T f) a h := sc.cg c25 G5 (fun k _ => spI_fin z k)
    rw [u_X0_spread]
    refine Pc.neg (by decide) (Pc.pos rfl ?_)
    refine Pc.le (fun z => Pc.ret (fin (fun i hi' => sn_no v (by omega)))) (fun z => ?_)
    refine Pc.ite (fun e0 => Pc.ret (fin (fun i hi' => ?_))) (fun e0 => ?_)
    · by_cases y : i < 25
      · have := bits (i + 1) (by omega)
        rw [e0, bt_zero, decide_eq_true (show p + 1 ≤ i + 1 by omega), Bool.true_and] at this
        exact this.symm
      · exact sn_no v (by omega)
    · obtain ⟨j, j32, j1, j2⟩ := bt_low e0
      have b1 := bits j j32
      rw [j1] at b1
      have b2 : p + 1 ≤ j ∧ snF T f (j - 1) = true := by
        have := b1.symm
        rw [Bool.and_eq_true, decide_eq_true_eq] at this
        exact this
      obtain ⟨i, hi'⟩ : ∃ i, j = i + 1 := ⟨j - 1, by omega⟩
      subst hi'
      have sn : snF T f i = true := b2.2
      have nn : ∀ m, p ≤ m → m < i → snF T f m = false := by
        intro m h1 h2
        have := bits (m + 1) (by omega)
        rw [j2 (m + 1) (by omega), decide_eq_true (show p + 1 ≤ m + 1 by omega), Bool.true_and] at this
        exact this.symm
      have wl := sn_wl sn
      have ic := wl_in v wl
      obtain ⟨⟨q1, q2⟩, -, -⟩ := wl_qt wl
      obtain ⟨p1, p2, p3⟩ := spI_at (T := T) (f := f) (i := i) (by omega) q2
      have eqI (k : Nat) : spI T f i k = spI T f p k := by
        obtain ⟨d, hd⟩ : ∃ d, i = p + d := ⟨i - p, by omega⟩
        subst hd
        exact spI_d d nn k
      have scI := sc.cg (g := spI T f i) c25 G5 (fun k _ => eqI k)
      have rvI := rv.cg (g := spI T f i) G5 (fun k _ => eqI k)
      have r3 := (rvI.1 i (by omega)).2.2
      rw [p1, p2] at r3
      have r4 := r3 q2
      have a5 := adT (f (25 + i)) 1 (by omega) (by omega)
      have rg := rmG (f (25 + i) + 1) (f i) (by omega) q2
      refine Pc.bind pc_lowest (fun q14 h14 => ?_)
      obtain ⟨t1, -, t3⟩ := h14
      have hx := t3 (i + 1) j32 j1 j2
      rw [t1]
      refine Pc.bind (sl_c scI rvI c25 G5 (b := i) ic (by rw [p1]; exact q2) hx) (fun q16 h16 => ?_)
      have off : offF (spI T f i) i = offF f i := by
        unfold offF
        rw [p1, p2]
      rw [p1, off] at h16
      have eqS (k : Nat) : spI T f (i + 1) k = upF (upF (spI T f i) (i + 1) (f i)) (25 + (i + 1)) (offF f i) k := by
        rw [show 25 + (i + 1) = i + 26 by omega]
        exact spI_s (by omega) sn k
      have rvS : RVR (wT T * gT T) G (upF (upF (spI T f i) (i + 1) (f i)) (25 + (i + 1)) (offF f i)) := rvI.so c25 G5 ic r4.1 rg
      have a6 := adT l6 1 (by omega) (by omega)
      refine ih q16 _ (l6 + 1) (i + 1) (by omega) (by omega) (by omega) (h16.cg c25 G5 (fun k _ => eqS k)) (rvS.cg G5 (fun k _ => eqS k)) (fun j hj => ?_)
      rw [lo_clr j32 j1 j2 j]
      by_cases y : j = i + 1
      · rw [decide_eq_true y, decide_eq_false (show ¬ i + 1 + 1 ≤ j by omega), Bool.not_true, Bool.and_false, Bool.false_and]
      · rw [decide_eq_false y, Bool.not_false, Bool.and_true]
        by_cases y2 : j < i + 1
        · rw [j2 j y2, decide_eq_false (show ¬ i + 1 + 1 ≤ j by omega), Bool.false_and]
        · rw [bits j hj, decide_eq_true (show p + 1 ≤ j by omega), decide_eq_true (show i + 1 + 1 ≤ j by omega)]
theorem spI_0 (k : Nat) : spI T f 0 k = f k := by
  unfold spI
  rw [if_neg (by omega), if_neg (by omega)]
theorem sn_of {b : Nat} (z : wlF T f b = false) : snF T f b = false := by
  unfold snF
  rw [z]
  rfl
theorem spr_30 (v : VT T) (ha : 30 ≤ a) (G5 : G ≤ 5) (rv : RVR (wT T * gT T) G f) (hs : l2.toInt = T.ws.2) : ∀ (n : Nat) (h : Hp) (l3 l4 l5 l6 : Int32) (p : Nat), 0 ≤ l6.toInt → l6.toInt ≤ p → p ≤ 32 → BDF T 23 h → SCR (wT T * gT T) G f a h → l3.toInt = 8 - (tnN T f : Int) - (cntB (wlF T f) p : Int) → (∀ j, j < 32 → bt l5 j = (decide (p ≤ j) && qtF T f j)) → (∀ j, j < 32 → bt l4 j = (decide (1 ≤ j) && (decide (j - 1 < p) && snF T f (j - 1)))) → Pc (W_X0_spread n 30 h 23 a l2 l3 l4 l5 l6) (SCR (wT T * gT T) G (spF T f) a) := by
  intro n
  have c25 := (wg_T v).1
  induction n with
  | zero => intro h l3 l4 l5 l6 p a1 a2 a3 bd sc b3 b5 b4; exact Pc.no
  | succ n ih =>
    intro h l3 l4 l5 l6 p a1 a2 a3 bd sc b3 b5 b4
    have f0 := lit_0
    have f1 := lit_1
    have fm := lit_m1
    have f2 := lit_2
    have f25 := lit_25
    have c1 := cntB_le (fun i => decide (0 < (f i).toInt)) (wT T * gT T)
    have c2 := cntB_le (wlF T f) p
    have tn : tnN T f ≤ wT T * gT T := c1
    have fin (z : ∀ i, p ≤ i → snF T f i = false) : Pc (W_X0_spread n 112 h 23 a l2 l3 l4 l5 0) (SCR (wT T * gT T) G (spF T f) a) := by
      refine spr_112 v G5 n h l4 0 0 (by omega) (by omega) (by decide) (sc.cg c25 G5 (fun k _ => spI_0 k)) (rv.cg G5 (fun k _ => spI_0 k)) (fun j hj => ?_)
      rw [b4 j hj]
      by_cases y : 1 ≤ j
      · rw [decide_eq_true y, Bool.true_and, Bool.true_and]
        by_cases y2 : j - 1 < p
        · rw [decide_eq_true y2, Bool.true_and]
        · rw [decide_eq_false y2, Bool.false_and, z (j - 1) (by omega)]
      · rw [decide_eq_false y, Bool.false_and, Bool.false_and]
    have qn (i : Nat) (z : qtF T f i = false) : wlF T f i = false := by
      unfold wlF
      rw [z]
      rfl
    rw [u_X0_spread]
    refine Pc.pos rfl ?_
    refine Pc.le (fun z => fin (fun i hi' => sn_no v (by omega))) (fun z => ?_)
    refine Pc.ite (fun e0 => fin (fun i hi' => ?_)) (fun e0 => ?_)
    · by_cases y : i < 25
      · have := b5 i (by omega)
        rw [e0, bt_zero, decide_eq_true (show p ≤ i by omega), Bool.true_and] at this
        exact sn_of (qn i this.symm)
      · exact sn_no v (by omega)
    refine Pc.le (fun z3 => fin (fun i hi' => ?_)) (fun z3 => ?_)
    · have := cntB_mono (wlF T f) hi'
      unfold snF
      rw [decide_eq_false (show ¬ tnN T f + cntB (wlF T f) i < 8 by omega), Bool.and_false]
    obtain ⟨i, i32, i1, i2⟩ := bt_low e0
    have b1 := b5 i i32
    rw [i1] at b1
    have pq : p ≤ i ∧ qtF T f i = true := by
      have := b1.symm
      rw [Bool.and_eq_true, decide_eq_true_eq] at this
      exact this
    have nq : ∀ m, p ≤ m → m < i → wlF T f m = false := by
      intro m h1 h2
      have := b5 m (by omega)
      rw [i2 m h2, decide_eq_true h1, Bool.true_and] at this
      exact qn m this.symm
    have ic : i < wT T * gT T := by
      have := pq.2
      unfold qtF at this
      simp only [Bool.and_eq_true, decide_eq_true_eq] at this
      exact this.1.1
    have ci : cntB (wlF T f) i = cntB (wlF T f) p := cntB_skip pq.1 nq
    have e1 : cntB (wlF T f) (i + 1) = cntB (wlF T f) i + (wlF T f i).toNat := rfl
    have a6 := adT l6 1 (by omega) (by omega)
    have b5' : ∀ j, j < 32 → bt (l5 &&& (l5 - 1)) j = (decide (i + 1 ≤ j) && qtF T f j) := by
      intro j hj
      rw [lo_clr i32 i1 i2 j]
      by_cases y : j = i
      · rw [decide_eq_true y, decide_eq_false (show ¬ i + 1 ≤ j by omega), Bool.not_true, Bool.and_false, Bool.false_and]
      · rw [decide_eq_false y, Bool.not_false, Bool.and_true]
        by_cases y2 : j < i
        · rw [i2 j y2, decide_eq_false (show ¬ i + 1 ≤ j by omega), Bool.false_and]
        · rw [b5 j hj, decide_eq_true (show p ≤ j by omega), decide_eq_true (show i + 1 ≤ j by omega)]
    -- nothing spreads from here
    have nx (h' : Hp) (bd' : BDF T 23 h') (sc' : SCR (wT T * gT T) G f a h') (no : wlF T f i = false) : Pc (W_X0_spread n 30 h' 23 a l2 l3 l4 (l5 &&& (l5 - 1)) (l6 + 1)) (SCR (wT T * gT T) G (spF T f) a) := by
      refine ih h' l3 l4 _ (l6 + 1) (i + 1) (by omega) (by omega) (by omega) bd' sc' ?_ b5' (fun j hj => ?_)
      · rw [e1, no, ci]
        exact b3
      · rw [b4 j hj]
        by_cases y : j - 1 < p
        · rw [decide_eq_true y, decide_eq_true (show j - 1 < i + 1 by omega)]
        · by_cases y2 : j - 1 < i + 1
          · have ns : snF T f (j - 1) = false := by
              by_cases y3 : j - 1 = i
              · rw [y3]; exact sn_of no
              · exact sn_of (nq (j - 1) (by omega) (by omega))
            simp only [ns, Bool.and_false]
          · rw [decide_eq_false y, decide_eq_false y2]
    refine Pc.bind pc_lowest (fun q4 h4 => ?_)
    obtain ⟨t1, -, t3⟩ := h4
    have hx := t3 i i32 i1 i2
    rw [t1]
    refine Pc.bind (we_c (f := f) bd (b := i) (by omega) sc.1.1 hx hs) (fun q6 h6 => ?_)
    obtain ⟨t4, t5⟩ := h6
    rw [t4, t5]
    by_cases w : wetF T f i = true
    · rw [if_pos w]
      refine Pc.ite (fun y => absurd y (by decide)) (fun _ => ?_)
      refine Pc.bind (fun y e => And.intro (as_c v bd sc rv ha (b := i) ic hx (k := 2) (by decide) f2 (x4 := 0) (x5 := 0) y e) (zf_X0_ask y e)) (fun q9 h9 => ?_)
      obtain ⟨t6, z9⟩ := h9
      have r9 (x j : Nat) (n1 : x ≠ 28) (n2 : x ≠ 29) : hi q9.2 x j = hi h x j := z9.1 x j (by omega)
      have sc9 : SCR (wT T * gT T) G f a q9.2 := sc.to c25 G5 (fun j _ => r9 a j (by omega) (by omega)) (fun j _ => r9 (a + 1) j (by omega) (by omega)) (fun j _ => r9 (a + 2) j (by omega) (by omega)) (fun j _ => r9 (a + 3) j (by omega) (by omega))
      have bd9 : BDF T 23 q9.2 := bd.at (fun y k h1 h2 => r9 y k (by omega) (by omega))
      refine Pc.le (fun y => nx q9.2 bd9 sc9 ?_) (fun y => ?_)
      · unfold wlF
        rw [decide_eq_false (show ¬ 0 < (lwT T f i 0 0 2).toInt by rw [← t6]; omega), Bool.and_false, Bool.and_false]
      have yes : wlF T f i = true := by
        unfold wlF
        rw [pq.2, w, decide_eq_true (show 0 < (lwT T f i 0 0 2).toInt by rw [← t6]; omega)]
        rfl
      have sn : snF T f i = true := by
        unfold snF
        rw [yes, decide_eq_true (show tnN T f + cntB (wlF T f) i < 8 by omega)]
        rfl
      generalize ey : l3 + (-1) = y7
      have a7 := adG ey rfl fm (by omega) (by omega)
      have a8 := adT q4.1 1 (by omega) (by omega)
      have ya : (true : Bool).toNat = 1 := rfl
      refine ih q9.2 _ _ _ (l6 + 1) (i + 1) (by omega) (by omega) (by omega) bd9 sc9 ?_ b5' (fun j hj => ?_)
      · rw [e1, yes, ci, ya]
        omega
      · rw [bt_add (v := i + 1) (by omega) (by omega), b4 j hj]
        by_cases y1 : j = i + 1
        · rw [y1, decide_eq_true (show i + 1 = i + 1 from rfl), decide_eq_true (show 1 ≤ i + 1 by omega), decide_eq_true (show i + 1 - 1 < i + 1 by omega), show i + 1 - 1 = i by omega, sn, Bool.or_true]
          rfl
        · rw [decide_eq_false y1, Bool.or_false]
          by_cases y : j - 1 < p
          · rw [decide_eq_true y, decide_eq_true (show j - 1 < i + 1 by omega)]
          · by_cases y0 : 1 ≤ j
            · by_cases y2 : j - 1 < i + 1
              · have ns : snF T f (j - 1) = false := sn_of (nq (j - 1) (by omega) (by omega))
                simp only [ns, Bool.and_false]
              · rw [decide_eq_false y, decide_eq_false y2]
            · rw [decide_eq_false y0, Bool.false_and, Bool.false_and]
    · rw [if_neg w]
      refine Pc.ite (fun _ => nx h bd sc ?_) (fun y => absurd rfl y)
      unfold wlF
      rw [Bool.eq_false_iff.mpr w, Bool.false_and, Bool.and_false]
theorem spr_c (v : VT T) (ha : 30 ≤ a) (G5 : G ≤ 5) (bd : BDF T 23 h) (sc : SCR (wT T * gT T) G f a h) (rv : RVR (wT T * gT T) G f) (hs : x2.toInt = T.ws.2) : Pc (F_X0_spread n h 23 a x2) (SCR (wT T * gT T) G (spF T f) a) := by
  have c25 := (wg_T v).1
  have f0 := lit_0
  have f8 := lit_8
  unfold F_X0_spread
  refine Pc.bind pc_bits (fun q18 h18 => ?_)
  obtain ⟨t1, t2⟩ := h18
  rw [t1]
  refine Pc.bind (qt_c v bd sc rv) (fun q20 h20 => ?_)
  obtain ⟨t3, t4⟩ := h20
  rw [t3]
  rw [cn_c sc c25] at t2
  have c1 := cntB_le (fun i => decide (0 < (f i).toInt)) (wT T * gT T)
  have s1 := sbT 8 q18.1 (by omega) (by omega)
  refine spr_30 v ha G5 rv hs n h _ 0 _ 0 0 (by omega) (by omega) (by decide) bd sc ?_ (fun j hj => ?_) (fun j hj => ?_)
  · show (8 - q18.1 : Int32).toInt = 8 - (cntB (fun i => decide (0 < (f i).toInt)) (wT T * gT T) : Int) - ((0 : Nat) : Int)
    omega
  · rw [t4 j hj, decide_eq_true (Nat.zero_le j), Bool.true_and]
  · rw [bt_zero, decide_eq_false (Nat.not_lt_zero (j - 1)), Bool.false_and, Bool.and_false]
theorem gn_2 (v : VT T) (ha : 30 ≤ a) {m : Nat} (hm : l2.toInt = (m : Int)) : ∀ (n : Nat) (f : Nat → Int32) (h : Hp) (l3 : Int32) (i : Nat), l3.toInt = (i : Int) → i ≤ m → BDF T 23 h → SCR (wT T * gT T) T.go.length f a h → RVR (wT T * gT T) T.go.length f → Pc (W_X0_goOn n 2 h 23 a l2 l3) (fun q => SCR (wT T * gT T) T.go.length (itB T (m - i) f) a q ∧ RVR (wT T * gT T) T.go.length (itB T (m - i) f)) := by
  intro n
  have c25 := (wg_T v).1
  have G5 := v.2.2.1.1
  induction n with
  | zero => intro f h l3 i e1 e2 bd sc rv; exact Pc.no
  | succ n ih =>
    intro f h l3 i e1 e2 bd sc rv
    have f1 := lit_1
    have rl := l2.toInt_lt
    rw [u_X0_goOn]
    refine Pc.pos rfl ?_
    refine Pc.le (fun z => Pc.ret ?_) (fun z => ?_)
    · rw [show m - i = 0 by omega]
      exact ⟨sc, rv⟩
    have a1 := adT l3 1 (by omega) (by omega)
    refine Pc.bind (fun y e => And.intro (wk_c v ha bd sc rv y e) (zf_X0_walk y e)) (fun q2 h2 => ?_)
    obtain ⟨⟨s2, r2⟩, z2⟩ := h2
    have bd2 : BDF T 23 q2 := bd.at (fun y k h1 h2 => z2.1 y k (by omega))
    refine Pc.bind (fun y e => And.intro (spr_c v ha G5 bd2 s2 r2 bd2.2.1.2.2 y e) (zf_X0_spread y e)) (fun q4 h4 => ?_)
    obtain ⟨s4, z4⟩ := h4
    have bd4 : BDF T 23 q4 := bd2.at (fun y k h1 h2 => z4.1 y k (by omega))
    have := ih (beF T f) q4 (l3 + 1) (i + 1) (by omega) (by omega) bd4 s4 (rv.be v)
    rw [show m - i = m - (i + 1) + 1 by omega]
    exact this
theorem gn_c (v : VT T) (ha : 30 ≤ a) {m : Nat} (hm : x2.toInt = (m : Int)) (bd : BDF T 23 h) (sc : SCR (wT T * gT T) T.go.length f a h) (rv : RVR (wT T * gT T) T.go.length f) : Pc (F_X0_goOn n h 23 a x2) (fun q => SCR (wT T * gT T) T.go.length (itB T m f) a q ∧ RVR (wT T * gT T) T.go.length (itB T m f)) := by
  unfold F_X0_goOn
  exact gn_2 v ha hm n f h 0 0 lit_0 (Nat.zero_le _) bd sc rv
end R56Q
