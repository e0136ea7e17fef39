/-! EACH CASE: both come to their end, and keep what they keep -/
section PU
variable {h0 : Hp} {o : Option (Int32 × Hp)}
theorem ofJ (a : Ok o (fun q => J h0 q.2 ∧ True)) : Ok o (fun q => J h0 q.2) := a.mono (fun _ q => q.1)
theorem ofQ (w : Iw h0) (a : Ok o (fun q => q.2 = h0 ∧ True)) : Ok o (fun q => J h0 q.2) := a.mono (fun _ q => by rw [q.1]; exact jS w)
theorem ofA (d : dI h0) (a : Ok o (fun q => jA h0 q.2 ∧ True)) : Ok o (fun q => dP h0 q.2) := a.mono (fun _ q => dP.ask d q.1)
theorem ofB (d : dI h0) (a : Ok o (fun q => q.2 = h0 ∧ True)) : Ok o (fun q => dP h0 q.2) := a.mono (fun _ q => by rw [q.1]; exact dP.rf d)
theorem pu_mk (w : Iw h0) {A : Nat → Option (Int32 × Hp)} {B : Nat → Hp → Option (Int32 × Hp)} (N : Nat) (a : Ok (A N) (fun q => J h0 q.2)) (b : ∀ h1, dI h1 → Ok (B N h1) (fun q => dP h1 q.2)) : ∃ (n1 : Nat) (q1 : Int32 × Hp) (n2 : Nat) (q2 : Int32 × Hp), A n1 = some q1 ∧ B n2 q1.2 = some q2 ∧ Iw q2.2 := by
  obtain ⟨q1, e1, j1⟩ := a
  obtain ⟨⟨w1, w2, w3, w4⟩, v1, v2, v3, v4⟩ := w
  have d1 := w2.km j1.2.1
  obtain ⟨q2, e2, d2, k2, ⟨t2, p2⟩, l2, g2⟩ := b q1.2 d1
  have m (a k : Nat) (h : 226 ≤ a) := j1.2.1 a k h
  have e01 : hi q2.2 0 1 = hi h0 0 1 := (k2 0 1 (by decide)).1.trans j1.2.2.1
  refine ⟨N, q1, N, q2, e1, e2, ⟨j1.1.kX k2, d2, ?_, fun k => ?_⟩, ?_, fun k hk => ?_, fun k hk => ?_, fun k hk => ?_⟩
  · rw [e01, t2, (m 226 2 (by decide)).1]
    exact w3
  · rw [(g2 k).1, (m 229 k (by decide)).1]
    exact w4 k
  · rw [(k2 0 2 (by decide)).1, j1.2.2.2.1, p2, (m 226 17 (by decide)).1]
    exact v1
  · rw [e01] at hk
    rw [(k2 1 k (by decide)).1, j1.2.2.2.2.1, (g2 k).2, (m 227 k (by decide)).1]
    exact v2 k hk
  · rw [(k2 19 k (by decide)).2, j1.2.2.2.2.2]
    exact v3 k hk
  · rw [l2, (m 233 k (by decide)).2]
    exact v4 k hk
end PU
theorem bk_same {t x v1 t1 v2 t2 : Int32} (a : bkR t x v1 t1) (b : bkR t x v2 t2) : v1 = v2 ∧ t1 = t2 := by
  unfold bkR at a b
  exact ⟨Int32.toInt_inj.mp (by omega), Int32.toInt_inj.mp (by omega)⟩
/-- the tape is written by both -/
theorem tp_iw {h0 : Hp} {q1 q2 : Int32 × Hp} (w : Iw h0) (i1 : IX q1.2) (k1 : kM h0 q1.2) (f1 : kF h0 q1.2) (t2 : tpP q1.2 q2.2) (e : hi q1.2 0 1 = hi q2.2 226 2) (b : ∀ k : Nat, (k : Int) < (hi q1.2 0 1).toInt → hi q1.2 1 k = hi q2.2 227 k) : Iw q2.2 := by
  obtain ⟨⟨w1, w2, w3, w4⟩, v1, v2, v3, v4⟩ := w
  obtain ⟨t1, k2, p2, l2, g2⟩ := t2
  refine ⟨⟨i1.kX k2, t1, (k2 0 1 (by decide)).1.trans e, fun k => ?_⟩, ?_, fun k hk => ?_, fun k hk => ?_, fun k hk => ?_⟩
  · rw [g2 k, (k1 229 k (by decide)).1]
    exact w4 k
  · rw [(k2 0 2 (by decide)).1, f1.1, p2, (k1 226 17 (by decide)).1]
    exact v1
  · rw [(k2 0 1 (by decide)).1] at hk
    rw [(k2 1 k (by decide)).1]
    exact b k hk
  · rw [(k2 19 k (by decide)).2, f1.2 k]
    exact v3 k hk
  · rw [l2 k, (k1 233 k (by decide)).2]
    exact v4 k hk
theorem fd_iw {h0 : Hp} (w : Iw h0) {x1 x2 x3 x4 x5 : Int32} : ∃ (n1 : Nat) (q1 : Int32 × Hp) (n2 : Nat) (q2 : Int32 × Hp), F_X11_feed n1 h0 x1 x2 x3 x4 x5 = some q1 ∧ F_X12_feed n2 q1.2 x1 x2 x3 x4 x5 = some q2 ∧ q1.1 = q2.1 ∧ Iw q2.2 := by
  obtain ⟨⟨w1, w2, w3, w4⟩, v1, v2, v3, v4⟩ := w
  have w : Iw h0 := ⟨⟨w1, w2, w3, w4⟩, v1, v2, v3, v4⟩
  -- the class first; the reference then runs on the heap that it leaves
  obtain ⟨qa, ea, -, -, ⟨ia, ka, fa⟩, -⟩ := fd_both (n := 10) (h' := h0) (x1 := x1) (x2 := x2) (x3 := x3) (x4 := x4) (x5 := x5) (by decide) w1 w3 v2
  obtain ⟨q1, e1, q2, e2, ⟨i1, k1, f1⟩, lt, s1, s2, s3, s4⟩ := fd_both (n := 10) (h' := qa.2) (x1 := x1) (x2 := x2) (x3 := x3) (x4 := x4) (x5 := x5) (by decide) w1 (by rw [(ka 226 2 (by decide)).1]; exact w3) (fun k hk => by rw [(ka 227 k (by decide)).1]; exact v2 k hk)
  have eq : qa = q1 := Option.some.inj (ea.symm.trans e1)
  subst eq
  exact ⟨10, qa, 10, q2, ea, e2, s1, tp_iw w ia ka fa (lt.dI s3 (w2.km ka)) s2 s4⟩
theorem bk_iw {h0 : Hp} (w : Iw h0) {x1 : Int32} : ∃ (n1 : Nat) (q1 : Int32 × Hp) (n2 : Nat) (q2 : Int32 × Hp), F_X11_back n1 h0 x1 = some q1 ∧ F_X12_back n2 q1.2 x1 = some q2 ∧ q1.1 = q2.1 ∧ Iw q2.2 := by
  obtain ⟨⟨w1, w2, w3, w4⟩, v1, v2, v3, v4⟩ := w
  have w : Iw h0 := ⟨⟨w1, w2, w3, w4⟩, v1, v2, v3, v4⟩
  obtain ⟨q1, e1, ⟨i1, k1, f1, t1⟩, r1⟩ := sf_X11_back (n := 10) (x1 := x1) w1
  obtain ⟨q2, e2, ⟨t2, u2⟩, r2⟩ := sf_X12_back (n := 10) (x1 := x1) (w2.km k1)
  rw [(k1 226 2 (by decide)).1, ← w3] at r2
  have e := bk_same r1 r2
  refine ⟨10, q1, 10, q2, e1, e2, e.1, tp_iw w i1 k1 f1 t2 e.2 (fun k hk => ?_)⟩
  rw [t1 k, u2 k, (k1 227 k (by decide)).1]
  refine v2 k ?_
  unfold bkR at r1
  have t0 : 0 ≤ (hi h0 0 1).toInt ∧ (hi h0 0 1).toInt ≤ 2000 := w1.1 (0, 1, 0, 2000) (by decide)
  omega
theorem no_eq {P : (Int32 × Hp) → (Int32 × Hp) → Prop} {A : Nat → Option (Int32 × Hp)} {B : Nat → Hp → Option (Int32 × Hp)} (h : ∃ (n1 : Nat) (q1 : Int32 × Hp) (n2 : Nat) (q2 : Int32 × Hp), A n1 = some q1 ∧ B n2 q1.2 = some q2 ∧ q1.1 = q2.1 ∧ Iw q2.2) : ∃ (n1 : Nat) (q1 : Int32 × Hp) (n2 : Nat) (q2 : Int32 × Hp), A n1 = some q1 ∧ B n2 q1.2 = some q2 ∧ Iw q2.2 := by
  obtain ⟨n1, q1, n2, q2, a, b, -, c⟩ := h
  exact ⟨n1, q1, n2, q2, a, b, c⟩
theorem pu_feed : PU_feed := fun h0 hG w x1 x2 x3 x4 x5 => no_eq (P := fun _ _ => True) (A := fun n => F_X11_feed n h0 x1 x2 x3 x4 x5) (B := fun n h => F_X12_feed n h x1 x2 x3 x4 x5) (fd_iw w)
theorem pu_back : PU_back := fun h0 hG w x1 => no_eq (P := fun _ _ => True) (A := fun n => F_X11_back n h0 x1) (B := fun n h => F_X12_back n h x1) (bk_iw w)
theorem pu_read : PU_read := fun h0 hG w => no_eq (P := fun _ _ => True) (A := fun n => F_X11_read n h0) (B := fun n h => F_X12_read n h) (rd_both w)
theorem pu_place : PU_place := by
  intro h0 hG w
  exact ⟨10, (hi h0 0 2, h0), 10, (hi h0 226 17, h0), rfl, rfl, w.2.1, w⟩
theorem pu_cell : PU_cell := fun h0 hG w x1 x2 => pu_mk w (A := fun n => F_X11_cell n h0 x1 x2) (B := fun n h => F_X12_cell n h x1 x2) 10000000000000 (ofJ (sf_X11_cell (h0 := h0) 10000000000000 h0 x1 x2 (by decide) (jS w))) (fun h1 d => ofA d (sf_X12_cell (h0 := h1) d.1 10000000000000 h1 x1 x2 (by decide) (jA.of d)))
theorem pu_goer : PU_goer := fun h0 hG w x1 x2 => pu_mk w (A := fun n => F_X11_goer n h0 x1 x2) (B := fun n h => F_X12_goer n h x1 x2) 10000000000000 (ofJ (sf_X11_goer (h0 := h0) 10000000000000 h0 x1 x2 (by decide) (jS w))) (fun h1 d => ofA d (sf_X12_goer (h0 := h1) d.1 10000000000000 h1 x1 x2 (by decide) (jA.of d)))
theorem pu_mow : PU_mow := fun h0 hG w x1 => pu_mk w (A := fun n => F_X11_mow n h0 x1) (B := fun n h => F_X12_mow n h x1) 10000000000000 (ofJ (sf_X11_mow (h0 := h0) 10000000000000 h0 x1 (by decide) (jS w))) (fun h1 d => sd_mow d 10000000000000 x1 (by decide))
theorem pu_rope : PU_rope := fun h0 hG w x1 x2 _ => pu_mk w (A := fun n => F_X11_rope n h0 x1 x2) (B := fun n h => F_X12_rope n h x1 x2) 10000000000000 (ofJ (sf_X11_rope (h0 := h0) 10000000000000 h0 x1 x2 (by decide) (jS w))) (fun h1 d => sd_rope d 10000000000000 x1 x2 (by decide))
theorem pu_carry : PU_carry := fun h0 hG w x1 x2 => pu_mk w (A := fun n => F_X11_carry n h0 x1 x2) (B := fun n h => F_X12_carry n h x1 x2) 10000000000000 (ofJ (sf_X11_carry (h0 := h0) 10000000000000 h0 x1 x2 (by decide) (jS w))) (fun h1 d => sd_carry d 10000000000000 x1 x2 (by decide))
theorem pu_beats : PU_beats := fun h0 hG w x1 => pu_mk w (A := fun n => F_X11_beats n h0 x1) (B := fun n h => F_X12_beats n h x1) 10000000000000 (ofJ (sf_X11_beats (h0 := h0) 10000000000000 h0 x1 (by decide) (jS w))) (fun h1 d => sd_beats d 10000000000000 x1 (by decide))
theorem pu_undo : PU_undo := fun h0 hG w => pu_mk w (A := fun n => F_X11_undo n h0) (B := fun n h => F_X12_undo n h) 10000000000000 (ofJ (sf_X11_undo (h0 := h0) 10000000000000 h0 (by decide) (jS w))) (fun h1 d => sd_undo d 10000000000000 (by decide))
theorem pu_next : PU_next := fun h0 hG w x1 => pu_mk w (A := fun n => F_X11_next n h0 x1) (B := fun n h => F_X12_next n h x1) 10000000000000 (ofQ w (sf_X11_next (h0 := h0) 10000000000000 h0 x1 (by decide) (jS w))) (fun h1 d => ofA d (sf_X12_next (h0 := h1) d.1 10000000000000 h1 x1 (by decide) (jA.of d)))
theorem pu_together : PU_together := fun h0 hG w x1 x2 => pu_mk w (A := fun n => F_X11_together n h0 x1 x2) (B := fun n h => F_X12_together n h x1 x2) 10000000000000 (ofQ w (sf_X11_together (h0 := h0) 10000000000000 h0 x1 x2 (by decide) (jS w))) (fun h1 d => ofA d (sf_X12_together (h0 := h1) d.1 10000000000000 h1 x1 x2 (by decide) (jA.of d)))
theorem pu_way : PU_way := fun h0 hG w x1 x2 x3 => pu_mk w (A := fun n => F_X11_way n h0 x1 x2 x3) (B := fun n h => F_X12_way n h x1 x2 x3) 10000000000000 (ofJ (sf_X11_way (h0 := h0) 10000000000000 h0 x1 x2 x3 (by decide) (jS w))) (fun h1 d => ofA d (sf_X12_way (h0 := h1) d.1 10000000000000 h1 x1 x2 x3 (by decide) (jA.of d)))
theorem pu_leave : PU_leave := fun h0 hG w x1 x2 x3 => pu_mk w (A := fun n => F_X11_leave n h0 x1 x2 x3) (B := fun n h => F_X12_leave n h x1 x2 x3) 10000000000000 (ofJ (sf_X11_leave (h0 := h0) 10000000000000 h0 x1 x2 x3 (by decide) (jS w))) (fun h1 d => ofA d (sf_X12_leave (h0 := h1) d.1 10000000000000 h1 x1 x2 x3 (by decide) (jA.of d)))
theorem pu_mows : PU_mows := fun h0 hG w x1 x2 x3 x4 => pu_mk w (A := fun n => F_X11_mows n h0 x1 x2 x3 x4) (B := fun n h => F_X12_mows n h x1 x2 x3 x4) 10000000000000 (ofJ (sf_X11_mows (h0 := h0) 10000000000000 h0 x1 x2 x3 x4 (by decide) (jS w))) (fun h1 d => ofA d (sf_X12_mows (h0 := h1) d.1 10000000000000 h1 x1 x2 x3 x4 (by decide) (jA.of d)))
theorem pu_part : PU_part := fun h0 hG w x1 x2 => pu_mk w (A := fun n => F_X11_part n h0 x1 x2) (B := fun n h => F_X12_part n h x1 x2) 10000000000000 (ofJ (sf_X11_part (h0 := h0) 10000000000000 h0 x1 x2 (by decide) (jS w))) (fun h1 d => ofA d (sf_X12_part (h0 := h1) d.1 10000000000000 h1 x1 x2 (by decide) (jA.of d)))
theorem pu_meet : PU_meet := fun h0 hG w x1 x2 x3 => pu_mk w (A := fun n => F_X11_meet n h0 x1 x2 x3) (B := fun n h => F_X12_meet n h x1 x2 x3) 10000000000000 (ofJ (sf_X11_meet (h0 := h0) 10000000000000 h0 x1 x2 x3 (by decide) (jS w))) (fun h1 d => ofA d (sf_X12_meet (h0 := h1) d.1 10000000000000 h1 x1 x2 x3 (by decide) (jA.of d)))
theorem pu_returns : PU_returns := fun h0 hG w x1 => pu_mk w (A := fun n => F_X11_returns n h0 x1) (B := fun n h => F_X12_returns n h x1) 10000000000000 (ofJ (sf_X11_returns (h0 := h0) 10000000000000 h0 x1 (by decide) (jS w))) (fun h1 d => ofA d (sf_X12_returns (h0 := h1) d.1 10000000000000 h1 x1 (by decide) (jA.of d)))
theorem pu_never : PU_never := fun h0 hG w x1 => pu_mk w (A := fun n => F_X11_never n h0 x1) (B := fun n h => F_X12_never n h x1) 10000000000000 (ofJ (sf_X11_never (h0 := h0) 10000000000000 h0 x1 (by decide) (jS w))) (fun h1 d => ofA d (sf_X12_never (h0 := h1) d.1 10000000000000 h1 x1 (by decide) (jA.of d)))
theorem pu_stood : PU_stood := fun h0 hG w x1 x2 x3 => pu_mk w (A := fun n => F_X11_stood n h0 x1 x2 x3) (B := fun n h => F_X12_stood n h x1 x2 x3) 10000000000000 (ofJ (sf_X11_stood (h0 := h0) 10000000000000 h0 x1 x2 x3 (by decide) (jS w))) (fun h1 d => ofA d (sf_X12_stood (h0 := h1) d.1 10000000000000 h1 x1 x2 x3 (by decide) (jA.of d)))
theorem pu_loud : PU_loud := fun h0 hG w x1 => pu_mk w (A := fun n => F_X11_loud n h0 x1) (B := fun n h => F_X12_loud n h x1) 10000000000000 (ofQ w (sf_X11_loud (h0 := h0) 10000000000000 h0 x1 (by decide) (jS w))) (fun h1 d => ofA d (sf_X12_loud (h0 := h1) d.1 10000000000000 h1 x1 (by decide) (jA.of d)))
theorem pu_silence : PU_silence := fun h0 hG w x1 => pu_mk w (A := fun n => F_X11_silence n h0 x1) (B := fun n h => F_X12_silence n h x1) 10000000000000 (ofQ w (sf_X11_silence (h0 := h0) 10000000000000 h0 x1 (by decide) (jS w))) (fun h1 d => ofA d (sf_X12_silence (h0 := h1) d.1 10000000000000 h1 x1 (by decide) (jA.of d)))
theorem pu_chorus : PU_chorus := fun h0 hG w x1 => pu_mk w (A := fun n => F_X11_chorus n h0 x1) (B := fun n h => F_X12_chorus n h x1) 10000000000000 (ofQ w (sf_X11_chorus (h0 := h0) 10000000000000 h0 x1 (by decide) (jS w))) (fun h1 d => ofA d (sf_X12_chorus (h0 := h1) d.1 10000000000000 h1 x1 (by decide) (jA.of d)))
theorem pu_period : PU_period := fun h0 hG w => pu_mk w (A := fun n => F_X11_period n h0) (B := fun n h => F_X12_period n h) 10000000000000 (ofQ w (sf_X11_period (h0 := h0) 10000000000000 h0 (by decide) (jS w))) (fun h1 d => ofB d (sf_X12_period (h0 := h1) d.1 10000000000000 h1 (by decide) (jA.of d)))
theorem pu_centre : PU_centre := fun h0 hG w x1 => pu_mk w (A := fun n => F_X11_centre n h0 x1) (B := fun n h => F_X12_centre n h x1) 10000000000000 (ofQ w (sf_X11_centre (h0 := h0) 10000000000000 h0 x1 (by decide) (jS w))) (fun h1 d => ofA d (sf_X12_centre (h0 := h1) d.1 10000000000000 h1 x1 (by decide) (jA.of d)))
theorem pu_far : PU_far := fun h0 hG w x1 x2 => pu_mk w (A := fun n => F_X11_far n h0 x1 x2) (B := fun n h => F_X12_far n h x1 x2) 10000000000000 (ofQ w (sf_X11_far (h0 := h0) 10000000000000 h0 x1 x2 (by decide) (jS w))) (fun h1 d => ofA d (sf_X12_far (h0 := h1) d.1 10000000000000 h1 x1 x2 (by decide) (jA.of d)))
theorem pu_pairs : PU_pairs := fun h0 hG w x1 => pu_mk w (A := fun n => F_X11_pairs n h0 x1) (B := fun n h => F_X12_pairs n h x1) 10000000000000 (ofJ (sf_X11_pairs (h0 := h0) 10000000000000 h0 x1 (by decide) (jS w))) (fun h1 d => ofA d (sf_X12_pairs (h0 := h1) d.1 10000000000000 h1 x1 (by decide) (jA.of d)))
theorem pu_then : PU_then := fun h0 hG w x1 x2 x3 => pu_mk w (A := fun n => F_X11_then n h0 x1 x2 x3) (B := fun n h => F_X12_then n h x1 x2 x3) 10000000000000 (ofJ (sf_X11_then (h0 := h0) 10000000000000 h0 x1 x2 x3 (by decide) (jS w))) (fun h1 d => ofA d (sf_X12_then (h0 := h1) d.1 10000000000000 h1 x1 x2 x3 (by decide) (jA.of d)))
theorem pu_tunesIn : PU_tunesIn := fun h0 hG w x1 => pu_mk w (A := fun n => F_X11_tunesIn n h0 x1) (B := fun n h => F_X12_tunesIn n h x1) 10000000000000 (ofJ (sf_X11_tunesIn (h0 := h0) 10000000000000 h0 x1 (by decide) (jS w))) (fun h1 d => ofA d (sf_X12_tunesIn (h0 := h1) d.1 10000000000000 h1 x1 (by decide) (jA.of d)))
theorem pu_year : PU_year := fun h0 hG w x1 x2 x3 => pu_mk w (A := fun n => F_X11_year n h0 x1 x2 x3) (B := fun n h => F_X12_year n h x1 x2 x3) 10000000000000 (ofJ (sf_X11_year (h0 := h0) 10000000000000 h0 x1 x2 x3 (by decide) (jS w))) (fun h1 d => ofA d (sf_X12_year (h0 := h1) d.1 10000000000000 h1 x1 x2 x3 (by decide) (jA.of d)))
theorem pu_tell : PU_tell := fun h0 hG w x1 x2 _ => pu_mk w (A := fun n => F_X11_tell n h0 x1 x2) (B := fun n h => F_X12_tell n h x1 x2) 10000000000000 (ofJ (sf_X11_tell (h0 := h0) 10000000000000 h0 x1 x2 (by decide) (jS w))) (fun h1 d => sd_tell d 10000000000000 x1 x2 (by decide))
theorem pu_forget : PU_forget := fun h0 hG w => pu_mk w (A := fun n => F_X11_forget n h0) (B := fun n h => F_X12_forget n h) 10000000000000 (ofJ (sf_X11_forget (h0 := h0) 10000000000000 h0 (by decide) (jS w))) (fun h1 d => sd_forget d 10000000000000)
theorem pu_fits : PU_fits := fun h0 hG w x1 x2 => pu_mk w (A := fun n => F_X11_fits n h0 x1 x2) (B := fun n h => F_X12_fits n h x1 x2) 10000000000000 (ofQ w (sf_X11_fits (h0 := h0) 10000000000000 h0 x1 x2 (by decide) (jS w))) (fun h1 d => ofB d (sa_X12_fits (h0 := h1) d.1 10000000000000 h1 x1 x2 (by decide) (jA.of d)))
theorem pu_listen : PU_listen := fun h0 hG w x1 => pu_mk w (A := fun n => F_X11_listen n h0 x1) (B := fun n h => F_X12_listen n h x1) 10000000000000 (ofQ w (sf_X11_listen (h0 := h0) 10000000000000 h0 x1 (by decide) (jS w))) (fun h1 d => ofB d (sa_X12_listen (h0 := h1) d.1 10000000000000 h1 x1 (by decide) (jA.of d)))
theorem pu_hold : PU_hold := fun h0 hG w x1 => pu_mk w (A := fun n => F_X11_hold n h0 x1) (B := fun n h => F_X12_hold n h x1) 10000000000000 (ofJ (sf_X11_hold (h0 := h0) 10000000000000 h0 x1 (by decide) (jS w))) (fun h1 d => (sd_hold d 10000000000000 x1 (by decide)).mono (fun _ q => q.1))
theorem pu_restore : PU_restore := fun h0 hG w x1 => pu_mk w (A := fun n => F_X11_restore n h0 x1) (B := fun n h => F_X12_restore n h x1) 10000000000000 (ofJ (sf_X11_restore (h0 := h0) 10000000000000 h0 x1 (by decide) (jS w))) (fun h1 d => sd_restore d 10000000000000 x1 (by decide))
theorem pu_count : PU_count := fun h0 hG w x1 => pu_mk w (A := fun n => F_X11_count n h0 x1) (B := fun n h => F_X12_count n h x1) 10000000000000 (ofJ (sf_X11_count (h0 := h0) 10000000000000 h0 x1 (by decide) (jS w))) (fun h1 d => ofA d (sf_X12_count (h0 := h1) d.1 10000000000000 h1 x1 (by decide) (jA.of d)))
