/-! ASKS, alike in both: count -/
def smF (f : Nat → Int32) : Nat → Int32
  | 0 => 0
  | k + 1 => smF f k + f (56 + k)
def csF (T : TT) (f : Nat → Int32) : Nat → Int32
  | 0 => 0
  | k + 1 => if 0 < (f k).toInt then csF T f k + coF T f k else csF T f k
theorem smF_z {f : Nat → Int32} {G : Nat} : ∀ d, (∀ k, G ≤ k → k < G + d → f (56 + k) = 0) → smF f (G + d) = smF f G := by
  intro d
  induction d with
  | zero => intro _; rfl
  | succ d ih =>
    intro z
    show smF f (G + d) + f (56 + (G + d)) = _
    rw [z (G + d) (by omega) (by omega), ih (fun k h1 h2 => z k h1 (by omega)), Int32.add_zero]
theorem csF_z {T : TT} {f : Nat → Int32} {c : Nat} : ∀ d, (∀ k, c ≤ k → k < c + d → ¬ 0 < (f k).toInt) → csF T f (c + d) = csF T f c := by
  intro d
  induction d with
  | zero => intro _; rfl
  | succ d ih =>
    intro z
    show (if 0 < (f (c + d)).toInt then csF T f (c + d) + coF T f (c + d) else csF T f (c + d)) = _
    rw [if_neg (z (c + d) (by omega) (by omega)), ih (fun k h1 h2 => z k h1 (by omega))]
section RYD
variable {s G c : Nat} {T : TT} {h h0 q g : Hp} {n n1 n2 : Nat} {x1 x2 x3 : Int32} {f : Nat → Int32} {a : Nat}
theorem mi_4 (G5 : G ≤ 5) (sc : SCR c G f 30 h) (hG : (hi h 23 2).toInt = (G : Int)) : ∀ (n : Nat) (l1 l2 : Int32) (i : Nat), l2.toInt = (i : Int) → i ≤ G → l1 = smF f i → Pc (W_X11_movedInAll n 4 h l1 l2) (fun q => q.1 = smF f G) := by
  intro n
  induction n with
  | zero => intro l1 l2 i e1 e2 b; exact Pc.no
  | succ n ih =>
    intro l1 l2 i e1 e2 b
    have f1 := lit_1
    have f5 := lit_5
    rw [u_X11_movedInAll]
    refine Pc.pos rfl ?_
    have fin (z : G ≤ i) : l1 = smF f G := by
      have : i = G := by omega
      rw [← this]
      exact b
    refine Pc.le (fun z => Pc.ret (fin (by omega))) (fun z => Pc.le (fun z2 => Pc.ret (fin (by omega))) (fun z2 => Pc.chk (fun _ => ?_)))
    have n1 := ncT (show 0 ≤ l2.toInt by omega)
    have n2 : Int32.toNatClampNeg l2 = i := by omega
    have a1 := adT l2 1 (by omega) (by omega)
    have s2 : hi h 33 i = f (56 + i) := (sc.2.2.2 i (by omega)).2
    rw [n2, s2]
    exact ih _ (l2 + 1) (i + 1) (by omega) (by omega) (by rw [b]; rfl)
theorem em_4 (G5 : G ≤ 5) (sc : SCR c G f 30 h) (hG : (hi h 23 2).toInt = (G : Int)) : ∀ (n : Nat) (l1 l2 : Int32) (i : Nat), l2.toInt = (i : Int) → i ≤ G → (∀ j, j < 32 → bt l1 j = (decide (j < i) && decide (0 < (f (56 + j)).toInt))) → Pc (W_X11_everMoved n 4 h l1 l2) (fun q => ∀ j, j < 32 → bt q.1 j = (decide (j < G) && decide (0 < (f (56 + j)).toInt))) := by
  intro n
  induction n with
  | zero => intro l1 l2 i e1 e2 b; exact Pc.no
  | succ n ih =>
    intro l1 l2 i e1 e2 b
    have f0 := lit_0
    have f1 := lit_1
    have f5 := lit_5
    rw [u_X11_everMoved]
    refine Pc.pos rfl ?_
    have fin (z : G ≤ i) : ∀ j, j < 32 → bt l1 j = (decide (j < G) && decide (0 < (f (56 + j)).toInt)) := by
      have : i = G := by omega
      rw [← this]
      exact b
    refine Pc.le (fun z => Pc.ret (fin (by omega))) (fun z => Pc.le (fun z2 => Pc.ret (fin (by omega))) (fun z2 => Pc.chk (fun _ => ?_)))
    have n1 := ncT (show 0 ≤ l2.toInt by omega)
    have n2 : Int32.toNatClampNeg l2 = i := by omega
    have a1 := adT l2 1 (by omega) (by omega)
    have s2 : hi h 33 i = f (56 + i) := (sc.2.2.2 i (by omega)).2
    rw [n2, s2]
    have st (y : Bool) (hy : y = decide (0 < (f (56 + i)).toInt)) (l1' : Int32) (hl : ∀ j, j < 32 → bt l1' j = (bt l1 j || (y && decide (j = i)))) : ∀ j, j < 32 → bt l1' j = (decide (j < i + 1) && decide (0 < (f (56 + j)).toInt)) := by
      intro j hj
      rw [hl j hj, b j hj]
      by_cases w : j = i
      · rw [w, hy, decide_eq_false (Nat.lt_irrefl i), decide_eq_true (show i < i + 1 by omega), decide_eq_true (show i = i from rfl), Bool.false_and, Bool.false_or, Bool.and_true, Bool.true_and]
      · rw [decide_eq_false w, Bool.and_false, Bool.or_false]
        by_cases w2 : j < i
        · rw [decide_eq_true w2, decide_eq_true (show j < i + 1 by omega)]
        · rw [decide_eq_false w2, decide_eq_false (show ¬ j < i + 1 by omega)]
    refine Pc.le (fun z3 => ?_) (fun z3 => ?_)
    · exact ih _ (l2 + 1) (i + 1) (by omega) (by omega) (st false (decide_eq_false (by omega)).symm _ (fun j hj => by rw [Bool.false_and, Bool.or_false]))
    · exact ih _ (l2 + 1) (i + 1) (by omega) (by omega) (st true (decide_eq_true (by omega)).symm _ (fun j hj => by rw [bt_add e1 (by omega), Bool.true_and]))
theorem ec_4 (v : VT T) (e : EN2 s T h) : ∀ (n : Nat) (l2 l3 : Int32) (i : Nat), l3.toInt = (i : Int) → i ≤ T.go.length → (∀ j, j < 32 → bt l2 j = (decide (j < i) && decide (0 < (hi h 263 (56 + j)).toInt))) → Pc (W_X12_count n 321 h x1 l2 l3) (fun q => ∀ j, j < 32 → bt q.1 j = (decide (j < T.go.length) && decide (0 < (hi h 263 (56 + j)).toInt))) := by
  intro n
  have G5 := v.2.2.1.1
  have hG := e.2.2.1
  induction n with
  | zero => intro l2 l3 i e1 e2 b; exact Pc.no
  | succ n ih =>
    intro l2 l3 i e1 e2 b
    have f0 := lit_0
    have f1 := lit_1
    have f56 := lit_56
    rw [u_X12_count, e.nc]
    refine Pc.pos rfl (Pc.chk (fun _ => ?_))
    refine Pc.le (fun z => Pc.ret ?_) (fun z => Pc.chk (fun _ => ?_))
    · have : i = T.go.length := by omega
      rw [← this]
      exact b
    have a1 := adT l3 1 (by omega) (by omega)
    have a2 := adT 56 l3 (by omega) (by omega)
    have n3 := ncT (show 0 ≤ (56 + l3).toInt by omega)
    have n4 : Int32.toNatClampNeg (56 + l3) = 56 + i := by omega
    rw [n4]
    have st (y : Bool) (hy : y = decide (0 < (hi h 263 (56 + i)).toInt)) (l1' : Int32) (hl : ∀ j, j < 32 → bt l1' j = (bt l2 j || (y && decide (j = i)))) : ∀ j, j < 32 → bt l1' j = (decide (j < i + 1) && decide (0 < (hi h 263 (56 + j)).toInt)) := by
      intro j hj
      rw [hl j hj, b j hj]
      by_cases w : j = i
      · rw [w, hy, decide_eq_false (Nat.lt_irrefl i), decide_eq_true (show i < i + 1 by omega), decide_eq_true (show i = i from rfl), Bool.false_and, Bool.false_or, Bool.and_true, Bool.true_and]
      · rw [decide_eq_false w, Bool.and_false, Bool.or_false]
        by_cases w2 : j < i
        · rw [decide_eq_true w2, decide_eq_true (show j < i + 1 by omega)]
        · rw [decide_eq_false w2, decide_eq_false (show ¬ j < i + 1 by omega)]
    refine Pc.le (fun z3 => ?_) (fun z3 => ?_)
    · exact ih _ (l3 + 1) (i + 1) (by omega) (by omega) (st false (decide_eq_false (by omega)).symm _ (fun j hj => by rw [Bool.false_and, Bool.or_false]))
    · exact ih _ (l3 + 1) (i + 1) (by omega) (by omega) (st true (decide_eq_true (by omega)).symm _ (fun j hj => by rw [bt_add e1 (by omega), Bool.true_and]))
theorem ct_4 (v : VT T) (rv : RVR (wT T * gT T) T.go.length f) : ∀ (n : Nat) (h : Hp) (l1 l2 : Int32) (i : Nat), l2.toInt = (i : Int) → i ≤ 25 → BDF T 23 h → SCR (wT T * gT T) T.go.length f 30 h → l1 = csF T f i → Pc (W_X11_costsOfTunes n 4 h l1 l2) (fun q => q.1 = csF T f 25) := by
  intro n
  have c25 := (wg_T v).1
  induction n with
  | zero => intro h l1 l2 i e1 e2 bd sc b; exact Pc.no
  | succ n ih =>
    intro h l1 l2 i e1 e2 bd sc b
    have f0 := lit_0
    have f1 := lit_1
    have f25 := lit_25
    rw [u_X11_costsOfTunes]
    refine Pc.pos rfl ?_
    refine Pc.le (fun z => Pc.ret ?_) (fun z => ?_)
    · have : i = 25 := by omega
      rw [← this]; exact b
    have a1 := adT l2 1 (by omega) (by omega)
    refine Pc.bind (tu_c sc (b := i) (by omega) e1) (fun q2 h2 => ?_)
    obtain ⟨t1, t2, t3⟩ := h2
    rw [t1]
    refine Pc.ite (fun z0 => ?_) (fun z0 => ?_)
    · have no : ¬ 0 < (f i).toInt := by
        intro w
        by_cases y : i < wT T * gT T
        · exact t3.mpr ⟨y, w⟩ z0
        · have := (rv.1 i (by omega)).1 (by omega)
          omega
      refine ih h l1 (l2 + 1) (i + 1) (by omega) (by omega) bd sc ?_
      show l1 = (if 0 < (f i).toInt then csF T f i + coF T f i else csF T f i)
      rw [if_neg no]; exact b
    · obtain ⟨ic, pos⟩ := t3.mp z0
      refine Pc.bind (fun y e => And.intro (co_c v bd sc rv (by decide) (b := i) ic e1 y e) (zf_X0_costOf y e)) (fun q5 h5 => ?_)
      obtain ⟨t4, z5⟩ := h5
      refine ih q5.2 _ (l2 + 1) (i + 1) (by omega) (by omega) (bd.at (fun y k h1 h2 => z5.1 y k (by omega))) (sc.at v (fun x k h1 h2 => z5.1 x k (by omega))) ?_
      show l1 + q5.1 = (if 0 < (f i).toInt then csF T f i + coF T f i else csF T f i)
      rw [if_pos pos, t4, b]
theorem ca_4 (v : VT T) : ∀ (n : Nat) (h : Hp) (l1 l2 : Int32) (i : Nat), l2.toInt = (i : Int) → i ≤ wT T * gT T → EN2 s T h → hi h 263 = f → l1 = csF T f i → Pc (W_X12_costsAll n 4 h l1 l2) (fun q => q.1 = csF T f (wT T * gT T)) := by
  intro n
  have c25 := (wg_T v).1
  induction n with
  | zero => intro h l1 l2 i e1 e2 en ef b; exact Pc.no
  | succ n ih =>
    intro h l1 l2 i e1 e2 en ef b
    have f0 := lit_0
    have f1 := lit_1
    have n1 := ncT (show 0 ≤ l2.toInt by omega)
    have n2 : Int32.toNatClampNeg l2 = i := by omega
    rw [u_X12_costsAll]
    refine Pc.pos rfl ?_
    refine Pc.bind (ce_r v en) (fun q1 h1 => ?_)
    obtain ⟨t1, t2⟩ := h1
    rw [t1, n2, ef]
    refine Pc.le (fun z => Pc.ret ?_) (fun z => Pc.chk (fun _ => ?_))
    · have : i = wT T * gT T := by omega
      rw [← this]; exact b
    have a1 := adT l2 1 (by omega) (by omega)
    refine Pc.le (fun z0 => ?_) (fun z0 => ?_)
    · refine ih h l1 (l2 + 1) (i + 1) (by omega) (by omega) en ef ?_
      show l1 = (if 0 < (f i).toInt then csF T f i + coF T f i else csF T f i)
      rw [if_neg (by omega)]; exact b
    · refine Pc.bind (fun y e => And.intro (co_r v en (b := i) (by omega) e1 y e) (zf_X12_costsOf y e)) (fun q6 h6 => ?_)
      obtain ⟨t4, z6⟩ := h6
      rw [ef] at t4
      refine ih q6.2 _ (l2 + 1) (i + 1) (by omega) (by omega) (en.cg (fun a k h1 h2 => z6.1 a k (by omega)) (z6.1 226 18 (by omega))) (funext (fun k => by rw [z6.1 263 k (by omega), ef])) ?_
      show l1 + q6.1 = (if 0 < (f i).toInt then csF T f i + coF T f i else csF T f i)
      rw [if_pos (by omega), t4, b]
theorem fb_r (v : VT T) (e : EN2 s T h) : Pc (F_X12_freeBits n h) (fun q => q.2 = h ∧ ∀ j, j < 32 → bt q.1 j = (decide (j < wT T * gT T) && !bt (hi h 263 50) j)) := by
  unfold F_X12_freeBits
  refine Pc.bind (ce_r v e) (fun q1 h1 => ?_)
  obtain ⟨t1, t2⟩ := h1
  rw [t1]
  refine Pc.ret ⟨rfl, fun j hj => ?_⟩
  rw [bt_and, bt_not _ hj, all_r v t2 hj]
theorem ez_b0 : vp_nar .boolean (ezB false) = 0 := by decide
theorem ez_b1 : ¬ vp_nar .boolean (ezB true) = 0 := by decide
theorem je_count (w : Ir h0) (r : RLs s T h0) (k1 : ∀ a k, 226 ≤ a → hi q a k = hi h0 a k) : J2 (F_X11_count n1 h0 x1) (F_X12_count n2 q x1) := by
  obtain ⟨en, sd, e262, r59⟩ := r.ref k1
  have v := r.1.1
  have bd := r.1.2.1
  obtain ⟨c25, ⟨w2, w5⟩, ⟨g2, g5⟩, y1, y2⟩ := wg_T v
  have G5 := v.2.2.1.1
  have f0 := lit_0
  have ps := r.2.2.1
  obtain ⟨⟨⟨w1, w2', w3, w4⟩, v4⟩, held, told⟩ := w.1
  unfold F_X11_count F_X12_count
  refine J2.br (cp_r en) (fun q5 cp => ?_)
  obtain ⟨sc, rv⟩ := r.row e262 cp.1
  have en5 := cp.en en
  have hG := bd.2.1.1
  have z226 (k : Nat) (nk : ¬ (k = 55 ∨ k = 56)) : hi q5 226 k = hi h0 226 k := by rw [cp.2.2.1 226 k (by omega), k1 226 k (by decide)]
  rw [en5.nc]
  refine J2.ite Iff.rfl (fun _ => J2.cr (fun _ => J2.ret (Int32.toInt_inj.mp (bd.1.1.trans (en5.2.1.1.trans y1).symm)))) (fun _ => ?_)
  refine J2.ite Iff.rfl (fun _ => J2.cr (fun _ => J2.ret (Int32.toInt_inj.mp (bd.1.2.1.trans (en5.2.1.2.trans y2).symm)))) (fun _ => ?_)
  refine J2.ite Iff.rfl (fun _ => J2.cr (fun _ => J2.ret (Int32.toInt_inj.mp (hG.trans en5.2.2.1.symm)))) (fun _ => ?_)
  refine J2.ite Iff.rfl (fun _ => J2.ret sc.1.1) (fun _ => ?_)
  refine J2.ite Iff.rfl (fun _ => J2.ret sc.1.2.1) (fun _ => ?_)
  refine J2.ite Iff.rfl (fun _ => J2.br (tb_r v en5) (fun y hy => J2.ret (bt_ext (fun j hj => Bool.eq_iff_iff.mpr ((sc.2.1 j hj).trans (hy.2 j hj).symm))))) (fun _ => ?_)
  refine J2.ite Iff.rfl (fun _ => J2.ret sc.1.2.2) (fun _ => ?_)
  refine J2.ite Iff.rfl (fun _ => J2.bind (so_n G5 c25 sc rv hG) (gb_r v en5 rv) (fun x y hx hy => J2.ret (bt_ext (fun j hj => by rw [hx.2 j hj, hy.2 j hj])))) (fun _ => ?_)
  refine J2.ite Iff.rfl (fun _ => J2.ret (by rw [z226 2 (by decide)]; exact w3)) (fun _ => ?_)
  refine J2.ite Iff.rfl (fun _ => J2.ret ?_) (fun _ => ?_)
  · obtain ⟨m, p, -, ⟨p1, p2, -⟩, -⟩ := ps
    rw [z226 59 (by decide)]
    exact Int32.toInt_inj.mp (p1.trans p2.symm)
  refine J2.ite Iff.rfl (fun _ => J2.ret (by rw [z226 65 (by decide)]; exact told.1)) (fun _ => ?_)
  refine J2.ite Iff.rfl (fun _ => ?_) (fun _ => ?_)
  · obtain ⟨a, b, c', i1, i2, i3, i4⟩ := held
    have z273 (k : Nat) : hi q5 273 k = hi h0 273 k := by rw [cp.2.2.1 273 k (by omega), k1 273 k (by decide)]
    refine J2.bl pc_bits (fun y hy => ?_)
    have hy2 := hy.2
    rw [i1] at hy2
    rw [z273 0, z273 1, z273 2, i2, i3, i4]
    cases a <;> cases b <;> cases c' <;> (repeat (first | refine J2.pr ez_b0 ?_ | refine J2.mr ez_b1 ?_)) <;> exact J2.ret (Int32.toInt_inj.mp (hy2.trans (by decide +kernel)))
  have e61 := sc.1.1
  refine J2.ite Iff.rfl (fun _ => ?_) (fun _ => ?_)
  · rw [e61]
    exact J2.bind (la_c c25 sc rv) (lb_r v en5) (fun x y hx hy => J2.ret (bt_ext (fun j hj => by rw [hx.2 j hj, hy.2 j hj])))
  refine J2.ite Iff.rfl (fun _ => ?_) (fun _ => ?_)
  · have mi : Pc (F_X11_movedInAll n1 h0) (fun q => q.1 = smF (hi q5 263) T.go.length) := by
      unfold F_X11_movedInAll
      exact mi_4 G5 sc hG n1 0 0 0 f0 (Nat.zero_le _) rfl
    refine J2.bl mi (fun y hy => J2.ret ?_)
    have z := smF_z (f := hi q5 263) (G := T.go.length) (5 - T.go.length) (fun k h1 h2 => (rv.2.2.2 k h1 (by omega)).2)
    rw [show T.go.length + (5 - T.go.length) = 5 by omega] at z
    rw [hy, ← z]
    show 0 + hi q5 263 56 + hi q5 263 57 + hi q5 263 58 + hi q5 263 59 + hi q5 263 60 = _
    rw [Int32.zero_add]
  refine J2.ite Iff.rfl (fun _ => ?_) (fun _ => ?_)
  · refine J2.bl pc_bits (fun y hy => J2.br (tb_r v en5) (fun z hz => J2.br bi_r (fun u hu => J2.ret (Int32.toInt_inj.mp ?_))))
    rw [hy.2, hu.2, cn_c sc c25, cn_r (f := hi q5 263) c25 hz.2]
  refine J2.ite Iff.rfl (fun _ => ?_) (fun _ => ?_)
  · have ct : Pc (F_X11_costsOfTunes n1 h0) (fun q => q.1 = csF T (hi q5 263) 25) := by
      unfold F_X11_costsOfTunes
      exact ct_4 v rv n1 h0 0 0 0 f0 (Nat.zero_le _) bd sc rfl
    have ca : Pc (F_X12_costsAll n2 q5) (fun q => q.1 = csF T (hi q5 263) (wT T * gT T)) := by
      unfold F_X12_costsAll
      exact ca_4 v n2 q5 0 0 0 f0 (Nat.zero_le _) en5 rfl rfl
    refine J2.bind ct ca (fun x y hx hy => J2.ret ?_)
    have z := csF_z (T := T) (f := hi q5 263) (c := wT T * gT T) (25 - wT T * gT T) (fun k h1 h2 => by have := (rv.1 k (by omega)).1 h1; omega)
    rw [show wT T * gT T + (25 - wT T * gT T) = 25 by omega] at z
    rw [hx, hy, z]
  refine J2.ite Iff.rfl (fun _ => ?_) (fun _ => ?_)
  · refine J2.bl (so_n G5 c25 sc rv hG) (fun x hx => J2.br (fb_r v en5) (fun y hy => ?_))
    rw [hy.1]
    refine J2.br (tb_r v en5) (fun z hz => ?_)
    rw [hz.1]
    refine J2.br (gb_r v en5 rv) (fun u hu => J2.ret (bt_ext (fun j hj => ?_)))
    have tb : bt (hi h0 30 3) j = bt z.1 j := Bool.eq_iff_iff.mpr ((sc.2.1 j hj).trans (hz.2 j hj).symm)
    have ro : hi h0 30 2 = hi q5 263 50 := sc.1.2.2
    rw [bt_and, bt_not _ hj, bt_or, bt_or, bt_and, bt_and, bt_not _ hj, bt_not _ hj, hx.2 j hj, hy.2 j hj, hu.2 j hj, bd.1.2.2.1 j hj, tb, ro]
    cases decide (j < wT T * gT T) <;> cases bt z.1 j <;> cases bt (hi q5 263 50) j <;> cases gsB (hi q5 263) T.go.length j <;> rfl
  refine J2.ite Iff.rfl (fun _ => ?_) (fun _ => ?_)
  · refine J2.bind pc_bits bi_r (fun x y hx hy => J2.ret (Int32.toInt_inj.mp ?_))
    have ro : hi h0 30 2 = hi q5 263 50 := sc.1.2.2
    rw [hx.2, hy.2, ro]
    have : cntB (bt (hi q5 263 50)) 32 = cntB (bt (hi q5 263 50)) 25 := cntB_skip (by decide) (fun m h1 h2 => by
      cases e : bt (hi q5 263 50) m with
      | false => rfl
      | true => have := rv.2.1 m h2 e; exfalso; omega)
    rw [this]
  refine J2.ite Iff.rfl (fun _ => ?_) (fun _ => ?_)
  · have em : Pc (F_X11_everMoved n1 h0) (fun q => ∀ j, j < 32 → bt q.1 j = (decide (j < T.go.length) && decide (0 < (hi q5 263 (56 + j)).toInt))) := by
      unfold F_X11_everMoved
      exact em_4 G5 sc hG n1 0 0 0 f0 (Nat.zero_le _) (fun j _ => by rw [bt_zero, decide_eq_false (Nat.not_lt_zero j), Bool.false_and])
    intro x y e1 e2
    obtain ⟨u, u1, u2⟩ := Option.bind_eq_some_iff.mp e1
    have u3 := em u u1
    have y3 := ec_4 v en5 n2 0 0 0 f0 (Nat.zero_le _) (fun j _ => by rw [bt_zero, decide_eq_false (Nat.not_lt_zero j), Bool.false_and]) y e2
    cases u2
    exact bt_ext (fun j hj => by rw [u3 j hj, y3 j hj])
  refine J2.ite Iff.rfl (fun _ => J2.cr (fun _ => J2.ret (Int32.toInt_inj.mp (bd.2.1.2.1.trans en5.2.2.2.1.1.symm)))) (fun _ => J2.ret rfl)
end RYD
section RYDe
variable {h0 : Hp} {n1 n2 : Nat} {x1 x2 x3 : Int32} {q1 q2 : Int32 × Hp}
theorem eq_count (w : Ir h0) (e1 : F_X11_count n1 h0 x1 = some q1) (e2 : F_X12_count n2 q1.2 x1 = some q2) : q1.1 = q2.1 := by
  obtain ⟨s, T, r⟩ := w.2
  exact je_count w r (frZ.hr (zf_X11_count q1 e1) (fun x k z => by omega)) q1 q2 e1 e2
end RYDe
