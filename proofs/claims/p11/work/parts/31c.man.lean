/-! a law's telling, sets of cells: by hand -/
theorem sf_X12_cells {h0 : Hp} (s0 : rS h0) (r0 : rwO (cnN h0) (hi h0 263)) (n : Nat) (h : Hp) (hn : 1 ≤ n) (j : jD h0 h) : Ok (F_X12_cells n h) (fun q => q.2 = h ∧ q.1.toInt = cnN h0) := by
  unfold F_X12_cells
  have f1 := liR s0 j.ks
  have f2 := wdR s0 j.ks
  have f3 := hgR s0 j.ks
  have f4 := cnR s0
  refine Ok.chk (ixT (by omega) (by omega)) (fun c1 => ?_)
  refine Ok.pos c1 ?_
  refine Ok.ret ⟨rfl, ?_⟩
  show (hi h 235 (Int32.toNatClampNeg (hi h 226 18)) * hi h 236 (Int32.toNatClampNeg (hi h 226 18))).toInt = _
  rw [Int32.toInt_mul, f2.1, f3.1]
  have e : cnN h0 = wdN h0 * hgN h0 := rfl
  rw [← e]
  exact bmT (by omega) (by omega)
/-- y: the cells of x below c, and those beside them -/
def nbP (h0 : Hp) (x : Int32) (c : Nat) (y : Int32) : Prop := ∀ i, i < 32 → (bt y i = true ↔ ∃ c' k, c' < c ∧ k < 5 ∧ bt x c' = true ∧ sdv (wdN h0).toNat (hgN h0).toNat c' k = i)
def nbO (h0 : Hp) (x y : Int32) : Prop := nbP h0 x (cnN h0).toNat y
theorem bt_add {y s : Int32} {v i : Nat} (hv : s.toInt = (v : Int)) (h : v < 32) : bt (y ||| ((1 : Int32) <<< (s &&& 31))) i = (bt y i || decide (i = v)) := by
  rw [bt_or, btL (by omega) (by omega)]
  have := ncT (show 0 ≤ s.toInt by omega)
  rw [show Int32.toNatClampNeg s = v by omega]
theorem sf_near {h0 : Hp} (s0 : rS h0) (r0 : rwO (cnN h0) (hi h0 263)) : ∀ n : Nat, (∀ (h : Hp) (l1 l2 l3 : Int32), jD h0 h → 0 ≤ l3.toInt → l3.toInt ≤ cnN h0 → nbP h0 l1 (Int32.toNatClampNeg l3) l2 → (10 : Int) + 10 * (26 - l3.toInt) < n → Ok (W_X12_nearBits n 4 h l1 l2 l3 0) (fun q => q.2 = h ∧ nbO h0 l1 q.1)) ∧ (∀ (h : Hp) (l1 l2 l3 l4 : Int32), jD h0 h → 0 ≤ l3.toInt → l3.toInt < cnN h0 → 0 ≤ l4.toInt → l4.toInt ≤ 5 → bt l1 (Int32.toNatClampNeg l3) = true → (∀ i, i < 32 → (bt l2 i = true ↔ (∃ c' k, c' < Int32.toNatClampNeg l3 ∧ k < 5 ∧ bt l1 c' = true ∧ sdv (wdN h0).toNat (hgN h0).toNat c' k = i) ∨ ∃ k : Nat, (k : Int) < l4.toInt ∧ sdv (wdN h0).toNat (hgN h0).toNat (Int32.toNatClampNeg l3) k = i)) → (10 : Int) + 10 * (26 - l3.toInt) - 1 - l4.toInt < n → Ok (W_X12_nearBits n 26 h l1 l2 l3 l4) (fun q => q.2 = h ∧ nbO h0 l1 q.1)) := by
  have f0 := cnR s0
  intro n
  induction n with
  | zero => exact ⟨by intro h l1 l2 l3 j a b c d; exfalso; omega, by intro h l1 l2 l3 l4 j a b c d e f g; exfalso; omega⟩
  | succ n ih =>
    refine ⟨?_, ?_⟩
    · intro h l1 l2 l3 j a b c d
      have f1 := ncT a
      rw [u_X12_nearBits]
      refine Ok.pos rfl ?_
      refine Ok.bind (sf_X12_cells s0 r0 n h (by omega) j) (fun q1 hq1 => ?_)
      obtain ⟨e1, x1⟩ := hq1
      rw [e1]
      refine Ok.le (fun c1 => ?_) (fun c1 => ?_)
      · refine Ok.ret ⟨rfl, ?_⟩
        show nbP h0 l1 (cnN h0).toNat l2
        rw [show (cnN h0).toNat = Int32.toNatClampNeg l3 by omega]
        exact c
      · have z := btS0 l1 a (by omega)
        have f2 := adT l3 1
        have f3 := lit_1
        have f4 : Int32.toNatClampNeg (l3 + 1) = Int32.toNatClampNeg l3 + 1 := by
          have := ncT (show 0 ≤ (l3 + 1).toInt by omega)
          omega
        refine Ok.eq (fun c2 => ?_) (fun c2 => ?_)
        · rw [lit_0] at c2
          have c3 := z.mp c2
          refine ih.1 h l1 l2 (l3 + 1) j (by omega) (by omega) (fun i il => ?_) (by omega)
          rw [c i il, f4]
          constructor
          · rintro ⟨c', k, g1, g2⟩
            exact ⟨c', k, by omega, g2⟩
          · rintro ⟨c', k, g1, g2, g3, g4⟩
            refine ⟨c', k, ?_, g2, g3, g4⟩
            by_cases q : c' = Int32.toNatClampNeg l3
            · rw [q, c3] at g3; cases g3
            · omega
        · rw [lit_0] at c2
          have c3 : bt l1 (Int32.toNatClampNeg l3) = true := by
            cases q : bt l1 (Int32.toNatClampNeg l3) with
            | true => rfl
            | false => exact absurd (z.mpr q) c2
          have f5 := lit_0
          refine ih.2 h l1 l2 l3 0 j a (by omega) (by omega) (by omega) c3 (fun i il => ?_) (by omega)
          rw [c i il]
          constructor
          · exact Or.inl
          · rintro (g | ⟨k, g1, g2⟩)
            · exact g
            · omega
    · intro h l1 l2 l3 l4 j a b c d e f g
      have f1 := ncT a
      rw [u_X12_nearBits]
      refine Ok.neg (by decide) ?_
      refine Ok.pos rfl ?_
      have f5 := lit_5
      refine Ok.le (fun c1 => ?_) (fun c1 => ?_)
      · have f2 := adT l3 1
        have f3 := lit_1
        have f4 : Int32.toNatClampNeg (l3 + 1) = Int32.toNatClampNeg l3 + 1 := by
          have := ncT (show 0 ≤ (l3 + 1).toInt by omega)
          omega
        refine ih.1 h l1 l2 (l3 + 1) j (by omega) (by omega) (fun i il => ?_) (by omega)
        rw [f i il, f4]
        constructor
        · rintro (⟨c', k, g1, g2⟩ | ⟨k, g1, g2⟩)
          · exact ⟨c', k, by omega, g2⟩
          · exact ⟨_, k, by omega, by omega, e, g2⟩
        · rintro ⟨c', k, g1, g2, g3, g4⟩
          by_cases q : c' = Int32.toNatClampNeg l3
          · exact Or.inr ⟨k, by omega, by rw [← q]; exact g4⟩
          · exact Or.inl ⟨c', k, by omega, g2, g3, g4⟩
      · have m1 := mlT 5 l3 5 lit_5
        have m2 := adT (5 * l3) l4
        have f6 := ncT c
        have k1 : (5 * l3 + l4 : Int32).toInt = 5 * l3.toInt + l4.toInt := by omega
        have k2 : Int32.toNatClampNeg (5 * l3 + l4) = 5 * Int32.toNatClampNeg l3 + Int32.toNatClampNeg l4 := by
          have := ncT (show 0 ≤ (5 * l3 + l4 : Int32).toInt by omega)
          omega
        refine Ok.chk (ixT (by omega) (by omega)) (fun c2 => ?_)
        have k3 := sdE s0 j.ks (c := Int32.toNatClampNeg l3) (k := Int32.toNatClampNeg l4) (by omega) (by omega)
        have k4 := (sdv_at s0 (c := Int32.toNatClampNeg l3) (k := Int32.toNatClampNeg l4) (by omega) (by omega)).1
        rw [← k2] at k3
        have f2 := adT l4 1
        have f3 := lit_1
        refine ih.2 h l1 _ l3 (l4 + 1) j a b (by omega) (by omega) e (fun i il => ?_) (by omega)
        rw [bt_add k3 (by omega), Bool.or_eq_true, f i il, decide_eq_true_eq]
        constructor
        · rintro ((g1 | ⟨k, g1, g2⟩) | g1)
          · exact Or.inl g1
          · exact Or.inr ⟨k, by omega, g2⟩
          · exact Or.inr ⟨Int32.toNatClampNeg l4, by omega, g1.symm⟩
        · rintro (g1 | ⟨k, g1, g2⟩)
          · exact Or.inl (Or.inl g1)
          · by_cases q : (k : Int) < l4.toInt
            · exact Or.inl (Or.inr ⟨k, q, g2⟩)
            · refine Or.inr ?_
              rw [← g2, show k = Int32.toNatClampNeg l4 by omega]
theorem sf_X12_nearBits {h0 : Hp} (s0 : rS h0) (r0 : rwO (cnN h0) (hi h0 263)) (n : Nat) (h : Hp) (x1 : Int32) (hn : 300 ≤ n) (j : jD h0 h) : Ok (F_X12_nearBits n h x1) (fun q => q.2 = h ∧ nbO h0 x1 q.1) := by
  have f0 := cnR s0
  have f1 := lit_0
  have f2 := ncT (show 0 ≤ (0 : Int32).toInt by omega)
  unfold F_X12_nearBits
  refine (sf_near s0 r0 n).1 h x1 0 0 j (by omega) (by omega) (fun i il => ?_) (by omega)
  rw [bt_zero]
  constructor
  · intro q; cases q
  · rintro ⟨c', k, g1, g2⟩
    omega
/-! an order's way through its pile -/
theorem dpO_succ (c : Nat → Int32) (s m : Nat) : dpO c s (m + 1) = dpO c s m + (if (c (s + m)).toInt < 2 then 1 else -1) := rfl
set_option maxHeartbeats 4000000 in
theorem sf_term {h0 : Hp} {s e : Nat} (oc : ocO (hi h0 257) (hi h0 258) s e) : ∀ n : Nat, ∀ (h : Hp) (l1 l2 l3 l4 : Int32), jD h0 h → 0 ≤ l4.toInt → (s : Int) ≤ l4.toInt → l4.toInt ≤ e → l2.toInt = e → l3.toInt = dpO (hi h0 257) s (Int32.toNatClampNeg l4 - s) → (1 : Int) + (e - l4.toInt) < n → Ok (W_X12_termOf n 5 h l1 l2 l3 l4) (fun q => jD h0 q.2 ∧ True) := by
  intro n
  induction n with
  | zero => intro h l1 l2 l3 l4 j a b c d f g; exfalso; omega
  | succ n ih =>
    intro h l1 l2 l3 l4 j a b c d f g
    have e1 := ncT a
    have w (hh : Hp) (jj : jD h0 hh) (q : l4.toInt < e) (v : Int32) (hv : v.toInt = dpO (hi h0 257) s (Int32.toNatClampNeg l4 - s) + (if (hi h0 257 (Int32.toNatClampNeg l4)).toInt < 2 then 1 else -1)) : Ok (W_X12_termOf n 5 hh l1 l2 v (l4 + 1)) (fun q => jD h0 q.2 ∧ True) := by
      have oc2 := oc.2.1
      have f2 := adT l4 1
      have f3 := lit_1
      have f4 := ncT (show 0 ≤ (l4 + 1).toInt by omega)
      refine ih hh l1 l2 v (l4 + 1) jj (by omega) (by omega) (by omega) d ?_ (by omega)
      rw [show Int32.toNatClampNeg (l4 + 1) - s = (Int32.toNatClampNeg l4 - s) + 1 by omega, dpO_succ, show s + (Int32.toNatClampNeg l4 - s) = Int32.toNatClampNeg l4 by omega]
      exact hv
    rw [u_X12_termOf]
    refine Ok.pos rfl ?_
    refine Ok.le (fun c1 => ?_) (fun c1 => ?_)
    · exact Ok.ret ⟨j, trivial⟩
    have q : l4.toInt < e := by omega
    have oc2 := oc.2.1
    obtain ⟨m0, m1, m2, m3⟩ := oc.2.2 (Int32.toNatClampNeg l4 - s) (by omega)
    rw [show s + (Int32.toNatClampNeg l4 - s) = Int32.toNatClampNeg l4 by omega] at m2 m3
    have k1 : hi h 257 = hi h0 257 := j.at 257 (fun _ => rfl)
    have k2 : hi h 258 = hi h0 258 := j.at 258 (fun _ => rfl)
    rw [k1, k2]
    have e2 := lit_2
    have eo := lit_1
    refine Ok.chk (ixT (by omega) (by omega)) (fun c2 => ?_)
    refine Ok.le (fun c3 => ?_) (fun c3 => ?_)
    · have c4 : ¬ (hi h0 257 (Int32.toNatClampNeg l4)).toInt < 2 := by omega
      have c5 := m2 (by omega)
      generalize ey : (l3 + (-1) : Int32) = y
      have ad1 := adG ey rfl lit_m1 (by omega) (by omega)
      generalize ez : (y - 1 : Int32) = z
      have sb1 := sbG ez rfl lit_1 (by omega) (by omega)
      have kv : y.toInt = dpO (hi h0 257) s (Int32.toNatClampNeg l4 - s) + (if (hi h0 257 (Int32.toNatClampNeg l4)).toInt < 2 then 1 else -1) := by
        rw [if_neg c4]; omega
      refine Ok.chk (ixT (by omega) (by omega)) (fun c6 => ?_)
      refine Ok.chk (ixT (by omega) (by omega)) (fun c7 => ?_)
      have e3 := lit_3
      have e4 := lit_4
      have e5 := lit_5
      refine Ok.eq (fun c8 => ?_) (fun c8 => ?_)
      · refine Ok.ite (fun c9 => Ok.ret ⟨JDw rfl j (by decide), trivial⟩) (fun c9 => ?_)
        refine Ok.ite (fun _ => Ok.pos c6 (w _ (JDw rfl j rfl) q _ kv)) (fun _ => ?_)
        refine Ok.ite (fun _ => Ok.pos c6 (w _ (JDw rfl j rfl) q _ kv)) (fun _ => ?_)
        refine Ok.ite (fun _ => Ok.pos c6 (w _ (JDw rfl j rfl) q _ kv)) (fun _ => ?_)
        exact Ok.neg c9 (Ok.pos c6 (w _ (JDw rfl j rfl) q _ kv))
      · refine Ok.eq (fun _ => Ok.pos c6 (w _ (JDw rfl j rfl) q _ kv)) (fun _ => ?_)
        refine Ok.eq (fun _ => Ok.pos c6 (w _ (JDw rfl j rfl) q _ kv)) (fun _ => ?_)
        refine Ok.eq (fun _ => Ok.pos c6 (w _ (JDw rfl j rfl) q _ kv)) (fun _ => ?_)
        exfalso
        omega
    · have c4 : (hi h0 257 (Int32.toNatClampNeg l4)).toInt < 2 := by omega
      have ad2 := adT l3 1
      have kv : (l3 + 1 : Int32).toInt = dpO (hi h0 257) s (Int32.toNatClampNeg l4 - s) + (if (hi h0 257 (Int32.toNatClampNeg l4)).toInt < 2 then 1 else -1) := by
        rw [if_pos c4]; omega
      have e0 := lit_0
      refine Ok.eq (fun c5 => ?_) (fun c5 => ?_)
      · refine Ok.pos c2 ?_
        refine Ok.chk (ixT (by omega) (by omega)) (fun c6 => ?_)
        exact w _ (JDw rfl j rfl) q _ kv
      · have c6 := m3 (by omega) c4
        refine Ok.pos c2 ?_
        refine Ok.chk (ixT (by omega) (by omega)) (fun c7 => ?_)
        refine Ok.chk (ixT (by omega) (by omega)) (fun c8 => ?_)
        exact w _ (JDw rfl j rfl) q _ kv
theorem sf_X12_termOf {h0 : Hp} (n : Nat) (h : Hp) (x1 x2 : Int32) (hn : 1000 ≤ n) (j : jD h0 h) (o : oiO (hi h0 257) (hi h0 258) x1 x2) : Ok (F_X12_termOf n h x1 x2) (fun q => jD h0 q.2 ∧ True) := by
  obtain ⟨o1, o2, o3⟩ := o
  have e1 := ncT o1
  have e2 := ncT o2
  have e3 := o3.1
  have e4 := o3.2.1
  unfold F_X12_termOf
  refine sf_term o3 n h x1 x2 0 x1 j o1 (by omega) (by omega) (by omega) ?_ (by omega)
  rw [Nat.sub_self]
  exact lit_0
set_option maxHeartbeats 4000000 in
theorem sf_laws {h0 : Hp} {L : Int} {i : Nat} (hi8 : i < 8) (ol : ∀ b : Nat, (hi h0 250 i).toInt ≤ b → (b : Int) < (hi h0 251 i).toInt → obO L h0 b) (h260 : (hi h0 251 i).toInt ≤ 260) : ∀ n : Nat, ∀ (h : Hp) (l1 l2 l3 l4 : Int32), jD h0 h → l3.toInt = i → 0 ≤ l4.toInt → (hi h0 250 i).toInt ≤ l4.toInt → (1000 : Int) < n → (1000 : Int) + (261 - l4.toInt) < n → Ok (W_X12_lawTells n 39 h l1 l2 l3 l4) (fun q => jD h0 q.2 ∧ True) := by
  intro n
  induction n with
  | zero => intro h l1 l2 l3 l4 j a b c d e; exfalso; omega
  | succ n ih =>
    intro h l1 l2 l3 l4 j a b c d e
    have e1 := ncT b
    have e3 := ncT (show 0 ≤ l3.toInt by omega)
    have e4 : Int32.toNatClampNeg l3 = i := by omega
    have rd (hh : Hp) (jj : jD h0 hh) (x : Nat) (hx : ∀ k, sD x k = false) : hi hh x = hi h0 x := jj.at x hx
    rw [u_X12_lawTells]
    refine Ok.pos rfl ?_
    refine Ok.chk (ixT (by omega) (by omega)) (fun c1 => ?_)
    rw [e4, rd h j 251 (fun _ => rfl), rd h j 252 (fun _ => rfl), rd h j 253 (fun _ => rfl), rd h j 254 (fun _ => rfl), rd h j 255 (fun _ => rfl), rd h j 256 (fun _ => rfl)]
    refine Ok.le (fun c2 => Ok.ret ⟨j, trivial⟩) (fun c2 => ?_)
    have ob := ol (Int32.toNatClampNeg l4) (by omega) (by omega)
    refine Ok.chk (ixT (by omega) (by omega)) (fun c3 => ?_)
    have f3 := lit_0
    refine Ok.eq (fun c4 => ?_) (fun c4 => ?_)
    · refine Ok.pos c3 (Ok.pos c3 ?_)
      refine Ok.bind (sf_X12_termOf n h _ _ (by omega) j ob.2.1) (fun q7 hq7 => ?_)
      exact Ok.ite (fun _ => Ok.ret ⟨hq7.1, trivial⟩) (fun _ => Ok.ret ⟨hq7.1, trivial⟩)
    · obtain ⟨o1, o2⟩ := ob.1 (by rw [f3] at c4; exact c4)
      refine Ok.pos c3 (Ok.pos c3 ?_)
      refine Ok.bind (sf_X12_termOf n h _ _ (by omega) j o1) (fun q12 hq12 => ?_)
      refine Ok.pos c3 (Ok.pos c3 ?_)
      rw [rd q12.2 hq12.1 254 (fun _ => rfl), rd q12.2 hq12.1 255 (fun _ => rfl)]
      refine Ok.bind (sf_X12_termOf n q12.2 _ _ (by omega) hq12.1 o2) (fun q16 hq16 => ?_)
      refine Ok.ite (fun _ => ?_) (fun _ => Ok.ret ⟨hq16.1, trivial⟩)
      refine Ok.ite (fun _ => ?_) (fun _ => ?_)
      · refine Ok.pos c3 (Ok.pos c3 ?_)
        rw [rd q16.2 hq16.1 255 (fun _ => rfl), rd q16.2 hq16.1 256 (fun _ => rfl)]
        refine Ok.bind (sf_X12_termOf n q16.2 _ _ (by omega) hq16.1 ob.2.1) (fun q22 hq22 => ?_)
        exact Ok.ite (fun _ => Ok.ret ⟨hq22.1, trivial⟩) (fun _ => Ok.ret ⟨hq22.1, trivial⟩)
      · have f2 := adT l4 1
        have f4 := lit_1
        exact ih q16.2 l1 l2 l3 (l4 + 1) hq16.1 a (by omega) (by omega) (by omega) (by omega)
theorem sf_X12_lawTells {h0 : Hp} (s0 : rS h0) (r0 : rwO (cnN h0) (hi h0 263)) (n : Nat) (h : Hp) (x1 x2 : Int32) (hn : 2000 ≤ n) (j : jD h0 h) (p0 : 0 ≤ x1.toInt) (p1 : x1.toInt < 4) : Ok (F_X12_lawTells n h x1 x2) (fun q => jD h0 q.2 ∧ True) := by
  have f1 := liR s0 j.ks
  have f2 := mlT 4 (hi h 226 18) 4 lit_4
  have f3 := adT (4 * hi h 226 18) x1
  have k1 : (4 * hi h 226 18 + x1 : Int32).toInt = 4 * (hi h 226 18).toInt + x1.toInt := by omega
  have k2 := ncT (show 0 ≤ (4 * hi h 226 18 + x1 : Int32).toInt by omega)
  have k3 : hi h 226 18 = hi h0 226 18 := j.1 226 18 (by decide)
  have ol := s0.2.2.2.2.2.1 (Int32.toNatClampNeg (4 * hi h 226 18 + x1)) (by rw [← k3]; omega) (by rw [← k3]; omega)
  unfold F_X12_lawTells
  refine Ok.chk (ixT (by omega) (by omega)) (fun c1 => ?_)
  refine Ok.pos c1 ?_
  rw [j.at 250 (fun _ => rfl), j.at 251 (fun _ => rfl)]
  refine Ok.eq (fun c2 => Ok.ret ⟨j, trivial⟩) (fun c2 => ?_)
  refine Ok.pos c1 ?_
  rw [← k3] at ol
  rcases ol with q | ⟨q1, q2, q3⟩
  · exact absurd q c2
  have jw : jD h0 (wrI h 226 52 0) := JDw rfl j (by decide)
  rw [jw.at 250 (fun _ => rfl)]
  exact sf_laws (i := Int32.toNatClampNeg (4 * hi h 226 18 + x1)) (by omega) q3 (by omega) n _ x1 x2 _ _ jw (by omega) (by omega) (Int.le_refl _) (by omega) (by omega)
