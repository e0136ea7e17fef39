/-! PAIRS -/
theorem bt5 : ∀ m, m < 32 → ∀ i, i < 32 → bt (Int32.ofNat m) i = true → i < 5 := by decide +kernel
theorem low5 {x : Int32} (h0 : 0 ≤ x.toInt) (h1 : x.toInt < 32) {i : Nat} (il : i < 32) (hb : bt x i = true) : i < 5 := by
  have f := ncT h0
  have g := bt5 (Int32.toNatClampNeg x) (by omega) i il
  rw [nc32 h0] at g
  exact g hb
theorem sh5A : ∀ m, m < 6 → 1 ≤ ((1 : Int32) <<< (Int32.ofNat m &&& 31)).toInt ∧ ((1 : Int32) <<< (Int32.ofNat m &&& 31)).toInt ≤ 32 := by decide +kernel
theorem sh5 {g : Int32} (h0 : 0 ≤ g.toInt) (h1 : g.toInt ≤ 5) : 1 ≤ ((1 : Int32) <<< (g &&& 31)).toInt ∧ ((1 : Int32) <<< (g &&& 31)).toInt ≤ 32 := by
  have f := ncT h0
  have e := sh5A (Int32.toNatClampNeg g) (by omega)
  rw [nc32 h0] at e
  exact e
theorem sh5bA : ∀ m, m < 6 → ∀ i, i < m → bt (((1 : Int32) <<< (Int32.ofNat m &&& 31)) - 1) i = true := by decide +kernel
theorem sh5b {g : Int32} (h0 : 0 ≤ g.toInt) (h1 : g.toInt ≤ 5) {i : Nat} (hi5 : (i : Int) < g.toInt) : bt (((1 : Int32) <<< (g &&& 31)) - 1) i = true := by
  have f := ncT h0
  have e := sh5bA (Int32.toNatClampNeg g) (by omega) i (by omega)
  rw [nc32 h0] at e
  exact e
theorem low_lt {x : Int32} (h0 : 0 ≤ x.toInt) (h1 : x.toInt < 32) {q : Int32 × Hp} (a : 0 ≤ q.1.toInt) (b : q.1.toInt < 32) (c : bt x (Int32.toNatClampNeg q.1) = true) : q.1.toInt < 5 := by
  have f := ncT a
  have := low5 h0 h1 (by omega) c
  omega
theorem nz1 {x : Int32} (h : 1 ≤ x.toInt) : x ≠ 0 := fun q => by
  rw [q] at h
  exact absurd h (by decide)
set_option maxHeartbeats 4000000 in
theorem sf_paired {h0 : Hp} (s0 : rS h0) : ∀ n : Nat, (∀ (h : Hp) (l1 : Int32), jA h0 h → 1 ≤ l1.toInt → l1.toInt ≤ 32 → (1000 : Int) + 20 * (33 - l1.toInt) < n → Ok (W_X12_fillsPaired n 9 h l1 0 0 0) (fun q => jA h0 q ∧ True)) ∧ (∀ (h : Hp) (l1 l2 l3 l4 : Int32), jA h0 h → 1 ≤ l1.toInt → l1.toInt < 32 → 0 ≤ l2.toInt → l2.toInt < 5 → 0 ≤ l3.toInt → l3.toInt < 32 → 0 ≤ l4.toInt → l4.toInt ≤ 6 → (1000 : Int) + 20 * (33 - l1.toInt) - 1 - l4.toInt < n → Ok (W_X12_fillsPaired n 54 h l1 l2 l3 l4) (fun q => jA h0 q ∧ True)) := by
  have g0 := s0.2.2.2.1
  intro n
  induction n with
  | zero => exact ⟨by intro h l1 j a b c; exfalso; omega, by intro h l1 l2 l3 l4 j a b c d e f g i k; exfalso; omega⟩
  | succ n ih =>
    refine ⟨?_, ?_⟩
    · intro h l1 j a b c
      have f1 := liR s0 j.ks
      have f2 := gnR s0 j.ks
      have f3 := sh5 (g := hi h 242 (Int32.toNatClampNeg (hi h 226 18))) (by omega) (by omega)
      have f9 := lit_1
      rw [u_X12_fillsPaired]
      refine Ok.pos rfl ?_
      refine Ok.chk (ixT (by omega) (by omega)) (fun c1 => ?_)
      refine Ok.le (fun _ => Ok.ret ⟨j, trivial⟩) (fun c2 => ?_)
      refine Ok.bind (sf_X12_lowestOf (by omega) (nz1 a)) (fun q3 hq3 => ?_)
      obtain ⟨e3, w1, w2, w3, -⟩ := hq3
      rw [e3]
      have w4 := low_lt (by omega) (by omega) w1 w2 w3
      have w5 := anL l1 (((1 : Int32) <<< (q3.1 &&& 31)) ^^^ (-1)) (by omega)
      have w6 := adT q3.1 1
      refine Ok.chk (ixT (by omega) (by omega)) (fun c3 => ?_)
      refine Ok.chk (ixT (by omega) (by omega)) (fun c4 => ?_)
      exact ih.2 _ l1 q3.1 _ (q3.1 + 1) (JAw rfl j rfl (by decide) (by decide)) a (by omega) w1 w4 w5.1 (by omega) (by omega) (by omega) (by omega)
    · intro h l1 l2 l3 l4 j a b c d e f g i k
      have f9 := lit_1
      have f5 := lit_5
      have f6 := adT l4 1
      have f7 := adT l1 1
      rw [u_X12_fillsPaired]
      refine Ok.neg (by decide) ?_
      refine Ok.pos rfl ?_
      refine Ok.le (fun c1 => ?_) (fun c1 => ?_)
      · exact ih.1 h (l1 + 1) j (by omega) (by omega) (by omega)
      · refine Ok.ite (fun _ => ?_) (fun _ => ih.2 h l1 l2 l3 (l4 + 1) j a b c d e f (by omega) (by omega) (by omega))
        refine Ok.bind (sa_X12_pairedWith s0 n h l2 l4 l3 (by omega) j c d g (by omega) e f) (fun q9 hq9 => ?_)
        rw [hq9.1]
        refine Ok.chk (ixT (by omega) (by omega)) (fun c3 => ?_)
        refine Ok.ite (fun _ => ih.2 h l1 l2 l3 (l4 + 1) j a b c d e f (by omega) (by omega) (by omega)) (fun _ => ?_)
        refine Ok.bind (sa_X12_pairedWith s0 n h l2 l4 l3 (by omega) j c d g (by omega) e f) (fun q13 hq13 => ?_)
        rw [hq13.1]
        refine Ok.pos c3 ?_
        exact ih.2 _ l1 l2 l3 (l4 + 1) (JAw rfl j rfl (by decide) (by decide)) a b c d e f (by omega) (by omega) (by omega)
theorem sf_X12_fillsPaired {h0 : Hp} (s0 : rS h0) (n : Nat) (h : Hp) (hn : 2000 ≤ n) (j : jA h0 h) : Ok (F_X12_fillsPaired n h) (fun q => jA h0 q ∧ True) := by
  have f1 := lit_1
  unfold F_X12_fillsPaired
  exact (sf_paired s0 n).1 _ 1 (JAw rfl j rfl (by decide) (by decide)) (by omega) (by omega) (by omega)
theorem sf_pOf {h0 : Hp} (s0 : rS h0) {h : Hp} (j : jA h0 h) {l1 l2 l3 : Int32} (a : 1 ≤ l1.toInt) (b : l1.toInt < 32) (c : 0 ≤ l2.toInt) (d : l2.toInt < 5) (e : 0 ≤ l3.toInt) (f : l3.toInt < 32) : ∀ n : Nat, ∀ l4 : Int32, 0 ≤ l4.toInt → l4.toInt ≤ 6 → (1000 : Int) + (6 - l4.toInt) < n → Ok (W_X12_pairedOf n 18 h l1 l2 l3 l4) (fun q => q.2 = h ∧ (q.1.toInt < 0 ∨ (0 ≤ q.1.toInt ∧ q.1.toInt < 5))) := by
  intro n
  induction n with
  | zero => intro l4 g i k; exfalso; omega
  | succ n ih =>
    intro l4 g i k
    have f9 := lit_1
    have f5 := lit_5
    have f6 := adT l4 1
    rw [u_X12_pairedOf]
    refine Ok.pos rfl ?_
    refine Ok.le (fun _ => Ok.ret ⟨rfl, Or.inl (show (-2 : Int32).toInt < 0 by decide)⟩) (fun c1 => ?_)
    refine Ok.ite (fun _ => ?_) (fun _ => ih (l4 + 1) (by omega) (by omega) (by omega))
    refine Ok.bind (sa_X12_pairedWith s0 n h l2 l4 l3 (by omega) j c d g (by omega) e f) (fun q3 hq3 => ?_)
    rw [hq3.1]
    refine Ok.chk (ixT (by omega) (by omega)) (fun c3 => ?_)
    refine Ok.ite (fun _ => Ok.ret ⟨rfl, Or.inr ⟨g, ?_⟩⟩) (fun _ => ih (l4 + 1) (by omega) (by omega) (by omega))
    show l4.toInt < 5
    omega
theorem sf_X12_pairedOf {h0 : Hp} (s0 : rS h0) (n : Nat) (h : Hp) (x1 : Int32) (hn : 2000 ≤ n) (j : jA h0 h) (a : 1 ≤ x1.toInt) (b : x1.toInt < 32) : Ok (F_X12_pairedOf n h x1) (fun q => q.2 = h ∧ (q.1.toInt < 0 ∨ (0 ≤ q.1.toInt ∧ q.1.toInt < 5))) := by
  have f9 := lit_1
  unfold F_X12_pairedOf
  refine Ok.bind (sf_X12_lowestOf (by omega) (nz1 a)) (fun q3 hq3 => ?_)
  obtain ⟨e3, w1, w2, w3, -⟩ := hq3
  rw [e3]
  have w4 := low_lt (by omega) (by omega) w1 w2 w3
  have w5 := anL x1 (((1 : Int32) <<< (q3.1 &&& 31)) ^^^ (-1)) (by omega)
  have w6 := adT q3.1 1
  exact sf_pOf s0 j a b w1 w4 w5.1 (by omega) n _ (by omega) (by omega) (by omega)
theorem bt_rm {x a f : Int32} (a0 : 0 ≤ a.toInt) (a1 : a.toInt < 32) (f0 : 0 ≤ f.toInt) (f1 : f.toInt < 32) (nn : a.toInt ≠ f.toInt) (h : bt x (Int32.toNatClampNeg f) = true) : bt (x &&& (((1 : Int32) <<< (a &&& 31)) ^^^ (-1))) (Int32.toNatClampNeg f) = true := by
  have g := ncT f0
  rw [bt_and, h, bt_not _ (by omega), bN1 a0 a1 f0 nn]
  rfl
theorem bt_pos {x : Int32} {i : Nat} (h0 : 0 ≤ x.toInt) (h : bt x i = true) : 1 ≤ x.toInt := by
  have : x.toInt ≠ 0 := fun q => ne_bt h (Int32.toInt_inj.mp (q.trans lit_0.symm))
  omega
/-- a lowest one taken away: less is left -/
theorem rm_lt {x a : Int32} (h0 : 0 ≤ x.toInt) (a0 : 0 ≤ a.toInt) (a1 : a.toInt < 32) (h : bt x (Int32.toNatClampNeg a) = true) : (x &&& (((1 : Int32) <<< (a &&& 31)) ^^^ (-1))).toInt < x.toInt := by
  have g := ncT a0
  have w := anL x (((1 : Int32) <<< (a &&& 31)) ^^^ (-1)) h0
  have : (x &&& (((1 : Int32) <<< (a &&& 31)) ^^^ (-1))).toInt ≠ x.toInt := by
    intro q
    have q2 := Int32.toInt_inj.mp q
    have q3 : bt (x &&& (((1 : Int32) <<< (a &&& 31)) ^^^ (-1))) (Int32.toNatClampNeg a) = true := by rw [q2]; exact h
    rw [bt_and, bt_not _ (by omega), btLc a0 a1, Bool.not_true, Bool.and_false] at q3
    cases q3
  omega
set_option maxHeartbeats 4000000 in
theorem sf_prs {h0 : Hp} (s0 : rS h0) {h : Hp} (j : jA h0 h) {l1 : Int32} (a : 0 ≤ l1.toInt) (b : l1.toInt < 5) : ∀ n : Nat, ∀ l2 : Int32, 0 ≤ l2.toInt → l2.toInt < 32 → bt l2 (Int32.toNatClampNeg l1) = true → (3000 : Int) + l2.toInt < n → Ok (W_X12_pairs n 61 h l1 l2) (fun q => q.2 = h ∧ True) := by
  intro n
  induction n with
  | zero => intro l2 c d e f; exfalso; omega
  | succ n ih =>
    intro l2 c d e f
    have p1 := bt_pos c e
    rw [u_X12_pairs]
    refine Ok.pos rfl ?_
    refine Ok.bind (sf_X12_lowestOf (by omega) (nz1 p1)) (fun q1 hq1 => ?_)
    obtain ⟨e1, w1, w2, w3, -⟩ := hq1
    rw [e1]
    refine Ok.bind (sf_X12_pairedOf s0 n h l2 (by omega) j p1 d) (fun q3 hq3 => ?_)
    obtain ⟨e3, v1⟩ := hq3
    rw [e3]
    refine Ok.eq (fun _ => Ok.ret ⟨rfl, trivial⟩) (fun c1 => ?_)
    refine Ok.eq (fun _ => Ok.ret ⟨rfl, trivial⟩) (fun c2 => ?_)
    have f1 := lit_0
    have r1 := rm_lt c w1 w2 w3
    have r2 := anL l2 (((1 : Int32) <<< (q1.1 &&& 31)) ^^^ (-1)) c
    have r3 := bt_rm w1 w2 a (by omega) c1 e
    refine Ok.lt (fun c3 => ih _ r2.1 (by omega) r3 (by omega)) (fun c3 => ?_)
    have r4 := anL (l2 &&& (((1 : Int32) <<< (q1.1 &&& 31)) ^^^ (-1))) (((1 : Int32) <<< (q3.1 &&& 31)) ^^^ (-1)) r2.1
    exact ih _ r4.1 (by omega) (bt_rm (by omega) (by omega) a (by omega) c2 r3) (by omega)
theorem sf_X12_pairs {h0 : Hp} (s0 : rS h0) (n : Nat) (h : Hp) (x1 : Int32) (hn : 17179869184 ≤ n) (j : jA h0 h) : Ok (F_X12_pairs n h x1) (fun q => jA h0 q.2 ∧ True) := by
  have f0 := lit_0
  have fm := lit_m1
  have f1 := lit_1
  have tl (q9 : Hp) (jq : jA h0 q9) (hx : x1.toInt = -1 ∨ (0 ≤ x1.toInt ∧ x1.toInt < gnN h0)) : Ok (if ixOK (hi q9 226 18) 2 = true then (if (x1 : Int32) = ((-1) : Int32) then (if ixOK (((1 : Int32) <<< (((hi q9 242 (Int32.toNatClampNeg (hi q9 226 18))) : Int32) &&& 31)) - 1) 32 = true then (if ixOK (hi q9 226 18) 2 = true then some (((hi q9 270 (Int32.toNatClampNeg (((1 : Int32) <<< (((hi q9 242 (Int32.toNatClampNeg (hi q9 226 18))) : Int32) &&& 31)) - 1))) + (10000 * ((hi q9 242 (Int32.toNatClampNeg (hi q9 226 18))) / 2))), q9) else none) else none) else W_X12_pairs n 61 q9 x1 (((1 : Int32) <<< (((hi q9 242 (Int32.toNatClampNeg (hi q9 226 18))) : Int32) &&& 31)) - 1)) else none) (fun q => jA h0 q.2 ∧ True) := by
    have g1 := liR s0 jq.ks
    have g2 := gnR s0 jq.ks
    have g3 := sh5 (g := hi q9 242 (Int32.toNatClampNeg (hi q9 226 18))) (by omega) (by omega)
    have g4 := sbT ((1 : Int32) <<< ((hi q9 242 (Int32.toNatClampNeg (hi q9 226 18))) &&& 31)) 1
    refine Ok.chk (ixT (by omega) (by omega)) (fun c1 => ?_)
    refine Ok.eq (fun c2 => ?_) (fun c2 => ?_)
    · refine Ok.chk (ixT (by omega) (by omega)) (fun c3 => ?_)
      exact Ok.pos c1 (Ok.ret ⟨jq, trivial⟩)
    · have g5 : 0 ≤ x1.toInt ∧ x1.toInt < gnN h0 := by omega
      have g6 := ncT g5.1
      refine (sf_prs s0 jq g5.1 (by omega) n _ (by omega) (by omega) (sh5b (by omega) (by omega) (by omega)) (by omega)).mono (fun q hq => ⟨?_, trivial⟩)
      rw [hq.1]
      exact jq
  unfold F_X12_pairs
  refine Ok.eq (fun c1 => ?_) (fun c1 => ?_)
  · refine Ok.bind (sf_X12_fillsPaired s0 n h (by omega) j) (fun q9 hq9 => ?_)
    exact tl q9 hq9.1 (Or.inl (by omega))
  · refine Ok.bind (sa_X12_isGoer s0 n h x1 (by omega) j) (fun q15 hq15 => ?_)
    obtain ⟨e15, y1⟩ := hq15
    rw [e15]
    refine Ok.eq (fun _ => Ok.ret ⟨j, trivial⟩) (fun c2 => ?_)
    refine Ok.bind (sf_X12_fillsPaired s0 n h (by omega) j) (fun q18 hq18 => ?_)
    exact tl q18 hq18.1 (Or.inr (y1.2.2 (by omega)))
