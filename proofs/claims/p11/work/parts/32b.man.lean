/-! spreading, WAY, PAIRS: by hand -/
theorem sa_spreadBits {h0 : Hp} (s0 : rS h0) (n : Nat) (h : Hp) (hn : 17179869300 ≤ n) (j : jA h0 h) : Ok (F_X12_spreadBits n h) (fun q => jA h0 q.2 ∧ (jD h q.2 ∧ ∀ i, i < 32 → bt q.1 i = true → (i : Int) + 1 < cnN h0 ∧ 0 < (hi h 263 i).toInt)) := by
  have e1 := j.ks.cn
  exact (sf_X12_spreadBits (h0 := h) (j.ks.st s0) j.r0 n h hn (jD.rf h)).mono (fun q hq => ⟨j.deep hq.1, hq.1, fun i il z => by have := hq.2 i il z; rw [e1] at this; exact this⟩)
theorem JAsp {h0 h h1 h2 : Hp} {c k1 k2 : Nat} {b v : Int32} (e1 : wrI h 263 k1 b = h1) (e2 : wrI h1 263 k2 v = h2) (j : jA h0 h) (hc : c + 1 < 25) (hk1 : k1 = c + 1) (hk2 : k2 = c + 26) (hb : b = hi h 263 c) (hp : 0 < b.toInt) (hv : 0 ≤ v.toInt ∧ v.toInt < b.toInt) : jA h0 h2 ∧ (∀ i, 0 < (hi h 263 i).toInt → i < 25 → 0 < (hi h2 263 i).toInt) := by
  subst e1 e2 hk1 hk2
  have e0 (i : Nat) : hi (wrI (wrI h 263 (c + 1) b) 263 (c + 26) v) 263 i = if i = c + 26 then v else if i = c + 1 then b else hi h 263 i := by
    rw [hi_wrI, hi_wrI]
    by_cases q : i = c + 26
    · rw [if_pos q, if_pos ⟨rfl, q⟩]
    · rw [if_neg q, if_neg (fun z => q z.2)]
      by_cases q2 : i = c + 1
      · rw [if_pos q2, if_pos ⟨rfl, q2⟩]
      · rw [if_neg q2, if_neg (fun z => q2 z.2)]
  have hb6 := j.2.2.1.1 c (by omega)
  rw [← hb] at hb6
  refine ⟨⟨fun a' k' q => ?_, fun a' k' => j.2.1 a' k', ⟨fun i il => ?_, fun i h1 h2 => ?_⟩, fun i il h1 => ?_, fun k' => ?_⟩, fun i h1 il => ?_⟩
  · rw [hi_wrI, if_neg (fun z => by rw [z.1] at q; cases q), hi_wrI, if_neg (fun z => by rw [z.1] at q; cases q)]
    exact j.1 a' k' q
  · rw [e0, if_neg (by omega)]
    by_cases q : i = c + 1
    · rw [if_pos q]; exact hb6
    · rw [if_neg q]; exact j.2.2.1.1 i il
  · rw [e0, if_neg (by omega), if_neg (by omega)]
    exact j.2.2.1.2 i h1 h2
  · have a1 : hi (wrI (wrI h 263 (c + 1) b) 263 (c + 26) v) 263 i = if i = c + 1 then b else hi h 263 i := by rw [e0, if_neg (by omega)]
    have a2 := e0 (25 + i)
    rw [a1] at h1 ⊢
    rw [a2]
    by_cases q : i = c + 1
    · rw [if_pos q] at h1 ⊢
      rw [if_pos (by omega)]
      exact hv
    · rw [if_neg q] at h1 ⊢
      rw [if_neg (by omega), if_neg (by omega)]
      exact j.2.2.2.1 i il h1
  · rw [hi_wrI, if_neg (fun z => absurd z.1 (by decide)), hi_wrI, if_neg (fun z => absurd z.1 (by decide))]
    exact j.2.2.2.2 k'
  · rw [e0, if_neg (by omega)]
    by_cases q : i = c + 1
    · rw [if_pos q]; exact hp
    · rw [if_neg q]; exact h1
set_option maxHeartbeats 4000000 in
theorem sf_spr {h0 : Hp} (s0 : rS h0) : ∀ n : Nat, ∀ (h : Hp) (l1 l2 : Int32), jA h0 h → 0 ≤ l2.toInt → (∀ i, i < 32 → bt l1 i = true → (i : Int) + 1 < cnN h0 ∧ 0 < (hi h 263 i).toInt) → (17179869185 : Int) < n → (17179869185 : Int) + (26 - l2.toInt) < n → Ok (W_X12_spreads n 7 h l1 l2) (fun q => jA h0 q ∧ True) := by
  have f0 := cnR s0
  intro n
  induction n with
  | zero => intro h l1 l2 j a b e d; exfalso; omega
  | succ n ih =>
    intro h l1 l2 j a b e d
    have f1 := ncT a
    have f4 := lit_0
    have f3 := lit_1
    have f2 := adT l2 1
    rw [u_X12_spreads]
    refine Ok.pos rfl ?_
    refine Ok.bind (sa_X12_cells s0 n h (by omega) j) (fun q1 hq1 => ?_)
    obtain ⟨e1, x1⟩ := hq1
    rw [e1]
    refine Ok.le (fun c1 => Ok.ret ⟨j, trivial⟩) (fun c1 => ?_)
    have z := btS0 l1 a (by omega)
    refine Ok.ite (fun _ => ih h l1 (l2 + 1) j (by omega) b (by omega) (by omega)) (fun c2 => ?_)
    have c3 : bt l1 (Int32.toNatClampNeg l2) = true := by
      cases q : bt l1 (Int32.toNatClampNeg l2) with
      | true => rfl
      | false => exact absurd (Int32.toInt_inj.mp ((z.mpr q).trans lit_0.symm)) c2
    obtain ⟨k1, k2⟩ := b _ (by omega) c3
    refine Ok.bind (sa_X12_tuneBits s0 n h (by omega) j) (fun q5 hq5 => ?_)
    rw [hq5.1]
    refine Ok.bind (sa_X12_bits s0 n h q5.1 (by omega) j) (fun q7 hq7 => ?_)
    rw [hq7.1]
    refine Ok.ite (fun _ => ?_) (fun _ => ih h l1 (l2 + 1) j (by omega) b (by omega) (by omega))
    have g25 := lit_25
    have g26 := lit_26
    have m1 := adT 25 l2
    have m2 := adT l2 26
    have n1 := ncT (show 0 ≤ (l2 + 1 : Int32).toInt by omega)
    have n2 := ncT (show 0 ≤ (25 + l2 : Int32).toInt by omega)
    have n3 := ncT (show 0 ≤ (l2 + 26 : Int32).toInt by omega)
    refine Ok.chk (ixT (by omega) (by omega)) (fun c5 => ?_)
    refine Ok.chk (ixT (by omega) (by omega)) (fun c6 => ?_)
    refine Ok.chk (ixT (by omega) (by omega)) (fun c7 => ?_)
    refine Ok.pos c5 ?_
    generalize eg : wrI h 263 (Int32.toNatClampNeg (l2 + 1)) (hi h 263 (Int32.toNatClampNeg l2)) = g
    have r1 : hi g 263 (Int32.toNatClampNeg l2) = hi h 263 (Int32.toNatClampNeg l2) := hiK eg 263 _ (by omega)
    have r2 : hi g 263 (Int32.toNatClampNeg (25 + l2)) = hi h 263 (Int32.toNatClampNeg (25 + l2)) := hiK eg 263 _ (by omega)
    have o1 := j.2.2.2.1 (Int32.toNatClampNeg l2) (by omega) k2
    have b6 := j.2.2.1.1 (Int32.toNatClampNeg l2) (by omega)
    rw [show 25 + Int32.toNatClampNeg l2 = Int32.toNatClampNeg (25 + l2) by omega] at o1
    rw [r1, r2]
    refine Ok.div (by omega) ?_
    refine Ok.chk (ixT (by omega) (by omega)) (fun c8 => ?_)
    have a1 := adT (hi h 263 (Int32.toNatClampNeg (25 + l2))) 1
    have rm := rmG (hi h 263 (Int32.toNatClampNeg (25 + l2)) + 1) (hi h 263 (Int32.toNatClampNeg l2)) (by omega) k2
    obtain ⟨jn, pn⟩ := JAsp (c := Int32.toNatClampNeg l2) eg rfl j (by omega) (by omega) (show Int32.toNatClampNeg (l2 + 26) = _ by omega) rfl k2 rm
    exact ih _ l1 (l2 + 1) jn (by omega) (fun i il q => ⟨(b i il q).1, pn i (b i il q).2 (by have := (b i il q).1; omega)⟩) (by omega) (by omega)
theorem sf_X12_spreads {h0 : Hp} (s0 : rS h0) (n : Nat) (h : Hp) (hn : 34359738369 ≤ n) (j : jA h0 h) : Ok (F_X12_spreads n h) (fun q => jA h0 q ∧ True) := by
  have f0 := cnR s0
  have f1 := lit_0
  unfold F_X12_spreads
  refine Ok.bind (sa_spreadBits s0 n h (by omega) j) (fun q1 hq1 => ?_)
  obtain ⟨j1, d1, x1⟩ := hq1
  refine sf_spr s0 n q1.2 q1.1 0 j1 (by omega) (fun i il q => ?_) (by omega) (by omega)
  rw [d1.at 263 (fun _ => rfl)]
  exact x1 i il q
/-! who goes where -/
theorem tnS {h q g : Hp} {x v y : Int32} {c : Int} (e : wrI q 265 (Int32.toNatClampNeg x) v = g) (d : jD h q) (i : ∀ k : Nat, (k : Int) < x.toInt → 0 ≤ (hi h 265 k).toInt ∧ (hi h 265 k).toInt < c) (hx : 0 ≤ x.toInt) (hv : 0 ≤ v.toInt) (hv2 : v.toInt < c) (hy : y.toInt = x.toInt + 1) : ∀ k : Nat, (k : Int) < y.toInt → 0 ≤ (hi g 265 k).toInt ∧ (hi g 265 k).toInt < c := by
  intro k hk
  subst e
  have f := ncT hx
  rw [hi_wrI]
  by_cases z : k = Int32.toNatClampNeg x
  · rw [if_pos ⟨rfl, z⟩]; exact ⟨hv, hv2⟩
  · rw [if_neg (fun w => z w.2), d.at 265 (fun _ => rfl)]
    exact i k (by omega)
theorem tnW {h q g : Hp} {k0 : Nat} {v : Int32} {c m : Int} (e : wrI q 265 k0 v = g) (d : ∀ k, hi q 265 k = hi h 265 k) (i : ∀ k : Nat, (k : Int) < m → (hi h 265 k).toInt < c) (hv : v.toInt < c) : ∀ k : Nat, (k : Int) < m → (hi g 265 k).toInt < c := by
  intro k hk
  subst e
  rw [hi_wrI]
  by_cases z : k = k0
  · rw [if_pos ⟨rfl, z⟩]; exact hv
  · rw [if_neg (fun w => z w.2), d]
    exact i k hk
/-! WAY -/
def nearC (h0 : Hp) (c i : Nat) : Prop := ∃ k, k < 5 ∧ sdv (wdN h0).toNat (hgN h0).toNat c k = i
theorem near_sym {h0 : Hp} (s0 : rS h0) {c i : Nat} (hc : (c : Int) < cnN h0) (hn : nearC h0 c i) : nearC h0 i c ∧ (i : Int) < cnN h0 := by
  obtain ⟨k, h1, h2⟩ := hn
  have h3 := sdv_at s0 hc h1
  rw [h2] at h3
  exact ⟨h3.2.1, h3.1⟩
theorem nbO_iff {h0 : Hp} {x y : Int32} (s0 : rS h0) (h : nbO h0 x y) {i : Nat} (il : i < 32) : bt y i = true ↔ ∃ c : Nat, (c : Int) < cnN h0 ∧ bt x c = true ∧ nearC h0 c i := by
  have f0 := cnR s0
  rw [h i il]
  constructor
  · rintro ⟨c, k, h1, h2, h3, h4⟩
    exact ⟨c, by omega, h3, k, h2, h4⟩
  · rintro ⟨c, h1, h2, k, h3, h4⟩
    exact ⟨c, k, by omega, h3, h2, h4⟩
/-- behind each BEAT one is beside where one was; all on the lawn -/
def rchO (h0 : Hp) (f : Nat → Int32) (x : Int32) (m : Nat) : Prop := f 0 = (1 : Int32) <<< (x &&& 31) ∧ ∀ k, k < m → ∀ i, i < 32 → bt (f (k + 1)) i = true → ∃ c : Nat, (c : Int) < cnN h0 ∧ bt (f k) c = true ∧ nearC h0 c i
theorem sa_X12_nearBits {h0 : Hp} (s0 : rS h0) (n : Nat) (h : Hp) (x1 : Int32) (hn : 300 ≤ n) (j : jA h0 h) : Ok (F_X12_nearBits n h x1) (fun q => q.2 = h ∧ nbO h0 x1 q.1) := by
  have e1 := j.ks.cn
  have e2 := j.ks.wd
  have e3 := j.ks.hg
  refine (sf_X12_nearBits (h0 := h) (j.ks.st s0) j.r0 n h x1 hn (jD.rf h)).mono (fun q hq => ⟨hq.1, ?_⟩)
  have z := hq.2
  unfold nbO nbP at z ⊢
  rw [e1, e2, e3] at z
  exact z
set_option maxHeartbeats 4000000 in
theorem sf_reach {h0 : Hp} (s0 : rS h0) {x : Int32} : ∀ n : Nat, ∀ (h : Hp) (b1 : Nat) (l2 l3 l4 : Int32), jA h0 h → (b1 = 267 ∨ b1 = 268) → 1 ≤ l4.toInt → l4.toInt ≤ 101 → rchO h0 (hi h b1) x (Int32.toNatClampNeg l4 - 1) → (17179869185 : Int) < n → (17179869185 : Int) + (101 - l4.toInt) < n → Ok (W_X12_fillsReach n 9 h b1 l2 l3 l4) (fun q => jA h0 q ∧ (rchO h0 (hi q b1) x 100)) := by
  intro n
  induction n with
  | zero => intro h b1 l2 l3 l4 j p a b c e d; exfalso; omega
  | succ n ih =>
    intro h b1 l2 l3 l4 j p a b c e d
    have f1 := ncT (show 0 ≤ l4.toInt by omega)
    have f2 := lit_100
    have f3 := lit_1
    have f5 := adT l4 1 (by omega) (by omega)
    rw [u_X12_fillsReach]
    refine Ok.pos rfl ?_
    generalize ey : (l4 - 1 : Int32) = y
    have f4 := sbG ey rfl lit_1 (by omega) (by omega)
    refine Ok.lt (fun c1 => ?_) (fun c1 => ?_)
    · refine Ok.ret ⟨j, ?_⟩
      rw [show Int32.toNatClampNeg l4 - 1 = 100 by omega] at c
      exact c
    · refine Ok.chk (ixT (by omega) (by omega)) (fun c2 => ?_)
      have g1 := ncT (show 0 ≤ y.toInt by omega)
      refine Ok.bind (sa_X12_nearBits s0 n h _ (by omega) j) (fun q3 hq3 => ?_)
      obtain ⟨e3, x3⟩ := hq3
      rw [e3]
      refine Ok.bind (sa_X12_safeBits s0 n h _ (by omega) j) (fun q5 hq5 => ?_)
      rw [hq5.1]
      refine Ok.chk (ixT (by omega) (by omega)) (fun c4 => ?_)
      have g2 := ncT (show 0 ≤ (l4 + 1 : Int32).toInt by omega)
      refine ih _ b1 l2 l3 (l4 + 1) (JAb p rfl j) p (by omega) (by omega) ?_ (by omega) (by omega)
      have ra (k : Nat) (hk : k ≠ Int32.toNatClampNeg l4) : hi (wrI h b1 (Int32.toNatClampNeg l4) (q3.1 &&& q5.1)) b1 k = hi h b1 k := by
        rw [hi_wrI, if_neg (fun z => hk z.2)]
      have rb : hi (wrI h b1 (Int32.toNatClampNeg l4) (q3.1 &&& q5.1)) b1 (Int32.toNatClampNeg l4) = q3.1 &&& q5.1 := by
        rw [hi_wrI, if_pos ⟨rfl, rfl⟩]
      refine ⟨by rw [ra 0 (by omega)]; exact c.1, fun k hk i il q => ?_⟩
      by_cases z : k + 1 = Int32.toNatClampNeg l4
      · rw [z, rb, bt_and, Bool.and_eq_true] at q
        rw [ra k (by omega), show k = Int32.toNatClampNeg y by omega]
        exact (nbO_iff s0 x3 il).mp q.1
      · rw [ra (k + 1) z] at q
        rw [ra k (by omega)]
        exact c.2 k (by omega) i il q
theorem sf_X12_fillsReach {h0 : Hp} (s0 : rS h0) (n : Nat) (h : Hp) (b1 : Nat) (x2 x3 : Int32) (hn : 34359738369 ≤ n) (j : jA h0 h) (p0 : b1 = 267 ∨ b1 = 268) : Ok (F_X12_fillsReach n h b1 x2 x3) (fun q => jA h0 q ∧ rchO h0 (hi q b1) x2 100) := by
  have f1 := lit_1
  have f2 := ncT (show 0 ≤ (1 : Int32).toInt by omega)
  unfold F_X12_fillsReach
  refine sf_reach s0 n _ b1 x2 x3 1 (JAb p0 rfl j) p0 (by omega) (by omega) ⟨?_, fun k hk => by omega⟩ (by omega) (by omega)
  rw [hi_wrI, if_pos ⟨rfl, rfl⟩]
theorem sb_first {h : Hp} {l1 l2 : Int32} (a : 0 ≤ l1.toInt) (b : l1.toInt < 32) (c : l2.toInt ≤ 100) : ∀ n : Nat, ∀ l3 : Int32, 0 ≤ l3.toInt → l3.toInt ≤ 101 → (1 : Int) + (101 - l3.toInt) < n → Ok (W_X12_firstAt n 2 h l1 l2 l3) (fun q => q.2 = h ∧ q.1.toInt ≤ 100 ∧ (0 ≤ q.1.toInt → bt (hi h 267 (Int32.toNatClampNeg q.1)) (Int32.toNatClampNeg l1) = true)) := by
  intro n
  induction n with
  | zero => intro l3 d e f; exfalso; omega
  | succ n ih =>
    intro l3 d e f
    have f1 := ncT d
    have f2 := lit_1
    have f3 := adT l3 1
    rw [u_X12_firstAt]
    refine Ok.pos rfl ?_
    refine Ok.lt (fun c1 => ?_) (fun c1 => ?_)
    · exact Ok.ret ⟨rfl, show (-2 : Int32).toInt ≤ 100 by decide, fun q => absurd q (show ¬ 0 ≤ (-2 : Int32).toInt by decide)⟩
    · refine Ok.chk (ixT (by omega) (by omega)) (fun c2 => ?_)
      refine Ok.eq (fun c3 => ?_) (fun c3 => ih (l3 + 1) (by omega) (by omega) (by omega))
      refine Ok.ret ⟨rfl, ?_, fun _ => ?_⟩
      · show l3.toInt ≤ 100; omega
      · rw [lit_1] at c3
        exact (btS1 _ a b).mp c3
theorem sb_X12_firstAt {n : Nat} {h : Hp} {x1 : Int32} (hn : 200 ≤ n) (a : 0 ≤ x1.toInt) (b : x1.toInt < 32) : Ok (F_X12_firstAt n h x1 100) (fun q => q.2 = h ∧ q.1.toInt ≤ 100 ∧ (0 ≤ q.1.toInt → bt (hi h 267 (Int32.toNatClampNeg q.1)) (Int32.toNatClampNeg x1) = true)) := by
  have f1 := lit_0
  unfold F_X12_firstAt
  exact sb_first a b (by decide) n 0 (by omega) (by omega) (by omega)
/-- behind k BEATS, of a way of n -/
def bckO (h0 : Hp) (r b : Nat → Int32) (lo n : Nat) : Prop := ∀ k, lo ≤ k → k ≤ n → (∀ i, i < 32 → bt (b k) i = true → bt (r k) i = true) ∧ (∃ i : Nat, (i : Int) < cnN h0 ∧ bt (b k) i = true) ∧ (k < n → ∀ i, i < 32 → bt (b k) i = true → ∃ c : Nat, (c : Int) < cnN h0 ∧ bt (b (k + 1)) c = true ∧ nearC h0 c i)
set_option maxHeartbeats 4000000 in
theorem sf_beh2 {h0 : Hp} (s0 : rS h0) {h : Hp} (j : jA h0 h) {N : Nat} (bk : bckO h0 (hi h 267) (hi h 269) 0 N) (hN : N ≤ 100) {l1 l2 l3 l4 : Int32} (h4 : l4.toInt ≤ N) : ∀ n : Nat, ∀ l5 l6 : Int32, 1 ≤ l6.toInt → l6.toInt ≤ 101 → 0 ≤ l5.toInt → l5.toInt < cnN h0 → (l6.toInt ≤ N + 1) → bt (hi h 269 (Int32.toNatClampNeg l6 - 1)) (Int32.toNatClampNeg l5) = true → (400 : Int) + (101 - l6.toInt) < n → Ok (W_X12_cellBehind n 59 h l1 l2 l3 l4 l5 l6) (fun q => jA h0 q.2 ∧ True) := by
  have f0 := cnR s0
  intro n
  induction n with
  | zero => intro l5 l6 a b c d e f g; exfalso; omega
  | succ n ih =>
    intro l5 l6 a b c d e f g
    have f1 := ncT c
    have f2 := ncT (show 0 ≤ l6.toInt by omega)
    have f3 := lit_1
    have f4 := adT l6 1
    rw [u_X12_cellBehind]
    refine Ok.neg (by decide) ?_
    refine Ok.pos rfl ?_
    refine Ok.lt (fun c1 => Ok.ret ⟨j, trivial⟩) (fun c1 => ?_)
    refine Ok.bind (sa_X12_nearBits s0 n h _ (by omega) j) (fun q8 hq8 => ?_)
    obtain ⟨e8, x8⟩ := hq8
    rw [e8]
    refine Ok.chk (ixT (by omega) (by omega)) (fun c2 => ?_)
    obtain ⟨-, -, b3⟩ := bk (Int32.toNatClampNeg l6 - 1) (by omega) (by omega)
    obtain ⟨y, y1, y2, y3⟩ := b3 (by omega) _ (by omega) f
    rw [show Int32.toNatClampNeg l6 - 1 + 1 = Int32.toNatClampNeg l6 by omega] at y2
    have y4 := near_sym s0 y1 y3
    have y5 : bt q8.1 y = true := (nbO_iff s0 x8 (by omega)).mpr ⟨Int32.toNatClampNeg l5, by omega, btLc c (by omega), y4.1⟩
    have y6 : q8.1 &&& hi h 269 (Int32.toNatClampNeg l6) ≠ 0 := ne_bt (i := y) (by rw [bt_and, y5, y2]; rfl)
    refine Ok.bind (sf_X12_lowestOf (by omega) y6) (fun q11 hq11 => ?_)
    obtain ⟨e11, w1, w2, w3, -⟩ := hq11
    rw [e11]
    have w4 := ncT w1
    have g2 := ncT (show 0 ≤ (l6 + 1 : Int32).toInt by omega)
    rw [bt_and, Bool.and_eq_true] at w3
    obtain ⟨c', v1, -, v3⟩ := (nbO_iff s0 x8 (by omega)).mp w3.1
    have v4 := (near_sym s0 v1 v3).2
    refine ih q11.1 (l6 + 1) (by omega) (by omega) w1 (by omega) (by omega) ?_ (by omega)
    rw [show Int32.toNatClampNeg (l6 + 1) - 1 = Int32.toNatClampNeg l6 by omega]
    exact w3.2
set_option maxHeartbeats 4000000 in
theorem sf_beh1 {h0 : Hp} (s0 : rS h0) {N : Nat} (hN : N ≤ 100) {l1 l2 l3 l4 : Int32} (h4 : l4.toInt ≤ N) (a1 : 0 ≤ l1.toInt) (a2 : l1.toInt < cnN h0) : ∀ n : Nat, ∀ (h : Hp) (l5 : Int32), jA h0 h → rchO h0 (hi h 267) l1 100 → -1 ≤ l5.toInt → l5.toInt < N → bckO h0 (hi h 267) (hi h 269) (l5.toInt + 1).toNat N → (1000 : Int) + (l5.toInt + 1) < n → Ok (W_X12_cellBehind n 14 h l1 l2 l3 l4 l5 0) (fun q => jA h0 q.2 ∧ True) := by
  have f0 := cnR s0
  intro n
  induction n with
  | zero => intro h l5 j r a b c d; exfalso; omega
  | succ n ih =>
    intro h l5 j r a b c d
    have f3 := lit_1
    have f9 := lit_0
    have f4 := adT l5 1
    rw [u_X12_cellBehind]
    refine Ok.pos rfl ?_
    refine Ok.lt (fun c1 => ?_) (fun c1 => ?_)
    · have c2 : (l5.toInt + 1).toNat = 0 := by omega
      rw [c2] at c
      have f1 := ncT a1
      have f2 := ncT (show 0 ≤ (1 : Int32).toInt by omega)
      refine sf_beh2 s0 j c hN h4 n l1 1 (by omega) (by omega) a1 a2 (by omega) ?_ (by omega)
      rw [show Int32.toNatClampNeg 1 - 1 = 0 by omega]
      obtain ⟨b1, ⟨i, i1, i2⟩, -⟩ := c 0 (Nat.le_refl 0) (Nat.zero_le _)
      have b2 := b1 i (by omega) i2
      rw [r.1, btL a1 (by omega), decide_eq_true_eq] at b2
      rw [← b2]
      exact i2
    · generalize ey : (l5 + (-1) : Int32) = y
      have f5 := adG ey rfl lit_m1 (by omega) (by omega)
      have f1 := ncT (show 0 ≤ l5.toInt by omega)
      have g1 := ncT (show 0 ≤ (l5 + 1 : Int32).toInt by omega)
      have g3 : Int32.toNatClampNeg (l5 + 1) = Int32.toNatClampNeg l5 + 1 := by omega
      refine Ok.chk (ixT (by omega) (by omega)) (fun c2 => ?_)
      refine Ok.bind (sa_X12_nearBits s0 n h _ (by omega) j) (fun q3 hq3 => ?_)
      obtain ⟨e3, x3⟩ := hq3
      rw [e3]
      refine Ok.chk (ixT (by omega) (by omega)) (fun c3 => ?_)
      refine Ok.pos c3 ?_
      generalize eg : wrI h 269 (Int32.toNatClampNeg l5) (q3.1 &&& hi h 267 (Int32.toNatClampNeg l5)) = g
      have r1 : hi g 267 = hi h 267 := funext fun k => hiA eg 267 k (by decide)
      have ra (k : Nat) (hk : k ≠ Int32.toNatClampNeg l5) : hi g 269 k = hi h 269 k := hiK eg 269 k hk
      have rb : hi g 269 (Int32.toNatClampNeg l5) = q3.1 &&& hi h 267 (Int32.toNatClampNeg l5) := hiE eg
      refine ih g y (JAw eg j rfl (by decide) (by decide)) (by rw [r1]; exact r) (by omega) (by omega) ?_ (by omega)
      intro k k1 k2
      by_cases z : k = Int32.toNatClampNeg l5
      · subst z
        have c5 := c (Int32.toNatClampNeg l5 + 1) (by omega) (by omega)
        refine ⟨fun i il q => ?_, ?_, fun _ i il q => ?_⟩
        · rw [rb, bt_and, Bool.and_eq_true] at q
          rw [r1]; exact q.2
        · obtain ⟨i, i1, i2⟩ := c5.2.1
          have i3 := c5.1 i (by omega) i2
          obtain ⟨y, y1, y2, y3⟩ := r.2 _ (by omega) i (by omega) i3
          have y4 := near_sym s0 y1 y3
          refine ⟨y, y1, ?_⟩
          rw [rb, bt_and, y2, Bool.and_true]
          refine (nbO_iff s0 x3 (by omega)).mpr ⟨i, i1, ?_, y4.1⟩
          rw [g3]; exact i2
        · rw [rb, bt_and, Bool.and_eq_true] at q
          obtain ⟨y, y1, y2, y3⟩ := (nbO_iff s0 x3 il).mp q.1
          refine ⟨y, y1, ?_, y3⟩
          rw [ra _ (by omega), ← g3]
          exact y2
      · have c5 := c k (by omega) k2
        rw [r1, ra k z]
        refine ⟨c5.1, c5.2.1, fun q i il w => ?_⟩
        rw [ra (k + 1) (by omega)]
        exact c5.2.2 q i il w
theorem sf_X12_cellBehind {h0 : Hp} (s0 : rS h0) (n : Nat) (h : Hp) (x1 x2 x3 x4 : Int32) (hn : 2000 ≤ n) (j : jA h0 h) (a1 : 0 ≤ x1.toInt) (a2 : x1.toInt < cnN h0) (b1 : 0 ≤ x2.toInt) (b2 : x2.toInt < cnN h0) (c1 : 0 ≤ x3.toInt) (c2 : x3.toInt ≤ 100) (d : x4.toInt ≤ x3.toInt) (r : rchO h0 (hi h 267) x1 100) (t : bt (hi h 267 (Int32.toNatClampNeg x3)) (Int32.toNatClampNeg x2) = true) : Ok (F_X12_cellBehind n h x1 x2 x3 x4) (fun q => jA h0 q.2 ∧ True) := by
  have f0 := cnR s0
  have f1 := ncT c1
  have f2 := ncT b1
  have f3 := lit_1
  unfold F_X12_cellBehind
  generalize ey : (x3 - 1 : Int32) = y
  have f4 := sbG ey rfl lit_1 (by omega) (by omega)
  refine Ok.chk (ixT (by omega) (by omega)) (fun c3 => ?_)
  generalize eg : wrI h 269 (Int32.toNatClampNeg x3) ((1 : Int32) <<< (x2 &&& 31)) = g
  have r1 : hi g 267 = hi h 267 := funext fun k => hiA eg 267 k (by decide)
  have rb : hi g 269 (Int32.toNatClampNeg x3) = (1 : Int32) <<< (x2 &&& 31) := hiE eg
  refine sf_beh1 s0 (N := Int32.toNatClampNeg x3) (by omega) (by omega) a1 a2 n g y (JAw eg j rfl (by decide) (by decide)) (by rw [r1]; exact r) (by omega) (by omega) ?_ (by omega)
  intro k k1 k2
  have z : k = Int32.toNatClampNeg x3 := by omega
  subst z
  rw [r1, rb]
  refine ⟨fun i il q => ?_, ⟨Int32.toNatClampNeg x2, by omega, btLc b1 (by omega)⟩, fun q => absurd q (Nat.lt_irrefl _)⟩
  rw [btL b1 (by omega), decide_eq_true_eq] at q
  rw [q]
  exact t
theorem sf_X12_way {h0 : Hp} (s0 : rS h0) (n : Nat) (h : Hp) (x1 x2 x3 : Int32) (hn : 51539607552 ≤ n) (j : jA h0 h) : Ok (F_X12_way n h x1 x2 x3) (fun q => jA h0 q.2 ∧ True) := by
  have f0 := cnR s0
  have f1 := lit_0
  unfold F_X12_way
  refine Ok.bind (sa_X12_areFree s0 n h x1 x2 (by omega) j) (fun q1 hq1 => ?_)
  obtain ⟨e1, x1'⟩ := hq1
  rw [e1]
  refine Ok.eq (fun _ => Ok.ret ⟨j, trivial⟩) (fun c1 => ?_)
  obtain ⟨a1, a2, a3, a4⟩ := x1' (by omega)
  refine Ok.ite (fun _ => ?_) (fun _ => Ok.ret ⟨j, trivial⟩)
  refine Ok.bind (sf_X12_copies s0 n h (by omega) j) (fun q5 hq5 => ?_)
  refine Ok.bind (sf_X12_fillsReach s0 n q5 267 x1 _ (by omega) hq5.1 (Or.inl rfl)) (fun q7 hq7 => ?_)
  refine Ok.bind (sb_X12_firstAt (by omega) a3 (by omega)) (fun q9 hq9 => ?_)
  obtain ⟨e9, y1, y2⟩ := hq9
  rw [e9]
  refine Ok.lt (fun _ => Ok.ret ⟨hq7.1, trivial⟩) (fun c2 => ?_)
  refine Ok.ite (fun _ => Ok.ret ⟨hq7.1, trivial⟩) (fun _ => ?_)
  refine Ok.le (fun c3 => ?_) (fun _ => Ok.ret ⟨hq7.1, trivial⟩)
  refine Ok.bind (sf_X12_cellBehind s0 n q7 x1 x2 q9.1 x3 (by omega) hq7.1 a1 a2 a3 a4 (by omega) y1 c3 hq7.2 (y2 (by omega))) (fun q14 hq14 => ?_)
  exact Ok.ret ⟨hq14.1, trivial⟩
