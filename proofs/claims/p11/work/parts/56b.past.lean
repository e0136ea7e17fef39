/-! WHAT WAS: the class's ring, the reference's rows -/
/-- the row u of a store -/
def rwU (h : Hp) (a u : Nat) : Nat → Int32 := fun k => hi h a (63 * u + k)
/-- both keep the same rows, the newest first -/
def PST (c G : Nat) (h : Hp) : Prop := ∃ n p : Nat, (n ≤ 40 ∧ p < 40) ∧ ((hi h 38 2).toInt = (n : Int) ∧ (hi h 226 59).toInt = (n : Int) ∧ (hi h 38 1).toInt = (p : Int)) ∧ ∀ j, j < n → SCR c G (rwU h 266 (n - 1 - j)) (40 + 4 * ((p + 40 - j) % 40)) h ∧ RVR c G (rwU h 266 (n - 1 - j))
/-- the class has kept its scene -/
def KC (h q : Hp) : Prop := ∃ p p' : Nat, (p < 40 ∧ (hi h 38 1).toInt = (p : Int) ∧ p' = (p + 1) % 40) ∧ ((hi q 38 1).toInt = (p' : Int) ∧ hi q 38 2 = (if (40 : Int32) < hi h 38 2 + 1 then 40 else hi h 38 2 + 1)) ∧ ((∀ k, k < 4 → hi q (40 + 4 * p') k = hi h 30 k) ∧ (∀ k, k < 25 → hi q (40 + 4 * p' + 1) k = hi h 31 k) ∧ (∀ k, k < 5 → hi q (40 + 4 * p' + 2) k = hi h 32 k) ∧ ∀ k, k < 5 → hi q (40 + 4 * p' + 3) k = hi h 33 k) ∧ ∀ a k, a ≠ 38 → ¬ (40 + 4 * p' ≤ a ∧ a ≤ 40 + 4 * p' + 3) → hi q a k = hi h a k
/-- the reference has kept its row, and taken the new one -/
def KRr (h q : Hp) : Prop := (∀ k, k < 63 → hi q 262 k = hi h 263 k) ∧ ∀ n : Nat, (hi h 226 59).toInt = (n : Int) → n ≤ 40 → ∃ m : Nat, m = (if n = 40 then 39 else n) ∧ (hi q 226 59).toInt = ((m + 1 : Nat) : Int) ∧ (∀ k, k < 63 → hi q 266 (63 * m + k) = hi h 262 k) ∧ ∀ u, u < m → ∀ k, k < 63 → hi q 266 (63 * u + k) = hi h 266 (63 * (u + (if n = 40 then 1 else 0)) + k)
section R56B
variable {c G : Nat} {h q : Hp} {n : Nat}
theorem kp_c (r : 0 ≤ (hi h 38 1).toInt ∧ (hi h 38 1).toInt ≤ 39) : Pc (F_X6_keep n h 30) (KC h) := by
  have f1 := lit_1
  have f40 := lit_40
  obtain ⟨p, hp⟩ : ∃ p : Nat, (hi h 38 1).toInt = (p : Int) := ⟨(hi h 38 1).toInt.toNat, by omega⟩
  have a1 := adT (hi h 38 1) 1 (by omega) (by omega)
  have m1 := rmN (x := hi h 38 1 + 1) (y := 40) (a := p + 1) (b := 40) (by omega) (by omega)
  unfold F_X6_keep
  generalize ex : ((hi h 38 1 + 1) - (hi h 38 1 + 1) / 40 * 40 : Int32) = x at m1 ⊢
  have n1 := ncT (show 0 ≤ x.toInt by omega)
  have n2 : Int32.toNatClampNeg x = (p + 1) % 40 := by omega
  have e81 : hi (wrI h 38 1 x) 38 1 = x := hiE rfl
  rw [e81, n2]
  refine Pc.chk (fun _ => ?_)
  generalize eg : wrI h 38 1 x = g
  generalize ep : (p + 1) % 40 = p' at m1
  refine Pc.bind (fun y e => And.intro (bcm8 (a := 40 + 4 * p') (b := 30) (by omega) y e) (zf_X8_become y e)) (fun q2 hq => ?_)
  obtain ⟨⟨b1, b2, b3, b4⟩, z⟩ := hq
  have zz (k : Nat) : hi q2 38 k = hi g 38 k := z.1 38 k (by omega)
  have gg (a k : Nat) (ne : a ≠ 38) : hi g a k = hi h a k := hiA eg a k ne
  refine Pc.ret ⟨p, p', ⟨by omega, hp, ep.symm⟩, ⟨?_, ?_⟩, ⟨fun k hk => ?_, fun k hk => ?_, fun k hk => ?_, fun k hk => ?_⟩, fun a k h1 h2 => ?_⟩
  · rw [hi_wrI, if_neg (by decide), zz, hiE eg]; exact m1
  · rw [hi_wrI, if_pos ⟨rfl, rfl⟩, zz, hiK eg 38 2 (by decide)]
  · rw [hi_wrI, if_neg (by omega), b1 k hk, gg 30 k (by decide)]
  · rw [hi_wrI, if_neg (by omega), b2 k hk, gg 31 k (by decide)]
  · rw [hi_wrI, if_neg (by omega), b3 k hk, gg 32 k (by decide)]
  · rw [hi_wrI, if_neg (by omega), b4 k hk, gg 33 k (by decide)]
  · rw [hi_wrI, if_neg (by omega), z.1 a k (by omega), gg a k h1]
theorem rc_51 {h0 : Hp} {m : Nat} (m40 : m < 40) : ∀ (n : Nat) (h : Hp) (l1 : Int32) (i : Nat), l1.toInt = (i : Int) → i ≤ 63 → (∀ a k, a ≠ 266 → hi h a k = hi h0 a k) → (hi h0 226 59).toInt = (m : Int) → (∀ k, k < i → hi h 266 (63 * m + k) = hi h0 262 k) → (∀ k, k < 63 * m → hi h 266 k = hi h0 266 k) → Pc (W_X12_records n 51 h l1) (fun q => (∀ k, k < 63 → hi q 262 k = hi h0 263 k) ∧ (hi q 226 59).toInt = ((m + 1 : Nat) : Int) ∧ (∀ k, k < 63 → hi q 266 (63 * m + k) = hi h0 262 k) ∧ ∀ k, k < 63 * m → hi q 266 k = hi h0 266 k) := by
  intro n
  induction n with
  | zero => intro h l1 i a b c d e f; exact Pc.no
  | succ n ih =>
    intro h l1 i a b c d e f
    have f63 := lit_63
    have f1 := lit_1
    rw [u_X12_records]
    refine Pc.neg (by decide) (Pc.pos rfl ?_)
    refine Pc.le (fun c1 => ?_) (fun c1 => ?_)
    · refine Pc.bind (fun y e => And.intro (kr_row y e) (zf_X12_keepsRow y e)) (fun q5 h5 => Pc.ret ?_)
      obtain ⟨k5, z5⟩ := h5
      have a1 := adT (hi h 226 59) 1 (by rw [c 226 59 (by decide)]; omega) (by rw [c 226 59 (by decide)]; omega)
      rw [c 226 59 (by decide)] at a1
      refine ⟨fun k hk => ?_, ?_, fun k hk => ?_, fun k hk => ?_⟩
      · rw [k5 k hk, hi_wrI, if_neg (by omega)]
        exact c 263 k (by decide)
      · rw [z5.1 226 59 (by decide), hi_wrI, if_pos ⟨rfl, rfl⟩, c 226 59 (by decide)]
        omega
      · rw [z5.1 266 _ (by omega), hi_wrI, if_neg (by omega)]
        exact e k (by omega)
      · rw [z5.1 266 _ (by omega), hi_wrI, if_neg (by omega)]
        exact f k hk
    · refine Pc.chk (fun _ => Pc.chk (fun _ => ?_))
      have e59 : hi h 226 59 = hi h0 226 59 := c 226 59 (by decide)
      rw [e59]
      have m63 := mlT 63 (hi h0 226 59) 63 lit_63 (by omega) (by omega)
      have a2 := adT (63 * hi h0 226 59) l1 (by omega) (by omega)
      have n1 := ncT (show 0 ≤ l1.toInt by omega)
      have n2 : Int32.toNatClampNeg l1 = i := by omega
      have n3 := ncT (show 0 ≤ (63 * hi h0 226 59 + l1).toInt by omega)
      have n4 : Int32.toNatClampNeg (63 * hi h0 226 59 + l1) = 63 * m + i := by omega
      have a1 := adT l1 1 (by omega) (by omega)
      rw [n2, n4]
      refine ih _ (l1 + 1) (i + 1) (by omega) (by omega) (fun a k ne => by rw [hi_wrI, if_neg (fun z => ne z.1)]; exact c a k ne) d (fun k hk => ?_) (fun k hk => ?_)
      · rw [hi_wrI]
        by_cases y : k = i
        · rw [if_pos ⟨rfl, by omega⟩, y]; exact c 262 i (by decide)
        · rw [if_neg (by omega)]; exact e k (by omega)
      · rw [hi_wrI, if_neg (by omega)]; exact f k hk
theorem rc_11 {h0 : Hp} (d : (hi h0 226 59).toInt = 40) : ∀ (n : Nat) (h : Hp) (l1 : Int32) (i : Nat), l1.toInt = (i : Int) → i ≤ 2457 → (∀ a k, a ≠ 266 → hi h a k = hi h0 a k) → (∀ k, k < i → hi h 266 k = hi h0 266 (k + 63)) → (∀ k, i ≤ k → hi h 266 k = hi h0 266 k) → Pc (W_X12_records n 11 h l1) (fun q => (∀ k, k < 63 → hi q 262 k = hi h0 263 k) ∧ (hi q 226 59).toInt = 40 ∧ (∀ k, k < 63 → hi q 266 (63 * 39 + k) = hi h0 262 k) ∧ ∀ k, k < 63 * 39 → hi q 266 k = hi h0 266 (k + 63)) := by
  intro n
  induction n with
  | zero => intro h l1 i a b c e f; exact Pc.no
  | succ n ih =>
    intro h l1 i a b c e f
    have f2 : (2457 : Int32).toInt = 2457 := by decide
    have f63 := lit_63
    have f1 := lit_1
    have f0 := lit_0
    rw [u_X12_records]
    refine Pc.pos rfl ?_
    refine Pc.le (fun c1 => ?_) (fun c1 => ?_)
    · have s1 := sbT (hi h 226 59) 1 (by rw [c 226 59 (by decide)]; omega) (by rw [c 226 59 (by decide)]; omega)
      rw [c 226 59 (by decide)] at s1
      generalize eg : wrI h 226 59 (hi h 226 59 - 1) = g
      have g59 : (hi g 226 59).toInt = ((39 : Nat) : Int) := by
        rw [hiE eg, c 226 59 (by decide)]; omega
      refine (rc_51 (h0 := g) (m := 39) (by decide) n g 0 0 f0 (by decide) (fun _ _ _ => rfl) g59 (fun k hk => absurd hk (Nat.not_lt_zero k)) (fun _ _ => rfl)).mono (fun q hq => ?_)
      obtain ⟨k1, k2, k3, k4⟩ := hq
      refine ⟨fun k hk => ?_, by rw [k2]; rfl, fun k hk => ?_, fun k hk => ?_⟩
      · rw [k1 k hk, hiA eg 263 k (by decide)]; exact c 263 k (by decide)
      · rw [k3 k hk, hiA eg 262 k (by decide)]; exact c 262 k (by decide)
      · rw [k4 k hk, hiA eg 266 k (by decide)]; exact e k (by omega)
    · refine Pc.chk (fun _ => Pc.chk (fun _ => ?_))
      have n1 := ncT (show 0 ≤ l1.toInt by omega)
      have n2 : Int32.toNatClampNeg l1 = i := by omega
      have a1 := adT l1 1 (by omega) (by omega)
      have a2 := adT l1 63 (by omega) (by omega)
      have n3 := ncT (show 0 ≤ (l1 + 63).toInt by omega)
      have n4 : Int32.toNatClampNeg (l1 + 63) = i + 63 := by omega
      rw [n2, n4]
      refine ih _ (l1 + 1) (i + 1) (by omega) (by omega) (fun a k ne => by rw [hi_wrI, if_neg (fun z => ne z.1)]; exact c a k ne) (fun k hk => ?_) (fun k hk => ?_)
      · rw [hi_wrI]
        by_cases y : k = i
        · rw [if_pos ⟨rfl, y⟩, y]; exact f (i + 63) (by omega)
        · rw [if_neg (fun z => y z.2)]; exact e k (by omega)
      · rw [hi_wrI, if_neg (by omega)]; exact f k (by omega)
theorem kp_r (r : 0 ≤ (hi h 226 59).toInt ∧ (hi h 226 59).toInt ≤ 40) : Pc (F_X12_records n h) (KRr h) := by
  have f0 := lit_0
  have f40 := lit_40
  unfold F_X12_records
  refine Pc.eq (fun c1 => ?_) (fun c1 => ?_)
  · refine (rc_11 (h0 := h) (by omega) n h 0 0 f0 (by decide) (fun _ _ _ => rfl) (fun k hk => absurd hk (Nat.not_lt_zero k)) (fun _ _ => rfl)).mono (fun q hq => ?_)
    obtain ⟨k1, k2, k3, k4⟩ := hq
    refine ⟨k1, fun m hm m40 => ⟨39, ?_, by rw [k2]; rfl, k3, fun u hu k hk => ?_⟩⟩
    · rw [if_pos (by omega)]
    · rw [if_pos (by omega), k4 _ (by omega), show 63 * u + k + 63 = 63 * (u + 1) + k by omega]
  · obtain ⟨m, hm⟩ : ∃ m : Nat, (hi h 226 59).toInt = (m : Int) := ⟨(hi h 226 59).toInt.toNat, by omega⟩
    refine (rc_51 (h0 := h) (m := m) (by omega) n h 0 0 f0 (by decide) (fun _ _ _ => rfl) hm (fun k hk => absurd hk (Nat.not_lt_zero k)) (fun _ _ => rfl)).mono (fun q hq => ?_)
    obtain ⟨k1, k2, k3, k4⟩ := hq
    refine ⟨k1, fun m' hm' m40 => ⟨m, ?_, k2, k3, fun u hu k hk => ?_⟩⟩
    · rw [if_neg (by omega)]
      omega
    · rw [if_neg (by omega), k4 _ (by omega)]
      rfl
/-- the row that was stays kept by both -/
theorem PST.keep {h0 qa hb : Hp} (x : PST c G h0) (c25 : c ≤ 25) (G5 : G ≤ 5) (s : SCR c G (hi h0 262) 30 h0) (r : RVR c G (hi h0 262)) (kc : KC h0 qa) (e1 : ∀ a k, 38 ≤ a → a < 200 → hi q a k = hi qa a k) (kr : KRr hb q) (e2 : hi hb 226 59 = hi h0 226 59) (e3 : ∀ k, hi hb 262 k = hi h0 262 k) (e4 : ∀ k, hi hb 266 k = hi h0 266 k) : PST c G q := by
  have f1 := lit_1
  have f40 := lit_40
  obtain ⟨n, p0, ⟨n40, p40⟩, ⟨x1, x2, x3⟩, x4⟩ := x
  obtain ⟨p, p', ⟨y1, y2, y3⟩, ⟨y4, y5⟩, ⟨y6, y7, y8, y9⟩, y10⟩ := kc
  have ep : p0 = p := by omega
  subst ep
  obtain ⟨m, m1, m2, m3, m4⟩ := kr.2 n (by rw [e2]; exact x2) n40
  have a1 := adT (hi h0 38 2) 1 (by omega) (by omega)
  have mn : m + 1 ≤ 40 ∧ m ≤ n ∧ (n = 40 → m = 39) ∧ (n ≠ 40 → m = n) := by
    by_cases z : n = 40
    · rw [if_pos z] at m1; omega
    · rw [if_neg z] at m1; omega
  have sz : (hi q 38 2).toInt = ((m + 1 : Nat) : Int) := by
    rw [e1 38 2 (by decide) (by decide), y5]
    by_cases z : n = 40
    · rw [if_pos (Int32.lt_iff_toInt_lt.mpr (by omega))]; omega
    · rw [if_neg (fun w => by have := Int32.lt_iff_toInt_lt.mp w; omega)]; omega
  refine ⟨m + 1, p', ⟨mn.1, by omega⟩, ⟨sz, m2, by rw [e1 38 1 (by decide) (by decide)]; exact y4⟩, fun j hj => ?_⟩
  by_cases z : j = 0
  · have ej : (p' + 40 - j) % 40 = p' := by omega
    have er : m + 1 - 1 - j = m := by omega
    rw [ej, er]
    have row (k : Nat) (hk : k < 63) : rwU q 266 m k = hi h0 262 k := (m3 k hk).trans (e3 k)
    refine ⟨(s.to c25 G5 (b := 40 + 4 * p') (fun k hk => ?_) (fun k hk => ?_) (fun k hk => ?_) (fun k hk => ?_)).cg c25 G5 row, r.cg G5 (fun k hk => row k (by omega))⟩
    · rw [e1 _ k (by omega) (by omega)]; exact y6 k hk
    · rw [e1 _ k (by omega) (by omega)]; exact y7 k hk
    · rw [e1 _ k (by omega) (by omega)]; exact y8 k hk
    · rw [e1 _ k (by omega) (by omega)]; exact y9 k hk
  · obtain ⟨s1, r1⟩ := x4 (j - 1) (by omega)
    have ej : (p' + 40 - j) % 40 = (p0 + 40 - (j - 1)) % 40 := by omega
    have ne : (p0 + 40 - (j - 1)) % 40 ≠ p' := by omega
    have l40 : (p0 + 40 - (j - 1)) % 40 < 40 := Nat.mod_lt _ (by decide)
    have row (k : Nat) (hk : k < 63) : rwU q 266 (m + 1 - 1 - j) k = rwU h0 266 (n - 1 - (j - 1)) k := by
      have := m4 (m + 1 - 1 - j) (by omega) k hk
      refine this.trans ((e4 _).trans ?_)
      have ei : m + 1 - 1 - j + (if n = 40 then 1 else 0) = n - 1 - (j - 1) := by
        by_cases w : n = 40
        · rw [if_pos w]; omega
        · rw [if_neg w]; omega
      rw [ei]
      rfl
    rw [ej]
    generalize (p0 + 40 - (j - 1)) % 40 = i at ne l40 s1
    have fr (a k : Nat) (h1 : 40 + 4 * i ≤ a) (h2 : a ≤ 40 + 4 * i + 3) : hi q a k = hi h0 a k := by
      rw [e1 a k (by omega) (by omega)]
      exact y10 a k (by omega) (by omega)
    exact ⟨(s1.to c25 G5 (b := 40 + 4 * i) (fun k _ => fr _ k (by omega) (by omega)) (fun k _ => fr _ k (by omega) (by omega)) (fun k _ => fr _ k (by omega) (by omega)) (fun k _ => fr _ k (by omega) (by omega))).cg c25 G5 row, r1.cg G5 (fun k hk => row k (by omega))⟩
/-- nothing was kept or taken back -/
theorem PST.same {h0 : Hp} (x : PST c G h0) (c25 : c ≤ 25) (G5 : G ≤ 5) (e1 : ∀ a k, 38 ≤ a → a < 200 → hi q a k = hi h0 a k) (e2 : hi q 226 59 = hi h0 226 59) (e4 : ∀ k, hi q 266 k = hi h0 266 k) : PST c G q := by
  obtain ⟨n, p, ⟨n40, p40⟩, ⟨x1, x2, x3⟩, x4⟩ := x
  refine ⟨n, p, ⟨n40, p40⟩, ⟨by rw [e1 38 2 (by decide) (by decide)]; exact x1, by rw [e2]; exact x2, by rw [e1 38 1 (by decide) (by decide)]; exact x3⟩, fun j hj => ?_⟩
  obtain ⟨s1, r1⟩ := x4 j hj
  have l40 : (p + 40 - j) % 40 < 40 := Nat.mod_lt _ (by decide)
  generalize (p + 40 - j) % 40 = i at l40 s1
  have row (k : Nat) (_ : k < 63) : rwU q 266 (n - 1 - j) k = rwU h0 266 (n - 1 - j) k := e4 _
  have fr (a k : Nat) (h1 : 40 + 4 * i ≤ a) (h2 : a ≤ 40 + 4 * i + 3) : hi q a k = hi h0 a k := e1 a k (by omega) (by omega)
  exact ⟨(s1.to c25 G5 (b := 40 + 4 * i) (fun k _ => fr _ k (by omega) (by omega)) (fun k _ => fr _ k (by omega) (by omega)) (fun k _ => fr _ k (by omega) (by omega)) (fun k _ => fr _ k (by omega) (by omega))).cg c25 G5 row, r1.cg G5 (fun k hk => row k (by omega))⟩
/-- all that was is forgotten -/
theorem PST.none (e1 : hi q 38 2 = 0) (e2 : (hi q 38 1).toInt ≤ 39) (e3 : 0 ≤ (hi q 38 1).toInt) (e4 : hi q 226 59 = 0) : PST c G q := by
  have f0 := lit_0
  exact ⟨0, (hi q 38 1).toInt.toNat, ⟨Nat.zero_le _, by omega⟩, ⟨by rw [e1]; exact f0, by rw [e4]; exact f0, by omega⟩, fun j hj => absurd hj (Nat.not_lt_zero j)⟩
end R56B
