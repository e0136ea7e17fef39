/-! WHAT WAS: taken back by both -/
section R56C
variable {c G : Nat} {h q : Hp} {n : Nat}
/-- the class has taken back -/
def TC (h : Hp) (q : Int32 × Hp) : Prop := ((hi h 38 2).toInt = 0 → q.1 = 0 ∧ q.2 = h) ∧ ((hi h 38 2).toInt ≠ 0 → q.1 = 1 ∧ ∃ p : Nat, (p < 40 ∧ (hi h 38 1).toInt = (p : Int)) ∧ (((hi q.2 38 1).toInt = (((p + 39) % 40 : Nat) : Int)) ∧ hi q.2 38 2 = hi h 38 2 - 1) ∧ ((∀ k, k < 4 → hi q.2 30 k = hi h (40 + 4 * p) k) ∧ (∀ k, k < 25 → hi q.2 31 k = hi h (40 + 4 * p + 1) k) ∧ (∀ k, k < 5 → hi q.2 32 k = hi h (40 + 4 * p + 2) k) ∧ ∀ k, k < 5 → hi q.2 33 k = hi h (40 + 4 * p + 3) k) ∧ ∀ a k, a ≠ 38 → ¬ (30 ≤ a ∧ a ≤ 33) → hi q.2 a k = hi h a k)
def TR (h : Hp) (q : Int32 × Hp) : Prop := ((hi h 226 59).toInt = 0 → q.1 = 0 ∧ q.2 = h) ∧ ∀ m : Nat, (hi h 226 59).toInt = ((m + 1 : Nat) : Int) → q.1 = 1 ∧ (hi q.2 226 59).toInt = (m : Int) ∧ (∀ k, k < 63 → hi q.2 262 k = hi h 266 (63 * m + k)) ∧ ∀ k, hi q.2 266 k = hi h 266 k
theorem tb_c (r : 0 ≤ (hi h 38 1).toInt ∧ (hi h 38 1).toInt ≤ 39) : Pc (F_X6_takeBack n h 30) (TC h) := by
  have f0 := lit_0
  have f1 := lit_1
  have f40 := lit_40
  obtain ⟨p, hp⟩ : ∃ p : Nat, (hi h 38 1).toInt = (p : Int) := ⟨(hi h 38 1).toInt.toNat, by omega⟩
  unfold F_X6_takeBack
  refine Pc.eq (fun c1 => Pc.ret ⟨fun _ => ⟨rfl, rfl⟩, fun z => absurd (c1.trans f0) z⟩) (fun c1 => ?_)
  have n1 := ncT (show 0 ≤ (hi h 38 1).toInt by omega)
  have n2 : Int32.toNatClampNeg (hi h 38 1) = p := by omega
  rw [n2]
  refine Pc.chk (fun _ => ?_)
  refine Pc.bind (fun y e => And.intro (bcm8 (a := 30) (b := 40 + 4 * p) (by omega) y e) (zf_X8_become y e)) (fun q3 hq => ?_)
  obtain ⟨⟨b1, b2, b3, b4⟩, z⟩ := hq
  have zz (k : Nat) : hi q3 38 k = hi h 38 k := z.1 38 k (by omega)
  have a1 := adT (hi h 38 1) 40 (by omega) (by omega)
  have s1 := sbT (hi h 38 1 + 40) 1 (by omega) (by omega)
  have m1 := rmN (x := hi h 38 1 + 40 - 1) (y := 40) (a := p + 39) (b := 40) (by omega) (by omega)
  rw [zz 1]
  generalize ex : (hi h 38 1 + 40 - 1 - (hi h 38 1 + 40 - 1) / 40 * 40 : Int32) = x at m1 ⊢
  refine Pc.ret ⟨fun w => absurd (w.trans f0.symm) c1, fun _ => ⟨rfl, p, ⟨by omega, hp⟩, ⟨?_, ?_⟩, ⟨fun k hk => ?_, fun k hk => ?_, fun k hk => ?_, fun k hk => ?_⟩, fun a k h1 h2 => ?_⟩⟩
  · show (hi (wrI (wrI q3 38 1 x) 38 2 (hi q3 38 2 - 1)) 38 1).toInt = _
    rw [hi_wrI, if_neg (by decide), hi_wrI, if_pos ⟨rfl, rfl⟩]
    exact m1
  · show hi (wrI (wrI q3 38 1 x) 38 2 (hi q3 38 2 - 1)) 38 2 = _
    rw [hi_wrI, if_pos ⟨rfl, rfl⟩, zz]
  · show hi (wrI (wrI q3 38 1 x) 38 2 (hi q3 38 2 - 1)) 30 k = _
    rw [hi_wrI, if_neg (by omega), hi_wrI, if_neg (by omega)]
    exact b1 k hk
  · show hi (wrI (wrI q3 38 1 x) 38 2 (hi q3 38 2 - 1)) 31 k = _
    rw [hi_wrI, if_neg (by omega), hi_wrI, if_neg (by omega)]
    exact b2 k hk
  · show hi (wrI (wrI q3 38 1 x) 38 2 (hi q3 38 2 - 1)) 32 k = _
    rw [hi_wrI, if_neg (by omega), hi_wrI, if_neg (by omega)]
    exact b3 k hk
  · show hi (wrI (wrI q3 38 1 x) 38 2 (hi q3 38 2 - 1)) 33 k = _
    rw [hi_wrI, if_neg (by omega), hi_wrI, if_neg (by omega)]
    exact b4 k hk
  · show hi (wrI (wrI q3 38 1 x) 38 2 (hi q3 38 2 - 1)) a k = _
    rw [hi_wrI, if_neg (by omega), hi_wrI, if_neg (by omega)]
    exact z.1 a k (by omega)
theorem ub_21 {h0 : Hp} {m : Nat} (m40 : m < 40) (e59 : (hi h0 226 59).toInt = (m : Int)) : ∀ (n : Nat) (h : Hp) (l1 : Int32) (i : Nat), l1.toInt = (i : Int) → i ≤ 63 → (∀ a k, a ≠ 262 → hi h a k = hi h0 a k) → (∀ k, k < i → hi h 262 k = hi h0 266 (63 * m + k)) → Pc (W_X12_undo n 21 h l1) (fun q => q.1 = 1 ∧ (∀ a k, a ≠ 262 → hi q.2 a k = hi h0 a k) ∧ ∀ k, k < 63 → hi q.2 262 k = hi h0 266 (63 * m + k)) := by
  intro n
  induction n with
  | zero => intro h l1 i a b c e; exact Pc.no
  | succ n ih =>
    intro h l1 i a b c e
    have f63 := lit_63
    have f1 := lit_1
    rw [u_X12_undo]
    refine Pc.pos rfl ?_
    refine Pc.le (fun c1 => Pc.ret ⟨rfl, c, fun k hk => e k (by omega)⟩) (fun c1 => Pc.chk (fun _ => Pc.chk (fun _ => ?_)))
    rw [c 226 59 (by decide)]
    have m63 := mlT 63 (hi h0 226 59) 63 lit_63 (by omega) (by omega)
    have a2 := adT (63 * hi h0 226 59) l1 (by omega) (by omega)
    have n1 := ncT (show 0 ≤ l1.toInt by omega)
    have n2 : Int32.toNatClampNeg l1 = i := by omega
    have n3 := ncT (show 0 ≤ (63 * hi h0 226 59 + l1).toInt by omega)
    have n4 : Int32.toNatClampNeg (63 * hi h0 226 59 + l1) = 63 * m + i := by omega
    have a1 := adT l1 1 (by omega) (by omega)
    rw [n2, n4]
    refine ih _ (l1 + 1) (i + 1) (by omega) (by omega) (fun a k ne => by rw [hi_wrI, if_neg (fun z => ne z.1)]; exact c a k ne) (fun k hk => ?_)
    rw [hi_wrI]
    by_cases y : k = i
    · rw [if_pos ⟨rfl, y⟩, y]; exact c 266 _ (by decide)
    · rw [if_neg (fun z => y z.2)]; exact e k (by omega)
theorem ub_r (r : 0 ≤ (hi h 226 59).toInt ∧ (hi h 226 59).toInt ≤ 40) : Pc (F_X12_undo n h) (TR h) := by
  have f0 := lit_0
  have f1 := lit_1
  unfold F_X12_undo
  refine Pc.eq (fun c1 => Pc.ret ⟨fun _ => ⟨rfl, rfl⟩, fun m hm => by exfalso; omega⟩) (fun c1 => ?_)
  obtain ⟨m, hm⟩ : ∃ m : Nat, (hi h 226 59).toInt = ((m + 1 : Nat) : Int) := ⟨((hi h 226 59).toInt - 1).toNat, by omega⟩
  have s1 := sbT (hi h 226 59) 1 (by omega) (by omega)
  generalize eg : wrI h 226 59 (hi h 226 59 - 1) = g
  have e59 : (hi g 226 59).toInt = (m : Int) := by rw [hiE eg]; omega
  refine (ub_21 (h0 := g) (m := m) (by omega) e59 n g 0 0 f0 (by decide) (fun _ _ _ => rfl) (fun k hk => absurd hk (Nat.not_lt_zero k))).mono (fun q hq => ?_)
  obtain ⟨k1, k2, k3⟩ := hq
  refine ⟨fun z => absurd (z.trans f0.symm) c1, fun m' hm' => ?_⟩
  have em : m' = m := by omega
  subst em
  refine ⟨k1, by rw [k2 226 59 (by decide)]; exact e59, fun k hk => ?_, fun k => ?_⟩
  · rw [k3 k hk, hiA eg 266 _ (by decide)]
  · rw [k2 266 k (by decide), hiA eg 266 k (by decide)]
/-- both take back the same -/
theorem PST.undo {h0 : Hp} {qc qr : Int32 × Hp} (x : PST c G h0) (c25 : c ≤ 25) (G5 : G ≤ 5) (tc : TC h0 qc) (tr : TR qc.2 qr) (e0 : ∀ a k, 226 ≤ a → hi qc.2 a k = hi h0 a k) (e1 : ∀ a k, a < 226 → hi qr.2 a k = hi qc.2 a k) : qc.1 = qr.1 ∧ PST c G qr.2 ∧ ((qc.2 = h0 ∧ qr.2 = h0) ∨ (SCR c G (hi qr.2 262) 30 qr.2 ∧ RVR c G (hi qr.2 262) ∧ ∀ a k, a ≠ 38 → ¬ (30 ≤ a ∧ a ≤ 33) → a < 226 → hi qr.2 a k = hi h0 a k)) := by
  have f0 := lit_0
  have f1 := lit_1
  have x0 := x
  obtain ⟨n, p0, ⟨n40, p40⟩, ⟨x1, x2, x3⟩, x4⟩ := x
  obtain ⟨t1, t2⟩ := tc
  obtain ⟨r1, r2⟩ := tr
  rw [e0 226 59 (by decide)] at r1 r2
  by_cases z : n = 0
  · obtain ⟨u1, u2⟩ := t1 (by omega)
    obtain ⟨w1, w2⟩ := r1 (by omega)
    have eq : qr.2 = h0 := w2.trans u2
    exact ⟨u1.trans w1.symm, by rw [eq]; exact x0, Or.inl ⟨u2, eq⟩⟩
  · obtain ⟨u1, p, ⟨u2, u3⟩, ⟨u4, u5⟩, ⟨u6, u7, u8, u9⟩, u10⟩ := t2 (by omega)
    obtain ⟨m, hm⟩ : ∃ m, n = m + 1 := ⟨n - 1, by omega⟩
    subst hm
    obtain ⟨w1, w2, w3, w4⟩ := r2 m x2
    have ep : p0 = p := by omega
    subst ep
    have s1 := sbT (hi h0 38 2) 1 (by omega) (by omega)
    have row (k : Nat) (hk : k < 63) : hi qr.2 262 k = rwU h0 266 m k := (w3 k hk).trans (e0 266 _ (by decide))
    obtain ⟨v1, v2⟩ := x4 0 (by omega)
    have ei : (p0 + 40 - 0) % 40 = p0 := by omega
    have em : m + 1 - 1 - 0 = m := by omega
    rw [ei, em] at v1
    rw [em] at v2
    have fr (a k : Nat) (h1 : 40 ≤ a) (h2 : a < 226) : hi qr.2 a k = hi h0 a k := by
      rw [e1 a k h2]
      exact u10 a k (by omega) (by omega)
    refine ⟨u1.trans w1.symm, ⟨m, (p0 + 39) % 40, ⟨by omega, Nat.mod_lt _ (by decide)⟩, ⟨?_, w2, ?_⟩, fun j hj => ?_⟩, Or.inr ⟨?_, v2.cg G5 (fun k hk => row k (by omega)), fun a k h1 h2 h3 => ?_⟩⟩
    · rw [e1 38 2 (by decide), u5, s1]; omega
    · rw [e1 38 1 (by decide)]; exact u4
    · obtain ⟨y1, y2⟩ := x4 (j + 1) (by omega)
      have ej : ((p0 + 39) % 40 + 40 - j) % 40 = (p0 + 40 - (j + 1)) % 40 := by omega
      have er : m - 1 - j = m + 1 - 1 - (j + 1) := by omega
      rw [ej, er]
      have l40 : (p0 + 40 - (j + 1)) % 40 < 40 := Nat.mod_lt _ (by decide)
      generalize (p0 + 40 - (j + 1)) % 40 = i at l40 y1
      have rj (k : Nat) (_ : k < 63) : rwU qr.2 266 (m + 1 - 1 - (j + 1)) k = rwU h0 266 (m + 1 - 1 - (j + 1)) k := (w4 _).trans (e0 266 _ (by decide))
      exact ⟨(y1.to c25 G5 (b := 40 + 4 * i) (fun k _ => fr _ k (by omega) (by omega)) (fun k _ => fr _ k (by omega) (by omega)) (fun k _ => fr _ k (by omega) (by omega)) (fun k _ => fr _ k (by omega) (by omega))).cg c25 G5 rj, y2.cg G5 (fun k hk => rj k (by omega))⟩
    · refine (v1.to c25 G5 (b := 30) (fun k hk => ?_) (fun k hk => ?_) (fun k hk => ?_) (fun k hk => ?_)).cg c25 G5 row
      · rw [e1 30 k (by decide)]; exact u6 k hk
      · rw [e1 31 k (by decide)]; exact u7 k hk
      · rw [e1 32 k (by decide)]; exact u8 k hk
      · rw [e1 33 k (by decide)]; exact u9 k hk
    · rw [e1 a k h3]; exact u10 a k h1 h2
end R56C
