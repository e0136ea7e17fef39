/-! BEYOND THE LAWN: the reference -/
def offR (s : Nat) (h : Hp) (x y : Int32) : Prop := (hi h 235 s).toInt ≤ x.toInt ∨ (hi h 236 s).toInt ≤ y.toInt
def tnF (s : Nat) (h : Hp) (k : Nat) : Prop := offR s h (hi h 238 (8 * s + k)) (hi h 239 (8 * s + k))
def rpO (s : Nat) (h : Hp) (k : Nat) : Prop := offR s h (hi h 246 (8 * s + k)) (hi h 247 (8 * s + k))
def grP (s : Nat) (h : Hp) (g k : Nat) : Prop := (hi h 246 (8 * s + k)).toInt = (hi h 243 (5 * s + g)).toInt ∧ (hi h 247 (8 * s + k)).toInt = (hi h 244 (5 * s + g)).toInt
def grO (s : Nat) (h : Hp) (g : Nat) : Prop := offR s h (hi h 243 (5 * s + g)) (hi h 244 (5 * s + g)) ∨ ∃ k : Nat, (k : Int) < (hi h 245 s).toInt ∧ grP s h g k
def BR (s : Nat) (h : Hp) : Prop := (∃ k : Nat, (k : Int) < (hi h 237 s).toInt ∧ tnF s h k) ∨ (∃ k : Nat, (k : Int) < (hi h 245 s).toInt ∧ rpO s h k) ∨ ∃ g : Nat, (g : Int) < (hi h 242 s).toInt ∧ grO s h g
def brP (s : Nat) (h : Hp) (q : Int32 × Hp) : Prop := q.2 = h ∧ (q.1.toInt ≠ 0 ↔ BR s h)
section BE
variable {s : Nat} {h : Hp}
theorem br_off (hs : s ≤ 1) (sd : (hi h 226 19).toInt = (s : Int)) {n : Nat} {x y : Int32} : Pc (F_X12_isOff n h x y) (fun q => q.2 = h ∧ (q.1.toInt = 0 ↔ ¬ offR s h x y)) := by
  have f0 := lit_0
  have f1 := lit_1
  have n1 := ncT (show 0 ≤ (hi h 226 19).toInt by omega)
  have n2 : Int32.toNatClampNeg (hi h 226 19) = s := by omega
  have o1 : ¬ (1 : Int32).toInt = 0 := by omega
  unfold F_X12_isOff
  rw [n2]
  refine Pc.chk (fun _ => Pc.le (fun c => Pc.ret ⟨rfl, fun z => absurd z o1, fun z => absurd (Or.inl c) z⟩) (fun c => Pc.chk (fun _ => Pc.lt (fun c2 => Pc.ret ⟨rfl, fun _ z => ?_, fun _ => f0⟩) (fun c2 => Pc.ret ⟨rfl, fun z => absurd z o1, fun z => absurd (Or.inr c2) z⟩))))
  unfold offR at z
  omega
def brI (s : Nat) (h : Hp) : Prop := s ≤ 1 ∧ (hi h 226 19).toInt = (s : Int) ∧ (0 ≤ (hi h 237 s).toInt ∧ (hi h 237 s).toInt ≤ 8) ∧ (0 ≤ (hi h 242 s).toInt ∧ (hi h 242 s).toInt ≤ 5) ∧ 0 ≤ (hi h 245 s).toInt ∧ (hi h 245 s).toInt ≤ 8
set_option maxHeartbeats 4000000 in
theorem bq_g (I : brI s h) (nt : ¬ ∃ k : Nat, (k : Int) < (hi h 237 s).toInt ∧ tnF s h k) (nr : ¬ ∃ k : Nat, (k : Int) < (hi h 245 s).toInt ∧ rpO s h k) : ∀ n : Nat, (∀ (l1 l2 : Int32) (g : Nat), l1.toInt = 5 * s + g → (g : Int) ≤ (hi h 242 s).toInt → (∀ g', g' < g → ¬ grO s h g') → Pc (W_X12_isBeyond n 119 h l1 l2) (brP s h)) ∧ (∀ (l1 l2 : Int32) (g k : Nat), l1.toInt = 5 * s + g → (g : Int) < (hi h 242 s).toInt → (∀ g', g' < g → ¬ grO s h g') → ¬ offR s h (hi h 243 (5 * s + g)) (hi h 244 (5 * s + g)) → l2.toInt = 8 * s + k → (k : Int) ≤ (hi h 245 s).toInt → (∀ k', k' < k → ¬ grP s h g k') → Pc (W_X12_isBeyond n 168 h l1 l2) (brP s h)) := by
  obtain ⟨hs, sd, c1, c2, c3⟩ := I
  intro n
  induction n with
  | zero => exact ⟨fun _ _ _ _ _ _ => Pc.no, fun _ _ _ _ _ _ _ _ _ _ _ => Pc.no⟩
  | succ n ih =>
    have f0 := lit_0
    have f1 := lit_1
    have f5 := lit_5
    have f8 := lit_8
    have n1 := ncT (show 0 ≤ (hi h 226 19).toInt by omega)
    have n2 : Int32.toNatClampNeg (hi h 226 19) = s := by omega
    have m5 := mlT 5 (hi h 226 19) 5 f5 (by omega) (by omega)
    have m8 := mlT 8 (hi h 226 19) 8 f8 (by omega) (by omega)
    have p5 := adT (5 * hi h 226 19) (hi h 242 s) (by omega) (by omega)
    have p8 := adT (8 * hi h 226 19) (hi h 245 s) (by omega) (by omega)
    have o1 : (1 : Int32).toInt ≠ 0 := by omega
    refine ⟨fun l1 l2 g hl gl ng => ?_, fun l1 l2 g k hl gl ng nf hl2 kl nk => ?_⟩
    · have q1 := ncT (show 0 ≤ l1.toInt by omega)
      have q2 : Int32.toNatClampNeg l1 = 5 * s + g := by omega
      rw [u_X12_isBeyond]
      refine Pc.neg (by decide) (Pc.neg (by decide) (Pc.pos rfl ?_))
      rw [n2, q2]
      refine Pc.chk (fun _ => Pc.le (fun c => Pc.ret ⟨rfl, fun z => absurd f0 z, fun z => ?_⟩) (fun c => Pc.chk (fun _ => Pc.chk (fun _ => ?_))))
      · rcases z with z | z | ⟨g', z1, z2⟩
        · exact absurd z nt
        · exact absurd z nr
        · exact absurd z2 (ng g' (by omega))
      · refine Pc.bind (br_off hs sd) (fun q hq => ?_)
        obtain ⟨hq1, hq2⟩ := hq
        rw [hq1]
        refine Pc.eq (fun c3' => ?_) (fun c3' => Pc.ret ⟨rfl, fun _ => Or.inr (Or.inr ⟨g, by omega, Or.inl ?_⟩), fun _ => o1⟩)
        · refine ih.2 l1 _ g 0 hl (by omega) ng (hq2.mp (c3'.trans f0)) (by omega) (by omega) (fun k' hk' => absurd hk' (Nat.not_lt_zero k'))
        · by_cases w : offR s h (hi h 243 (5 * s + g)) (hi h 244 (5 * s + g))
          · exact w
          · exact absurd ((hq2.mpr w).trans f0.symm) c3'
    · have q1 := ncT (show 0 ≤ l1.toInt by omega)
      have q2 : Int32.toNatClampNeg l1 = 5 * s + g := by omega
      have q3 := ncT (show 0 ≤ l2.toInt by omega)
      have q4 : Int32.toNatClampNeg l2 = 8 * s + k := by omega
      have a1 := adT l1 1 (by omega) (by omega)
      have a2 := adT l2 1 (by omega) (by omega)
      rw [u_X12_isBeyond]
      refine Pc.neg (by decide) (Pc.neg (by decide) (Pc.neg (by decide) (Pc.pos rfl ?_)))
      rw [n2, q2, q4]
      have on (nk' : ¬ grP s h g k) (kk : (k : Int) < (hi h 245 s).toInt) : Pc (W_X12_isBeyond n 168 h l1 (l2 + 1)) (brP s h) := by
        refine ih.2 l1 (l2 + 1) g (k + 1) hl gl ng nf (by omega) (by omega) (fun k' hk' => ?_)
        by_cases w : k' = k
        · rw [w]; exact nk'
        · exact nk k' (by omega)
      refine Pc.chk (fun _ => Pc.le (fun c => ?_) (fun c => Pc.chk (fun _ => Pc.chk (fun _ => ?_))))
      · refine ih.1 (l1 + 1) 0 (g + 1) (by omega) (by omega) (fun g' hg' => ?_)
        by_cases w : g' = g
        · rw [w]
          rintro (z | ⟨k', z1, z2⟩)
          · exact nf z
          · exact nk k' (by omega) z2
        · exact ng g' (by omega)
      · refine Pc.eq (fun d1 => Pc.chk (fun _ => Pc.chk (fun _ => ?_))) (fun d1 => on (fun z => d1 z.1) (by omega))
        refine Pc.eq (fun d2 => Pc.ret ⟨rfl, fun _ => Or.inr (Or.inr ⟨g, gl, Or.inr ⟨k, by omega, d1, d2⟩⟩), fun _ => o1⟩) (fun d2 => on (fun z => d2 z.2) (by omega))
set_option maxHeartbeats 4000000 in
theorem bq_r (I : brI s h) (nt : ¬ ∃ k : Nat, (k : Int) < (hi h 237 s).toInt ∧ tnF s h k) : ∀ (n : Nat) (l1 l2 : Int32) (k : Nat), l1.toInt = 8 * s + k → (k : Int) ≤ (hi h 245 s).toInt → (∀ k', k' < k → ¬ rpO s h k') → Pc (W_X12_isBeyond n 64 h l1 l2) (brP s h) := by
  have I' := I
  obtain ⟨hs, sd, c1, c2, c3⟩ := I
  intro n
  induction n with
  | zero => intro _ _ _ _ _ _; exact Pc.no
  | succ n ih =>
    intro l1 l2 k hl kl nk
    have f0 := lit_0
    have f1 := lit_1
    have f5 := lit_5
    have f8 := lit_8
    have n1 := ncT (show 0 ≤ (hi h 226 19).toInt by omega)
    have n2 : Int32.toNatClampNeg (hi h 226 19) = s := by omega
    have m5 := mlT 5 (hi h 226 19) 5 f5 (by omega) (by omega)
    have m8 := mlT 8 (hi h 226 19) 8 f8 (by omega) (by omega)
    have p8 := adT (8 * hi h 226 19) (hi h 245 s) (by omega) (by omega)
    have o1 : (1 : Int32).toInt ≠ 0 := by omega
    have q1 := ncT (show 0 ≤ l1.toInt by omega)
    have q2 : Int32.toNatClampNeg l1 = 8 * s + k := by omega
    have a1 := adT l1 1 (by omega) (by omega)
    rw [u_X12_isBeyond]
    refine Pc.neg (by decide) (Pc.pos rfl ?_)
    rw [n2, q2]
    refine Pc.chk (fun _ => Pc.le (fun c => ?_) (fun c => Pc.chk (fun _ => Pc.chk (fun _ => ?_))))
    · refine (bq_g I' nt ?_ n).1 _ 0 0 (by omega) (by omega) (fun g' hg' => absurd hg' (Nat.not_lt_zero g'))
      rintro ⟨k', z1, z2⟩
      exact nk k' (by omega) z2
    · refine Pc.bind (br_off hs sd) (fun q hq => ?_)
      obtain ⟨hq1, hq2⟩ := hq
      rw [hq1]
      refine Pc.eq (fun c3' => ?_) (fun c3' => Pc.ret ⟨rfl, fun _ => Or.inr (Or.inl ⟨k, by omega, ?_⟩), fun _ => o1⟩)
      · refine ih (l1 + 1) 0 (k + 1) (by omega) (by omega) (fun k' hk' => ?_)
        by_cases w : k' = k
        · rw [w]; exact hq2.mp (c3'.trans f0)
        · exact nk k' (by omega)
      · by_cases w : rpO s h k
        · exact w
        · exact absurd ((hq2.mpr w).trans f0.symm) c3'
set_option maxHeartbeats 4000000 in
theorem bq_t (I : brI s h) : ∀ (n : Nat) (l1 l2 : Int32) (k : Nat), l1.toInt = 8 * s + k → (k : Int) ≤ (hi h 237 s).toInt → (∀ k', k' < k → ¬ tnF s h k') → Pc (W_X12_isBeyond n 8 h l1 l2) (brP s h) := by
  have I' := I
  obtain ⟨hs, sd, c1, c2, c3⟩ := I
  intro n
  induction n with
  | zero => intro _ _ _ _ _ _; exact Pc.no
  | succ n ih =>
    intro l1 l2 k hl kl nk
    have f0 := lit_0
    have f1 := lit_1
    have f8 := lit_8
    have n1 := ncT (show 0 ≤ (hi h 226 19).toInt by omega)
    have n2 : Int32.toNatClampNeg (hi h 226 19) = s := by omega
    have m8 := mlT 8 (hi h 226 19) 8 f8 (by omega) (by omega)
    have p8 := adT (8 * hi h 226 19) (hi h 237 s) (by omega) (by omega)
    have o1 : (1 : Int32).toInt ≠ 0 := by omega
    have q1 := ncT (show 0 ≤ l1.toInt by omega)
    have q2 : Int32.toNatClampNeg l1 = 8 * s + k := by omega
    have a1 := adT l1 1 (by omega) (by omega)
    rw [u_X12_isBeyond]
    refine Pc.pos rfl ?_
    rw [n2, q2]
    refine Pc.chk (fun _ => Pc.le (fun c => ?_) (fun c => Pc.chk (fun _ => Pc.chk (fun _ => ?_))))
    · refine bq_r I' ?_ n _ 0 0 (by omega) (by omega) (fun g' hg' => absurd hg' (Nat.not_lt_zero g'))
      rintro ⟨k', z1, z2⟩
      exact nk k' (by omega) z2
    · refine Pc.bind (br_off hs sd) (fun q hq => ?_)
      obtain ⟨hq1, hq2⟩ := hq
      rw [hq1]
      refine Pc.eq (fun c3' => ?_) (fun c3' => Pc.ret ⟨rfl, fun _ => Or.inl ⟨k, by omega, ?_⟩, fun _ => o1⟩)
      · refine ih (l1 + 1) 0 (k + 1) (by omega) (by omega) (fun k' hk' => ?_)
        by_cases w : k' = k
        · rw [w]; exact hq2.mp (c3'.trans f0)
        · exact nk k' (by omega)
      · by_cases w : tnF s h k
        · exact w
        · exact absurd ((hq2.mpr w).trans f0.symm) c3'
theorem br_beyond (I : brI s h) {n : Nat} : Pc (F_X12_isBeyond n h) (brP s h) := by
  have f8 := lit_8
  have hs := I.1
  have sd := I.2.1
  have m8 := mlT 8 (hi h 226 19) 8 f8 (by omega) (by omega)
  unfold F_X12_isBeyond
  exact bq_t I n _ 0 0 (by omega) (by have := I.2.2.1; omega) (fun k' hk' => absurd hk' (Nat.not_lt_zero k'))
end BE
/-! of both -/
theorem by_br {s : Nat} {hc hr : Hp} (c : CN s hc hr) (d : DR s hc hr) : (BY hc ↔ BR s hr) ∧ ∀ g : Nat, (g : Int) < (hi hc 3 2).toInt → 0 ≤ (hi hc 15 g).toInt ∧ (hi hc 15 g).toInt ≤ 24 := by
  obtain ⟨⟨d1, d2⟩, ⟨d3, d4⟩, ⟨d5, d6⟩, d7⟩ := d
  obtain ⟨-, c2, -, -⟩ := c
  have xy (x y : Int32) (c : Nat) (p : sp4 x y) (e : (c : Int) = x.toInt + 5 * y.toInt) : c < 25 ∧ (offC (hi hc 4 0).toInt (hi hc 4 1).toInt c ↔ offR s hr x y) := by
    unfold sp4 at p
    unfold offC offR
    rw [d1, d2]
    omega
  have gs (g : Nat) (hg : (g : Int) < (hi hc 3 2).toInt) : 0 ≤ (hi hc 15 g).toInt ∧ (hi hc 15 g).toInt ≤ 24 := by
    have := d7 g (by omega)
    unfold sp4 at this
    omega
  refine ⟨⟨?_, ?_⟩, gs⟩
  · rintro (⟨c, h1, h2 | h2, h3⟩ | ⟨g, h1, h2, h3⟩)
    · obtain ⟨k, k1, k2⟩ := (d5 c h1).mp h2
      exact Or.inr (Or.inl ⟨k, k1, (xy _ _ c (d6 k k1) k2).2.mp h3⟩)
    · obtain ⟨k, k1, k2⟩ := (d3 c h1).mp h2
      exact Or.inl ⟨k, k1, (xy _ _ c (d4 k k1) k2).2.mp h3⟩
    · obtain ⟨g1, g2⟩ := d7 g (by omega)
      have gg := gs g h1
      have e : (((hi hc 15 g).toInt.toNat : Nat) : Int) = (hi hc 15 g).toInt := by omega
      refine Or.inr (Or.inr ⟨g, by omega, ?_⟩)
      rcases h3 with h3 | h3
      · exact Or.inl ((xy _ _ _ g2 (by omega)).2.mp h3)
      · obtain ⟨k, k1, k2⟩ := (d5 _ (by omega)).mp h3
        have k3 := d6 k k1
        refine Or.inr ⟨k, k1, ?_⟩
        unfold sp4 at k3 g2
        unfold grP
        omega
  · rintro (⟨k, k1, k2⟩ | ⟨k, k1, k2⟩ | ⟨g, g1, g2⟩)
    · have p := d4 k k1
      have e : ((((hi hr 238 (8 * s + k)).toInt + 5 * (hi hr 239 (8 * s + k)).toInt).toNat : Nat) : Int) = (hi hr 238 (8 * s + k)).toInt + 5 * (hi hr 239 (8 * s + k)).toInt := by unfold sp4 at p; omega
      have z := xy _ _ _ p e
      exact Or.inl ⟨_, z.1, Or.inr ((d3 _ z.1).mpr ⟨k, k1, e⟩), z.2.mpr k2⟩
    · have p := d6 k k1
      have e : ((((hi hr 246 (8 * s + k)).toInt + 5 * (hi hr 247 (8 * s + k)).toInt).toNat : Nat) : Int) = (hi hr 246 (8 * s + k)).toInt + 5 * (hi hr 247 (8 * s + k)).toInt := by unfold sp4 at p; omega
      have z := xy _ _ _ p e
      exact Or.inl ⟨_, z.1, Or.inl ((d5 _ z.1).mpr ⟨k, k1, e⟩), z.2.mpr k2⟩
    · obtain ⟨p1, p2⟩ := d7 g g1
      have gg := gs g (by omega)
      have e : (((hi hc 15 g).toInt.toNat : Nat) : Int) = (hi hc 15 g).toInt := by omega
      refine Or.inr ⟨g, by omega, by omega, ?_⟩
      rcases g2 with g2 | ⟨k, k1, k2⟩
      · exact Or.inl ((xy _ _ _ p2 (by omega)).2.mpr g2)
      · refine Or.inr ((d5 _ (by omega)).mpr ⟨k, k1, ?_⟩)
        unfold grP at k2
        omega
