/-! A WHOLE TEXT: both tell the same -/
theorem tq_all2 {bs : Nat → Int} {m : Nat} {hc hr : Hp} {N : Nat} (q : TQ bs m hc hr N) : ∃ kd pl vl, TX N kd pl vl ∧ CT N kd pl vl hc ∧ RT N kd pl vl hr ∧ ∀ t, kd t = 30 → 0 ≤ vl t ∧ vl t ≤ 9999 := by
  obtain ⟨kd, pl, vl, nm, ⟨x1, x2, x3, x4⟩, ⟨c1, c2, c3⟩, R, -, -, -⟩ := tq_all q
  obtain ⟨K, eK⟩ : ∃ K : Nat → Int, ∀ t, K t = if t ≤ N then kd t else 32 := ⟨_, fun _ => rfl⟩
  have k1 (t : Nat) (ht : t ≤ N) : K t = kd t := (eK t).trans (if_pos ht)
  refine ⟨K, pl, vl, ⟨fun t ht => ?_, ?_, fun t ht z => ?_, x4⟩, ⟨c1, c2, fun t ht => ?_⟩, fun t ht => ?_, fun t z => ?_⟩
  · rw [k1 t (Nat.le_of_lt ht)]; exact x1 t ht
  · rw [k1 N (Nat.le_refl N)]; exact x2
  · rw [k1 t (Nat.le_of_lt ht)] at z
    exact x3 t ht z
  · rw [k1 t (Nat.le_of_lt ht)]; exact c3 t ht
  · rw [k1 t ht.1]; exact R t ht
  · by_cases y : t < N
    · rw [k1 t (Nat.le_of_lt y)] at z
      exact x3 t y z
    · exfalso
      by_cases y2 : t = N
      · rw [y2, k1 N (Nat.le_refl N), x2] at z
        exact absurd z (by decide)
      · rw [eK, if_neg (by omega)] at z
        exact absurd z (by decide)
/-- the reference's side is plain, its law too -/
def rB2 (s : Nat) (g2 hr : Hp) : Prop := rB s g2 hr ∧ ((hi hr 248 s).toInt = 0 ∧ (hi hr 249 s).toInt = 0) ∧ (∀ k, k < 4 → (hi hr 250 (4 * s + k)).toInt = (hi hr 251 (4 * s + k)).toInt) ∧ (hi hr 226 39).toInt = ((130 * s : Nat) : Int) ∧ (hi hr 226 45).toInt = ((420 * s : Nat) : Int)
/-- whatever both make of the same text -/
def bothP (s : Nat) (qc qr : Int32 × Hp) : Prop := qc.1.toInt = 0 → qr.1.toInt = 0 → ∃ T, CF T qc.2 ∧ RF s T qr.2
def rdJ2 (bs : Nat → Int) (m : Nat) (qc : Int32 × Hp) : Prop := ∀ (s : Nat) (hS hC g0 g2 hr : Hp) (l1 : Int32), s ≤ 1 → CtP bs m g0 g2 → rB2 s g2 hr → rdC s hS hC → jR s hC hr → ∀ m', 11000 ≤ m' → Pc (W_X12_read m' 112 hr l1) (bothP s qc)
theorem cB0.cg {h q : Hp} (b : cB0 h) (f : ∀ a k, a ≤ 17 → hi q a k = hi h a k) : cB0 q := by
  obtain ⟨⟨⟨d1, d2, d3, d4, d5⟩, ⟨S, l, hS⟩, v⟩, c1, c2, ⟨e1, e2, e3, e4⟩, e5⟩ := b
  refine ⟨⟨⟨d1.cg (fun k => f 4 k (by decide)), d2.cg (f 2 13 (by decide)) (fun k => f 16 k (by decide)) (fun k => f 17 k (by decide)), d3.cg (f 3 2 (by decide)) (fun k => f 15 k (by decide)), d4.cg (f 2 14 (by decide)) (f 2 12 (by decide)), d5.cg (f 3 3 (by decide)) (f 3 4 (by decide))⟩, ⟨S, l.cg (f 5 3 (by decide)) (fun k => f 6 k (by decide)) (fun k => f 7 k (by decide)), hS⟩, v⟩, ?_, ?_, ⟨?_, ?_, ?_, ?_⟩, fun k hk => ?_⟩
  · unfold cS
    rw [f 2 5 (by decide), f 2 4 (by decide)]; exact c1
  · rw [f 2 6 (by decide)]; exact c2
  · rw [f 10 0 (by decide)]; exact e1
  · rw [f 10 1 (by decide)]; exact e2
  · rw [f 10 2 (by decide)]; exact e3
  · rw [f 10 3 (by decide)]; exact e4
  · rw [f 13 k (by decide)]; exact e5 k hk
theorem rB2.rX {N : Nat} {kd pl vl : Nat → Int} {s : Nat} {g2 hr : Hp} (b : rB2 s g2 hr) (R : RT N kd pl vl g2) : rX N kd pl vl s 0 (130 * s) (420 * s) hr ∧ rD s TT0 (130 * s) (420 * s) hr := by
  obtain ⟨⟨r1, r2, r3, r4, ⟨x11, x12, x13, x15, x19, x20⟩, y5, y6, y7, y42, y45⟩, ⟨w1, w2⟩, p1, p2, p3⟩ := b
  refine ⟨⟨⟨⟨R.cg ⟨r1, r2, r3⟩, ⟨Nat.zero_le _, Nat.zero_le _⟩, ⟨Int.le_refl 0, x13, fun _ => x11, fun z => absurd rfl z⟩, x12⟩, p2, p3, x19⟩, x15⟩, ⟨⟨⟨y5, y6⟩, ⟨y7, fun k hk => absurd hk (Nat.not_lt_zero k)⟩, ⟨y42, x20, fun k hk => absurd hk (Nat.not_lt_zero k)⟩, ⟨y45, fun k hk => absurd hk (Nat.not_lt_zero k)⟩, w1, w2⟩, fun k hk => ⟨fun _ => p1 k hk, fun b hb => absurd hb (fun z => nsn (show (none : Option LWS) = some b from z))⟩, Nat.zero_le 8, Nat.zero_le 5, Nat.zero_le 8⟩⟩
theorem c_text2 {bs : Nat → Int} {m n : Nat} {h : Hp} {x1 : Int32} (B : BS bs m) (hx : x1.toInt = (m : Int)) (W : WD h) (hb : ∀ i, i < m → ((vp_nar .byte (hi h 1 i) : Int32) &&& 255).toInt = bs i) : Pc (F_X7_readText n h x1) (rdJ2 bs m) := by
  unfold F_X7_readText
  have cl : Pc (F_X7_clear n h) (fun q => (frA clA h q ∧ bgC q) ∧ cB0 q) := fun q e => ⟨pc_clear7 q e, clr7 q e⟩
  refine Pc.bind cl (fun q25 h25 => ?_)
  obtain ⟨⟨a1, -⟩, b0⟩ := h25
  have f0 := lit_0
  refine Pc.bind (pc_scan B hx (fun k hk => by rw [a1.2 19 k]; exact W k hk) (fun i hi' => by rw [a1.1 1 i (by unfold clA; omega)]; exact hb i hi')) (fun q27 h27 => ?_)
  intro qc eqc s hS hC g0 g2 hr l1 hs E r rc jr m' hm qr eqr zc' zr'
  obtain ⟨N, q⟩ := tok_both B h27 E
  obtain ⟨kd, pl, vl, X, C, R, vlr⟩ := tq_all2 q
  have bc : cB0 q27 := b0.cg (fun a k ha => h27.1.1 a k (by omega) (by omega) (by omega))
  obtain ⟨d, c1, c2, e1, e2⟩ := bc
  obtain ⟨m1, T1, t1, k1, k2, k3⟩ := ct_loop X vlr n q27 0 TT0 0 ⟨C, ⟨Nat.zero_le _, Nat.zero_le _⟩, c1, c2⟩ d e1 e2 (by omega) (by omega) qc eqc zc'
  obtain ⟨ax, ad⟩ := r.rX R
  obtain ⟨m2, T2, t2, j1, j2, j3⟩ := rg_112 X hs rc m' hr l1 TT0 0 _ _ ax ad jr (by omega) qr eqr zr'
  obtain ⟨eT, -⟩ := TLD.uniq k1 j1 k2 j2
  subst eT
  exact ⟨T1, k3, j3 k3.1 k3.2.1⟩
