/-! READING, both: the text of the class, and whatever the reference makes of the same bytes -/
/-- the reference's side is plain, and it stands at the first TOKEN -/
def rB (s : Nat) (g2 hr : Hp) : Prop := (∀ k, hi hr 229 k = hi g2 229 k) ∧ (∀ k, hi hr 230 k = hi g2 230 k) ∧ (∀ k, hi hr 231 k = hi g2 231 k) ∧ (∀ k, hl hr 232 k = hl g2 232 k) ∧ ((hi hr 226 11).toInt = 0 ∧ (hi hr 226 12).toInt = 0 ∧ (hi hr 226 13).toInt = 0 ∧ (hi hr 226 15).toInt = 0 ∧ (hi hr 226 19).toInt = (s : Int) ∧ (hi hr 226 20).toInt = 0) ∧ (hi hr 235 s).toInt = 4 ∧ (hi hr 236 s).toInt = 4 ∧ (hi hr 237 s).toInt = 0 ∧ (hi hr 242 s).toInt = 0 ∧ (hi hr 245 s).toInt = 0
def rdJ (bs : Nat → Int) (m : Nat) (qc : Int32 × Hp) : Prop := ∀ (s : Nat) (K : Hp → Prop) (g0 g2 hr : Hp) (l1 : Int32), s ≤ 1 → KE s K → CtP bs m g0 g2 → rB s g2 hr → K hr → ∀ m', 11000 ≤ m' → Pc (W_X12_read m' 112 hr l1) (rjP qc)
theorem j_begin {N : Nat} {kd pl vl nm : Nat → Int} {s : Nat} {hc g2 hr : Hp} (C : CT N kd pl vl hc) (R : RT N kd pl vl g2) (M : NM N nm g2) (b : bgC hc) (r : rB s g2 hr) : JA N kd pl vl nm s hc hr (0, 0, 0, 0) := by
  obtain ⟨r1, r2, r3, r4, ⟨x11, x12, x13, x15, x19, x20⟩, y5, y6, y7, y42, y45⟩ := r
  obtain ⟨b1, b2, ⟨b3, b4, b5⟩, b6, ⟨b7, b8⟩, b9⟩ := b
  refine ⟨⟨C, R.cg ⟨r1, r2, r3⟩, fun t ht => by rw [r4]; exact M t ht, x19⟩, ⟨Nat.zero_le _, Nat.zero_le _⟩, ⟨b1, fun _ => ⟨b2, fun z => absurd rfl z⟩⟩, ⟨⟨Int.le_refl 0, x13, fun _ => x11, fun z => absurd rfl z⟩, fun _ => ⟨x15, fun z => absurd rfl z⟩⟩, fun _ => ⟨x12, ⟨⟨by omega, by omega, by omega⟩, ⟨by omega, by omega, by omega⟩, ⟨by omega, by omega, by omega⟩, by omega⟩, ⟨fun _ => 0, fun g hg => by exfalso; omega⟩, fun _ => ⟨⟨Int32.toInt_inj.mp (by omega), Int32.toInt_inj.mp (by omega)⟩, ⟨fun c hc' => ⟨fun z => ?_, fun ⟨k, k1, _⟩ => by exfalso; omega⟩, fun k hk => by exfalso; omega⟩, ⟨fun c hc' => ⟨fun z => ?_, fun ⟨k, k1, _⟩ => by exfalso; omega⟩, fun k hk => by exfalso; omega⟩, fun g hg => by exfalso; omega⟩⟩⟩
  · have := b9 c hc'
    exfalso; omega
  · rw [b3] at z
    have : (0 : Int32).toBitVec.getLsbD c = false := BitVec.getLsbD_zero
    rw [this] at z
    exact Bool.noConfusion z
theorem c_text {bs : Nat → Int} {m n : Nat} {h : Hp} {x1 : Int32} (B : BS bs m) (hx : x1.toInt = (m : Int)) (W : WD h) (hb : ∀ i, i < m → ((vp_nar .byte (hi h 1 i) : Int32) &&& 255).toInt = bs i) : Pc (F_X7_readText n h x1) (rdJ bs m) := by
  unfold F_X7_readText
  refine Pc.bind pc_clear7 (fun q25 h25 => ?_)
  obtain ⟨a1, a2⟩ := h25
  have f0 := lit_0
  refine Pc.bind (pc_scan B hx (fun k hk => by rw [a1.2 19 k]; exact W k hk) (fun i hi' => by rw [a1.1 1 i (by unfold clA; omega)]; exact hb i hi')) (fun q27 h27 => ?_)
  intro qc eqc s K g0 g2 hr l1 hs E c r k m' hm
  obtain ⟨N, q⟩ := tok_both B h27 c
  obtain ⟨kd, pl, vl, nm, X, C, R, M, Y, pN⟩ := tq_all q
  have bc : bgC q27 := a2.cg (fun a k' ha => h27.1.1 a k' (by omega) (by omega) (by omega))
  have j := j_begin (s := s) C R M bc r
  exact j_loop X Y hs E (hx.trans pN.symm) n q27 hr (0, 0, 0, 0) 0 j k (by omega) (by omega) (fun _ => by show (0 : Int32).toInt ≤ ((0 : Nat) : Int); omega) qc eqc m' (by omega) (fun _ => by show (10000 : Int) + (402 - ((0 : Nat) : Int)) < (m' : Int); omega)
