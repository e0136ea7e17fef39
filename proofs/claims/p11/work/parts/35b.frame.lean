/-! READING: what goes on if the text is refused -/
theorem oi_cw {f fi g gi : Nat → Int32} {x y : Int32} (A B : Int) (hx : A ≤ x.toInt) (hy : y.toInt ≤ B) (c1 : ∀ i : Nat, A ≤ i → (i : Int) < B → g i = f i) (c2 : ∀ i : Nat, A ≤ i → (i : Int) < B → gi i = fi i) (o : oiO f fi x y) : oiO g gi x y := by
  have n1 := ncT o.1
  have n2 := ncT o.2.1
  exact ⟨o.1, o.2.1, oc_cg (fun i a b => c1 i (by omega) (by omega)) (fun i a b => c2 i (by omega) (by omega)) o.2.2⟩
theorem ob_fr {L : Int} {h q : Hp} {b : Nat} (f : ∀ a, 252 ≤ a → a ≤ 256 → hi q a b = hi h a b) (g : ∀ a (k : Nat), (a = 257 ∨ a = 258) → 420 * L ≤ k → (k : Int) < 420 * L + 420 → hi q a k = hi h a k) (o : obO L h b) : obO L q b := by
  obtain ⟨o1, o2, o3, o4, o5⟩ := o
  have g7 (i : Nat) (h1 : 420 * L ≤ i) (h2 : (i : Int) < 420 * L + 420) : hi q 257 i = hi h 257 i := g 257 i (Or.inl rfl) h1 h2
  have g8 (i : Nat) (h1 : 420 * L ≤ i) (h2 : (i : Int) < 420 * L + 420) : hi q 258 i = hi h 258 i := g 258 i (Or.inr rfl) h1 h2
  unfold obO
  rw [f 252 (by decide) (by decide), f 253 (by decide) (by decide), f 254 (by decide) (by decide), f 255 (by decide) (by decide), f 256 (by decide) (by decide)]
  have t3 := oi_le o2
  refine ⟨fun z => ?_, oi_cw (420 * L) (420 * L + 420) o3 o5 g7 g8 o2, o3, o4, o5⟩
  have t1 := oi_le (o1 z).1
  have t2 := oi_le (o1 z).2
  have t0 := o4 z
  exact ⟨oi_cw (420 * L) (420 * L + 420) t0 (by omega) g7 g8 (o1 z).1, oi_cw (420 * L) (420 * L + 420) (by omega) (by omega) g7 g8 (o1 z).2⟩
theorem dI.fr {hS q : Hp} {L : Int} (hL : (hi hS 226 18).toInt = L) (fr : ∀ a k, 226 ≤ a → ¬ (227 ≤ a ∧ a ≤ 231) → frB L a k → hi q a k = hi hS a k) (t0 : 0 ≤ (hi q 226 2).toInt ∧ (hi q 226 2).toInt ≤ 2000) (d : dI hS) : dI q := by
  obtain ⟨⟨s1, s2, s3, s4, s5, s6, s7, s8, s9, s10⟩, d2, d3, d4, d5, d6, d7⟩ := d
  have b0 (k : Nat) (m : k = 18 ∨ k = 59 ∨ k = 65) : hi q 226 k = hi hS 226 k := fr 226 k (by decide) (by decide) (by unfold frB; omega)
  have e18 := b0 18 (by decide)
  have e59 := b0 59 (by decide)
  have e65 := b0 65 (by decide)
  have hh (a k : Nat) (m : 260 ≤ a) : hi q a k = hi hS a k := fr a k (by omega) (by omega) (by unfold frB; omega)
  have hr (a : Nat) (m : 260 ≤ a) : hi q a = hi hS a := funext fun k => hh a k m
  have n18 := ncT s1.1
  have c3 (a : Nat) (m : a = 235 ∨ a = 236 ∨ a = 242) : hi q a (Int32.toNatClampNeg (hi hS 226 18)) = hi hS a (Int32.toNatClampNeg (hi hS 226 18)) := fr a _ (by omega) (by omega) (by unfold frB; omega)
  have ew : wdN q = wdN hS := by
    unfold wdN
    rw [e18, c3 235 (by decide)]
  have eh : hgN q = hgN hS := by
    unfold hgN
    rw [e18, c3 236 (by decide)]
  have eg : gnN q = gnN hS := by
    unfold gnN
    rw [e18, c3 242 (by decide)]
  have ec : cnN q = cnN hS := by
    unfold cnN
    rw [ew, eh]
  have r5 : sdO q := by
    intro c k hc hk
    rw [ew, eh, hh 264 _ (by decide)]
    rw [ec] at hc
    exact s5 c k hc hk
  have r6 : lwsO q := by
    intro i h1 h2
    rw [e18] at h1 h2 ⊢
    rw [hL] at h1 h2 ⊢
    have o := s6 i (by rw [hL]; exact h1) (by rw [hL]; exact h2)
    rw [hL] at o
    have p0 : hi q 250 i = hi hS 250 i := fr 250 i (by decide) (by decide) (by unfold frB; omega)
    have p1 : hi q 251 i = hi hS 251 i := fr 251 i (by decide) (by decide) (by unfold frB; omega)
    unfold olO at o ⊢
    rw [p0, p1]
    rcases o with z | ⟨z1, z2, z3⟩
    · exact Or.inl z
    · refine Or.inr ⟨z1, z2, fun b b1 b2 => ob_fr (fun a m1 m2 => fr a b (by omega) (by omega) (by unfold frB; omega)) (fun a k m1 m2 m3 => fr a k (by omega) (by omega) (by unfold frB; omega)) (z3 b b1 b2)⟩
  refine ⟨⟨by rw [e18]; exact s1, by rw [ew]; exact s2, by rw [eh]; exact s3, by rw [eg]; exact s4, r5, r6, by rw [ec, hr 262 (by decide)]; exact s7, by rw [hr 262 (by decide)]; exact s8, by rw [e65]; exact s9, by rw [e59]; exact s10⟩, t0, by rw [ec, hr 263 (by decide)]; exact d3, by rw [hr 263 (by decide)]; exact d4, ?_, ?_, ?_⟩
  · intro k
    rw [hh 265 k (by decide)]
    exact d5 k
  · rw [ec]
    exact hsO.cg e59 (fun k => hh 266 k (by decide)) d6
  · rw [ec]
    exact hdO.cg (fun k => hh 273 k (by decide)) (fun k => hh 274 k (by decide)) d7
