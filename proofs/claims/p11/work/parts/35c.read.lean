/-! READING: refused, or told -/
def rdC (s : Nat) (hS hC : Hp) : Prop := (∀ a k, ¬ (227 ≤ a ∧ a ≤ 231) → frB (1 - s) a k → hi hC a k = hi hS a k) ∧ (∀ a k, (a < 226 ∨ a = 233) → hl hC a k = hl hS a k) ∧ ∀ k, 0 ≤ (hi hC 229 k).toInt
def rdP (hS : Hp) (q : Int32 × Hp) : Prop := dI q.2 ∧ kX hS q.2 ∧ (hi q.2 226 2).toInt = 0 ∧ (∀ k, hl q.2 233 k = hl hS 233 k) ∧ ∀ k, 0 ≤ (hi q.2 229 k).toInt
section RD
variable {s : Nat} {hS hC x : Hp}
theorem rd_x (c : rdC s hS hC) (j : jR s hC x) : rdC s hS x := by
  refine ⟨fun a k n q => (j.1.1.1 a k q).trans (c.1 a k n q), fun a k n => (j.1.1.2 a k (by omega)).trans (c.2.1 a k n), fun k => ?_⟩
  rw [j.1.1.1 229 k (by unfold frB; omega)]
  exact c.2.2 k
theorem rd_bad (d : dI hS) (hv : (hi hS 226 18).toInt = 1 - s) (c : rdC s hS hC) (j : jR s hC x) {p v : Int32} : rdP hS (v, wrI x 226 17 p) := by
  have c' := rd_x c j
  have r (a k : Nat) (n : ¬ (a = 226 ∧ k = 17)) : hi (wrI x 226 17 p) a k = hi x a k := by rw [hi_wrI, if_neg n]
  have e2 : (hi (wrI x 226 17 p) 226 2).toInt = 0 := by rw [r 226 2 (by decide)]; exact j.1.2.1.1
  show dI (wrI x 226 17 p) ∧ kX hS (wrI x 226 17 p) ∧ (hi (wrI x 226 17 p) 226 2).toInt = 0 ∧ (∀ k, hl (wrI x 226 17 p) 233 k = hl hS 233 k) ∧ ∀ k, 0 ≤ (hi (wrI x 226 17 p) 229 k).toInt
  refine ⟨d.fr hv (fun a k _ n q => ?_) (by omega), fun a k n => ⟨?_, c'.2.1 a k (Or.inl n)⟩, e2, fun k => c'.2.1 233 k (Or.inr rfl), fun k => ?_⟩
  · show hi (wrI x 226 17 p) a k = _
    rw [r a k (by unfold frB at q; omega)]
    exact c'.1 a k n q
  · show hi (wrI x 226 17 p) a k = _
    rw [r a k (by omega)]
    exact c'.1 a k (by omega) (by unfold frB; omega)
  · show 0 ≤ (hi (wrI x 226 17 p) 229 k).toInt
    rw [r 229 k (by omega)]
    exact c'.2.2 k
theorem rd_243 {g3 : Hp} {P : Int32 × Hp → Prop} (kk : ∀ q : Hp, (∀ a k, a ≠ 273 → hi q a k = hi g3 a k) → (∀ a k, hl q a k = hl g3 a k) → (∀ k, k < 3 → hi q 273 k = 0) → P (0, q)) : ∀ n : Nat, ∀ (h : Hp) (l1 : Int32), 0 ≤ l1.toInt → (∀ a k, a ≠ 273 → hi h a k = hi g3 a k) → (∀ a k, hl h a k = hl g3 a k) → (∀ k : Nat, (k : Int) < l1.toInt → hi h 273 k = 0) → (1 : Int) < n → (1 : Int) + (3 - l1.toInt) < n → Ok (W_X12_read n 243 h l1) P := by
  intro n
  induction n with
  | zero => intro h l1 a b c z e f; exfalso; omega
  | succ n ih =>
    intro h l1 a b c z e f
    have f3 := lit_3
    have f1 := lit_1
    have n1 := ncT a
    rw [u_X12_read]
    refine Ok.neg (by decide) (Ok.neg (by decide) (Ok.pos rfl ?_))
    refine Ok.le (fun c1 => Ok.ret (kk h b c (fun k hk => z k (by omega)))) (fun c1 => ?_)
    refine Ok.chk (ixT (by omega) (by omega)) (fun c2 => ?_)
    have a1 := adT l1 1 (by omega) (by omega)
    refine ih _ (l1 + 1) (by omega) (fun a' k' q => ?_) (fun a' k' => c a' k') (fun k hk => ?_) (by omega) (by omega)
    · rw [hi_wrI, if_neg (fun w => q w.1)]
      exact b a' k' q
    · rw [hi_wrI]
      by_cases y : k = Int32.toNatClampNeg l1
      · rw [if_pos ⟨rfl, y⟩]
      · rw [if_neg (fun w => y w.2)]
        exact z k (by omega)
theorem rd_bgH (hs : s ≤ 1) (j : jR s hC x) (fz : (hi x 226 13).toInt = 0) (wz : (hi x 226 15).toInt = 0) (ot : offT s x (hi x 237 s).toInt) (og : offG s x (hi x 242 s).toInt) {g2 : Hp} (r : ∀ a k, a ≠ 226 → hi g2 a k = hi x a k) (e18 : hi g2 226 18 = hi x 226 19) : bgH s (hi x 235 s).toInt.toNat (hi x 236 s).toInt.toNat g2 := by
  obtain ⟨v1, v2, v3, v4, v5⟩ := (j.2 fz).2.2.2.2.1 wz
  have cb := j.1.2.2.2.1
  have h19 := j.1.2.1.2
  have rr (a : Nat) (n : a ≠ 226) : hi g2 a = hi x a := funext fun k => r a k n
  unfold bgH onL
  rw [rr 235 (by decide), rr 236 (by decide), rr 237 (by decide), rr 238 (by decide), rr 239 (by decide), rr 240 (by decide), rr 241 (by decide), rr 242 (by decide), rr 243 (by decide), rr 244 (by decide), rr 245 (by decide), e18]
  refine ⟨hs, by omega, by omega, h19, by omega, by omega, ⟨fun k hk => ?_, fun k hk => ?_⟩, cb.1, cb.2.1, cb.2.2.2⟩
  · have a := v3 k hk
    have b := ot k hk
    unfold in4 at a
    omega
  · have a := v4 k hk
    have b := og k hk
    unfold in4 at a
    omega
set_option maxHeartbeats 4000000 in
theorem rd_dI (hs : s ≤ 1) (d : dI hS) (c : rdC s hS hC) (j : jR s hC x) (fz : (hi x 226 13).toInt = 0) (wz : (hi x 226 15).toInt = 0) {q h1 : Hp} {w g : Nat} (hw : (hi x 235 s).toInt = (w : Int)) (hg : (hi x 236 s).toInt = (g : Int)) (r : ∀ a k, a ≠ 226 → a ≠ 262 → a ≠ 263 → a ≠ 264 → a ≠ 273 → hi q a k = hi x a k) (rl : ∀ a k, hl q a k = hl x a k) (e2 : hi q 226 2 = hi x 226 2) (e18 : hi q 226 18 = hi x 226 19) (e59 : hi q 226 59 = 0) (e65 : hi q 226 65 = 0) (e62 : ∀ k, k < 63 → hi q 262 k = hi h1 263 k) (e63 : ∀ k, k < 63 → hi q 263 k = hi h1 263 k) (rw1 : rwO ((w * g : Nat) : Int) (hi h1 263)) (ov1 : ovO (hi h1 263)) (e64 : ∀ m, m < w * g → ∀ k, k < 5 → (hi q 264 (5 * m + k)).toInt = ((sdv w g m k : Nat) : Int)) (e73 : ∀ k, k < 3 → hi q 273 k = 0) {v : Int32} : rdP hS (v, q) := by
  obtain ⟨v1, v2, -⟩ := (j.2 fz).2.2.2.2.1 wz
  have lw := (j.2 fz).2.2.2.2.2
  have c' := rd_x c j
  have cb := j.1.2.2.2.1
  have br := j.1.2.2.2.2.2
  have f0 := lit_0
  have i18 : (hi q 226 18).toInt = (s : Int) := by rw [e18]; exact j.1.2.1.2
  have n18 := ncT (show 0 ≤ (hi q 226 18).toInt by omega)
  have k18 : Int32.toNatClampNeg (hi q 226 18) = s := by omega
  have i2 : (hi q 226 2).toInt = 0 := by rw [e2]; exact j.1.2.1.1
  have i59 : (hi q 226 59).toInt = 0 := by rw [e59]; exact f0
  have i65 : (hi q 226 65).toInt = 0 := by rw [e65]; exact f0
  have ew : wdN q = (w : Int) := by
    unfold wdN
    rw [k18, r 235 s (by decide) (by decide) (by decide) (by decide) (by decide)]
    exact hw
  have eh : hgN q = (g : Int) := by
    unfold hgN
    rw [k18, r 236 s (by decide) (by decide) (by decide) (by decide) (by decide)]
    exact hg
  have eg : gnN q = (hi x 242 s).toInt := by
    unfold gnN
    rw [k18, r 242 s (by decide) (by decide) (by decide) (by decide) (by decide)]
  have ec : cnN q = ((w * g : Nat) : Int) := by
    unfold cnN
    rw [ew, eh, Int.natCast_mul]
  have r5 : sdO q := by
    intro m k hm hk
    rw [ew, eh, Int.toNat_natCast, Int.toNat_natCast]
    rw [ec] at hm
    exact e64 m (by omega) k hk
  have r6 : lwsO q := by
    intro i h1 h2
    rw [i18] at h1 h2 ⊢
    have o := lw i (by omega) (by omega)
    unfold olO
    rw [r 250 i (by decide) (by decide) (by decide) (by decide) (by decide), r 251 i (by decide) (by decide) (by decide) (by decide) (by decide)]
    rcases o with z | ⟨z1, z2, z3⟩
    · exact Or.inl z
    · exact Or.inr ⟨z1, by omega, fun b b1 b2 => (z3 b b1 b2).1.cg (fun a k m1 m2 => r a k (by omega) (by omega) (by omega) (by omega) (by omega))⟩
  have w2 : rwO (cnN q) (hi q 262) := by rw [ec]; exact rw1.cg e62
  have w3 : rwO (cnN q) (hi q 263) := by rw [ec]; exact rw1.cg e63
  show dI q ∧ kX hS q ∧ (hi q 226 2).toInt = 0 ∧ (∀ k, hl q 233 k = hl hS 233 k) ∧ ∀ k, 0 ≤ (hi q 229 k).toInt
  refine ⟨⟨⟨by omega, by omega, by omega, by rw [eg]; exact cb.2.1, r5, r6, w2, ov1.cg e62, by omega, by omega⟩, by omega, w3, ov1.cg e63, fun k => ?_, fun u hu => ?_, fun u hu hx => ?_⟩, fun a k n => ⟨?_, (rl a k).trans (c'.2.1 a k (Or.inl n))⟩, i2, fun k => (rl 233 k).trans (c'.2.1 233 k (Or.inr rfl)), fun k => ?_⟩
  · show -1 ≤ (hi q 265 k).toInt ∧ (hi q 265 k).toInt < 25
    rw [r 265 k (by decide) (by decide) (by decide) (by decide) (by decide), c'.1 265 k (by decide) (by unfold frB; omega)]
    exact d.2.2.2.2.1 k
  · exfalso; omega
  · rw [e73 u hu] at hx
    exact absurd (show (vp_nar .boolean (0 : Int32)).toInt = 0 by decide) hx
  · show hi q a k = _
    rw [r a k (by omega) (by omega) (by omega) (by omega) (by omega)]
    exact c'.1 a k (by omega) (by unfold frB; omega)
  · show 0 ≤ (hi q 229 k).toInt
    rw [r 229 k (by decide) (by decide) (by decide) (by decide) (by decide)]
    exact c'.2.2 k
end RD
