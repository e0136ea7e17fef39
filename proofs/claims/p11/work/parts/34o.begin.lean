/-! READING: begins, the rest -/
section BH
variable {s w g : Nat} {hS : Hp}
set_option maxHeartbeats 4000000 in
theorem bg29 (H : bgH s w g hS) : ∀ n : Nat, ∀ (h : Hp) (l1 : Int32), bgS w g hS h → 8 * (s : Int) ≤ l1.toInt → l1.toInt ≤ 8 * s + 8 → (700 : Int) < n → (700 : Int) + (17 - l1.toInt) < n → Ok (W_X12_begins n 29 h l1) (fun q => bgP w g hS q) := by
  obtain ⟨hs, hw2, hg5, h18, h35, h36, hon, c37, c42, c45⟩ := id H
  have w25 : w * g ≤ 5 * 5 := Nat.mul_le_mul hw2.2 hg5.2
  intro n
  induction n with
  | zero => intro h l1 b a a' c d; exfalso; omega
  | succ n ih =>
    intro h l1 b a a' c d
    obtain ⟨i1, i2, i3⟩ := H.lv b.1.1
    have e (x k : Nat) (hx : x ≠ 263) : hi h x k = hi hS x k := b.1.1 x k hx
    have n1 := ncT (show 0 ≤ l1.toInt by omega)
    have f0 := lit_0
    have f8 := lit_8
    have f1 := lit_1
    have f25 := lit_25
    rw [u_X12_begins]
    refine Ok.neg (by decide) (Ok.pos rfl ?_)
    refine Ok.pos i1 ?_
    rw [i2, e 237 s (by decide)]
    have a1 := mlT 8 (hi h 226 18) 8 lit_8 (by omega) (by omega)
    have a2 := adT (8 * hi h 226 18) (hi hS 237 s) (by omega) (by omega)
    refine Ok.le (fun c1 => bg121 H n h (8 * hi h 226 18) b (by omega) (by omega) (by omega) (by omega)) (fun c1 => ?_)
    have im : ixOK l1 16 = true := ixT (by omega) (by omega)
    have a4 := adT l1 1 (by omega) (by omega)
    obtain ⟨k, hk⟩ : ∃ k : Nat, Int32.toNatClampNeg l1 = 8 * s + k := ⟨Int32.toNatClampNeg l1 - 8 * s, by omega⟩
    have o := hon.1 k (by omega)
    rw [← hk] at o
    refine Ok.pos im (Ok.pos im ?_)
    refine Ok.bind (sr_cellAt (w := w) (g := g) hw2.2 hg5.2 (by omega) (by omega) (by rw [i2, e 235 s (by decide)]; exact h35) (by rw [e 238 _ (by decide)]; exact o.1.1) (by rw [e 238 _ (by decide)]; exact o.1.2) (by rw [e 239 _ (by decide)]; exact o.2.1.1) (by rw [e 239 _ (by decide)]; exact o.2.1.2)) (fun q7 hq7 => ?_)
    obtain ⟨e7, cc, k1, k2, k3⟩ := hq7
    rw [e7]
    have nc := ncT (show 0 ≤ q7.1.toInt by omega)
    have ec : Int32.toNatClampNeg q7.1 = cc := by omega
    refine Ok.pos im ?_
    refine Ok.chk (ixT (by omega) (by omega)) (fun c2 => ?_)
    refine Ok.pos im (Ok.pos im ?_)
    rw [ec]
    generalize eg : wrI h 263 cc (hi h 240 (Int32.toNatClampNeg l1)) = g1
    have e' (x z : Nat) (hx : x ≠ 263) : hi g1 x z = hi hS x z := (hiA eg x z hx).trans (e x z hx)
    obtain ⟨j1, j2, j3⟩ := H.lv e'
    refine Ok.bind (sr_cellAt (w := w) (g := g) hw2.2 hg5.2 (by omega) (by omega) (by rw [j2, e' 235 s (by decide)]; exact h35) (by rw [e' 238 _ (by decide)]; exact o.1.1) (by rw [e' 238 _ (by decide)]; exact o.1.2) (by rw [e' 239 _ (by decide)]; exact o.2.1.1) (by rw [e' 239 _ (by decide)]; exact o.2.1.2)) (fun q13 hq13 => ?_)
    obtain ⟨e13, cd, m1, m2, m3⟩ := hq13
    rw [e13]
    have ecd : cd = cc := by
      rw [e' 239 _ (by decide), e' 238 _ (by decide)] at m3
      rw [e 239 _ (by decide), e 238 _ (by decide)] at k3
      omega
    have a5 := adT 25 q13.1 (by omega) (by omega)
    have n25 := ncT (show 0 ≤ (25 + q13.1 : Int32).toInt by omega)
    refine Ok.pos im ?_
    refine Ok.chk (ixT (by omega) (by omega)) (fun c3 => ?_)
    rw [show Int32.toNatClampNeg (25 + q13.1) = 25 + cc by omega, e' 241 _ (by decide), ← eg]
    exact ih _ (l1 + 1) (bg_tune (by omega) b k2 (by rw [e 240 _ (by decide)]; exact o.2.2.1.1) (by rw [e 240 _ (by decide)]; exact o.2.2.1.2) o.2.2.2.1 (by rw [e 240 _ (by decide)]; exact o.2.2.2.2)) (by omega) (by omega) (by omega) (by omega)
theorem bg2 (H : bgH s w g hS) : ∀ n : Nat, ∀ (h : Hp) (l1 : Int32), (∀ a k, a ≠ 263 → hi h a k = hi hS a k) → (∀ a k, hl h a k = hl hS a k) → 0 ≤ l1.toInt → (∀ k : Nat, (k : Int) < l1.toInt → (hi h 263 k).toInt = 0) → (800 : Int) < n → (800 : Int) + (64 - l1.toInt) < n → Ok (W_X12_begins n 2 h l1) (fun q => bgP w g hS q) := by
  obtain ⟨hs, hw2, hg5, h18, h35, h36, hon, c37, c42, c45⟩ := id H
  have wg0 : 0 < w * g := Nat.mul_pos (by omega) (by omega)
  intro n
  induction n with
  | zero => intro h l1 b l a z c d; exfalso; omega
  | succ n ih =>
    intro h l1 b l a z c d
    obtain ⟨i1, i2, i3⟩ := H.lv b
    have n1 := ncT a
    have f0 := lit_0
    have f63 := lit_63
    have f8 := lit_8
    have f1 := lit_1
    rw [u_X12_begins]
    refine Ok.pos rfl ?_
    refine Ok.le (fun c1 => ?_) (fun c1 => ?_)
    · have a1 := mlT 8 (hi h 226 18) 8 lit_8 (by omega) (by omega)
      refine bg29 H n h (8 * hi h 226 18) ⟨⟨b, l⟩, ⟨fun k hk => ?_, fun k h1 h2 => ?_⟩, fun k hk h1 => ?_⟩ (by omega) (by omega) (by omega) (by omega)
      · rw [z k (by omega)]; omega
      · rw [z k (by omega)]; omega
      · rw [z k (by omega)] at h1; omega
    · refine Ok.chk (ixT (by omega) (by omega)) (fun c2 => ?_)
      have a4 := adT l1 1 (by omega) (by omega)
      refine ih _ (l1 + 1) (fun x k q => ?_) (fun x k => l x k) (by omega) (fun k hk => ?_) (by omega) (by omega)
      · rw [hi_wrI, if_neg (fun w => q w.1)]
        exact b x k q
      · rw [hi_wrI]
        by_cases q : k = Int32.toNatClampNeg l1
        · rw [if_pos ⟨rfl, q⟩]; exact f0
        · rw [if_neg (fun w => q w.2)]
          exact z k (by omega)
theorem sf_X12_begins {n : Nat} (hn : 1000 ≤ n) (H : bgH s w g hS) : Ok (F_X12_begins n hS) (fun q => bgP w g hS q) := by
  have f0 := lit_0
  unfold F_X12_begins
  exact bg2 H n hS 0 (fun _ _ _ => rfl) (fun _ _ => rfl) (by omega) (fun k hk => by omega) (by omega) (by omega)
end BH
