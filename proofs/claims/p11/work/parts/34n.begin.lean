/-! READING: begins -/
section BG
variable {s w g : Nat} {hS : Hp}
def bgP (w g : Nat) (hS q : Hp) : Prop := ∃ (h1 : Hp) (v : Int32), bgS w g hS h1 ∧ sdP w g (wrI (wrI h1 226 55 v) 226 56 0) q (w * g)
def bgH (s w g : Nat) (hS : Hp) : Prop := s ≤ 1 ∧ (2 ≤ w ∧ w ≤ 5) ∧ (2 ≤ g ∧ g ≤ 5) ∧ (hi hS 226 18).toInt = (s : Int) ∧ (hi hS 235 s).toInt = (w : Int) ∧ (hi hS 236 s).toInt = (g : Int) ∧ onL s w g hS ∧ (0 ≤ (hi hS 237 s).toInt ∧ (hi hS 237 s).toInt ≤ 8) ∧ (0 ≤ (hi hS 242 s).toInt ∧ (hi hS 242 s).toInt ≤ 5) ∧ (0 ≤ (hi hS 245 s).toInt ∧ (hi hS 245 s).toInt ≤ 8)
theorem bgH.lv (H : bgH s w g hS) {h : Hp} (e : ∀ a k, a ≠ 263 → hi h a k = hi hS a k) : ixOK (hi h 226 18) 2 = true ∧ Int32.toNatClampNeg (hi h 226 18) = s ∧ (hi h 226 18).toInt = (s : Int) := by
  have a : (hi h 226 18).toInt = (s : Int) := by rw [e 226 18 (by decide)]; exact H.2.2.2.1
  have b := ncT (show 0 ≤ (hi h 226 18).toInt by omega)
  have c := H.1
  exact ⟨ixT (by omega) (by omega), by omega, a⟩
theorem bg178 (H : bgH s w g hS) : ∀ n : Nat, ∀ (h : Hp) (l1 : Int32), bgS w g hS h → 0 ≤ l1.toInt → (500 : Int) < n → (500 : Int) + (6 - l1.toInt) < n → Ok (W_X12_begins n 178 h l1) (fun q => bgP w g hS q) := by
  obtain ⟨hs, hw2, hg5, h18, h35, h36, hon, c37, c42, c45⟩ := id H
  have w25 : w * g ≤ 5 * 5 := Nat.mul_le_mul hw2.2 hg5.2
  intro n
  induction n with
  | zero => intro h l1 b a c d; exfalso; omega
  | succ n ih =>
    intro h l1 b a c d
    obtain ⟨i1, i2, i3⟩ := H.lv b.1.1
    have e (x k : Nat) (hx : x ≠ 263) : hi h x k = hi hS x k := b.1.1 x k hx
    have n1 := ncT a
    have f5 := lit_5
    have f51 := lit_51
    have f1 := lit_1
    rw [u_X12_begins]
    refine Ok.neg (by decide) (Ok.neg (by decide) (Ok.neg (by decide) (Ok.pos rfl ?_)))
    refine Ok.pos i1 ?_
    rw [i2, e 242 s (by decide)]
    refine Ok.le (fun c1 => ?_) (fun c1 => ?_)
    · refine Ok.pos i1 ?_
      generalize ev : hi h 249 s = v
      have r (x k : Nat) (hx : x ≠ 226) : hi (wrI (wrI h 226 55 v) 226 56 0) x k = hi h x k := by rw [hi_wrI, if_neg (by omega), hi_wrI, if_neg (by omega)]
      have r18 : hi (wrI (wrI h 226 55 v) 226 56 0) 226 18 = hi h 226 18 := by rw [hi_wrI, if_neg (by decide), hi_wrI, if_neg (by decide)]
      refine Ok.bind (sf_X12_fillsSides (w := w) (g := g) (by omega) hw2.1 hw2.2 hg5.2 (by rw [r18]; omega) (by rw [r18]; omega) (by rw [r18, i2, r 235 s (by decide), e 235 s (by decide)]; exact h35) (by rw [r18, i2, r 236 s (by decide), e 236 s (by decide)]; exact h36)) (fun q hq => ?_)
      exact Ok.ret ⟨h, v, b, hq⟩
    · have a1 := mlT 5 (hi h 226 18) 5 lit_5 (by omega) (by omega)
      have a2 := adT (5 * hi h 226 18) l1 (by omega) (by omega)
      have a3 := adT 51 l1 (by omega) (by omega)
      have a4 := adT l1 1 (by omega) (by omega)
      have n2 := ncT (show 0 ≤ (5 * hi h 226 18 + l1 : Int32).toInt by omega)
      have n3 := ncT (show 0 ≤ (51 + l1 : Int32).toInt by omega)
      have im : ixOK (5 * hi h 226 18 + l1) 10 = true := ixT (by omega) (by omega)
      refine Ok.pos im (Ok.pos im ?_)
      have ek : Int32.toNatClampNeg (5 * hi h 226 18 + l1) = 5 * s + Int32.toNatClampNeg l1 := by omega
      rw [ek]
      have o := hon.2 (Int32.toNatClampNeg l1) (by omega)
      refine Ok.bind (sr_cellAt (w := w) (g := g) hw2.2 hg5.2 (by omega) (by omega) (by rw [i2, e 235 s (by decide)]; exact h35) (by rw [e 243 _ (by decide)]; exact o.1.1) (by rw [e 243 _ (by decide)]; exact o.1.2) (by rw [e 244 _ (by decide)]; exact o.2.1) (by rw [e 244 _ (by decide)]; exact o.2.2)) (fun q hq => ?_)
      obtain ⟨e1, cc, k1, k2, -⟩ := hq
      rw [e1]
      refine Ok.chk (ixT (by omega) (by omega)) (fun c2 => ?_)
      exact ih _ (l1 + 1) (bg_one b (by omega) (fun _ _ => by omega)) (by omega) (by omega) (by omega)
theorem bg121 (H : bgH s w g hS) : ∀ n : Nat, ∀ (h : Hp) (l1 : Int32), bgS w g hS h → 8 * (s : Int) ≤ l1.toInt → l1.toInt ≤ 8 * s + 8 → (600 : Int) < n → (600 : Int) + (17 - l1.toInt) < n → Ok (W_X12_begins n 121 h l1) (fun q => bgP w g hS q) := by
  obtain ⟨hs, hw2, hg5, h18, h35, h36, hon, c37, c42, c45⟩ := id H
  intro n
  induction n with
  | zero => intro h l1 b a a' c d; exfalso; omega
  | succ n ih =>
    intro h l1 b a a' c d
    obtain ⟨i1, i2, i3⟩ := H.lv b.1.1
    have e (x k : Nat) (hx : x ≠ 263) : hi h x k = hi hS x k := b.1.1 x k hx
    have n1 := ncT (show 0 ≤ l1.toInt by omega)
    have f0 := lit_0
    have f8 := lit_8
    have f1 := lit_1
    rw [u_X12_begins]
    refine Ok.neg (by decide) (Ok.neg (by decide) (Ok.pos rfl ?_))
    refine Ok.pos i1 ?_
    rw [i2, e 245 s (by decide)]
    have a1 := mlT 8 (hi h 226 18) 8 lit_8 (by omega) (by omega)
    have a2 := adT (8 * hi h 226 18) (hi hS 245 s) (by omega) (by omega)
    refine Ok.le (fun c1 => bg178 H n h 0 b (by omega) (by omega) (by omega)) (fun c1 => ?_)
    have im : ixOK l1 16 = true := ixT (by omega) (by omega)
    have a4 := adT l1 1 (by omega) (by omega)
    refine Ok.pos im (Ok.pos im ?_)
    have ca (x y : Int32) : Ok (F_X12_cellAt n h x y) (fun q => q.2 = h) := by
      unfold F_X12_cellAt
      exact Ok.pos i1 (Ok.ret rfl)
    refine Ok.bind (ca _ _) (fun q hq => ?_)
    rw [hq]
    exact ih _ (l1 + 1) (bg_one b (by decide) (fun q => absurd q (by decide))) (by omega) (by omega) (by omega) (by omega)
end BG
