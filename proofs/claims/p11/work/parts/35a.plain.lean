/-! READING: a side made plain -/
def plW (s a k : Nat) : Prop := ((a = 235 ∨ a = 236 ∨ a = 237 ∨ a = 242 ∨ a = 245 ∨ a = 248 ∨ a = 249) ∧ k = s) ∨ ((a = 250 ∨ a = 251) ∧ 4 * s ≤ k ∧ k < 4 * s + 4)
def plP (s : Nat) (h q : Hp) : Prop := ((∀ a k, ¬ plW s a k → hi q a k = hi h a k) ∧ (∀ a k, hl q a k = hl h a k)) ∧ (hi q 235 s).toInt = 4 ∧ (hi q 236 s).toInt = 4 ∧ (hi q 237 s).toInt = 0 ∧ (hi q 242 s).toInt = 0 ∧ (hi q 245 s).toInt = 0
def plQ (s : Nat) (h q : Hp) (m : Int) : Prop := plP s h q ∧ ∀ k : Nat, (k : Int) < m → (hi q 250 (4 * s + k)).toInt = (hi q 251 (4 * s + k)).toInt
theorem plN {s a k a0 k0 : Nat} (n : plW s a0 k0) (q : ¬ plW s a k) : ¬ (a = a0 ∧ k = k0) := fun z => q (by rw [z.1, z.2]; exact n)
theorem pl51 {s : Nat} (hs : s ≤ 1) {hS : Hp} {l1 : Int32} (hl : l1.toInt = (s : Int)) : ∀ n : Nat, ∀ (h : Hp) (l2 : Int32), 0 ≤ l2.toInt → l2.toInt ≤ 4 → plQ s hS h l2.toInt → (1 : Int) + (4 - l2.toInt) < n → Ok (W_X12_plain n 51 h l1 l2) (fun q => plQ s hS q 4) := by
  intro n
  induction n with
  | zero => intro h l2 a b p c; exfalso; omega
  | succ n ih =>
    intro h l2 a b p c
    have f4 := lit_4
    have f1 := lit_1
    rw [u_X12_plain]
    refine Ok.pos rfl ?_
    refine Ok.le (fun c1 => ?_) (fun c1 => ?_)
    · refine Ok.ret ?_
      rw [show l2.toInt = 4 by omega] at p
      exact p
    · have a1 := mlT 4 l1 4 lit_4 (by omega) (by omega)
      have a2 := adT (4 * l1) l2 (by omega) (by omega)
      have a3 := adT l2 1 (by omega) (by omega)
      have n1 := ncT (show 0 ≤ (4 * l1 + l2 : Int32).toInt by omega)
      have n2 := ncT a
      have ix : ixOK (4 * l1 + l2) 8 = true := ixT (by omega) (by omega)
      refine Ok.pos ix (Ok.pos ix ?_)
      generalize ek : Int32.toNatClampNeg (4 * l1 + l2) = k at n1
      have hk : k = 4 * s + Int32.toNatClampNeg l2 := by omega
      have nf0 : plW s 250 k := by unfold plW; omega
      have nf1 : plW s 251 k := by unfold plW; omega
      have r (a' k' : Nat) (z1 : ¬ (a' = 250 ∧ k' = k)) (z2 : ¬ (a' = 251 ∧ k' = k)) : hi (wrI (wrI h 250 k 0) 251 k 0) a' k' = hi h a' k' := by
        rw [hi_wrI, if_neg z2, hi_wrI, if_neg z1]
      have r0 : hi (wrI (wrI h 250 k 0) 251 k 0) 250 k = 0 := by rw [hi_wrI, if_neg (by omega), hi_wrI, if_pos ⟨rfl, rfl⟩]
      have r1 : hi (wrI (wrI h 250 k 0) 251 k 0) 251 k = 0 := by rw [hi_wrI, if_pos ⟨rfl, rfl⟩]
      obtain ⟨⟨⟨p1, p2⟩, p3, p4, p5, p6, p7⟩, pk⟩ := p
      refine ih _ (l2 + 1) (by omega) (by omega) ⟨⟨⟨fun a' k' q => ?_, fun a' k' => p2 a' k'⟩, ?_, ?_, ?_, ?_, ?_⟩, fun i il => ?_⟩ (by omega)
      · rw [r a' k' (plN nf0 q) (plN nf1 q)]
        exact p1 a' k' q
      · rw [r 235 s (by omega) (by omega)]; exact p3
      · rw [r 236 s (by omega) (by omega)]; exact p4
      · rw [r 237 s (by omega) (by omega)]; exact p5
      · rw [r 242 s (by omega) (by omega)]; exact p6
      · rw [r 245 s (by omega) (by omega)]; exact p7
      · by_cases z : 4 * s + i = k
        · rw [z, r0, r1]
        · rw [r 250 _ (by omega) (by omega), r 251 _ (by omega) (by omega)]
          exact pk i (by omega)
theorem sf_X12_plain {n : Nat} {s : Nat} (hn : 100 ≤ n) (hs : s ≤ 1) {h : Hp} {x1 : Int32} (hx : x1.toInt = (s : Int)) : Ok (F_X12_plain n h x1) (fun q => plQ s h q 4) := by
  have ix : ixOK x1 2 = true := ixT (by omega) (by omega)
  have n1 := ncT (show 0 ≤ x1.toInt by omega)
  have e1 : Int32.toNatClampNeg x1 = s := by omega
  have f0 := lit_0
  unfold F_X12_plain
  refine Ok.pos ix (Ok.pos ix (Ok.pos ix (Ok.pos ix (Ok.pos ix (Ok.pos ix (Ok.pos ix ?_))))))
  rw [e1]
  have w (a0 : Nat) (m : a0 = 235 ∨ a0 = 236 ∨ a0 = 237 ∨ a0 = 242 ∨ a0 = 245 ∨ a0 = 248 ∨ a0 = 249) : plW s a0 s := by unfold plW; omega
  refine pl51 hs hx n _ 0 (by omega) (by omega) ⟨⟨⟨fun a k q => ?_, fun a k => rfl⟩, ?_, ?_, ?_, ?_, ?_⟩, fun i il => by omega⟩ (by omega)
  · rw [hi_wrI, if_neg (plN (w 249 (by decide)) q), hi_wrI, if_neg (plN (w 248 (by decide)) q), hi_wrI, if_neg (plN (w 245 (by decide)) q), hi_wrI, if_neg (plN (w 242 (by decide)) q), hi_wrI, if_neg (plN (w 237 (by decide)) q), hi_wrI, if_neg (plN (w 236 (by decide)) q), hi_wrI, if_neg (plN (w 235 (by decide)) q)]
  · rw [hi_wrI, if_neg (by omega), hi_wrI, if_neg (by omega), hi_wrI, if_neg (by omega), hi_wrI, if_neg (by omega), hi_wrI, if_neg (by omega), hi_wrI, if_neg (by omega), hi_wrI, if_pos ⟨rfl, rfl⟩]; exact lit_4
  · rw [hi_wrI, if_neg (by omega), hi_wrI, if_neg (by omega), hi_wrI, if_neg (by omega), hi_wrI, if_neg (by omega), hi_wrI, if_neg (by omega), hi_wrI, if_pos ⟨rfl, rfl⟩]; exact lit_4
  · rw [hi_wrI, if_neg (by omega), hi_wrI, if_neg (by omega), hi_wrI, if_neg (by omega), hi_wrI, if_neg (by omega), hi_wrI, if_pos ⟨rfl, rfl⟩]; exact lit_0
  · rw [hi_wrI, if_neg (by omega), hi_wrI, if_neg (by omega), hi_wrI, if_neg (by omega), hi_wrI, if_pos ⟨rfl, rfl⟩]; exact lit_0
  · rw [hi_wrI, if_neg (by omega), hi_wrI, if_neg (by omega), hi_wrI, if_pos ⟨rfl, rfl⟩]; exact lit_0
