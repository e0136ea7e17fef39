/-! WHERE TUNES SPREAD: counted, and the reference's set -/
theorem cntB_upd {p : Nat → Bool} {j : Nat} (hj : p j = false) : ∀ n, cntB (fun i => if i = j then true else p i) n = cntB p n + (if j < n then 1 else 0) := by
  intro n
  induction n with
  | zero => rw [if_neg (Nat.not_lt_zero j)]; rfl
  | succ n ih =>
    show cntB (fun i => if i = j then true else p i) n + (if n = j then true else p n).toNat = cntB p n + (p n).toNat + _
    rw [ih]
    by_cases y : n = j
    · rw [if_pos y, if_neg (by omega), if_pos (by omega), y, hj]
      rfl
    · rw [if_neg y]
      by_cases z : j < n
      · rw [if_pos z, if_pos (by omega)]; omega
      · rw [if_neg z, if_neg (by omega)]; omega
theorem cntB_mono (p : Nat → Bool) {m n : Nat} (h : m ≤ n) : cntB p m ≤ cntB p n := by
  obtain ⟨d, hd⟩ : ∃ d, n = m + d := ⟨n - m, by omega⟩
  rw [hd, cntB_add]
  omega
/-- counting all that would, or all that do: the same test -/
theorem sn_cnt {wl sn : Nat → Bool} {t : Nat} (h : ∀ b, sn b = (wl b && decide (t + cntB wl b < 8))) : ∀ b, (t + cntB wl b < 8 → cntB sn b = cntB wl b) ∧ (8 ≤ t + cntB wl b → 8 ≤ t + cntB sn b) := by
  intro b
  induction b with
  | zero => exact ⟨fun _ => rfl, fun z => z⟩
  | succ b ih =>
    obtain ⟨i1, i2⟩ := ih
    have e1 : cntB wl (b + 1) = cntB wl b + (wl b).toNat := rfl
    have e2 : cntB sn (b + 1) = cntB sn b + (sn b).toNat := rfl
    rw [e1, e2, h b]
    by_cases y : t + cntB wl b < 8
    · have := i1 y
      rw [decide_eq_true y, Bool.and_true, this]
      exact ⟨fun _ => rfl, fun z => z⟩
    · have := i2 (by omega)
      exact ⟨fun z => by omega, fun _ => by omega⟩
section R56L
variable {h h0 : Hp} {n : Nat} {T : TT} {s : Nat}
def bgW (x k : Nat) : Prop := (260 ≤ x ∧ x ≤ 261) ∨ (x = 226 ∧ k = 52)
theorem sdv_1 {w g b : Nat} : sdv w g b 1 = if b % w + 1 < w then b + 1 else b := rfl
theorem sb_9 (v : VT T) (e : EN2 s T h0) (sd : SD5 T h0) (hs : (hi h0 226 55).toInt = T.ws.2) {l1 : Int32} (hl : ∀ b, b < 32 → (bt l1 b = true ↔ b < wT T * gT T ∧ 0 < (hi h0 263 b).toInt)) : ∀ (n : Nat) (h : Hp) (l2 l3 : Int32) (i : Nat), l3.toInt = (i : Int) → i ≤ wT T * gT T → frZ bgW h0 h → (∀ j, j < 32 → bt l2 j = (decide (j < i) && wlF T (hi h0 263) j)) → Pc (W_X12_spreadBits n 9 h l1 l2 l3) (fun q => frZ bgW h0 q.2 ∧ ∀ j, j < 32 → bt q.1 j = (decide (j < wT T * gT T) && wlF T (hi h0 263) j)) := by
  intro n
  obtain ⟨c25, ⟨w2, w5⟩, ⟨g2, g5⟩, -, -⟩ := wg_T v
  induction n with
  | zero => intro h l2 l3 i a b c d; exact Pc.no
  | succ n ih =>
    intro h l2 l3 i a b c d
    have f0 := lit_0
    have f1 := lit_1
    have f5 := lit_5
    have f32 := lit_32
    have rc (x k : Nat) (h1 : ¬ (260 ≤ x ∧ x ≤ 261)) (h2 : ¬ (x = 226 ∧ k = 52)) : hi h x k = hi h0 x k := c.1 x k (by unfold bgW; omega)
    have en : EN2 s T h := e.cg (fun x k h1 h2 => rc x k (by omega) (by omega)) (rc 226 18 (by omega) (by omega))
    have ef : hi h 263 = hi h0 263 := funext (fun k => rc 263 k (by omega) (by omega))
    have n1 := ncT (show 0 ≤ l3.toInt by omega)
    have n2 : Int32.toNatClampNeg l3 = i := by omega
    rw [u_X12_spreadBits]
    refine Pc.pos rfl ?_
    refine Pc.bind (ce_r v en) (fun q1 h1 => ?_)
    obtain ⟨t1, t2⟩ := h1
    rw [t1]
    refine Pc.le (fun z => Pc.ret ⟨c, fun j hj => ?_⟩) (fun z => Pc.chk (fun _ => ?_))
    · have ei : i = wT T * gT T := by omega
      rw [← ei]; exact d j hj
    have a1 := adT l3 1 (by omega) (by omega)
    -- the next one
    have nx (h' : Hp) (c' : frZ bgW h0 h') (no : wlF T (hi h0 263) i = false) : Pc (W_X12_spreadBits n 9 h' l1 l2 (l3 + 1)) (fun q => frZ bgW h0 q.2 ∧ ∀ j, j < 32 → bt q.1 j = (decide (j < wT T * gT T) && wlF T (hi h0 263) j)) := by
      refine ih h' l2 (l3 + 1) (i + 1) (by omega) (by omega) c' (fun j hj => ?_)
      rw [d j hj]
      by_cases y : j = i
      · rw [y, no, Bool.and_false, Bool.and_false]
      · by_cases y2 : j < i
        · rw [decide_eq_true y2, decide_eq_true (by omega)]
        · rw [decide_eq_false y2, decide_eq_false (by omega)]
    have b0 := btS0 l1 (c := l3) (by omega) (by omega)
    rw [n2] at b0
    have li := hl i (by omega)
    refine Pc.eq (fun z0 => nx h c ?_) (fun z0 => ?_)
    · have := b0.mp (z0.trans f0)
      unfold wlF qtF
      by_cases y : 0 < (hi h0 263 i).toInt
      · rw [li.mpr ⟨by omega, y⟩] at this
        exact absurd this (by decide)
      · rw [decide_eq_false y]
        simp only [Bool.and_false, Bool.false_and]
    have tun : bt l1 i = true := by
      cases y : bt l1 i with
      | true => rfl
      | false => exact absurd ((b0.mpr y).trans f0.symm) z0
    obtain ⟨-, pos⟩ := li.mp tun
    have m5 := mlT 5 l3 5 f5 (by omega) (by omega)
    have a5 := adT (5 * l3) 1 (by omega) (by omega)
    have n3 := ncT (show 0 ≤ (5 * l3 + 1).toInt by omega)
    have n4 : Int32.toNatClampNeg (5 * l3 + 1) = 5 * i + 1 := by omega
    rw [n4]
    have es : (hi h 264 (5 * i + 1)).toInt = ((sdv (wT T) (gT T) i 1 : Nat) : Int) := by
      rw [rc 264 _ (by omega) (by omega)]
      exact sd i 1 (by omega) (by decide)
    have dl : sdv (wT T) (gT T) i 1 < wT T * gT T := (sdv_all (wT T) (by omega) (gT T) (by omega) i (by omega) 1 (by decide) (by omega)).1
    have b1 := btS1 l1 (c := hi h 264 (5 * i + 1)) (by omega) (by omega)
    have n5 := ncT (show 0 ≤ (hi h 264 (5 * i + 1)).toInt by omega)
    have n6 : Int32.toNatClampNeg (hi h 264 (5 * i + 1)) = sdv (wT T) (gT T) i 1 := by omega
    rw [n6] at b1
    have ls := hl (sdv (wT T) (gT T) i 1) (by omega)
    refine Pc.eq (fun z1 => nx h c ?_) (fun z1 => ?_)
    · have := (ls.mp (b1.mp (z1.trans f1))).2
      unfold wlF qtF
      by_cases y : i % wT T + 1 < wT T
      · rw [sdv_1, if_pos y] at this
        rw [decide_eq_true this]
        simp only [Bool.not_true, Bool.and_false, Bool.false_and]
      · rw [decide_eq_false y]
        simp only [Bool.and_false, Bool.false_and]
    have rgt : i % wT T + 1 < wT T ∧ ¬ 0 < (hi h0 263 (i + 1)).toInt := by
      have nb : ¬ bt l1 (sdv (wT T) (gT T) i 1) = true := fun y => z1 ((b1.mpr y).trans f1.symm)
      by_cases y : i % wT T + 1 < wT T
      · rw [sdv_1, if_pos y] at nb ls dl
        exact ⟨y, fun w => nb (ls.mpr ⟨dl, w⟩)⟩
      · rw [sdv_1, if_neg y] at nb
        exact absurd tun nb
    have qt : qtF T (hi h0 263) i = true := by
      unfold qtF
      rw [decide_eq_true (show i < wT T * gT T by omega), decide_eq_true pos, decide_eq_true rgt.1, decide_eq_false rgt.2]
      rfl
    refine Pc.bind (fun y e' => And.intro (ar_r v en (b := i) (by omega) a (k := 2) (by decide) lit_2 rfl (x2 := 0) (x3 := 0) y e') (zf_X12_toldOf y e')) (fun q7 h7 => ?_)
    obtain ⟨t3, z7⟩ := h7
    rw [ef] at t3
    have c7 : frZ bgW h0 q7.2 := c.tr (z7.sub (fun x k z => by unfold bgW; omega))
    have rc7 (x k : Nat) (h1 : ¬ (260 ≤ x ∧ x ≤ 261)) (h2 : ¬ (x = 226 ∧ k = 52)) : hi q7.2 x k = hi h0 x k := c7.1 x k (by unfold bgW; omega)
    refine Pc.le (fun z2 => nx q7.2 c7 ?_) (fun z2 => ?_)
    · unfold wlF
      rw [decide_eq_false (show ¬ 0 < (lwT T (hi h0 263) i 0 0 2).toInt by rw [← t3]; omega)]
      simp only [Bool.and_false]
    refine Pc.bind (lo_r (T := T) (by rw [rc7 226 55 (by omega) (by omega)]; exact hs)) (fun q10 h10 => Pc.chk (fun _ => ?_))
    obtain ⟨t4, t5⟩ := h10
    have en7 : EN2 s T q7.2 := e.cg (fun x k h1 h2 => rc7 x k (by omega) (by omega)) (rc7 226 18 (by omega) (by omega))
    rw [t4, en7.nc]
    have ew : (hi q7.2 248 s).toInt = T.ws.1 := en7.2.2.2.1.1
    have el : lotV (sdV T) (32 * hi q7.2 263 61 + l3) = lotV (sdV T) (32 * hi h0 263 61 + Int32.ofNat i) := by
      rw [rc7 263 61 (by omega) (by omega), nOf a (by omega)]
    rw [el] at t5
    refine Pc.le (fun z3 => nx q7.2 c7 ?_) (fun z3 => ?_)
    · unfold wlF wetF
      rw [decide_eq_false (show ¬ (lotV (sdV T) (32 * hi h0 263 61 + Int32.ofNat i)).toInt < T.ws.1 by rw [← t5]; omega)]
      simp only [Bool.and_false, Bool.false_and]
    refine ih q7.2 _ (l3 + 1) (i + 1) (by omega) (by omega) c7 (fun j hj => ?_)
    have yes : wlF T (hi h0 263) i = true := by
      unfold wlF wetF
      rw [qt, decide_eq_true (show (lotV (sdV T) (32 * hi h0 263 61 + Int32.ofNat i)).toInt < T.ws.1 by rw [← t5]; omega), decide_eq_true (show 0 < (lwT T (hi h0 263) i 0 0 2).toInt by rw [← t3]; omega)]
      rfl
    rw [bt_add a (by omega), d j hj]
    by_cases y : j = i
    · rw [y, yes, decide_eq_true (show i < i + 1 by omega), decide_eq_true (show i = i from rfl)]
      simp only [Bool.or_true, Bool.true_and]
    · rw [decide_eq_false y, Bool.or_false]
      by_cases y2 : j < i
      · rw [decide_eq_true y2, decide_eq_true (by omega)]
      · rw [decide_eq_false y2, decide_eq_false (by omega)]
theorem sb_r (v : VT T) (e : EN2 s T h) (sd : SD5 T h) (hs : (hi h 226 55).toInt = T.ws.2) : Pc (F_X12_spreadBits n h) (fun q => frZ bgW h q.2 ∧ ∀ j, j < 32 → bt q.1 j = (decide (j < wT T * gT T) && wlF T (hi h 263) j)) := by
  unfold F_X12_spreadBits
  refine Pc.bind (tb_r v e) (fun q1 h1 => ?_)
  obtain ⟨t1, t2⟩ := h1
  rw [t1]
  exact sb_9 v e sd hs t2 n h 0 0 0 lit_0 (Nat.zero_le _) (frZ.rf h) (fun j _ => by rw [bt_zero, decide_eq_false (Nat.not_lt_zero j)]; rfl)
end R56L
