/-! MANY BEATS, in the reference -/
def itB (T : TT) : Nat → (Nat → Int32) → Nat → Int32
  | 0, f => f
  | m + 1, f => itB T m (beF T f)
section R56O
variable {h h0 : Hp} {n : Nat} {T : TT} {s : Nat} {f : Nat → Int32}
theorem spF_hi {k : Nat} (h1 : 50 ≤ k) : spF T f k = f k := by
  unfold spF
  rw [if_neg (by omega), if_neg (by omega)]
theorem RVR.sp {G : Nat} (v : VT T) (x : RVR (wT T * gT T) G f) : RVR (wT T * gT T) G (spF T f) := by
  have c25 := (wg_T v).1
  have f1 := lit_1
  obtain ⟨x1, x2, x3, x4⟩ := x
  refine ⟨fun b hb => ?_, fun b hb => ?_, fun k hk => ?_, fun k h1 h2 => ?_⟩
  · by_cases y : (1 ≤ b ∧ b < 25) ∧ snF T f (b - 1) = true
    · have wl := sn_wl y.2
      have ic := wl_in v wl
      obtain ⟨⟨q1, q2⟩, -, -⟩ := wl_qt wl
      have e1 : spF T f b = f (b - 1) := if_pos y
      have e2 : spF T f (25 + b) = (f (25 + b - 1) + 1) - (f (25 + b - 1) + 1) / f (25 + b - 26) * f (25 + b - 26) := by
        unfold spF
        rw [if_neg (by omega), if_pos ⟨⟨by omega, by omega⟩, by rw [show 25 + b - 26 = b - 1 by omega]; exact y.2⟩]
      obtain ⟨-, -, z⟩ := x1 (b - 1) (by omega)
      have z' := z q2
      rw [show 25 + (b - 1) = 25 + b - 1 by omega] at z'
      rw [e1, e2, show 25 + b - 26 = b - 1 by omega]
      have a1 := adT (f (25 + b - 1)) 1 (by omega) (by omega)
      have rg := rmG (f (25 + b - 1) + 1) (f (b - 1)) (by omega) q2
      exact ⟨fun w => by exfalso; omega, by omega, fun _ => ⟨z'.1, rg⟩⟩
    · have e1 : spF T f b = f b := by
        unfold spF
        rw [if_neg y, if_neg (by omega)]
      have e2 : spF T f (25 + b) = f (25 + b) := by
        unfold spF
        rw [if_neg (by omega)]
        refine if_neg (fun w => y ⟨⟨by omega, hb⟩, ?_⟩)
        have := w.2
        rw [show 25 + b - 26 = b - 1 by omega] at this
        exact this
      rw [e1, e2]; exact x1 b hb
  · rw [spF_hi (by decide)]; exact x2 b hb
  · rw [spF_hi (k := 50) (by decide), spF_hi (k := 51 + k) (by omega)]; exact x3 k hk
  · rw [spF_hi (k := 51 + k) (by omega), spF_hi (k := 56 + k) (by omega)]; exact x4 k h1 h2
theorem RVR.be (v : VT T) (x : RVR (wT T * gT T) T.go.length f) : RVR (wT T * gT T) T.go.length (beF T f) := ((x.w1 v).w2 v).sp v
theorem go_2 (v : VT T) {l1 : Int32} {m : Nat} (hm : l1.toInt = (m : Int)) : ∀ (n : Nat) (h : Hp) (l2 : Int32) (i : Nat), l2.toInt = (i : Int) → i ≤ m → EN2 s T h → SD5 T h → RVR (wT T * gT T) T.go.length (hi h 263) → (hi h 226 55).toInt = T.ws.2 → vp_nar .boolean (hi h 226 56) = 0 → Pc (W_X12_goes n 2 h l1 l2) (fun q => frZ bgF h q ∧ (∀ k, hi q 263 k = itB T (m - i) (hi h 263) k) ∧ RVR (wT T * gT T) T.go.length (hi q 263)) := by
  intro n
  induction n with
  | zero => intro h l2 i a b e sd rv hs st; exact Pc.no
  | succ n ih =>
    intro h l2 i a b e sd rv hs st
    have f1 := lit_1
    have rl := l1.toInt_lt
    rw [u_X12_goes]
    refine Pc.pos rfl ?_
    refine Pc.le (fun z => Pc.ret ⟨frZ.rf h, fun k => ?_, rv⟩) (fun z => ?_)
    · rw [show m - i = 0 by omega]
      rfl
    · have a1 := adT l2 1 (by omega) (by omega)
      refine Pc.bind (be_r v e sd rv hs st) (fun q2 h2 => ?_)
      obtain ⟨fr, d⟩ := h2
      have ef : hi q2 263 = beF T (hi h 263) := funext d
      refine (ih q2 (l2 + 1) (i + 1) (by omega) (by omega) (e.bg fr) (sd.bg fr) (by rw [ef]; exact rv.be v) (by rw [fr.1 226 55 (by unfold bgF; omega)]; exact hs) (by rw [fr.1 226 56 (by unfold bgF; omega)]; exact st)).mono (fun q hq => ⟨fr.tr hq.1, fun k => ?_, hq.2.2⟩)
      rw [hq.2.1 k, ef, show m - i = m - (i + 1) + 1 by omega]
      rfl
theorem go_r (v : VT T) {l1 : Int32} {m : Nat} (hm : l1.toInt = (m : Int)) (e : EN2 s T h) (sd : SD5 T h) (rv : RVR (wT T * gT T) T.go.length (hi h 263)) (hs : (hi h 226 55).toInt = T.ws.2) (st : vp_nar .boolean (hi h 226 56) = 0) : Pc (F_X12_goes n h l1) (fun q => frZ bgF h q ∧ (∀ k, hi q 263 k = itB T m (hi h 263) k) ∧ RVR (wT T * gT T) T.go.length (hi q 263)) := by
  unfold F_X12_goes
  exact go_2 v hm n h 0 0 lit_0 (Nat.zero_le _) e sd rv hs st
end R56O
