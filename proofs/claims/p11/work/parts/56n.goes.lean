/-! A BEAT, in the reference: as a function of the row -/
/-- a beat later -/
def beF (T : TT) (f : Nat → Int32) : Nat → Int32 := spF T (wk2 T (wk1 T f))
section R56N
variable {h h0 : Hp} {n : Nat} {T : TT} {s : Nat} {f : Nat → Int32}
theorem RVR.w1 (v : VT T) (x : RVR (wT T * gT T) T.go.length f) : RVR (wT T * gT T) T.go.length (wk1 T f) := by
  have c25 := (wg_T v).1
  have G5 := v.2.2.1.1
  obtain ⟨x1, x2, x3, x4⟩ := x
  have lo (k : Nat) (hk : k < 51) : wk1 T f k = f k := by
    unfold wk1
    rw [if_neg (by omega), if_neg (by omega)]
  have e56 (k : Nat) (hk : k < 5) : wk1 T f (56 + k) = f (56 + k) := by
    unfold wk1
    rw [if_neg (by omega), if_neg (by omega)]
  refine ⟨fun b hb => ?_, fun b hb => ?_, fun k hk => ?_, fun k h1 h2 => ⟨?_, ?_⟩⟩
  · rw [lo b (by omega), lo (25 + b) (by omega)]; exact x1 b hb
  · rw [lo 50 (by decide)]; exact x2 b hb
  · obtain ⟨⟨y1, y2⟩, y3⟩ := x3 k hk
    have e : wk1 T f (51 + k) = Int32.ofNat (stF T f (f (51 + k)).toInt.toNat (f (51 + k + 5)) (Int32.ofNat (51 + k - 51)) 0) := if_pos ⟨by omega, by omega⟩
    have dl := stF_lt v (f := f) (b := (f (51 + k)).toInt.toNat) (by omega) (x4 := f (51 + k + 5)) (x5 := Int32.ofNat (51 + k - 51)) (k := 0)
    have df := stF_free (T := T) (f := f) (b := (f (51 + k)).toInt.toNat) y3 (x4 := f (51 + k + 5)) (x5 := Int32.ofNat (51 + k - 51)) (k := 0)
    rw [lo 50 (by decide), e]
    generalize stF T f (f (51 + k)).toInt.toNat (f (51 + k + 5)) (Int32.ofNat (51 + k - 51)) 0 = d at dl df
    rw [Int32.toInt_ofNat_of_lt (by omega)]
    exact ⟨⟨by omega, by omega⟩, df⟩
  · unfold wk1
    rw [if_neg (by omega), if_neg (by omega)]
    exact (x4 k h1 h2).1
  · rw [e56 k h2]; exact (x4 k h1 h2).2
theorem RVR.w2 (v : VT T) (x : RVR (wT T * gT T) T.go.length f) : RVR (wT T * gT T) T.go.length (wk2 T f) := by
  have c25 := (wg_T v).1
  have G5 := v.2.2.1.1
  obtain ⟨x1, x2, x3, x4⟩ := x
  have lo (k : Nat) (hk : k < 51) : wk2 T f k = f k := by
    unfold wk2
    rw [if_neg (by omega), if_neg (by omega)]
  refine ⟨fun b hb => ?_, fun b hb => ?_, fun k hk => ?_, fun k h1 h2 => ⟨?_, ?_⟩⟩
  · rw [lo b (by omega), lo (25 + b) (by omega)]; exact x1 b hb
  · rw [lo 50 (by decide)]; exact x2 b hb
  · obtain ⟨⟨y1, y2⟩, y3⟩ := x3 k hk
    have e : wk2 T f (51 + k) = (if loudF f (f (51 + k)).toInt.toNat (f 61) = true then Int32.ofNat (stF T f (f (51 + k)).toInt.toNat (f (51 + k + 5)) (Int32.ofNat (51 + k - 51)) 1) else f (51 + k)) := if_pos ⟨by omega, by omega⟩
    have dl := stF_lt v (f := f) (b := (f (51 + k)).toInt.toNat) (by omega) (x4 := f (51 + k + 5)) (x5 := Int32.ofNat (51 + k - 51)) (k := 1)
    have df := stF_free (T := T) (f := f) (b := (f (51 + k)).toInt.toNat) y3 (x4 := f (51 + k + 5)) (x5 := Int32.ofNat (51 + k - 51)) (k := 1)
    rw [lo 50 (by decide), e]
    by_cases z : loudF f (f (51 + k)).toInt.toNat (f 61) = true
    · rw [if_pos z]
      generalize stF T f (f (51 + k)).toInt.toNat (f (51 + k + 5)) (Int32.ofNat (51 + k - 51)) 1 = d at dl df
      rw [Int32.toInt_ofNat_of_lt (by omega)]
      exact ⟨⟨by omega, by omega⟩, df⟩
    · rw [if_neg z]
      exact ⟨⟨y1, y2⟩, y3⟩
  · unfold wk2
    rw [if_neg (by omega), if_neg (by omega)]
    exact (x4 k h1 h2).1
  · unfold wk2
    rw [if_neg (by omega), if_neg (by omega)]
    exact (x4 k h1 h2).2
theorem spI_c (k : Nat) : spI T f (wT T * gT T) k = spF T f k := by
  unfold spI spF
  by_cases y1 : (1 ≤ k ∧ k < 25) ∧ snF T f (k - 1) = true
  · have := (wl_qt (sn_wl y1.2)).1.1
    rw [if_pos y1, if_pos ⟨⟨y1.1.1, y1.1.2, this⟩, y1.2⟩]
  · rw [if_neg y1, if_neg (fun w => y1 ⟨⟨w.1.1, w.1.2.1⟩, w.2⟩)]
    by_cases y2 : (26 ≤ k ∧ k < 50) ∧ snF T f (k - 26) = true
    · have := (wl_qt (sn_wl y2.2)).1.1
      rw [if_pos y2, if_pos ⟨⟨y2.1.1, y2.1.2, this⟩, y2.2⟩]
      unfold offF
      rw [show 25 + (k - 26) = k - 1 by omega]
    · rw [if_neg y2, if_neg (fun w => y2 ⟨⟨w.1.1, w.1.2.1⟩, w.2⟩)]
theorem spr_r (v : VT T) (e : EN2 s T h) (sd : SD5 T h) (hs : (hi h 226 55).toInt = T.ws.2) : Pc (F_X12_spreads n h) (fun q => frZ bgF h q ∧ ∀ k, hi q 263 k = spF T (hi h 263) k) := by
  unfold F_X12_spreads
  refine Pc.bind (sb_r v e sd hs) (fun q16 h16 => ?_)
  obtain ⟨t1, t2⟩ := h16
  have r (x k : Nat) (h1 : ¬ (260 ≤ x ∧ x ≤ 261)) (h2 : ¬ (x = 226 ∧ k = 52)) : hi q16.2 x k = hi h x k := t1.1 x k (by unfold bgW; omega)
  have en : EN2 s T q16.2 := e.cg (fun x k h1 h2 => r x k (by omega) (by omega)) (r 226 18 (by omega) (by omega))
  have z (k : Nat) : spI T (hi h 263) 0 k = hi h 263 k := by
    unfold spI
    rw [if_neg (by omega), if_neg (by omega)]
  refine (ss_7 (f := hi h 263) v en t2 n q16.2 0 0 lit_0 (Nat.zero_le _) (frZ.rf _) (fun k => by rw [r 263 k (by omega) (by omega), z]) ?_).mono (fun q hq => ⟨?_, fun k => (hq.2 k).trans (spI_c k)⟩)
  · rw [cntB_cg (g := fun j => decide (0 < (hi h 263 j).toInt)) _ (fun j _ => by rw [z])]
    rfl
  · exact (t1.sub (fun x k z => by unfold bgW at z; unfold bgF; omega)).tr (hq.1.sub (fun x k z => by unfold bgF; omega))
/-- the reference: a beat later -/
theorem be_r (v : VT T) (e : EN2 s T h) (sd : SD5 T h) (rv : RVR (wT T * gT T) T.go.length (hi h 263)) (hs : (hi h 226 55).toInt = T.ws.2) (st : vp_nar .boolean (hi h 226 56) = 0) : Pc (F_X12_beatGoes n h) (fun q => frZ bgF h q ∧ ∀ k, hi q 263 k = beF T (hi h 263) k) := by
  intro q hq
  obtain ⟨m, h', fr, d, r⟩ := lt_beat v e sd rv (rv.w1 v) q hq
  rcases r with ⟨-, w⟩ | ⟨w, -⟩
  · have ef : hi h' 263 = wk2 T (wk1 T (hi h 263)) := funext d
    obtain ⟨k1, k2⟩ := spr_r (n := m) v (e.bg fr) (sd.bg fr) (by rw [fr.1 226 55 (by unfold bgF; omega)]; exact hs) q w
    rw [ef] at k2
    exact ⟨fr.tr k1, k2⟩
  · exact absurd st w
end R56N
