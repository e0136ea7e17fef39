/-! TUNES SPREAD, in the reference -/
def offF (f : Nat → Int32) (b : Nat) : Int32 := (f (25 + b) + 1) - (f (25 + b) + 1) / f b * f b
/-- as far as the cell i it is done -/
def spI (T : TT) (f : Nat → Int32) (i : Nat) : Nat → Int32 := fun k => if (1 ≤ k ∧ k < 25 ∧ k - 1 < i) ∧ snF T f (k - 1) = true then f (k - 1) else if (26 ≤ k ∧ k < 50 ∧ k - 26 < i) ∧ snF T f (k - 26) = true then offF f (k - 26) else f k
section R56M
variable {h h0 : Hp} {n : Nat} {T : TT} {s : Nat} {f : Nat → Int32}
theorem sn_wl {b : Nat} (z : snF T f b = true) : wlF T f b = true := by
  unfold snF at z
  exact (Bool.and_eq_true _ _ ▸ z).1
theorem wl_qt {b : Nat} (z : wlF T f b = true) : (b < wT T * gT T ∧ 0 < (f b).toInt) ∧ b % wT T + 1 < wT T ∧ ¬ 0 < (f (b + 1)).toInt := by
  unfold wlF qtF at z
  simp only [Bool.and_eq_true, decide_eq_true_eq, Bool.not_eq_true', decide_eq_false_iff_not] at z
  exact ⟨z.1.1, z.1.2⟩
theorem wl_in (v : VT T) {b : Nat} (z : wlF T f b = true) : b + 1 < wT T * gT T := by
  obtain ⟨c25, ⟨w2, w5⟩, ⟨g2, g5⟩, -, -⟩ := wg_T v
  obtain ⟨⟨q1, -⟩, q2, -⟩ := wl_qt z
  have r := rt_all w2 w5 g5 (b := b) (by omega) q1
  rw [decide_eq_true q2] at r
  by_cases y : b + 1 < wT T * gT T
  · exact y
  · rw [decide_eq_false y] at r
    exact absurd r (by simp)
theorem spI_n {i : Nat} (z : snF T f i = false) (k : Nat) : spI T f (i + 1) k = spI T f i k := by
  unfold spI
  by_cases y1 : (1 ≤ k ∧ k < 25 ∧ k - 1 < i) ∧ snF T f (k - 1) = true
  · rw [if_pos y1, if_pos ⟨⟨y1.1.1, y1.1.2.1, by omega⟩, y1.2⟩]
  · have m1 : ¬ ((1 ≤ k ∧ k < 25 ∧ k - 1 < i + 1) ∧ snF T f (k - 1) = true) := by
      intro w
      by_cases y3 : k - 1 = i
      · rw [y3, z] at w
        exact absurd w.2 (by decide)
      · exact y1 ⟨⟨w.1.1, w.1.2.1, by omega⟩, w.2⟩
    rw [if_neg y1, if_neg m1]
    by_cases y2 : (26 ≤ k ∧ k < 50 ∧ k - 26 < i) ∧ snF T f (k - 26) = true
    · rw [if_pos y2, if_pos ⟨⟨y2.1.1, y2.1.2.1, by omega⟩, y2.2⟩]
    · rw [if_neg y2]
      refine if_neg (fun w => ?_)
      by_cases y3 : k - 26 = i
      · rw [y3, z] at w
        exact absurd w.2 (by decide)
      · exact y2 ⟨⟨w.1.1, w.1.2.1, by omega⟩, w.2⟩
theorem spI_s {i : Nat} (i25 : i + 1 < 25) (z : snF T f i = true) (k : Nat) : spI T f (i + 1) k = upF (upF (spI T f i) (i + 1) (f i)) (i + 26) (offF f i) k := by
  unfold upF
  by_cases y : k = i + 26
  · rw [if_pos y]
    unfold spI
    rw [if_neg (by omega), if_pos ⟨⟨by omega, by omega, by omega⟩, by rw [show k - 26 = i by omega]; exact z⟩, show k - 26 = i by omega]
  · rw [if_neg y]
    by_cases y0 : k = i + 1
    · rw [if_pos y0]
      unfold spI
      rw [if_pos ⟨⟨by omega, by omega, by omega⟩, by rw [show k - 1 = i by omega]; exact z⟩, show k - 1 = i by omega]
    · rw [if_neg y0]
      unfold spI
      by_cases y1 : (1 ≤ k ∧ k < 25 ∧ k - 1 < i) ∧ snF T f (k - 1) = true
      · rw [if_pos y1, if_pos ⟨⟨y1.1.1, y1.1.2.1, by omega⟩, y1.2⟩]
      · rw [if_neg y1, if_neg (fun w => y1 ⟨⟨w.1.1, w.1.2.1, by omega⟩, w.2⟩)]
        by_cases y2 : (26 ≤ k ∧ k < 50 ∧ k - 26 < i) ∧ snF T f (k - 26) = true
        · rw [if_pos y2, if_pos ⟨⟨y2.1.1, y2.1.2.1, by omega⟩, y2.2⟩]
        · rw [if_neg y2, if_neg (fun w => y2 ⟨⟨w.1.1, w.1.2.1, by omega⟩, w.2⟩)]
theorem spI_at {i : Nat} (i25 : i + 1 < 25) (pos : 0 < (f i).toInt) : spI T f i i = f i ∧ spI T f i (25 + i) = f (25 + i) ∧ spI T f i (i + 1) = f (i + 1) := by
  have no (hi0 : 1 ≤ i) (w : snF T f (i - 1) = true) : False := by
    have := (wl_qt (sn_wl w)).2.2
    rw [show i - 1 + 1 = i by omega] at this
    exact this pos
  unfold spI
  refine ⟨?_, ?_, ?_⟩
  · rw [if_neg (fun w => no w.1.1 w.2), if_neg (by omega)]
  · rw [if_neg (by omega)]
    refine if_neg (fun w => ?_)
    have e := w.2
    rw [show 25 + i - 26 = i - 1 by omega] at e
    exact no (by omega) e
  · rw [if_neg (by omega), if_neg (by omega)]
theorem ss_7 (v : VT T) (e : EN2 s T h0) {l1 : Int32} (hl : ∀ j, j < 32 → bt l1 j = (decide (j < wT T * gT T) && wlF T f j)) : ∀ (n : Nat) (h : Hp) (l2 : Int32) (i : Nat), l2.toInt = (i : Int) → i ≤ wT T * gT T → frZ (fun x _ => x = 263) h0 h → (∀ k, hi h 263 k = spI T f i k) → cntB (fun j => decide (0 < (spI T f i j).toInt)) (wT T * gT T) = tnN T f + cntB (snF T f) i → Pc (W_X12_spreads n 7 h l1 l2) (fun q => frZ (fun x _ => x = 263) h0 q ∧ ∀ k, hi q 263 k = spI T f (wT T * gT T) k) := by
  intro n
  have c25 := (wg_T v).1
  induction n with
  | zero => intro h l2 i a b c d m; exact Pc.no
  | succ n ih =>
    intro h l2 i a b c d m
    have f0 := lit_0
    have f1 := lit_1
    have f8 := lit_8
    have f25 := lit_25
    have f26 : (26 : Int32).toInt = 26 := by decide
    have en : EN2 s T h := e.cg (fun x k h1 h2 => c.1 x k (by omega)) (c.1 226 18 (by omega))
    have n1 := ncT (show 0 ≤ l2.toInt by omega)
    have n2 : Int32.toNatClampNeg l2 = i := by omega
    rw [u_X12_spreads]
    refine Pc.pos rfl ?_
    refine Pc.bind (ce_r v en) (fun q1 h1 => ?_)
    obtain ⟨t1, t2⟩ := h1
    rw [t1]
    refine Pc.le (fun z => Pc.ret ⟨c, fun k => ?_⟩) (fun z => ?_)
    · have ei : i = wT T * gT T := by omega
      rw [← ei]; exact d k
    have a1 := adT l2 1 (by omega) (by omega)
    have nx (no : snF T f i = false) : Pc (W_X12_spreads n 7 h l1 (l2 + 1)) (fun q => frZ (fun x _ => x = 263) h0 q ∧ ∀ k, hi q 263 k = spI T f (wT T * gT T) k) := by
      refine ih h (l2 + 1) (i + 1) (by omega) (by omega) c (fun k => (d k).trans (spI_n no k).symm) ?_
      have e1 : cntB (snF T f) (i + 1) = cntB (snF T f) i + (snF T f i).toNat := rfl
      rw [e1, no, cntB_cg (g := fun j => decide (0 < (spI T f i j).toInt)) _ (fun j _ => by rw [spI_n no j]), m]
      rfl
    have b0 := btS0 l1 (c := l2) (by omega) (by omega)
    rw [n2] at b0
    have li := hl i (by omega)
    rw [decide_eq_true (show i < wT T * gT T by omega), Bool.true_and] at li
    refine Pc.eq (fun z0 => nx ?_) (fun z0 => ?_)
    · have := b0.mp (z0.trans f0)
      rw [li] at this
      unfold snF
      rw [this]; rfl
    have wl : wlF T f i = true := by
      cases y : wlF T f i with
      | true => rfl
      | false => exact absurd ((b0.mpr (li.trans y)).trans f0.symm) z0
    obtain ⟨⟨-, pos⟩, -, qu⟩ := wl_qt wl
    have ic := wl_in v wl
    refine Pc.bind (tb_r v en) (fun q5 h5 => ?_)
    obtain ⟨t3, t4⟩ := h5
    rw [t3]
    refine Pc.bind bi_r (fun q7 h7 => ?_)
    obtain ⟨t5, t6⟩ := h7
    rw [t5]
    have cnt : cntB (bt q5.1) 25 = tnN T f + cntB (snF T f) i := by
      rw [cn_r (f := hi h 263) c25 t4, ← m]
      exact cntB_cg _ (fun j _ => by rw [d j])
    rw [cnt] at t6
    obtain ⟨s1, s2⟩ := sn_cnt (wl := wlF T f) (sn := snF T f) (t := tnN T f) (fun _ => rfl) i
    refine Pc.lt (fun y => ?_) (fun y => nx ?_)
    · have ok : tnN T f + cntB (wlF T f) i < 8 := by
        by_cases w : tnN T f + cntB (wlF T f) i < 8
        · exact w
        · have := s2 (by omega); omega
      have sn : snF T f i = true := by
        unfold snF
        rw [wl, decide_eq_true ok]; rfl
      obtain ⟨p1, p2, p3⟩ := spI_at (T := T) (f := f) (i := i) (by omega) pos
      have a2 := adT l2 26 (by omega) (by omega)
      have a3 := adT 25 l2 (by omega) (by omega)
      have m1 := ncT (show 0 ≤ (l2 + 1).toInt by omega)
      have m1' : Int32.toNatClampNeg (l2 + 1) = i + 1 := by omega
      have m2 := ncT (show 0 ≤ (l2 + 26).toInt by omega)
      have m2' : Int32.toNatClampNeg (l2 + 26) = i + 26 := by omega
      have m3 := ncT (show 0 ≤ (25 + l2).toInt by omega)
      have m3' : Int32.toNatClampNeg (25 + l2) = 25 + i := by omega
      rw [n2, m1', m2', m3', d i, p1]
      generalize eg : wrI h 263 (i + 1) (f i) = g
      have g1 : hi g 263 i = f i := by rw [hiK eg 263 i (by omega), d i, p1]
      have g2 : hi g 263 (25 + i) = f (25 + i) := by rw [hiK eg 263 (25 + i) (by omega), d (25 + i), p2]
      rw [g1, g2]
      refine Pc.chk (fun _ => Pc.chk (fun _ => Pc.chk (fun _ => Pc.chk (fun _ => Pc.ite (fun _ => Pc.no) (fun _ => Pc.chk (fun _ => ?_))))))
      have cg : frZ (fun x _ => x = 263) h0 g := by rw [← eg]; exact c.w rfl
      refine ih _ (l2 + 1) (i + 1) (by omega) (by omega) (cg.w rfl) (fun k => ?_) ?_
      · rw [spI_s (by omega) sn k]
        unfold upF
        rw [hi_wrI]
        by_cases y2 : k = i + 26
        · rw [if_pos ⟨rfl, y2⟩, if_pos y2]; rfl
        · rw [if_neg (fun w => y2 w.2), if_neg y2, ← eg, hi_wrI]
          by_cases y3 : k = i + 1
          · rw [if_pos ⟨rfl, y3⟩, if_pos y3]
          · rw [if_neg (fun w => y3 w.2), if_neg y3]; exact d k
      · have e1 : cntB (snF T f) (i + 1) = cntB (snF T f) i + (snF T f i).toNat := rfl
        have up := cntB_upd (p := fun j => decide (0 < (spI T f i j).toInt)) (j := i + 1) (decide_eq_false (by rw [p3]; exact qu)) (wT T * gT T)
        rw [if_pos ic, m] at up
        rw [e1, sn, cntB_cg (g := fun j => if j = i + 1 then true else decide (0 < (spI T f i j).toInt)) _ (fun j hj => ?_), up]
        · rfl
        · rw [spI_s (by omega) sn j]
          unfold upF
          rw [if_neg (by omega)]
          by_cases y3 : j = i + 1
          · rw [if_pos y3, if_pos y3]; exact decide_eq_true pos
          · rw [if_neg y3, if_neg y3]
    · unfold snF
      rw [decide_eq_false (fun w => by have := s1 w; omega), Bool.and_false]
end R56M
