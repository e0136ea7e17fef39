/-! the simple methods at the fresh state -/
theorem ne10 : ¬ (1 : Int32) = 0 := by decide
theorem ne01 : ¬ (0 : Int32) = 1 := by decide
section PS
variable {h0 : Hp}
theorem pu_back (hX : FX h0) (hM : FM h0) : PU_back h0 := by
  intro x1
  have a1 := hX.2.2.2.2.1.1
  have m1 := hM.2.2.2.2.1.1
  by_cases c1 : x1 < 0
  · refine ⟨1, (-1, h0), 1, (-1, h0), ?_, ?_, rfl⟩
    · rw [F_X11_back, if_pos c1]
    · rw [F_X12_back, if_pos c1]
  · by_cases c2 : x1 ≤ 0
    · refine ⟨1, (0 - x1, wrI h0 0 1 (0 - x1)), 1, (0 - x1, wrI (wrI h0 0 1 (0 - x1)) 226 2 (0 - x1)), ?_, ?_, rfl⟩
      · rw [F_X11_back, if_neg c1, a1, if_pos c2, hi_eq]
      · have m2 : hi (wrI h0 0 1 (0 - x1)) 226 2 = 0 := (hi_ne (by decide)).trans m1
        show F_X12_back 1 (wrI h0 0 1 (0 - x1)) x1 = _
        rw [F_X12_back, if_neg c1, m2, if_pos c2, hi_eq]
    · refine ⟨1, (-1, h0), 1, (-1, h0), ?_, ?_, rfl⟩
      · rw [F_X11_back, if_neg c1, a1, if_neg c2]
      · rw [F_X12_back, if_neg c1, m1, if_neg c2]
theorem pu_goer (hX : FX h0) (hM : FM h0) : PU_goer h0 := by
  intro x1 x2
  refine ⟨1, (-1, h0), 1, (-1, h0), ?_, ?_, rfl⟩
  · rw [F_X11_goer, x_hasGoer hX, Option.bind_some, if_pos rfl]
  · rw [F_X12_goer, m_isGoer hM, Option.bind_some, if_pos rfl]
theorem pu_carry (hX : FX h0) (hM : FM h0) : PU_carry h0 := by
  intro x1 x2
  obtain ⟨h', e, k1, -⟩ := m_copies (n := 64) (Nat.le_refl _) hM
  refine ⟨1, (0, h0), 64, (0, h'), ?_, ?_, rfl⟩
  · rw [F_X11_carry, x_hasGoer hX, Option.bind_some, if_pos rfl]
  · rw [F_X12_carry, e, Option.bind_some, m_isGoer (hM.kS k1), Option.bind_some, if_pos rfl]
theorem pu_meet (hX : FX h0) (hM : FM h0) : PU_meet h0 := by
  intro x1 x2 x3
  refine ⟨1, (-1, h0), 1, (-1, h0), ?_, ?_, rfl⟩
  · rw [F_X11_meet, x_hasGoer hX, Option.bind_some, if_pos rfl]
  · rw [F_X12_meet, m_isGoer hM, Option.bind_some, if_pos rfl]
theorem pu_returns (hX : FX h0) (hM : FM h0) : PU_returns h0 := by
  intro x1
  refine ⟨1, (-1, h0), 1, (-1, h0), ?_, ?_, rfl⟩
  · rw [F_X11_returns, x_hasGoer hX, Option.bind_some, if_pos rfl]
  · rw [F_X12_returns, m_isGoer hM, Option.bind_some, if_pos rfl]
theorem pu_stood (hX : FX h0) (hM : FM h0) : PU_stood h0 := by
  intro x1 x2 x3
  refine ⟨1, (-1, h0), 1, (-1, h0), ?_, ?_, rfl⟩
  · rw [F_X11_stood, x_hasGoer hX, Option.bind_some, if_pos rfl]
  · rw [F_X12_stood, m_isGoer hM, Option.bind_some, if_pos rfl]
theorem pu_then (hX : FX h0) (hM : FM h0) : PU_then h0 := by
  intro x1 x2 x3
  refine ⟨1, (-1, h0), 1, (-1, h0), ?_, ?_, rfl⟩
  · rw [F_X11_then, x_hasGoer hX, Option.bind_some, if_pos rfl]
  · rw [F_X12_then, m_isGoer hM, Option.bind_some, if_pos rfl]
theorem pu_undo (hX : FX h0) (hM : FM h0) : PU_undo h0 := by
  refine ⟨1, (0, h0), 1, (0, h0), ?_, ?_, rfl⟩
  · rw [F_X11_undo, F_X6_takeBack, hX.2.2.2.2.2.1.2, if_pos rfl, Option.bind_some, if_pos (Or.inl rfl)]
  · rw [F_X12_undo, hM.2.2.2.2.1.2.2.1, if_pos rfl]
theorem pu_forget (hX : FX h0) (hM : FM h0) : PU_forget h0 := by
  refine ⟨1, (0, wrI h0 201 2 0), 1, (0, wrI (wrI h0 201 2 0) 226 65 0), ?_, ?_, rfl⟩
  · rw [F_X11_forget, F_X2_clear, Option.bind_some, hX.2.2.2.2.2.2]
  · rw [F_X12_forget]
    show some (hi (wrI h0 201 2 0) 226 65, _) = _
    rw [hi_ne (by decide), hM.2.2.2.2.1.2.2.2]
theorem x_isTuned {n : Nat} {h : Hp} (hX : FX h) (x : Int32) : F_X8_isTuned n h 30 x = some (0, h) := by
  unfold F_X8_isTuned
  by_cases c1 : x < 0
  · rw [if_pos c1]
  · rw [if_neg c1]
    by_cases c2 : (25 : Int32) ≤ x
    · rw [if_pos c2]
    · rw [if_neg c2, hX.2.1.2.2.2, shr0, if_pos rfl]
theorem x_isRoped {n : Nat} {h : Hp} (hX : FX h) (x : Int32) : F_X8_isRoped n h 30 x = some (0, h) := by
  unfold F_X8_isRoped
  rw [hX.2.1.2.2.1, shr0, if_pos rfl]
theorem x_soundsAt {n : Nat} {h : Hp} (hX : FX h) (x y : Int32) : F_X8_soundsAt n h 30 x y = some (0, h) := by
  unfold F_X8_soundsAt F_X8_beatOf
  rw [x_isTuned hX, Option.bind_some, if_pos rfl, Option.bind_some, if_pos (Int32.le_refl 0)]
theorem x_isFree_out {n : Nat} {h : Hp} (hX : FX h) {x : Int32} (hx : x < 0 ∨ (16 : Int32) ≤ x) : F_X11_isFree n h x = some (0, h) := by
  unfold F_X11_isFree
  rw [x_has_out hX hx, Option.bind_some, if_pos rfl]
theorem x_isFree {n j : Nat} {h : Hp} (hX : FX h) (hj : j < 16) : F_X11_isFree n h (nI j) = some (1, h) := by
  unfold F_X11_isFree
  rw [x_has hX hj, Option.bind_some, if_neg ne10, x_isRoped hX, Option.bind_some, if_pos rfl]
theorem m_areFree_out {n : Nat} {h : Hp} (hM : FM h) {x y : Int32} (hx : (x < 0 ∨ (16 : Int32) ≤ x) ∨ (y < 0 ∨ (16 : Int32) ≤ y)) : F_X12_areFree n h x y = some (0, h) := by
  unfold F_X12_areFree
  rcases cell_or x with q | ⟨j, hj, rfl⟩
  · rw [m_isCell_out hM q, Option.bind_some, if_pos rfl]
  · rcases hx with hx | hy
    · rw [m_isCell_out hM hx, Option.bind_some, if_pos rfl]
    · rw [m_isCell hM hj, Option.bind_some, if_neg ne10, m_isCell_out hM hy, Option.bind_some, if_pos rfl]
theorem m_areFree {n i j : Nat} {h : Hp} (hM : FM h) (hi : i < 16) (hj : j < 16) : F_X12_areFree n h (nI i) (nI j) = some (1, h) := by
  unfold F_X12_areFree
  rw [m_isCell hM hi, Option.bind_some, if_neg ne10, m_isCell hM hj, Option.bind_some, if_neg ne10, hM.2.2.1 50 (by decide), sar0, if_pos rfl, sar0, if_pos rfl]
theorem pu_mow (hX : FX h0) (hM : FM h0) : PU_mow h0 := by
  intro x1
  refine ⟨1, (-1, h0), 1, (-1, h0), ?_, ?_, rfl⟩
  · rcases cell_or x1 with q | ⟨j, hj, rfl⟩
    · rw [F_X11_mow, x_has_out hX q, Option.bind_some, if_pos rfl]
    · rw [F_X11_mow, x_has hX hj, Option.bind_some, if_neg ne10, x_isTuned hX, Option.bind_some, if_pos rfl]
  · rcases cell_or x1 with q | ⟨j, hj, rfl⟩
    · rw [F_X12_mow, m_isCell_out hM q, Option.bind_some, if_pos rfl]
    · rw [F_X12_mow, m_isCell hM hj, Option.bind_some, if_neg ne10, if_pos (ixN (by omega) (by decide)), nI_clamp (by omega), hM.2.2.1 j (by omega), if_pos rfl]
theorem pu_next (hX : FX h0) (hM : FM h0) : PU_next h0 := by
  intro x1
  rcases cell_or x1 with q | ⟨j, hj, rfl⟩
  · refine ⟨1, (-1, h0), 1, (-1, h0), ?_, ?_, rfl⟩
    · rw [F_X11_next, x_has_out hX q, Option.bind_some, if_pos rfl]
    · rw [F_X12_next, m_isCell_out hM q, Option.bind_some, if_pos rfl]
  · refine ⟨8, (-2, h0), 1, (-2, h0), ?_, ?_, rfl⟩
    · have st : ∀ (n : Nat) (y : Int32), ¬ (6 : Int32) < y → W_X11_next (n + 1) 15 h0 (nI j) y = W_X11_next n 15 h0 (nI j) (y + 1) := fun n y hy => by
        rw [u_X11_next, if_pos rfl, if_neg hy, x_soundsAt hX, Option.bind_some, if_pos rfl]
      rw [F_X11_next, x_has hX hj, Option.bind_some, if_neg ne10, st 7 _ (by decide), st 6 _ (by decide), st 5 _ (by decide), st 4 _ (by decide), st 3 _ (by decide), st 2 _ (by decide), u_X11_next, if_pos rfl, if_pos (by decide)]
    · rw [F_X12_next, m_isCell hM hj, Option.bind_some, if_neg ne10, if_pos (ixN (by omega) (by decide)), nI_clamp (by omega), hM.2.2.1 j (by omega), if_pos rfl]
theorem x_togW {h : Hp} (hX : FX h) (x y : Int32) : ∀ (m j n : Nat), j + m = 60 → m < n → W_X11_together n 26 h x y (nI j) = some (-2, h) := by
  intro m
  induction m with
  | zero =>
    intro j n hj hn
    obtain ⟨n, rfl⟩ : ∃ n', n = n' + 1 := ⟨n - 1, by omega⟩
    have e : j = 60 := by omega
    subst e
    rw [u_X11_together, if_pos rfl, if_pos (show (60 : Int32) ≤ nI 60 from nI_le (Nat.le_refl _) (by decide))]
  | succ m ih =>
    intro j n hj hn
    obtain ⟨n, rfl⟩ : ∃ n', n = n' + 1 := ⟨n - 1, by omega⟩
    rw [u_X11_together, if_pos rfl, if_neg (show ¬ (60 : Int32) ≤ nI j from nI_ge (b := 60) (by omega) (by decide)), x_soundsAt hX, Option.bind_some, if_pos rfl, nI_1]
    exact ih (j + 1) n (by omega) (by omega)
theorem m_togW {h : Hp} {t : Int32} (hR : RZ t h) {i : Nat} (hi : i < 16) (y : Int32) : ∀ (m j n : Nat), j + m = 60 → m < n → W_X12_together n 24 h (nI i) y (nI j) = some (-2, h) := by
  intro m
  induction m with
  | zero =>
    intro j n hj hn
    obtain ⟨n, rfl⟩ : ∃ n', n = n' + 1 := ⟨n - 1, by omega⟩
    have e : j = 60 := by omega
    subst e
    rw [u_X12_together, if_pos rfl, if_pos (show (60 : Int32) ≤ nI 60 from nI_le (Nat.le_refl _) (by decide))]
  | succ m ih =>
    intro j n hj hn
    obtain ⟨n, rfl⟩ : ∃ n', n = n' + 1 := ⟨n - 1, by omega⟩
    rw [u_X12_together, if_pos rfl, if_neg (show ¬ (60 : Int32) ≤ nI j from nI_ge (b := 60) (by omega) (by decide)), m_isLoud hR (by omega), Option.bind_some, if_pos rfl, nI_1]
    exact ih (j + 1) n (by omega) (by omega)
theorem pu_together (hX : FX h0) (hM : FM h0) : PU_together h0 := by
  intro x1 x2
  rcases cell_or x1 with q | ⟨i, hi, rfl⟩
  · refine ⟨1, (-1, h0), 1, (-1, h0), ?_, ?_, rfl⟩
    · rw [F_X11_together, x_has_out hX q, Option.bind_some, if_pos rfl]
    · rw [F_X12_together, m_isCell_out hM q, Option.bind_some, if_pos rfl]
  · rcases cell_or x2 with q | ⟨j, hj, rfl⟩
    · refine ⟨1, (-1, h0), 1, (-1, h0), ?_, ?_, rfl⟩
      · rw [F_X11_together, x_has hX hi, Option.bind_some, if_neg ne10, x_has_out hX q, Option.bind_some, if_pos rfl]
      · rw [F_X12_together, m_isCell hM hi, Option.bind_some, if_neg ne10, m_isCell_out hM q, Option.bind_some, if_pos rfl]
    · obtain ⟨h', e, k1, k2⟩ := m_copies (n := 70) (by decide) hM
      refine ⟨70, (-2, h0), 70, (-2, h'), ?_, ?_, rfl⟩
      · rw [F_X11_together, x_has hX hi, Option.bind_some, if_neg ne10, x_has hX hj, Option.bind_some, if_neg ne10]
        exact x_togW hX _ _ 60 0 70 rfl (by decide)
      · rw [F_X12_together, m_isCell hM hi, Option.bind_some, if_neg ne10, m_isCell hM hj, Option.bind_some, if_neg ne10, e, Option.bind_some]
        exact m_togW k2 hi _ 60 0 70 rfl (by decide)
theorem pu_restore (hX : FX h0) (hM : FM h0) : PU_restore h0 := by
  intro x1
  refine ⟨1, (0, h0), 1, (0, h0), ?_, ?_, rfl⟩
  · rw [F_X11_restore]
    by_cases c1 : x1 < 0
    · rw [if_pos c1]
    · rw [if_neg c1]
      by_cases c2 : (3 : Int32) ≤ x1
      · rw [if_pos c2]
      · rw [if_neg c2, hX.2.2.2.2.1.2.2, shr0, if_pos rfl]
  · rw [F_X12_restore, F_X12_in]
    by_cases c1 : x1 < 0
    · rw [if_pos c1, Option.bind_some, if_pos rfl]
    · rw [if_neg c1]
      by_cases c2 : (2 : Int32) < x1
      · rw [if_pos c2, Option.bind_some, if_pos rfl]
      · obtain ⟨j, hj, rfl⟩ := nI_of c1
        have hj3 : j < 3 := by
          rcases Nat.lt_or_ge j 3 with q | q
          · exact q
          · exact absurd (nI_lt (a := 2) (by omega) hj) c2
        rw [if_neg c2, Option.bind_some, if_neg ne10, if_pos (ixN hj3 (by decide)), nI_clamp hj, hM.2.2.2.2.2 j hj3, if_pos (by decide)]
theorem x_loudAt {n : Nat} {h : Hp} (hX : FX h) (hn : 1 ≤ n) (x : Int32) : F_X8_loudAt n h 30 x = some (0, h) := by
  obtain ⟨n, rfl⟩ : ∃ n', n = n' + 1 := ⟨n - 1, by omega⟩
  rw [F_X8_loudAt, hX.2.1.2.2.2, u_X8_loudAt, if_pos rfl, if_neg (by decide), if_pos rfl]
theorem span_or (x : Int32) : (x < 0 ∨ (100 : Int32) < x) ∨ ∃ j, j < 101 ∧ x = nI j := by
  by_cases h0 : x < 0
  · exact Or.inl (Or.inl h0)
  · obtain ⟨j, hj, rfl⟩ := nI_of h0
    rcases Nat.lt_or_ge j 101 with q | q
    · exact Or.inr ⟨j, q, rfl⟩
    · exact Or.inl (Or.inr (nI_lt (a := 100) (by omega) hj))
theorem x_isSpan_out {n : Nat} {h : Hp} {x : Int32} (hx : x < 0 ∨ (100 : Int32) < x) : F_X11_isSpan n h x = some (0, h) := by
  unfold F_X11_isSpan
  by_cases c1 : x < 0
  · rw [if_pos c1]
  · rw [if_neg c1, if_pos (hx.resolve_left c1)]
theorem x_isSpan {n j : Nat} {h : Hp} (hj : j < 101) : F_X11_isSpan n h (nI j) = some (1, h) := by
  unfold F_X11_isSpan
  rw [if_neg (nI_pos (by omega)), if_neg (show ¬ (100 : Int32) < nI j from nI_nlt (a := 100) (by omega) (by decide))]
theorem m_isLong_out {n : Nat} {h : Hp} {x : Int32} (hx : x < 0 ∨ (100 : Int32) < x) : F_X12_isLong n h x = some (0, h) := by
  unfold F_X12_isLong F_X12_in
  by_cases c1 : x < 0
  · rw [if_pos c1, Option.bind_some, if_pos (Or.inl rfl)]
  · rw [if_neg c1, if_pos (hx.resolve_left c1), Option.bind_some, if_pos (Or.inl rfl)]
theorem m_isLong {n j : Nat} {h : Hp} (hj : j < 101) : F_X12_isLong n h (nI j) = some (1, h) := by
  unfold F_X12_isLong F_X12_in
  rw [if_neg (nI_pos (by omega)), if_neg (show ¬ (100 : Int32) < nI j from nI_nlt (a := 100) (by omega) (by decide)), Option.bind_some, if_pos (Or.inr rfl)]
theorem pu_loud (hX : FX h0) (hM : FM h0) : PU_loud h0 := by
  intro x1
  rcases span_or x1 with q | ⟨j, hj, rfl⟩
  · refine ⟨1, (-1, h0), 1, (-1, h0), ?_, ?_, rfl⟩
    · rw [F_X11_loud, x_isSpan_out q, Option.bind_some, if_pos rfl]
    · rw [F_X12_loud, m_isLong_out q, Option.bind_some, if_pos rfl]
  · obtain ⟨h', e, k1, k2⟩ := m_copies (n := 70) (by decide) hM
    refine ⟨1, (0, h0), 70, (0, h'), ?_, ?_, rfl⟩
    · rw [F_X11_loud, x_isSpan hj, Option.bind_some, if_neg ne10, x_loudAt hX (Nat.le_refl _), Option.bind_some]
    · rw [F_X12_loud, m_isLong hj, Option.bind_some, if_neg ne10, e, Option.bind_some, m_loud (hM.kS k1) k2 (by decide), Option.bind_some]
end PS
