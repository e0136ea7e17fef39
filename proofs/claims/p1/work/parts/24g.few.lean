/-! methods with few cases: reckoned out, or refused -/
theorem x01_out {n : Nat} {h : Hp} {x : Int32} (h0 : ¬ x = 0) (h1 : ¬ x = 1) : F_X11_isNoughtOrOne n h x = some (0, h) := by
  unfold F_X11_isNoughtOrOne
  rw [if_neg h0, if_neg h1]
theorem in01_out {n : Nat} {h : Hp} {x : Int32} (h0 : ¬ x = 0) (h1 : ¬ x = 1) : F_X12_in n h x 0 1 = some (0, h) := by
  unfold F_X12_in
  by_cases c : x < 0
  · rw [if_pos c]
  · obtain ⟨j, hj, rfl⟩ := nI_of c
    rcases (show j = 0 ∨ j = 1 ∨ 2 ≤ j by omega) with rfl | rfl | q
    · exact absurd rfl h0
    · exact absurd rfl h1
    · rw [if_neg c, if_pos (show (1 : Int32) < nI j from nI_lt (a := 1) (by omega) hj)]
theorem pu_place : PU_place hk_F := by
  obtain ⟨q1, q2, e1, e2, e3⟩ := okI_get t_place
  exact ⟨1, q1, 1, q2, e1, e2, e3⟩
theorem pu_read : PU_read hk_F := by
  obtain ⟨q1, q2, e1, e2, e3⟩ := okI_get t_read
  exact ⟨300, q1, 300, q2, e1, e2, e3⟩
theorem pu_period : PU_period hk_F := by
  obtain ⟨q1, q2, e1, e2, e3⟩ := okI_get t_period
  exact ⟨300, q1, 300, q2, e1, e2, e3⟩
theorem pu_silence : PU_silence hk_F := by
  intro x1
  by_cases c0 : x1 = 0
  · subst c0
    obtain ⟨q1, q2, e1, e2, e3⟩ := okI_get (t_silence 0 (by decide))
    exact ⟨100, q1, 100, q2, e1, e2, e3⟩
  by_cases c1 : x1 = 1
  · subst c1
    obtain ⟨q1, q2, e1, e2, e3⟩ := okI_get (t_silence 1 (by decide))
    exact ⟨100, q1, 100, q2, e1, e2, e3⟩
  refine ⟨1, (-1, hk_F), 1, (-1, hk_F), ?_, ?_, rfl⟩
  · rw [F_X11_silence, x01_out c0 c1, Option.bind_some, if_pos rfl]
  · rw [F_X12_silence, in01_out c0 c1, Option.bind_some, if_pos rfl]
theorem pu_chorus : PU_chorus hk_F := by
  intro x1
  by_cases c0 : x1 = 0
  · subst c0
    obtain ⟨q1, q2, e1, e2, e3⟩ := okI_get (t_chorus 0 (by decide))
    exact ⟨100, q1, 100, q2, e1, e2, e3⟩
  by_cases c1 : x1 = 1
  · subst c1
    obtain ⟨q1, q2, e1, e2, e3⟩ := okI_get (t_chorus 1 (by decide))
    exact ⟨100, q1, 100, q2, e1, e2, e3⟩
  refine ⟨1, (-1, hk_F), 1, (-1, hk_F), ?_, ?_, rfl⟩
  · rw [F_X11_chorus, x01_out c0 c1, Option.bind_some, if_pos rfl]
  · rw [F_X12_chorus, in01_out c0 c1, Option.bind_some, if_pos rfl]
theorem know_out {n : Nat} {h : Hp} (hX : hi h 201 2 = 0) {x : Int32} (h0 : ¬ x = 0) : F_X2_knows n h x = some (0, h) := by
  unfold F_X2_knows
  by_cases c : x < 0
  · rw [if_pos c]
  · obtain ⟨j, hj, rfl⟩ := nI_of c
    have hj0 : 0 < j := by
      rcases Nat.eq_zero_or_pos j with rfl | q
      · exact absurd rfl h0
      · exact q
    rw [if_neg c, hX, if_pos (show (0 : Int32) < nI j from nI_lt (a := 0) hj0 hj)]
theorem in00_out {n : Nat} {h : Hp} {x : Int32} (h0 : ¬ x = 0) : F_X12_in n h x 0 0 = some (0, h) := by
  unfold F_X12_in
  by_cases c : x < 0
  · rw [if_pos c]
  · obtain ⟨j, hj, rfl⟩ := nI_of c
    have hj0 : 0 < j := by
      rcases Nat.eq_zero_or_pos j with rfl | q
      · exact absurd rfl h0
      · exact q
    rw [if_neg c, if_pos (show (0 : Int32) < nI j from nI_lt (a := 0) hj0 hj)]
theorem pu_listen : PU_listen hk_F := by
  intro x1
  by_cases c0 : x1 = 0
  · subst c0
    obtain ⟨q1, q2, e1, e2, e3⟩ := okI_get t_listen
    exact ⟨300, q1, 300, q2, e1, e2, e3⟩
  refine ⟨1, (-1, hk_F), 1, (-1, hk_F), ?_, ?_, rfl⟩
  · rw [F_X11_listen, know_out fxF.2.2.2.2.2.2 c0, Option.bind_some, if_pos rfl]
  · rw [F_X12_listen, fmF.2.2.2.2.1.2.2.2, in00_out c0, Option.bind_some, if_pos rfl]
theorem pu_fits : PU_fits hk_F := by
  intro x1 x2
  by_cases c : x1 = 0
  · subst c
    by_cases c0 : x2 = 0
    · subst c0
      obtain ⟨q1, q2, e1, e2, e3⟩ := okI_get (t_fits 0 (by decide))
      exact ⟨300, q1, 300, q2, e1, e2, e3⟩
    by_cases c1 : x2 = 1
    · subst c1
      obtain ⟨q1, q2, e1, e2, e3⟩ := okI_get (t_fits 1 (by decide))
      exact ⟨300, q1, 300, q2, e1, e2, e3⟩
    refine ⟨1, (-1, hk_F), 1, (-1, hk_F), ?_, ?_, rfl⟩
    · have e : F_X2_knows 1 hk_F 0 = some (1, hk_F) := by
        unfold F_X2_knows
        rw [fxF.2.2.2.2.2.2, if_neg (by decide), if_neg (by decide)]
      rw [F_X11_fits, e, Option.bind_some, if_neg ne10, x01_out c0 c1, Option.bind_some, if_pos rfl]
    · have e : F_X12_in 1 hk_F 0 0 0 = some (1, hk_F) := by
        unfold F_X12_in
        rw [if_neg (by decide), if_neg (by decide)]
      rw [F_X12_fits, fmF.2.2.2.2.1.2.2.2, e, Option.bind_some, if_neg ne10, in01_out c0 c1, Option.bind_some, if_pos rfl]
  refine ⟨1, (-1, hk_F), 1, (-1, hk_F), ?_, ?_, rfl⟩
  · rw [F_X11_fits, know_out fxF.2.2.2.2.2.2 c, Option.bind_some, if_pos rfl]
  · rw [F_X12_fits, fmF.2.2.2.2.1.2.2.2, in00_out c, Option.bind_some, if_pos rfl]
theorem pu_pairs : PU_pairs hk_F := by
  intro x1
  by_cases c : x1 = -1
  · subst c
    obtain ⟨q1, q2, e1, e2, e3⟩ := okI_get t_pairs
    exact ⟨300, q1, 300, q2, e1, e2, e3⟩
  refine ⟨1, (-1, hk_F), 1, (-1, hk_F), ?_, ?_, rfl⟩
  · rw [F_X11_pairs, if_neg c, x_hasGoer fxF, Option.bind_some, if_pos rfl]
  · rw [F_X12_pairs, if_neg c, m_isGoer fmF, Option.bind_some, if_pos rfl]
theorem pu_cell : PU_cell hk_F := by
  intro x1 x2
  rcases cell_or x1 with q | ⟨i, hi, rfl⟩
  · refine ⟨1, (-1, hk_F), 1, (-1, hk_F), ?_, ?_, rfl⟩
    · rw [F_X11_cell, x_has_out fxF q, Option.bind_some, if_pos rfl]
    · rw [F_X12_cell, m_isCell_out fmF q, Option.bind_some, if_pos rfl]
  by_cases c : ∃ k, k < 6 ∧ x2 = nI k
  · obtain ⟨k, hk, rfl⟩ := c
    obtain ⟨q1, q2, e1, e2, e3⟩ := okI_get (t_cell i hi k (by omega))
    exact ⟨300, q1, 300, q2, e1, e2, e3⟩
  have c0 : ¬ x2 = 0 := fun q => c ⟨0, by decide, q⟩
  have c1 : ¬ x2 = 1 := fun q => c ⟨1, by decide, q⟩
  have c2 : ¬ x2 = 2 := fun q => c ⟨2, by decide, q⟩
  have c3 : ¬ x2 = 3 := fun q => c ⟨3, by decide, q⟩
  have c4 : ¬ x2 = 4 := fun q => c ⟨4, by decide, q⟩
  have c5 : ¬ x2 = 5 := fun q => c ⟨5, by decide, q⟩
  obtain ⟨g, e, -, -⟩ := m_copies (n := 100) (by decide) fmF
  refine ⟨1, (-1, hk_F), 100, (-1, g), ?_, ?_, rfl⟩
  · rw [F_X11_cell, x_has fxF hi, Option.bind_some, if_neg ne10, x_isTuned fxF, Option.bind_some, if_neg c0, if_neg c1, if_neg c2, if_neg c3, if_neg c4, if_neg c5]
  · rw [F_X12_cell, m_isCell fmF hi, Option.bind_some, if_neg ne10, e, Option.bind_some, if_neg c0, if_neg c1, if_neg c2, if_neg c3, if_neg c4, if_neg c5]
theorem pu_count : PU_count hk_F := by
  intro x1
  by_cases c0 : x1 = 0
  · subst c0
    obtain ⟨q1, q2, e1, e2, e3⟩ := okI_get (t_count 0 (by decide))
    exact ⟨200, q1, 300, q2, e1, e2, e3⟩
  by_cases c1 : x1 = 1
  · subst c1
    obtain ⟨q1, q2, e1, e2, e3⟩ := okI_get (t_count 1 (by decide))
    exact ⟨200, q1, 300, q2, e1, e2, e3⟩
  by_cases c2 : x1 = 2
  · subst c2
    obtain ⟨q1, q2, e1, e2, e3⟩ := okI_get (t_count 2 (by decide))
    exact ⟨200, q1, 300, q2, e1, e2, e3⟩
  by_cases c3 : x1 = 3
  · subst c3
    obtain ⟨q1, q2, e1, e2, e3⟩ := okI_get (t_count 3 (by decide))
    exact ⟨200, q1, 300, q2, e1, e2, e3⟩
  by_cases c4 : x1 = 4
  · subst c4
    obtain ⟨q1, q2, e1, e2, e3⟩ := okI_get (t_count 4 (by decide))
    exact ⟨200, q1, 300, q2, e1, e2, e3⟩
  by_cases c5 : x1 = 5
  · subst c5
    obtain ⟨q1, q2, e1, e2, e3⟩ := okI_get (t_count 5 (by decide))
    exact ⟨200, q1, 300, q2, e1, e2, e3⟩
  by_cases c6 : x1 = 6
  · subst c6
    obtain ⟨q1, q2, e1, e2, e3⟩ := okI_get (t_count 6 (by decide))
    exact ⟨200, q1, 300, q2, e1, e2, e3⟩
  by_cases c7 : x1 = 7
  · subst c7
    obtain ⟨q1, q2, e1, e2, e3⟩ := okI_get (t_count 7 (by decide))
    exact ⟨200, q1, 300, q2, e1, e2, e3⟩
  by_cases c8 : x1 = 8
  · subst c8
    obtain ⟨q1, q2, e1, e2, e3⟩ := okI_get (t_count 8 (by decide))
    exact ⟨200, q1, 300, q2, e1, e2, e3⟩
  by_cases c9 : x1 = 9
  · subst c9
    obtain ⟨q1, q2, e1, e2, e3⟩ := okI_get (t_count 9 (by decide))
    exact ⟨200, q1, 300, q2, e1, e2, e3⟩
  by_cases c10 : x1 = 10
  · subst c10
    obtain ⟨q1, q2, e1, e2, e3⟩ := okI_get (t_count 10 (by decide))
    exact ⟨200, q1, 300, q2, e1, e2, e3⟩
  by_cases c11 : x1 = 11
  · subst c11
    obtain ⟨q1, q2, e1, e2, e3⟩ := okI_get (t_count 11 (by decide))
    exact ⟨200, q1, 300, q2, e1, e2, e3⟩
  by_cases c12 : x1 = 12
  · subst c12
    obtain ⟨q1, q2, e1, e2, e3⟩ := okI_get (t_count 12 (by decide))
    exact ⟨200, q1, 300, q2, e1, e2, e3⟩
  by_cases c13 : x1 = 13
  · subst c13
    obtain ⟨q1, q2, e1, e2, e3⟩ := okI_get (t_count 13 (by decide))
    exact ⟨200, q1, 300, q2, e1, e2, e3⟩
  by_cases c14 : x1 = 14
  · subst c14
    obtain ⟨q1, q2, e1, e2, e3⟩ := okI_get (t_count 14 (by decide))
    exact ⟨200, q1, 300, q2, e1, e2, e3⟩
  by_cases c15 : x1 = 15
  · subst c15
    obtain ⟨q1, q2, e1, e2, e3⟩ := okI_get (t_count 15 (by decide))
    exact ⟨200, q1, 300, q2, e1, e2, e3⟩
  by_cases c16 : x1 = 16
  · subst c16
    obtain ⟨q1, q2, e1, e2, e3⟩ := okI_get (t_count 16 (by decide))
    exact ⟨200, q1, 300, q2, e1, e2, e3⟩
  by_cases c17 : x1 = 17
  · subst c17
    obtain ⟨q1, q2, e1, e2, e3⟩ := okI_get (t_count 17 (by decide))
    exact ⟨200, q1, 300, q2, e1, e2, e3⟩
  by_cases c18 : x1 = 18
  · subst c18
    obtain ⟨q1, q2, e1, e2, e3⟩ := okI_get (t_count 18 (by decide))
    exact ⟨200, q1, 300, q2, e1, e2, e3⟩
  by_cases c19 : x1 = 19
  · subst c19
    obtain ⟨q1, q2, e1, e2, e3⟩ := okI_get (t_count 19 (by decide))
    exact ⟨200, q1, 300, q2, e1, e2, e3⟩
  obtain ⟨g, e, -, -⟩ := m_copies (n := 100) (by decide) fmF
  refine ⟨1, (-1, hk_F), 100, (-1, g), ?_, ?_, rfl⟩
  · rw [F_X11_count, if_neg c0, if_neg c1, if_neg c2, if_neg c3, if_neg c4, if_neg c5, if_neg c6, if_neg c7, if_neg c8, if_neg c9, if_neg c10, if_neg c11, if_neg c12, if_neg c13, if_neg c14, if_neg c15, if_neg c16, if_neg c17, if_neg c18, if_neg c19]
  · rw [F_X12_count, e, Option.bind_some, if_neg c0, if_neg c1, if_neg c2, if_neg c3, if_neg c4, if_neg c5, if_neg c6, if_neg c7, if_neg c8, if_neg c9, if_neg c10, if_neg c11, if_neg c12, if_neg c13, if_neg c14, if_neg c15, if_neg c16, if_neg c17, if_neg c18, if_neg c19]
