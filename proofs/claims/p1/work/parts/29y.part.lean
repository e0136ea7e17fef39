/-! part, and the whole claim -/
theorem a16 {a : Nat} (h : a < 16) : a = 0 ∨ a = 1 ∨ a = 2 ∨ a = 3 ∨ a = 4 ∨ a = 5 ∨ a = 6 ∨ a = 7 ∨ a = 8 ∨ a = 9 ∨ a = 10 ∨ a = 11 ∨ a = 12 ∨ a = 13 ∨ a = 14 ∨ a = 15 := by omega
theorem v_fr {a b : Nat} (ha : a < 16) (hb : b < 16) (hd : 2 ≤ dT a b) : fr a b 4 0 0 = pT a b := by
  rcases a16 ha with rfl | rfl | rfl | rfl | rfl | rfl | rfl | rfl | rfl | rfl | rfl | rfl | rfl | rfl | rfl | rfl
  · exact fr_0 b hb hd
  · exact fr_1 b hb hd
  · exact fr_2 b hb hd
  · exact fr_3 b hb hd
  · exact fr_4 b hb hd
  · exact fr_5 b hb hd
  · exact fr_6 b hb hd
  · exact fr_7 b hb hd
  · exact fr_8 b hb hd
  · exact fr_9 b hb hd
  · exact fr_10 b hb hd
  · exact fr_11 b hb hd
  · exact fr_12 b hb hd
  · exact fr_13 b hb hd
  · exact fr_14 b hb hd
  · exact fr_15 b hb hd
theorem v_pp {a b : Nat} (ha : a < 16) (hb : b < 16) (hd : 2 ≤ dT a b) : PV a b 0 = 0 ∧ PP a b 1500 50 4 0 0 0 = pT a b := by
  rcases a16 ha with rfl | rfl | rfl | rfl | rfl | rfl | rfl | rfl | rfl | rfl | rfl | rfl | rfl | rfl | rfl | rfl
  · exact pp_0 b hb hd
  · exact pp_1 b hb hd
  · exact pp_2 b hb hd
  · exact pp_3 b hb hd
  · exact pp_4 b hb hd
  · exact pp_5 b hb hd
  · exact pp_6 b hb hd
  · exact pp_7 b hb hd
  · exact pp_8 b hb hd
  · exact pp_9 b hb hd
  · exact pp_10 b hb hd
  · exact pp_11 b hb hd
  · exact pp_12 b hb hd
  · exact pp_13 b hb hd
  · exact pp_14 b hb hd
  · exact pp_15 b hb hd
theorem pT_le : ∀ a, a < 16 → ∀ b, b < 16 → pT a b ≤ 4 := by decide +kernel
theorem f_P : ∀ a, a < 16 → ∀ b, b < 16 → decide (ubit (GX ((1 : Int32) <<< (nI a &&& 31))) (nI b) = 0) = decide (2 ≤ dT a b) := by decide +kernel
theorem f_Q : ∀ a, a < 16 → ∀ b, b < 16 → decide (((NB ((1 : Int32) <<< (nI a &&& 31)) >>> (nI b &&& 31)) &&& (1 : Int32)) = 1) = !decide (2 ≤ dT a b) := by decide +kernel
theorem pu_part {h0 : Hp} (hX : FX h0) (hM : FM h0) : PU_part h0 := by
  intro x1 x2
  rcases cell_or x1 with q | ⟨a, ha, rfl⟩
  · refine ⟨1, (-1, h0), 1, (-1, h0), ?_, ?_, rfl⟩
    · rw [F_X11_part, x_isFree_out hX q, Option.bind_some, if_pos rfl]
    · rw [F_X12_part, m_areFree_out hM (Or.inl q), Option.bind_some, if_pos rfl]
  rcases cell_or x2 with q | ⟨b, hb, rfl⟩
  · refine ⟨1, (-1, h0), 1, (-1, h0), ?_, ?_, rfl⟩
    · rw [F_X11_part, x_isFree hX ha, Option.bind_some, if_neg ne10, x_isFree_out hX q, Option.bind_some, if_pos rfl]
    · rw [F_X12_part, m_areFree_out hM (Or.inr q), Option.bind_some, if_pos rfl]
  have fP := f_P a ha b hb
  have fQ := f_Q a ha b hb
  by_cases hd : 2 ≤ dT a b
  · have p4 := pT_le a ha b hb
    have e1 := v_fr ha hb hd
    obtain ⟨e2, e3⟩ := v_pp ha hb hd
    obtain ⟨g1, e4, k1⟩ := x_ropes (n := 200) (h := h0) ha hb ⟨hX.1.1, hX.1.2.2.1, hX.1.2.2.2⟩ (by rw [e1]; omega) (by decide)
    rw [e1] at e4
    have hM1 := hM.keep k1
    obtain ⟨g2, e5, k2, r2⟩ := m_copies (n := 2000) (by decide) hM1
    have e6 := m_pt (n := 2000) (hM1.kS k2) r2 (o := 0) ha hb (by rw [e2]; decide) (by decide)
    rw [e2] at e6
    have e7 := m_PP (hM1.kS k2) r2 ha hb 1500 50 4 0 0 0 2000 (Or.inl ⟨rfl, by decide⟩) (by decide) (by rw [e3]; omega) (by decide)
    rw [e3] at e7
    refine ⟨200, (nI (pT a b), g1), 2000, (nI (pT a b), g2), ?_, ?_, rfl⟩
    · rw [F_X11_part, x_isFree hX ha, Option.bind_some, if_neg ne10, x_isFree hX hb, Option.bind_some, if_neg ne10, x_grown hX.1.1 hX.1.2.2.1 hX.1.2.2.2, Option.bind_some, if_pos (show ubit (GX ((1 : Int32) <<< (nI a &&& 31))) (nI b) = 0 from of_decide_eq_true (fP.trans (decide_eq_true hd))), hX.1.2.2.1, hX.2.1.2.2.1, show (65535 : Int32) &&& ((0 : Int32) ^^^ (-1)) = 65535 by decide, e4, Option.bind_some]
    · rw [F_X12_part, m_areFree hM1 ha hb, Option.bind_some, if_neg ne10, e5, Option.bind_some, m_near (hM1.kS k2) (by decide), Option.bind_some, if_neg (of_decide_eq_false (fQ.trans (by rw [decide_eq_true hd]; rfl))), show F_X12_isParted 2000 g2 (nI a) (nI b) 0 = _ from e6, Option.bind_some, if_pos (show nI 0 = (0 : Int32) from rfl)]
      exact e7
  · obtain ⟨g2, e5, k2, r2⟩ := m_copies (n := 2000) (by decide) hM
    refine ⟨200, (-2, h0), 2000, (-2, g2), ?_, ?_, rfl⟩
    · rw [F_X11_part, x_isFree hX ha, Option.bind_some, if_neg ne10, x_isFree hX hb, Option.bind_some, if_neg ne10, x_grown hX.1.1 hX.1.2.2.1 hX.1.2.2.2, Option.bind_some, if_neg (show ¬ ubit (GX ((1 : Int32) <<< (nI a &&& 31))) (nI b) = 0 from of_decide_eq_false (fP.trans (decide_eq_false hd)))]
    · rw [F_X12_part, m_areFree hM ha hb, Option.bind_some, if_neg ne10, e5, Option.bind_some, m_near (hM.kS k2) (by decide), Option.bind_some, if_pos (of_decide_eq_true (fQ.trans (by rw [decide_eq_false hd]; rfl)))]
theorem pu_all (xs : Nat → Int32) : VL 6 xs lv3 18 [] hk_Z := by
  rw [hk_eq]
  refine L_sub (lv2 := lvF) (fun b sc q hq => ?_) (law_switch gF (pu_feed fxF fmF) (pu_back fxF fmF) pu_read pu_place pu_cell (pu_goer fxF fmF) (pu_mow fxF fmF) (pu_rope fxF fmF) (pu_carry fxF fmF) (pu_beats fxF fmF) (pu_undo fxF fmF) (pu_next fxF fmF) (pu_together fxF fmF) (pu_way fxF fmF) (pu_leave fxF fmF) (pu_mows fxF fmF) (pu_part fxF fmF) (pu_meet fxF fmF) (pu_returns fxF fmF) (pu_never fxF fmF) (pu_stood fxF fmF) (pu_loud fxF fmF) pu_silence pu_chorus pu_period pu_centre (pu_far fxF fmF) pu_pairs (pu_then fxF fmF) (pu_tunesIn fxF fmF) (pu_year fxF fmF) (pu_tell fxF fmF) (pu_forget fxF fmF) pu_fits pu_listen (pu_hold fxF fmF) (pu_restore fxF fmF) pu_count)
  simp only [lvF, List.mem_cons, List.not_mem_nil, or_false] at hq
  simp only [lv3, List.mem_cons, List.not_mem_nil, or_false]
  rcases hq with rfl | rfl | rfl | rfl
  · exact Or.inr (Or.inr (Or.inr rfl))
  · exact Or.inr (Or.inr (Or.inl rfl))
  · exact Or.inr (Or.inl rfl)
  · exact Or.inl rfl
