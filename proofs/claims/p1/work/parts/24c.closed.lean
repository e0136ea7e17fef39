/-! what the kernel reckons out at the fresh state itself -/
def okI (x : Option (Int32 × Hp)) (y : Hp → Option (Int32 × Hp)) : Bool := match x with
  | some q => (match y q.2 with
    | some q2 => decide (q.1 = q2.1)
    | none => false)
  | none => false
theorem okI_get {x : Option (Int32 × Hp)} {y : Hp → Option (Int32 × Hp)} (h : okI x y = true) : ∃ q1 q2 : Int32 × Hp, x = some q1 ∧ y q1.2 = some q2 ∧ q1.1 = q2.1 := by
  unfold okI at h
  cases hx : x with
  | none => rw [hx] at h; cases h
  | some q =>
    rw [hx] at h
    simp only at h
    cases hy : y q.2 with
    | none => rw [hy] at h; cases h
    | some q2 =>
      rw [hy] at h
      exact ⟨q, q2, rfl, hy, of_decide_eq_true h⟩
theorem t_place : okI (F_X11_place 1 hk_F) (fun h => F_X12_place 1 h) = true := by decide +kernel
theorem t_count : ∀ j, j < 21 → okI (F_X11_count 200 hk_F (nI j)) (fun h => F_X12_count 300 h (nI j)) = true := by decide +kernel
theorem t_read : okI (F_X11_read 300 hk_F) (fun h => F_X12_read 300 h) = true := by decide +kernel
theorem t_listen : okI (F_X11_listen 300 hk_F 0) (fun h => F_X12_listen 300 h 0) = true := by decide +kernel
theorem t_fits : ∀ j, j < 2 → okI (F_X11_fits 300 hk_F 0 (nI j)) (fun h => F_X12_fits 300 h 0 (nI j)) = true := by decide +kernel
theorem t_pairs : okI (F_X11_pairs 300 hk_F (-1)) (fun h => F_X12_pairs 300 h (-1)) = true := by decide +kernel
theorem t_period : okI (F_X11_period 300 hk_F) (fun h => F_X12_period 300 h) = true := by decide +kernel
theorem t_cell : ∀ j, j < 16 → ∀ k, k < 7 → okI (F_X11_cell 300 hk_F (nI j) (nI k)) (fun h => F_X12_cell 300 h (nI j) (nI k)) = true := by decide +kernel
theorem t_silence : ∀ j, j < 2 → okI (F_X11_silence 100 hk_F (nI j)) (fun h => F_X12_silence 100 h (nI j)) = true := by decide +kernel
theorem t_chorus : ∀ j, j < 2 → okI (F_X11_chorus 100 hk_F (nI j)) (fun h => F_X12_chorus 100 h (nI j)) = true := by decide +kernel
