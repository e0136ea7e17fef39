/-! WHAT IS KEPT BETWEEN CALLS, all of it -/
def Ir (h : Hp) : Prop := Iz h ∧ RLx h
theorem irY : Ir hk_Y := ⟨izY, rlxY⟩
section R56X
variable {h0 : Hp} {A : Nat → Option (Int32 × Hp)} {B : Nat → Hp → Option (Int32 × Hp)}
theorem rlx_of {P : Prop} {q : Hp} (w : RLx h0) (f : ∀ s T, RLs s T h0 → P ∧ RLs s T q) : P ∧ RLx q := by
  obtain ⟨s, T, r⟩ := w
  exact ⟨(f s T r).1, s, T, (f s T r).2⟩
theorem rlx_ke {q : Hp} (w : RLx h0) (k : rlK h0 q) : RLx q := by
  obtain ⟨s, T, r⟩ := w
  exact ⟨s, T, r.ke k⟩
theorem pr_mk (w : Ir h0) (e : ∃ (n1 : Nat) (q1 : Int32 × Hp) (n2 : Nat) (q2 : Int32 × Hp), A n1 = some q1 ∧ B n2 q1.2 = some q2 ∧ Iz q2.2) (a : ∀ n q, A n = some q → rlK h0 q.2) (b : ∀ n h q, B n h = some q → rlK h q.2) : ∃ (n1 : Nat) (q1 : Int32 × Hp) (n2 : Nat) (q2 : Int32 × Hp), A n1 = some q1 ∧ B n2 q1.2 = some q2 ∧ Ir q2.2 := by
  obtain ⟨n1, q1, n2, q2, e1, e2, e3⟩ := e
  exact ⟨n1, q1, n2, q2, e1, e2, e3, rlx_ke w.2 ((a n1 q1 e1).tr (b n2 q1.2 q2 e2))⟩
theorem pr_ask (w : Ir h0) (e : ∃ (n1 : Nat) (q1 : Int32 × Hp) (n2 : Nat) (q2 : Int32 × Hp), A n1 = some q1 ∧ B n2 q1.2 = some q2 ∧ Iz q2.2) (a : ∀ n q, A n = some q → rlK h0 q.2) (b : ∀ n h q, B n h = some q → rlK h q.2) (c : ∀ n1 n2 q1 q2, A n1 = some q1 → B n2 q1.2 = some q2 → q1.1 = q2.1) : ∃ (n1 : Nat) (q1 : Int32 × Hp) (n2 : Nat) (q2 : Int32 × Hp), A n1 = some q1 ∧ B n2 q1.2 = some q2 ∧ q1.1 = q2.1 ∧ Ir q2.2 := by
  obtain ⟨n1, q1, n2, q2, e1, e2, e3⟩ := e
  exact ⟨n1, q1, n2, q2, e1, e2, c n1 n2 q1 q2 e1 e2, e3, rlx_ke w.2 ((a n1 q1 e1).tr (b n2 q1.2 q2 e2))⟩
theorem pr_own (e : ∃ (n1 : Nat) (q1 : Int32 × Hp) (n2 : Nat) (q2 : Int32 × Hp), A n1 = some q1 ∧ B n2 q1.2 = some q2 ∧ Iz q2.2) (c : ∀ n1 n2 q1 q2, A n1 = some q1 → B n2 q1.2 = some q2 → q1.1 = q2.1 ∧ RLx q2.2) : ∃ (n1 : Nat) (q1 : Int32 × Hp) (n2 : Nat) (q2 : Int32 × Hp), A n1 = some q1 ∧ B n2 q1.2 = some q2 ∧ q1.1 = q2.1 ∧ Ir q2.2 := by
  obtain ⟨n1, q1, n2, q2, e1, e2, e3⟩ := e
  have k := c n1 n2 q1 q2 e1 e2
  exact ⟨n1, q1, n2, q2, e1, e2, k.1, e3, k.2⟩
theorem pr_hd (e : ∃ (n1 : Nat) (q1 : Int32 × Hp) (n2 : Nat) (q2 : Int32 × Hp), A n1 = some q1 ∧ B n2 q1.2 = some q2 ∧ Iz q2.2) (c : ∀ n1 n2 q1 q2, A n1 = some q1 → B n2 q1.2 = some q2 → RLx q2.2) : ∃ (n1 : Nat) (q1 : Int32 × Hp) (n2 : Nat) (q2 : Int32 × Hp), A n1 = some q1 ∧ B n2 q1.2 = some q2 ∧ Ir q2.2 := by
  obtain ⟨n1, q1, n2, q2, e1, e2, e3⟩ := e
  exact ⟨n1, q1, n2, q2, e1, e2, e3, c n1 n2 q1 q2 e1 e2⟩
theorem pr_no (h : ∃ (n1 : Nat) (q1 : Int32 × Hp) (n2 : Nat) (q2 : Int32 × Hp), A n1 = some q1 ∧ B n2 q1.2 = some q2 ∧ q1.1 = q2.1 ∧ Ir q2.2) : ∃ (n1 : Nat) (q1 : Int32 × Hp) (n2 : Nat) (q2 : Int32 × Hp), A n1 = some q1 ∧ B n2 q1.2 = some q2 ∧ Ir q2.2 := by
  obtain ⟨n1, q1, n2, q2, a, b, -, c⟩ := h
  exact ⟨n1, q1, n2, q2, a, b, c⟩
theorem pr_rd {h0 : Hp} (w : Ir h0) : ∃ (n1 : Nat) (q1 : Int32 × Hp) (n2 : Nat) (q2 : Int32 × Hp), F_X11_read n1 h0 = some q1 ∧ F_X12_read n2 q1.2 = some q2 ∧ q1.1 = q2.1 ∧ Ir q2.2 := rd_rl w.1 w.2
end R56X
