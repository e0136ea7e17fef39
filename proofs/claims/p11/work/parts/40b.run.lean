/-! THE CLASS: runs of bytes -/
section LX2
variable {bs : Nat → Int} {m : Nat} {h : Hp}
theorem pc_behindBlanks (B : BS bs m) (S : SC bs m h) {l1 : Int32} : ∀ (n : Nat) (l2 : Int32) (i : Nat), l2.toInt = (i : Int) → Pc (W_X9_behindBlanks n 2 h l1 l2) (fun q => q.2 = h ∧ ∃ e : Nat, q.1.toInt = (e : Int) ∧ RunE isBl bs i e ∧ (i ≤ m → e ≤ m)) := by
  have f1 := lit_1
  have f0 := lit_0
  intro n
  induction n with
  | zero => intro l2 i e; exact Pc.no
  | succ n ih =>
    intro l2 i e
    rw [u_X9_behindBlanks]
    refine Pc.pos rfl ?_
    have s1 := S.1
    have b1 := B.1
    refine Pc.le (fun c1 => Pc.ret ⟨rfl, i, e, RunE.stop ?_, fun z => z⟩) (fun c1 => ?_)
    · rw [B.2.1 i (by omega)]
      unfold isBl
      omega
    · refine Pc.bind (pc_signAt B S) (fun q2 h2 => ?_)
      rw [h2.1]
      have v2 := h2.2 i e
      refine Pc.bind pc_isBlank (fun q4 h4 => ?_)
      rw [h4.1]
      have v4 := h4.2
      rw [v2] at v4
      refine Pc.eq (fun c2 => Pc.ret ⟨rfl, i, e, RunE.stop (fun z => ?_), fun z => z⟩) (fun c2 => ?_)
      · exact absurd c2 (by rw [f0]; exact v4.mpr z)
      · have a1 := adT l2 1 (by omega) (by omega)
        refine (ih (l2 + 1) (i + 1) (by omega)).mono (fun q hq => ?_)
        obtain ⟨h5, e5, h6, h7, h8⟩ := hq
        exact ⟨h5, e5, h6, RunE.step (v4.mp (by rw [f0] at c2; exact c2)) h7, fun _ => h8 (by omega)⟩
theorem pc_behindLetters (B : BS bs m) (S : SC bs m h) {l1 : Int32} : ∀ (n : Nat) (l2 : Int32) (i : Nat), l2.toInt = (i : Int) → Pc (W_X9_behindLetters n 2 h l1 l2) (fun q => q.2 = h ∧ ∃ e : Nat, q.1.toInt = (e : Int) ∧ RunE isLt bs i e ∧ (i ≤ m → e ≤ m)) := by
  have f1 := lit_1
  have f0 := lit_0
  intro n
  induction n with
  | zero => intro l2 i e; exact Pc.no
  | succ n ih =>
    intro l2 i e
    rw [u_X9_behindLetters]
    refine Pc.pos rfl ?_
    have s1 := S.1
    have b1 := B.1
    refine Pc.le (fun c1 => Pc.ret ⟨rfl, i, e, RunE.stop ?_, fun z => z⟩) (fun c1 => ?_)
    · rw [B.2.1 i (by omega)]
      unfold isLt
      omega
    · refine Pc.bind (pc_signAt B S) (fun q2 h2 => ?_)
      rw [h2.1]
      have v2 := h2.2 i e
      refine Pc.bind pc_isLetter (fun q4 h4 => ?_)
      rw [h4.1]
      have v4 := h4.2
      rw [v2] at v4
      refine Pc.eq (fun c2 => Pc.ret ⟨rfl, i, e, RunE.stop (fun z => ?_), fun z => z⟩) (fun c2 => ?_)
      · exact absurd c2 (by rw [f0]; exact v4.mpr z)
      · have a1 := adT l2 1 (by omega) (by omega)
        refine (ih (l2 + 1) (i + 1) (by omega)).mono (fun q hq => ?_)
        obtain ⟨h5, e5, h6, h7, h8⟩ := hq
        exact ⟨h5, e5, h6, RunE.step (v4.mp (by rw [f0] at c2; exact c2)) h7, fun _ => h8 (by omega)⟩
theorem pc_behindDigits (B : BS bs m) (S : SC bs m h) {l1 : Int32} : ∀ (n : Nat) (l2 : Int32) (i : Nat), l2.toInt = (i : Int) → Pc (W_X9_behindDigits n 2 h l1 l2) (fun q => q.2 = h ∧ ∃ e : Nat, q.1.toInt = (e : Int) ∧ RunE isDg bs i e ∧ (i ≤ m → e ≤ m)) := by
  have f1 := lit_1
  have f0 := lit_0
  intro n
  induction n with
  | zero => intro l2 i e; exact Pc.no
  | succ n ih =>
    intro l2 i e
    rw [u_X9_behindDigits]
    refine Pc.pos rfl ?_
    have s1 := S.1
    have b1 := B.1
    refine Pc.le (fun c1 => Pc.ret ⟨rfl, i, e, RunE.stop ?_, fun z => z⟩) (fun c1 => ?_)
    · rw [B.2.1 i (by omega)]
      unfold isDg
      omega
    · refine Pc.bind (pc_signAt B S) (fun q2 h2 => ?_)
      rw [h2.1]
      have v2 := h2.2 i e
      refine Pc.bind pc_isDigit (fun q4 h4 => ?_)
      rw [h4.1]
      have v4 := h4.2
      rw [v2] at v4
      refine Pc.eq (fun c2 => Pc.ret ⟨rfl, i, e, RunE.stop (fun z => ?_), fun z => z⟩) (fun c2 => ?_)
      · exact absurd c2 (by rw [f0]; exact v4.mpr z)
      · have a1 := adT l2 1 (by omega) (by omega)
        refine (ih (l2 + 1) (i + 1) (by omega)).mono (fun q hq => ?_)
        obtain ⟨h5, e5, h6, h7, h8⟩ := hq
        exact ⟨h5, e5, h6, RunE.step (v4.mp (by rw [f0] at c2; exact c2)) h7, fun _ => h8 (by omega)⟩
end LX2
