/-! IF IT COMES TO ITS END: what then holds -/
def Pc {α : Type} (o : Option α) (P : α → Prop) : Prop := ∀ x, o = some x → P x
section PC
variable {α β : Type} {P Q : α → Prop} {R : β → Prop}
theorem Pc.ret {x : α} (h : P x) : Pc (some x) P := fun y e => by cases e; exact h
theorem Pc.no : Pc (none : Option α) P := fun y e => by cases e
theorem Pc.bind {o : Option α} {f : α → Option β} (h1 : Pc o Q) (h2 : ∀ x, Q x → Pc (f x) R) : Pc (o.bind f) R := by
  intro y e
  obtain ⟨x, e1, e2⟩ := Option.bind_eq_some_iff.mp e
  exact h2 x (h1 x e1) y e2
theorem Pc.mono {o : Option α} (h1 : Pc o Q) (h2 : ∀ x, Q x → P x) : Pc o P := fun x e => h2 x (h1 x e)
theorem Pc.ite {c : Prop} [Decidable c] {A B : Option α} (h1 : c → Pc A P) (h2 : ¬ c → Pc B P) : Pc (if c then A else B) P := by
  by_cases k : c
  · rw [if_pos k]; exact h1 k
  · rw [if_neg k]; exact h2 k
theorem Pc.pos {c : Prop} [Decidable c] {A B : Option α} (k : c) (h1 : Pc A P) : Pc (if c then A else B) P := by rw [if_pos k]; exact h1
theorem Pc.neg {c : Prop} [Decidable c] {A B : Option α} (k : ¬ c) (h1 : Pc B P) : Pc (if c then A else B) P := by rw [if_neg k]; exact h1
theorem Pc.chk {c : Prop} [Decidable c] {A : Option α} (h1 : c → Pc A P) : Pc (if c then A else none) P := Pc.ite h1 (fun _ => Pc.no)
theorem Pc.le {a b : Int32} {A B : Option α} (h1 : a.toInt ≤ b.toInt → Pc A P) (h2 : b.toInt < a.toInt → Pc B P) : Pc (if a ≤ b then A else B) P :=
  Pc.ite (fun k => h1 (Int32.le_iff_toInt_le.mp k)) (fun k => h2 (Int.not_le.mp (fun z => k (Int32.le_iff_toInt_le.mpr z))))
theorem Pc.lt {a b : Int32} {A B : Option α} (h1 : a.toInt < b.toInt → Pc A P) (h2 : b.toInt ≤ a.toInt → Pc B P) : Pc (if a < b then A else B) P :=
  Pc.ite (fun k => h1 (Int32.lt_iff_toInt_lt.mp k)) (fun k => h2 (Int.not_lt.mp (fun z => k (Int32.lt_iff_toInt_lt.mpr z))))
theorem Pc.eq {a b : Int32} {A B : Option α} (h1 : a.toInt = b.toInt → Pc A P) (h2 : a.toInt ≠ b.toInt → Pc B P) : Pc (if a = b then A else B) P :=
  Pc.ite (fun k => h1 (congrArg Int32.toInt k)) (fun k => h2 (fun z => k (Int32.toInt_inj.mp z)))
theorem Ok.pc {o : Option α} (h : Ok o P) : Pc o P := by
  obtain ⟨x, e, p⟩ := h
  intro y e2
  rw [e] at e2
  cases e2
  exact p
theorem Ok.and {o : Option α} (h : Ok o P) (k : Pc o Q) : Ok o (fun x => P x ∧ Q x) := by
  obtain ⟨x, e, p⟩ := h
  exact ⟨x, e, p, k x e⟩
end PC
theorem hl_wrI (h : Hp) (a k : Nat) (v : Int32) (a' k' : Nat) : hl (wrI h a k v) a' k' = hl h a' k' := rfl
theorem hl_wrL (h : Hp) (a k : Nat) (v : Int64) (a' k' : Nat) : hl (wrL h a k v) a' k' = if a' = a ∧ k' = k then v else hl h a' k' := rfl
def updP (P : Nat → Nat) (N p t : Nat) : Nat := if t = N then p else P t
theorem updP_eq {P : Nat → Nat} {N p : Nat} : updP P N p N = p := if_pos rfl
theorem updP_ne {P : Nat → Nat} {N p t : Nat} (h : t ≠ N) : updP P N p t = P t := if_neg h
/-! THE TEXT: bytes, runs of them -/
def isBl (c : Int) : Prop := c = 9 ∨ c = 10 ∨ c = 13 ∨ c = 32
def isLt (c : Int) : Prop := 97 ≤ c ∧ c ≤ 122
def isDg (c : Int) : Prop := 48 ≤ c ∧ c ≤ 57
def isSg (c : Int) : Prop := c = 40 ∨ c = 41 ∨ c = 42 ∨ c = 43 ∨ c = 45 ∨ c = 47 ∨ c = 59 ∨ c = 60 ∨ c = 61
/-- m bytes, nought behind -/
def BS (bs : Nat → Int) (m : Nat) : Prop := m ≤ 2000 ∧ (∀ i, m ≤ i → bs i = 0) ∧ ∀ i, 0 ≤ bs i ∧ bs i ≤ 255
/-- from i on p holds, as far as e, where it doesn't -/
def RunE (p : Int → Prop) (bs : Nat → Int) (i e : Nat) : Prop := i ≤ e ∧ (∀ j, i ≤ j → j < e → p (bs j)) ∧ ¬ p (bs e)
theorem RunE.uniq {p : Int → Prop} {bs : Nat → Int} {i e e' : Nat} (a : RunE p bs i e) (b : RunE p bs i e') : e = e' := by
  rcases Nat.lt_trichotomy e e' with h | h | h
  · exact absurd (b.2.1 e a.1 h) a.2.2
  · exact h
  · exact absurd (a.2.1 e' b.1 h) b.2.2
theorem RunE.stop {p : Int → Prop} {bs : Nat → Int} {i : Nat} (h : ¬ p (bs i)) : RunE p bs i i := ⟨Nat.le_refl i, fun j a b => by omega, h⟩
theorem RunE.step {p : Int → Prop} {bs : Nat → Int} {i e : Nat} (h : p (bs i)) (r : RunE p bs (i + 1) e) : RunE p bs i e := by
  refine ⟨by have := r.1; omega, fun j a b => ?_, r.2.2⟩
  by_cases z : j = i
  · rw [z]; exact h
  · exact r.2.1 j (by omega) b
/-- the first k of a run, as a number in a base; d: what a byte counts from -/
def wnR (b d : Int) (bs : Nat → Int) (i : Nat) : Nat → Int
  | 0 => 0
  | k + 1 => b * wnR b d bs i k + (bs (i + k) - d)
/-- the class's text: its bytes, how many -/
def SC (bs : Nat → Int) (m : Nat) (h : Hp) : Prop := (hi h 18 6).toInt = (m : Int) ∧ ∀ i, i < m → ((vp_nar .byte (hi h 1 i) : Int32) &&& 255).toInt = bs i
section LX
variable {bs : Nat → Int} {m : Nat} {h : Hp}
theorem pc_signAt {n : Nat} {x1 : Int32} (B : BS bs m) (S : SC bs m h) : Pc (F_X9_signAt n h x1) (fun q => q.2 = h ∧ ∀ i : Nat, x1.toInt = (i : Int) → q.1.toInt = bs i) := by
  have f0 := lit_0
  have f2 := lit_2000
  obtain ⟨s1, s2⟩ := S
  obtain ⟨b1, b2, b3⟩ := B
  unfold F_X9_signAt
  refine Pc.lt (fun c1 => Pc.ret ⟨rfl, fun i e => by omega⟩) (fun c1 => ?_)
  refine Pc.le (fun c2 => Pc.ret ⟨rfl, fun i e => ?_⟩) (fun c2 => ?_)
  · rw [b2 i (by omega)]; exact f0
  · refine Pc.le (fun c3 => by exfalso; omega) (fun c3 => ?_)
    refine Pc.chk (fun c4 => Pc.ret ⟨rfl, fun i e => ?_⟩)
    have n1 := ncT c1
    have n2 : Int32.toNatClampNeg x1 = i := by omega
    show ((vp_nar .byte (hi h 1 (Int32.toNatClampNeg x1)) : Int32) &&& 255).toInt = bs i
    rw [n2]
    exact s2 i (by omega)
theorem pc_isBlank {n : Nat} {x1 : Int32} : Pc (F_X9_isBlank n h x1) (fun q => q.2 = h ∧ (q.1.toInt ≠ 0 ↔ isBl x1.toInt)) := by
  have f0 := lit_0
  have f1 := lit_1
  have f9 := lit_9
  have f10 := lit_10
  have f13 := lit_13
  have f32 := lit_32
  unfold F_X9_isBlank isBl
  refine Pc.eq (fun c1 => Pc.ret ⟨rfl, ?_⟩) (fun c1 => Pc.eq (fun c2 => Pc.ret ⟨rfl, ?_⟩) (fun c2 => Pc.eq (fun c3 => Pc.ret ⟨rfl, ?_⟩) (fun c3 => Pc.eq (fun c4 => Pc.ret ⟨rfl, ?_⟩) (fun c4 => Pc.ret ⟨rfl, ?_⟩))))
  · show (1 : Int32).toInt ≠ 0 ↔ _
    omega
  · show (1 : Int32).toInt ≠ 0 ↔ _
    omega
  · show (1 : Int32).toInt ≠ 0 ↔ _
    omega
  · show (1 : Int32).toInt ≠ 0 ↔ _
    omega
  · show (0 : Int32).toInt ≠ 0 ↔ _
    omega
theorem pc_isLetter {n : Nat} {x1 : Int32} : Pc (F_X9_isLetter n h x1) (fun q => q.2 = h ∧ (q.1.toInt ≠ 0 ↔ isLt x1.toInt)) := by
  have f0 := lit_0
  have f1 := lit_1
  have f97 := lit_97
  have f122 := lit_122
  unfold F_X9_isLetter isLt
  refine Pc.lt (fun c1 => Pc.ret ⟨rfl, ?_⟩) (fun c1 => Pc.lt (fun c2 => Pc.ret ⟨rfl, ?_⟩) (fun c2 => Pc.ret ⟨rfl, ?_⟩))
  · show (0 : Int32).toInt ≠ 0 ↔ _
    omega
  · show (0 : Int32).toInt ≠ 0 ↔ _
    omega
  · show (1 : Int32).toInt ≠ 0 ↔ _
    omega
theorem pc_isDigit {n : Nat} {x1 : Int32} : Pc (F_X9_isDigit n h x1) (fun q => q.2 = h ∧ (q.1.toInt ≠ 0 ↔ isDg x1.toInt)) := by
  have f0 := lit_0
  have f1 := lit_1
  have f48 := lit_48
  have f57 := lit_57
  unfold F_X9_isDigit isDg
  refine Pc.lt (fun c1 => Pc.ret ⟨rfl, ?_⟩) (fun c1 => Pc.lt (fun c2 => Pc.ret ⟨rfl, ?_⟩) (fun c2 => Pc.ret ⟨rfl, ?_⟩))
  · show (0 : Int32).toInt ≠ 0 ↔ _
    omega
  · show (0 : Int32).toInt ≠ 0 ↔ _
    omega
  · show (1 : Int32).toInt ≠ 0 ↔ _
    omega
end LX
