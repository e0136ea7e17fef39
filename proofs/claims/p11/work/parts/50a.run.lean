/-! LAWS, as orders to a pile -/
/-- one order: a number, -1 - v: the v-th VAR, -10 .. -13: + - * / -/
def opV (v : Nat → Int32) (c : Int32) (st : List Int32) : Option (List Int32) :=
  if -9 ≤ c.toInt then some ((if 0 ≤ c.toInt then c else v (-1 - c.toInt).toNat) :: st) else
  match st with
  | b :: a :: r => if c.toInt = -13 then (if b = 0 then none else some (a / b :: r)) else some ((if c.toInt = -12 then a * b else if c.toInt = -11 then a - b else a + b) :: r)
  | _ => none
def rnV (v : Nat → Int32) : List Int32 → List Int32 → Option (List Int32)
  | [], st => some st
  | c :: r, st => (opV v c st).bind (rnV v r)
/-- how many lie on the pile behind these orders; m at most -/
def dpL (m : Nat) : List Int32 → Nat → Option Nat
  | [], d => some d
  | c :: r, d => if -13 ≤ c.toInt then (if -9 ≤ c.toInt then (if d < m then dpL m r (d + 1) else none) else if 2 ≤ d then dpL m r (d - 1) else none) else none
/-- orders laid down from p on -/
def odA (g : Nat → Int32) : Nat → List Int32 → Prop
  | _, [] => True
  | p, c :: r => g p = c ∧ odA g (p + 1) r
/-- a pile laid down -/
def skR (g : Nat → Int32) : List Int32 → Prop
  | [] => True
  | x :: r => g r.length = x ∧ skR g r
theorem skR.cg {g g' : Nat → Int32} : ∀ {st : List Int32}, skR g st → (∀ k, k < st.length → g' k = g k) → skR g' st := by
  intro st
  induction st with
  | nil => intro _ _; trivial
  | cons x r ih =>
    intro h e
    exact ⟨(e r.length (by simp)).trans h.1, ih h.2 (fun k hk => e k (by simp; omega))⟩
theorem odA.cg {g g' : Nat → Int32} : ∀ {C : List Int32} {p : Nat}, odA g p C → (∀ k, p ≤ k → k < p + C.length → g' k = g k) → odA g' p C := by
  intro C
  induction C with
  | nil => intro p _ _; trivial
  | cons x r ih =>
    intro p h e
    have l : (x :: r).length = r.length + 1 := rfl
    exact ⟨(e p (Nat.le_refl p) (by omega)).trans h.1, ih h.2 (fun k h1 h2 => e k (by omega) (by omega))⟩
theorem odA.app {g : Nat → Int32} : ∀ {C D : List Int32} {p : Nat}, odA g p (C ++ D) ↔ odA g p C ∧ odA g (p + C.length) D := by
  intro C
  induction C with
  | nil => intro D p; exact ⟨fun h => ⟨trivial, h⟩, fun h => h.2⟩
  | cons x r ih =>
    intro D p
    have l : p + (x :: r).length = p + 1 + r.length := by simp; omega
    rw [l]
    exact ⟨fun h => ⟨⟨h.1, (ih.mp h.2).1⟩, (ih.mp h.2).2⟩, fun h => ⟨h.1.1, ih.mpr ⟨h.1.2, h.2⟩⟩⟩
theorem odA.one {g : Nat → Int32} {p : Nat} {c : Int32} (h : g p = c) : odA g p [c] := ⟨h, trivial⟩
theorem rnV_app {v : Nat → Int32} : ∀ {C D st : List Int32}, rnV v (C ++ D) st = (rnV v C st).bind (rnV v D) := by
  intro C
  induction C with
  | nil => intro D st; rfl
  | cons c r ih =>
    intro D st
    show (opV v c st).bind (rnV v (r ++ D)) = ((opV v c st).bind (rnV v r)).bind (rnV v D)
    cases opV v c st with
    | none => rfl
    | some s => exact ih
theorem dpL_app {m : Nat} : ∀ {C D : List Int32} {d : Nat}, dpL m (C ++ D) d = (dpL m C d).bind (dpL m D) := by
  intro C
  induction C with
  | nil => intro D d; rfl
  | cons c r ih =>
    intro D d
    show (if -13 ≤ c.toInt then (if -9 ≤ c.toInt then (if d < m then dpL m (r ++ D) (d + 1) else none) else if 2 ≤ d then dpL m (r ++ D) (d - 1) else none) else none) = Option.bind (if -13 ≤ c.toInt then (if -9 ≤ c.toInt then (if d < m then dpL m r (d + 1) else none) else if 2 ≤ d then dpL m r (d - 1) else none) else none) (dpL m D)
    by_cases h1 : -13 ≤ c.toInt
    · rw [if_pos h1, if_pos h1]
      by_cases h2 : -9 ≤ c.toInt
      · rw [if_pos h2, if_pos h2]
        by_cases h3 : d < m
        · rw [if_pos h3, if_pos h3]; exact ih
        · rw [if_neg h3, if_neg h3]; rfl
      · rw [if_neg h2, if_neg h2]
        by_cases h3 : 2 ≤ d
        · rw [if_pos h3, if_pos h3]; exact ih
        · rw [if_neg h3, if_neg h3]; rfl
    · rw [if_neg h1, if_neg h1]; rfl
/-- one order on a pile that is deep enough: what it does, or a division by 0 -/
theorem opV_ok {v : Nat → Int32} {c : Int32} {st : List Int32} (h1 : -13 ≤ c.toInt) (h2 : -9 ≤ c.toInt ∨ 2 ≤ st.length) : (-9 ≤ c.toInt ∧ opV v c st = some ((if 0 ≤ c.toInt then c else v (-1 - c.toInt).toNat) :: st)) ∨ (c.toInt < -9 ∧ ∃ a b r, st = b :: a :: r ∧ ((c.toInt = -13 ∧ b = 0 ∧ opV v c st = none) ∨ (c.toInt = -13 ∧ b ≠ 0 ∧ opV v c st = some (a / b :: r)) ∨ (c.toInt = -12 ∧ opV v c st = some (a * b :: r)) ∨ (c.toInt = -11 ∧ opV v c st = some ((a - b) :: r)) ∨ (c.toInt = -10 ∧ opV v c st = some ((a + b) :: r)))) := by
  by_cases h3 : -9 ≤ c.toInt
  · left
    refine ⟨h3, ?_⟩
    unfold opV
    rw [if_pos h3]
  · right
    refine ⟨by omega, ?_⟩
    rcases st with _ | ⟨b, _ | ⟨a, r⟩⟩
    · exact absurd (h2.resolve_left h3) (by simp)
    · exact absurd (h2.resolve_left h3) (by simp)
    · refine ⟨a, b, r, rfl, ?_⟩
      unfold opV
      rw [if_neg h3]
      simp only
      by_cases q : c.toInt = -13
      · rw [if_pos q]
        by_cases z : b = 0
        · left; exact ⟨q, z, if_pos z⟩
        · right; left; exact ⟨q, z, if_neg z⟩
      · right; right
        rw [if_neg q]
        by_cases q2 : c.toInt = -12
        · left; exact ⟨q2, by rw [if_pos q2]⟩
        · right
          rw [if_neg q2]
          by_cases q3 : c.toInt = -11
          · left; exact ⟨q3, by rw [if_pos q3]⟩
          · right
            rw [if_neg q3]
            exact ⟨by omega, rfl⟩
/-- how deep, one order on -/
theorem dpL_cons {m : Nat} {c : Int32} {r : List Int32} {d e : Nat} (h : dpL m (c :: r) d = some e) : -13 ≤ c.toInt ∧ ((-9 ≤ c.toInt ∧ d < m ∧ dpL m r (d + 1) = some e) ∨ (c.toInt < -9 ∧ 2 ≤ d ∧ dpL m r (d - 1) = some e)) := by
  have h' : (if -13 ≤ c.toInt then (if -9 ≤ c.toInt then (if d < m then dpL m r (d + 1) else none) else if 2 ≤ d then dpL m r (d - 1) else none) else none) = some e := h
  by_cases h1 : -13 ≤ c.toInt
  · rw [if_pos h1] at h'
    refine ⟨h1, ?_⟩
    by_cases h2 : -9 ≤ c.toInt
    · rw [if_pos h2] at h'
      by_cases h3 : d < m
      · rw [if_pos h3] at h'; exact Or.inl ⟨h2, h3, h'⟩
      · rw [if_neg h3] at h'; cases h'
    · rw [if_neg h2] at h'
      by_cases h3 : 2 ≤ d
      · rw [if_pos h3] at h'; exact Or.inr ⟨by omega, h3, h'⟩
      · rw [if_neg h3] at h'; cases h'
  · rw [if_neg h1] at h'; cases h'
theorem rnV_len {v : Nat → Int32} {m : Nat} : ∀ {C st : List Int32} {e : Nat} {s : List Int32}, dpL m C st.length = some e → rnV v C st = some s → s.length = e := by
  intro C
  induction C with
  | nil => intro st e s h1 h2; cases h1; cases h2; rfl
  | cons c r ih =>
    intro st e s h1 h2
    obtain ⟨g1, g2⟩ := dpL_cons h1
    have h3 : (opV v c st).bind (rnV v r) = some s := h2
    rcases opV_ok (v := v) (st := st) g1 (by omega) with ⟨o1, o2⟩ | ⟨o1, a, b, t, o2, o3⟩
    · rcases g2 with ⟨k1, k2, k3⟩ | ⟨k1, _⟩
      · rw [o2] at h3
        exact ih (st := (if 0 ≤ c.toInt then c else v (-1 - c.toInt).toNat) :: st) k3 h3
      · omega
    · rcases g2 with ⟨k1, _⟩ | ⟨k1, k2, k3⟩
      · omega
      · subst o2
        have k4 (x : Int32) : dpL m r (x :: t).length = some e := k3
        rcases o3 with ⟨_, _, o⟩ | ⟨_, _, o⟩ | ⟨_, o⟩ | ⟨_, o⟩ | ⟨_, o⟩
        · rw [o] at h3; cases h3
        · rw [o] at h3; exact ih (k4 _) h3
        · rw [o] at h3; exact ih (k4 _) h3
        · rw [o] at h3; exact ih (k4 _) h3
        · rw [o] at h3; exact ih (k4 _) h3
/-- what lies below isn't looked at -/
theorem rnV_below {v : Nat → Int32} {m : Nat} {w : List Int32} : ∀ {C st : List Int32} {e : Nat}, dpL m C st.length = some e → rnV v C (st ++ w) = (rnV v C st).map (fun s => s ++ w) := by
  intro C
  induction C with
  | nil => intro st e h1; rfl
  | cons c r ih =>
    intro st e h1
    obtain ⟨g1, g2⟩ := dpL_cons h1
    show (opV v c (st ++ w)).bind (rnV v r) = ((opV v c st).bind (rnV v r)).map _
    have hw : -9 ≤ c.toInt ∨ 2 ≤ st.length := by omega
    rcases opV_ok (v := v) (st := st) g1 hw with ⟨o1, o2⟩ | ⟨o1, a, b, t, o2, o3⟩
    · rcases g2 with ⟨k1, k2, k3⟩ | ⟨k1, _⟩
      · rw [o2]
        have : opV v c (st ++ w) = some ((if 0 ≤ c.toInt then c else v (-1 - c.toInt).toNat) :: (st ++ w)) := by
          unfold opV; rw [if_pos o1]
        rw [this]
        exact ih (st := (if 0 ≤ c.toInt then c else v (-1 - c.toInt).toNat) :: st) k3
      · omega
    · rcases g2 with ⟨k1, _⟩ | ⟨k1, k2, k3⟩
      · omega
      · subst o2
        have k4 (x : Int32) : dpL m r (x :: t).length = some e := k3
        rcases opV_ok (v := v) (st := (b :: a :: t) ++ w) g1 (Or.inr (by simp)) with ⟨p1, _⟩ | ⟨p1, a', b', t', p2, p3⟩
        · omega
        · have q : b = b' ∧ a = a' ∧ t ++ w = t' := by simpa using p2
          obtain ⟨rfl, rfl, rfl⟩ := q
          rcases o3 with ⟨x1, x2, o⟩ | ⟨x1, x2, o⟩ | ⟨x1, o⟩ | ⟨x1, o⟩ | ⟨x1, o⟩ <;> rcases p3 with ⟨y1, y2, p⟩ | ⟨y1, y2, p⟩ | ⟨y1, p⟩ | ⟨y1, p⟩ | ⟨y1, p⟩ <;> first | (exfalso; omega) | (exact absurd x2 y2) | (exact absurd y2 x2) | (rw [o, p]; rfl) | (rw [o, p]; exact ih (st := _ :: t) (k4 _))
/-! A LAW: its tests, each with what it tells if it holds, and what it tells else -/
def lwV (v : Nat → Int32) : List ((List Int32 × List Int32) × List Int32) → List Int32 → Int32
  | [], f => match rnV v f [] with
    | some [x] => x
    | _ => 0
  | ((a, b), c) :: r, f => match rnV v (a ++ b) [] with
    | some [y, x] => if x.toInt < y.toInt then (match rnV v c [] with
      | some [z] => z
      | _ => 0) else lwV v r f
    | _ => 0
/-- a sum's orders: at most m lie on the pile, then one -/
def gdC (m : Nat) (C : List Int32) : Prop := dpL m C 0 = some 1
/-- the tests can be gone through -/
def gdB (m : Nat) (bs : List ((List Int32 × List Int32) × List Int32)) : Prop := ∀ b ∈ bs, gdC m b.1.1 ∧ dpL m (b.1.1 ++ b.1.2) 0 = some 2 ∧ gdC m b.1.2 ∧ gdC m b.2
