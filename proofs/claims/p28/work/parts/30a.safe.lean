section
/-! SAFETY: every method comes to its end, whatever it is asked. Ok o P: o is some x with P x -/
def Ok {α : Type} (o : Option α) (P : α → Prop) : Prop := ∃ x, o = some x ∧ P x
theorem Ok.ret {α : Type} {x : α} {P : α → Prop} (h : P x) : Ok (some x) P := ⟨x, rfl, h⟩
theorem Ok.bind {α β : Type} {o : Option α} {f : α → Option β} {Q : α → Prop} {P : β → Prop} (h1 : Ok o Q) (h2 : ∀ x, Q x → Ok (f x) P) : Ok (o.bind f) P := by
  obtain ⟨x, rfl, hx⟩ := h1
  exact h2 x hx
theorem Ok.mono {α : Type} {o : Option α} {P Q : α → Prop} (h1 : Ok o Q) (h2 : ∀ x, Q x → P x) : Ok o P := by
  obtain ⟨x, rfl, hx⟩ := h1
  exact ⟨x, rfl, h2 x hx⟩
theorem Ok.ite {α : Type} {c : Prop} [Decidable c] {A B : Option α} {P : α → Prop} (h1 : c → Ok A P) (h2 : ¬ c → Ok B P) : Ok (if c then A else B) P := by
  by_cases k : c
  · rw [if_pos k]; exact h1 k
  · rw [if_neg k]; exact h2 k
theorem Ok.pos {α : Type} {c : Prop} [Decidable c] {A B : Option α} {P : α → Prop} (k : c) (h1 : Ok A P) : Ok (if c then A else B) P := by
  rw [if_pos k]; exact h1
theorem Ok.neg {α : Type} {c : Prop} [Decidable c] {A B : Option α} {P : α → Prop} (k : ¬ c) (h1 : Ok B P) : Ok (if c then A else B) P := by
  rw [if_neg k]; exact h1
theorem Ok.chk {α : Type} {c : Prop} [Decidable c] {A B : Option α} {P : α → Prop} (k : c) (h1 : c → Ok A P) : Ok (if c then A else B) P := by
  rw [if_pos k]; exact h1 k
theorem Ok.le {α : Type} {a b : Int32} {A B : Option α} {P : α → Prop} (h1 : a.toInt ≤ b.toInt → Ok A P) (h2 : b.toInt < a.toInt → Ok B P) : Ok (if a ≤ b then A else B) P :=
  Ok.ite (fun k => h1 (Int32.le_iff_toInt_le.mp k)) (fun k => h2 (Int.not_le.mp (fun q => k (Int32.le_iff_toInt_le.mpr q))))
theorem Ok.lt {α : Type} {a b : Int32} {A B : Option α} {P : α → Prop} (h1 : a.toInt < b.toInt → Ok A P) (h2 : b.toInt ≤ a.toInt → Ok B P) : Ok (if a < b then A else B) P :=
  Ok.ite (fun k => h1 (Int32.lt_iff_toInt_lt.mp k)) (fun k => h2 (Int.not_lt.mp (fun q => k (Int32.lt_iff_toInt_lt.mpr q))))
theorem Ok.eq {α : Type} {a b : Int32} {A B : Option α} {P : α → Prop} (h1 : a.toInt = b.toInt → Ok A P) (h2 : a.toInt ≠ b.toInt → Ok B P) : Ok (if a = b then A else B) P :=
  Ok.ite (fun k => h1 (by rw [k])) (fun k => h2 (fun q => k (Int32.toInt_inj.mp q)))
theorem Ok.div {α : Type} {a b : Int32} {A : Option α} {P : α → Prop} (k : a.toInt ≠ b.toInt) (h1 : Ok A P) : Ok (if a = b then none else A) P := by
  rw [if_neg (fun q => k (by rw [q]))]; exact h1
theorem Ok.bool {α : Type} {a : Int32} {A B : Option α} {P : α → Prop} (k : 0 ≤ a.toInt ∧ a.toInt ≤ 1) (h1 : Ok A P) : Ok (if a = 0 ∨ a = 1 then A else B) P := by
  have e0 : (0 : Int32).toInt = 0 := by decide
  have e1 : (1 : Int32).toInt = 1 := by decide
  refine Ok.pos ?_ h1
  by_cases q : a.toInt = 0
  · exact Or.inl (Int32.toInt_inj.mp (by omega))
  · exact Or.inr (Int32.toInt_inj.mp (by omega))
theorem rgT (a : Int32) : -2147483648 ≤ a.toInt ∧ a.toInt ≤ 2147483647 := by
  have h1 := Int32.le_toInt a
  have h2 := Int32.toInt_lt a
  omega
theorem bmT {x : Int} (h1 : -2147483648 ≤ x) (h2 : x ≤ 2147483647) : x.bmod (2 ^ 32) = x := Int.bmod_eq_of_le (by omega) (by omega)
theorem adT (a b : Int32) : -2147483648 ≤ a.toInt + b.toInt → a.toInt + b.toInt ≤ 2147483647 → (a + b).toInt = a.toInt + b.toInt := by
  intro h1 h2
  rw [Int32.toInt_add, bmT h1 h2]
theorem sbT (a b : Int32) : -2147483648 ≤ a.toInt - b.toInt → a.toInt - b.toInt ≤ 2147483647 → (a - b).toInt = a.toInt - b.toInt := by
  intro h1 h2
  rw [Int32.toInt_sub, bmT h1 h2]
theorem mlT (a b : Int32) (c : Int) (hc : a.toInt = c) : -2147483648 ≤ c * b.toInt → c * b.toInt ≤ 2147483647 → (a * b).toInt = c * b.toInt := by
  intro h1 h2
  rw [Int32.toInt_mul, hc, bmT h1 h2]
theorem ixT {x : Int32} {N : Nat} (h1 : 0 ≤ x.toInt) (h2 : x.toInt < N) : ixOK x N = true := by
  have e0 : (0 : Int32).toInt = 0 := by decide
  simp only [ixOK, Bool.and_eq_true, decide_eq_true_eq]
  refine ⟨Int32.le_iff_toInt_le.mpr (by omega), ?_⟩
  rw [← Int32.toNat_toInt]
  omega
theorem ncT {x : Int32} (h1 : 0 ≤ x.toInt) : ((Int32.toNatClampNeg x : Nat) : Int) = x.toInt := by
  rw [← Int32.toNat_toInt]; omega
theorem shr1T (x : Int32) : (x >>> ((1 : Int32) &&& 31)).toInt = x.toInt / 2 := by
  have e : ((1 : Int32) &&& 31) = 1 := by decide
  rw [e]
  show (Int32.toBitVec (x >>> 1)).toInt = _
  rw [Int32.toBitVec_shiftRight]
  have e2 : (BitVec.smod (Int32.toBitVec 1) 32) = 1#32 := by decide
  rw [e2]
  show (BitVec.sshiftRight x.toBitVec (1#32).toNat).toInt = _
  rw [BitVec.toInt_sshiftRight]
  show x.toInt >>> 1 = _
  rw [Int.shiftRight_eq_div_pow]
  rfl
theorem and_rg (x m : Int32) (M : Int) (hm : m.toInt = M) (h0 : 0 ≤ M) : 0 ≤ (x &&& m).toInt ∧ (x &&& m).toInt ≤ M := by
  subst hm
  have hb : m.toBitVec.msb = false := by
    rw [BitVec.msb_eq_toInt]
    simpa using h0
  have h1 : (x &&& m).toInt = ((x.toBitVec &&& m.toBitVec).toNat : Int) := by
    show (x.toBitVec &&& m.toBitVec).toInt = _
    rw [BitVec.toInt_eq_msb_cond]
    have : (x.toBitVec &&& m.toBitVec).msb = false := by rw [BitVec.msb_and, hb, Bool.and_false]
    rw [this]; rfl
  have h2 : m.toInt = (m.toBitVec.toNat : Int) := by
    show m.toBitVec.toInt = _
    rw [BitVec.toInt_eq_msb_cond, hb]; rfl
  rw [h1, h2, BitVec.toNat_and]
  have := Nat.and_le_right (n := x.toBitVec.toNat) (m := m.toBitVec.toNat)
  omega
theorem byT (x : Int32) : -128 ≤ (vp_nar .byte x).toInt ∧ (vp_nar .byte x).toInt ≤ 127 := by
  rw [vp_nar_byte, Int8.toInt_toInt32]
  have h1 := Int8.le_toInt x.toInt8
  have h2 := Int8.toInt_lt x.toInt8
  omega
/-! reads behind writes -/
theorem hi_wrI (h : Hp) (a k : Nat) (v : Int32) (a' k' : Nat) : hi (wrI h a k v) a' k' = if a' = a ∧ k' = k then v else hi h a' k' := rfl
theorem hiE {h h1 : Hp} {a k : Nat} {v : Int32} (e : wrI h a k v = h1) : hi h1 a k = v := by
  rw [← e, hi_wrI, if_pos ⟨rfl, rfl⟩]
theorem hiA {h h1 : Hp} {a k : Nat} {v : Int32} (e : wrI h a k v = h1) (a' k' : Nat) (n : a' ≠ a) : hi h1 a' k' = hi h a' k' := by
  rw [← e, hi_wrI, if_neg (fun q => n q.1)]
theorem hiK {h h1 : Hp} {a k : Nat} {v : Int32} (e : wrI h a k v = h1) (a' k' : Nat) (n : k' ≠ k) : hi h1 a' k' = hi h a' k' := by
  rw [← e, hi_wrI, if_neg (fun q => n q.2)]
theorem hiAA {h h1 : Hp} {a : Nat} {f : Nat → Int32} (e : wrA h a f = h1) (a' k' : Nat) (n : a' ≠ a) : hi h1 a' k' = hi h a' k' := by
  rw [← e]
  show upA (hi h) a f a' k' = _
  unfold upA
  rw [if_neg n]
theorem hiLL {h h1 : Hp} {a k : Nat} {v : Int64} (e : wrL h a k v = h1) (a' k' : Nat) : hi h1 a' k' = hi h a' k' := by
  rw [← e]; rfl
/-! what the class's cells keep to -/
def ckk : List (Nat × Nat × Int × Int) := [(0, 1, 0, 2000), (5, 3, 0, 404), (25, 3, 0, 404), (3, 2, 0, 5), (23, 2, 0, 5), (38, 1, 0, 39), (201, 2, 0, 20), (18, 5, 0, 401), (18, 6, 0, 2000), (207, 4, 0, 50), (0, 2, -2147483648, 2147483647)]
def cadr : List Nat := [0, 1, 3, 5, 18, 23, 25, 38, 201, 207, 209, 210]
def ncO (a : Nat) : Bool := decide (a < 226) && !(cadr.contains a)
def nc (a k : Nat) : Bool := decide (a < 226) && !(ckk.any (fun q => q.1 == a && q.2.1 == k)) && !(a == 209) && !(a == 210) && !(a == 1)
def IX (h : Hp) : Prop := (∀ q ∈ ckk, q.2.2.1 ≤ (hi h q.1 q.2.1).toInt ∧ (hi h q.1 q.2.1).toInt ≤ q.2.2.2) ∧ (∀ k, (hi h 209 k).toInt < 50) ∧ (∀ k, 0 ≤ (hi h 210 k).toInt ∧ (hi h 210 k).toInt < 50)
/-- the reference's cells are as in h0 -/
def kM (h0 h : Hp) : Prop := ∀ a k, 226 ≤ a → hi h a k = hi h0 a k ∧ hl h a k = hl h0 a k
/-- the tape, how much lies on it, the last fault's place -/
def kT (h0 h : Hp) : Prop := hi h 0 1 = hi h0 0 1 ∧ hi h 0 2 = hi h0 0 2 ∧ (∀ k, hi h 1 k = hi h0 1 k) ∧ ∀ k, hl h 19 k = hl h0 19 k
theorem kT.rf (h : Hp) : kT h h := ⟨rfl, rfl, fun _ => rfl, fun _ => rfl⟩
def J (h0 h : Hp) : Prop := IX h ∧ kM h0 h ∧ kT h0 h
theorem kM.rfl' (h : Hp) : kM h h := fun _ _ _ => ⟨rfl, rfl⟩
theorem ncO_nc {a k : Nat} (h : ncO a = true) : nc a k = true := by
  simp only [ncO, cadr, List.contains, List.elem, Bool.and_eq_true, decide_eq_true_eq, Bool.not_eq_true'] at h
  simp only [nc, ckk, List.any, Bool.and_eq_true, decide_eq_true_eq, Bool.not_eq_true', Bool.or_eq_false_iff, Bool.and_eq_false_iff]
  have n (m : Nat) (hm : (a == m) = false) : (m == a) = false := by
    simp only [beq_eq_false_iff_ne, ne_eq] at hm ⊢; exact fun q => hm q.symm
  split at h <;> try (exact absurd h.2 (by decide))
  split at h <;> try (exact absurd h.2 (by decide))
  split at h <;> try (exact absurd h.2 (by decide))
  split at h <;> try (exact absurd h.2 (by decide))
  split at h <;> try (exact absurd h.2 (by decide))
  split at h <;> try (exact absurd h.2 (by decide))
  split at h <;> try (exact absurd h.2 (by decide))
  split at h <;> try (exact absurd h.2 (by decide))
  split at h <;> try (exact absurd h.2 (by decide))
  split at h <;> try (exact absurd h.2 (by decide))
  split at h <;> try (exact absurd h.2 (by decide))
  split at h <;> try (exact absurd h.2 (by decide))
  simp_all
theorem JwI {h0 h h1 : Hp} {a k : Nat} {v : Int32} (e : wrI h a k v = h1) (j : J h0 h) (n : nc a k = true) : J h0 h1 := by
  subst e
  simp only [nc, Bool.and_eq_true, decide_eq_true_eq, Bool.not_eq_true', beq_eq_false_iff_ne, List.any_eq_false] at n
  obtain ⟨⟨⟨⟨n1, n2⟩, n3⟩, n4⟩, n5⟩ := n
  refine ⟨⟨fun q hq => ?_, fun k' => ?_, fun k' => ?_⟩, fun a' k' h' => ?_, ?_⟩
  · rw [hi_wrI, if_neg (fun z => n2 q hq (by simp [z.1, z.2]))]
    exact j.1.1 q hq
  · rw [hi_wrI, if_neg (fun z => n3 z.1.symm)]
    exact j.1.2.1 k'
  · rw [hi_wrI, if_neg (fun z => n4 z.1.symm)]
    exact j.1.2.2 k'
  · rw [hi_wrI, if_neg (fun z => by omega)]
    exact j.2.1 a' k' h'
  · refine ⟨?_, ?_, fun k' => ?_, fun k' => j.2.2.2.2.2 k'⟩
    · rw [hi_wrI, if_neg (fun z => n2 (0, 1, 0, 2000) (by decide) (by simp [← z.1, ← z.2]))]
      exact j.2.2.1
    · rw [hi_wrI, if_neg (fun z => n2 (0, 2, -2147483648, 2147483647) (by decide) (by simp [← z.1, ← z.2]))]
      exact j.2.2.2.1
    · rw [hi_wrI, if_neg (fun z => n5 z.1.symm)]
      exact j.2.2.2.2.1 k'
theorem JwL {h0 h h1 : Hp} {a k : Nat} {v : Int64} (e : wrL h a k v = h1) (j : J h0 h) (n : a < 226 ∧ a ≠ 19) : J h0 h1 := by
  subst e
  refine ⟨j.1, fun a' k' h' => ⟨(j.2.1 a' k' h').1, ?_⟩, j.2.2.1, j.2.2.2.1, j.2.2.2.2.1, fun k' => ?_⟩
  · show up2 (hl h) a k v a' k' = _
    unfold up2
    rw [if_neg (fun z => by omega)]
    exact (j.2.1 a' k' h').2
  · show up2 (hl h) a k v 19 k' = _
    unfold up2
    rw [if_neg (fun z => n.2 z.1.symm)]
    exact j.2.2.2.2.2 k'
theorem JwA {h0 h h1 : Hp} {a : Nat} {f : Nat → Int32} (e : wrA h a f = h1) (j : J h0 h) (n : ncO a = true) : J h0 h1 := by
  have hA (a' k' : Nat) (z : a' ≠ a) : hi h1 a' k' = hi h a' k' := hiAA e a' k' z
  have hne (a' : Nat) (z : ncO a' = false) : a' ≠ a := fun q => by rw [q, n] at z; cases z
  refine ⟨⟨fun q hq => ?_, fun k' => ?_, fun k' => ?_⟩, fun a' k' h' => ⟨?_, ?_⟩, ?_⟩
  · have : ∀ q ∈ ckk, ncO q.1 = false := by decide
    rw [hA _ _ (hne _ (this q hq))]
    exact j.1.1 q hq
  · rw [hA _ _ (hne _ (by decide))]
    exact j.1.2.1 k'
  · rw [hA _ _ (hne _ (by decide))]
    exact j.1.2.2 k'
  · rw [hA _ _ (fun q => by
      rw [← q] at n
      simp only [ncO, Bool.and_eq_true, decide_eq_true_eq] at n
      omega)]
    exact (j.2.1 a' k' h').1
  · rw [← e]
    exact (j.2.1 a' k' h').2
  · refine ⟨?_, ?_, fun k' => ?_, fun k' => by rw [← e]; exact j.2.2.2.2.2 k'⟩
    · rw [hA _ _ (hne _ (by decide))]
      exact j.2.2.1
    · rw [hA _ _ (hne _ (by decide))]
      exact j.2.2.2.1
    · rw [hA _ _ (hne _ (by decide))]
      exact j.2.2.2.2.1 k'
theorem JwC {h0 h h1 : Hp} {a k : Nat} {v : Int32} (lo up : Int) (e : wrI h a k v = h1) (j : J h0 h) (m : (a, k, lo, up) ∈ ckk) (r : lo ≤ v.toInt ∧ v.toInt ≤ up) (zz : a ≠ 0) : J h0 h1 := by
  subst e
  have hu : ∀ q ∈ ckk, ∀ q' ∈ ckk, q'.1 = q.1 → q'.2.1 = q.2.1 → q' = q := by decide
  have ha : ∀ q ∈ ckk, q.1 ≠ 209 ∧ q.1 ≠ 210 ∧ q.1 < 226 := by decide
  have hb : ∀ q ∈ ckk, q.1 ≠ 1 := by decide
  have ha := ha _ m
  refine ⟨⟨fun q hq => ?_, fun k' => ?_, fun k' => ?_⟩, fun a' k' h' => ?_, ?_⟩
  · rw [hi_wrI]
    by_cases z : q.1 = a ∧ q.2.1 = k
    · rw [if_pos z, hu _ m _ hq z.1 z.2]
      exact r
    · rw [if_neg z]
      exact j.1.1 q hq
  · rw [hi_wrI, if_neg (fun z => ha.1 z.1.symm)]
    exact j.1.2.1 k'
  · rw [hi_wrI, if_neg (fun z => ha.2.1 z.1.symm)]
    exact j.1.2.2 k'
  · rw [hi_wrI, if_neg (fun z => by have := ha.2.2; simp only at this; omega)]
    exact j.2.1 a' k' h'
  · refine ⟨?_, ?_, fun k' => ?_, fun k' => j.2.2.2.2.2 k'⟩
    · rw [hi_wrI, if_neg (fun z => zz z.1.symm)]
      exact j.2.2.1
    · rw [hi_wrI, if_neg (fun z => zz z.1.symm)]
      exact j.2.2.2.1
    · rw [hi_wrI, if_neg (fun z => (hb _ m) z.1.symm)]
      exact j.2.2.2.2.1 k'
theorem Jw209 {h0 h h1 : Hp} {k : Nat} {v : Int32} (e : wrI h 209 k v = h1) (j : J h0 h) (r : v.toInt < 50) : J h0 h1 := by
  subst e
  have ha : ∀ q ∈ ckk, q.1 ≠ 209 ∧ q.1 ≠ 210 ∧ q.1 < 226 := by decide
  refine ⟨⟨fun q hq => ?_, fun k' => ?_, fun k' => ?_⟩, fun a' k' h' => ?_, ?_⟩
  · rw [hi_wrI, if_neg (fun z => (ha q hq).1 z.1)]
    exact j.1.1 q hq
  · rw [hi_wrI]
    by_cases z : 209 = 209 ∧ k' = k
    · rw [if_pos z]; exact r
    · rw [if_neg z]; exact j.1.2.1 k'
  · rw [hi_wrI, if_neg (fun z => absurd z.1 (by decide))]
    exact j.1.2.2 k'
  · rw [hi_wrI, if_neg (fun z => by omega)]
    exact j.2.1 a' k' h'
  · refine ⟨?_, ?_, fun k' => ?_, fun k' => j.2.2.2.2.2 k'⟩
    · rw [hi_wrI, if_neg (fun z => absurd z.1 (by decide))]
      exact j.2.2.1
    · rw [hi_wrI, if_neg (fun z => absurd z.1 (by decide))]
      exact j.2.2.2.1
    · rw [hi_wrI, if_neg (fun z => absurd z.1 (by decide))]
      exact j.2.2.2.2.1 k'
theorem Jw210 {h0 h h1 : Hp} {k : Nat} {v : Int32} (e : wrI h 210 k v = h1) (j : J h0 h) (r : 0 ≤ v.toInt ∧ v.toInt < 50) : J h0 h1 := by
  subst e
  have ha : ∀ q ∈ ckk, q.1 ≠ 209 ∧ q.1 ≠ 210 ∧ q.1 < 226 := by decide
  refine ⟨⟨fun q hq => ?_, fun k' => ?_, fun k' => ?_⟩, fun a' k' h' => ?_, ?_⟩
  · rw [hi_wrI, if_neg (fun z => (ha q hq).2.1 z.1)]
    exact j.1.1 q hq
  · rw [hi_wrI, if_neg (fun z => absurd z.1 (by decide))]
    exact j.1.2.1 k'
  · rw [hi_wrI]
    by_cases z : 210 = 210 ∧ k' = k
    · rw [if_pos z]; exact r
    · rw [if_neg z]; exact j.1.2.2 k'
  · rw [hi_wrI, if_neg (fun z => by omega)]
    exact j.2.1 a' k' h'
  · refine ⟨?_, ?_, fun k' => ?_, fun k' => j.2.2.2.2.2 k'⟩
    · rw [hi_wrI, if_neg (fun z => absurd z.1 (by decide))]
      exact j.2.2.1
    · rw [hi_wrI, if_neg (fun z => absurd z.1 (by decide))]
      exact j.2.2.2.1
    · rw [hi_wrI, if_neg (fun z => absurd z.1 (by decide))]
      exact j.2.2.2.2.1 k'
theorem cR {h0 h : Hp} (a k : Nat) (lo up : Int) (m : (a, k, lo, up) ∈ ckk) (j : J h0 h) : lo ≤ (hi h a k).toInt ∧ (hi h a k).toInt ≤ up := j.1.1 _ m
theorem cR209 {h0 h : Hp} (k : Nat) (j : J h0 h) : (hi h 209 k).toInt < 50 := j.1.2.1 k
theorem cR210 {h0 h : Hp} (k : Nat) (j : J h0 h) : 0 ≤ (hi h 210 k).toInt ∧ (hi h 210 k).toInt < 50 := j.1.2.2 k
/-! cells by what they are -/
theorem scO_all : ∀ a, a < 275 → shp a = .inl 8 → (ncO a && ncO (a + 1) && ncO (a + 2) && ncO (a + 3)) = true := by decide +kernel
theorem fdO_all : ∀ a, a < 275 → shp a = .inl 3 → ncO a = true := by decide +kernel
theorem lwO_all : ∀ a, a < 275 → shp a = .inl 4 → ((a == 5 || a == 25) && ncO (a + 1) && ncO (a + 2) && ncO (a + 3)) = true := by decide +kernel
theorem bdO_all : ∀ a, a < 275 → shp a = .inl 0 → ((a == 3 || a == 23) && ncO (a + 6)) = true := by decide +kernel
theorem scO {a : Nat} (h : Sc a) : ncO a = true ∧ ncO (a + 1) = true ∧ ncO (a + 2) = true ∧ ncO (a + 3) = true := by
  have := scO_all a (by have := h.2.2.2.2.1; omega) h.1
  simp only [Bool.and_eq_true] at this
  exact ⟨this.1.1.1, this.1.1.2, this.1.2, this.2⟩
theorem fdO {a : Nat} (h : IsFd a) : ncO a = true := fdO_all a h.2 h.1
theorem lwO {a : Nat} (h : IsLw a) : (a = 5 ∨ a = 25) ∧ ncO (a + 1) = true ∧ ncO (a + 2) = true ∧ ncO (a + 3) = true := by
  have := lwO_all a (by have := h.2.2.2.2.1; omega) h.1
  simp only [Bool.and_eq_true, Bool.or_eq_true, beq_iff_eq] at this
  exact ⟨this.1.1.1, this.1.1.2, this.1.2, this.2⟩
theorem bdO {a : Nat} (h : IsBd a) : (a = 3 ∨ a = 23) ∧ ncO (a + 6) = true := by
  have := bdO_all a (by have := h.2.2.2.2.1; omega) h.1
  simp only [Bool.and_eq_true, Bool.or_eq_true, beq_iff_eq] at this
  exact ⟨this.1, this.2⟩
theorem bdN {a : Nat} (k : Nat) (h : IsBd a) (hk : k ≠ 2) : nc a k = true := by
  rcases (bdO h).1 with rfl | rfl
  · simp [nc, ckk]; omega
  · simp [nc, ckk]; omega
theorem lwC {a : Nat} (h : IsLw a) : (a, 3, 0, 404) ∈ ckk := by
  rcases (lwO h).1 with rfl | rfl <;> decide
theorem bdC {a : Nat} (h : IsBd a) : (a, 2, 0, 5) ∈ ckk := by
  rcases (bdO h).1 with rfl | rfl <;> decide
theorem lwNz {a : Nat} (h : IsLw a) : a ≠ 0 := by
  rcases (lwO h).1 with rfl | rfl <;> decide
theorem bdNz {a : Nat} (h : IsBd a) : a ≠ 0 := by
  rcases (bdO h).1 with rfl | rfl <;> decide
end
section
theorem Ok.leV {α : Type} {a b : Int32} {x y : Int} {A B : Option α} {P : α → Prop} (ha : a.toInt = x) (hb : b.toInt = y) (h1 : x ≤ y → Ok A P) (h2 : y < x → Ok B P) : Ok (if a ≤ b then A else B) P := by
  subst ha hb
  exact Ok.le h1 h2
theorem Ok.ltV {α : Type} {a b : Int32} {x y : Int} {A B : Option α} {P : α → Prop} (ha : a.toInt = x) (hb : b.toInt = y) (h1 : x < y → Ok A P) (h2 : y ≤ x → Ok B P) : Ok (if a < b then A else B) P := by
  subst ha hb
  exact Ok.lt h1 h2
theorem Ok.eqV {α : Type} {a b : Int32} {x y : Int} {A B : Option α} {P : α → Prop} (ha : a.toInt = x) (hb : b.toInt = y) (h1 : x = y → Ok A P) (h2 : x ≠ y → Ok B P) : Ok (if a = b then A else B) P := by
  subst ha hb
  exact Ok.eq h1 h2
theorem adV (a b : Int32) {x y : Int} (ha : a.toInt = x) (hb : b.toInt = y) : -2147483648 ≤ x + y → x + y ≤ 2147483647 → (a + b).toInt = x + y := by
  subst ha hb
  exact adT a b
theorem adG {a b c : Int32} (e : a + b = c) {x y : Int} (ha : a.toInt = x) (hb : b.toInt = y) : -2147483648 ≤ x + y → x + y ≤ 2147483647 → c.toInt = x + y := by
  subst ha hb e
  exact adT a b
theorem sbG {a b c : Int32} (e : a - b = c) {x y : Int} (ha : a.toInt = x) (hb : b.toInt = y) : -2147483648 ≤ x - y → x - y ≤ 2147483647 → c.toInt = x - y := by
  subst ha hb e
  exact sbT a b
theorem sbV (a b : Int32) {x y : Int} (ha : a.toInt = x) (hb : b.toInt = y) : -2147483648 ≤ x - y → x - y ≤ 2147483647 → (a - b).toInt = x - y := by
  subst ha hb
  exact sbT a b
/-! the class's methods come to their end: helps -/
theorem boT (x : Int32) : 0 ≤ (vp_nar .boolean x).toInt ∧ (vp_nar .boolean x).toInt ≤ 1 := by
  have e : vp_nar .boolean x = x &&& 1 := rfl
  rw [e]
  exact and_rg x 1 1 (by decide) (by decide)
theorem shr3T (x : Int32) : (x >>> ((3 : Int32) &&& 31)).toInt = x.toInt / 8 := by
  have e : ((3 : Int32) &&& 31) = 3 := by decide
  rw [e]
  show (Int32.toBitVec (x >>> 3)).toInt = _
  rw [Int32.toBitVec_shiftRight]
  have e2 : (BitVec.smod (Int32.toBitVec 3) 32) = 3#32 := by decide
  rw [e2]
  show (BitVec.sshiftRight x.toBitVec (3#32).toNat).toInt = _
  rw [BitVec.toInt_sshiftRight]
  show x.toInt >>> 3 = _
  rw [Int.shiftRight_eq_div_pow]
  rfl
theorem clampT {N : Int32} (hN : 0 ≤ N.toInt) (x : Int32) : 0 ≤ (if 0 < (if N < x then N else x) then (if N < x then N else x) else 0 : Int32).toInt ∧ (if 0 < (if N < x then N else x) then (if N < x then N else x) else 0 : Int32).toInt ≤ N.toInt := by
  have e0 : (0 : Int32).toInt = 0 := by decide
  have hm : (if N < x then N else x).toInt ≤ N.toInt := by
    by_cases k : N < x
    · rw [if_pos k]; exact Int.le_refl _
    · rw [if_neg k]
      exact Int.not_lt.mp (fun q => k (Int32.lt_iff_toInt_lt.mpr q))
  generalize (if N < x then N else x) = y at hm
  by_cases k : 0 < y
  · rw [if_pos k]
    have := Int32.lt_iff_toInt_lt.mp k
    omega
  · rw [if_neg k]
    omega
theorem miT {N : Int32} (x : Int32) : (if N < x then N else x).toInt ≤ N.toInt := by
  by_cases k : N < x
  · rw [if_pos k]; exact Int.le_refl _
  · rw [if_neg k]
    exact Int.not_lt.mp (fun q => k (Int32.lt_iff_toInt_lt.mpr q))
theorem rmT (x : Int32) (n : Int32) (N : Int) (hN : n.toInt = N) (h1 : 1 < N) (h0 : 0 ≤ x.toInt) : (x - x / n * n).toInt = x.toInt % N := by
  have hd : (x / n).toInt = x.toInt / N := by
    have e1 : (-1 : Int32).toInt = -1 := by decide
    have hne : n ≠ -1 := fun q => by rw [q] at hN; omega
    rw [Int32.toInt_div_of_ne_right _ _ hne, hN, Int.tdiv_eq_ediv_of_nonneg h0]
  have hr := rgT x
  have hm : (x / n * n).toInt = x.toInt / N * N := by
    rw [Int32.toInt_mul, hd, hN]
    have h2 := Int.ediv_mul_le x.toInt (b := N) (by omega)
    have h3 : 0 ≤ x.toInt / N * N := Int.mul_nonneg (Int.ediv_nonneg h0 (by omega)) (by omega)
    exact bmT (by omega) (by omega)
  rw [Int32.toInt_sub, hm]
  have h4 := Int.emod_add_mul_ediv x.toInt N
  have h5 : x.toInt / N * N = N * (x.toInt / N) := Int.mul_comm _ _
  have h6 := Int.emod_nonneg x.toInt (b := N) (by omega)
  have h7 := Int.emod_lt_of_pos x.toInt (b := N) (by omega)
  have h8 : 0 ≤ N * (x.toInt / N) := Int.mul_nonneg (by omega) (Int.ediv_nonneg h0 (by omega))
  rw [show x.toInt - x.toInt / N * N = x.toInt % N by omega]
  exact bmT (by omega) (by omega)
theorem rmI (x n : Int32) (N : Int) (hN : n.toInt = N) (h1 : 1 < N) : 0 ≤ x.toInt → (x - x / n * n).toInt = x.toInt % N := fun h0 => rmT x n N hN h1 h0
theorem rmA (x y : Int32) : (x - x / y * y).toInt = x.toInt.tmod y.toInt := by
  rw [Int32.toInt_sub, Int32.toInt_mul, Int32.toInt_div, Int.bmod_mul_bmod, Int.sub_bmod_bmod]
  have h1 := Int.tmod_add_tdiv_mul x.toInt y.toInt
  rw [show x.toInt - x.toInt.tdiv y.toInt * y.toInt = x.toInt.tmod y.toInt by omega]
  have h2 := rgT x
  have h3 : (x.toInt.tmod y.toInt).natAbs ≤ x.toInt.natAbs := by
    rw [Int.natAbs_tmod]
    exact Nat.mod_le _ _
  have h4 : 0 ≤ x.toInt → 0 ≤ x.toInt.tmod y.toInt := fun q => Int.tmod_nonneg _ q
  have h5 : x.toInt ≤ 0 → x.toInt.tmod y.toInt ≤ 0 := fun q => by
    have := Int.tmod_nonneg y.toInt (show 0 ≤ -x.toInt by omega)
    rw [Int.neg_tmod] at this
    omega
  exact bmT (by omega) (by omega)
theorem rm40 (x : Int32) (h0 : 0 ≤ x.toInt) : 0 ≤ (x - x / 40 * 40).toInt ∧ (x - x / 40 * 40).toInt ≤ 39 := by
  rw [rmT x 40 40 (by decide) (by decide) h0]
  omega
theorem lit_m15 : (-15 : Int32).toInt = -15 := by decide
theorem lit_m14 : (-14 : Int32).toInt = -14 := by decide
theorem lit_m13 : (-13 : Int32).toInt = -13 := by decide
theorem lit_m12 : (-12 : Int32).toInt = -12 := by decide
theorem lit_m11 : (-11 : Int32).toInt = -11 := by decide
theorem lit_m10 : (-10 : Int32).toInt = -10 := by decide
theorem lit_m9 : (-9 : Int32).toInt = -9 := by decide
theorem lit_m2 : (-2 : Int32).toInt = -2 := by decide
theorem lit_m1 : (-1 : Int32).toInt = -1 := by decide
theorem lit_0 : (0 : Int32).toInt = 0 := by decide
theorem lit_1 : (1 : Int32).toInt = 1 := by decide
theorem lit_2 : (2 : Int32).toInt = 2 := by decide
theorem lit_3 : (3 : Int32).toInt = 3 := by decide
theorem lit_4 : (4 : Int32).toInt = 4 := by decide
theorem lit_5 : (5 : Int32).toInt = 5 := by decide
theorem lit_6 : (6 : Int32).toInt = 6 := by decide
theorem lit_7 : (7 : Int32).toInt = 7 := by decide
theorem lit_8 : (8 : Int32).toInt = 8 := by decide
theorem lit_9 : (9 : Int32).toInt = 9 := by decide
theorem lit_10 : (10 : Int32).toInt = 10 := by decide
theorem lit_11 : (11 : Int32).toInt = 11 := by decide
theorem lit_12 : (12 : Int32).toInt = 12 := by decide
theorem lit_13 : (13 : Int32).toInt = 13 := by decide
theorem lit_14 : (14 : Int32).toInt = 14 := by decide
theorem lit_15 : (15 : Int32).toInt = 15 := by decide
theorem lit_16 : (16 : Int32).toInt = 16 := by decide
theorem lit_17 : (17 : Int32).toInt = 17 := by decide
theorem lit_18 : (18 : Int32).toInt = 18 := by decide
theorem lit_19 : (19 : Int32).toInt = 19 := by decide
theorem lit_20 : (20 : Int32).toInt = 20 := by decide
theorem lit_22 : (22 : Int32).toInt = 22 := by decide
theorem lit_25 : (25 : Int32).toInt = 25 := by decide
theorem lit_30 : (30 : Int32).toInt = 30 := by decide
theorem lit_32 : (32 : Int32).toInt = 32 := by decide
theorem lit_40 : (40 : Int32).toInt = 40 := by decide
theorem lit_41 : (41 : Int32).toInt = 41 := by decide
theorem lit_42 : (42 : Int32).toInt = 42 := by decide
theorem lit_43 : (43 : Int32).toInt = 43 := by decide
theorem lit_44 : (44 : Int32).toInt = 44 := by decide
theorem lit_45 : (45 : Int32).toInt = 45 := by decide
theorem lit_46 : (46 : Int32).toInt = 46 := by decide
theorem lit_47 : (47 : Int32).toInt = 47 := by decide
theorem lit_48 : (48 : Int32).toInt = 48 := by decide
theorem lit_49 : (49 : Int32).toInt = 49 := by decide
theorem lit_50 : (50 : Int32).toInt = 50 := by decide
theorem lit_51 : (51 : Int32).toInt = 51 := by decide
theorem lit_52 : (52 : Int32).toInt = 52 := by decide
theorem lit_53 : (53 : Int32).toInt = 53 := by decide
theorem lit_54 : (54 : Int32).toInt = 54 := by decide
theorem lit_55 : (55 : Int32).toInt = 55 := by decide
theorem lit_56 : (56 : Int32).toInt = 56 := by decide
theorem lit_57 : (57 : Int32).toInt = 57 := by decide
theorem lit_58 : (58 : Int32).toInt = 58 := by decide
theorem lit_59 : (59 : Int32).toInt = 59 := by decide
theorem lit_60 : (60 : Int32).toInt = 60 := by decide
theorem lit_61 : (61 : Int32).toInt = 61 := by decide
theorem lit_97 : (97 : Int32).toInt = 97 := by decide
theorem lit_100 : (100 : Int32).toInt = 100 := by decide
theorem lit_122 : (122 : Int32).toInt = 122 := by decide
theorem lit_256 : (256 : Int32).toInt = 256 := by decide
theorem lit_400 : (400 : Int32).toInt = 400 := by decide
theorem lit_401 : (401 : Int32).toInt = 401 := by decide
theorem lit_404 : (404 : Int32).toInt = 404 := by decide
theorem lit_2000 : (2000 : Int32).toInt = 2000 := by decide
end
section
/-! the class comes to its end, 1 -/
set_option maxRecDepth 100000 in
set_option maxHeartbeats 4000000 in
theorem sfW_X3_lay_17 {h0 : Hp} : ∀ (n : Nat), (∀ (h : Hp) (a : Nat) (l1 : Int32) (l2 : Int32) (l3 : Int32), J h0 h → IsFd a → (1 : Int) < n → (1 : Int) + ((hi h a 1).toInt - l3.toInt) < n → Ok (W_X3_lay n 17 h a l1 l2 l3) (fun q => J h0 q ∧ True)) := by
  intro n
  induction n with
  | zero => intro h a l1 l2 l3 j hs hB hM; exfalso; omega
  | succ n ih =>
    intro h a l1 l2 l3 j hs hB hM
    rw [u_X3_lay]
    refine Ok.pos rfl ?_
    have f1 := rgT (hi h a 1)
    have f2 := rgT (l3)
    refine Ok.le (fun c3 => ?_) (fun c3 => ?_)
    · generalize eg4 : wrI h a 2 (((1 : Int32) <<< ((((hi h a 0) * (hi h a 1)) : Int32) &&& 31)) - 1) = g4
      have jg4 : J h0 g4 := JwI eg4 j (ncO_nc (fdO hs))
      exact Ok.ret ⟨jg4, trivial⟩
    · generalize eg5 : wrI h a 3 (((hi h a 3) : Int32) ||| (((1 : Int32) <<< ((((hi h a 0) * l3) : Int32) &&& 31)) : Int32)) = g5
      have jg5 : J h0 g5 := JwI eg5 j (ncO_nc (fdO hs))
      have f6 := lit_1
      first | have f7 := adT (l3) (1) (by omega) (by omega) | have f7 := adT (l3) (1)
      have f8 := rgT (l3 + 1)
      have f9 := congrArg Int32.toInt (hiK eg5 a 1 (by decide))
      exact ih g5 a l1 l2 (l3 + 1) jg5 hs  (by omega) (by omega)
set_option maxRecDepth 100000 in
set_option maxHeartbeats 4000000 in
theorem sf_X3_lay {h0 : Hp} (n : Nat) (h : Hp) (a : Nat) (x1 : Int32) (x2 : Int32) (hn : 17179869185 ≤ n) (j : J h0 h) (hs : IsFd a) : Ok (F_X3_lay n h a x1 x2) (fun q => J h0 q ∧ True) := by
  unfold F_X3_lay
  generalize eg1 : wrI h a 0 x1 = g1
  have jg1 : J h0 g1 := JwI eg1 j (ncO_nc (fdO hs))
  generalize eg2 : wrI g1 a 1 x2 = g2
  have jg2 : J h0 g2 := JwI eg2 jg1 (ncO_nc (fdO hs))
  generalize eg3 : wrI g2 a 3 0 = g3
  have jg3 : J h0 g3 := JwI eg3 jg2 (ncO_nc (fdO hs))
  have f4 := lit_0
  have f5 := congrArg Int32.toInt (hiK eg3 a 1 (by decide))
  have f6 := congrArg Int32.toInt (hiE eg2)
  have f7 := rgT (x2)
  exact sfW_X3_lay_17 (h0 := h0) n g3 a x1 x2 0 jg3 hs  (by omega) (by omega)
set_option maxRecDepth 100000 in
set_option maxHeartbeats 4000000 in
theorem sf_X4_begin {h0 : Hp} (n : Nat) (h : Hp) (a : Nat) (x1 : Int32) (hn : 1 ≤ n) (j : J h0 h) (hs : IsLw a) : Ok (F_X4_begin n h a x1) (fun q => J h0 q ∧ True) := by
  unfold F_X4_begin
  have f1 := rgT (x1)
  have f2 := lit_0
  refine Ok.lt (fun c3 => ?_) (fun c3 => ?_)
  · exact Ok.ret ⟨j, trivial⟩
  · have f4 := lit_4
    refine Ok.le (fun c5 => ?_) (fun c5 => ?_)
    · exact Ok.ret ⟨j, trivial⟩
    · refine Ok.chk (ixT (by omega) (by omega)) (fun c6 => ?_)
      generalize eg7 : wrI h (a + 2) (Int32.toNatClampNeg x1) (hi h a 3) = g7
      have jg7 : J h0 g7 := JwI eg7 j (ncO_nc (lwO hs).2.2.1)
      exact Ok.ret ⟨jg7, trivial⟩
set_option maxRecDepth 100000 in
set_option maxHeartbeats 4000000 in
theorem sf_X4_add {h0 : Hp} (n : Nat) (h : Hp) (a : Nat) (x1 : Int32) (hn : 1 ≤ n) (j : J h0 h) (hs : IsLw a) : Ok (F_X4_add n h a x1) (fun q => J h0 q ∧ True) := by
  unfold F_X4_add
  have f1 := lit_404
  have f2 := cR a 3 0 404 (lwC hs) j
  have f3 := rgT (hi h a 3)
  refine Ok.le (fun c4 => ?_) (fun c4 => ?_)
  · exact Ok.ret ⟨j, trivial⟩
  · refine Ok.chk (ixT (by omega) (by omega)) (fun c5 => ?_)
    generalize eg6 : wrI h (a + 1) (Int32.toNatClampNeg (hi h a 3)) x1 = g6
    have jg6 : J h0 g6 := JwI eg6 j (ncO_nc (lwO hs).2.1)
    generalize eg7 : wrI g6 a 3 ((hi g6 a 3) + 1) = g7
    have f8 := congrArg Int32.toInt (hiA eg6 a 3 (by omega))
    have f9 := rgT (hi g6 a 3)
    have f10 := lit_1
    first | have f11 := adT (hi g6 a 3) (1) (by omega) (by omega) | have f11 := adT (hi g6 a 3) (1)
    have f12 := rgT ((hi g6 a 3) + 1)
    have jg7 : J h0 g7 := JwC 0 404 eg7 jg6 (lwC hs) ⟨by omega, by omega⟩ (lwNz hs)
    exact Ok.ret ⟨jg7, trivial⟩
set_option maxRecDepth 100000 in
set_option maxHeartbeats 4000000 in
theorem sf_X4_clear {h0 : Hp} (n : Nat) (h : Hp) (a : Nat) (hn : 1 ≤ n) (j : J h0 h) (hs : IsLw a) : Ok (F_X4_clear n h a) (fun q => J h0 q ∧ True) := by
  unfold F_X4_clear
  generalize eg1 : wrI h a 3 0 = g1
  have f2 := lit_0
  have jg1 : J h0 g1 := JwC 0 404 eg1 j (lwC hs) ⟨by omega, by omega⟩ (lwNz hs)
  refine Ok.bind (sf_X4_begin (h0 := h0) n g1 a 0 (by omega) jg1 hs) (fun q1 hq1 => ?_)
  obtain ⟨jq1, xq1⟩ := hq1
  refine Ok.bind (sf_X4_begin (h0 := h0) n q1 a 2 (by omega) jq1 hs) (fun q3 hq3 => ?_)
  obtain ⟨jq3, xq3⟩ := hq3
  refine Ok.bind (sf_X4_add (h0 := h0) n q3 a 0 (by omega) jq3 hs) (fun q5 hq5 => ?_)
  obtain ⟨jq5, xq5⟩ := hq5
  refine Ok.bind (sf_X4_add (h0 := h0) n q5 a (-15) (by omega) jq5 hs) (fun q7 hq7 => ?_)
  obtain ⟨jq7, xq7⟩ := hq7
  refine Ok.bind (sf_X4_begin (h0 := h0) n q7 a 1 (by omega) jq7 hs) (fun q9 hq9 => ?_)
  obtain ⟨jq9, xq9⟩ := hq9
  refine Ok.bind (sf_X4_begin (h0 := h0) n q9 a 3 (by omega) jq9 hs) (fun q11 hq11 => ?_)
  obtain ⟨jq11, xq11⟩ := hq11
  refine Ok.bind (sf_X4_add (h0 := h0) n q11 a 1 (by omega) jq11 hs) (fun q13 hq13 => ?_)
  obtain ⟨jq13, xq13⟩ := hq13
  refine Ok.bind (sf_X4_add (h0 := h0) n q13 a (-15) (by omega) jq13 hs) (fun q15 hq15 => ?_)
  obtain ⟨jq15, xq15⟩ := hq15
  exact Ok.ret ⟨jq15, trivial⟩
set_option maxRecDepth 100000 in
set_option maxHeartbeats 4000000 in
theorem sf_X0_clear {h0 : Hp} (n : Nat) (h : Hp) (a : Nat) (hn : 17179869185 ≤ n) (j : J h0 h) (hs : IsBd a) : Ok (F_X0_clear n h a) (fun q => J h0 q ∧ True) := by
  unfold F_X0_clear
  refine Ok.bind (sf_X3_lay (h0 := h0) n h (a + 1) 4 4 (by omega) j hs.2.1) (fun q1 hq1 => ?_)
  obtain ⟨jq1, xq1⟩ := hq1
  refine Ok.bind (sf_X4_clear (h0 := h0) n q1 (a + 2) (by omega) jq1 hs.2.2.1) (fun q3 hq3 => ?_)
  obtain ⟨jq3, xq3⟩ := hq3
  generalize eg1 : wrI q3 a 2 0 = g1
  have f2 := lit_0
  have jg1 : J h0 g1 := JwC 0 5 eg1 jq3 (bdC hs) ⟨by omega, by omega⟩ (bdNz hs)
  generalize eg3 : wrI g1 a 3 0 = g3
  have jg3 : J h0 g3 := JwI eg3 jg1 (bdN 3 hs (by decide))
  generalize eg4 : wrI g3 a 4 0 = g4
  have jg4 : J h0 g4 := JwI eg4 jg3 (bdN 4 hs (by decide))
  exact Ok.ret ⟨jg4, trivial⟩
set_option maxRecDepth 100000 in
set_option maxHeartbeats 4000000 in
theorem sfW_J7_fill_5_5 {h0 : Hp} : ∀ (n : Nat), (∀ (h : Hp) (b1 : Nat) (l1 : Int32) (l2 : Int32) (l3 : Int32), J h0 h → ncO b1 = true → 0 ≤ l2.toInt → l3.toInt = 5 → (1 : Int) < n → (1 : Int) + (5 - l2.toInt) < n → Ok (W_J7_fill_5 n 5 h b1 l1 l2 l3) (fun q => J h0 q ∧ True)) := by
  intro n
  induction n with
  | zero => intro h b1 l1 l2 l3 j p0 i0 i1 hB hM; exfalso; omega
  | succ n ih =>
    intro h b1 l1 l2 l3 j p0 i0 i1 hB hM
    rw [u_J7_fill_5]
    refine Ok.pos rfl ?_
    have f1 := rgT (l3)
    have f2 := rgT (l2)
    refine Ok.le (fun c3 => ?_) (fun c3 => ?_)
    · exact Ok.ret ⟨j, trivial⟩
    · refine Ok.chk (ixT (by omega) (by omega)) (fun c4 => ?_)
      generalize eg5 : wrI h b1 (Int32.toNatClampNeg l2) l1 = g5
      have jg5 : J h0 g5 := JwI eg5 j (ncO_nc p0)
      have f6 := lit_1
      first | have f7 := adT (l2) (1) (by omega) (by omega) | have f7 := adT (l2) (1)
      have f8 := rgT (l2 + 1)
      exact ih g5 b1 l1 (l2 + 1) l3 jg5 p0 (by omega) (by omega) (by omega) (by omega)
set_option maxRecDepth 100000 in
set_option maxHeartbeats 4000000 in
theorem sf_J7_fill_5 {h0 : Hp} (n : Nat) (h : Hp) (b1 : Nat) (x2 : Int32) (hn : 17179869185 ≤ n) (j : J h0 h) (p0 : ncO b1 = true) : Ok (F_J7_fill_5 n h b1 x2) (fun q => J h0 q ∧ True) := by
  unfold F_J7_fill_5
  have f1 := lit_0
  have f2 := lit_5
  exact sfW_J7_fill_5_5 (h0 := h0) n h b1 x2 0 5 j p0 (by omega) (by omega) (by omega) (by omega)
set_option maxRecDepth 100000 in
set_option maxHeartbeats 4000000 in
theorem sf_X8_clear {h0 : Hp} (n : Nat) (h : Hp) (a : Nat) (hn : 17179869185 ≤ n) (j : J h0 h) (hs : Sc a) : Ok (F_X8_clear n h a) (fun q => J h0 q ∧ True) := by
  unfold F_X8_clear
  generalize eg1 : wrI h a 0 0 = g1
  have jg1 : J h0 g1 := JwI eg1 j (ncO_nc (scO hs).1)
  generalize eg2 : wrI g1 a 1 0 = g2
  have jg2 : J h0 g2 := JwI eg2 jg1 (ncO_nc (scO hs).1)
  generalize eg3 : wrI g2 a 2 0 = g3
  have jg3 : J h0 g3 := JwI eg3 jg2 (ncO_nc (scO hs).1)
  generalize eg4 : wrI g3 a 3 0 = g4
  have jg4 : J h0 g4 := JwI eg4 jg3 (ncO_nc (scO hs).1)
  have f5 := lit_0
  refine Ok.bind (sf_J7_fill_5 (h0 := h0) n g4 (a + 3) 0 (by omega) jg4 (scO hs).2.2.2) (fun q1 hq1 => ?_)
  obtain ⟨jq1, xq1⟩ := hq1
  exact Ok.ret ⟨jq1, trivial⟩
set_option maxRecDepth 100000 in
set_option maxHeartbeats 4000000 in
theorem sfW_J7_fill_25_5 {h0 : Hp} : ∀ (n : Nat), (∀ (h : Hp) (b1 : Nat) (l1 : Int32) (l2 : Int32) (l3 : Int32), J h0 h → ncO b1 = true → 0 ≤ l2.toInt → l3.toInt = 25 → (1 : Int) < n → (1 : Int) + (25 - l2.toInt) < n → Ok (W_J7_fill_25 n 5 h b1 l1 l2 l3) (fun q => J h0 q ∧ True)) := by
  intro n
  induction n with
  | zero => intro h b1 l1 l2 l3 j p0 i0 i1 hB hM; exfalso; omega
  | succ n ih =>
    intro h b1 l1 l2 l3 j p0 i0 i1 hB hM
    rw [u_J7_fill_25]
    refine Ok.pos rfl ?_
    have f1 := rgT (l3)
    have f2 := rgT (l2)
    refine Ok.le (fun c3 => ?_) (fun c3 => ?_)
    · exact Ok.ret ⟨j, trivial⟩
    · refine Ok.chk (ixT (by omega) (by omega)) (fun c4 => ?_)
      generalize eg5 : wrI h b1 (Int32.toNatClampNeg l2) l1 = g5
      have jg5 : J h0 g5 := JwI eg5 j (ncO_nc p0)
      have f6 := lit_1
      first | have f7 := adT (l2) (1) (by omega) (by omega) | have f7 := adT (l2) (1)
      have f8 := rgT (l2 + 1)
      exact ih g5 b1 l1 (l2 + 1) l3 jg5 p0 (by omega) (by omega) (by omega) (by omega)
set_option maxRecDepth 100000 in
set_option maxHeartbeats 4000000 in
theorem sf_J7_fill_25 {h0 : Hp} (n : Nat) (h : Hp) (b1 : Nat) (x2 : Int32) (hn : 17179869185 ≤ n) (j : J h0 h) (p0 : ncO b1 = true) : Ok (F_J7_fill_25 n h b1 x2) (fun q => J h0 q ∧ True) := by
  unfold F_J7_fill_25
  have f1 := lit_0
  have f2 := lit_25
  exact sfW_J7_fill_25_5 (h0 := h0) n h b1 x2 0 25 j p0 (by omega) (by omega) (by omega) (by omega)
set_option maxRecDepth 100000 in
set_option maxHeartbeats 4000000 in
theorem sf_X7_clear {h0 : Hp} (n : Nat) (h : Hp) (hn : 17179869185 ≤ n) (j : J h0 h) : Ok (F_X7_clear n h) (fun q => J h0 q ∧ True) := by
  unfold F_X7_clear
  refine Ok.bind (sf_X0_clear (h0 := h0) n h 3 (by omega) j bd_3) (fun q1 hq1 => ?_)
  obtain ⟨jq1, xq1⟩ := hq1
  refine Ok.bind (sf_X8_clear (h0 := h0) n q1 10 (by omega) jq1 sc_10) (fun q3 hq3 => ?_)
  obtain ⟨jq3, xq3⟩ := hq3
  generalize eg1 : wrI q3 2 2 (-1) = g1
  have jg1 : J h0 g1 := JwI eg1 jq3 (by decide)
  generalize eg2 : wrI g1 2 4 0 = g2
  have jg2 : J h0 g2 := JwI eg2 jg1 (by decide)
  generalize eg3 : wrI g2 2 5 0 = g3
  have jg3 : J h0 g3 := JwI eg3 jg2 (by decide)
  generalize eg4 : wrI g3 2 6 0 = g4
  have jg4 : J h0 g4 := JwI eg4 jg3 (by decide)
  generalize eg5 : wrI g4 2 7 (-1) = g5
  have jg5 : J h0 g5 := JwI eg5 jg4 (by decide)
  have f6 := lit_0
  refine Ok.bind (sf_J7_fill_25 (h0 := h0) n g5 16 0 (by omega) jg5 (by decide)) (fun q5 hq5 => ?_)
  obtain ⟨jq5, xq5⟩ := hq5
  generalize eg7 : wrI q5 2 12 0 = g7
  have jg7 : J h0 g7 := JwI eg7 jq5 (by decide)
  generalize eg8 : wrI g7 2 13 0 = g8
  have jg8 : J h0 g8 := JwI eg8 jg7 (by decide)
  generalize eg9 : wrI g8 2 14 0 = g9
  have jg9 : J h0 g9 := JwI eg9 jg8 (by decide)
  exact Ok.ret ⟨jg9, trivial⟩
set_option maxRecDepth 100000 in
set_option maxHeartbeats 4000000 in
theorem sf_X9_signAt {h0 : Hp} (n : Nat) (h : Hp) (x1 : Int32) (hn : 1 ≤ n) (j : J h0 h) : Ok (F_X9_signAt n h x1) (fun q => q.2 = h ∧ True) := by
  unfold F_X9_signAt
  have f1 := rgT (x1)
  have f2 := lit_0
  refine Ok.lt (fun c3 => ?_) (fun c3 => ?_)
  · exact Ok.ret ⟨rfl, trivial⟩
  · have f4 := cR 18 6 0 2000 (by decide) j
    have f5 := rgT (hi h 18 6)
    refine Ok.le (fun c6 => ?_) (fun c6 => ?_)
    · exact Ok.ret ⟨rfl, trivial⟩
    · have f7 := lit_2000
      refine Ok.le (fun c8 => ?_) (fun c8 => ?_)
      · exact Ok.ret ⟨rfl, trivial⟩
      · refine Ok.chk (ixT (by omega) (by omega)) (fun c9 => ?_)
        exact Ok.ret ⟨rfl, trivial⟩
set_option maxRecDepth 100000 in
set_option maxHeartbeats 4000000 in
theorem sf_X9_isBlank {h0 : Hp} (n : Nat) (h : Hp) (x1 : Int32) (hn : 1 ≤ n) (j : J h0 h) : Ok (F_X9_isBlank n h x1) (fun q => q.2 = h ∧ True) := by
  unfold F_X9_isBlank
  have f1 := rgT (x1)
  have f2 := lit_9
  refine Ok.eq (fun c3 => ?_) (fun c3 => ?_)
  · exact Ok.ret ⟨rfl, trivial⟩
  · have f4 := lit_10
    refine Ok.eq (fun c5 => ?_) (fun c5 => ?_)
    · exact Ok.ret ⟨rfl, trivial⟩
    · have f6 := lit_13
      refine Ok.eq (fun c7 => ?_) (fun c7 => ?_)
      · exact Ok.ret ⟨rfl, trivial⟩
      · have f8 := lit_32
        refine Ok.eq (fun c9 => ?_) (fun c9 => ?_)
        · exact Ok.ret ⟨rfl, trivial⟩
        · exact Ok.ret ⟨rfl, trivial⟩
set_option maxRecDepth 100000 in
set_option maxHeartbeats 4000000 in
theorem sfW_X9_behindBlanks_2 {h0 : Hp} : ∀ (n : Nat), (∀ (h : Hp) (l1 : Int32) (l2 : Int32), J h0 h → (1 : Int) < n → (1 : Int) + (2001 - l2.toInt) < n → Ok (W_X9_behindBlanks n 2 h l1 l2) (fun q => q.2 = h ∧ True)) := by
  intro n
  induction n with
  | zero => intro h l1 l2 j hB hM; exfalso; omega
  | succ n ih =>
    intro h l1 l2 j hB hM
    rw [u_X9_behindBlanks]
    refine Ok.pos rfl ?_
    have f1 := cR 18 6 0 2000 (by decide) j
    have f2 := rgT (hi h 18 6)
    have f3 := rgT (l2)
    refine Ok.le (fun c4 => ?_) (fun c4 => ?_)
    · exact Ok.ret ⟨rfl, trivial⟩
    · refine Ok.bind (sf_X9_signAt (h0 := h0) n h l2 (by omega) j ) (fun q2 hq2 => ?_)
      obtain ⟨eq2, xq2⟩ := hq2
      rw [eq2]
      refine Ok.bind (sf_X9_isBlank (h0 := h0) n h q2.1 (by omega) j ) (fun q4 hq4 => ?_)
      obtain ⟨eq4, xq4⟩ := hq4
      rw [eq4]
      have f5 := rgT (q4.1)
      have f6 := lit_0
      refine Ok.eq (fun c7 => ?_) (fun c7 => ?_)
      · exact Ok.ret ⟨rfl, trivial⟩
      · have f8 := lit_1
        first | have f9 := adT (l2) (1) (by omega) (by omega) | have f9 := adT (l2) (1)
        have f10 := rgT (l2 + 1)
        exact ih h l1 (l2 + 1) j   (by omega) (by omega)
set_option maxRecDepth 100000 in
set_option maxHeartbeats 4000000 in
theorem sf_X9_behindBlanks {h0 : Hp} (n : Nat) (h : Hp) (x1 : Int32) (hn : 17179869185 ≤ n) (j : J h0 h) : Ok (F_X9_behindBlanks n h x1) (fun q => q.2 = h ∧ True) := by
  unfold F_X9_behindBlanks
  have f1 := rgT (x1)
  exact sfW_X9_behindBlanks_2 (h0 := h0) n h x1 x1 j   (by omega) (by omega)
set_option maxRecDepth 100000 in
set_option maxHeartbeats 4000000 in
theorem sf_X9_isLetter {h0 : Hp} (n : Nat) (h : Hp) (x1 : Int32) (hn : 1 ≤ n) (j : J h0 h) : Ok (F_X9_isLetter n h x1) (fun q => q.2 = h ∧ True) := by
  unfold F_X9_isLetter
  have f1 := rgT (x1)
  have f2 := lit_97
  refine Ok.lt (fun c3 => ?_) (fun c3 => ?_)
  · exact Ok.ret ⟨rfl, trivial⟩
  · have f4 := lit_122
    refine Ok.lt (fun c5 => ?_) (fun c5 => ?_)
    · exact Ok.ret ⟨rfl, trivial⟩
    · exact Ok.ret ⟨rfl, trivial⟩
set_option maxRecDepth 100000 in
set_option maxHeartbeats 4000000 in
theorem sf_X9_isDigit {h0 : Hp} (n : Nat) (h : Hp) (x1 : Int32) (hn : 1 ≤ n) (j : J h0 h) : Ok (F_X9_isDigit n h x1) (fun q => q.2 = h ∧ True) := by
  unfold F_X9_isDigit
  have f1 := rgT (x1)
  have f2 := lit_48
  refine Ok.lt (fun c3 => ?_) (fun c3 => ?_)
  · exact Ok.ret ⟨rfl, trivial⟩
  · have f4 := lit_57
    refine Ok.lt (fun c5 => ?_) (fun c5 => ?_)
    · exact Ok.ret ⟨rfl, trivial⟩
    · exact Ok.ret ⟨rfl, trivial⟩
set_option maxRecDepth 100000 in
set_option maxHeartbeats 4000000 in
theorem sf_X9_isSign {h0 : Hp} (n : Nat) (h : Hp) (x1 : Int32) (hn : 1 ≤ n) (j : J h0 h) : Ok (F_X9_isSign n h x1) (fun q => q.2 = h ∧ True) := by
  unfold F_X9_isSign
  have f1 := rgT (x1)
  have f2 := lit_40
  refine Ok.eq (fun c3 => ?_) (fun c3 => ?_)
  · exact Ok.ret ⟨rfl, trivial⟩
  · have f4 := lit_41
    refine Ok.eq (fun c5 => ?_) (fun c5 => ?_)
    · exact Ok.ret ⟨rfl, trivial⟩
    · have f6 := lit_42
      refine Ok.eq (fun c7 => ?_) (fun c7 => ?_)
      · exact Ok.ret ⟨rfl, trivial⟩
      · have f8 := lit_43
        refine Ok.eq (fun c9 => ?_) (fun c9 => ?_)
        · exact Ok.ret ⟨rfl, trivial⟩
        · have f10 := lit_44
          refine Ok.eq (fun c11 => ?_) (fun c11 => ?_)
          · exact Ok.ret ⟨rfl, trivial⟩
          · have f12 := lit_45
            refine Ok.eq (fun c13 => ?_) (fun c13 => ?_)
            · exact Ok.ret ⟨rfl, trivial⟩
            · have f14 := lit_46
              refine Ok.eq (fun c15 => ?_) (fun c15 => ?_)
              · exact Ok.ret ⟨rfl, trivial⟩
              · have f16 := lit_47
                refine Ok.eq (fun c17 => ?_) (fun c17 => ?_)
                · exact Ok.ret ⟨rfl, trivial⟩
                · have f18 := lit_48
                  refine Ok.eq (fun c19 => ?_) (fun c19 => ?_)
                  · exact Ok.ret ⟨rfl, trivial⟩
                  · have f20 := lit_49
                    refine Ok.eq (fun c21 => ?_) (fun c21 => ?_)
                    · exact Ok.ret ⟨rfl, trivial⟩
                    · have f22 := lit_50
                      refine Ok.eq (fun c23 => ?_) (fun c23 => ?_)
                      · exact Ok.ret ⟨rfl, trivial⟩
                      · have f24 := lit_51
                        refine Ok.eq (fun c25 => ?_) (fun c25 => ?_)
                        · exact Ok.ret ⟨rfl, trivial⟩
                        · have f26 := lit_52
                          refine Ok.eq (fun c27 => ?_) (fun c27 => ?_)
                          · exact Ok.ret ⟨rfl, trivial⟩
                          · have f28 := lit_53
                            refine Ok.eq (fun c29 => ?_) (fun c29 => ?_)
                            · exact Ok.ret ⟨rfl, trivial⟩
                            · have f30 := lit_54
                              refine Ok.eq (fun c31 => ?_) (fun c31 => ?_)
                              · exact Ok.ret ⟨rfl, trivial⟩
                              · have f32 := lit_55
                                refine Ok.eq (fun c33 => ?_) (fun c33 => ?_)
                                · exact Ok.ret ⟨rfl, trivial⟩
                                · have f34 := lit_56
                                  refine Ok.eq (fun c35 => ?_) (fun c35 => ?_)
                                  · exact Ok.ret ⟨rfl, trivial⟩
                                  · have f36 := lit_57
                                    refine Ok.eq (fun c37 => ?_) (fun c37 => ?_)
                                    · exact Ok.ret ⟨rfl, trivial⟩
                                    · have f38 := lit_58
                                      refine Ok.eq (fun c39 => ?_) (fun c39 => ?_)
                                      · exact Ok.ret ⟨rfl, trivial⟩
                                      · have f40 := lit_59
                                        refine Ok.eq (fun c41 => ?_) (fun c41 => ?_)
                                        · exact Ok.ret ⟨rfl, trivial⟩
                                        · have f42 := lit_60
                                          refine Ok.eq (fun c43 => ?_) (fun c43 => ?_)
                                          · exact Ok.ret ⟨rfl, trivial⟩
                                          · have f44 := lit_61
                                            refine Ok.eq (fun c45 => ?_) (fun c45 => ?_)
                                            · exact Ok.ret ⟨rfl, trivial⟩
                                            · exact Ok.ret ⟨rfl, trivial⟩
end
section
/-! the class comes to its end, 2 -/
set_option maxRecDepth 100000 in
set_option maxHeartbeats 4000000 in
theorem sfW_X9_behindDigits_2 {h0 : Hp} : ∀ (n : Nat), (∀ (h : Hp) (l1 : Int32) (l2 : Int32), J h0 h → (1 : Int) < n → (1 : Int) + (2001 - l2.toInt) < n → Ok (W_X9_behindDigits n 2 h l1 l2) (fun q => q.2 = h ∧ True)) := by
  intro n
  induction n with
  | zero => intro h l1 l2 j hB hM; exfalso; omega
  | succ n ih =>
    intro h l1 l2 j hB hM
    rw [u_X9_behindDigits]
    refine Ok.pos rfl ?_
    have f1 := cR 18 6 0 2000 (by decide) j
    have f2 := rgT (hi h 18 6)
    have f3 := rgT (l2)
    refine Ok.le (fun c4 => ?_) (fun c4 => ?_)
    · exact Ok.ret ⟨rfl, trivial⟩
    · refine Ok.bind (sf_X9_signAt (h0 := h0) n h l2 (by omega) j ) (fun q2 hq2 => ?_)
      obtain ⟨eq2, xq2⟩ := hq2
      rw [eq2]
      refine Ok.bind (sf_X9_isDigit (h0 := h0) n h q2.1 (by omega) j ) (fun q4 hq4 => ?_)
      obtain ⟨eq4, xq4⟩ := hq4
      rw [eq4]
      have f5 := rgT (q4.1)
      have f6 := lit_0
      refine Ok.eq (fun c7 => ?_) (fun c7 => ?_)
      · exact Ok.ret ⟨rfl, trivial⟩
      · have f8 := lit_1
        first | have f9 := adT (l2) (1) (by omega) (by omega) | have f9 := adT (l2) (1)
        have f10 := rgT (l2 + 1)
        exact ih h l1 (l2 + 1) j   (by omega) (by omega)
set_option maxRecDepth 100000 in
set_option maxHeartbeats 4000000 in
theorem sf_X9_behindDigits {h0 : Hp} (n : Nat) (h : Hp) (x1 : Int32) (hn : 17179869185 ≤ n) (j : J h0 h) : Ok (F_X9_behindDigits n h x1) (fun q => q.2 = h ∧ True) := by
  unfold F_X9_behindDigits
  have f1 := rgT (x1)
  exact sfW_X9_behindDigits_2 (h0 := h0) n h x1 x1 j   (by omega) (by omega)
set_option maxRecDepth 100000 in
set_option maxHeartbeats 4000000 in
theorem sfW_X9_numberOf_5 {h0 : Hp} : ∀ (n : Nat), (∀ (h : Hp) (l1 : Int32) (l2 : Int32) (l3 : Int32) (l4 : Int32), J h0 h → (1 : Int) < n → (1 : Int) + (l2.toInt - l4.toInt) < n → Ok (W_X9_numberOf n 5 h l1 l2 l3 l4) (fun q => q.2 = h ∧ True)) := by
  intro n
  induction n with
  | zero => intro h l1 l2 l3 l4 j hB hM; exfalso; omega
  | succ n ih =>
    intro h l1 l2 l3 l4 j hB hM
    rw [u_X9_numberOf]
    refine Ok.pos rfl ?_
    have f1 := rgT (l2)
    have f2 := rgT (l4)
    refine Ok.le (fun c3 => ?_) (fun c3 => ?_)
    · exact Ok.ret ⟨rfl, trivial⟩
    · refine Ok.bind (sf_X9_signAt (h0 := h0) n h l4 (by omega) j ) (fun q2 hq2 => ?_)
      obtain ⟨eq2, xq2⟩ := hq2
      rw [eq2]
      have f4 := lit_1
      first | have f5 := adT (l4) (1) (by omega) (by omega) | have f5 := adT (l4) (1)
      have f6 := rgT (l4 + 1)
      exact ih h l1 l2 ((10 * l3) + (q2.1 - 48)) (l4 + 1) j   (by omega) (by omega)
set_option maxRecDepth 100000 in
set_option maxHeartbeats 4000000 in
theorem sf_X9_numberOf {h0 : Hp} (n : Nat) (h : Hp) (x1 : Int32) (x2 : Int32) (hn : 17179869185 ≤ n) (j : J h0 h) : Ok (F_X9_numberOf n h x1 x2) (fun q => q.2 = h ∧ True) := by
  unfold F_X9_numberOf
  have f1 := rgT (x2)
  have f2 := rgT (x1)
  exact sfW_X9_numberOf_5 (h0 := h0) n h x1 x2 0 x1 j   (by omega) (by omega)
set_option maxRecDepth 100000 in
set_option maxHeartbeats 4000000 in
theorem sfW_X9_behindLetters_2 {h0 : Hp} : ∀ (n : Nat), (∀ (h : Hp) (l1 : Int32) (l2 : Int32), J h0 h → (1 : Int) < n → (1 : Int) + (2001 - l2.toInt) < n → Ok (W_X9_behindLetters n 2 h l1 l2) (fun q => q.2 = h ∧ True)) := by
  intro n
  induction n with
  | zero => intro h l1 l2 j hB hM; exfalso; omega
  | succ n ih =>
    intro h l1 l2 j hB hM
    rw [u_X9_behindLetters]
    refine Ok.pos rfl ?_
    have f1 := cR 18 6 0 2000 (by decide) j
    have f2 := rgT (hi h 18 6)
    have f3 := rgT (l2)
    refine Ok.le (fun c4 => ?_) (fun c4 => ?_)
    · exact Ok.ret ⟨rfl, trivial⟩
    · refine Ok.bind (sf_X9_signAt (h0 := h0) n h l2 (by omega) j ) (fun q2 hq2 => ?_)
      obtain ⟨eq2, xq2⟩ := hq2
      rw [eq2]
      refine Ok.bind (sf_X9_isLetter (h0 := h0) n h q2.1 (by omega) j ) (fun q4 hq4 => ?_)
      obtain ⟨eq4, xq4⟩ := hq4
      rw [eq4]
      have f5 := rgT (q4.1)
      have f6 := lit_0
      refine Ok.eq (fun c7 => ?_) (fun c7 => ?_)
      · exact Ok.ret ⟨rfl, trivial⟩
      · have f8 := lit_1
        first | have f9 := adT (l2) (1) (by omega) (by omega) | have f9 := adT (l2) (1)
        have f10 := rgT (l2 + 1)
        exact ih h l1 (l2 + 1) j   (by omega) (by omega)
set_option maxRecDepth 100000 in
set_option maxHeartbeats 4000000 in
theorem sf_X9_behindLetters {h0 : Hp} (n : Nat) (h : Hp) (x1 : Int32) (hn : 17179869185 ≤ n) (j : J h0 h) : Ok (F_X9_behindLetters n h x1) (fun q => q.2 = h ∧ True) := by
  unfold F_X9_behindLetters
  have f1 := rgT (x1)
  exact sfW_X9_behindLetters_2 (h0 := h0) n h x1 x1 j   (by omega) (by omega)
set_option maxRecDepth 100000 in
set_option maxHeartbeats 4000000 in
theorem sf_X9_withLetter {h0 : Hp} (n : Nat) (h : Hp) (x1 : Int64) (x2 : Int32) (hn : 1 ≤ n) (j : J h0 h) : Ok (F_X9_withLetter n h x1 x2) (fun q => q.2 = h ∧ True) := by
  unfold F_X9_withLetter
  exact Ok.ret ⟨rfl, trivial⟩
set_option maxRecDepth 100000 in
set_option maxHeartbeats 4000000 in
theorem sfW_X9_lettersOf_5 {h0 : Hp} : ∀ (n : Nat), (∀ (h : Hp) (l1 : Int32) (l2 : Int32) (l3 : Int64) (l5 : Int32), J h0 h → (1 : Int) < n → (1 : Int) + (l2.toInt - l5.toInt) < n → Ok (W_X9_lettersOf n 5 h l1 l2 l3 l5) (fun q => q.2 = h ∧ True)) := by
  intro n
  induction n with
  | zero => intro h l1 l2 l3 l5 j hB hM; exfalso; omega
  | succ n ih =>
    intro h l1 l2 l3 l5 j hB hM
    rw [u_X9_lettersOf]
    refine Ok.pos rfl ?_
    have f1 := rgT (l2)
    have f2 := rgT (l5)
    refine Ok.le (fun c3 => ?_) (fun c3 => ?_)
    · exact Ok.ret ⟨rfl, trivial⟩
    · refine Ok.bind (sf_X9_signAt (h0 := h0) n h l5 (by omega) j ) (fun q2 hq2 => ?_)
      obtain ⟨eq2, xq2⟩ := hq2
      rw [eq2]
      refine Ok.bind (sf_X9_withLetter (h0 := h0) n h l3 q2.1 (by omega) j ) (fun q4 hq4 => ?_)
      obtain ⟨eq4, xq4⟩ := hq4
      rw [eq4]
      have f4 := lit_1
      first | have f5 := adT (l5) (1) (by omega) (by omega) | have f5 := adT (l5) (1)
      have f6 := rgT (l5 + 1)
      exact ih h l1 l2 q4.1 (l5 + 1) j   (by omega) (by omega)
set_option maxRecDepth 100000 in
set_option maxHeartbeats 4000000 in
theorem sf_X9_lettersOf {h0 : Hp} (n : Nat) (h : Hp) (x1 : Int32) (x2 : Int32) (hn : 17179869185 ≤ n) (j : J h0 h) : Ok (F_X9_lettersOf n h x1 x2) (fun q => q.2 = h ∧ True) := by
  unfold F_X9_lettersOf
  have f1 := rgT (x2)
  have f2 := rgT (x1)
  exact sfW_X9_lettersOf_5 (h0 := h0) n h x1 x2 0 x1 j   (by omega) (by omega)
set_option maxRecDepth 100000 in
set_option maxHeartbeats 4000000 in
theorem sfW_X9_kindOfLetters_2 {h0 : Hp} : ∀ (n : Nat), (∀ (h : Hp) (l1 : Int64) (l3 : Int32), J h0 h → 0 ≤ l3.toInt → (1 : Int) < n → (1 : Int) + (22 - l3.toInt) < n → Ok (W_X9_kindOfLetters n 2 h l1 l3) (fun q => q.2 = h ∧ True)) := by
  intro n
  induction n with
  | zero => intro h l1 l3 j i0 hB hM; exfalso; omega
  | succ n ih =>
    intro h l1 l3 j i0 hB hM
    rw [u_X9_kindOfLetters]
    refine Ok.pos rfl ?_
    have f1 := lit_22
    have f2 := rgT (l3)
    refine Ok.le (fun c3 => ?_) (fun c3 => ?_)
    · exact Ok.ret ⟨rfl, trivial⟩
    · refine Ok.chk (ixT (by omega) (by omega)) (fun c4 => ?_)
      have f5 := rgT (lg_cmp (hl h 19 (Int32.toNatClampNeg l3)) l1)
      have f6 := lit_0
      refine Ok.eq (fun c7 => ?_) (fun c7 => ?_)
      · exact Ok.ret ⟨rfl, trivial⟩
      · have f8 := lit_1
        first | have f9 := adT (l3) (1) (by omega) (by omega) | have f9 := adT (l3) (1)
        have f10 := rgT (l3 + 1)
        exact ih h l1 (l3 + 1) j  (by omega) (by omega) (by omega)
set_option maxRecDepth 100000 in
set_option maxHeartbeats 4000000 in
theorem sf_X9_kindOfLetters {h0 : Hp} (n : Nat) (h : Hp) (x1 : Int64) (hn : 17179869185 ≤ n) (j : J h0 h) : Ok (F_X9_kindOfLetters n h x1) (fun q => q.2 = h ∧ True) := by
  unfold F_X9_kindOfLetters
  have f1 := lit_0
  exact sfW_X9_kindOfLetters_2 (h0 := h0) n h x1 0 j  (by omega) (by omega) (by omega)
set_option maxRecDepth 100000 in
set_option maxHeartbeats 4000000 in
theorem sf_X9_keep {h0 : Hp} (n : Nat) (h : Hp) (x1 : Int32) (hn : 17179869185 ≤ n) (j : J h0 h) : Ok (F_X9_keep n h x1) (fun q => J h0 q.2 ∧ True) := by
  unfold F_X9_keep
  refine Ok.bind (sf_X9_signAt (h0 := h0) n h x1 (by omega) j ) (fun q1 hq1 => ?_)
  obtain ⟨eq1, xq1⟩ := hq1
  rw [eq1]
  refine Ok.bind (sf_X9_isLetter (h0 := h0) n h q1.1 (by omega) j ) (fun q3 hq3 => ?_)
  obtain ⟨eq3, xq3⟩ := hq3
  rw [eq3]
  have f1 := rgT (q3.1)
  have f2 := lit_0
  refine Ok.eq (fun c3 => ?_) (fun c3 => ?_)
  · refine Ok.bind (sf_X9_isDigit (h0 := h0) n h q1.1 (by omega) j ) (fun q6 hq6 => ?_)
    obtain ⟨eq6, xq6⟩ := hq6
    rw [eq6]
    have f4 := rgT (q6.1)
    refine Ok.eq (fun c5 => ?_) (fun c5 => ?_)
    · refine Ok.bind (sf_X9_isSign (h0 := h0) n h q1.1 (by omega) j ) (fun q9 hq9 => ?_)
      obtain ⟨eq9, xq9⟩ := hq9
      rw [eq9]
      have f6 := rgT (q9.1)
      refine Ok.eq (fun c7 => ?_) (fun c7 => ?_)
      · have f8 := lit_401
        have f9 := cR 18 5 0 401 (by decide) j
        have f10 := rgT (hi h 18 5)
        refine Ok.le (fun c11 => ?_) (fun c11 => ?_)
        · exact Ok.ret ⟨j, trivial⟩
        · refine Ok.chk (ixT (by omega) (by omega)) (fun c12 => ?_)
          generalize eg13 : wrI h 20 (Int32.toNatClampNeg (hi h 18 5)) (33 : Int32).toInt8.toInt32 = g13
          have jg13 : J h0 g13 := JwI eg13 j (ncO_nc (by decide))
          have f14 := congrArg Int32.toInt (hiA eg13 18 5 (by decide))
          have f15 := rgT (hi g13 18 5)
          refine Ok.chk (ixT (by omega) (by omega)) (fun c16 => ?_)
          generalize eg17 : wrI g13 21 (Int32.toNatClampNeg (hi g13 18 5)) (x1 : Int32).toInt16.toInt32 = g17
          have jg17 : J h0 g17 := JwI eg17 jg13 (ncO_nc (by decide))
          have f18 := congrArg Int32.toInt (hiA eg17 18 5 (by decide))
          have f19 := rgT (hi g17 18 5)
          refine Ok.chk (ixT (by omega) (by omega)) (fun c20 => ?_)
          generalize eg21 : wrL g17 22 (Int32.toNatClampNeg (hi g17 18 5)) 0 = g21
          have jg21 : J h0 g21 := JwL eg21 jg17 (by decide)
          generalize eg22 : wrI g21 18 5 ((hi g21 18 5) + 1) = g22
          have f23 := congrArg Int32.toInt (hiLL eg21 18 5)
          have f24 := rgT (hi g21 18 5)
          have f25 := lit_1
          first | have f26 := adT (hi g21 18 5) (1) (by omega) (by omega) | have f26 := adT (hi g21 18 5) (1)
          have f27 := rgT ((hi g21 18 5) + 1)
          have jg22 : J h0 g22 := JwC 0 401 eg22 jg21 (by decide) ⟨by omega, by omega⟩ (by decide)
          exact Ok.ret ⟨jg22, trivial⟩
      · have f28 := lit_401
        have f29 := cR 18 5 0 401 (by decide) j
        have f30 := rgT (hi h 18 5)
        refine Ok.le (fun c31 => ?_) (fun c31 => ?_)
        · exact Ok.ret ⟨j, trivial⟩
        · refine Ok.chk (ixT (by omega) (by omega)) (fun c32 => ?_)
          generalize eg33 : wrI h 20 (Int32.toNatClampNeg (hi h 18 5)) (q1.1 : Int32).toInt8.toInt32 = g33
          have jg33 : J h0 g33 := JwI eg33 j (ncO_nc (by decide))
          have f34 := congrArg Int32.toInt (hiA eg33 18 5 (by decide))
          have f35 := rgT (hi g33 18 5)
          refine Ok.chk (ixT (by omega) (by omega)) (fun c36 => ?_)
          generalize eg37 : wrI g33 21 (Int32.toNatClampNeg (hi g33 18 5)) (x1 : Int32).toInt16.toInt32 = g37
          have jg37 : J h0 g37 := JwI eg37 jg33 (ncO_nc (by decide))
          have f38 := congrArg Int32.toInt (hiA eg37 18 5 (by decide))
          have f39 := rgT (hi g37 18 5)
          refine Ok.chk (ixT (by omega) (by omega)) (fun c40 => ?_)
          generalize eg41 : wrL g37 22 (Int32.toNatClampNeg (hi g37 18 5)) 0 = g41
          have jg41 : J h0 g41 := JwL eg41 jg37 (by decide)
          generalize eg42 : wrI g41 18 5 ((hi g41 18 5) + 1) = g42
          have f43 := congrArg Int32.toInt (hiLL eg41 18 5)
          have f44 := rgT (hi g41 18 5)
          have f45 := lit_1
          first | have f46 := adT (hi g41 18 5) (1) (by omega) (by omega) | have f46 := adT (hi g41 18 5) (1)
          have f47 := rgT ((hi g41 18 5) + 1)
          have jg42 : J h0 g42 := JwC 0 401 eg42 jg41 (by decide) ⟨by omega, by omega⟩ (by decide)
          exact Ok.ret ⟨jg42, trivial⟩
    · refine Ok.bind (sf_X9_behindDigits (h0 := h0) n h x1 (by omega) j ) (fun q20 hq20 => ?_)
      obtain ⟨eq20, xq20⟩ := hq20
      rw [eq20]
      refine Ok.bind (sf_X9_numberOf (h0 := h0) n h x1 q20.1 (by omega) j ) (fun q22 hq22 => ?_)
      obtain ⟨eq22, xq22⟩ := hq22
      rw [eq22]
      have f48 := rgT (q20.1)
      have f49 := rgT (x1)
      generalize ey50 : (q20.1 - x1 : Int32) = y50
      first | have f51 := sbG ey50 rfl rfl (by omega) (by omega) | have f51 := sbG ey50 rfl rfl
      have f52 := rgT (y50)
      have f53 := lit_4
      refine Ok.le (fun c54 => ?_) (fun c54 => ?_)
      · have f55 := lit_401
        have f56 := cR 18 5 0 401 (by decide) j
        have f57 := rgT (hi h 18 5)
        refine Ok.le (fun c58 => ?_) (fun c58 => ?_)
        · exact Ok.ret ⟨j, trivial⟩
        · refine Ok.chk (ixT (by omega) (by omega)) (fun c59 => ?_)
          generalize eg60 : wrI h 20 (Int32.toNatClampNeg (hi h 18 5)) (30 : Int32).toInt8.toInt32 = g60
          have jg60 : J h0 g60 := JwI eg60 j (ncO_nc (by decide))
          have f61 := congrArg Int32.toInt (hiA eg60 18 5 (by decide))
          have f62 := rgT (hi g60 18 5)
          refine Ok.chk (ixT (by omega) (by omega)) (fun c63 => ?_)
          generalize eg64 : wrI g60 21 (Int32.toNatClampNeg (hi g60 18 5)) (x1 : Int32).toInt16.toInt32 = g64
          have jg64 : J h0 g64 := JwI eg64 jg60 (ncO_nc (by decide))
          have f65 := congrArg Int32.toInt (hiA eg64 18 5 (by decide))
          have f66 := rgT (hi g64 18 5)
          refine Ok.chk (ixT (by omega) (by omega)) (fun c67 => ?_)
          generalize eg68 : wrL g64 22 (Int32.toNatClampNeg (hi g64 18 5)) (q22.1 : Int32).toInt64 = g68
          have jg68 : J h0 g68 := JwL eg68 jg64 (by decide)
          generalize eg69 : wrI g68 18 5 ((hi g68 18 5) + 1) = g69
          have f70 := congrArg Int32.toInt (hiLL eg68 18 5)
          have f71 := rgT (hi g68 18 5)
          have f72 := lit_1
          first | have f73 := adT (hi g68 18 5) (1) (by omega) (by omega) | have f73 := adT (hi g68 18 5) (1)
          have f74 := rgT ((hi g68 18 5) + 1)
          have jg69 : J h0 g69 := JwC 0 401 eg69 jg68 (by decide) ⟨by omega, by omega⟩ (by decide)
          exact Ok.ret ⟨jg69, trivial⟩
      · have f75 := lit_401
        have f76 := cR 18 5 0 401 (by decide) j
        have f77 := rgT (hi h 18 5)
        refine Ok.le (fun c78 => ?_) (fun c78 => ?_)
        · exact Ok.ret ⟨j, trivial⟩
        · refine Ok.chk (ixT (by omega) (by omega)) (fun c79 => ?_)
          generalize eg80 : wrI h 20 (Int32.toNatClampNeg (hi h 18 5)) (33 : Int32).toInt8.toInt32 = g80
          have jg80 : J h0 g80 := JwI eg80 j (ncO_nc (by decide))
          have f81 := congrArg Int32.toInt (hiA eg80 18 5 (by decide))
          have f82 := rgT (hi g80 18 5)
          refine Ok.chk (ixT (by omega) (by omega)) (fun c83 => ?_)
          generalize eg84 : wrI g80 21 (Int32.toNatClampNeg (hi g80 18 5)) (x1 : Int32).toInt16.toInt32 = g84
          have jg84 : J h0 g84 := JwI eg84 jg80 (ncO_nc (by decide))
          have f85 := congrArg Int32.toInt (hiA eg84 18 5 (by decide))
          have f86 := rgT (hi g84 18 5)
          refine Ok.chk (ixT (by omega) (by omega)) (fun c87 => ?_)
          generalize eg88 : wrL g84 22 (Int32.toNatClampNeg (hi g84 18 5)) (q22.1 : Int32).toInt64 = g88
          have jg88 : J h0 g88 := JwL eg88 jg84 (by decide)
          generalize eg89 : wrI g88 18 5 ((hi g88 18 5) + 1) = g89
          have f90 := congrArg Int32.toInt (hiLL eg88 18 5)
          have f91 := rgT (hi g88 18 5)
          have f92 := lit_1
          first | have f93 := adT (hi g88 18 5) (1) (by omega) (by omega) | have f93 := adT (hi g88 18 5) (1)
          have f94 := rgT ((hi g88 18 5) + 1)
          have jg89 : J h0 g89 := JwC 0 401 eg89 jg88 (by decide) ⟨by omega, by omega⟩ (by decide)
          exact Ok.ret ⟨jg89, trivial⟩
  · refine Ok.bind (sf_X9_behindLetters (h0 := h0) n h x1 (by omega) j ) (fun q33 hq33 => ?_)
    obtain ⟨eq33, xq33⟩ := hq33
    rw [eq33]
    refine Ok.bind (sf_X9_lettersOf (h0 := h0) n h x1 q33.1 (by omega) j ) (fun q35 hq35 => ?_)
    obtain ⟨eq35, xq35⟩ := hq35
    rw [eq35]
    have f95 := rgT (q33.1)
    have f96 := rgT (x1)
    generalize ey97 : (q33.1 - x1 : Int32) = y97
    first | have f98 := sbG ey97 rfl rfl (by omega) (by omega) | have f98 := sbG ey97 rfl rfl
    have f99 := rgT (y97)
    have f100 := lit_8
    refine Ok.le (fun c101 => ?_) (fun c101 => ?_)
    · refine Ok.bind (sf_X9_kindOfLetters (h0 := h0) n h q35.1 (by omega) j ) (fun q38 hq38 => ?_)
      obtain ⟨eq38, xq38⟩ := hq38
      rw [eq38]
      have f102 := lit_401
      have f103 := cR 18 5 0 401 (by decide) j
      have f104 := rgT (hi h 18 5)
      refine Ok.le (fun c105 => ?_) (fun c105 => ?_)
      · exact Ok.ret ⟨j, trivial⟩
      · refine Ok.chk (ixT (by omega) (by omega)) (fun c106 => ?_)
        generalize eg107 : wrI h 20 (Int32.toNatClampNeg (hi h 18 5)) (q38.1 : Int32).toInt8.toInt32 = g107
        have jg107 : J h0 g107 := JwI eg107 j (ncO_nc (by decide))
        have f108 := congrArg Int32.toInt (hiA eg107 18 5 (by decide))
        have f109 := rgT (hi g107 18 5)
        refine Ok.chk (ixT (by omega) (by omega)) (fun c110 => ?_)
        generalize eg111 : wrI g107 21 (Int32.toNatClampNeg (hi g107 18 5)) (x1 : Int32).toInt16.toInt32 = g111
        have jg111 : J h0 g111 := JwI eg111 jg107 (ncO_nc (by decide))
        have f112 := congrArg Int32.toInt (hiA eg111 18 5 (by decide))
        have f113 := rgT (hi g111 18 5)
        refine Ok.chk (ixT (by omega) (by omega)) (fun c114 => ?_)
        generalize eg115 : wrL g111 22 (Int32.toNatClampNeg (hi g111 18 5)) q35.1 = g115
        have jg115 : J h0 g115 := JwL eg115 jg111 (by decide)
        generalize eg116 : wrI g115 18 5 ((hi g115 18 5) + 1) = g116
        have f117 := congrArg Int32.toInt (hiLL eg115 18 5)
        have f118 := rgT (hi g115 18 5)
        have f119 := lit_1
        first | have f120 := adT (hi g115 18 5) (1) (by omega) (by omega) | have f120 := adT (hi g115 18 5) (1)
        have f121 := rgT ((hi g115 18 5) + 1)
        have jg116 : J h0 g116 := JwC 0 401 eg116 jg115 (by decide) ⟨by omega, by omega⟩ (by decide)
        exact Ok.ret ⟨jg116, trivial⟩
    · have f122 := lit_401
      have f123 := cR 18 5 0 401 (by decide) j
      have f124 := rgT (hi h 18 5)
      refine Ok.le (fun c125 => ?_) (fun c125 => ?_)
      · exact Ok.ret ⟨j, trivial⟩
      · refine Ok.chk (ixT (by omega) (by omega)) (fun c126 => ?_)
        generalize eg127 : wrI h 20 (Int32.toNatClampNeg (hi h 18 5)) (33 : Int32).toInt8.toInt32 = g127
        have jg127 : J h0 g127 := JwI eg127 j (ncO_nc (by decide))
        have f128 := congrArg Int32.toInt (hiA eg127 18 5 (by decide))
        have f129 := rgT (hi g127 18 5)
        refine Ok.chk (ixT (by omega) (by omega)) (fun c130 => ?_)
        generalize eg131 : wrI g127 21 (Int32.toNatClampNeg (hi g127 18 5)) (x1 : Int32).toInt16.toInt32 = g131
        have jg131 : J h0 g131 := JwI eg131 jg127 (ncO_nc (by decide))
        have f132 := congrArg Int32.toInt (hiA eg131 18 5 (by decide))
        have f133 := rgT (hi g131 18 5)
        refine Ok.chk (ixT (by omega) (by omega)) (fun c134 => ?_)
        generalize eg135 : wrL g131 22 (Int32.toNatClampNeg (hi g131 18 5)) q35.1 = g135
        have jg135 : J h0 g135 := JwL eg135 jg131 (by decide)
        generalize eg136 : wrI g135 18 5 ((hi g135 18 5) + 1) = g136
        have f137 := congrArg Int32.toInt (hiLL eg135 18 5)
        have f138 := rgT (hi g135 18 5)
        have f139 := lit_1
        first | have f140 := adT (hi g135 18 5) (1) (by omega) (by omega) | have f140 := adT (hi g135 18 5) (1)
        have f141 := rgT ((hi g135 18 5) + 1)
        have jg136 : J h0 g136 := JwC 0 401 eg136 jg135 (by decide) ⟨by omega, by omega⟩ (by decide)
        exact Ok.ret ⟨jg136, trivial⟩
end
