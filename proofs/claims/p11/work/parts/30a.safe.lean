/-! SAFETY: every method comes to its end, whatever it is asked. Ok o P: o is some x with P x -/
def Ok {α : Type} (o : Option α) (P : α → Prop) : Prop := ∃ x, o = some x ∧ P x
theorem Ok.ret {α : Type} {x : α} {P : α → Prop} (h : P x) : Ok (some x) P := ⟨x, rfl, h⟩
theorem Ok.bind {α β : Type} {o : Option α} {f : α → Option β} {Q : α → Prop} {P : β → Prop} (h1 : Ok o Q) (h2 : ∀ x, Q x → Ok (f x) P) : Ok (o.bind f) P := by
  obtain ⟨x, rfl, hx⟩ := h1
  exact h2 x hx
theorem Ok.mono {α : Type} {o : Option α} {P Q : α → Prop} (h1 : Ok o Q) (h2 : ∀ x, Q x → P x) : Ok o P := by
  obtain ⟨x, rfl, hx⟩ := h1
  exact ⟨x, rfl, h2 x hx⟩
theorem Ok.ite {α : Type} {c : Prop} [Decidable c] {A B : Option α} {P : α → Prop} (h1 : c → Ok A P) (h2 : ¬ c → Ok B P) : Ok (if c then A else B) P := by
  by_cases k : c
  · rw [if_pos k]; exact h1 k
  · rw [if_neg k]; exact h2 k
theorem Ok.pos {α : Type} {c : Prop} [Decidable c] {A B : Option α} {P : α → Prop} (k : c) (h1 : Ok A P) : Ok (if c then A else B) P := by
  rw [if_pos k]; exact h1
theorem Ok.neg {α : Type} {c : Prop} [Decidable c] {A B : Option α} {P : α → Prop} (k : ¬ c) (h1 : Ok B P) : Ok (if c then A else B) P := by
  rw [if_neg k]; exact h1
theorem Ok.chk {α : Type} {c : Prop} [Decidable c] {A B : Option α} {P : α → Prop} (k : c) (h1 : c → Ok A P) : Ok (if c then A else B) P := by
  rw [if_pos k]; exact h1 k
theorem Ok.le {α : Type} {a b : Int32} {A B : Option α} {P : α → Prop} (h1 : a.toInt ≤ b.toInt → Ok A P) (h2 : b.toInt < a.toInt → Ok B P) : Ok (if a ≤ b then A else B) P :=
  Ok.ite (fun k => h1 (Int32.le_iff_toInt_le.mp k)) (fun k => h2 (Int.not_le.mp (fun q => k (Int32.le_iff_toInt_le.mpr q))))
theorem Ok.lt {α : Type} {a b : Int32} {A B : Option α} {P : α → Prop} (h1 : a.toInt < b.toInt → Ok A P) (h2 : b.toInt ≤ a.toInt → Ok B P) : Ok (if a < b then A else B) P :=
  Ok.ite (fun k => h1 (Int32.lt_iff_toInt_lt.mp k)) (fun k => h2 (Int.not_lt.mp (fun q => k (Int32.lt_iff_toInt_lt.mpr q))))
theorem Ok.eq {α : Type} {a b : Int32} {A B : Option α} {P : α → Prop} (h1 : a.toInt = b.toInt → Ok A P) (h2 : a.toInt ≠ b.toInt → Ok B P) : Ok (if a = b then A else B) P :=
  Ok.ite (fun k => h1 (by rw [k])) (fun k => h2 (fun q => k (Int32.toInt_inj.mp q)))
theorem Ok.div {α : Type} {a b : Int32} {A : Option α} {P : α → Prop} (k : a.toInt ≠ b.toInt) (h1 : Ok A P) : Ok (if a = b then none else A) P := by
  rw [if_neg (fun q => k (by rw [q]))]; exact h1
theorem Ok.bool {α : Type} {a : Int32} {A B : Option α} {P : α → Prop} (k : 0 ≤ a.toInt ∧ a.toInt ≤ 1) (h1 : Ok A P) : Ok (if a = 0 ∨ a = 1 then A else B) P := by
  have e0 : (0 : Int32).toInt = 0 := by decide
  have e1 : (1 : Int32).toInt = 1 := by decide
  refine Ok.pos ?_ h1
  by_cases q : a.toInt = 0
  · exact Or.inl (Int32.toInt_inj.mp (by omega))
  · exact Or.inr (Int32.toInt_inj.mp (by omega))
theorem rgT (a : Int32) : -2147483648 ≤ a.toInt ∧ a.toInt ≤ 2147483647 := by
  have h1 := Int32.le_toInt a
  have h2 := Int32.toInt_lt a
  omega
theorem bmT {x : Int} (h1 : -2147483648 ≤ x) (h2 : x ≤ 2147483647) : x.bmod (2 ^ 32) = x := Int.bmod_eq_of_le (by omega) (by omega)
theorem adT (a b : Int32) : -2147483648 ≤ a.toInt + b.toInt → a.toInt + b.toInt ≤ 2147483647 → (a + b).toInt = a.toInt + b.toInt := by
  intro h1 h2
  rw [Int32.toInt_add, bmT h1 h2]
theorem sbT (a b : Int32) : -2147483648 ≤ a.toInt - b.toInt → a.toInt - b.toInt ≤ 2147483647 → (a - b).toInt = a.toInt - b.toInt := by
  intro h1 h2
  rw [Int32.toInt_sub, bmT h1 h2]
theorem mlT (a b : Int32) (c : Int) (hc : a.toInt = c) : -2147483648 ≤ c * b.toInt → c * b.toInt ≤ 2147483647 → (a * b).toInt = c * b.toInt := by
  intro h1 h2
  rw [Int32.toInt_mul, hc, bmT h1 h2]
theorem ixT {x : Int32} {N : Nat} (h1 : 0 ≤ x.toInt) (h2 : x.toInt < N) : ixOK x N = true := by
  have e0 : (0 : Int32).toInt = 0 := by decide
  simp only [ixOK, Bool.and_eq_true, decide_eq_true_eq]
  refine ⟨Int32.le_iff_toInt_le.mpr (by omega), ?_⟩
  rw [← Int32.toNat_toInt]
  omega
theorem ncT {x : Int32} (h1 : 0 ≤ x.toInt) : ((Int32.toNatClampNeg x : Nat) : Int) = x.toInt := by
  rw [← Int32.toNat_toInt]; omega
theorem shr1T (x : Int32) : (x >>> ((1 : Int32) &&& 31)).toInt = x.toInt / 2 := by
  have e : ((1 : Int32) &&& 31) = 1 := by decide
  rw [e]
  show (Int32.toBitVec (x >>> 1)).toInt = _
  rw [Int32.toBitVec_shiftRight]
  have e2 : (BitVec.smod (Int32.toBitVec 1) 32) = 1#32 := by decide
  rw [e2]
  show (BitVec.sshiftRight x.toBitVec (1#32).toNat).toInt = _
  rw [BitVec.toInt_sshiftRight]
  show x.toInt >>> 1 = _
  rw [Int.shiftRight_eq_div_pow]
  rfl
theorem and_rg (x m : Int32) (M : Int) (hm : m.toInt = M) (h0 : 0 ≤ M) : 0 ≤ (x &&& m).toInt ∧ (x &&& m).toInt ≤ M := by
  subst hm
  have hb : m.toBitVec.msb = false := by
    rw [BitVec.msb_eq_toInt]
    simpa using h0
  have h1 : (x &&& m).toInt = ((x.toBitVec &&& m.toBitVec).toNat : Int) := by
    show (x.toBitVec &&& m.toBitVec).toInt = _
    rw [BitVec.toInt_eq_msb_cond]
    have : (x.toBitVec &&& m.toBitVec).msb = false := by rw [BitVec.msb_and, hb, Bool.and_false]
    rw [this]; rfl
  have h2 : m.toInt = (m.toBitVec.toNat : Int) := by
    show m.toBitVec.toInt = _
    rw [BitVec.toInt_eq_msb_cond, hb]; rfl
  rw [h1, h2, BitVec.toNat_and]
  have := Nat.and_le_right (n := x.toBitVec.toNat) (m := m.toBitVec.toNat)
  omega
theorem byT (x : Int32) : -128 ≤ (vp_nar .byte x).toInt ∧ (vp_nar .byte x).toInt ≤ 127 := by
  rw [vp_nar_byte, Int8.toInt_toInt32]
  have h1 := Int8.le_toInt x.toInt8
  have h2 := Int8.toInt_lt x.toInt8
  omega
/-! reads behind writes -/
theorem hi_wrI (h : Hp) (a k : Nat) (v : Int32) (a' k' : Nat) : hi (wrI h a k v) a' k' = if a' = a ∧ k' = k then v else hi h a' k' := rfl
theorem hiE {h h1 : Hp} {a k : Nat} {v : Int32} (e : wrI h a k v = h1) : hi h1 a k = v := by
  rw [← e, hi_wrI, if_pos ⟨rfl, rfl⟩]
theorem hiA {h h1 : Hp} {a k : Nat} {v : Int32} (e : wrI h a k v = h1) (a' k' : Nat) (n : a' ≠ a) : hi h1 a' k' = hi h a' k' := by
  rw [← e, hi_wrI, if_neg (fun q => n q.1)]
theorem hiK {h h1 : Hp} {a k : Nat} {v : Int32} (e : wrI h a k v = h1) (a' k' : Nat) (n : k' ≠ k) : hi h1 a' k' = hi h a' k' := by
  rw [← e, hi_wrI, if_neg (fun q => n q.2)]
theorem hiAA {h h1 : Hp} {a : Nat} {f : Nat → Int32} (e : wrA h a f = h1) (a' k' : Nat) (n : a' ≠ a) : hi h1 a' k' = hi h a' k' := by
  rw [← e]
  show upA (hi h) a f a' k' = _
  unfold upA
  rw [if_neg n]
theorem hiLL {h h1 : Hp} {a k : Nat} {v : Int64} (e : wrL h a k v = h1) (a' k' : Nat) : hi h1 a' k' = hi h a' k' := by
  rw [← e]; rfl
/-! what the class's cells keep to -/
def ckk : List (Nat × Nat × Int × Int) := [(0, 1, 0, 2000), (5, 3, 0, 404), (25, 3, 0, 404), (3, 2, 0, 5), (23, 2, 0, 5), (38, 1, 0, 39), (201, 2, 0, 20), (18, 5, 0, 401), (18, 6, 0, 2000), (207, 4, 0, 50), (0, 2, -2147483648, 2147483647)]
def cadr : List Nat := [0, 1, 3, 5, 18, 23, 25, 38, 201, 207, 209, 210]
def ncO (a : Nat) : Bool := decide (a < 226) && !(cadr.contains a)
def nc (a k : Nat) : Bool := decide (a < 226) && !(ckk.any (fun q => q.1 == a && q.2.1 == k)) && !(a == 209) && !(a == 210) && !(a == 1)
def IX (h : Hp) : Prop := (∀ q ∈ ckk, q.2.2.1 ≤ (hi h q.1 q.2.1).toInt ∧ (hi h q.1 q.2.1).toInt ≤ q.2.2.2) ∧ (∀ k, (hi h 209 k).toInt < 50) ∧ (∀ k, 0 ≤ (hi h 210 k).toInt ∧ (hi h 210 k).toInt < 50)
/-- the reference's cells are as in h0 -/
def kM (h0 h : Hp) : Prop := ∀ a k, 226 ≤ a → hi h a k = hi h0 a k ∧ hl h a k = hl h0 a k
/-- the tape, how much lies on it, the last fault's place -/
def kT (h0 h : Hp) : Prop := hi h 0 1 = hi h0 0 1 ∧ hi h 0 2 = hi h0 0 2 ∧ (∀ k, hi h 1 k = hi h0 1 k) ∧ ∀ k, hl h 19 k = hl h0 19 k
theorem kT.rf (h : Hp) : kT h h := ⟨rfl, rfl, fun _ => rfl, fun _ => rfl⟩
def J (h0 h : Hp) : Prop := IX h ∧ kM h0 h ∧ kT h0 h
theorem kM.rfl' (h : Hp) : kM h h := fun _ _ _ => ⟨rfl, rfl⟩
theorem ncO_nc {a k : Nat} (h : ncO a = true) : nc a k = true := by
  simp only [ncO, cadr, List.contains, List.elem, Bool.and_eq_true, decide_eq_true_eq, Bool.not_eq_true'] at h
  simp only [nc, ckk, List.any, Bool.and_eq_true, decide_eq_true_eq, Bool.not_eq_true', Bool.or_eq_false_iff, Bool.and_eq_false_iff]
  have n (m : Nat) (hm : (a == m) = false) : (m == a) = false := by
    simp only [beq_eq_false_iff_ne, ne_eq] at hm ⊢; exact fun q => hm q.symm
  split at h <;> try (exact absurd h.2 (by decide))
  split at h <;> try (exact absurd h.2 (by decide))
  split at h <;> try (exact absurd h.2 (by decide))
  split at h <;> try (exact absurd h.2 (by decide))
  split at h <;> try (exact absurd h.2 (by decide))
  split at h <;> try (exact absurd h.2 (by decide))
  split at h <;> try (exact absurd h.2 (by decide))
  split at h <;> try (exact absurd h.2 (by decide))
  split at h <;> try (exact absurd h.2 (by decide))
  split at h <;> try (exact absurd h.2 (by decide))
  split at h <;> try (exact absurd h.2 (by decide))
  split at h <;> try (exact absurd h.2 (by decide))
  simp_all
theorem JwI {h0 h h1 : Hp} {a k : Nat} {v : Int32} (e : wrI h a k v = h1) (j : J h0 h) (n : nc a k = true) : J h0 h1 := by
  subst e
  simp only [nc, Bool.and_eq_true, decide_eq_true_eq, Bool.not_eq_true', beq_eq_false_iff_ne, List.any_eq_false] at n
  obtain ⟨⟨⟨⟨n1, n2⟩, n3⟩, n4⟩, n5⟩ := n
  refine ⟨⟨fun q hq => ?_, fun k' => ?_, fun k' => ?_⟩, fun a' k' h' => ?_, ?_⟩
  · rw [hi_wrI, if_neg (fun z => n2 q hq (by simp [z.1, z.2]))]
    exact j.1.1 q hq
  · rw [hi_wrI, if_neg (fun z => n3 z.1.symm)]
    exact j.1.2.1 k'
  · rw [hi_wrI, if_neg (fun z => n4 z.1.symm)]
    exact j.1.2.2 k'
  · rw [hi_wrI, if_neg (fun z => by omega)]
    exact j.2.1 a' k' h'
  · refine ⟨?_, ?_, fun k' => ?_, fun k' => j.2.2.2.2.2 k'⟩
    · rw [hi_wrI, if_neg (fun z => n2 (0, 1, 0, 2000) (by decide) (by simp [← z.1, ← z.2]))]
      exact j.2.2.1
    · rw [hi_wrI, if_neg (fun z => n2 (0, 2, -2147483648, 2147483647) (by decide) (by simp [← z.1, ← z.2]))]
      exact j.2.2.2.1
    · rw [hi_wrI, if_neg (fun z => n5 z.1.symm)]
      exact j.2.2.2.2.1 k'
theorem JwL {h0 h h1 : Hp} {a k : Nat} {v : Int64} (e : wrL h a k v = h1) (j : J h0 h) (n : a < 226 ∧ a ≠ 19) : J h0 h1 := by
  subst e
  refine ⟨j.1, fun a' k' h' => ⟨(j.2.1 a' k' h').1, ?_⟩, j.2.2.1, j.2.2.2.1, j.2.2.2.2.1, fun k' => ?_⟩
  · show up2 (hl h) a k v a' k' = _
    unfold up2
    rw [if_neg (fun z => by omega)]
    exact (j.2.1 a' k' h').2
  · show up2 (hl h) a k v 19 k' = _
    unfold up2
    rw [if_neg (fun z => n.2 z.1.symm)]
    exact j.2.2.2.2.2 k'
theorem JwA {h0 h h1 : Hp} {a : Nat} {f : Nat → Int32} (e : wrA h a f = h1) (j : J h0 h) (n : ncO a = true) : J h0 h1 := by
  have hA (a' k' : Nat) (z : a' ≠ a) : hi h1 a' k' = hi h a' k' := hiAA e a' k' z
  have hne (a' : Nat) (z : ncO a' = false) : a' ≠ a := fun q => by rw [q, n] at z; cases z
  refine ⟨⟨fun q hq => ?_, fun k' => ?_, fun k' => ?_⟩, fun a' k' h' => ⟨?_, ?_⟩, ?_⟩
  · have : ∀ q ∈ ckk, ncO q.1 = false := by decide
    rw [hA _ _ (hne _ (this q hq))]
    exact j.1.1 q hq
  · rw [hA _ _ (hne _ (by decide))]
    exact j.1.2.1 k'
  · rw [hA _ _ (hne _ (by decide))]
    exact j.1.2.2 k'
  · rw [hA _ _ (fun q => by
      rw [← q] at n
      simp only [ncO, Bool.and_eq_true, decide_eq_true_eq] at n
      omega)]
    exact (j.2.1 a' k' h').1
  · rw [← e]
    exact (j.2.1 a' k' h').2
  · refine ⟨?_, ?_, fun k' => ?_, fun k' => by rw [← e]; exact j.2.2.2.2.2 k'⟩
    · rw [hA _ _ (hne _ (by decide))]
      exact j.2.2.1
    · rw [hA _ _ (hne _ (by decide))]
      exact j.2.2.2.1
    · rw [hA _ _ (hne _ (by decide))]
      exact j.2.2.2.2.1 k'
theorem JwC {h0 h h1 : Hp} {a k : Nat} {v : Int32} (lo up : Int) (e : wrI h a k v = h1) (j : J h0 h) (m : (a, k, lo, up) ∈ ckk) (r : lo ≤ v.toInt ∧ v.toInt ≤ up) (zz : a ≠ 0) : J h0 h1 := by
  subst e
  have hu : ∀ q ∈ ckk, ∀ q' ∈ ckk, q'.1 = q.1 → q'.2.1 = q.2.1 → q' = q := by decide
  have ha : ∀ q ∈ ckk, q.1 ≠ 209 ∧ q.1 ≠ 210 ∧ q.1 < 226 := by decide
  have hb : ∀ q ∈ ckk, q.1 ≠ 1 := by decide
  have ha := ha _ m
  refine ⟨⟨fun q hq => ?_, fun k' => ?_, fun k' => ?_⟩, fun a' k' h' => ?_, ?_⟩
  · rw [hi_wrI]
    by_cases z : q.1 = a ∧ q.2.1 = k
    · rw [if_pos z, hu _ m _ hq z.1 z.2]
      exact r
    · rw [if_neg z]
      exact j.1.1 q hq
  · rw [hi_wrI, if_neg (fun z => ha.1 z.1.symm)]
    exact j.1.2.1 k'
  · rw [hi_wrI, if_neg (fun z => ha.2.1 z.1.symm)]
    exact j.1.2.2 k'
  · rw [hi_wrI, if_neg (fun z => by have := ha.2.2; simp only at this; omega)]
    exact j.2.1 a' k' h'
  · refine ⟨?_, ?_, fun k' => ?_, fun k' => j.2.2.2.2.2 k'⟩
    · rw [hi_wrI, if_neg (fun z => zz z.1.symm)]
      exact j.2.2.1
    · rw [hi_wrI, if_neg (fun z => zz z.1.symm)]
      exact j.2.2.2.1
    · rw [hi_wrI, if_neg (fun z => (hb _ m) z.1.symm)]
      exact j.2.2.2.2.1 k'
theorem Jw209 {h0 h h1 : Hp} {k : Nat} {v : Int32} (e : wrI h 209 k v = h1) (j : J h0 h) (r : v.toInt < 50) : J h0 h1 := by
  subst e
  have ha : ∀ q ∈ ckk, q.1 ≠ 209 ∧ q.1 ≠ 210 ∧ q.1 < 226 := by decide
  refine ⟨⟨fun q hq => ?_, fun k' => ?_, fun k' => ?_⟩, fun a' k' h' => ?_, ?_⟩
  · rw [hi_wrI, if_neg (fun z => (ha q hq).1 z.1)]
    exact j.1.1 q hq
  · rw [hi_wrI]
    by_cases z : 209 = 209 ∧ k' = k
    · rw [if_pos z]; exact r
    · rw [if_neg z]; exact j.1.2.1 k'
  · rw [hi_wrI, if_neg (fun z => absurd z.1 (by decide))]
    exact j.1.2.2 k'
  · rw [hi_wrI, if_neg (fun z => by omega)]
    exact j.2.1 a' k' h'
  · refine ⟨?_, ?_, fun k' => ?_, fun k' => j.2.2.2.2.2 k'⟩
    · rw [hi_wrI, if_neg (fun z => absurd z.1 (by decide))]
      exact j.2.2.1
    · rw [hi_wrI, if_neg (fun z => absurd z.1 (by decide))]
      exact j.2.2.2.1
    · rw [hi_wrI, if_neg (fun z => absurd z.1 (by decide))]
      exact j.2.2.2.2.1 k'
theorem Jw210 {h0 h h1 : Hp} {k : Nat} {v : Int32} (e : wrI h 210 k v = h1) (j : J h0 h) (r : 0 ≤ v.toInt ∧ v.toInt < 50) : J h0 h1 := by
  subst e
  have ha : ∀ q ∈ ckk, q.1 ≠ 209 ∧ q.1 ≠ 210 ∧ q.1 < 226 := by decide
  refine ⟨⟨fun q hq => ?_, fun k' => ?_, fun k' => ?_⟩, fun a' k' h' => ?_, ?_⟩
  · rw [hi_wrI, if_neg (fun z => (ha q hq).2.1 z.1)]
    exact j.1.1 q hq
  · rw [hi_wrI, if_neg (fun z => absurd z.1 (by decide))]
    exact j.1.2.1 k'
  · rw [hi_wrI]
    by_cases z : 210 = 210 ∧ k' = k
    · rw [if_pos z]; exact r
    · rw [if_neg z]; exact j.1.2.2 k'
  · rw [hi_wrI, if_neg (fun z => by omega)]
    exact j.2.1 a' k' h'
  · refine ⟨?_, ?_, fun k' => ?_, fun k' => j.2.2.2.2.2 k'⟩
    · rw [hi_wrI, if_neg (fun z => absurd z.1 (by decide))]
      exact j.2.2.1
    · rw [hi_wrI, if_neg (fun z => absurd z.1 (by decide))]
      exact j.2.2.2.1
    · rw [hi_wrI, if_neg (fun z => absurd z.1 (by decide))]
      exact j.2.2.2.2.1 k'
theorem cR {h0 h : Hp} (a k : Nat) (lo up : Int) (m : (a, k, lo, up) ∈ ckk) (j : J h0 h) : lo ≤ (hi h a k).toInt ∧ (hi h a k).toInt ≤ up := j.1.1 _ m
theorem cR209 {h0 h : Hp} (k : Nat) (j : J h0 h) : (hi h 209 k).toInt < 50 := j.1.2.1 k
theorem cR210 {h0 h : Hp} (k : Nat) (j : J h0 h) : 0 ≤ (hi h 210 k).toInt ∧ (hi h 210 k).toInt < 50 := j.1.2.2 k
/-! cells by what they are -/
theorem scO_all : ∀ a, a < 275 → shp a = .inl 8 → (ncO a && ncO (a + 1) && ncO (a + 2) && ncO (a + 3)) = true := by decide +kernel
theorem fdO_all : ∀ a, a < 275 → shp a = .inl 3 → ncO a = true := by decide +kernel
theorem lwO_all : ∀ a, a < 275 → shp a = .inl 4 → ((a == 5 || a == 25) && ncO (a + 1) && ncO (a + 2) && ncO (a + 3)) = true := by decide +kernel
theorem bdO_all : ∀ a, a < 275 → shp a = .inl 0 → ((a == 3 || a == 23) && ncO (a + 6)) = true := by decide +kernel
theorem scO {a : Nat} (h : Sc a) : ncO a = true ∧ ncO (a + 1) = true ∧ ncO (a + 2) = true ∧ ncO (a + 3) = true := by
  have := scO_all a (by have := h.2.2.2.2.1; omega) h.1
  simp only [Bool.and_eq_true] at this
  exact ⟨this.1.1.1, this.1.1.2, this.1.2, this.2⟩
theorem fdO {a : Nat} (h : IsFd a) : ncO a = true := fdO_all a h.2 h.1
theorem lwO {a : Nat} (h : IsLw a) : (a = 5 ∨ a = 25) ∧ ncO (a + 1) = true ∧ ncO (a + 2) = true ∧ ncO (a + 3) = true := by
  have := lwO_all a (by have := h.2.2.2.2.1; omega) h.1
  simp only [Bool.and_eq_true, Bool.or_eq_true, beq_iff_eq] at this
  exact ⟨this.1.1.1, this.1.1.2, this.1.2, this.2⟩
theorem bdO {a : Nat} (h : IsBd a) : (a = 3 ∨ a = 23) ∧ ncO (a + 6) = true := by
  have := bdO_all a (by have := h.2.2.2.2.1; omega) h.1
  simp only [Bool.and_eq_true, Bool.or_eq_true, beq_iff_eq] at this
  exact ⟨this.1, this.2⟩
theorem bdN {a : Nat} (k : Nat) (h : IsBd a) (hk : k ≠ 2) : nc a k = true := by
  rcases (bdO h).1 with rfl | rfl
  · simp [nc, ckk]; omega
  · simp [nc, ckk]; omega
theorem lwC {a : Nat} (h : IsLw a) : (a, 3, 0, 404) ∈ ckk := by
  rcases (lwO h).1 with rfl | rfl <;> decide
theorem bdC {a : Nat} (h : IsBd a) : (a, 2, 0, 5) ∈ ckk := by
  rcases (bdO h).1 with rfl | rfl <;> decide
theorem lwNz {a : Nat} (h : IsLw a) : a ≠ 0 := by
  rcases (lwO h).1 with rfl | rfl <;> decide
theorem bdNz {a : Nat} (h : IsBd a) : a ≠ 0 := by
  rcases (bdO h).1 with rfl | rfl <;> decide
