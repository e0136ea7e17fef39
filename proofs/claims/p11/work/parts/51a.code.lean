/-! SUMS AS ORDERS: by going down, and by what waits -/
def opc (w : Int) : Int32 := if w = 43 then -10 else if w = 45 then -11 else if w = 42 then -12 else -13
def stB (w : Int) : Bool := decide (w = 42 ∨ w = 47)
def wl (w : Int) : List Int32 := if w = 0 then [] else [opc w]
/-- what comes out of those that wait -/
def popW (s : Bool) : List Int → List Int32 × List Int
  | [] => ([], [])
  | w :: r => if w = 40 ∨ (s = true ∧ (w = 43 ∨ w = 45)) then ([], w :: r) else (opc w :: (popW s r).1, (popW s r).2)
/-- by what waits: the orders, and where it ends -/
def mE (kd vl : Nat → Int) : Nat → Bool → List Int → Nat → Option (List Int32 × Nat)
  | 0 => fun _ _ _ => none
  | k + 1 => fun u W t =>
    if u = true then
      (if kd t = 30 then (mE kd vl k false W (t + 1)).map (fun r => (Int32.ofInt (vl t) :: r.1, r.2))
      else if 0 ≤ kd t ∧ kd t < 9 then (mE kd vl k false W (t + 1)).map (fun r => (Int32.ofInt (-1 - kd t) :: r.1, r.2))
      else if kd t = 40 then mE kd vl k true (40 :: W) (t + 1) else none)
    else (if kd t = 42 ∨ kd t = 43 ∨ kd t = 45 ∨ kd t = 47 then (mE kd vl k true (kd t :: (popW (stB (kd t)) W).2) (t + 1)).map (fun r => ((popW (stB (kd t)) W).1 ++ r.1, r.2))
      else if (popW false W).2 = [] then some ((popW false W).1, t)
      else if kd t = 41 then (mE kd vl k false ((popW false W).2.tail) (t + 1)).map (fun r => ((popW false W).1 ++ r.1, r.2)) else none)
def ME (kd vl : Nat → Int) (u : Bool) (W : List Int) (t : Nat) (r : List Int32 × Nat) : Prop := ∃ k, mE kd vl k u W t = some r
theorem map_up {α β : Type} {a b : Option α} {f : α → β} {r : β} (h : ∀ y, a = some y → b = some y) (e : a.map f = some r) : b.map f = some r := by
  cases a with
  | none => cases e
  | some y => rw [h y rfl]; exact e
theorem mE_up {kd vl : Nat → Int} : ∀ (k : Nat) (u : Bool) (W : List Int) (t : Nat) (r : List Int32 × Nat), mE kd vl k u W t = some r → mE kd vl (k + 1) u W t = some r := by
  intro k
  induction k with
  | zero => intro u W t r e; cases e
  | succ k ih =>
    intro u W t r e
    unfold mE at e ⊢
    by_cases h1 : u = true
    · rw [if_pos h1] at e ⊢
      by_cases h2 : kd t = 30
      · rw [if_pos h2] at e ⊢
        exact map_up (ih _ _ _) e
      · rw [if_neg h2] at e ⊢
        by_cases h3 : 0 ≤ kd t ∧ kd t < 9
        · rw [if_pos h3] at e ⊢
          exact map_up (ih _ _ _) e
        · rw [if_neg h3] at e ⊢
          by_cases h4 : kd t = 40
          · rw [if_pos h4] at e ⊢
            exact ih _ _ _ _ e
          · rw [if_neg h4] at e; cases e
    · rw [if_neg h1] at e ⊢
      by_cases h2 : kd t = 42 ∨ kd t = 43 ∨ kd t = 45 ∨ kd t = 47
      · rw [if_pos h2] at e ⊢
        exact map_up (ih _ _ _) e
      · rw [if_neg h2] at e ⊢
        by_cases h3 : (popW false W).2 = []
        · rw [if_pos h3] at e ⊢
          exact e
        · rw [if_neg h3] at e ⊢
          by_cases h4 : kd t = 41
          · rw [if_pos h4] at e ⊢
            exact map_up (ih _ _ _) e
          · rw [if_neg h4] at e; cases e
theorem mE_le {kd vl : Nat → Int} {u : Bool} {W : List Int} {t : Nat} {r : List Int32 × Nat} : ∀ (j k : Nat), mE kd vl k u W t = some r → mE kd vl (k + j) u W t = some r := by
  intro j
  induction j with
  | zero => intro k e; exact e
  | succ j ih => intro k e; exact mE_up _ _ _ _ _ (ih k e)
theorem ME.uniq {kd vl : Nat → Int} {u : Bool} {W : List Int} {t : Nat} {r r' : List Int32 × Nat} (a : ME kd vl u W t r) (b : ME kd vl u W t r') : r = r' := by
  obtain ⟨k, a⟩ := a
  obtain ⟨j, b⟩ := b
  have x := mE_le j k a
  have y := mE_le k j b
  rw [Nat.add_comm] at y
  rw [x] at y
  exact Option.some.inj y
section ME
variable {kd vl : Nat → Int} {W : List Int} {t t' : Nat} {C : List Int32}
theorem ME.num (h : kd t = 30) (a : ME kd vl false W (t + 1) (C, t')) : ME kd vl true W t (Int32.ofInt (vl t) :: C, t') := by
  obtain ⟨k, a⟩ := a
  refine ⟨k + 1, ?_⟩
  unfold mE
  rw [if_pos rfl, if_pos h, a]; rfl
theorem ME.var (h : 0 ≤ kd t ∧ kd t < 9) (a : ME kd vl false W (t + 1) (C, t')) : ME kd vl true W t (Int32.ofInt (-1 - kd t) :: C, t') := by
  obtain ⟨k, a⟩ := a
  refine ⟨k + 1, ?_⟩
  unfold mE
  rw [if_pos rfl, if_neg (by omega), if_pos h, a]; rfl
theorem ME.lp (h : kd t = 40) (a : ME kd vl true (40 :: W) (t + 1) (C, t')) : ME kd vl true W t (C, t') := by
  obtain ⟨k, a⟩ := a
  refine ⟨k + 1, ?_⟩
  unfold mE
  rw [if_pos rfl, if_neg (by omega), if_neg (by omega), if_pos h, a]
theorem ME.op (h : isOp (kd t)) (a : ME kd vl true (kd t :: (popW (stB (kd t)) W).2) (t + 1) (C, t')) : ME kd vl false W t ((popW (stB (kd t)) W).1 ++ C, t') := by
  obtain ⟨k, a⟩ := a
  refine ⟨k + 1, ?_⟩
  unfold mE
  rw [if_neg (by decide), if_pos (op_d h), a]; rfl
theorem ME.fin (h : ¬ isOp (kd t)) (z : (popW false W).2 = []) : ME kd vl false W t ((popW false W).1, t) := by
  refine ⟨1, ?_⟩
  unfold mE
  rw [if_neg (by decide), if_neg (op_n h), if_pos z]
theorem ME.rp (h : kd t = 41) (z : (popW false W).2 ≠ []) (a : ME kd vl false ((popW false W).2.tail) (t + 1) (C, t')) : ME kd vl false W t ((popW false W).1 ++ C, t') := by
  obtain ⟨k, a⟩ := a
  refine ⟨k + 1, ?_⟩
  unfold mE
  rw [if_neg (by decide), if_neg (by omega), if_neg z, if_pos h, a]; rfl
/-- of one that goes on from a unit's end: what is due there -/
theorem ME.inv {r : List Int32 × Nat} (a : ME kd vl false W t r) : (isOp (kd t) ∧ ∃ C, ME kd vl true (kd t :: (popW (stB (kd t)) W).2) (t + 1) (C, r.2) ∧ r.1 = (popW (stB (kd t)) W).1 ++ C) ∨ (¬ isOp (kd t) ∧ (popW false W).2 = [] ∧ r = ((popW false W).1, t)) ∨ (¬ isOp (kd t) ∧ (popW false W).2 ≠ [] ∧ kd t = 41 ∧ ∃ C, ME kd vl false ((popW false W).2.tail) (t + 1) (C, r.2) ∧ r.1 = (popW false W).1 ++ C) := by
  obtain ⟨k, a⟩ := a
  cases k with
  | zero => cases a
  | succ k =>
    unfold mE at a
    rw [if_neg (by decide)] at a
    by_cases h2 : kd t = 42 ∨ kd t = 43 ∨ kd t = 45 ∨ kd t = 47
    · rw [if_pos h2] at a
      obtain ⟨x, x1, x2⟩ := Option.map_eq_some_iff.mp a
      exact Or.inl ⟨h2, x.1, ⟨k, by rw [← x2]; exact x1⟩, by rw [← x2]⟩
    · rw [if_neg h2] at a
      by_cases h3 : (popW false W).2 = []
      · rw [if_pos h3] at a
        exact Or.inr (Or.inl ⟨h2, h3, (Option.some.inj a).symm⟩)
      · rw [if_neg h3] at a
        by_cases h4 : kd t = 41
        · rw [if_pos h4] at a
          obtain ⟨x, x1, x2⟩ := Option.map_eq_some_iff.mp a
          exact Or.inr (Or.inr ⟨h2, h3, h4, x.1, ⟨k, by rw [← x2]; exact x1⟩, by rw [← x2]⟩)
        · rw [if_neg h4] at a; cases a
end ME
/-- what going down asks: 0 a unit, 1 what follows one (w waits), 2 a sum; within d ( -/
def RDc (kd vl : Nat → Int) (P : Nat → Int → Nat → Nat → List Int32 → Nat → Prop) : Prop :=
  (∀ w d t, kd t = 30 → P 0 w d t [Int32.ofInt (vl t)] (t + 1)) ∧
  (∀ w d t, 0 ≤ kd t ∧ kd t < 9 → P 0 w d t [Int32.ofInt (-1 - kd t)] (t + 1)) ∧
  (∀ w d t C t1, kd t = 40 → d < 6 → P 2 0 (d + 1) (t + 1) C t1 → kd t1 = 41 → P 0 w d t C (t1 + 1)) ∧
  (∀ w d t C t1 D t2, (kd t = 42 ∨ kd t = 47) → P 0 0 d (t + 1) C t1 → P 1 w d t1 D t2 → P 1 w d t (C ++ opc (kd t) :: D) t2) ∧
  (∀ w d t C t1 D t2, (kd t = 43 ∨ kd t = 45) → P 0 0 d (t + 1) C t1 → P 1 (kd t) d t1 D t2 → P 1 w d t (wl w ++ (C ++ D)) t2) ∧
  (∀ w d t, ¬ isOp (kd t) → P 1 w d t (wl w) t) ∧
  (∀ w d t C t1 D t2, P 0 0 d t C t1 → P 1 0 d t1 D t2 → P 2 w d t (C ++ D) t2)
def RD (kd vl : Nat → Int) (m : Nat) (w : Int) (d t : Nat) (C : List Int32) (t' : Nat) : Prop := ∀ P, RDc kd vl P → P m w d t C t'
section RD
variable {kd vl : Nat → Int} {w : Int} {d t t1 t2 : Nat} {C D : List Int32}
theorem RD.num (h : kd t = 30) : RD kd vl 0 w d t [Int32.ofInt (vl t)] (t + 1) := fun _ p => p.1 _ _ _ h
theorem RD.var (h : 0 ≤ kd t ∧ kd t < 9) : RD kd vl 0 w d t [Int32.ofInt (-1 - kd t)] (t + 1) := fun _ p => p.2.1 _ _ _ h
theorem RD.par (h : kd t = 40) (h6 : d < 6) (a : RD kd vl 2 0 (d + 1) (t + 1) C t1) (h1 : kd t1 = 41) : RD kd vl 0 w d t C (t1 + 1) := fun P p => p.2.2.1 _ _ _ _ _ h h6 (a P p) h1
theorem RD.str (h : kd t = 42 ∨ kd t = 47) (a : RD kd vl 0 0 d (t + 1) C t1) (b : RD kd vl 1 w d t1 D t2) : RD kd vl 1 w d t (C ++ opc (kd t) :: D) t2 := fun P p => p.2.2.2.1 _ _ _ _ _ _ _ h (a P p) (b P p)
theorem RD.weak (h : kd t = 43 ∨ kd t = 45) (a : RD kd vl 0 0 d (t + 1) C t1) (b : RD kd vl 1 (kd t) d t1 D t2) : RD kd vl 1 w d t (wl w ++ (C ++ D)) t2 := fun P p => p.2.2.2.2.1 _ _ _ _ _ _ _ h (a P p) (b P p)
theorem RD.fin (h : ¬ isOp (kd t)) : RD kd vl 1 w d t (wl w) t := fun _ p => p.2.2.2.2.2.1 _ _ _ h
theorem RD.sum (a : RD kd vl 0 0 d t C t1) (b : RD kd vl 1 0 d t1 D t2) : RD kd vl 2 w d t (C ++ D) t2 := fun P p => p.2.2.2.2.2.2 _ _ _ _ _ _ _ (a P p) (b P p)
end RD
/-- as one waits in a sum: nothing or + -, above ( or nothing -/
def bsW (W : List Int) : Prop := W = [] ∨ ∃ V, W = 40 :: V
def waW (w : Int) : List Int → List Int := fun W => if w = 0 then W else w :: W
theorem pop_b {s : Bool} {W : List Int} (b : bsW W) : popW s W = ([], W) := by
  rcases b with rfl | ⟨V, rfl⟩
  · rfl
  · unfold popW; rw [if_pos (Or.inl rfl)]
theorem pop_ws {w : Int} {W : List Int} (b : bsW W) (h : w = 0 ∨ w = 43 ∨ w = 45) : popW true (waW w W) = ([], waW w W) := by
  unfold waW
  by_cases z : w = 0
  · rw [if_pos z]; exact pop_b b
  · rw [if_neg z]
    unfold popW
    rw [if_pos (Or.inr ⟨rfl, by omega⟩)]
theorem pop_ww {w : Int} {W : List Int} (b : bsW W) (h : w = 0 ∨ w = 43 ∨ w = 45) : popW false (waW w W) = (wl w, W) := by
  unfold waW wl
  by_cases z : w = 0
  · rw [if_pos z, if_pos z]; exact pop_b b
  · rw [if_neg z, if_neg z]
    unfold popW
    rw [if_neg (fun y => by rcases y with y | ⟨y, _⟩ <;> first | omega | cases y), pop_b b]
theorem pop_s {s : Bool} {w : Int} {V : List Int} (h : w = 42 ∨ w = 47) : popW s (w :: V) = (opc w :: (popW s V).1, (popW s V).2) := by
  conv => lhs; unfold popW
  rw [if_neg (by omega)]
/-- a strong one that waits comes out, whatever is next -/
theorem ME.strong {kd vl : Nat → Int} {w : Int} {V : List Int} {t : Nat} {C : List Int32} {t' : Nat} (h : w = 42 ∨ w = 47) (a : ME kd vl false V t (C, t')) : ME kd vl false (w :: V) t (opc w :: C, t') := by
  have e (s : Bool) := pop_s (s := s) (V := V) h
  rcases a.inv with ⟨i1, D, i2, i3⟩ | ⟨i1, i2, i3⟩ | ⟨i1, i2, i3, D, i4, i5⟩
  · have i3' : C = (popW (stB (kd t)) V).1 ++ D := i3
    have := ME.op (W := w :: V) (C := D) (t' := t') i1 (by rw [e]; exact i2)
    rw [e] at this
    rw [i3']; exact this
  · have i3' : (C, t') = ((popW false V).1, t) := i3
    cases i3'
    have := ME.fin (vl := vl) (W := w :: V) i1 (by rw [e]; exact i2)
    rw [e] at this
    exact this
  · have i5' : C = (popW false V).1 ++ D := i5
    have := ME.rp (W := w :: V) (C := D) (t' := t') i3 (by rw [e]; exact i2) (by rw [e]; exact i4)
    rw [e] at this
    rw [i5']; exact this
/-- what going down lays comes out, by what waits -/
theorem RD.me {kd vl : Nat → Int} {m : Nat} {w : Int} {d t t1 : Nat} {C : List Int32} (a : RD kd vl m w d t C t1) :
    (m = 0 → ∀ W C' t', ME kd vl false W t1 (C', t') → ME kd vl true W t (C ++ C', t')) ∧
    (m = 1 → ¬ isOp (kd t1) ∧ ((w = 0 ∨ w = 43 ∨ w = 45) → ∀ W C' t', bsW W → ME kd vl false W t1 (C', t') → ME kd vl false (waW w W) t (C ++ C', t'))) ∧
    (m = 2 → ¬ isOp (kd t1) ∧ ∀ W C' t', bsW W → ME kd vl false W t1 (C', t') → ME kd vl true W t (C ++ C', t')) := by
  refine a (fun m w _ t C t1 => (m = 0 → ∀ W C' t', ME kd vl false W t1 (C', t') → ME kd vl true W t (C ++ C', t')) ∧
    (m = 1 → ¬ isOp (kd t1) ∧ ((w = 0 ∨ w = 43 ∨ w = 45) → ∀ W C' t', bsW W → ME kd vl false W t1 (C', t') → ME kd vl false (waW w W) t (C ++ C', t'))) ∧
    (m = 2 → ¬ isOp (kd t1) ∧ ∀ W C' t', bsW W → ME kd vl false W t1 (C', t') → ME kd vl true W t (C ++ C', t'))) ⟨?_, ?_, ?_, ?_, ?_, ?_, ?_⟩
  · intro w d t h
    exact ⟨fun _ W C' t' x => ME.num h x, fun z => absurd z (by decide), fun z => absurd z (by decide)⟩
  · intro w d t h
    exact ⟨fun _ W C' t' x => ME.var h x, fun z => absurd z (by decide), fun z => absurd z (by decide)⟩
  · intro w d t C t1 h h6 p h1
    refine ⟨fun _ W C' t' x => ?_, fun z => absurd z (by decide), fun z => absurd z (by decide)⟩
    have bw : bsW (40 :: W) := Or.inr ⟨W, rfl⟩
    have e := pop_b (s := false) bw
    have := ME.rp (W := 40 :: W) (C := C') (t' := t') h1 (by rw [e]; exact List.cons_ne_nil _ _) (by rw [e]; exact x)
    rw [e] at this
    exact ((p.2.2 rfl).2 (40 :: W) C' t' bw this).lp h
  · intro w d t C t1 D t2 h p q
    refine ⟨fun z => absurd z (by decide), fun _ => ⟨(q.2.1 rfl).1, fun hw W C' t' b x => ?_⟩, fun z => absurd z (by decide)⟩
    have y := (q.2.1 rfl).2 hw W C' t' b x
    have y2 := (p.1 rfl) (kd t :: waW w W) _ _ (y.strong h)
    have sb : stB (kd t) = true := by unfold stB; exact decide_eq_true h
    have hop : isOp (kd t) := by unfold isOp; omega
    have z := ME.op (W := waW w W) (C := C ++ (opc (kd t) :: (D ++ C'))) (t' := t') hop (by rw [sb, pop_ws b hw]; exact y2)
    rw [sb, pop_ws b hw] at z
    have e : C ++ opc (kd t) :: D ++ C' = [] ++ (C ++ opc (kd t) :: (D ++ C')) := by simp
    rw [e]; exact z
  · intro w d t C t1 D t2 h p q
    refine ⟨fun z => absurd z (by decide), fun _ => ⟨(q.2.1 rfl).1, fun hw W C' t' b x => ?_⟩, fun z => absurd z (by decide)⟩
    have y := (q.2.1 rfl).2 (by omega) W C' t' b x
    have y2 := (p.1 rfl) (waW (kd t) W) _ _ y
    have sb : stB (kd t) = false := by unfold stB; exact decide_eq_false (by omega)
    have ww : waW (kd t) W = kd t :: W := by unfold waW; rw [if_neg (by omega)]
    have hop : isOp (kd t) := by unfold isOp; omega
    have z := ME.op (W := waW w W) (C := C ++ (D ++ C')) (t' := t') hop (by rw [sb, pop_ww b hw, ← ww]; exact y2)
    rw [sb, pop_ww b hw] at z
    have e : wl w ++ (C ++ D) ++ C' = wl w ++ (C ++ (D ++ C')) := by simp
    rw [e]; exact z
  · intro w d t h
    refine ⟨fun z => absurd z (by decide), fun _ => ⟨h, fun hw W C' t' b x => ?_⟩, fun z => absurd z (by decide)⟩
    have e0 := pop_b (s := false) b
    have e1 := pop_ww b hw
    rcases x.inv with ⟨i1, _⟩ | ⟨i1, i2, i3⟩ | ⟨i1, i2, i3, D, i4, i5⟩
    · exact absurd i1 h
    · rw [e0] at i2 i3
      cases i3
      have := ME.fin (vl := vl) (W := waW w W) h (by rw [e1]; exact i2)
      rw [e1] at this
      rw [List.append_nil]; exact this
    · rw [e0] at i2 i4 i5
      have i5' : C' = D := i5
      have := ME.rp (W := waW w W) (C := D) (t' := t') i3 (by rw [e1]; exact i2) (by rw [e1]; exact i4)
      rw [e1] at this
      rw [i5']; exact this
  · intro w d t C t1 D t2 p q
    refine ⟨fun z => absurd z (by decide), fun z => absurd z (by decide), fun _ => ⟨(q.2.1 rfl).1, fun W C' t' b x => ?_⟩⟩
    have y := (q.2.1 rfl).2 (Or.inl rfl) W C' t' b x
    have y2 := (p.1 rfl) W _ _ y
    rw [List.append_assoc]; exact y2
/-- a whole sum's orders, by what waits -/
theorem RD.whole {kd vl : Nat → Int} {w : Int} {d t t1 : Nat} {C : List Int32} (a : RD kd vl 2 w d t C t1) : ME kd vl true [] t (C, t1) := by
  obtain ⟨h1, h2⟩ := a.me.2.2 rfl
  have := h2 [] [] t1 (Or.inl rfl) (ME.fin h1 rfl)
  rw [List.append_nil] at this
  exact this
/-! how deep the pile gets -/
theorem ofI {z : Int} (h1 : -2147483648 ≤ z) (h2 : z ≤ 2147483647) : (Int32.ofInt z).toInt = z := by
  rw [Int32.toInt_ofInt]
  exact bmT h1 h2
theorem opc_i (w : Int) (h : isOp w) : -13 ≤ (opc w).toInt ∧ (opc w).toInt < -9 := by
  unfold isOp at h
  rcases h with rfl | rfl | rfl | rfl <;> decide
theorem dp_op {m d : Nat} {w : Int} {r : List Int32} (h : isOp w) (h2 : 2 ≤ d) : dpL m (opc w :: r) d = dpL m r (d - 1) := by
  have := opc_i w h
  show (if -13 ≤ (opc w).toInt then (if -9 ≤ (opc w).toInt then (if d < m then dpL m r (d + 1) else none) else if 2 ≤ d then dpL m r (d - 1) else none) else none) = _
  rw [if_pos (by omega), if_neg (by omega), if_pos h2]
theorem dp_num {m d : Nat} {c : Int32} {r : List Int32} (h : -9 ≤ c.toInt) (h2 : d < m) : dpL m (c :: r) d = dpL m r (d + 1) := by
  show (if -13 ≤ c.toInt then (if -9 ≤ c.toInt then (if d < m then dpL m r (d + 1) else none) else if 2 ≤ d then dpL m r (d - 1) else none) else none) = _
  rw [if_pos (by omega), if_pos h, if_pos h2]
/-- the orders of a sum within d ( take no more than 15 - 2 d on a pile -/
theorem RD.dp {kd vl : Nat → Int} (vlr : ∀ t, kd t = 30 → 0 ≤ vl t ∧ vl t ≤ 9999) {m : Nat} {w : Int} {d t t1 : Nat} {C : List Int32} (a : RD kd vl m w d t C t1) :
    (m = 0 → ∀ M e, d ≤ 6 → e + 13 ≤ M + 2 * d → dpL M C e = some (e + 1)) ∧
    (m = 1 → (w = 0 ∨ w = 43 ∨ w = 45) → ∀ M e, d ≤ 6 → e + 15 ≤ M + 2 * d → (w = 0 → dpL M C (e + 1) = some (e + 1)) ∧ (w ≠ 0 → dpL M C (e + 2) = some (e + 1))) ∧
    (m = 2 → ∀ M e, d ≤ 6 → e + 15 ≤ M + 2 * d → dpL M C e = some (e + 1)) := by
  refine a (fun m w d t C t1 => (m = 0 → ∀ M e, d ≤ 6 → e + 13 ≤ M + 2 * d → dpL M C e = some (e + 1)) ∧
    (m = 1 → (w = 0 ∨ w = 43 ∨ w = 45) → ∀ M e, d ≤ 6 → e + 15 ≤ M + 2 * d → (w = 0 → dpL M C (e + 1) = some (e + 1)) ∧ (w ≠ 0 → dpL M C (e + 2) = some (e + 1))) ∧
    (m = 2 → ∀ M e, d ≤ 6 → e + 15 ≤ M + 2 * d → dpL M C e = some (e + 1))) ⟨?_, ?_, ?_, ?_, ?_, ?_, ?_⟩
  · intro w d t h
    refine ⟨fun _ M e h6 h1 => ?_, fun z => absurd z (by decide), fun z => absurd z (by decide)⟩
    have := vlr t h
    have o := ofI (z := vl t) (by omega) (by omega)
    rw [dp_num (by omega) (by omega)]; rfl
  · intro w d t h
    refine ⟨fun _ M e h6 h1 => ?_, fun z => absurd z (by decide), fun z => absurd z (by decide)⟩
    have o := ofI (z := -1 - kd t) (by omega) (by omega)
    rw [dp_num (by omega) (by omega)]; rfl
  · intro w d t C t1 h h6 p h1
    exact ⟨fun _ M e h7 h2 => p.2.2 rfl M e (by omega) (by omega), fun z => absurd z (by decide), fun z => absurd z (by decide)⟩
  · intro w d t C t1 D t2 h p q
    refine ⟨fun z => absurd z (by decide), fun _ hw M e h6 h1 => ⟨fun z => ?_, fun z => ?_⟩, fun z => absurd z (by decide)⟩
    · rw [dpL_app, p.1 rfl M (e + 1) h6 (by omega)]
      show dpL M (opc (kd t) :: D) (e + 1 + 1) = _
      rw [dp_op (by unfold isOp; omega) (by omega)]
      exact ((q.2.1 rfl) hw M e h6 h1).1 z
    · rw [dpL_app, p.1 rfl M (e + 2) h6 (by omega)]
      show dpL M (opc (kd t) :: D) (e + 2 + 1) = _
      rw [dp_op (by unfold isOp; omega) (by omega)]
      exact ((q.2.1 rfl) hw M e h6 h1).2 z
  · intro w d t C t1 D t2 h p q
    have nz : kd t ≠ 0 := by omega
    refine ⟨fun z => absurd z (by decide), fun _ hw M e h6 h1 => ⟨fun z => ?_, fun z => ?_⟩, fun z => absurd z (by decide)⟩
    · unfold wl
      rw [if_pos z]
      show dpL M (C ++ D) (e + 1) = _
      rw [dpL_app, p.1 rfl M (e + 1) h6 (by omega)]
      exact ((q.2.1 rfl) (by omega) M e h6 h1).2 nz
    · unfold wl
      rw [if_neg z]
      show dpL M (opc w :: (C ++ D)) (e + 2) = _
      rw [dp_op (by unfold isOp; omega) (by omega)]
      show dpL M (C ++ D) (e + 1) = _
      rw [dpL_app, p.1 rfl M (e + 1) h6 (by omega)]
      exact ((q.2.1 rfl) (by omega) M e h6 h1).2 nz
  · intro w d t h
    refine ⟨fun z => absurd z (by decide), fun _ hw M e h6 h1 => ⟨fun z => ?_, fun z => ?_⟩, fun z => absurd z (by decide)⟩
    · unfold wl
      rw [if_pos z]; rfl
    · unfold wl
      rw [if_neg z, dp_op (by unfold isOp; omega) (by omega)]; rfl
  · intro w d t C t1 D t2 p q
    refine ⟨fun z => absurd z (by decide), fun z => absurd z (by decide), fun _ M e h6 h1 => ?_⟩
    rw [dpL_app, p.1 rfl M e h6 (by omega)]
    exact ((q.2.1 rfl) (Or.inl rfl) M e h6 h1).1 rfl
/-- a sum of a law's: 15 on the pile, 16 behind another -/
theorem RD.gd {kd vl : Nat → Int} (vlr : ∀ t, kd t = 30 → 0 ≤ vl t ∧ vl t ≤ 9999) {w : Int} {t t1 : Nat} {C : List Int32} (a : RD kd vl 2 w 0 t C t1) : gdC 16 C ∧ dpL 16 C 1 = some 2 :=
  ⟨(a.dp vlr).2.2 rfl 16 0 (by decide) (by decide), (a.dp vlr).2.2 rfl 16 1 (by decide) (by decide)⟩
/-- no more orders than TOKENS -/
theorem RD.len {kd vl : Nat → Int} {m : Nat} {w : Int} {d t t1 : Nat} {C : List Int32} (a : RD kd vl m w d t C t1) : (m = 0 → C.length + t ≤ t1) ∧ (m = 1 → C.length + t ≤ t1 + (wl w).length) ∧ (m = 2 → C.length + t ≤ t1) := by
  refine a (fun m w _ t C t1 => (m = 0 → C.length + t ≤ t1) ∧ (m = 1 → C.length + t ≤ t1 + (wl w).length) ∧ (m = 2 → C.length + t ≤ t1)) ⟨?_, ?_, ?_, ?_, ?_, ?_, ?_⟩
  · intro w d t h
    exact ⟨fun _ => by simp; omega, fun z => absurd z (by decide), fun z => absurd z (by decide)⟩
  · intro w d t h
    exact ⟨fun _ => by simp; omega, fun z => absurd z (by decide), fun z => absurd z (by decide)⟩
  · intro w d t C t1 h h6 p h1
    have := p.2.2 rfl
    exact ⟨fun _ => by omega, fun z => absurd z (by decide), fun z => absurd z (by decide)⟩
  · intro w d t C t1 D t2 h p q
    have x := p.1 rfl
    have y := q.2.1 rfl
    have e : (C ++ opc (kd t) :: D).length = C.length + 1 + D.length := by simp; omega
    exact ⟨fun z => absurd z (by decide), fun _ => by omega, fun z => absurd z (by decide)⟩
  · intro w d t C t1 D t2 h p q
    have x := p.1 rfl
    have y := q.2.1 rfl
    have e : (wl w ++ (C ++ D)).length = (wl w).length + C.length + D.length := by simp; omega
    have o : (wl (kd t)).length = 1 := by unfold wl; rw [if_neg (by omega)]; rfl
    exact ⟨fun z => absurd z (by decide), fun _ => by omega, fun z => absurd z (by decide)⟩
  · intro w d t h
    exact ⟨fun z => absurd z (by decide), fun _ => by omega, fun z => absurd z (by decide)⟩
  · intro w d t C t1 D t2 p q
    have x := p.1 rfl
    have y := q.2.1 rfl
    have e : (C ++ D).length = C.length + D.length := by simp
    have o : (wl 0).length = 0 := rfl
    exact ⟨fun z => absurd z (by decide), fun z => absurd z (by decide), fun _ => by omega⟩
/-- a sum has orders -/
theorem RD.ne0 {kd vl : Nat → Int} {m : Nat} {w : Int} {d t t1 : Nat} {C : List Int32} (a : RD kd vl m w d t C t1) : (m = 0 → C ≠ []) ∧ (m = 2 → C ≠ []) := by
  refine a (fun m w _ t C t1 => (m = 0 → C ≠ []) ∧ (m = 2 → C ≠ [])) ⟨?_, ?_, ?_, ?_, ?_, ?_, ?_⟩
  · intro w d t h
    exact ⟨fun _ => List.cons_ne_nil _ _, fun z => absurd z (by decide)⟩
  · intro w d t h
    exact ⟨fun _ => List.cons_ne_nil _ _, fun z => absurd z (by decide)⟩
  · intro w d t C t1 h h6 p h1
    exact ⟨fun _ => p.2 rfl, fun z => absurd z (by decide)⟩
  · intro w d t C t1 D t2 h p q
    exact ⟨fun z => absurd z (by decide), fun z => absurd z (by decide)⟩
  · intro w d t C t1 D t2 h p q
    exact ⟨fun z => absurd z (by decide), fun z => absurd z (by decide)⟩
  · intro w d t h
    exact ⟨fun z => absurd z (by decide), fun z => absurd z (by decide)⟩
  · intro w d t C t1 D t2 p q
    exact ⟨fun z => absurd z (by decide), fun _ z => p.1 rfl (List.append_eq_nil_iff.mp z).1⟩
theorem RD.ne {kd vl : Nat → Int} {t t1 : Nat} {C : List Int32} (a : RD kd vl 2 0 0 t C t1) : C ≠ [] := a.ne0.2 rfl
