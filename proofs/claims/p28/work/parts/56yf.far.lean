/-! HOW FAR: in steps, in both (far, centre) -/
/-- behind k steps, each on what is open then -/
def SQ (T : TT) (O : Nat → Nat → Prop) (f : Nat) : Nat → Nat → Prop
  | 0 => fun i => i = f
  | k + 1 => fun i => nrP T (SQ T O f k) i ∧ O (k + 1) i
/-- a set's bits -/
def SBt (P : Nat → Prop) (x : Int32) : Prop := ∀ i, i < 32 → (bt x i = true ↔ P i)
noncomputable def pdB (P : Nat → Prop) (i : Nat) : Bool := @decide (P i) (Classical.propDecidable _)
theorem pdB_t {P : Nat → Prop} {i : Nat} : pdB P i = true ↔ P i := by
  unfold pdB
  exact @decide_eq_true_iff (P i) (Classical.propDecidable _)
theorem cntB_lt {p q : Nat → Bool} (m : ∀ i, p i = true → q i = true) {j : Nat} (h1 : q j = true) (h2 : p j = false) : ∀ n, cntB p n ≤ cntB q n ∧ (j < n → cntB p n + 1 ≤ cntB q n) := by
  intro n
  induction n with
  | zero => exact ⟨Nat.le_refl _, fun z => absurd z (Nat.not_lt_zero j)⟩
  | succ n ih =>
    obtain ⟨i1, i2⟩ := ih
    show cntB p n + (p n).toNat ≤ cntB q n + (q n).toNat ∧ (j < n + 1 → cntB p n + (p n).toNat + 1 ≤ cntB q n + (q n).toNat)
    have le : (p n).toNat ≤ (q n).toNat := by
      cases e : p n with
      | false => exact Nat.zero_le _
      | true => rw [m n e]; exact Nat.le_refl _
    refine ⟨by omega, fun z => ?_⟩
    by_cases y : j = n
    · subst y
      rw [h1, h2]
      have : (false : Bool).toNat = 0 := rfl
      have : (true : Bool).toNat = 1 := rfl
      omega
    · have := i2 (by omega)
      omega
theorem cntB_full {p : Nat → Bool} : ∀ n, n ≤ cntB p n → ∀ i, i < n → p i = true := by
  intro n
  induction n with
  | zero => intro _ i hi'; exact absurd hi' (Nat.not_lt_zero i)
  | succ n ih =>
    intro h i hi'
    have e : cntB p (n + 1) = cntB p n + (p n).toNat := rfl
    have l := cntB_le p n
    cases y : p n with
    | false =>
      rw [e, y] at h
      have : (false : Bool).toNat = 0 := rfl
      omega
    | true =>
      rw [e, y] at h
      have : (true : Bool).toNat = 1 := rfl
      by_cases z : i = n
      · rw [z]; exact y
      · exact ih (by omega) i (by omega)
section RYF
variable {s : Nat} {T : TT} {h h0 q g : Hp} {n n1 n2 : Nat} {x1 x2 x3 : Int32} {a f t : Nat} {O O' : Nat → Prop}
theorem sq_O (hO : O f) {k i : Nat} (z : SQ T (fun _ => O) f k i) : O i := by
  cases k with
  | zero =>
    have : i = f := z
    rw [this]; exact hO
  | succ k => exact z.2
theorem sq_lt {O2 : Nat → Nat → Prop} (v : VT T) (fc : f < wT T * gT T) {k i : Nat} (z : SQ T O2 f k i) : i < wT T * gT T := by
  cases k with
  | zero =>
    have : i = f := z
    rw [this]; exact fc
  | succ k => exact nrP_lt v z.1
theorem sq_up (v : VT T) (fc : f < wT T * gT T) (hO : O f) {k i : Nat} (z : SQ T (fun _ => O) f k i) : SQ T (fun _ => O) f (k + 1) i := ⟨nrP_in v (sq_lt v fc z) z, sq_O hO z⟩
theorem sq_add (v : VT T) (fc : f < wT T * gT T) (hO : O f) {k i : Nat} (z : SQ T (fun _ => O) f k i) : ∀ d, SQ T (fun _ => O) f (k + d) i := by
  intro d
  induction d with
  | zero => exact z
  | succ d ih => exact sq_up v fc hO ih
theorem sq_mono (v : VT T) (fc : f < wT T * gT T) (hO : O f) {k m i : Nat} (l : k ≤ m) (z : SQ T (fun _ => O) f k i) : SQ T (fun _ => O) f m i := by
  have := sq_add v fc hO z (m - k)
  rw [show k + (m - k) = m by omega] at this
  exact this
theorem sq_f (v : VT T) (fc : f < wT T * gT T) (hO : O f) (k : Nat) : SQ T (fun _ => O) f k f := sq_mono v fc hO (Nat.zero_le k) rfl
theorem sq_cg (v : VT T) (e : ∀ i, i < wT T * gT T → (O i ↔ O' i)) : ∀ k i, SQ T (fun _ => O) f k i ↔ SQ T (fun _ => O') f k i := by
  intro k
  induction k with
  | zero => exact fun i => Iff.rfl
  | succ k ih =>
    intro i
    show (nrP T (SQ T (fun _ => O) f k) i ∧ O i) ↔ (nrP T (SQ T (fun _ => O') f k) i ∧ O' i)
    rw [nrP.cg (fun j _ => ih j) i]
    exact ⟨fun z => ⟨z.1, (e i (nrP_lt v z.1)).mp z.2⟩, fun z => ⟨z.1, (e i (nrP_lt v z.1)).mpr z.2⟩⟩
/-- behind 24 steps all is done -/
theorem sq_25 (v : VT T) (fc : f < wT T * gT T) (hO : O f) (i : Nat) (z : SQ T (fun _ => O) f 25 i) : SQ T (fun _ => O) f 24 i := by
  have c25 := (wg_T v).1
  have key : ∀ k, (∀ i, SQ T (fun _ => O) f (k + 1) i → SQ T (fun _ => O) f k i) ∨ k + 1 ≤ cntB (pdB (SQ T (fun _ => O) f k)) 25 := by
    intro k
    induction k with
    | zero =>
      refine Or.inr ?_
      exact cntB_pos (f := pdB (SQ T (fun _ => O) f 0)) (i := f) (pdB_t.mpr rfl) 25 (by omega)
    | succ k ih =>
      have stay (st : ∀ i, SQ T (fun _ => O) f (k + 1) i → SQ T (fun _ => O) f k i) : ∀ i, SQ T (fun _ => O) f (k + 1 + 1) i → SQ T (fun _ => O) f (k + 1) i := by
        intro i w
        exact ⟨(nrP.cg (fun j _ => ⟨st j, sq_up v fc hO⟩) i).mp w.1, w.2⟩
      rcases ih with st | cn
      · exact Or.inl (stay st)
      · by_cases y : ∀ i, SQ T (fun _ => O) f (k + 1) i → SQ T (fun _ => O) f k i
        · exact Or.inl (stay y)
        · obtain ⟨j, hj⟩ := Classical.not_forall.mp y
          obtain ⟨j1, j2⟩ := Classical.not_imp.mp hj
          have lt := (cntB_lt (p := pdB (SQ T (fun _ => O) f k)) (q := pdB (SQ T (fun _ => O) f (k + 1))) (fun i w => pdB_t.mpr (sq_up v fc hO (pdB_t.mp w))) (j := j) (pdB_t.mpr j1) (Bool.eq_false_iff.mpr (fun w => j2 (pdB_t.mp w))) 25).2 (by have := sq_lt v fc j1; omega)
          exact Or.inr (by omega)
  rcases key 24 with st | cn
  · exact st i z
  · exact pdB_t.mp (cntB_full 25 cn i (by have := sq_lt v fc z; omega))
/-- the first time within K -/
def FHit (P : Nat → Prop) (K v : Nat) : Prop := v ≤ K ∧ P v ∧ ∀ m, m < v → ¬ P m
def FNo (P : Nat → Prop) (K : Nat) : Prop := ∀ m, m ≤ K → ¬ P m
theorem FHit.uniq {P : Nat → Prop} {K K' u w : Nat} (a : FHit P K u) (b : FHit P K' w) : u = w := by
  rcases Nat.lt_trichotomy u w with z | z | z
  · exact absurd a.2.1 (b.2.2 u z)
  · exact z
  · exact absurd b.2.1 (a.2.2 w z)
/-- the reference: how far -/
def opnW (T : TT) (ro : Int32) (i : Nat) : Prop := i < wT T * gT T ∧ bt ro i = false
theorem fo_21 (v : VT T) (en : EN2 s T h) (sd : SD5 T h) (fc : f < wT T * gT T) (tc : t < wT T * gT T) (ht : x2.toInt = (t : Int)) (l3b : ∀ i, i < 32 → (bt x3 i = true ↔ O i)) (hO : O f) : ∀ (n : Nat) (l4 l5 : Int32) (k : Nat), l5.toInt = (k : Int) → k ≤ 25 → SBt (SQ T (fun _ => O) f k) l4 → (∀ m, m < k → ¬ SQ T (fun _ => O) f m t) → Pc (W_X12_farOf n 21 h x1 x2 x3 l4 l5) (fun q => q.2 = h ∧ ((∃ u, FHit (fun m => SQ T (fun _ => O) f m t) 24 u ∧ q.1.toInt = (u : Int)) ∨ (q.1 = -2 ∧ FNo (fun m => SQ T (fun _ => O) f m t) 24))) := by
  intro n
  have c25 := (wg_T v).1
  induction n with
  | zero => intro l4 l5 k a b c d; exact Pc.no
  | succ n ih =>
    intro l4 l5 k a b c d
    have f1 := lit_1
    have f25 := lit_25
    rw [u_X12_farOf]
    refine Pc.pos rfl ?_
    refine Pc.le (fun z => Pc.ret ⟨rfl, Or.inr ⟨rfl, fun m hm => d m (by omega)⟩⟩) (fun z => ?_)
    have n1 := ncT (show 0 ≤ x2.toInt by omega)
    have n2 : Int32.toNatClampNeg x2 = t := by omega
    have b1 := btS1 l4 (c := x2) (by omega) (by omega)
    rw [n2] at b1
    refine Pc.eq (fun z1 => Pc.ret ⟨rfl, Or.inl ⟨k, ⟨by omega, (c t (by omega)).mp (b1.mp (z1.trans f1)), d⟩, a⟩⟩) (fun z1 => ?_)
    have a1 := adT l5 1 (by omega) (by omega)
    refine Pc.bind (nb_r v en sd) (fun q3 h3 => ?_)
    obtain ⟨t1, t2⟩ := h3
    rw [t1]
    refine ih _ (l5 + 1) (k + 1) (by omega) (by omega) (fun i hi' => ?_) (fun m hm w => ?_)
    · rw [bt_and, Bool.and_eq_true, t2 i hi', l3b i hi', nrP.cg (fun j hj => c j (by omega)) i]
      exact Iff.rfl
    · by_cases y : m = k
      · rw [y] at w
        exact z1 ((b1.mpr ((c t (by omega)).mpr w)).trans f1.symm)
      · exact d m (by omega) w
theorem fo_r (v : VT T) (en : EN2 s T h) (sd : SD5 T h) (fc : f < wT T * gT T) (tc : t < wT T * gT T) (hf : x1.toInt = (f : Int)) (ht : x2.toInt = (t : Int)) : Pc (F_X12_farOf n h x1 x2) (fun q => q.2 = h ∧ ((∃ u, FHit (fun m => SQ T (fun _ i => opnW T (hi h 263 50) i ∨ i = f ∨ i = t) f m t) 24 u ∧ q.1.toInt = (u : Int)) ∨ (q.1 = -2 ∧ FNo (fun m => SQ T (fun _ i => opnW T (hi h 263 50) i ∨ i = f ∨ i = t) f m t) 24))) := by
  have c25 := (wg_T v).1
  have m1 := ncT (show 0 ≤ x1.toInt by omega)
  have m2 : Int32.toNatClampNeg x1 = f := by omega
  unfold F_X12_farOf
  refine Pc.bind (fb_r v en) (fun q5 h5 => ?_)
  obtain ⟨t1, t2⟩ := h5
  rw [t1]
  refine fo_21 (O := fun i => opnW T (hi h 263 50) i ∨ i = f ∨ i = t) v en sd fc tc ht (fun i hi' => ?_) (Or.inr (Or.inl rfl)) n _ 0 0 lit_0 (by decide) (fun i hi' => ?_) (fun m hm => absurd hm (Nat.not_lt_zero m))
  · rw [bt_add (v := t) ht (by omega), bt_add (v := f) hf (by omega), t2 i hi']
    unfold opnW
    simp only [Bool.or_eq_true, Bool.and_eq_true, decide_eq_true_eq, Bool.not_eq_true', or_assoc]
  · rw [btL (by omega) (by omega), m2, decide_eq_true_eq]
    exact Iff.rfl
/-- the class: how far -/
theorem st_8 (v : VT T) (fl : FLD h 24 (wT T) (gT T)) (fc : f < wT T * gT T) (tc : t < wT T * gT T) (ht : x2.toInt = (t : Int)) (l3b : ∀ i, i < 32 → (bt x3 i = true ↔ O i ∧ (i ≠ f ∨ O' i))) (hO : O f) (O'f : ∀ i, O' i → O i) : ∀ (n : Nat) (l4 l5 : Int32) (k : Nat), l5.toInt = (k : Int) → k ≤ 26 → SBt (SQ T (fun _ => O) f k) l4 → (∀ m, m < k → ¬ SQ T (fun _ => O) f m t) → Pc (W_X3_steps n 8 h 24 x1 x2 x3 l4 l5) (fun q => q.2 = h ∧ ((∃ u, FHit (fun m => SQ T (fun _ => O) f m t) 25 u ∧ q.1.toInt = (u : Int)) ∨ (q.1 = -1 ∧ FNo (fun m => SQ T (fun _ => O) f m t) 25))) := by
  intro n
  have c25 := (wg_T v).1
  induction n with
  | zero => intro l4 l5 k a b c d; exact Pc.no
  | succ n ih =>
    intro l4 l5 k a b c d
    have f1 := lit_1
    have f25 := lit_25
    rw [u_X3_steps]
    refine Pc.pos rfl ?_
    refine Pc.lt (fun z => Pc.ret ⟨rfl, Or.inr ⟨rfl, fun m hm => d m (by omega)⟩⟩) (fun z => ?_)
    have sb := sh_bit l4 x2 t (by omega) ht
    refine Pc.ite (fun z1 => ?_) (fun z1 => Pc.ret ⟨rfl, Or.inl ⟨k, ⟨by omega, ?_, d⟩, a⟩⟩)
    · have no : ¬ SQ T (fun _ => O) f k t := fun w => sb.mp z1 ((c t (by omega)).mpr w)
      have a1 := adT l5 1 (by omega) (by omega)
      refine Pc.bind (gw_c v fl (fun j hj w => sq_lt v fc ((c j hj).mp w))) (fun q3 h3 => ?_)
      obtain ⟨t1, t2⟩ := h3
      rw [t1]
      refine ih _ (l5 + 1) (k + 1) (by omega) (by omega) (fun i hi' => ?_) (fun m hm w => ?_)
      · rw [bt_or, bt_and, Bool.or_eq_true, Bool.and_eq_true, t2 i hi', l3b i hi', c i hi', nrP.cg (fun j hj => c j (by omega)) i]
        refine ⟨fun w => ?_, fun w => ?_⟩
        · rcases w with w | w
          · exact sq_up v fc hO w
          · exact ⟨w.1, w.2.1⟩
        · by_cases y : i = f
          · rw [y]; exact Or.inl (sq_f v fc hO k)
          · exact Or.inr ⟨w.1, w.2, Or.inl y⟩
      · by_cases y : m = k
        · rw [y] at w
          exact no w
        · exact d m (by omega) w
    · refine (c t (by omega)).mp (Classical.byContradiction (fun w => z1 (sb.mpr w)))
theorem je_far (r : RLs s T h0) (k1 : ∀ a k, 226 ≤ a → hi q a k = hi h0 a k) : J2 (F_X11_far n1 h0 x1 x2) (F_X12_far n2 q x1 x2) := by
  obtain ⟨en, sd, e262, r59⟩ := r.ref k1
  have v := r.1.1
  have bd := r.1.2.1
  obtain ⟨c25, ⟨w2, w5⟩, ⟨g2, g5⟩, -, -⟩ := wg_T v
  have f0 := lit_0
  have fm1 := lit_m1
  have fm2 := lit_m2
  unfold F_X11_far F_X12_far
  refine J2.bind (hs_c bd.1 w5 g5) (ic_r v en) (fun a b ha hb => ?_)
  obtain ⟨t1, t2⟩ := ha
  obtain ⟨u1, u2⟩ := hb
  rw [t1, u1]
  refine J2.yn t2 u2 (fun _ => J2.ret rfl) (fun z => ?_)
  refine J2.bind (hs_c bd.1 w5 g5) (ic_r v en) (fun a b ha hb => ?_)
  obtain ⟨t3, t4⟩ := ha
  obtain ⟨u3, u4⟩ := hb
  rw [t3, u3]
  refine J2.yn t4 u4 (fun _ => J2.ret rfl) (fun z2 => ?_)
  obtain ⟨f, fc, hf⟩ := in_b z
  obtain ⟨t, tc, ht⟩ := in_b z2
  refine J2.br (cp_r en) (fun q4 cp => ?_)
  obtain ⟨sc, rv⟩ := r.row e262 cp.1
  have m1 := ncT (show 0 ≤ x1.toInt by omega)
  have m2 : Int32.toNatClampNeg x1 = f := by omega
  have st : Pc (F_X3_steps n1 h0 24 x1 x2 (((hi h0 24 2) &&& ((hi h0 30 2) ^^^ (-1))) ||| ((1 : Int32) <<< (x2 &&& 31)))) (fun q => q.2 = h0 ∧ ((∃ u, FHit (fun m => SQ T (fun _ i => opnW T (hi q4 263 50) i ∨ i = f ∨ i = t) f m t) 25 u ∧ q.1.toInt = (u : Int)) ∨ (q.1 = -1 ∧ FNo (fun m => SQ T (fun _ i => opnW T (hi q4 263 50) i ∨ i = f ∨ i = t) f m t) 25))) := by
    unfold F_X3_steps
    refine st_8 (O := fun i => opnW T (hi q4 263 50) i ∨ i = f ∨ i = t) (O' := fun i => opnW T (hi q4 263 50) i ∨ i = t) v bd.1 fc tc ht (fun i hi' => ?_) (Or.inr (Or.inl rfl)) (fun i w => w.elim Or.inl (fun u => Or.inr (Or.inr u))) n1 _ 0 0 f0 (by decide) (fun i hi' => ?_) (fun m hm => absurd hm (Nat.not_lt_zero m))
    · have ro : hi h0 30 2 = hi q4 263 50 := sc.1.2.2
      rw [bt_add (v := t) ht (by omega), bt_and, bt_not _ hi', bd.1.2.2.1 i hi', ro, Bool.or_eq_true, Bool.and_eq_true, decide_eq_true_eq, decide_eq_true_eq, Bool.not_eq_true']
      show (opnW T (hi q4 263 50) i ∨ i = t) ↔ (opnW T (hi q4 263 50) i ∨ i = f ∨ i = t) ∧ (i ≠ f ∨ (opnW T (hi q4 263 50) i ∨ i = t))
      refine ⟨fun w => ⟨w.elim Or.inl (fun u => Or.inr (Or.inr u)), Or.inr w⟩, fun w => ?_⟩
      rcases w with ⟨w1 | w1 | w1, w2⟩
      · exact Or.inl w1
      · rcases w2 with w2 | w2
        · exact absurd w1 w2
        · exact w2
      · exact Or.inr w1
    · rw [btL (by omega) (by omega), m2, decide_eq_true_eq]
      exact Iff.rfl
  refine J2.bind st (fo_r v (cp.en en) (cp.sd sd) fc tc hf ht) (fun x y hx hy => ?_)
  obtain ⟨-, hx⟩ := hx
  obtain ⟨-, hy⟩ := hy
  rcases hx with ⟨u, x1', x2'⟩ | ⟨x1', x2'⟩
  · refine J2.il (fun w => ?_) (fun _ => J2.ret (Int32.toInt_inj.mp ?_))
    · exfalso
      rw [w] at x2'
      omega
    · rcases hy with ⟨u', y1, y2⟩ | ⟨y1, y2⟩
      · rw [x2', y2, FHit.uniq x1' y1]
      · exfalso
        by_cases l : u ≤ 24
        · exact y2 u l x1'.2.1
        · have e25 : u = 25 := by have := x1'.1; omega
          have := x1'.2.1
          rw [e25] at this
          exact y2 24 (Nat.le_refl 24) (sq_25 (O := fun i => opnW T (hi q4 263 50) i ∨ i = f ∨ i = t) v fc (Or.inr (Or.inl rfl)) t this)
  · refine J2.pl x1' (J2.ret ?_)
    rcases hy with ⟨u', y1, y2⟩ | ⟨y1, y2⟩
    · exact absurd y1.2.1 (x2' u' (by have := y1.1; omega))
    · exact y1.symm
end RYF
section RYFe
variable {h0 : Hp} {n1 n2 : Nat} {x1 x2 x3 : Int32} {q1 q2 : Int32 × Hp}
theorem eq_far (w : Ir h0) (e1 : F_X11_far n1 h0 x1 x2 = some q1) (e2 : F_X12_far n2 q1.2 x1 x2 = some q2) : q1.1 = q2.1 := by
  obtain ⟨s, T, r⟩ := w.2
  exact je_far r (frZ.hr (zf_X11_far q1 e1) (fun x k z => z.elim)) q1 q2 e1 e2
end RYFe
