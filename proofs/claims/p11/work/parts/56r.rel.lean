/-! WHAT BOTH HOLD: the row, what was, what is held; kept by what is done -/
def YN (y : Int32) (P : Prop) : Prop := (y = 0 ∧ ¬ P) ∨ (y = 1 ∧ P)
/-- within a count -/
def inN (c : Nat) (x : Int32) : Prop := 0 ≤ x.toInt ∧ x.toInt < (c : Int)
def inL (x : Int32) : Prop := 0 ≤ x.toInt ∧ x.toInt ≤ 100
/-- the row that both hold; what a text told; what was, what is held -/
def RLs (s : Nat) (T : TT) (h : Hp) : Prop := (VT T ∧ BDF T 23 h ∧ EN2 s T h ∧ SD5 T h) ∧ (SCR (wT T * gT T) T.go.length (hi h 262) 30 h ∧ RVR (wT T * gT T) T.go.length (hi h 262)) ∧ PST (wT T * gT T) T.go.length h ∧ HLD (wT T * gT T) T.go.length h
def rlC (a k : Nat) : Prop := (23 ≤ a ∧ a ≤ 27) ∨ (30 ≤ a ∧ a ≤ 33) ∨ (38 ≤ a ∧ a < 200) ∨ (214 ≤ a ∧ a < 226) ∨ (a = 226 ∧ (k = 18 ∨ k = 59)) ∨ (235 ≤ a ∧ a ≤ 258) ∨ a = 262 ∨ a = 264 ∨ a = 266 ∨ a = 273 ∨ a = 274
def rlK (h q : Hp) : Prop := ∀ a k, rlC a k → hi q a k = hi h a k
def DNc (T : TT) (f' : Nat → Int32) (h q : Hp) : Prop := ∃ qa, KC h qa ∧ (∀ a k, ¬ (28 ≤ a ∧ a ≤ 33) → hi q a k = hi qa a k) ∧ SCR (wT T * gT T) T.go.length f' 30 q
def bgJ (x k : Nat) : Prop := (260 ≤ x ∧ x ≤ 261) ∨ x = 263 ∨ x = 265 ∨ (x = 226 ∧ (k = 52 ∨ k = 55 ∨ k = 56))
def DNr (f' : Nat → Int32) (h q : Hp) : Prop := ∃ hb, frZ bgJ h hb ∧ (∀ k, k < 63 → hi hb 263 k = f' k) ∧ KRr hb q ∧ frZ (fun x k => x = 262 ∨ x = 266 ∨ (x = 226 ∧ k = 59)) hb q
def RFW (h : Hp) (f : Nat → Int32) : Prop := ∀ k, k < 63 → f k = hi h 262 k
def CPR (T : TT) (h q : Hp) : Prop := (∀ k, k < 63 → hi q 263 k = hi h 262 k) ∧ ((hi q 226 55).toInt = T.ws.2 ∧ vp_nar .boolean (hi q 226 56) = 0) ∧ frZ (fun x k => x = 263 ∨ (x = 226 ∧ (k = 55 ∨ k = 56))) h q
section R56R
variable {s G c : Nat} {T : TT} {h h0 q q1 q2 : Hp} {n : Nat} {x1 x2 : Int32} {f f' : Nat → Int32} {a : Nat}
theorem rlK.z {S : Nat → Nat → Prop} (f : frZ S h q) (m : ∀ x k, S x k → ¬ rlC x k) : rlK h q := fun a k e => f.1 a k (fun z => m a k z e)
theorem rlK.tr (a : rlK h0 h) (b : rlK h q) : rlK h0 q := fun x k e => (b x k e).trans (a x k e)
theorem rlK.rf (h : Hp) : rlK h h := fun _ _ _ => rfl
theorem RLs.kf (r : RLs s T h) (en' : EN2 s T q) (k : ∀ a j, rlC a j → ¬ (235 ≤ a ∧ a ≤ 258) → hi q a j = hi h a j) : RLs s T q := by
  obtain ⟨⟨v, bd, en, sd⟩, ⟨sc, rv⟩, ps, hd⟩ := r
  have c25 := (wg_T v).1
  have G5 := v.2.2.1.1
  have k62 : hi q 262 = hi h 262 := funext (fun j => k 262 j (by unfold rlC; omega) (by decide))
  refine ⟨⟨v, bd.at (fun y j h1 h2 => k y j (by unfold rlC; omega) (by omega)), en', fun c j hc hj => by rw [k 264 _ (by unfold rlC; omega) (by decide)]; exact sd c j hc hj⟩, ⟨?_, ?_⟩, ?_, ?_⟩
  · rw [k62]
    exact sc.to c25 G5 (fun j _ => k 30 j (by unfold rlC; omega) (by decide)) (fun j _ => k 31 j (by unfold rlC; omega) (by decide)) (fun j _ => k 32 j (by unfold rlC; omega) (by decide)) (fun j _ => k 33 j (by unfold rlC; omega) (by decide))
  · rw [k62]; exact rv
  · exact ps.same c25 G5 (fun a j h1 h2 => k a j (by unfold rlC; omega) (by omega)) (k 226 59 (by unfold rlC; omega) (by decide)) (fun j => k 266 j (by unfold rlC; omega) (by decide))
  · exact hd.same c25 G5 (fun a j h1 h2 => k a j (by unfold rlC; omega) (by omega)) (fun j => k 273 j (by unfold rlC; omega) (by decide)) (fun j => k 274 j (by unfold rlC; omega) (by decide))
theorem RLs.ke (r : RLs s T h) (k : rlK h q) : RLs s T q := r.kf (r.1.2.2.1.cg (fun a j h1 h2 => k a j (by unfold rlC; omega)) (k 226 18 (by unfold rlC; omega))) (fun a j h1 _ => k a j h1)
theorem KC.fr (kc : KC h q) (a k : Nat) (h1 : a ≠ 38) (h2 : ¬ (40 ≤ a ∧ a < 200)) : hi q a k = hi h a k := by
  obtain ⟨p, p', ⟨-, -, y3⟩, -, -, y10⟩ := kc
  have : p' < 40 := by rw [y3]; exact Nat.mod_lt _ (by decide)
  exact y10 a k h1 (by omega)
theorem RLs.done (r : RLs s T h0) (k1 : ∀ a k, 226 ≤ a → hi q1 a k = hi h0 a k) (a : DNc T f' h0 q1) (b : DNr f' q1 q2) (rv : RVR (wT T * gT T) T.go.length f') : RLs s T q2 := by
  obtain ⟨⟨v, bd, en, sd⟩, ⟨sc, rv0⟩, ps, hd⟩ := r
  have c25 := (wg_T v).1
  have G5 := v.2.2.1.1
  obtain ⟨qa, kc, fa, sc'⟩ := a
  obtain ⟨hb, fb, eb, kr, fq⟩ := b
  have lo (a k : Nat) (l : a < 226) : hi q2 a k = hi q1 a k := by
    rw [fq.1 a k (by omega), fb.1 a k (by unfold bgJ; omega)]
  have cl (a k : Nat) (h1 : ¬ (28 ≤ a ∧ a ≤ 33)) (h2 : a ≠ 38) (h3 : ¬ (40 ≤ a ∧ a < 200)) (l : a < 226) : hi q2 a k = hi h0 a k := by
    rw [lo a k l, fa a k h1, kc.fr a k h2 h3]
  have hC (a k : Nat) (h1 : ¬ bgJ a k) (h2 : ¬ (a = 262 ∨ a = 266 ∨ (a = 226 ∧ k = 59))) (g : 226 ≤ a) : hi q2 a k = hi h0 a k := by
    rw [fq.1 a k h2, fb.1 a k h1, k1 a k g]
  refine ⟨⟨v, bd.at (fun y k h1 h2 => cl y k (by omega) (by omega) (by omega) (by omega)), en.cg (fun a k h1 h2 => hC a k (by unfold bgJ; omega) (by omega) (by omega)) (hC 226 18 (by unfold bgJ; omega) (by omega) (by decide)), fun c k hc hk => by rw [hC 264 _ (by unfold bgJ; omega) (by omega) (by decide)]; exact sd c k hc hk⟩, ⟨?_, ?_⟩, ?_, ?_⟩
  · exact (sc'.to c25 G5 (b := 30) (fun k _ => lo 30 k (by decide)) (fun k _ => lo 31 k (by decide)) (fun k _ => lo 32 k (by decide)) (fun k _ => lo 33 k (by decide))).cg c25 G5 (fun k hk => (kr.1 k hk).trans (eb k hk))
  · exact rv.cg G5 (fun k hk => (kr.1 k (by omega)).trans (eb k (by omega)))
  · exact ps.keep c25 G5 sc rv0 kc (fun a k h1 h2 => by rw [lo a k (by omega), fa a k (by omega)]) kr (by rw [fb.1 226 59 (by unfold bgJ; omega), k1 226 59 (by decide)]) (fun k => by rw [fb.1 262 k (by unfold bgJ; omega), k1 262 k (by decide)]) (fun k => by rw [fb.1 266 k (by unfold bgJ; omega), k1 266 k (by decide)])
  · exact hd.same c25 G5 (fun a k h1 h2 => cl a k (by omega) (by omega) (by omega) (by omega)) (fun k => hC 273 k (by unfold bgJ; omega) (by omega) (by decide)) (fun k => hC 274 k (by unfold bgJ; omega) (by omega) (by decide))
/-- the reference's side, behind the class's call -/
theorem RLs.ref (r : RLs s T h0) (k1 : ∀ a k, 226 ≤ a → hi q a k = hi h0 a k) : EN2 s T q ∧ SD5 T q ∧ hi q 262 = hi h0 262 ∧ 0 ≤ (hi q 226 59).toInt ∧ (hi q 226 59).toInt ≤ 40 := by
  obtain ⟨⟨v, bd, en, sd⟩, -, ps, -⟩ := r
  obtain ⟨m, p, ⟨m40, -⟩, ⟨-, x2, -⟩, -⟩ := ps
  refine ⟨en.cg (fun a k h1 h2 => k1 a k (by omega)) (k1 226 18 (by decide)), fun c k hc hk => by rw [k1 264 _ (by decide)]; exact sd c k hc hk, funext (fun k => k1 262 k (by decide)), ?_⟩
  rw [k1 226 59 (by decide)]
  omega
theorem RLs.rg (r : RLs s T h0) : 0 ≤ (hi h0 38 1).toInt ∧ (hi h0 38 1).toInt ≤ 39 := by
  obtain ⟨-, -, ps, -⟩ := r
  obtain ⟨m, p, ⟨-, p40⟩, ⟨-, -, x3⟩, -⟩ := ps
  omega
/-! looks -/
theorem hs_c {w g : Nat} (e : FLD h a w g) (w5 : w ≤ 5) (g5 : g ≤ 5) : Pc (F_X3_has n h a x1) (fun q => q.2 = h ∧ YN q.1 (inN (w * g) x1)) := by
  have f0 := lit_0
  obtain ⟨e0, e1, -, -⟩ := e
  have c25 : w * g ≤ 25 := Nat.le_trans (Nat.mul_le_mul w5 g5) (by decide)
  have m := mlT (hi h a 0) (hi h a 1) (w : Int) e0 (by rw [e1, ← Int.natCast_mul]; omega) (by rw [e1, ← Int.natCast_mul]; omega)
  rw [e1, ← Int.natCast_mul] at m
  generalize w * g = c at m c25
  unfold F_X3_has
  generalize hi h a 0 * hi h a 1 = y at m
  refine Pc.lt (fun z => Pc.ret ⟨rfl, Or.inl ⟨rfl, fun w => ?_⟩⟩) (fun z => Pc.le (fun y => Pc.ret ⟨rfl, Or.inl ⟨rfl, fun w => ?_⟩⟩) (fun y => Pc.ret ⟨rfl, Or.inr ⟨rfl, ?_⟩⟩))
  · have := w.1
    omega
  · have := w.2
    omega
  · exact ⟨by omega, by omega⟩
theorem ic_r (v : VT T) (e : EN2 s T h) : Pc (F_X12_isCell n h x1) (fun q => q.2 = h ∧ YN q.1 (inN (wT T * gT T) x1)) := by
  have c25 := (wg_T v).1
  have f0 := lit_0
  have f1 := lit_1
  unfold F_X12_isCell
  refine Pc.bind (ce_r v e) (fun q1 h1 => ?_)
  obtain ⟨t1, t2⟩ := h1
  have s1 := sbT q1.1 1 (by omega) (by omega)
  rw [t1]
  generalize q1.1 - 1 = y3 at s1
  refine Pc.bind ez_in (fun q3 h3 => ?_)
  obtain ⟨t3, t4⟩ := h3
  refine Pc.chk (fun y => Pc.ret ⟨t3, ?_⟩)
  rcases y with y | y
  · refine Or.inl ⟨y, fun z => ?_⟩
    have z1 := z.1
    have z2 := z.2
    have := t4.mpr ⟨by omega, by omega⟩
    rw [y] at this
    exact this f0
  · refine Or.inr ⟨y, ?_⟩
    have := t4.mp (by rw [y, f1]; decide)
    exact ⟨by omega, by omega⟩
theorem ig_r (v : VT T) (e : EN2 s T h) : Pc (F_X12_isGoer n h x1) (fun q => q.2 = h ∧ YN q.1 (inN T.go.length x1)) := by
  have G5 := v.2.2.1.1
  have f0 := lit_0
  have f1 := lit_1
  have t2 := e.2.2.1
  unfold F_X12_isGoer
  rw [e.nc]
  have s1 := sbT (hi h 242 s) 1 (by omega) (by omega)
  generalize hi h 242 s - 1 = y3 at s1
  refine Pc.chk (fun _ => Pc.bind ez_in (fun q3 h3 => ?_))
  obtain ⟨t3, t4⟩ := h3
  refine Pc.chk (fun y => Pc.ret ⟨t3, ?_⟩)
  rcases y with y | y
  · refine Or.inl ⟨y, fun z => ?_⟩
    have z1 := z.1
    have z2 := z.2
    have := t4.mpr ⟨by omega, by omega⟩
    rw [y] at this
    exact this f0
  · refine Or.inr ⟨y, ?_⟩
    have := t4.mp (by rw [y, f1]; decide)
    exact ⟨by omega, by omega⟩
theorem hg_c (bd : BDF T 23 h) (G5 : T.go.length ≤ 5) : Pc (F_X0_hasGoer n h 23 x1) (fun q => q.2 = h ∧ YN q.1 (inN T.go.length x1)) := by
  have f0 := lit_0
  have f5 := lit_5
  have t2 := bd.2.1.1
  unfold F_X0_hasGoer
  refine Pc.lt (fun z => Pc.ret ⟨rfl, Or.inl ⟨rfl, fun w => ?_⟩⟩) (fun z => Pc.le (fun y => Pc.ret ⟨rfl, Or.inl ⟨rfl, fun w => ?_⟩⟩) (fun y => Pc.le (fun u => by exfalso; omega) (fun u => Pc.ret ⟨rfl, Or.inr ⟨rfl, by omega, by omega⟩⟩)))
  · have := w.1
    omega
  · have := w.2
    omega
theorem sp_c : Pc (F_X11_isSpan n h x1) (fun q => q.2 = h ∧ YN q.1 (inL x1)) := by
  have f0 := lit_0
  have f100 := lit_100
  unfold F_X11_isSpan
  refine Pc.lt (fun z => Pc.ret ⟨rfl, Or.inl ⟨rfl, fun w => ?_⟩⟩) (fun z => Pc.lt (fun y => Pc.ret ⟨rfl, Or.inl ⟨rfl, fun w => ?_⟩⟩) (fun y => Pc.ret ⟨rfl, Or.inr ⟨rfl, by omega, by omega⟩⟩))
  · have := w.1
    omega
  · have := w.2
    omega
theorem sp_r : Pc (F_X12_isLong n h x1) (fun q => q.2 = h ∧ YN q.1 (inL x1)) := by
  have f0 := lit_0
  have f1 := lit_1
  have f100 := lit_100
  unfold F_X12_isLong
  refine Pc.bind ez_in (fun q3 h3 => ?_)
  obtain ⟨t3, t4⟩ := h3
  refine Pc.chk (fun y => Pc.ret ⟨t3, ?_⟩)
  rcases y with y | y
  · refine Or.inl ⟨y, fun z => ?_⟩
    have z1 := z.1
    have z2 := z.2
    have := t4.mpr ⟨by omega, by omega⟩
    rw [y] at this
    exact this f0
  · refine Or.inr ⟨y, ?_⟩
    have := t4.mp (by rw [y, f1]; decide)
    exact ⟨by omega, by omega⟩
/-! the row is copied -/
theorem cp_2 (en : EN2 s T h0) : ∀ (n : Nat) (h : Hp) (l1 : Int32) (i : Nat), l1.toInt = (i : Int) → i ≤ 63 → (∀ a k, a ≠ 263 → hi h a k = hi h0 a k) → (∀ k, k < i → hi h 263 k = hi h0 262 k) → Pc (W_X12_copies n 2 h l1) (fun q => (∀ k, k < 63 → hi q 263 k = hi h0 262 k) ∧ (hi q 226 55).toInt = T.ws.2 ∧ vp_nar .boolean (hi q 226 56) = 0) := by
  intro n
  induction n with
  | zero => intro h l1 i a b c d; exact Pc.no
  | succ n ih =>
    intro h l1 i a b c d
    have f63 := lit_63
    have f1 := lit_1
    rw [u_X12_copies]
    refine Pc.pos rfl ?_
    refine Pc.le (fun z => Pc.chk (fun _ => Pc.ret ⟨fun k hk => ?_, ?_, ?_⟩)) (fun z => Pc.chk (fun _ => Pc.chk (fun _ => ?_)))
    · rw [hi_wrI, if_neg (by omega), hi_wrI, if_neg (by omega)]
      exact d k (by omega)
    · rw [hi_wrI, if_neg (by omega), hi_wrI, if_pos ⟨rfl, rfl⟩, c 226 18 (by decide), en.nc, c 249 s (by decide)]
      exact en.2.2.2.1.2
    · rw [hi_wrI, if_pos ⟨rfl, rfl⟩]
      decide
    · have n1 := ncT (show 0 ≤ l1.toInt by omega)
      have n2 : Int32.toNatClampNeg l1 = i := by omega
      have a1 := adT l1 1 (by omega) (by omega)
      rw [n2]
      refine ih _ (l1 + 1) (i + 1) (by omega) (by omega) (fun x k ne => by rw [hi_wrI, if_neg (fun w => ne w.1)]; exact c x k ne) (fun k hk => ?_)
      rw [hi_wrI]
      by_cases y : k = i
      · rw [if_pos ⟨rfl, y⟩, y]; exact c 262 i (by decide)
      · rw [if_neg (fun w => y w.2)]; exact d k (by omega)
theorem cp_r (en : EN2 s T h) : Pc (F_X12_copies n h) (CPR T h) := by
  intro q hq
  have z := zf_X12_copies q hq
  have e : W_X12_copies n 2 h 0 = some q := hq
  obtain ⟨k1, k2, k3⟩ := cp_2 (h0 := h) en n h 0 0 lit_0 (Nat.zero_le _) (fun _ _ _ => rfl) (fun k hk => absurd hk (Nat.not_lt_zero k)) q e
  exact ⟨k1, ⟨k2, k3⟩, z⟩
theorem CPR.en (x : CPR T h q) (e : EN2 s T h) : EN2 s T q := e.cg (fun a k h1 h2 => x.2.2.1 a k (by omega)) (x.2.2.1 226 18 (by omega))
theorem CPR.sd (x : CPR T h q) (e : SD5 T h) : SD5 T q := fun c k hc hk => by rw [x.2.2.1 264 _ (by omega)]; exact e c k hc hk
theorem CPR.bg (x : CPR T h q) : frZ bgJ h q := x.2.2.sub (fun x k z => by unfold bgJ; omega)
theorem wr_up {g : Hp} {a j : Nat} {v : Int32} : hi (wrI g a j v) a = upF (hi g a) j v := by
  funext k
  unfold upF
  rw [hi_wrI]
  by_cases y : k = j
  · rw [if_pos ⟨rfl, y⟩, if_pos y]
  · rw [if_neg (fun w => y w.2), if_neg y]
end R56R
