/-! ASKS, alike in both: where all go (returns, never, stood, then) -/
/-- a beat without any spreading -/
def sbF (T : TT) (f : Nat → Int32) : Nat → Int32 := wk2 T (wk1 T f)
def gsB (f : Nat → Int32) : Nat → Nat → Bool
  | 0, _ => false
  | k + 1, j => gsB f k j || decide ((f (51 + k)).toInt = (j : Int))
def stZ (g : Hp) : Prop := vp_nar .boolean (hi g 226 56) ≠ 0
section RYC
variable {s G c : Nat} {T : TT} {h h0 q g : Hp} {n n1 n2 : Nat} {x1 x2 x3 : Int32} {f : Nat → Int32} {a : Nat}
theorem SCR.at (sc : SCR (wT T * gT T) T.go.length f a h) (v : VT T) (e : ∀ x k, a ≤ x → x ≤ a + 3 → hi q x k = hi h x k) : SCR (wT T * gT T) T.go.length f a q := sc.to (wg_T v).1 v.2.2.1.1 (fun j _ => e a j (by omega) (by omega)) (fun j _ => e (a + 1) j (by omega) (by omega)) (fun j _ => e (a + 2) j (by omega) (by omega)) (fun j _ => e (a + 3) j (by omega) (by omega))
/-- the scene on trial becomes that of now -/
theorem tr_c (v : VT T) (sc : SCR (wT T * gT T) T.go.length f 30 h) (bd : BDF T 23 h) : Pc (F_X8_become n h 34 30) (fun q => SCR (wT T * gT T) T.go.length f 34 q ∧ BDF T 23 q ∧ frZ (fun x _ => 34 ≤ x ∧ x ≤ 37) h q) := by
  intro q e
  obtain ⟨b1, b2, b3, b4⟩ := bcm8 (a := 34) (b := 30) (by decide) q e
  have z := zf_X8_become q e
  exact ⟨sc.to (wg_T v).1 v.2.2.1.1 b1 b2 b3 b4, bd.at (fun y k h1 h2 => z.1 y k (by omega)), z.sub (fun x k w => by omega)⟩
theorem cs_r (en : EN2 s T h) (sd : SD5 T h) : Pc (F_X12_copiesStill n h) (fun q => (∀ k, k < 63 → hi q 263 k = hi h 262 k) ∧ stZ q ∧ (EN2 s T q ∧ SD5 T q) ∧ hi q 262 = hi h 262) := by
  unfold F_X12_copiesStill
  refine Pc.bind (cp_r en) (fun q1 cp => ?_)
  generalize eg : wrI q1 226 56 1 = g
  have r (x k : Nat) (nx : x ≠ 226) : hi g x k = hi q1 x k := hiA eg x k nx
  refine Pc.ret ⟨fun k hk => ?_, ?_, ⟨(cp.en en).cg (fun a k h1 h2 => r a k (by omega)) (hiK eg 226 18 (by decide)), fun c k hc hk => by rw [r 264 _ (by decide)]; exact cp.sd sd c k hc hk⟩, funext (fun k => ?_)⟩
  · rw [r 263 k (by decide)]; exact cp.1 k hk
  · unfold stZ
    rw [hiE eg]
    decide
  · rw [r 262 k (by decide)]; exact cp.2.2.1 262 k (by omega)
def TRI (s : Nat) (T : TT) (f : Nat → Int32) (h g : Hp) : Prop := (BDF T 23 h ∧ SCR (wT T * gT T) T.go.length f 34 h ∧ RVR (wT T * gT T) T.go.length f) ∧ (EN2 s T g ∧ SD5 T g) ∧ stZ g
theorem tw_c (v : VT T) (t : TRI s T f h g) : Pc (F_X0_walk n h 23 34) (fun q => (BDF T 23 q ∧ SCR (wT T * gT T) T.go.length (sbF T f) 34 q ∧ RVR (wT T * gT T) T.go.length (sbF T f)) ∧ ∀ k, hi q 32 k = hi h 32 k) := by
  obtain ⟨⟨bd, sc, rv⟩, -, -⟩ := t
  intro q e
  have z := zf_X0_walk q e
  obtain ⟨k1, k2⟩ := wk_c v (by decide) bd sc rv q e
  exact ⟨⟨bd.at (fun y k h1 h2 => z.1 y k (by omega)), k1, k2⟩, fun k => z.1 32 k (by omega)⟩
theorem tw_r (v : VT T) (e : EN2 s T g) (sd : SD5 T g) (st : stZ g) (rv : RVR (wT T * gT T) T.go.length (hi g 263)) : Pc (F_X12_beatGoes n g) (fun q => hi q 263 = sbF T (hi g 263) ∧ (EN2 s T q ∧ SD5 T q) ∧ stZ q ∧ hi q 262 = hi g 262) := by
  intro q hq
  obtain ⟨m, h', fr, d, r⟩ := lt_beat v e sd rv (rv.w1 v) q hq
  rcases r with ⟨w, -⟩ | ⟨-, w⟩
  · exact absurd w st
  · rw [w]
    refine ⟨funext d, ⟨e.bg fr, sd.bg fr⟩, ?_, funext (fun k => fr.1 262 k (by unfold bgF; omega))⟩
    unfold stZ
    rw [fr.1 226 56 (by unfold bgF; omega)]
    exact st
theorem TRI.g5 (t : TRI s T f h g) {k : Nat} (hk : k < T.go.length) : hi h 36 k = f (51 + k) := (t.1.2.1.2.2.2 k hk).1
/-! returns -/
theorem jt_ret (v : VT T) {k : Nat} (hk : k < T.go.length) (hx : x1.toInt = (k : Int)) {r0 : Int32} : ∀ (n1 n2 : Nat) (h g : Hp) (l2 : Int32), TRI s T (hi g 263) h g → hi h 32 k = r0 → hi g 262 (51 + k) = r0 → J2 (W_X11_returns n1 26 h x1 l2) (W_X12_returns n2 16 g x1 l2) := by
  intro n1
  have G5 := v.2.2.1.1
  have f51 := lit_51
  have a1 := adT 51 x1 (by omega) (by omega)
  have m1 := ncT (show 0 ≤ x1.toInt by omega)
  have m2 : Int32.toNatClampNeg x1 = k := by omega
  have m3 := ncT (show 0 ≤ (51 + x1).toInt by omega)
  have m4 : Int32.toNatClampNeg (51 + x1) = 51 + k := by omega
  induction n1 with
  | zero => intro n2 h g l2 t r1 r2; exact J2.nl
  | succ n1 ih =>
    intro n2 h g l2 t r1 r2
    cases n2 with
    | zero => exact J2.nr
    | succ n2 =>
      rw [u_X11_returns, u_X12_returns, m2, m4]
      refine J2.pl rfl (J2.pr rfl (J2.ite Iff.rfl (fun _ => J2.ret rfl) (fun _ => ?_)))
      refine J2.bind (tw_c v t) (tw_r v t.2.1.1 t.2.1.2 t.2.2 t.1.2.2) (fun a b ha hb => ?_)
      obtain ⟨⟨a1, a2, a3⟩, a4⟩ := ha
      obtain ⟨b1, b2, b3, b4⟩ := hb
      have t' : TRI s T (hi b 263) a b := by rw [b1]; exact ⟨⟨a1, a2, a3⟩, b2, b3⟩
      refine J2.cl (fun _ => J2.cl (fun _ => J2.cr (fun _ => J2.cr (fun _ => ?_))))
      rw [t'.g5 hk, a4 k, r1, b4, r2]
      exact J2.ite Iff.rfl (fun _ => J2.ret rfl) (fun _ => ih n2 a b (l2 + 1) t' ((a4 k).trans r1) (by rw [b4]; exact r2))
theorem je_returns (r : RLs s T h0) (k1 : ∀ a k, 226 ≤ a → hi q a k = hi h0 a k) : J2 (F_X11_returns n1 h0 x1) (F_X12_returns n2 q x1) := by
  obtain ⟨en, sd, e262, r59⟩ := r.ref k1
  have v := r.1.1
  have bd := r.1.2.1
  have c25 := (wg_T v).1
  have G5 := v.2.2.1.1
  unfold F_X11_returns F_X12_returns
  refine J2.bind (hg_c bd G5) (ig_r v en) (fun a b ha hb => ?_)
  obtain ⟨t1, t2⟩ := ha
  obtain ⟨u1, u2⟩ := hb
  rw [t1, u1]
  refine J2.yn t2 u2 (fun _ => J2.ret rfl) (fun z => ?_)
  obtain ⟨k, kG, hk⟩ := in_b z
  refine J2.br (cs_r en sd) (fun g hg => ?_)
  obtain ⟨g1, g2, g3, g4⟩ := hg
  obtain ⟨sc, rv⟩ := r.row e262 g1
  refine J2.bl (tr_c v sc bd) (fun h hh => ?_)
  obtain ⟨i1, i2, i3⟩ := hh
  refine jt_ret v kG hk _ _ h g 1 ⟨⟨i2, i1, rv⟩, g3, g2⟩ (r0 := hi g 263 (51 + k)) ?_ ?_
  · rw [i3.1 32 k (by omega)]
    exact (sc.2.2.2 k kG).1
  · rw [g4, g1 (51 + k) (by omega)]
/-! stood -/
theorem jt_std (v : VT T) {k : Nat} (hk : k < T.go.length) (hx : x1.toInt = (k : Int)) : ∀ (n1 n2 : Nat) (f : Nat → Int32) (h g : Hp) (l4 l5 : Int32), TRI s T f h g → hi g 263 = sbF T f → J2 (W_X11_stood n1 65 h x1 x2 x3 l4 l5) (W_X12_stood n2 35 g x1 x2 x3 l4 l5) := by
  intro n1
  have G5 := v.2.2.1.1
  have f51 := lit_51
  have a1 := adT 51 x1 (by omega) (by omega)
  have m1 := ncT (show 0 ≤ x1.toInt by omega)
  have m2 : Int32.toNatClampNeg x1 = k := by omega
  have m3 := ncT (show 0 ≤ (51 + x1).toInt by omega)
  have m4 : Int32.toNatClampNeg (51 + x1) = 51 + k := by omega
  induction n1 with
  | zero => intro n2 f h g l4 l5 t e; exact J2.nl
  | succ n1 ih =>
    intro n2 f h g l4 l5 t e
    cases n2 with
    | zero => exact J2.nr
    | succ n2 =>
      rw [u_X11_stood, u_X12_stood, m2, m4]
      refine J2.pl rfl (J2.pr rfl (J2.ite Iff.rfl (fun _ => J2.ret rfl) (fun _ => ?_)))
      refine J2.bl (tw_c v t) (fun a ha => J2.cl (fun _ => J2.cr (fun _ => ?_)))
      obtain ⟨⟨a1, a2, a3⟩, a4⟩ := ha
      have rv' : RVR (wT T * gT T) T.go.length (hi g 263) := by rw [e]; exact a3
      have s1 : hi a 36 k = hi g 263 (51 + k) := by rw [e]; exact (a2.2.2.2 k hk).1
      rw [s1]
      have nx (l4' : Int32) (b : Hp) (hb : hi b 263 = sbF T (hi g 263) ∧ (EN2 s T b ∧ SD5 T b) ∧ stZ b ∧ hi b 262 = hi g 262) : J2 (W_X11_stood n1 65 a x1 x2 x3 l4' (l5 + 1)) (W_X12_stood n2 35 b x1 x2 x3 l4' (l5 + 1)) := by
        obtain ⟨b1, b2, b3, b4⟩ := hb
        exact ih n2 (sbF T f) a b l4' (l5 + 1) ⟨⟨a1, a2, a3⟩, b2, b3⟩ (by rw [b1, e])
      exact J2.ite Iff.rfl (fun _ => J2.br (tw_r v t.2.1.1 t.2.1.2 t.2.2 rv') (fun b hb => nx _ b hb)) (fun _ => J2.br (tw_r v t.2.1.1 t.2.1.2 t.2.2 rv') (fun b hb => nx _ b hb))
theorem je_stood (r : RLs s T h0) (k1 : ∀ a k, 226 ≤ a → hi q a k = hi h0 a k) : J2 (F_X11_stood n1 h0 x1 x2 x3) (F_X12_stood n2 q x1 x2 x3) := by
  obtain ⟨en, sd, e262, r59⟩ := r.ref k1
  have v := r.1.1
  have bd := r.1.2.1
  obtain ⟨c25, ⟨w2, w5⟩, ⟨g2, g5⟩, -, -⟩ := wg_T v
  have G5 := v.2.2.1.1
  have f0 := lit_0
  have f51 := lit_51
  unfold F_X11_stood F_X12_stood
  refine J2.bind (hg_c bd G5) (ig_r v en) (fun a b ha hb => ?_)
  obtain ⟨t1, t2⟩ := ha
  obtain ⟨u1, u2⟩ := hb
  rw [t1, u1]
  refine J2.yn t2 u2 (fun _ => J2.ret rfl) (fun z => ?_)
  refine J2.bind (hs_c bd.1 w5 g5) (ic_r v en) (fun a b ha hb => ?_)
  obtain ⟨t1, t2⟩ := ha
  obtain ⟨u1, u2⟩ := hb
  rw [t1, u1]
  refine J2.yn t2 u2 (fun _ => J2.ret rfl) (fun _ => ?_)
  refine J2.bind sp_c sp_r (fun a b ha hb => ?_)
  obtain ⟨t1, t2⟩ := ha
  obtain ⟨u1, u2⟩ := hb
  rw [t1, u1]
  refine J2.yn t2 u2 (fun _ => J2.ret rfl) (fun z3 => ?_)
  obtain ⟨k, kG, hk⟩ := in_b z
  have a1 := adT 51 x1 (by omega) (by omega)
  have m1 := ncT (show 0 ≤ x1.toInt by omega)
  have m2 : Int32.toNatClampNeg x1 = k := by omega
  have m3 := ncT (show 0 ≤ (51 + x1).toInt by omega)
  have m4 : Int32.toNatClampNeg (51 + x1) = 51 + k := by omega
  refine J2.br (cs_r en sd) (fun g hg => ?_)
  obtain ⟨g1, g2, g3, g4⟩ := hg
  obtain ⟨sc, rv⟩ := r.row e262 g1
  refine J2.bl (tr_c v sc bd) (fun h hh => ?_)
  obtain ⟨i1, i2, i3⟩ := hh
  -- the reference's first look
  generalize hN : n2 = n2'
  cases n2' with
  | zero => exact J2.nr
  | succ n2' =>
    rw [u_X12_stood, m2, m4]
    refine J2.cl (fun _ => J2.pr rfl (J2.mr ?_ (J2.cr (fun _ => ?_))))
    · intro w
      have := Int32.lt_iff_toInt_lt.mp w
      have := z3.1
      omega
    have s1 : hi h 36 k = hi g 263 (51 + k) := (i1.2.2.2 k kG).1
    rw [s1]
    refine J2.ite Iff.rfl (fun _ => J2.br (tw_r v g3.1 g3.2 g2 rv) (fun b hb => ?_)) (fun _ => J2.br (tw_r v g3.1 g3.2 g2 rv) (fun b hb => ?_))
    · exact jt_std v kG hk _ _ (hi g 263) h b _ _ ⟨⟨i2, i1, rv⟩, hb.2.1, hb.2.2.1⟩ hb.1
    · exact jt_std v kG hk _ _ (hi g 263) h b _ _ ⟨⟨i2, i1, rv⟩, hb.2.1, hb.2.2.1⟩ hb.1
/-! who stands where -/
theorem so_4 (G5 : G ≤ 5) (c25 : c ≤ 25) (sc : SCR c G f a h) (rv : RVR c G f) (hG : x1.toInt = (G : Int)) : ∀ (n : Nat) (l2 l3 : Int32) (i : Nat), l3.toInt = (i : Int) → i ≤ G → (∀ j, j < 32 → bt l2 j = gsB f i j) → Pc (W_X8_stoodOn n 4 h a x1 l2 l3) (fun q => q.2 = h ∧ ∀ j, j < 32 → bt q.1 j = gsB f G j) := by
  intro n
  induction n with
  | zero => intro l2 l3 i e1 e2 b; exact Pc.no
  | succ n ih =>
    intro l2 l3 i e1 e2 b
    have f1 := lit_1
    have f5 := lit_5
    rw [u_X8_stoodOn]
    refine Pc.pos rfl ?_
    have fin (z : G ≤ i) : ∀ j, j < 32 → bt l2 j = gsB f G j := by
      have : i = G := by omega
      rw [← this]
      exact b
    refine Pc.le (fun z => Pc.ret ⟨rfl, fin (by omega)⟩) (fun z => Pc.le (fun z2 => Pc.ret ⟨rfl, fin (by omega)⟩) (fun z2 => Pc.chk (fun _ => ?_)))
    have n1 := ncT (show 0 ≤ l3.toInt by omega)
    have n2 : Int32.toNatClampNeg l3 = i := by omega
    have a1 := adT l3 1 (by omega) (by omega)
    obtain ⟨⟨r1, r2⟩, -⟩ := rv.2.2.1 i (by omega)
    rw [n2, (sc.2.2.2 i (by omega)).1]
    refine ih _ (l3 + 1) (i + 1) (by omega) (by omega) (fun j hj => ?_)
    rw [bt_add (v := (f (51 + i)).toInt.toNat) (by omega) (by omega), b j hj]
    show _ = (gsB f i j || decide ((f (51 + i)).toInt = (j : Int)))
    congr 1
    exact decide_eq_decide.mpr (by omega)
theorem so_n (G5 : G ≤ 5) (c25 : c ≤ 25) (sc : SCR c G f a h) (rv : RVR c G f) (hG : x1.toInt = (G : Int)) : Pc (F_X8_stoodOn n h a x1) (fun q => q.2 = h ∧ ∀ j, j < 32 → bt q.1 j = gsB f G j) := by
  unfold F_X8_stoodOn
  exact so_4 G5 c25 sc rv hG n 0 0 0 lit_0 (Nat.zero_le _) (fun j _ => bt_zero j)
theorem gb_4 (v : VT T) (e : EN2 s T h) (rv : RVR (wT T * gT T) T.go.length (hi h 263)) : ∀ (n : Nat) (l1 l2 : Int32) (i : Nat), l2.toInt = (i : Int) → i ≤ T.go.length → (∀ j, j < 32 → bt l1 j = gsB (hi h 263) i j) → Pc (W_X12_goerBits n 4 h l1 l2) (fun q => q.2 = h ∧ ∀ j, j < 32 → bt q.1 j = gsB (hi h 263) T.go.length j) := by
  intro n
  have G5 := v.2.2.1.1
  have c25 := (wg_T v).1
  have hG := e.2.2.1
  induction n with
  | zero => intro l1 l2 i e1 e2 b; exact Pc.no
  | succ n ih =>
    intro l1 l2 i e1 e2 b
    have f1 := lit_1
    have f51 := lit_51
    rw [u_X12_goerBits, e.nc]
    refine Pc.pos rfl (Pc.chk (fun _ => ?_))
    refine Pc.le (fun z => Pc.ret ⟨rfl, ?_⟩) (fun z => Pc.chk (fun _ => ?_))
    · have : i = T.go.length := by omega
      rw [← this]
      exact b
    have a1 := adT l2 1 (by omega) (by omega)
    have a2 := adT 51 l2 (by omega) (by omega)
    have n3 := ncT (show 0 ≤ (51 + l2).toInt by omega)
    have n4 : Int32.toNatClampNeg (51 + l2) = 51 + i := by omega
    obtain ⟨⟨r1, r2⟩, -⟩ := rv.2.2.1 i (by omega)
    rw [n4]
    refine ih _ (l2 + 1) (i + 1) (by omega) (by omega) (fun j hj => ?_)
    rw [bt_add (v := (hi h 263 (51 + i)).toInt.toNat) (by omega) (by omega), b j hj]
    show _ = (gsB (hi h 263) i j || decide ((hi h 263 (51 + i)).toInt = (j : Int)))
    congr 1
    exact decide_eq_decide.mpr (by omega)
theorem gb_r (v : VT T) (e : EN2 s T h) (rv : RVR (wT T * gT T) T.go.length (hi h 263)) : Pc (F_X12_goerBits n h) (fun q => q.2 = h ∧ ∀ j, j < 32 → bt q.1 j = gsB (hi h 263) T.go.length j) := by
  unfold F_X12_goerBits
  exact gb_4 v e rv n 0 0 0 lit_0 (Nat.zero_le _) (fun j _ => bt_zero j)
/-! never -/
theorem jt_nev (v : VT T) (x100 : x1.toInt ≤ 100) : ∀ (n1 n2 : Nat) (h g : Hp) (l2 m2 l3 m3 : Int32) (i : Nat), l3.toInt = (i : Int) + 1 → m3.toInt = (i : Int) → i ≤ 100 → TRI s T (hi g 263) h g → (∀ j, j < 32 → bt m2 j = (decide (j < wT T * gT T) && !bt l2 j)) → J2 (W_X11_never n1 37 h x1 l2 l3) (W_X12_never n2 31 g x1 m2 m3) := by
  intro n1
  have G5 := v.2.2.1.1
  have c25 := (wg_T v).1
  induction n1 with
  | zero => intro n2 h g l2 m2 l3 m3 i e1 e2 e3 t b; exact J2.nl
  | succ n1 ih =>
    intro n2 h g l2 m2 l3 m3 i e1 e2 e3 t b
    cases n2 with
    | zero => exact J2.nr
    | succ n2 =>
      have f1 := lit_1
      rw [u_X11_never, u_X12_never]
      refine J2.pl rfl (J2.pr rfl (J2.ite ?_ (fun _ => J2.ret (bt_ext (fun j hj => ?_))) (fun z => ?_)))
      · rw [Int32.lt_iff_toInt_lt, Int32.le_iff_toInt_le]
        omega
      · rw [b j hj, bt_and, bt_not _ hj, t.1.1.1.2.2.1 j hj]
      have z' : ¬ x1.toInt < l3.toInt := fun w => z (Int32.lt_iff_toInt_lt.mpr w)
      have d1 := adT l3 1 (by omega) (by omega)
      have d2 := adT m3 1 (by omega) (by omega)
      refine J2.bind (tw_c v t) (tw_r v t.2.1.1 t.2.1.2 t.2.2 t.1.2.2) (fun a b' ha hb => ?_)
      obtain ⟨⟨a1, a2, a3⟩, a4⟩ := ha
      obtain ⟨b1, b2, b3, b4⟩ := hb
      have t' : TRI s T (hi b' 263) a b' := by rw [b1]; exact ⟨⟨a1, a2, a3⟩, b2, b3⟩
      refine J2.bind (so_n G5 c25 t'.1.2.1 t'.1.2.2 a1.2.1.1) (gb_r v b2.1 t'.1.2.2) (fun x y hx hy => ?_)
      obtain ⟨x1', x2'⟩ := hx
      obtain ⟨y1', y2'⟩ := hy
      rw [x1', y1']
      refine ih n2 a b' _ _ (l3 + 1) (m3 + 1) (i + 1) (by omega) (by omega) (by omega) t' (fun j hj => ?_)
      rw [bt_and, bt_not _ hj, bt_or, b j hj, x2' j hj, y2' j hj]
      cases decide (j < wT T * gT T) <;> cases bt l2 j <;> cases gsB (hi b' 263) T.go.length j <;> rfl
theorem all_r (v : VT T) {x : Int32} (hx : x.toInt = ((wT T * gT T : Nat) : Int)) {j : Nat} (hj : j < 32) : bt (((1 : Int32) <<< (x &&& 31)) - 1) j = decide (j < wT T * gT T) := by
  obtain ⟨c25, ⟨w2, w5⟩, ⟨g2, g5⟩, -, -⟩ := wg_T v
  rw [nOf hx (by omega)]
  exact lay_bits (wT T) (by omega) (gT T) (by omega) j hj
theorem je_never (r : RLs s T h0) (k1 : ∀ a k, 226 ≤ a → hi q a k = hi h0 a k) : J2 (F_X11_never n1 h0 x1) (F_X12_never n2 q x1) := by
  obtain ⟨en, sd, e262, r59⟩ := r.ref k1
  have v := r.1.1
  have bd := r.1.2.1
  have c25 := (wg_T v).1
  have G5 := v.2.2.1.1
  unfold F_X11_never F_X12_never
  refine J2.bind sp_c sp_r (fun a b ha hb => ?_)
  obtain ⟨t1, t2⟩ := ha
  obtain ⟨u1, u2⟩ := hb
  rw [t1, u1]
  refine J2.yn t2 u2 (fun _ => J2.ret rfl) (fun z => ?_)
  refine J2.br (cs_r en sd) (fun g hg => ?_)
  obtain ⟨g1, g2, g3, g4⟩ := hg
  obtain ⟨sc, rv⟩ := r.row e262 g1
  refine J2.bl (tr_c v sc bd) (fun h hh => ?_)
  obtain ⟨i1, i2, i3⟩ := hh
  refine J2.br (ce_r v g3.1) (fun y hy => ?_)
  obtain ⟨y1, y2⟩ := hy
  rw [y1]
  refine J2.bind (so_n G5 c25 i1 rv i2.2.1.1) (gb_r v g3.1 rv) (fun x y' hx hy' => ?_)
  obtain ⟨x1', x2'⟩ := hx
  obtain ⟨y1', y2'⟩ := hy'
  rw [x1', y1']
  refine jt_nev v z.2 _ _ h g _ _ 1 0 0 lit_1 lit_0 (by decide) ⟨⟨i2, i1, rv⟩, g3, g2⟩ (fun j hj => ?_)
  rw [bt_and, bt_not _ hj, all_r v y2 hj, x2' j hj, y2' j hj]
/-! then -/
theorem je_then (r : RLs s T h0) (k1 : ∀ a k, 226 ≤ a → hi q a k = hi h0 a k) : J2 (F_X11_then n1 h0 x1 x2 x3) (F_X12_then n2 q x1 x2 x3) := by
  obtain ⟨en, sd, e262, r59⟩ := r.ref k1
  have v := r.1.1
  have bd := r.1.2.1
  have c25 := (wg_T v).1
  have G5 := v.2.2.1.1
  have f51 := lit_51
  have f56 := lit_56
  unfold F_X11_then F_X12_then
  refine J2.bind (hg_c bd G5) (ig_r v en) (fun a b ha hb => ?_)
  obtain ⟨t1, t2⟩ := ha
  obtain ⟨u1, u2⟩ := hb
  rw [t1, u1]
  refine J2.yn t2 u2 (fun _ => J2.ret rfl) (fun z => ?_)
  refine J2.bind sp_c sp_r (fun a b ha hb => ?_)
  obtain ⟨t1, t2⟩ := ha
  obtain ⟨u1, u2⟩ := hb
  rw [t1, u1]
  refine J2.yn t2 u2 (fun _ => J2.ret rfl) (fun z3 => ?_)
  refine J2.bind ez_nought ez_in (fun a b ha hb => ?_)
  obtain ⟨t1, t2⟩ := ha
  obtain ⟨u1, u2⟩ := hb
  rw [t1, u1]
  refine J2.ite (nn_iff t2 u2) (fun _ => J2.ret rfl) (fun _ => ?_)
  obtain ⟨k, kG, hk⟩ := in_b z
  have m1 := ncT (show 0 ≤ x1.toInt by omega)
  have m2 : Int32.toNatClampNeg x1 = k := by omega
  have a1 := adT 51 x1 (by omega) (by omega)
  have m3 := ncT (show 0 ≤ (51 + x1).toInt by omega)
  have m4 : Int32.toNatClampNeg (51 + x1) = 51 + k := by omega
  have a2 := adT 56 x1 (by omega) (by omega)
  have m5 := ncT (show 0 ≤ (56 + x1).toInt by omega)
  have m6 : Int32.toNatClampNeg (56 + x1) = 56 + k := by omega
  obtain ⟨m, hm⟩ : ∃ m : Nat, x2.toInt = (m : Int) := ⟨x2.toInt.toNat, by have := z3.1; omega⟩
  refine J2.br (cp_r en) (fun g cp => ?_)
  obtain ⟨sc, rv⟩ := r.row e262 cp.1
  refine J2.bl (tr_c v sc bd) (fun h hh => ?_)
  obtain ⟨i1, i2, i3⟩ := hh
  refine J2.bind (gn_c v (by decide) hm i2 i1 rv) (go_r v hm (cp.en en) (cp.sd sd) rv cp.2.1.1 cp.2.1.2) (fun x y hx hy => ?_)
  obtain ⟨x1', x2'⟩ := hx
  obtain ⟨y1, y2, y3⟩ := hy
  rw [m2, m4, m6]
  obtain ⟨s1, s2⟩ := x1'.2.2.2 k kG
  refine J2.ite Iff.rfl (fun _ => J2.cl (fun _ => J2.cr (fun _ => J2.ret (s1.trans (y2 (51 + k)).symm)))) (fun _ => J2.cl (fun _ => J2.cr (fun _ => J2.ret (s2.trans (y2 (56 + k)).symm))))
end RYC
section RYCe
variable {h0 : Hp} {n1 n2 : Nat} {x1 x2 x3 : Int32} {q1 q2 : Int32 × Hp}
theorem eq_returns (w : Ir h0) (e1 : F_X11_returns n1 h0 x1 = some q1) (e2 : F_X12_returns n2 q1.2 x1 = some q2) : q1.1 = q2.1 := by
  obtain ⟨s, T, r⟩ := w.2
  exact je_returns r (frZ.hr (zf_X11_returns q1 e1) (fun x k z => by omega)) q1 q2 e1 e2
theorem eq_never (w : Ir h0) (e1 : F_X11_never n1 h0 x1 = some q1) (e2 : F_X12_never n2 q1.2 x1 = some q2) : q1.1 = q2.1 := by
  obtain ⟨s, T, r⟩ := w.2
  exact je_never r (frZ.hr (zf_X11_never q1 e1) (fun x k z => by omega)) q1 q2 e1 e2
theorem eq_stood (w : Ir h0) (e1 : F_X11_stood n1 h0 x1 x2 x3 = some q1) (e2 : F_X12_stood n2 q1.2 x1 x2 x3 = some q2) : q1.1 = q2.1 := by
  obtain ⟨s, T, r⟩ := w.2
  exact je_stood r (frZ.hr (zf_X11_stood q1 e1) (fun x k z => by omega)) q1 q2 e1 e2
theorem eq_then (w : Ir h0) (e1 : F_X11_then n1 h0 x1 x2 x3 = some q1) (e2 : F_X12_then n2 q1.2 x1 x2 x3 = some q2) : q1.1 = q2.1 := by
  obtain ⟨s, T, r⟩ := w.2
  exact je_then r (frZ.hr (zf_X11_then q1 e1) (fun x k z => by omega)) q1 q2 e1 e2
end RYCe
