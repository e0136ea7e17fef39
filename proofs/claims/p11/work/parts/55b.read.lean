/-! A WHOLE TEXT: the reference's reading -/
/-- what the reference holds when a text is read -/
def RF (s : Nat) (T : TT) (q : Hp) : Prop := (hi q 226 18).toInt = (s : Int) ∧ (∃ B c, rD s T B c q ∧ B ≤ 130 * s + 130 ∧ c ≤ 420 * s + 420) ∧ RWF T (hi q 262) ∧ (hi q 226 59 = 0 ∧ hi q 226 65 = 0) ∧ ∀ k, k < 3 → hi q 273 k = 0
theorem RWF.cg {T : TT} {f g : Nat → Int32} (a : RWF T f) (l : T.go.length ≤ 5) (e : ∀ k, k < 63 → g k = f k) : RWF T g := by
  obtain ⟨⟨a1, a2, a3⟩, b, c, d1, d2⟩ := a
  exact ⟨⟨by rw [e 61 (by decide)]; exact a1, by rw [e 62 (by decide)]; exact a2, fun k hk => by rw [e (56 + k) (by omega)]; exact a3 k hk⟩, fun x hx => by rw [e 50 (by decide)]; exact b x hx, fun x hx => by rw [e x (by omega), e (25 + x) (by omega)]; exact c x hx, fun k hk => by rw [e (51 + k) (by omega)]; exact d1 k hk, fun k h1 h2 => by rw [e (51 + k) (by omega)]; exact d2 k h1 h2⟩
section RR55
variable {s : Nat} {h q x : Hp} {n : Nat} {p : Int32}
theorem rD.at {T : TT} {B c : Nat} (d : rD s T B c h) (e : ∀ a k, 235 ≤ a → a ≤ 258 → hi q a k = hi h a k) (e2 : hi q 226 20 = hi h 226 20) : rD s T B c q := by
  obtain ⟨⟨d1, d2, d3, d4, d5⟩, d6, d7⟩ := d
  exact ⟨⟨d1.cg (e 235 s (by decide) (by decide)) (e 236 s (by decide) (by decide)), d2.cg (fun a k h1 h2 => e a k (by omega) (by omega)), d3.cg (fun a k h1 h2 => e a k (by omega) (by omega)) e2, d4.cg (fun a k h1 h2 => e a k (by omega) (by omega)), d5.cg (e 248 s (by decide) (by decide)) (e 249 s (by decide) (by decide))⟩, d6.cg (Nat.le_refl B) (Nat.le_refl c) (fun k _ => ⟨e 250 _ (by decide) (by decide), e 251 _ (by decide) (by decide)⟩) (fun a j h1 h2 _ => e a j (by omega) (by omega)) (fun j _ => ⟨e 257 j (by decide) (by decide), e 258 j (by decide) (by decide)⟩), d7⟩
theorem kr_2 {h0 : Hp} : ∀ (n : Nat) (h : Hp) (l1 : Int32) (i : Nat), l1.toInt = (i : Int) → i ≤ 63 → (∀ k, hi h 263 k = hi h0 263 k) → (∀ k, k < i → hi h 262 k = hi h0 263 k) → Pc (W_X12_keepsRow n 2 h l1) (fun q => ∀ k, k < 63 → hi q 262 k = hi h0 263 k) := by
  intro n
  induction n with
  | zero => intro h l1 i a b c d; exact Pc.no
  | succ n ih =>
    intro h l1 i a b c d
    have f63 := lit_63
    have f1 := lit_1
    have n1 := ncT (show 0 ≤ l1.toInt by omega)
    have n2 : Int32.toNatClampNeg l1 = i := by omega
    rw [u_X12_keepsRow, n2]
    refine Pc.pos rfl ?_
    refine Pc.le (fun c1 => Pc.ret (fun k hk => d k (by omega))) (fun c1 => Pc.chk (fun _ => Pc.chk (fun _ => ?_)))
    have a1 := adT l1 1 (by omega) (by omega)
    refine ih _ (l1 + 1) (i + 1) (by omega) (by omega) (fun k => by rw [hi_wrI, if_neg (by omega)]; exact c k) (fun k hk => ?_)
    rw [hi_wrI]
    by_cases y : k = i
    · rw [if_pos ⟨rfl, y⟩, y]; exact c i
    · rw [if_neg (fun z => y z.2)]; exact d k (by omega)
theorem kr_row : Pc (F_X12_keepsRow n h) (fun q => ∀ k, k < 63 → hi q 262 k = hi h 263 k) := by
  unfold F_X12_keepsRow
  exact kr_2 n h 0 0 lit_0 (Nat.zero_le _) (fun _ => rfl) (fun k hk => absurd hk (Nat.not_lt_zero k))
/-- a fault is told -/
theorem rw_E (z : ¬ ZR x) (m : NN x) : Pc (rdE n x p) (fun q => q.1.toInt ≠ 0) := by
  have f0 := lit_0
  obtain ⟨m1, m2⟩ := m
  have e13 : hi (wrI x 226 17 p) 226 13 = hi x 226 13 := hiK rfl 226 13 (by decide)
  have e15 : hi (wrI x 226 17 p) 226 15 = hi x 226 15 := hiK rfl 226 15 (by decide)
  unfold rdE
  rw [e13, e15]
  refine Pc.le (fun c1 => ?_) (fun c1 => Pc.ret ?_)
  · refine Pc.le (fun c2 => ?_) (fun c2 => Pc.ret ?_)
    · exact (z ⟨by omega, by omega⟩).elim
    · show (hi x 226 15).toInt ≠ 0
      omega
  · show (hi x 226 13).toInt ≠ 0
    omega
theorem rw_T (z : ¬ ZR x) (m : NN x) : Pc (rdT n x) (fun q => q.1.toInt ≠ 0) := by
  unfold rdT
  exact Pc.le (fun _ => Pc.le (fun _ => rw_E z m) (fun _ => rw_E z m)) (fun _ => rw_E z m)
theorem zr.bad (a : zr h q) (z : ¬ ZR h) (m : NN h) : ¬ ZR q ∧ NN q := ⟨fun y => z (a.1 y), a.2.2 m⟩
theorem rw_B (z : ¬ ZR x) (m : NN x) : Pc (rdB n x) (fun q => q.1.toInt ≠ 0) := by
  unfold rdB
  refine Pc.bind zf_X12_isBeyond (fun q99 h99 => ?_)
  obtain ⟨z1, m1⟩ := (zr.fr h99 (fun z => z) (fun z => z)).bad z m
  refine Pc.ite (fun _ => rw_T z1 m1) (fun _ => ?_)
  refine Pc.bind (zb_X12_wrong (by decide)) (fun q hq => ?_)
  obtain ⟨z2, m2⟩ := hq.bad z1 m1
  exact rw_T z2 m2
theorem rw_112 : ∀ (n : Nat) (h : Hp) (l1 : Int32), ¬ ZR h → NN h → Pc (W_X12_read n 112 h l1) (fun q => q.1.toInt ≠ 0) := by
  intro n
  induction n with
  | zero => intro h l1 z m; exact Pc.no
  | succ n ih =>
    intro h l1 z m
    rw [u_X12_read]
    refine Pc.neg (by decide) (Pc.pos rfl ?_)
    refine Pc.ite (fun c1 => ?_) (fun c1 => ?_)
    · refine Pc.bind zf_X12_is (fun q75 h75 => ?_)
      obtain ⟨z1, m1⟩ := (zr.fr h75 (fun z => z) (fun z => z)).bad z m
      refine Pc.ite (fun _ => ?_) (fun _ => ?_)
      · refine Pc.bind zb_X12_tellOne (fun q hq => ?_)
        obtain ⟨z2, m2⟩ := hq.bad z1 m1
        exact ih q l1 z2 m2
      · exact Pc.ite (fun _ => rw_B z1 m1) (fun _ => rw_T z1 m1)
    · exact Pc.ite (fun _ => rw_B z m) (fun _ => rw_T z m)
/-- the end of a text that holds -/
def rgQ5 (s : Nat) (T : TT) (q : Int32 × Hp) : Prop := q.1.toInt = 0 → VT T → VLw T → RF s T q.2
theorem rg_E {T : TT} {B c : Nat} (hb : B ≤ 130 * s + 130 ∧ c ≤ 420 * s + 420) (hs : s ≤ 1) (d : rD s T B c x) (e : (hi x 226 19).toInt = (s : Int)) : Pc (rdE n x p) (rgQ5 s T) := by
  have f0 := lit_0
  have e13 : hi (wrI x 226 17 p) 226 13 = hi x 226 13 := hiK rfl 226 13 (by decide)
  have e15 : hi (wrI x 226 17 p) 226 15 = hi x 226 15 := hiK rfl 226 15 (by decide)
  have e19 : hi (wrI x 226 17 p) 226 19 = hi x 226 19 := hiK rfl 226 19 (by decide)
  unfold rdE
  rw [e13, e15, e19]
  refine Pc.le (fun c1 => ?_) (fun c1 => Pc.ret (fun z => ?_))
  · refine Pc.le (fun c2 => ?_) (fun c2 => Pc.ret (fun z => ?_))
    · generalize eg : wrI (wrI x 226 17 p) 226 18 (hi x 226 19) = g
      have r2 (a k : Nat) (n1 : ¬ (a = 226 ∧ (k = 17 ∨ k = 18))) : hi g a k = hi x a k := by
        rw [← eg, hi_wrI, if_neg (by omega), hi_wrI, if_neg (by omega)]
      have lv : (hi g 226 18).toInt = (s : Int) := by rw [hiE eg]; exact e
      have dg : rD s T B c g := d.at (fun a k h1 h2 => r2 a k (by omega)) (r2 226 20 (by omega))
      have bg : Pc (F_X12_begins n g) (fun q => (VT T → VLw T → RWF T (hi q 263)) ∧ frZ (fun x k => (263 ≤ x ∧ x ≤ 264) ∨ (x = 226 ∧ (k = 55 ∨ k = 56))) g q) := fun q eq => ⟨fun v vl => bg_row hs lv dg v vl q eq, zf_X12_begins q eq⟩
      refine Pc.bind bg (fun q6 h6 => ?_)
      obtain ⟨w6, fr6⟩ := h6
      have kr : Pc (F_X12_keepsRow n q6) (fun q => (∀ k, k < 63 → hi q 262 k = hi q6 263 k) ∧ frZ (fun x k => x = 262) q6 q) := fun q eq => ⟨kr_row q eq, zf_X12_keepsRow q eq⟩
      refine Pc.bind kr (fun q8 h8 => ?_)
      obtain ⟨w8, fr8⟩ := h8
      refine (ez_243 n _ 0 0 f0 (by decide) (fun k hk => absurd hk (Nat.not_lt_zero k))).mono (fun q hq _ v vl => ?_)
      obtain ⟨-, y1, y2⟩ := hq
      have r8 (a k : Nat) (n1 : ¬ (262 ≤ a ∧ a ≤ 264)) (n2 : a ≠ 273) (n3 : ¬ (a = 226 ∧ (k = 17 ∨ k = 18 ∨ k = 55 ∨ k = 56 ∨ k = 59 ∨ k = 65))) : hi q.2 a k = hi x a k := by
        rw [y1 a k n2, hi_wrI, if_neg (by omega), hi_wrI, if_neg (by omega), fr8.1 a k (by omega), fr6.1 a k (by omega)]
        exact r2 a k (by omega)
      refine ⟨?_, ⟨B, c, d.at (fun a k h1 h2 => r8 a k (by omega) (by omega) (by omega)) (r8 226 20 (by omega) (by omega) (by omega)), hb⟩, (w6 v vl).cg v.2.2.1.1 (fun k hk => ?_), ⟨?_, ?_⟩, y2⟩
      · rw [y1 226 18 (by decide), hi_wrI, if_neg (by decide), hi_wrI, if_neg (by decide), fr8.1 226 18 (by decide), fr6.1 226 18 (by decide)]
        exact lv
      · rw [y1 262 k (by decide), hi_wrI, if_neg (by omega), hi_wrI, if_neg (by omega)]
        exact w8 k hk
      · rw [y1 226 59 (by decide), hi_wrI, if_neg (by decide), hi_wrI, if_pos ⟨rfl, rfl⟩]
      · rw [y1 226 65 (by decide), hi_wrI, if_pos ⟨rfl, rfl⟩]
    · exfalso
      have z' : (hi x 226 15).toInt = 0 := z
      omega
  · exfalso
    have z' : (hi x 226 13).toInt = 0 := z
    omega
theorem rg_T {T : TT} {B c : Nat} (hb : B ≤ 130 * s + 130 ∧ c ≤ 420 * s + 420) (hs : s ≤ 1) (d : rD s T B c x) (e : (hi x 226 19).toInt = (s : Int)) : Pc (rdT n x) (rgQ5 s T) := by
  unfold rdT
  exact Pc.le (fun _ => Pc.le (fun _ => rg_E hb hs d e) (fun _ => rg_E hb hs d e)) (fun _ => rg_E hb hs d e)
theorem rg_B {T : TT} {B c : Nat} (hb : B ≤ 130 * s + 130 ∧ c ≤ 420 * s + 420) (hs : s ≤ 1) (d : rD s T B c x) (e : (hi x 226 19).toInt = (s : Int)) : Pc (rdB n x) (rgQ5 s T) := by
  unfold rdB
  refine Pc.bind zf_X12_isBeyond (fun q99 h99 => ?_)
  have r (a k : Nat) : hi q99.2 a k = hi x a k := h99.1 a k (fun z => z)
  have d9 : rD s T B c q99.2 := d.at (fun a k _ _ => r a k) (r 226 20)
  have e9 : (hi q99.2 226 19).toInt = (s : Int) := by rw [r]; exact e
  refine Pc.ite (fun _ => rg_T hb hs d9 e9) (fun _ => ?_)
  refine Pc.bind zf_X12_wrong (fun q hq => ?_)
  exact rg_T hb hs (d9.at (fun a k h1 h2 => hq.1 a k (by omega)) (hq.1 226 20 (by omega))) (by rw [hq.1 226 19 (by omega)]; exact e9)
theorem rg_112 {N : Nat} {kd pl vl : Nat → Int} (X : TX N kd pl vl) (hs : s ≤ 1) {hS hC : Hp} (rc : rdC s hS hC) : ∀ (n : Nat) (h : Hp) (l1 : Int32) (T : TT) (t B c : Nat), rX N kd pl vl s t B c h → rD s T B c h → jR s hC h → (10000 : Int) + (402 - (t : Int)) < n → Pc (W_X12_read n 112 h l1) (fun q => q.1.toInt = 0 → ∃ m T' t', TLD kd vl m T t T' t' ∧ kd t' = 32 ∧ (VT T' → VLw T' → RF s T' q.2)) := by
  intro n
  induction n with
  | zero => intro h l1 T t B c a d j hn; exact Pc.no
  | succ n ih =>
    intro h l1 T t B c a d j hn
    have f0 := lit_0
    have e11 : (hi h 226 11).toInt = (t : Int) := a.1.1.2.2.1.2.2.1 rfl
    have t4 : t ≤ 400 := a.1.1.2.1.2
    have e39 := a.1.2.1
    have e45 := a.1.2.2.1
    have j5 := j.1.2.2.2.2.1.2
    have j6 := j.1.2.2.2.2.2.2
    have jz := j.2 a.1.1.2.2.1.2.1
    have j7 := jz.2.2.1
    have hb : B ≤ 130 * s + 130 ∧ c ≤ 420 * s + 420 := ⟨by omega, by omega⟩
    have fz : (hi h 226 13).toInt = 0 := a.1.1.2.2.1.2.1
    have wz : (hi h 226 15).toInt = 0 := a.2
    have e19 : (hi h 226 19).toInt = (s : Int) := a.1.2.2.2
    rw [u_X12_read]
    refine Pc.neg (by decide) (Pc.pos rfl ?_)
    refine Pc.eq (fun c1 => ?_) (fun c1 => absurd (fz.trans f0.symm) c1)
    refine Pc.bind (pr_is X a.1.1.1 a.1.1.2.1 a.1.1.2.2.1 (x1 := 0) 32 (by decide) (by decide)) (fun q75 hq => ?_)
    obtain ⟨e7, i7⟩ := hq
    rw [e7]
    refine Pc.eq (fun c2 => ?_) (fun c2 => ?_)
    · have ne : kd t ≠ 32 := fun z => i7.2 ⟨rfl, z⟩ (c2.trans f0)
      have tl : Pc (F_X12_tellOne n h) (fun q => (ZR q → rTell N kd pl vl s T t q) ∧ zr h q ∧ jR s hC q) := fun q eq => ⟨yt_tell X hs a d ne q eq, zb_X12_tellOne q eq, ((sr_one (by omega) hs j fz ((rd_x rc j).2.2 _)).pc q eq).1⟩
      refine Pc.bind tl (fun q hq => ?_)
      obtain ⟨g, m, jq⟩ := hq
      have nq : NN q := m.2.2 ⟨by omega, by omega⟩
      by_cases z : ZR q
      · obtain ⟨T', t', B', c', st, lt, a', d'⟩ := g z
        refine (ih q l1 T' t' B' c' a' d' jq (by omega)).mono (fun r hr y => ?_)
        obtain ⟨m', U, u, k1, k2, k3⟩ := hr y
        exact ⟨m' + 1, U, u, ⟨T', t', st, k1⟩, k2, k3⟩
      · exact (rw_112 n q l1 z nq).mono (fun r hr y => absurd y hr)
    · have k32 : kd t = 32 := (i7.1 (fun z => c2 (z.trans f0.symm))).2
      refine Pc.eq (fun _ => ?_) (fun c3 => absurd (fz.trans f0.symm) c3)
      exact (rg_B hb hs d e19).mono (fun r hr y => ⟨0, T, t, ⟨rfl, rfl⟩, k32, hr y⟩)
end RR55
