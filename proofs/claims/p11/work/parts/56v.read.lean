/-! READING: a text that is refused leaves all as it was; one that holds lays all down -/
def LVx (s : Nat) (hS x : Hp) : Prop := (∀ a k, ¬ (227 ≤ a ∧ a ≤ 231) → frB (1 - s) a k → hi x a k = hi hS a k) ∧ ∀ k : Nat, k ≠ s → hi x 248 k = hi hS 248 k ∧ hi x 249 k = hi hS 249 k
def LVo (s : Nat) (hS : Hp) (q : Int32 × Hp) : Prop := q.1.toInt ≠ 0 → ∃ (x : Hp) (p : Int32), LVx s hS x ∧ q.2 = wrI x 226 17 p
def LVr (hS : Hp) (q : Int32 × Hp) : Prop := q.1.toInt ≠ 0 → ∃ (s : Nat) (x : Hp) (p : Int32), (s ≤ 1 ∧ (hi hS 226 18).toInt = 1 - (s : Int)) ∧ LVx s hS x ∧ q.2 = wrI x 226 17 p
/-- what both hold -/
def RLx (h : Hp) : Prop := ∃ s T, RLs s T h
section R56V
variable {s l : Nat} {T : TT} {h h0 hS hC x g q : Hp} {n : Nat} {p x1 : Int32}
theorem LVx.fr (y : LVx s hS g) (f : ∀ a k, ¬ (a = 226 ∧ k ≠ 18 ∧ k ≠ 59 ∧ k ≠ 65) → hi q a k = hi g a k) : LVx s hS q := by
  refine ⟨fun a k n1 n2 => ?_, fun k hk => ⟨?_, ?_⟩⟩
  · rw [f a k (by unfold frB at n2; omega)]; exact y.1 a k n1 n2
  · rw [f 248 k (by omega)]; exact (y.2 k hk).1
  · rw [f 249 k (by omega)]; exact (y.2 k hk).2
theorem is_r : Pc (F_X12_is n h x1) (fun q => q.2 = h) := by
  unfold F_X12_is
  exact Pc.ite (fun _ => Pc.chk (fun _ => Pc.ite (fun _ => Pc.ret rfl) (fun _ => Pc.ret rfl))) (fun _ => Pc.ret rfl)
theorem lv_E : Pc (rdE n x p) (fun q => q.1.toInt ≠ 0 → q.2 = wrI x 226 17 p) := by
  have f0 := lit_0
  unfold rdE
  refine Pc.le (fun c1 => ?_) (fun c1 => Pc.ret (fun _ => rfl))
  refine Pc.le (fun c2 => ?_) (fun c2 => Pc.ret (fun _ => rfl))
  refine Pc.bind zf_X12_begins (fun q6 _ => ?_)
  refine Pc.bind zf_X12_keepsRow (fun q8 _ => ?_)
  exact (ez_243 n _ 0 0 f0 (by decide) (fun k hk => absurd hk (Nat.not_lt_zero k))).mono (fun q hq z => absurd (by rw [hq.1]; exact f0) z)
theorem lv_o (y : LVx s hS x) : Pc (rdE n x p) (LVo s hS) := fun q e z => ⟨x, p, y, lv_E q e z⟩
theorem lv_T (y : LVx s hS x) : Pc (rdT n x) (LVo s hS) := by
  unfold rdT
  exact Pc.le (fun _ => Pc.le (fun _ => lv_o y) (fun _ => lv_o y)) (fun _ => lv_o y)
theorem lv_B (y : LVx s hS x) : Pc (rdB n x) (LVo s hS) := by
  unfold rdB
  refine Pc.bind zf_X12_isBeyond (fun q99 h99 => ?_)
  have l9 : LVx s hS q99.2 := y.fr (fun a k _ => h99.1 a k (fun z => z))
  refine Pc.ite (fun _ => lv_T l9) (fun _ => ?_)
  exact Pc.bind zf_X12_wrong (fun q hq => lv_T (l9.fr (fun a k z => hq.1 a k (by omega))))
theorem lv_112 (hs : s ≤ 1) (rc : rdC s hS hC) : ∀ (n : Nat) (h : Hp) (l1 : Int32), jR s hC h → LVx s hS h → ((hi h 226 13).toInt = 0 → (10000 : Int) + (402 - (hi h 226 11).toInt) < n) → Pc (W_X12_read n 112 h l1) (LVo s hS) := by
  intro n
  induction n with
  | zero => intro h l1 j y hn; exact Pc.no
  | succ n ih =>
    intro h l1 j y hn
    have f0 := lit_0
    obtain ⟨t1, t2⟩ := j.1.2.2.1.1
    rw [u_X12_read]
    refine Pc.neg (by decide) (Pc.pos rfl ?_)
    refine Pc.eq (fun c1 => ?_) (fun c1 => ?_)
    · have fz : (hi h 226 13).toInt = 0 := by omega
      have hn' := hn fz
      have e19 : (hi h 226 19).toInt = (s : Int) := j.1.2.1.2
      have n1 := ncT (show 0 ≤ (hi h 226 19).toInt by omega)
      have n2 : Int32.toNatClampNeg (hi h 226 19) = s := by omega
      refine Pc.bind is_r (fun q75 h75 => ?_)
      rw [h75]
      refine Pc.ite (fun _ => ?_) (fun _ => ?_)
      · refine Pc.bind (fun y e => And.intro ((sr_one (by omega) hs j fz ((rd_x rc j).2.2 _)).pc y e) (zg_tellOne n2 y e)) (fun q hq => ?_)
        obtain ⟨⟨jq, up⟩, zq⟩ := hq
        refine ih q l1 jq ⟨fun a k n1 n2 => (rd_x rc jq).1 a k n1 n2, fun k hk => ⟨?_, ?_⟩⟩ (fun z => by have := up z; omega)
        · exact (zq.1 248 k (by unfold twW; omega)).trans (y.2 k hk).1
        · exact (zq.1 249 k (by unfold twW; omega)).trans (y.2 k hk).2
      · exact Pc.ite (fun _ => lv_B y) (fun _ => lv_T y)
    · exact Pc.ite (fun _ => lv_B y) (fun _ => lv_T y)
set_option maxHeartbeats 4000000 in
theorem lv_10 (d : dI hS) (kd : ∀ k, 0 ≤ (hi hS 229 k).toInt) {g0 : Hp} (e0 : wrI hS 226 4 (hi hS 226 2) = g0) : ∀ n : Nat, ∀ (h : Hp) (l1 : Int32), 0 ≤ l1.toInt → l1.toInt ≤ 2000 → (∀ a k, a ≠ 228 → hi h a k = hi g0 a k) → (∀ a k, hl h a k = hl g0 a k) → (68719500000 : Int) + (2001 - l1.toInt) < n → Pc (W_X12_read n 10 h l1) (LVr hS) := by
  intro n
  induction n with
  | zero => intro h l1 a a' b c e; exact Pc.no
  | succ n ih =>
    intro h l1 a a' b c e
    have f0 := lit_0
    have f1 := lit_1
    have tp := d.2.1
    have e4 : hi h 226 4 = hi hS 226 2 := (b 226 4 (by decide)).trans (hiE e0)
    rw [u_X12_read]
    refine Pc.pos rfl ?_
    rw [e4]
    refine Pc.le (fun c1 => ?_) (fun c1 => ?_)
    · generalize eC : wrI h 226 2 0 = gC
      have rC (x k : Nat) (n0 : x ≠ 228) (n1 : ¬ (x = 226 ∧ (k = 2 ∨ k = 4))) : hi gC x k = hi hS x k := by
        rw [← eC, hi_wrI, if_neg (by omega), b x k n0, ← e0, hi_wrI, if_neg (by omega)]
      have lC (x k : Nat) : hl gC x k = hl hS x k := by
        rw [← eC]
        show hl h x k = _
        rw [c x k, ← e0]
        rfl
      have z4 : hi gC 226 4 = hi hS 226 2 := (hiK eC 226 4 (by decide)).trans e4
      have z2 : (hi gC 226 2).toInt = 0 := by rw [hiE eC]; exact f0
      refine Pc.bind (sf_X12_cut (h0 := gC) (by rw [z4]; exact tp) n gC (by omega) ⟨fun _ _ _ _ _ _ => rfl, fun _ _ _ => rfl, fun k => by rw [rC 229 k (by decide) (by omega)]; exact kd k⟩).pc (fun q2 hq2 => ?_)
      obtain ⟨jc, -⟩ := hq2
      have e18 : hi (wrI (wrI (wrI (wrI q2 226 11 0) 226 12 0) 226 13 0) 226 15 0) 226 18 = hi hS 226 18 := by
        rw [hi_wrI, if_neg (by decide), hi_wrI, if_neg (by decide), hi_wrI, if_neg (by decide), hi_wrI, if_neg (by decide), jc.1 226 18 (by decide) (by decide) (by decide) (by decide)]
        exact rC 226 18 (by decide) (by decide)
      rw [e18]
      have l01 := d.1.1
      generalize ev : (1 - hi hS 226 18 : Int32) = v
      have fv := sbG ev lit_1 rfl (by omega) (by omega)
      obtain ⟨s, hs⟩ : ∃ s : Nat, v.toInt = (s : Int) := ⟨v.toInt.toNat, by omega⟩
      have hs1 : s ≤ 1 := by omega
      generalize e6 : wrI (wrI (wrI (wrI (wrI (wrI q2 226 11 0) 226 12 0) 226 13 0) 226 15 0) 226 19 v) 226 20 0 = g6
      have w19 : hi g6 226 19 = v := by rw [← e6]; exact (rd_w6 q2 v).2.2.2.2.1
      rw [w19]
      refine Pc.bind (sf_X12_plain (s := s) (by omega) hs1 hs).pc (fun q4 pl => ?_)
      have x19 : hi q4 226 19 = v := (pl.1.1.1 226 19 (by unfold plW; omega)).trans w19
      rw [x19]
      have y19 : hi (wrI q4 226 39 (130 * v)) 226 19 = v := (hiK rfl 226 19 (by decide)).trans x19
      rw [y19]
      have m1 := mlT 130 v 130 lit_130 (by omega) (by omega)
      have m2 := mlT 420 v 420 lit_420 (by omega) (by omega)
      generalize eH : wrI (wrI q4 226 39 (130 * v)) 226 45 (420 * v) = hC
      obtain ⟨jr, rc⟩ := rd_begin hs1 rC lC z2 jc hs e6 pl (by omega) (by omega) eH
      have t0 := jr.1.2.2.1.1
      have r8 (a k : Nat) (ha : a = 248 ∨ a = 249) (hk : k ≠ s) : hi hC a k = hi hS a k := by
        rw [← eH, hi_wrI, if_neg (by omega), hi_wrI, if_neg (by omega), pl.1.1.1 a k (by unfold plW; omega), ← e6, rd_w6n q2 v a k (by omega), jc.1 a k (by omega) (by omega) (by omega) (by omega)]
        exact rC a k (by omega) (by omega)
      refine (lv_112 hs1 rc n hC l1 jr ⟨rc.1, fun k hk => ⟨r8 248 k (Or.inl rfl) hk, r8 249 k (Or.inr rfl) hk⟩⟩ (fun _ => by omega)).mono (fun q hq z => ?_)
      obtain ⟨x, p, y1, y2⟩ := hq z
      exact ⟨s, x, p, ⟨hs1, by omega⟩, y1, y2⟩
    · refine Pc.chk (fun _ => Pc.chk (fun _ => ?_))
      have a1 := adT l1 1 (by omega) (by omega)
      refine ih _ (l1 + 1) (by omega) (by omega) (fun x k q => ?_) (fun x k => c x k) (by omega)
      rw [hi_wrI, if_neg (fun w => q w.1)]
      exact b x k q
theorem lv_read (hn : 68719600000 ≤ n) (d : dI hS) (kd : ∀ k, 0 ≤ (hi hS 229 k).toInt) : Pc (F_X12_read n hS) (LVr hS) := by
  have f0 := lit_0
  unfold F_X12_read
  exact lv_10 d kd rfl n _ 0 (by omega) (by omega) (fun _ _ _ => rfl) (fun _ _ => rfl) (by omega)
/-- a law's orders, by the windows of one side -/
theorem rlB.lw {h h' : Hp} {U l : Nat} : ∀ {bs : List ((List Int32 × List Int32) × List Int32)} {B : Nat} {f : List Int32}, (∀ b, B ≤ b → b ≤ B + bs.length → obO (l : Int) h b) → (∀ a k, 252 ≤ a → a ≤ 256 → B ≤ k → k ≤ B + bs.length → hi h' a k = hi h a k) → (∀ k, 420 * l ≤ k → k < U → hi h' 257 k = hi h 257 k ∧ hi h' 258 k = hi h 258 k) → rlB h U B bs f → rlB h' U B bs f := by
  intro bs
  induction bs with
  | nil =>
    intro B f w e1 e2 o
    have wB := w B (Nat.le_refl B) (Nat.le_add_right _ _)
    unfold rlB at o ⊢
    have le : B ≤ B + ([] : List ((List Int32 × List Int32) × List Int32)).length := Nat.le_add_right _ _
    rw [e1 252 B (by decide) (by decide) (Nat.le_refl B) le, e1 255 B (by decide) (by decide) (Nat.le_refl B) le, e1 256 B (by decide) (by decide) (Nat.le_refl B) le]
    obtain ⟨o1, p, o2, o3, o4, o5⟩ := o
    have w3 := wB.2.2.1
    exact ⟨o1, p, o2, o3, o4.cg (fun k h1 h2 => e2 k (by omega) (by omega)), o5⟩
  | cons b t ih =>
    intro B f w e1 e2 o
    obtain ⟨⟨x, y⟩, c⟩ := b
    have wB := w B (Nat.le_refl B) (Nat.le_add_right _ _)
    unfold rlB at o ⊢
    have l0 : (((x, y), c) :: t).length = t.length + 1 := rfl
    have le : B ≤ B + (((x, y), c) :: t).length := Nat.le_add_right _ _
    rw [e1 252 B (by decide) (by decide) (Nat.le_refl B) le, e1 253 B (by decide) (by decide) (Nat.le_refl B) le, e1 254 B (by decide) (by decide) (Nat.le_refl B) le, e1 255 B (by decide) (by decide) (Nat.le_refl B) le, e1 256 B (by decide) (by decide) (Nat.le_refl B) le]
    obtain ⟨⟨o1, p, o2, o3, o4, o5, o6, o7, o8, o9⟩, o10⟩ := o
    have w4 := wB.2.2.2.1 o1
    exact ⟨⟨o1, p, o2, o3, o4, o5, o6.cg (fun k h1 h2 => e2 k (by omega) (by omega)), o7.cg (fun k h1 h2 => e2 k (by omega) (by omega)), o8.cg (fun k h1 h2 => e2 k (by omega) (by omega)), o9⟩, ih (fun b h1 h2 => w b (by omega) (by omega)) (fun a k h1 h2 h3 h4 => e1 a k h1 h2 (by omega) (by omega)) e2 o10⟩
theorem rtL.lw {f : Nat → Option LWS} {B c : Nat} (a : rtL l f B c h) (ol : ∀ k, k < 4 → olO (l : Int) h (4 * l + k)) (hB : B ≤ 130 * l + 130) (hc : c ≤ 420 * l + 420) (e0 : ∀ k, k < 4 → hi q 250 (4 * l + k) = hi h 250 (4 * l + k) ∧ hi q 251 (4 * l + k) = hi h 251 (4 * l + k)) (e1 : ∀ x j, 252 ≤ x → x ≤ 256 → 130 * l ≤ j → j < 130 * l + 130 → hi q x j = hi h x j) (e2 : ∀ j, 420 * l ≤ j → j < 420 * l + 420 → hi q 257 j = hi h 257 j ∧ hi q 258 j = hi h 258 j) : rtL l f B c q := by
  intro k hk
  rw [(e0 k hk).1, (e0 k hk).2]
  refine ⟨(a k hk).1, fun b hb => ?_⟩
  obtain ⟨D, d1, d2, d3, d4⟩ := (a k hk).2 b hb
  rcases ol k hk with z | ⟨z1, z2, z3⟩
  · exfalso; omega
  · exact ⟨D, d1, d2, d3, d4.lw (fun b' h1 h2 => z3 b' (by omega) (by omega)) (fun x j h1 h2 h3 h4 => e1 x j h1 h2 (by omega) (by omega)) (fun j h1 h2 => e2 j h1 (by omega))⟩
theorem EN2.lv (e : EN2 l T hS) (d : dI hS) (hs : s ≤ 1) (hv : (hi hS 226 18).toInt = 1 - (s : Int)) (y : LVx s hS g) : EN2 l T (wrI g 226 17 p) := by
  obtain ⟨⟨e1, e2⟩, e3, e4, e5, B, c, e6, e7, e8⟩ := e
  have el : (l : Int) = 1 - (s : Int) := by omega
  have r (a k : Nat) (n1 : ¬ (227 ≤ a ∧ a ≤ 231)) (n2 : frB (1 - s) a k) : hi (wrI g 226 17 p) a k = hi hS a k := by
    rw [hi_wrI, if_neg (by unfold frB at n2; omega)]
    exact y.1 a k n1 n2
  have r8 (a : Nat) (ha : a = 248 ∨ a = 249) : hi (wrI g 226 17 p) a l = hi hS a l := by
    rw [hi_wrI, if_neg (by omega)]
    rcases ha with rfl | rfl
    · exact (y.2 l (by omega)).1
    · exact (y.2 l (by omega)).2
  have lw := d.1.2.2.2.2.2.1
  have ol (k : Nat) (hk : k < 4) : olO (l : Int) hS (4 * l + k) := by
    have := lw (4 * l + k) (by omega) (by omega)
    rw [e2] at this
    exact this
  refine ⟨⟨e1, by rw [r 226 18 (by decide) (by unfold frB; omega)]; exact e2⟩, e3.cg (r 235 l (by decide) (by unfold frB; omega)) (r 236 l (by decide) (by unfold frB; omega)), by rw [r 242 l (by decide) (by unfold frB; omega)]; exact e4, e5.cg (r8 248 (Or.inl rfl)) (r8 249 (Or.inr rfl)), B, c, ?_, e7, e8⟩
  exact e6.lw ol (by omega) (by omega) (fun k hk => ⟨r 250 _ (by decide) (by unfold frB; omega), r 251 _ (by decide) (by unfold frB; omega)⟩) (fun x j h1 h2 h3 h4 => r x j (by omega) (by unfold frB; omega)) (fun j h1 h2 => ⟨r 257 j (by decide) (by unfold frB; omega), r 258 j (by decide) (by unfold frB; omega)⟩)
/-- the class leaves all as it was, if it tells a fault -/
theorem zc_read : Pc (F_X11_read n h) (fun q => q.1.toInt ≠ 0 → frZ (fun x k => (x = 0 ∧ (k = 1 ∨ k = 2)) ∨ (2 ≤ x ∧ x ≤ 22)) h q.2) := by
  have f0 := lit_0
  unfold F_X11_read
  refine Pc.bind zf_X7_readText (fun q1 f1 => ?_)
  refine Pc.eq (fun c1 => ?_) (fun c1 => ?_)
  · refine Pc.eq (fun _ => ?_) (fun c2 => absurd c1 c2)
    refine Pc.bind zf_X0_become (fun q14 _ => ?_)
    refine Pc.bind zf_X8_become (fun q16 _ => ?_)
    refine Pc.bind zf_X6_clear (fun q18 _ => ?_)
    exact Pc.bind zf_X2_clear (fun q20 _ => Pc.ret (fun z => absurd (c1.trans f0) z))
  · refine Pc.eq (fun c2 => absurd c2 c1) (fun _ => Pc.ret (fun _ => ?_))
    have g1 : frZ (fun x k => (x = 0 ∧ (k = 1 ∨ k = 2)) ∨ (2 ≤ x ∧ x ≤ 22)) h q1.2 := f1.sub (fun x k z => Or.inr z)
    exact (g1.w (Or.inl ⟨rfl, Or.inl rfl⟩)).w (Or.inl ⟨rfl, Or.inr rfl⟩)
theorem rd_env2 {h0 : Hp} (w : Iw h0) : ∃ (n1 : Nat) (q1 : Int32 × Hp) (n2 : Nat) (q2 : Int32 × Hp), F_X11_read n1 h0 = some q1 ∧ F_X12_read n2 q1.2 = some q2 ∧ q1.1 = q2.1 ∧ Iw q2.2 ∧ (q1.1.toInt = 0 → ENV q2.2) ∧ LVr q1.2 q2 := by
  have w0 := w
  obtain ⟨⟨w1, w2, w3, w4⟩, v1, v2, v3, v4⟩ := w0
  have t0 : 0 ≤ (hi h0 0 1).toInt ∧ (hi h0 0 1).toInt ≤ 2000 := w1.1 (0, 1, 0, 2000) (by decide)
  obtain ⟨m, hm⟩ : ∃ m : Nat, (hi h0 0 1).toInt = (m : Int) := ⟨(hi h0 0 1).toInt.toNat, by omega⟩
  have B : BS (tpB h0 m) m := tpB_bs (by omega)
  obtain ⟨q1, e1, ⟨i1, k1, r1, l1⟩, qt, Q, c1, c2, c3⟩ := sj_X11_read (n := 10000000000000) (by decide) w1 B v3 hm (fun i hi' => (if_pos hi').symm)
  have kdp : ∀ k, 0 ≤ (hi q1.2 229 k).toInt := fun k => by rw [(k1 229 k (by decide)).1]; exact w4 k
  have ky : KY q1.2 := fun k hk => by rw [(k1 233 k (by decide)).2]; exact v4 k hk
  have tm2 : (hi q1.2 226 2).toInt = (m : Int) := by rw [(k1 226 2 (by decide)).1, ← w3]; exact hm
  have hb2 : ∀ i, i < m → ((vp_nar .byte (hi q1.2 227 i) : Int32) &&& 255).toInt = tpB h0 m i := fun i hi' => by rw [(k1 227 i (by decide)).1, ← v2 i (by omega)]; exact (if_pos hi').symm
  obtain ⟨q2, e2, ⟨d2, k2, t2, l2, g2⟩, a1, a2, a3⟩ := sj_X12_read (n := 10000000000000) (by decide) (w2.km k1) kdp B ky tm2 hb2 Q
  have iw : Iw q2.2 := by
    refine ⟨⟨i1.kX k2, d2, Int32.toInt_inj.mp ?_, g2⟩, ?_, fun k hk => ?_, fun k hk => ?_, fun k hk => ?_⟩
    · rw [(k2 0 1 (by decide)).1, r1, t2]
    · rw [(k2 0 2 (by decide)).1]
      by_cases z : qt.1.toInt = 0
      · rw [c2 z, a3 z]
      · rw [c3 z, a2 z]
    · exfalso
      rw [(k2 0 1 (by decide)).1, r1] at hk
      omega
    · rw [(k2 19 k (by decide)).2, l1 k]
      exact v3 k hk
    · rw [l2 k, (k1 233 k (by decide)).2]
      exact v4 k hk
  refine ⟨_, q1, _, q2, e1, e2, c1.trans a1, iw, fun z => ?_, lv_read (n := 10000000000000) (by decide) (w2.km k1) kdp q2 e2⟩
  obtain ⟨qu, Q', u1, u2⟩ := cr_read (n := 10000000000000) B v3 hm (fun i hi' => (if_pos hi').symm) q1 e1
  have zu : qu.1.toInt = 0 := by rw [← u1]; exact z
  have z2 : q2.1.toInt = 0 := by rw [← c1.trans a1]; exact z
  obtain ⟨s, hs, T, cf, rf⟩ := sj_X12_read2 (n := 10000000000000) (by decide) (w2.km k1) kdp B ky tm2 hb2 Q' q2 e2 zu z2
  obtain ⟨x1, x2, x3⟩ := u2 z T cf
  have kc (a k : Nat) (l : a < 226) : hi q2.2 a k = hi q1.2 a k := (k2 a k l).1
  refine ⟨s, hs, T, ⟨cf.1, cf.2.1⟩, x1.to (fun k _ => kc 24 k (by decide)) (fun k _ _ => kc 23 k (by decide)) (kc 25 3 (by decide)) (fun k _ => kc 26 k (by decide)) (fun k _ => kc 27 k (by decide)), x2.to cf.1 (fun k _ => kc 30 k (by decide)) (fun k _ => kc 31 k (by decide)) (fun k _ => kc 32 k (by decide)) (fun k _ => kc 33 k (by decide)), rf, ?_⟩
  rw [kc 38 2 (by decide)]
  exact x3
theorem rl_env {q : Hp} (en : ENV q) (d : dI q) (ix : IX q) : RLx q := by
  obtain ⟨s, hs, T, ⟨v, vl⟩, bd, sc, rf, z38⟩ := en
  obtain ⟨r18, ⟨B, c, rd, hb⟩, rwf, ⟨z59, z65⟩, z73⟩ := rf
  obtain ⟨s1, r1⟩ := env_row v vl sc rwf
  obtain ⟨⟨d1, d2, d3, d4, d5⟩, d6, d7⟩ := rd
  have e2 : EN2 s T q := ⟨⟨hs, r18⟩, d1, d3.1, d5, B, c, d6, hb⟩
  have i38 : 0 ≤ (hi q 38 1).toInt ∧ (hi q 38 1).toInt ≤ 39 := ix.1 (38, 1, 0, 39) (by decide)
  exact ⟨s, T, ⟨v, bd, e2, SD5.of v e2 d.1.2.2.2.2.1⟩, ⟨s1, r1⟩, PST.none z38 i38.2 i38.1 z59, fun j j3 nz => absurd (z73 j j3) nz⟩
/-- read by both -/
theorem rd_rl {h0 : Hp} (w : Iz h0) (r : RLx h0) : ∃ (n1 : Nat) (q1 : Int32 × Hp) (n2 : Nat) (q2 : Int32 × Hp), F_X11_read n1 h0 = some q1 ∧ F_X12_read n2 q1.2 = some q2 ∧ q1.1 = q2.1 ∧ Iz q2.2 ∧ RLx q2.2 := by
  obtain ⟨n1, q1, n2, q2, e1, e2, e3, e4, e5, e6⟩ := rd_env2 w.1
  have f0 := lit_0
  refine ⟨n1, q1, n2, q2, e1, e2, e3, ⟨e4, ?_⟩, ?_⟩
  · have r1 : (q1.1.toInt ≠ 0 ∧ ezK h0 q1.2) ∨ (q1.1.toInt = 0 ∧ hi q1.2 201 2 = 0 ∧ hi q1.2 0 10 = 0) := ez_X11_read q1 e1
    have r2 : (q2.1.toInt ≠ 0 ∧ ezK q1.2 q2.2) ∨ (q2.1.toInt = 0 ∧ hi q2.2 226 65 = 0 ∧ (∀ k, k < 3 → hi q2.2 273 k = 0) ∧ hi q2.2 201 2 = hi q1.2 201 2 ∧ hi q2.2 0 10 = hi q1.2 0 10) := ez_X12_read q2 e2
    rw [e3] at r1
    rcases r1 with ⟨a1, a2⟩ | ⟨a1, a2, a3⟩
    · rcases r2 with ⟨b1, b2⟩ | ⟨b1, _⟩
      · exact w.2.ke (a2.tr b2)
      · exact absurd b1 a1
    · rcases r2 with ⟨b1, _⟩ | ⟨b1, b2, b3, b4, b5⟩
      · exact absurd a1 b1
      · have z2 : hi q2.2 201 2 = 0 := b4.trans a2
        refine ⟨⟨false, false, false, ?_, b3 0 (by decide), b3 1 (by decide), b3 2 (by decide)⟩, z2.trans b2.symm, by rw [z2]; omega, fun k hk => ?_⟩
        · rw [b5, a3]; decide
        · rw [z2] at hk
          exfalso; omega
  · by_cases z : q1.1.toInt = 0
    · exact rl_env (e5 z) e4.1.2.1 e4.1.1
    · obtain ⟨l, T, r⟩ := r
      have z1 := zc_read q1 e1 z
      obtain ⟨s, x, p, ⟨hs, hv⟩, y, eq⟩ := e6 (by rw [← e3]; exact z)
      have k1 (a k : Nat) (ha : 23 ≤ a) : hi q1.2 a k = hi h0 a k := z1.1 a k (by omega)
      have en1 : EN2 l T q1.2 := r.1.2.2.1.cg (fun a k h1 h2 => k1 a k (by omega)) (k1 226 18 (by decide))
      have d1 : dI q1.2 := by
        have i := w.1.1.2.1
        exact i.fr rfl (fun a k h1 _ _ => k1 a k (by omega)) (by rw [k1 226 2 (by decide)]; exact i.2.1)
      have en2 : EN2 l T q2.2 := by
        rw [eq]
        exact en1.lv d1 hs hv y
      refine ⟨l, T, r.kf en2 (fun a k h1 h2 => ?_)⟩
      rw [eq, hi_wrI, if_neg (by unfold rlC at h1; omega), y.1 a k (by unfold rlC at h1; omega) (by unfold rlC at h1; unfold frB; omega)]
      exact k1 a k (by unfold rlC at h1; omega)
end R56V
