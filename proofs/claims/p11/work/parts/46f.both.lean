/-! READING, both: the whole of it -/
theorem and255 (x : Int32) : 0 ≤ (x &&& 255).toInt ∧ (x &&& 255).toInt ≤ 255 := by
  have h : (x &&& 255).toBitVec.toNat ≤ 255 := by
    show (x.toBitVec &&& 255#32).toNat ≤ 255
    rw [BitVec.toNat_and]
    exact Nat.and_le_right
  have e : (x &&& 255).toInt = ((x &&& 255).toBitVec.toNat : Int) := by
    show (x &&& 255).toBitVec.toInt = _
    rw [BitVec.toInt_eq_toNat_cond, if_pos (by omega)]
  omega
theorem i8i8 (x : Int32) : x.toInt8.toInt32.toInt8 = x.toInt8 := Int8.toInt8_toInt32 x.toInt8
section RF
variable {s : Nat} {hS hC x : Hp}
/-- how it answers at the end, and the place -/
theorem rd_E17 (hs : s ≤ 1) (j : jR s hC x) {n : Nat} (hn : 2000 ≤ n) (bz : (hi x 226 13).toInt = 0 → (hi x 226 15).toInt = 0 → offT s x (hi x 237 s).toInt ∧ offG s x (hi x 242 s).toInt) (p : Int32) : Ok (rdE n x p) (fun q => hi q.2 226 17 = p ∧ ((hi x 226 13).toInt ≠ 0 → q.1 = hi x 226 13) ∧ ((hi x 226 13).toInt = 0 → (hi x 226 15).toInt ≠ 0 → q.1 = hi x 226 15) ∧ ((hi x 226 13).toInt = 0 → (hi x 226 15).toInt = 0 → q.1.toInt = 0)) := by
  have f0 := lit_0
  have t2 := j.1.2.2.1.2
  have e13 : hi (wrI x 226 17 p) 226 13 = hi x 226 13 := hiK rfl 226 13 (by decide)
  have e15 : hi (wrI x 226 17 p) 226 15 = hi x 226 15 := hiK rfl 226 15 (by decide)
  have e19 : hi (wrI x 226 17 p) 226 19 = hi x 226 19 := hiK rfl 226 19 (by decide)
  have e17 : hi (wrI x 226 17 p) 226 17 = p := hiE rfl
  unfold rdE
  rw [e13, e15, e19]
  refine Ok.le (fun c1 => ?_) (fun c1 => Ok.ret ⟨e17, fun _ => rfl, fun z => by exfalso; omega, fun z => by exfalso; omega⟩)
  refine Ok.le (fun c2 => ?_) (fun c2 => Ok.ret ⟨e17, fun z => by exfalso; omega, fun _ _ => rfl, fun _ z => by exfalso; omega⟩)
  have fz : (hi x 226 13).toInt = 0 := by omega
  have wz : (hi x 226 15).toInt = 0 := by omega
  obtain ⟨ot, og⟩ := bz fz wz
  generalize eg1 : wrI x 226 17 p = g1
  generalize eg2 : wrI g1 226 18 (hi x 226 19) = g2
  have r2 (a k : Nat) (n1 : ¬ (a = 226 ∧ (k = 17 ∨ k = 18))) : hi g2 a k = hi x a k := by
    rw [← eg2, hi_wrI, if_neg (by omega), ← eg1, hi_wrI, if_neg (by omega)]
  have y17 : hi g2 226 17 = p := by
    rw [← eg2, hi_wrI, if_neg (by decide), ← eg1, hi_wrI, if_pos ⟨rfl, rfl⟩]
  have H : bgH s (hi x 235 s).toInt.toNat (hi x 236 s).toInt.toNat g2 := rd_bgH hs j fz wz ot og (fun a k n1 => r2 a k (by omega)) (hiE eg2)
  refine Ok.bind (sf_X12_begins (by omega) H) (fun q106 hq106 => ?_)
  obtain ⟨h1, v, hb, hp⟩ := hq106
  refine Ok.bind (sf_X12_keepsRow (by omega)) (fun q108 cp => ?_)
  have z17 : hi q108 226 17 = p := by
    rw [cp.1.1 226 17 (by decide), hp.1.1 226 17 (by decide), hi_wrI, if_neg (by decide), hi_wrI, if_neg (by decide), hb.1.1 226 17 (by decide)]
    exact y17
  generalize eg3 : wrI (wrI q108 226 59 0) 226 65 0 = g3
  have w17 : hi g3 226 17 = p := by
    rw [← eg3, hi_wrI, if_neg (by decide), hi_wrI, if_neg (by decide)]
    exact z17
  refine rd_243 (g3 := g3) (fun q b1 b2 b3 => ?_) n g3 0 (by omega) (fun _ _ _ => rfl) (fun _ _ => rfl) (fun k hk => by omega) (by omega) (by omega)
  refine ⟨?_, fun z => absurd fz z, fun _ z => absurd wz z, fun _ _ => f0⟩
  show hi q 226 17 = p
  rw [b1 226 17 (by decide)]
  exact w17
theorem no_off (nb : ¬ BR s x) : offT s x (hi x 237 s).toInt ∧ offG s x (hi x 242 s).toInt := by
  refine ⟨fun k hk => ?_, fun g hg => ?_⟩
  · have y : ¬ tnF s x k := fun z => nb (Or.inl ⟨k, hk, z⟩)
    unfold tnF offR at y
    omega
  · have y : ¬ offR s x (hi x 243 (5 * s + g)) (hi x 244 (5 * s + g)) := fun z => nb (Or.inr (Or.inr ⟨g, hg, Or.inl z⟩))
    unfold offR at y
    omega
theorem ke_jR (hs : s ≤ 1) (c : rdC s hS hC) : KE s (jR s hC) := by
  refine ⟨fun h j => j.1.2.2.1.2.2, fun m h hm j fz => ((sr_one (by omega) hs j fz ((rd_x c j).2.2 _)).pc).mono (fun q hq => hq.1), fun m h j => ?_, fun m h p hm j nb => (rd_E17 hs j hm (fun z1 z2 => no_off (nb z1 z2)) p).pc⟩
  have t := j.1.2.2.1
  exact ((sr_wrong t (by decide) t.1.1 t.1.2).pc).mono (fun q hq => j.p hq.1)
/-- the reference's side is plain -/
theorem rd_rB {q2 g6 q4 : Hp} {v : Int32} (hv : v.toInt = (s : Int)) (e6 : wrI (wrI (wrI (wrI (wrI (wrI q2 226 11 0) 226 12 0) 226 13 0) 226 15 0) 226 19 v) 226 20 0 = g6) (pl : plQ s g6 q4 4) {b c : Int32} (eC : wrI (wrI q4 226 39 b) 226 45 c = hC) : rB s q2 hC := by
  have f0 := lit_0
  obtain ⟨w1, w2, w3, w4, w5, w6⟩ := rd_w6 q2 v
  rw [e6] at w1 w2 w3 w4 w5 w6
  have wn (a k : Nat) (n : ¬ (a = 226 ∧ (k = 11 ∨ k = 12 ∨ k = 13 ∨ k = 15 ∨ k = 19 ∨ k = 20))) : hi g6 a k = hi q2 a k := by
    rw [← e6]; exact rd_w6n q2 v a k n
  obtain ⟨⟨⟨p1, p2⟩, p3, p4, p5, p6, p7⟩, p8⟩ := pl
  have rC (a k : Nat) (n : ¬ (a = 226 ∧ (k = 39 ∨ k = 45))) : hi hC a k = hi q4 a k := by
    rw [← eC, hi_wrI, if_neg (by omega), hi_wrI, if_neg (by omega)]
  have rf (k : Nat) (n : ¬ (k = 39 ∨ k = 45)) : hi hC 226 k = hi g6 226 k := by
    rw [rC 226 k (by omega)]; exact p1 226 k (by unfold plW; omega)
  have rt (a k : Nat) (n1 : 229 ≤ a) (n2 : a ≤ 231) : hi hC a k = hi q2 a k := by
    rw [rC a k (by omega), p1 a k (by unfold plW; omega), wn a k (by omega)]
  refine ⟨fun k => rt 229 k (by decide) (by decide), fun k => rt 230 k (by decide) (by decide), fun k => rt 231 k (by decide) (by decide), fun k => ?_, ⟨?_, ?_, ?_, ?_, ?_, ?_⟩, ?_, ?_, ?_, ?_, ?_⟩
  · rw [← eC, hl_wrI, hl_wrI, p2 232 k, ← e6, hl_wrI, hl_wrI, hl_wrI, hl_wrI, hl_wrI, hl_wrI]
  · rw [rf 11 (by decide), w1]; exact f0
  · rw [rf 12 (by decide), w2]; exact f0
  · rw [rf 13 (by decide), w3]; exact f0
  · rw [rf 15 (by decide), w4]; exact f0
  · rw [rf 19 (by decide), w5]; exact hv
  · rw [rf 20 (by decide), w6]; exact f0
  · rw [rC 235 s (by omega)]; exact p3
  · rw [rC 236 s (by omega)]; exact p4
  · rw [rC 237 s (by omega)]; exact p5
  · rw [rC 242 s (by omega)]; exact p6
  · rw [rC 245 s (by omega)]; exact p7
set_option maxHeartbeats 4000000 in
theorem rd_10j (d : dI hS) (kd : ∀ k, 0 ≤ (hi hS 229 k).toInt) {bs : Nat → Int} {m : Nat} (B : BS bs m) (Y : KY hS) (tm : (hi hS 226 2).toInt = (m : Int)) (hb : ∀ i, i < m → ((vp_nar .byte (hi hS 227 i) : Int32) &&& 255).toInt = bs i) {qc : Int32 × Hp} (Q : rdJ bs m qc) {g0 : Hp} (e0 : wrI hS 226 4 (hi hS 226 2) = g0) : ∀ (n : Nat) (h : Hp) (l1 : Int32) (i : Nat), l1.toInt = (i : Int) → i ≤ m → (∀ a k, a ≠ 228 → hi h a k = hi g0 a k) → (∀ a k, hl h a k = hl g0 a k) → (∀ k, k < i → ((vp_nar .byte (hi h 228 k) : Int32) &&& 255).toInt = bs k) → (68719500000 : Int) + (2001 - l1.toInt) < n → Pc (W_X12_read n 10 h l1) (rjP qc) := by
  intro n
  induction n with
  | zero => intro h l1 i a a' b c z e; exact Pc.no
  | succ n ih =>
    intro h l1 i a a' b c z e
    have f0 := lit_0
    have f1 := lit_1
    have tp := d.2.1
    have e4 : hi h 226 4 = hi hS 226 2 := (b 226 4 (by decide)).trans (hiE e0)
    rw [u_X12_read]
    refine Pc.pos rfl ?_
    rw [e4]
    refine Pc.le (fun c1 => ?_) (fun c1 => ?_)
    · have im : i = m := by omega
      subst im
      generalize eC : wrI h 226 2 0 = gC
      have rC (x k : Nat) (n0 : x ≠ 228) (n1 : ¬ (x = 226 ∧ (k = 2 ∨ k = 4))) : hi gC x k = hi hS x k := by
        rw [← eC, hi_wrI, if_neg (by omega), b x k n0, ← e0, hi_wrI, if_neg (by omega)]
      have lC (x k : Nat) : hl gC x k = hl hS x k := by
        rw [← eC, hl_wrI, c x k, ← e0, hl_wrI]
      have z4 : hi gC 226 4 = hi hS 226 2 := (hiK eC 226 4 (by decide)).trans e4
      have z2 : (hi gC 226 2).toInt = 0 := by rw [hiE eC]; exact f0
      have sr : SR bs i gC := ⟨by rw [z4]; exact tm, fun k hk => by rw [hiA eC 228 k (by decide)]; exact z k hk⟩
      have ky : KY gC := fun k hk => by rw [lC 233 k]; exact Y k hk
      refine Pc.bind (fun q2 eq2 => And.intro ((sf_X12_cut (h0 := gC) (by rw [z4]; exact tp) n gC (by omega) ⟨fun _ _ _ _ _ _ => rfl, fun _ _ _ => rfl, fun k => by rw [rC 229 k (by decide) (by omega)]; exact kd k⟩).pc q2 eq2) (pr_cut B sr ky q2 eq2)) (fun q2 hq2 => ?_)
      obtain ⟨⟨jc, -⟩, ct⟩ := hq2
      have e18 : hi (wrI (wrI (wrI (wrI q2 226 11 0) 226 12 0) 226 13 0) 226 15 0) 226 18 = hi hS 226 18 := by
        rw [hi_wrI, if_neg (by decide), hi_wrI, if_neg (by decide), hi_wrI, if_neg (by decide), hi_wrI, if_neg (by decide), jc.1 226 18 (by decide) (by decide) (by decide) (by decide)]
        exact rC 226 18 (by decide) (by decide)
      rw [e18]
      have l01 := d.1.1
      generalize ev : (1 - hi hS 226 18 : Int32) = v
      have fv := sbG ev lit_1 rfl (by omega) (by omega)
      obtain ⟨s, hs⟩ : ∃ s : Nat, v.toInt = (s : Int) := ⟨v.toInt.toNat, by omega⟩
      have hs1 : s ≤ 1 := by omega
      generalize e6 : wrI (wrI (wrI (wrI (wrI (wrI q2 226 11 0) 226 12 0) 226 13 0) 226 15 0) 226 19 v) 226 20 0 = g6
      have w19 : hi g6 226 19 = v := by rw [← e6]; exact (rd_w6 q2 v).2.2.2.2.1
      rw [w19]
      refine Pc.bind (sf_X12_plain (s := s) (by omega) hs1 hs).pc (fun q4 pl => ?_)
      have x19 : hi q4 226 19 = v := (pl.1.1.1 226 19 (by unfold plW; omega)).trans w19
      rw [x19]
      have y19 : hi (wrI q4 226 39 (130 * v)) 226 19 = v := (hiK rfl 226 19 (by decide)).trans x19
      rw [y19]
      have m1 := mlT 130 v 130 lit_130 (by omega) (by omega)
      have m2 := mlT 420 v 420 lit_420 (by omega) (by omega)
      generalize eH : wrI (wrI q4 226 39 (130 * v)) 226 45 (420 * v) = hC
      obtain ⟨jr, rc⟩ := rd_begin hs1 rC lC z2 jc hs e6 pl (by omega) (by omega) eH
      exact Q s (jR s hC) gC q2 hC l1 hs1 (ke_jR hs1 rc) ct (rd_rB hs e6 pl eH) jr n (by omega)
    · refine Pc.chk (fun _ => Pc.chk (fun _ => ?_))
      have n1 := ncT (show 0 ≤ l1.toInt by omega)
      have n2 : Int32.toNatClampNeg l1 = i := by omega
      have B2 := B.1
      have a1 := adT l1 1 (by omega) (by omega)
      rw [n2]
      refine ih _ (l1 + 1) (i + 1) (by omega) (by omega) (fun x k q => ?_) (fun x k => c x k) (fun k hk => ?_) (by omega)
      · rw [hi_wrI, if_neg (fun w => q w.1)]
        exact b x k q
      · rw [hi_wrI]
        by_cases y : k = i
        · rw [if_pos ⟨rfl, y⟩, y, narB, narB, i8i8, ← narB, b 227 i (by decide), ← e0, hi_wrI, if_neg (by omega)]
          exact hb i (by omega)
        · rw [if_neg (fun w => y w.2)]
          exact z k (by omega)
theorem sj_X12_read {n : Nat} (hn : 68719600000 ≤ n) (d : dI hS) (kd : ∀ k, 0 ≤ (hi hS 229 k).toInt) {bs : Nat → Int} {m : Nat} (B : BS bs m) (Y : KY hS) (tm : (hi hS 226 2).toInt = (m : Int)) (hb : ∀ i, i < m → ((vp_nar .byte (hi hS 227 i) : Int32) &&& 255).toInt = bs i) {qc : Int32 × Hp} (Q : rdJ bs m qc) : Ok (F_X12_read n hS) (fun q => rdP hS q ∧ rjP qc q) := by
  refine (sf_X12_read hn d kd).and ?_
  have f0 := lit_0
  unfold F_X12_read
  exact rd_10j d kd B Y tm hb Q rfl n _ 0 0 f0 (Nat.zero_le m) (fun _ _ _ => rfl) (fun _ _ => rfl) (fun k hk => absurd hk (Nat.not_lt_zero k)) (by omega)
end RF
/-- the class's reading: its answer and place are the text's -/
def crJ (bs : Nat → Int) (m : Nat) (q : Int32 × Hp) : Prop := ∃ qt : Int32 × Hp, rdJ bs m qt ∧ q.1 = qt.1 ∧ (qt.1.toInt = 0 → hi q.2 0 2 = -1) ∧ (qt.1.toInt ≠ 0 → hi q.2 0 2 = hi qt.2 2 2)
theorem sj_X11_read {h : Hp} {n : Nat} (hn : 618475290624 ≤ n) (ix : IX h) {bs : Nat → Int} {m : Nat} (B : BS bs m) (W : WD h) (tm : (hi h 0 1).toInt = (m : Int)) (hb : ∀ i, i < m → ((vp_nar .byte (hi h 1 i) : Int32) &&& 255).toInt = bs i) : Ok (F_X11_read n h) (fun q => (IX q.2 ∧ kM h q.2 ∧ (hi q.2 0 1).toInt = 0 ∧ ∀ k, hl q.2 19 k = hl h 19 k) ∧ crJ bs m q) := by
  refine (sf_X11_read hn ix).and ?_
  have f0 := lit_0
  unfold F_X11_read
  refine Pc.bind (fun q1 e1 => And.intro ((sf_X7_readText (h0 := h) n h (hi h 0 1) hn ⟨ix, kM.rfl' h, kT.rf h⟩).pc q1 e1) (c_text B tm W hb q1 e1)) (fun q1 hq1 => ?_)
  obtain ⟨⟨j1, -⟩, Q⟩ := hq1
  generalize eg1 : wrI q1.2 0 1 0 = g1
  obtain ⟨y1, y2, y3⟩ := tp01 eg1 j1.1 j1.2.1 (by omega)
  have e22 : hi g1 2 2 = hi q1.2 2 2 := hiA eg1 2 2 (by decide)
  refine Pc.eq (fun c1 => ?_) (fun c1 => ?_)
  · refine Pc.eq (fun _ => ?_) (fun c2 => absurd c1 c2)
    generalize eg2 : wrI g1 0 2 (-1) = g2
    obtain ⟨v1, v2, v3⟩ := tp02 eg2 y1 y2
    have j2 : J g2 g2 := ⟨v1, kM.rfl' g2, kT.rf g2⟩
    refine Pc.bind (sf_X0_become (h0 := g2) n g2 23 3 (by omega) j2 bd_23 bd_3).pc (fun q14 h14 => ?_)
    refine Pc.bind (sf_X8_become (h0 := g2) n q14 30 10 (by omega) h14.1 sc_30 sc_10).pc (fun q16 h16 => ?_)
    refine Pc.bind (sf_X6_clear (h0 := g2) n q16 (by omega) h16.1).pc (fun q18 h18 => ?_)
    refine Pc.bind (sf_X2_clear (h0 := g2) n q18 (by omega) h18.1).pc (fun q20 h20 => ?_)
    generalize eg3 : wrI q20 0 10 0 = g3
    have j3 : J g2 g3 := JwI eg3 h20.1 (by decide)
    refine Pc.ret ⟨q1, Q, rfl, fun _ => ?_, fun z => absurd (c1.trans f0) z⟩
    show hi g3 0 2 = -1
    rw [j3.2.2.2.1]
    exact hiE eg2
  · refine Pc.eq (fun c2 => absurd c2 c1) (fun _ => Pc.ret ⟨q1, Q, rfl, fun z => absurd (z.trans f0.symm) c1, fun _ => ?_⟩)
    show hi (wrI g1 0 2 (hi g1 2 2)) 0 2 = _
    rw [e22]
    exact hiE rfl
/-- the bytes of a tape -/
def tpB (h : Hp) (m i : Nat) : Int := if i < m then ((vp_nar .byte (hi h 1 i) : Int32) &&& 255).toInt else 0
theorem tpB_bs {h : Hp} {m : Nat} (hm : m ≤ 2000) : BS (tpB h m) m := by
  refine ⟨hm, fun i hi' => if_neg (by omega), fun i => ?_⟩
  unfold tpB
  by_cases z : i < m
  · rw [if_pos z]; exact and255 _
  · rw [if_neg z]; decide
theorem rd_both {h0 : Hp} (w : Iw h0) : ∃ (n1 : Nat) (q1 : Int32 × Hp) (n2 : Nat) (q2 : Int32 × Hp), F_X11_read n1 h0 = some q1 ∧ F_X12_read n2 q1.2 = some q2 ∧ q1.1 = q2.1 ∧ Iw q2.2 := by
  obtain ⟨⟨w1, w2, w3, w4⟩, v1, v2, v3, v4⟩ := w
  have t0 : 0 ≤ (hi h0 0 1).toInt ∧ (hi h0 0 1).toInt ≤ 2000 := w1.1 (0, 1, 0, 2000) (by decide)
  obtain ⟨m, hm⟩ : ∃ m : Nat, (hi h0 0 1).toInt = (m : Int) := ⟨(hi h0 0 1).toInt.toNat, by omega⟩
  have B : BS (tpB h0 m) m := tpB_bs (by omega)
  obtain ⟨q1, e1, ⟨i1, k1, r1, l1⟩, qt, Q, c1, c2, c3⟩ := sj_X11_read (n := 10000000000000) (by decide) w1 B v3 hm (fun i hi' => (if_pos hi').symm)
  obtain ⟨q2, e2, ⟨d2, k2, t2, l2, g2⟩, a1, a2, a3⟩ := sj_X12_read (n := 10000000000000) (by decide) (w2.km k1) (fun k => by rw [(k1 229 k (by decide)).1]; exact w4 k) B (fun k hk => by rw [(k1 233 k (by decide)).2]; exact v4 k hk) (by rw [(k1 226 2 (by decide)).1, ← w3]; exact hm) (fun i hi' => by rw [(k1 227 i (by decide)).1, ← v2 i (by omega)]; exact (if_pos hi').symm) Q
  refine ⟨_, q1, _, q2, e1, e2, c1.trans a1, ⟨i1.kX k2, d2, Int32.toInt_inj.mp ?_, g2⟩, ?_, fun k hk => ?_, fun k hk => ?_, fun k hk => ?_⟩
  · rw [(k2 0 1 (by decide)).1, r1, t2]
  · rw [(k2 0 2 (by decide)).1]
    by_cases z : qt.1.toInt = 0
    · rw [c2 z, a3 z]
    · rw [c3 z, a2 z]
  · exfalso
    rw [(k2 0 1 (by decide)).1, r1] at hk
    omega
  · rw [(k2 19 k (by decide)).2, l1 k]
    exact v3 k hk
  · rw [l2 k, (k1 233 k (by decide)).2]
    exact v4 k hk
