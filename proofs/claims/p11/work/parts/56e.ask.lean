/-! THE LAWS, asked by both of one row -/
theorem nOf {x : Int32} {b : Nat} (hx : x.toInt = (b : Int)) (hb : b < 2147483648) : x = Int32.ofNat b := Int32.toInt_inj.mp (hx.trans (Int32.toInt_ofNat_of_lt (by omega)).symm)
theorem dm_all : ∀ w, w < 6 → ∀ b, b < 25 → (Int32.ofNat b / Int32.ofNat w = Int32.ofNat (b / w) ∧ Int32.ofNat b - Int32.ofNat b / Int32.ofNat w * Int32.ofNat w = Int32.ofNat (b % w)) := by decide +kernel
theorem and7_all : ∀ n, n < 64 → (Int32.ofNat n &&& 7) = Int32.ofNat (n % 8) := by decide +kernel
/-- what a law is told of the cell b -/
def valF (w g c : Nat) (f : Nat → Int32) (b : Nat) (x4 x5 : Int32) (k : Nat) : Int32 :=
  if k = 0 then Int32.ofNat (b % w) else if k = 1 then Int32.ofNat (b / w) else if k = 2 then f 61 else if k = 3 then f b else if k = 4 then x4 else if k = 5 then x5 else if k = 6 then Int32.ofNat w else if k = 7 then Int32.ofNat g else Int32.ofNat (cntB (fun i => decide (0 < (f i).toInt)) c)
def lwT (T : TT) (f : Nat → Int32) (b : Nat) (x4 x5 : Int32) (k : Nat) : Int32 := lwV (valF (wT T) (gT T) (wT T * gT T) f b x4 x5) (lawD T.la k).1 (lawD T.la k).2
section R56E
variable {c G : Nat} {f : Nat → Int32} {a : Nat} {h : Hp} {n : Nat} {x1 x2 x3 x4 x5 : Int32}
theorem lf_c {w b : Nat} (e : (hi h a 0).toInt = (w : Int)) (w2 : 2 ≤ w) (w5 : w ≤ 5) (hb : b < 25) (hx : x1.toInt = (b : Int)) : Pc (F_X3_leftOf n h a x1) (fun q => q.2 = h ∧ q.1 = Int32.ofNat (b % w)) := by
  have f0 := lit_0
  unfold F_X3_leftOf
  refine Pc.le (fun z => by exfalso; omega) (fun _ => Pc.ite (fun _ => Pc.no) (fun _ => Pc.ret ⟨rfl, ?_⟩))
  show (x1 - x1 / hi h a 0 * hi h a 0 : Int32) = _
  rw [nOf hx (by omega), nOf e (by omega)]
  exact (dm_all w (by omega) b hb).2
theorem tp_c {w b : Nat} (e : (hi h a 0).toInt = (w : Int)) (w2 : 2 ≤ w) (w5 : w ≤ 5) (hb : b < 25) (hx : x1.toInt = (b : Int)) : Pc (F_X3_topOf n h a x1) (fun q => q.2 = h ∧ q.1 = Int32.ofNat (b / w)) := by
  have f0 := lit_0
  unfold F_X3_topOf
  refine Pc.le (fun z => by exfalso; omega) (fun _ => Pc.ite (fun _ => Pc.no) (fun _ => Pc.ret ⟨rfl, ?_⟩))
  show (x1 / hi h a 0 : Int32) = _
  rw [nOf hx (by omega), nOf e (by omega)]
  exact (dm_all w (by omega) b hb).1
theorem tu_c (sc : SCR c G f a h) {b : Nat} (hb : b < 25) (hx : x1.toInt = (b : Int)) : Pc (F_X8_isTuned n h a x1) (fun q => q.2 = h ∧ (q.1 = 0 ∨ q.1 = 1) ∧ (q.1 ≠ 0 ↔ b < c ∧ 0 < (f b).toInt)) := by
  have f0 := lit_0
  have f25 := lit_25
  have s := sc.2.1 b (by omega)
  have sb := sh_bit (hi h a 3) x1 b hb hx
  unfold F_X8_isTuned
  refine Pc.lt (fun z => by exfalso; omega) (fun _ => Pc.le (fun z => by exfalso; omega) (fun _ => ?_))
  refine Pc.ite (fun z => Pc.ret ⟨rfl, Or.inl rfl, fun y => absurd rfl y, fun y => absurd (s.mpr y) (sb.mp z)⟩) (fun z => Pc.ret ⟨rfl, Or.inr rfl, fun _ => ?_, fun _ => by show (1 : Int32) ≠ 0; decide⟩)
  by_cases y : bt (hi h a 3) b = true
  · exact s.mp y
  · exact absurd (sb.mpr y) z
theorem rv_0 (rv : RVR c G f) {b : Nat} (hb : b < 25) (z : ¬ (b < c ∧ 0 < (f b).toInt)) : f b = 0 := by
  have f0 := lit_0
  obtain ⟨r1, r2, -⟩ := rv.1 b hb
  refine Int32.toInt_inj.mp ?_
  by_cases y : b < c
  · have : ¬ 0 < (f b).toInt := fun w => z ⟨y, w⟩
    omega
  · rw [r1 (by omega)]; exact f0.symm
theorem be_c (sc : SCR c G f a h) (rv : RVR c G f) {b : Nat} (hb : b < 25) (hx : x1.toInt = (b : Int)) : Pc (F_X8_beatOf n h a x1) (fun q => q.2 = h ∧ q.1 = f b) := by
  have f0 := lit_0
  unfold F_X8_beatOf
  refine Pc.bind (tu_c sc hb hx) (fun q1 h1 => ?_)
  obtain ⟨t1, t2, t3⟩ := h1
  rw [t1]
  refine Pc.ite (fun z => Pc.ret ⟨rfl, (rv_0 rv hb (fun y => t3.mpr y z)).symm⟩) (fun z => Pc.chk (fun _ => Pc.ret ⟨rfl, ?_⟩))
  have n1 := ncT (show 0 ≤ x1.toInt by omega)
  have n2 : Int32.toNatClampNeg x1 = b := by omega
  obtain ⟨y1, y2⟩ := t3.mp z
  obtain ⟨-, -, r3⟩ := rv.1 b hb
  have r4 := r3 y2
  show (vp_nar .byte (hi h (a + 1) (Int32.toNatClampNeg x1)) >>> ((3 : Int32) &&& 31) : Int32) = f b
  rw [n2]
  refine Int32.toInt_inj.mp ?_
  rw [shr3T, sc.2.2.1 b y1 y2]
  omega
theorem of_c (sc : SCR c G f a h) (rv : RVR c G f) {b : Nat} (hb : b < c) (c25 : c ≤ 25) (p : 0 < (f b).toInt) (hx : x1.toInt = (b : Int)) : Pc (F_X8_offsetOf n h a x1) (fun q => q.2 = h ∧ q.1 = f (25 + b)) := by
  unfold F_X8_offsetOf
  refine Pc.bind (tu_c sc (b := b) (by omega) hx) (fun q1 h1 => ?_)
  obtain ⟨t1, t2, t3⟩ := h1
  rw [t1]
  refine Pc.ite (fun z => absurd z (t3.mpr ⟨hb, p⟩)) (fun z => Pc.chk (fun _ => Pc.ret ⟨rfl, ?_⟩))
  have n1 := ncT (show 0 ≤ x1.toInt by omega)
  have n2 : Int32.toNatClampNeg x1 = b := by omega
  obtain ⟨-, -, r3⟩ := rv.1 b (by omega)
  have r4 := r3 p
  show (vp_nar .byte (hi h (a + 1) (Int32.toNatClampNeg x1)) &&& 7 : Int32) = f (25 + b)
  rw [n2]
  have e := sc.2.2.1 b hb p
  obtain ⟨m, hm⟩ : ∃ m : Nat, (f b).toInt = (m : Int) := ⟨(f b).toInt.toNat, by omega⟩
  obtain ⟨o, ho⟩ : ∃ o : Nat, (f (25 + b)).toInt = (o : Int) := ⟨(f (25 + b)).toInt.toNat, by omega⟩
  have ex : (vp_nar .byte (hi h (a + 1) b) : Int32) = Int32.ofNat (8 * m + o) := nOf (by omega) (by omega)
  have ey : f (25 + b) = Int32.ofNat o := nOf ho (by omega)
  rw [ex, and7_all _ (by omega), ey]
  congr 1
  omega
theorem ro_c (sc : SCR c G f a h) {b : Nat} (hb : b < 25) (hx : x1.toInt = (b : Int)) : Pc (F_X8_isRoped n h a x1) (fun q => q.2 = h ∧ q.1 = if bt (f 50) b = true then 1 else 0) := by
  have sb := sh_bit (hi h a 2) x1 b hb hx
  unfold F_X8_isRoped
  have e : hi h a 2 = f 50 := sc.1.2.2
  refine Pc.ite (fun z => Pc.ret ⟨rfl, ?_⟩) (fun z => Pc.ret ⟨rfl, ?_⟩)
  · rw [if_neg (fun y => sb.mp z (by rw [e]; exact y))]
  · by_cases y : bt (f 50) b = true
    · rw [if_pos y]
    · exact absurd (sb.mpr (by rw [e]; exact y)) z
theorem cn_c (sc : SCR c G f a h) (c25 : c ≤ 25) : cntB (bt (hi h a 3)) 32 = cntB (fun i => decide (0 < (f i).toInt)) c := by
  obtain ⟨d, hd⟩ : ∃ d, 32 = c + d := ⟨32 - c, by omega⟩
  rw [hd, cntB_add, cntB_no (f := fun i => bt (hi h a 3) (c + i)) d (fun i hi' => ?_), Nat.add_zero]
  · refine cntB_cg c (fun i hi' => ?_)
    have s := sc.2.1 i (by omega)
    cases e : bt (hi h a 3) i with
    | true => exact (decide_eq_true (s.mp e).2).symm
    | false =>
      refine (decide_eq_false (fun z => ?_)).symm
      rw [s.mpr ⟨hi', z⟩] at e
      exact Bool.noConfusion e
  · have s := sc.2.1 (c + i) (by omega)
    cases e : bt (hi h a 3) (c + i) with
    | true => exact absurd (s.mp e).1 (by omega)
    | false => rfl
theorem la_gd {T : TT} (v : VT T) {k : Nat} (k4 : k < 4) : gdB 16 (lawD T.la k).1 ∧ gdC 16 (lawD T.la k).2 := by
  unfold lawD
  cases e : T.la k with
  | none =>
    refine ⟨fun b hb => absurd hb List.not_mem_nil, ?_⟩
    have : k = 0 ∨ k = 1 ∨ k = 2 ∨ k = 3 := by omega
    rcases this with rfl | rfl | rfl | rfl <;> (show dpL 16 _ 0 = some 1; decide)
  | some b => exact v.2.2.2.2.2 k b e
/-- the class asks a law -/
theorem as_c {T : TT} (v : VT T) (bd : BDF T 23 h) (sc : SCR (wT T * gT T) G f a h) (rv : RVR (wT T * gT T) G f) (ha : 30 ≤ a) {b : Nat} (hb : b < wT T * gT T) (hx : x3.toInt = (b : Int)) {k : Nat} (k4 : k < 4) (hk : x2.toInt = (k : Int)) : Pc (F_X0_ask n h 23 a x2 x3 x4 x5) (fun q => q.1 = lwT T f b x4 x5 k) := by
  have f0 := lit_0
  have f4 := lit_4
  obtain ⟨c25, ⟨w2, w5⟩, ⟨g2, g5⟩, -, -⟩ := wg_T v
  obtain ⟨⟨b1, b2, -, -⟩, -, S, b4, b5, b6⟩ := bd
  obtain ⟨p, p1, p2⟩ := b6 k k4
  obtain ⟨l1, l2⟩ := la_gd v k4
  unfold F_X0_ask
  refine Pc.bind (lf_c (w := wT T) (b := b) b1 w2 w5 (by omega) hx) (fun q1 h1 => ?_)
  obtain ⟨u1, u2⟩ := h1
  rw [u1]
  generalize e1 : wrI h (23 + 6) 0 q1.1 = g1
  have r1 (x j : Nat) (nx : x ≠ 29) : hi g1 x j = hi h x j := hiA e1 x j nx
  refine Pc.bind (tp_c (w := wT T) (b := b) (by rw [r1 24 0 (by decide)]; exact b1) w2 w5 (by omega) hx) (fun q3 h3 => ?_)
  obtain ⟨u3, u4⟩ := h3
  rw [u3]
  generalize e2 : wrI g1 (23 + 6) 1 q3.1 = g2'
  generalize e3 : wrI g2' (23 + 6) 2 (hi g2' a 0) = g3
  have r3 (x j : Nat) (nx : x ≠ 29) : hi g3 x j = hi h x j := by
    rw [hiA e3 x j nx, hiA e2 x j nx]; exact r1 x j nx
  have sc3 : SCR (wT T * gT T) G f a g3 := by
    obtain ⟨s1, s2, s3, s4⟩ := sc
    refine ⟨?_, fun i hi' => ?_, fun i hi' => ?_, fun i hi' => ?_⟩
    · rw [r3 a 0 (by omega), r3 a 1 (by omega), r3 a 2 (by omega)]; exact s1
    · rw [r3 a 3 (by omega)]; exact s2 i hi'
    · rw [r3 (a + 1) i (by omega)]; exact s3 i hi'
    · rw [r3 (a + 2) i (by omega), r3 (a + 3) i (by omega)]; exact s4 i hi'
  refine Pc.bind (be_c sc3 rv (b := b) (by omega) hx) (fun q5 h5 => ?_)
  obtain ⟨u5, u6⟩ := h5
  rw [u5]
  generalize e4 : wrI g3 (23 + 6) 3 q5.1 = g4
  generalize e5 : wrI g4 (23 + 6) 4 x4 = g5'
  generalize e6 : wrI g5' (23 + 6) 5 x5 = g6
  generalize e7 : wrI g6 (23 + 6) 6 (hi g6 (23 + 1) 0) = g7
  generalize e8 : wrI g7 (23 + 6) 7 (hi g7 (23 + 1) 1) = g8
  have r6 (x j : Nat) (nx : x ≠ 29) : hi g6 x j = hi h x j := by
    rw [hiA e6 x j nx, hiA e5 x j nx, hiA e4 x j nx]; exact r3 x j nx
  have r8 (x j : Nat) (nx : x ≠ 29) : hi g8 x j = hi h x j := by
    rw [hiA e8 x j nx, hiA e7 x j nx, hiA e6 x j nx, hiA e5 x j nx, hiA e4 x j nx]; exact r3 x j nx
  refine Pc.bind pc_bits (fun q7 h7 => ?_)
  obtain ⟨u7, u8⟩ := h7
  rw [u7]
  generalize e9 : wrI g8 (23 + 6) 8 q7.1 = g9
  have r9 (x j : Nat) (nx : x ≠ 29) : hi g9 x j = hi h x j := by
    rw [hiA e9 x j nx]; exact r8 x j nx
  have hv : ∀ j, j < 9 → hi g9 29 j = valF (wT T) (gT T) (wT T * gT T) f b x4 x5 j := by
    intro j hj
    have w0 : hi h 24 0 = Int32.ofNat (wT T) := nOf b1 (by omega)
    have w1 : hi h 24 1 = Int32.ofNat (gT T) := nOf b2 (by omega)
    have : j = 0 ∨ j = 1 ∨ j = 2 ∨ j = 3 ∨ j = 4 ∨ j = 5 ∨ j = 6 ∨ j = 7 ∨ j = 8 := by omega
    rcases this with rfl | rfl | rfl | rfl | rfl | rfl | rfl | rfl | rfl
    · rw [hiK e9 29 0 (by decide), hiK e8 29 0 (by decide), hiK e7 29 0 (by decide), hiK e6 29 0 (by decide), hiK e5 29 0 (by decide), hiK e4 29 0 (by decide), hiK e3 29 0 (by decide), hiK e2 29 0 (by decide), hiE e1, u2]
      rfl
    · rw [hiK e9 29 1 (by decide), hiK e8 29 1 (by decide), hiK e7 29 1 (by decide), hiK e6 29 1 (by decide), hiK e5 29 1 (by decide), hiK e4 29 1 (by decide), hiK e3 29 1 (by decide), hiE e2, u4]
      rfl
    · rw [hiK e9 29 2 (by decide), hiK e8 29 2 (by decide), hiK e7 29 2 (by decide), hiK e6 29 2 (by decide), hiK e5 29 2 (by decide), hiK e4 29 2 (by decide), hiE e3, hiA e2 a 0 (by omega), r1 a 0 (by omega), sc.1.1]
      rfl
    · rw [hiK e9 29 3 (by decide), hiK e8 29 3 (by decide), hiK e7 29 3 (by decide), hiK e6 29 3 (by decide), hiK e5 29 3 (by decide), hiE e4, u6]
      rfl
    · rw [hiK e9 29 4 (by decide), hiK e8 29 4 (by decide), hiK e7 29 4 (by decide), hiK e6 29 4 (by decide), hiE e5]
      rfl
    · rw [hiK e9 29 5 (by decide), hiK e8 29 5 (by decide), hiK e7 29 5 (by decide), hiE e6]
      rfl
    · rw [hiK e9 29 6 (by decide), hiK e8 29 6 (by decide), hiE e7, r6 24 0 (by decide), w0]
      rfl
    · rw [hiK e9 29 7 (by decide), hiE e8, hiA e7 24 1 (by decide), r6 24 1 (by decide), w1]
      rfl
    · rw [hiE e9, nOf u8 (by have := cntB_le (bt (hi g8 a 3)) 32; omega), r8 a 3 (by omega), cn_c sc c25]
      rfl
  have val (h' : Hp) (eh : g9 = h') : Pc (F_X4_value n h' (23 + 2) x2 (23 + 6)) (fun q => q.1 = lwT T f b x4 x5 k) := by
    subst eh
    unfold F_X4_value
    refine Pc.lt (fun z => by exfalso; omega) (fun _ => Pc.le (fun z => by exfalso; omega) (fun _ => Pc.chk (fun _ => ?_)))
    have n1 := ncT (show 0 ≤ x2.toInt by omega)
    have n2 : Int32.toNatClampNeg x2 = k := by omega
    rw [n2]
    refine (cv_law (h0 := g9) (a := 25) (b2 := 29) (S := S) (by rw [r9 25 3 (by decide)]; exact b4) b5 hv (by decide) l2 (lawD T.la k).1 n g9 0 _ 0 p l1 (agr.rf _ _) (p2.cg (Nat.le_refl S) (fun j _ => r9 26 j (by decide))) f0 (by rw [r9 27 k (by decide)]; exact p1) (by rw [f0]; exact Int.le_refl 0) (by rw [f0, r9 27 k (by decide), p1]; omega)).mono (fun q hq => hq.2)
  exact Pc.bind (val g9 rfl) (fun q9 h9 => Pc.ret h9)
end R56E
