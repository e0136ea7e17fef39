section
/-! THE LAWS, asked by the reference of its row -/
/-- what a text told for good, as the reference has it -/
def EN2 (s : Nat) (T : TT) (h : Hp) : Prop := (s ≤ 1 ∧ (hi h 226 18).toInt = (s : Int)) ∧ rtW s T.lw h ∧ (hi h 242 s).toInt = (T.go.length : Int) ∧ rtN s T.ws h ∧ ∃ B c, rtL s T.la B c h ∧ B ≤ 130 * s + 130 ∧ c ≤ 420 * s + 420
section R56F
variable {s : Nat} {T : TT} {h q : Hp} {n : Nat} {x1 x2 x3 x4 x5 : Int32}
theorem EN2.cg (e : EN2 s T h) (r : ∀ a k, 235 ≤ a → a ≤ 258 → hi q a k = hi h a k) (r2 : hi q 226 18 = hi h 226 18) : EN2 s T q := by
  obtain ⟨⟨e1, e2⟩, e3, e4, e5, B, c, e6, e7⟩ := e
  exact ⟨⟨e1, by rw [r2]; exact e2⟩, e3.cg (r 235 s (by decide) (by decide)) (r 236 s (by decide) (by decide)), by rw [r 242 s (by decide) (by decide)]; exact e4, e5.cg (r 248 s (by decide) (by decide)) (r 249 s (by decide) (by decide)), B, c, e6.cg (Nat.le_refl B) (Nat.le_refl c) (fun k _ => ⟨r 250 _ (by decide) (by decide), r 251 _ (by decide) (by decide)⟩) (fun a j h1 h2 _ => r a j (by omega) (by omega)) (fun j _ => ⟨r 257 j (by decide) (by decide), r 258 j (by decide) (by decide)⟩), e7⟩
theorem EN2.nc (e : EN2 s T h) : Int32.toNatClampNeg (hi h 226 18) = s := by
  have := e.1.2
  have n1 := ncT (show 0 ≤ (hi h 226 18).toInt by omega)
  omega
theorem ce_r (v : VT T) (e : EN2 s T h) : Pc (F_X12_cells n h) (fun q => q.2 = h ∧ q.1.toInt = ((wT T * gT T : Nat) : Int)) := by
  obtain ⟨c25, ⟨w2, w5⟩, ⟨g2, g5⟩, y1, y2⟩ := wg_T v
  unfold F_X12_cells
  rw [e.nc]
  have e1 : (hi h 235 s).toInt = ((wT T : Nat) : Int) := e.2.1.1.trans y1
  have e2 : (hi h 236 s).toInt = ((gT T : Nat) : Int) := e.2.1.2.trans y2
  have m := mlT (hi h 235 s) (hi h 236 s) ((wT T : Nat) : Int) e1 (by rw [e2, ← Int.natCast_mul]; omega) (by rw [e2, ← Int.natCast_mul]; omega)
  refine Pc.chk (fun _ => Pc.chk (fun _ => Pc.ret ⟨rfl, ?_⟩))
  show (hi h 235 s * hi h 236 s).toInt = _
  rw [m, e2, ← Int.natCast_mul]
theorem tb_4 (v : VT T) (e : EN2 s T h) : ∀ (n : Nat) (l1 l2 : Int32) (i : Nat), l2.toInt = (i : Int) → i ≤ wT T * gT T → (∀ b, b < 32 → (bt l1 b = true ↔ b < i ∧ 0 < (hi h 263 b).toInt)) → Pc (W_X12_tuneBits n 4 h l1 l2) (fun q => q.2 = h ∧ ∀ b, b < 32 → (bt q.1 b = true ↔ b < wT T * gT T ∧ 0 < (hi h 263 b).toInt)) := by
  intro n
  have c25 := (wg_T v).1
  induction n with
  | zero => intro l1 l2 i a b c; exact Pc.no
  | succ n ih =>
    intro l1 l2 i a b c
    have f0 := lit_0
    have f1 := lit_1
    have n1 := ncT (show 0 ≤ l2.toInt by omega)
    have n2 : Int32.toNatClampNeg l2 = i := by omega
    rw [u_X12_tuneBits]
    refine Pc.pos rfl ?_
    refine Pc.bind (ce_r v e) (fun q1 h1 => ?_)
    obtain ⟨t1, t2⟩ := h1
    rw [t1, n2]
    refine Pc.le (fun c1 => Pc.ret ⟨rfl, fun b' hb' => ?_⟩) (fun c1 => Pc.chk (fun _ => ?_))
    · have : i = wT T * gT T := by omega
      rw [← this]; exact c b' hb'
    · have a1 := adT l2 1 (by omega) (by omega)
      refine Pc.le (fun z => ?_) (fun z => ?_)
      · refine ih l1 (l2 + 1) (i + 1) (by omega) (by omega) (fun b' hb' => ?_)
        rw [c b' hb']
        refine ⟨fun y => ⟨by omega, y.2⟩, fun y => ⟨?_, y.2⟩⟩
        by_cases w : b' = i
        · rw [w] at y
          omega
        · omega
      · refine ih _ (l2 + 1) (i + 1) (by omega) (by omega) (fun b' hb' => ?_)
        rw [bt_add a (by omega), Bool.or_eq_true, c b' hb', decide_eq_true_iff]
        refine ⟨fun y => ?_, fun y => ?_⟩
        · rcases y with y | y
          · exact ⟨by omega, y.2⟩
          · rw [y]; exact ⟨by omega, by omega⟩
        · by_cases w : b' = i
          · exact Or.inr w
          · exact Or.inl ⟨by omega, y.2⟩
theorem tb_r (v : VT T) (e : EN2 s T h) : Pc (F_X12_tuneBits n h) (fun q => q.2 = h ∧ ∀ b, b < 32 → (bt q.1 b = true ↔ b < wT T * gT T ∧ 0 < (hi h 263 b).toInt)) := by
  unfold F_X12_tuneBits
  exact tb_4 v e n 0 0 0 lit_0 (Nat.zero_le _) (fun b hb => ⟨fun z => by rw [bt_zero] at z; exact Bool.noConfusion z, fun z => absurd z.1 (Nat.not_lt_zero b)⟩)
theorem bi_4 {l0 : Int32} : ∀ (n : Nat) (l1 l2 : Int32) (i : Nat), l2.toInt = (i : Int) → i ≤ 25 → l1.toInt = (cntB (bt l0) i : Nat) → Pc (W_X12_bits n 4 h l0 l1 l2) (fun q => q.2 = h ∧ q.1.toInt = (cntB (bt l0) 25 : Nat)) := by
  intro n
  induction n with
  | zero => intro l1 l2 i a b c; exact Pc.no
  | succ n ih =>
    intro l1 l2 i a b c
    have f25 := lit_25
    have f1 := lit_1
    have n1 := ncT (show 0 ≤ l2.toInt by omega)
    have n2 : Int32.toNatClampNeg l2 = i := by omega
    rw [u_X12_bits]
    refine Pc.pos rfl ?_
    refine Pc.le (fun c1 => Pc.ret ⟨rfl, ?_⟩) (fun c1 => ?_)
    · have : i = 25 := by omega
      rw [← this]; exact c
    · have a1 := adT l2 1 (by omega) (by omega)
      have bs := btS l0 (c := l2) (by omega) (by omega)
      rw [n2] at bs
      have cl := cntB_le (bt l0) i
      generalize (l0 >>> (l2 &&& 31) &&& 1 : Int32) = y at bs ⊢
      have b2 : y.toInt = ((bt l0 i).toNat : Nat) := by
        rw [bs]
        cases bt l0 i <;> rfl
      have b3 : (bt l0 i).toNat ≤ 1 := by cases bt l0 i <;> decide
      have a2 := adT l1 y (by omega) (by omega)
      refine ih (l1 + y) (l2 + 1) (i + 1) (by omega) (by omega) ?_
      show _ = ((cntB (bt l0) i + (bt l0 i).toNat : Nat) : Int)
      omega
theorem bi_r : Pc (F_X12_bits n h x1) (fun q => q.2 = h ∧ q.1.toInt = (cntB (bt x1) 25 : Nat)) := by
  unfold F_X12_bits
  exact bi_4 n 0 0 0 lit_0 (Nat.zero_le _) lit_0
/-- how many tunes there are -/
theorem cn_r {c : Nat} {x : Int32} {f : Nat → Int32} (c25 : c ≤ 25) (e : ∀ b, b < 32 → (bt x b = true ↔ b < c ∧ 0 < (f b).toInt)) : cntB (bt x) 25 = cntB (fun i => decide (0 < (f i).toInt)) c := by
  obtain ⟨d, hd⟩ : ∃ d, 25 = c + d := ⟨25 - c, by omega⟩
  rw [hd, cntB_add, cntB_no (f := fun i => bt x (c + i)) d (fun i hi' => ?_), Nat.add_zero]
  · refine cntB_cg c (fun i hi' => ?_)
    have s := e i (by omega)
    cases z : bt x i with
    | true => exact (decide_eq_true (s.mp z).2).symm
    | false =>
      refine (decide_eq_false (fun y => ?_)).symm
      rw [s.mpr ⟨hi', y⟩] at z
      exact Bool.noConfusion z
  · have s := e (c + i) (by omega)
    cases z : bt x (c + i) with
    | true => exact absurd (s.mp z).1 (by omega)
    | false => rfl
theorem law_O (e : EN2 s T h) {k : Nat} (k4 : k < 4) : ∃ U, rlO h U (4 * s + k) (plW4 k) (lawD T.la k).1 (lawD T.la k).2 := by
  obtain ⟨-, -, -, -, B, c, l, -, -⟩ := e
  obtain ⟨l1, l2⟩ := l k k4
  refine ⟨c, ?_⟩
  unfold lawD
  cases z : T.la k with
  | none =>
    refine Or.inl ⟨l1 z, rfl, rfl, ?_⟩
    have : k = 0 ∨ k = 1 ∨ k = 2 ∨ k = 3 := by omega
    rcases this with rfl | rfl | rfl | rfl <;> decide
  | some b =>
    obtain ⟨D, d1, d2, -, d4⟩ := l2 b z
    refine Or.inr ⟨D, d1, ?_, d4⟩
    show (hi h 251 (4 * s + k)).toInt = (D : Int) + (b.1.length : Int) + 1
    omega
/-- the reference asks a law -/
theorem ar_r (v : VT T) (e : EN2 s T h) {b : Nat} (hb : b < wT T * gT T) (hx : x1.toInt = (b : Int)) {k : Nat} (k4 : k < 4) (hk : x4.toInt = (k : Int)) (hp : x5 = plW4 k) : Pc (F_X12_toldOf n h x1 x2 x3 x4 x5) (fun q => q.1 = lwT T (hi h 263) b x2 x3 k) := by
  have f0 := lit_0
  obtain ⟨c25, ⟨w2, w5⟩, ⟨g2, g5⟩, y1, y2⟩ := wg_T v
  obtain ⟨l1, l2⟩ := la_gd v k4
  have n1 := ncT (show 0 ≤ x1.toInt by omega)
  have n2 : Int32.toNatClampNeg x1 = b := by omega
  have e1 : hi h 235 s = Int32.ofNat (wT T) := nOf (e.2.1.1.trans y1) (by omega)
  have e2 : hi h 236 s = Int32.ofNat (gT T) := nOf (e.2.1.2.trans y2) (by omega)
  have ex : x1 = Int32.ofNat b := nOf hx (by omega)
  obtain ⟨d1, d2⟩ := dm_all (wT T) (by omega) b (by omega)
  unfold F_X12_toldOf
  rw [e.nc, n2]
  refine Pc.chk (fun _ => Pc.ite (fun _ => Pc.no) (fun _ => Pc.chk (fun _ => Pc.ite (fun _ => Pc.no) (fun _ => Pc.chk (fun _ => Pc.chk (fun _ => Pc.chk (fun _ => ?_)))))))
  generalize e1' : wrI h 260 0 (x1 - x1 / (hi h 235 s) * (hi h 235 s)) = g1
  have q1 (a j : Nat) (ne : a ≠ 260) : hi g1 a j = hi h a j := hiA e1' a j ne
  have en1 : EN2 s T g1 := e.cg (fun a j h1 h2 => q1 a j (by omega)) (q1 226 18 (by decide))
  rw [en1.nc]
  generalize e2' : wrI g1 260 1 (x1 / (hi g1 235 s)) = g2'
  generalize e3' : wrI g2' 260 2 (hi g2' 263 61) = g3
  generalize e4' : wrI g3 260 3 (hi g3 263 b) = g4
  generalize e5' : wrI g4 260 4 x2 = g5'
  generalize e6' : wrI g5' 260 5 x3 = g6
  have q2 (a j : Nat) (ne : a ≠ 260) : hi g2' a j = hi h a j := (hiA e2' a j ne).trans (q1 a j ne)
  have q3 (a j : Nat) (ne : a ≠ 260) : hi g3 a j = hi h a j := (hiA e3' a j ne).trans (q2 a j ne)
  have q6 (a j : Nat) (ne : a ≠ 260) : hi g6 a j = hi h a j := (hiA e6' a j ne).trans ((hiA e5' a j ne).trans ((hiA e4' a j ne).trans (q3 a j ne)))
  have en6 : EN2 s T g6 := e.cg (fun a j h1 h2 => q6 a j (by omega)) (q6 226 18 (by decide))
  rw [en6.nc]
  generalize e7' : wrI g6 260 6 (hi g6 235 s) = g7
  have q7 (a j : Nat) (ne : a ≠ 260) : hi g7 a j = hi h a j := (hiA e7' a j ne).trans (q6 a j ne)
  have en7 : EN2 s T g7 := e.cg (fun a j h1 h2 => q7 a j (by omega)) (q7 226 18 (by decide))
  rw [en7.nc]
  generalize e8' : wrI g7 260 7 (hi g7 236 s) = g
  have rg (a j : Nat) (ne : a ≠ 260) : hi g a j = hi h a j := (hiA e8' a j ne).trans (q7 a j ne)
  have eng : EN2 s T g := e.cg (fun a j h1 h2 => rg a j (by omega)) (rg 226 18 (by decide))
  refine Pc.bind (tb_r v eng) (fun q8 h8 => ?_)
  obtain ⟨t1, t2⟩ := h8
  rw [t1]
  refine Pc.bind bi_r (fun q10 h10 => ?_)
  obtain ⟨t3, t4⟩ := h10
  rw [t3]
  generalize eg' : wrI g 260 8 q10.1 = g'
  have rg' (a j : Nat) (ne : a ≠ 260) : hi g' a j = hi h a j := (hiA eg' a j ne).trans (rg a j ne)
  have en' : EN2 s T g' := e.cg (fun a j h1 h2 => rg' a j (by omega)) (rg' 226 18 (by decide))
  obtain ⟨U, o⟩ := law_O en' k4
  have hv : ∀ j, j < 9 → hi g' 260 j = valF (wT T) (gT T) (wT T * gT T) (hi h 263) b x2 x3 j := by
    intro j hj
    have : j = 0 ∨ j = 1 ∨ j = 2 ∨ j = 3 ∨ j = 4 ∨ j = 5 ∨ j = 6 ∨ j = 7 ∨ j = 8 := by omega
    rcases this with rfl | rfl | rfl | rfl | rfl | rfl | rfl | rfl | rfl
    · rw [hiK eg' 260 0 (by decide), hiK e8' 260 0 (by decide), hiK e7' 260 0 (by decide), hiK e6' 260 0 (by decide), hiK e5' 260 0 (by decide), hiK e4' 260 0 (by decide), hiK e3' 260 0 (by decide), hiK e2' 260 0 (by decide), hiE e1', e1, ex, d2]
      rfl
    · rw [hiK eg' 260 1 (by decide), hiK e8' 260 1 (by decide), hiK e7' 260 1 (by decide), hiK e6' 260 1 (by decide), hiK e5' 260 1 (by decide), hiK e4' 260 1 (by decide), hiK e3' 260 1 (by decide), hiE e2', q1 235 s (by decide), e1, ex, d1]
      rfl
    · rw [hiK eg' 260 2 (by decide), hiK e8' 260 2 (by decide), hiK e7' 260 2 (by decide), hiK e6' 260 2 (by decide), hiK e5' 260 2 (by decide), hiK e4' 260 2 (by decide), hiE e3', q2 263 61 (by decide)]
      rfl
    · rw [hiK eg' 260 3 (by decide), hiK e8' 260 3 (by decide), hiK e7' 260 3 (by decide), hiK e6' 260 3 (by decide), hiK e5' 260 3 (by decide), hiE e4', q3 263 b (by decide)]
      rfl
    · rw [hiK eg' 260 4 (by decide), hiK e8' 260 4 (by decide), hiK e7' 260 4 (by decide), hiK e6' 260 4 (by decide), hiE e5']
      rfl
    · rw [hiK eg' 260 5 (by decide), hiK e8' 260 5 (by decide), hiK e7' 260 5 (by decide), hiE e6']
      rfl
    · rw [hiK eg' 260 6 (by decide), hiK e8' 260 6 (by decide), hiE e7', q6 235 s (by decide), e1]
      rfl
    · rw [hiK eg' 260 7 (by decide), hiE e8', q7 236 s (by decide), e2]
      rfl
    · rw [hiE eg']
      have c1 := cntB_le (bt q8.1) 25
      rw [nOf t4 (by omega), cn_r (f := hi g 263) c25 t2]
      show Int32.ofNat (cntB (fun i => decide (0 < (hi g 263 i).toInt)) (wT T * gT T)) = Int32.ofNat (cntB (fun i => decide (0 < (hi h 263 i).toInt)) (wT T * gT T))
      congr 1
      exact cntB_cg _ (fun i _ => by rw [rg 263 i (by decide)])
  refine Pc.bind (rv_tells l2 l1 hv hk k4 en'.1.2 en'.1.1 (by rw [hp]; exact o)) (fun q12 h12 => Pc.ret h12.2)
end R56F
end
section
/-! A STEP of a goer, in both -/
/-- where a goer at the cell b goes, told by the law k -/
def stF (T : TT) (f : Nat → Int32) (b : Nat) (x4 x5 : Int32) (k : Nat) : Nat :=
  if bt (f 50) (sdv (wT T) (gT T) b ((lwT T f b x4 x5 k).toInt.toNat % 5)) = true then b else sdv (wT T) (gT T) b ((lwT T f b x4 x5 k).toInt.toNat % 5)
def loudF (f : Nat → Int32) (b : Nat) (t : Int32) : Bool := decide (0 < (f b).toInt) && decide (t - t / f b * f b = f (25 + b))
theorem lwT_cg {T : TT} {f g : Nat → Int32} (c25 : wT T * gT T ≤ 25) (e : ∀ k, k < 25 → g k = f k) (e61 : g 61 = f 61) {b : Nat} (hb : b < 25) {x4 x5 : Int32} {k : Nat} : lwT T g b x4 x5 k = lwT T f b x4 x5 k := by
  have : valF (wT T) (gT T) (wT T * gT T) g b x4 x5 = valF (wT T) (gT T) (wT T * gT T) f b x4 x5 := by
    funext j
    have cc : cntB (fun i => decide (0 < (g i).toInt)) (wT T * gT T) = cntB (fun i => decide (0 < (f i).toInt)) (wT T * gT T) := cntB_cg _ (fun i hi' => by rw [e i (by omega)])
    unfold valF
    rw [e b hb, e61, cc]
  unfold lwT
  rw [this]
theorem stF_cg {T : TT} {f g : Nat → Int32} (c25 : wT T * gT T ≤ 25) (e : ∀ k, k < 25 → g k = f k) (e50 : g 50 = f 50) (e61 : g 61 = f 61) {b : Nat} (hb : b < 25) {x4 x5 : Int32} {k : Nat} : stF T g b x4 x5 k = stF T f b x4 x5 k := by
  unfold stF
  rw [lwT_cg c25 e e61 hb, e50]
def sdK (w g b : Nat) : Bool := !decide (0 < w) || (!decide (b < w * g) || ((decide (b / w + 1 < g) == decide (b + w < w * g)) && (decide (0 < b / w) == decide (w ≤ b))))
theorem sdK_all : ∀ w, w < 6 → ∀ g, g < 6 → ∀ b, b < 25 → sdK w g b = true := by decide +kernel
theorem sd_all (w : Nat) (hw : w < 6) (g : Nat) (hg : g < 6) (w2 : 2 ≤ w) (_ : 2 ≤ g) (b : Nat) (hb : b < 25) (h1 : b < w * g) : (b / w + 1 < g ↔ b + w < w * g) ∧ (0 < b / w ↔ w ≤ b) := by
  have q := sdK_all w hw g hg b hb
  unfold sdK at q
  rw [decide_eq_true h1, decide_eq_true (show 0 < w by omega)] at q
  simp only [Bool.not_true, Bool.false_or, Bool.and_eq_true, beq_iff_eq, decide_eq_decide] at q
  exact q
theorem stF_lt {T : TT} (v : VT T) {f : Nat → Int32} {b : Nat} (hb : b < wT T * gT T) {x4 x5 : Int32} {k : Nat} : stF T f b x4 x5 k < wT T * gT T := by
  obtain ⟨c25, ⟨w2, w5⟩, ⟨g2, g5⟩, -, -⟩ := wg_T v
  unfold stF
  by_cases y : bt (f 50) (sdv (wT T) (gT T) b ((lwT T f b x4 x5 k).toInt.toNat % 5)) = true
  · rw [if_pos y]; exact hb
  · rw [if_neg y]
    exact (sdv_all (wT T) (by omega) (gT T) (by omega) b (by omega) _ (Nat.mod_lt _ (by decide)) hb).1
theorem stF_free {T : TT} {f : Nat → Int32} {b : Nat} (nb : bt (f 50) b = false) {x4 x5 : Int32} {k : Nat} : bt (f 50) (stF T f b x4 x5 k) = false := by
  unfold stF
  by_cases y : bt (f 50) (sdv (wT T) (gT T) b ((lwT T f b x4 x5 k).toInt.toNat % 5)) = true
  · rw [if_pos y]; exact nb
  · rw [if_neg y]; exact Bool.eq_false_iff.mpr y
section R56G
variable {G : Nat} {f : Nat → Int32} {a : Nat} {h : Hp} {n : Nat} {x1 x2 x3 x4 : Int32} {T : TT} {s : Nat}
theorem bs_c {w g b k : Nat} (e0 : (hi h a 0).toInt = (w : Int)) (e1 : (hi h a 1).toInt = (g : Int)) (w2 : 2 ≤ w) (w5 : w ≤ 5) (g2 : 2 ≤ g) (g5 : g ≤ 5) (c25 : w * g ≤ 25) (hb : b < w * g) (hx : x1.toInt = (b : Int)) (hk : x2.toInt = (k : Int)) : Pc (F_X3_beside n h a x1 x2) (fun q => q.2 = h ∧ q.1.toInt = ((sdv w g b k : Nat) : Int)) := by
  have f0 := lit_0
  have f1 := lit_1
  have f2 := lit_2
  have f3 := lit_3
  have f4 := lit_4
  obtain ⟨t1, t2⟩ := sd_all w (by omega) g (by omega) w2 g2 b (by omega) hb
  have ml : b % w < w := Nat.mod_lt _ (by omega)
  have dl : b / w ≤ b := Nat.div_le_self b w
  have ml2 : b % w ≤ b := Nat.mod_le b w
  obtain ⟨dv, ed⟩ : ∃ dv, b / w = dv := ⟨_, rfl⟩
  obtain ⟨md, em⟩ : ∃ md, b % w = md := ⟨_, rfl⟩
  rw [ed] at t1 t2 dl
  rw [em] at ml ml2
  unfold F_X3_beside
  refine Pc.bind (lf_c (b := b) e0 w2 w5 (by omega) hx) (fun q1 h1 => ?_)
  obtain ⟨u1, u2⟩ := h1
  rw [u1]
  refine Pc.bind (tp_c (b := b) e0 w2 w5 (by omega) hx) (fun q3 h3 => ?_)
  obtain ⟨u3, u4⟩ := h3
  rw [u3]
  have v1 : q1.1.toInt = (md : Int) := by rw [u2, em]; exact Int32.toInt_ofNat_of_lt (by omega)
  have v3 : q3.1.toInt = (dv : Int) := by rw [u4, ed]; exact Int32.toInt_ofNat_of_lt (by omega)
  have a1 := adT q1.1 1 (by omega) (by omega)
  have a3 := adT q3.1 1 (by omega) (by omega)
  have b1 := adT x1 1 (by omega) (by omega)
  have b2 := adT x1 (hi h a 0) (by omega) (by omega)
  have b3 := sbT x1 1 (by omega) (by omega)
  have b4 := sbT x1 (hi h a 0) (by omega) (by omega)
  unfold sdv
  rw [em]
  refine Pc.eq (fun z => ?_) (fun z => ?_)
  · rw [if_pos (show k = 1 by omega)]
    refine Pc.le (fun y => Pc.ret ⟨rfl, ?_⟩) (fun y => Pc.ret ⟨rfl, ?_⟩)
    · rw [if_neg (by omega)]; exact hx
    · rw [if_pos (by omega)]
      show (x1 + 1).toInt = _
      omega
  rw [if_neg (show ¬ k = 1 by omega)]
  refine Pc.eq (fun z2 => ?_) (fun z2 => ?_)
  · rw [if_pos (show k = 2 by omega)]
    refine Pc.le (fun y => Pc.ret ⟨rfl, ?_⟩) (fun y => Pc.ret ⟨rfl, ?_⟩)
    · rw [if_neg (fun w => by have := t1.mpr w; omega)]; exact hx
    · rw [if_pos (t1.mp (by omega))]
      show (x1 + hi h a 0).toInt = _
      omega
  rw [if_neg (show ¬ k = 2 by omega)]
  refine Pc.eq (fun z3 => ?_) (fun z3 => ?_)
  · rw [if_pos (show k = 3 by omega)]
    refine Pc.le (fun y => Pc.ret ⟨rfl, ?_⟩) (fun y => Pc.ret ⟨rfl, ?_⟩)
    · rw [if_neg (by omega)]; exact hx
    · rw [if_pos (by omega)]
      show (x1 - 1).toInt = _
      omega
  rw [if_neg (show ¬ k = 3 by omega)]
  refine Pc.eq (fun z4 => ?_) (fun z4 => ?_)
  · rw [if_pos (show k = 4 by omega)]
    refine Pc.le (fun y => Pc.ret ⟨rfl, ?_⟩) (fun y => Pc.ret ⟨rfl, ?_⟩)
    · rw [if_neg (fun w => by have := t2.mpr w; omega)]; exact hx
    · have wb := t2.mp (by omega)
      rw [if_pos wb]
      show (x1 - hi h a 0).toInt = _
      omega
  rw [if_neg (show ¬ k = 4 by omega)]
  exact Pc.ret ⟨rfl, hx⟩
/-- the class: where a goer goes -/
theorem wt_c (v : VT T) (bd : BDF T 23 h) (sc : SCR (wT T * gT T) T.go.length f a h) (rv : RVR (wT T * gT T) T.go.length f) (ha : 30 ≤ a) {g : Nat} (hg : g < T.go.length) (hx : x3.toInt = (g : Int)) {k : Nat} (k4 : k < 4) (hk : x2.toInt = (k : Int)) : Pc (F_X0_whereTo n h 23 a x2 x3) (fun q => q.1.toInt = ((stF T f (f (51 + g)).toInt.toNat (f (56 + g)) x3 k : Nat) : Int)) := by
  have f0 := lit_0
  have f5 := lit_5
  obtain ⟨c25, ⟨w2, w5⟩, ⟨g2, g5⟩, -, -⟩ := wg_T v
  have G5 := v.2.2.1.1
  have n1 := ncT (show 0 ≤ x3.toInt by omega)
  have n2 : Int32.toNatClampNeg x3 = g := by omega
  obtain ⟨⟨rg1, rg2⟩, rg3⟩ := rv.2.2.1 g hg
  obtain ⟨b, hb⟩ : ∃ b : Nat, (f (51 + g)).toInt = (b : Int) := ⟨(f (51 + g)).toInt.toNat, by omega⟩
  have eb : (f (51 + g)).toInt.toNat = b := by omega
  rw [eb]
  obtain ⟨s1, s2⟩ := sc.2.2.2 g hg
  have bd0 := bd
  obtain ⟨⟨b1, b2, -, -⟩, ⟨b5, -, -⟩, -⟩ := bd
  unfold F_X0_whereTo
  have hgo : Pc (F_X0_hasGoer n h 23 x3) (fun q => q.2 = h ∧ q.1 = 1) := by
    unfold F_X0_hasGoer
    exact Pc.lt (fun z => by exfalso; omega) (fun _ => Pc.le (fun z => by exfalso; omega) (fun _ => Pc.le (fun z => by exfalso; omega) (fun _ => Pc.ret ⟨rfl, rfl⟩)))
  refine Pc.bind hgo (fun q1 h1 => ?_)
  obtain ⟨t1, t2⟩ := h1
  rw [t1, t2, n2]
  refine Pc.ite (fun z => absurd z (by decide)) (fun _ => Pc.chk (fun _ => Pc.chk (fun _ => ?_)))
  rw [s1, s2]
  refine Pc.bind (fun y e => And.intro (as_c v bd0 sc rv ha (b := b) (by omega) hb k4 hk (x4 := f (56 + g)) (x5 := x3) y e) (zf_X0_ask y e)) (fun q6 h6 => ?_)
  obtain ⟨t3, z6⟩ := h6
  have r6 (x j : Nat) (n1 : x ≠ 28) (n2 : x ≠ 29) : hi q6.2 x j = hi h x j := z6.1 x j (by omega)
  generalize ey : (if (0 : Int32) < q6.1 then q6.1 else 0) = y
  have hy : y.toInt = ((q6.1.toInt.toNat : Nat) : Int) := by
    rw [← ey]
    by_cases z : (0 : Int32) < q6.1
    · have := Int32.lt_iff_toInt_lt.mp z
      rw [if_pos z]; omega
    · have : ¬ (0 : Int32).toInt < q6.1.toInt := fun w => z (Int32.lt_iff_toInt_lt.mpr w)
      rw [if_neg z]; omega
  have m5 := rmN (x := y) (y := 5) (a := q6.1.toInt.toNat) (b := 5) hy f5
  refine Pc.bind (bs_c (w := wT T) (g := gT T) (b := b) (k := q6.1.toInt.toNat % 5) (by rw [r6 24 0 (by decide) (by decide)]; exact b1) (by rw [r6 24 1 (by decide) (by decide)]; exact b2) w2 w5 g2 g5 c25 (by omega) hb m5) (fun q8 h8 => ?_)
  obtain ⟨t4, t5⟩ := h8
  rw [t4]
  have dl : sdv (wT T) (gT T) b (q6.1.toInt.toNat % 5) < wT T * gT T := (sdv_all (wT T) (by omega) (gT T) (by omega) b (by omega) _ (Nat.mod_lt _ (by decide)) (by omega)).1
  have sc6 : SCR (wT T * gT T) T.go.length f a q6.2 := sc.to c25 G5 (fun j _ => r6 a j (by omega) (by omega)) (fun j _ => r6 (a + 1) j (by omega) (by omega)) (fun j _ => r6 (a + 2) j (by omega) (by omega)) (fun j _ => r6 (a + 3) j (by omega) (by omega))
  refine Pc.bind (ro_c sc6 (b := sdv (wT T) (gT T) b (q6.1.toInt.toNat % 5)) (by omega) t5) (fun q10 h10 => ?_)
  obtain ⟨t6, t7⟩ := h10
  rw [t7]
  unfold stF
  rw [← t3]
  by_cases z : bt (f 50) (sdv (wT T) (gT T) b (q6.1.toInt.toNat % 5)) = true
  · rw [if_pos z, if_pos z]
    exact Pc.ite (fun y => absurd y (by decide)) (fun _ => Pc.ret hb)
  · rw [if_neg z, if_neg z]
    exact Pc.ite (fun _ => Pc.ret t5) (fun y => absurd rfl y)
/-- the class: is it loud there -/
theorem so_c (sc : SCR (wT T * gT T) G f a h) (rv : RVR (wT T * gT T) G f) (c25 : wT T * gT T ≤ 25) {b : Nat} (hb : b < wT T * gT T) (hx : x1.toInt = (b : Int)) : Pc (F_X8_soundsAt n h a x1 x2) (fun q => q.2 = h ∧ q.1 = if loudF f b x2 = true then 1 else 0) := by
  have f0 := lit_0
  unfold F_X8_soundsAt loudF
  refine Pc.bind (be_c sc rv (b := b) (by omega) hx) (fun q1 h1 => ?_)
  obtain ⟨t1, t2⟩ := h1
  rw [t1, t2]
  refine Pc.le (fun z => Pc.ret ⟨rfl, ?_⟩) (fun z => Pc.ite (fun _ => Pc.no) (fun _ => ?_))
  · rw [decide_eq_false (show ¬ 0 < (f b).toInt by omega)]
    rfl
  · rw [decide_eq_true (show 0 < (f b).toInt by omega), Bool.true_and]
    refine Pc.bind (of_c sc rv hb c25 (by omega) hx) (fun q5 h5 => ?_)
    obtain ⟨t3, t4⟩ := h5
    rw [t3, t4]
    by_cases y : x2 - x2 / f b * f b = f (25 + b)
    · rw [decide_eq_true y]
      exact Pc.ite (fun _ => Pc.ret ⟨rfl, rfl⟩) (fun w => absurd y w)
    · rw [decide_eq_false y]
      exact Pc.ite (fun w => absurd w y) (fun _ => Pc.ret ⟨rfl, rfl⟩)
end R56G
end
section
/-! ALL GOERS WALK, in the class -/
def upF (f : Nat → Int32) (k : Nat) (v : Int32) : Nat → Int32 := fun j => if j = k then v else f j
/-- each goes his step, and it is a beat later -/
def wk1 (T : TT) (f : Nat → Int32) : Nat → Int32 := fun k => if 51 ≤ k ∧ k < 51 + T.go.length then Int32.ofNat (stF T f (f k).toInt.toNat (f (k + 5)) (Int32.ofNat (k - 51)) 0) else if k = 61 then f 61 + 1 else f k
/-- whoever stands where it is loud moves on -/
def wk2 (T : TT) (f : Nat → Int32) : Nat → Int32 := fun k => if 51 ≤ k ∧ k < 51 + T.go.length then (if loudF f (f k).toInt.toNat (f 61) = true then Int32.ofNat (stF T f (f k).toInt.toNat (f (k + 5)) (Int32.ofNat (k - 51)) 1) else f k) else if 56 ≤ k ∧ k < 56 + T.go.length then (if loudF f (f (k - 5)).toInt.toNat (f 61) = true then f k + 1 else f k) else f k
section R56H
variable {c G : Nat} {f : Nat → Int32} {a : Nat} {h : Hp} {n : Nat} {v : Int32} {g : Nat}
theorem upF_e {k : Nat} : upF f k v k = v := if_pos rfl
theorem upF_n {k j : Nat} (ne : j ≠ k) : upF f k v j = f j := if_neg ne
theorem SCR.tm (x : SCR c G f a h) (c25 : c ≤ 25) (G5 : G ≤ 5) : SCR c G (upF f 61 v) a (wrI h a 0 v) := by
  obtain ⟨⟨x1, x2, x3⟩, x4, x5, x6⟩ := x
  refine ⟨⟨?_, ?_, ?_⟩, fun b hb => ?_, fun b hb => ?_, fun k hk => ?_⟩
  · rw [hi_wrI, if_pos ⟨rfl, rfl⟩, upF_e]
  · rw [hi_wrI, if_neg (by omega), upF_n (by omega)]; exact x2
  · rw [hi_wrI, if_neg (by omega), upF_n (by omega)]; exact x3
  · rw [hi_wrI, if_neg (by omega)]
    by_cases y : b < c
    · rw [upF_n (by omega)]; exact x4 b hb
    · exact ⟨fun z => absurd ((x4 b hb).mp z).1 y, fun z => absurd z.1 y⟩
  · rw [hi_wrI, if_neg (by omega), upF_n (by omega), upF_n (by omega)]; exact x5 b hb
  · rw [hi_wrI, if_neg (by omega), hi_wrI, if_neg (by omega), upF_n (by omega), upF_n (by omega)]; exact x6 k hk
theorem SCR.go (x : SCR c G f a h) (c25 : c ≤ 25) (G5 : G ≤ 5) (g5 : g < 5) : SCR c G (upF f (51 + g) v) a (wrI h (a + 2) g v) := by
  obtain ⟨⟨x1, x2, x3⟩, x4, x5, x6⟩ := x
  refine ⟨⟨?_, ?_, ?_⟩, fun b hb => ?_, fun b hb => ?_, fun k hk => ⟨?_, ?_⟩⟩
  · rw [hi_wrI, if_neg (by omega), upF_n (by omega)]; exact x1
  · rw [hi_wrI, if_neg (by omega), upF_n (by omega)]; exact x2
  · rw [hi_wrI, if_neg (by omega), upF_n (by omega)]; exact x3
  · rw [hi_wrI, if_neg (by omega)]
    by_cases y : b < c
    · rw [upF_n (by omega)]; exact x4 b hb
    · exact ⟨fun z => absurd ((x4 b hb).mp z).1 y, fun z => absurd z.1 y⟩
  · rw [hi_wrI, if_neg (by omega), upF_n (by omega), upF_n (by omega)]; exact x5 b hb
  · rw [hi_wrI]
    by_cases y : k = g
    · rw [if_pos ⟨rfl, y⟩, y, upF_e]
    · rw [if_neg (fun z => y z.2), upF_n (by omega)]; exact (x6 k hk).1
  · rw [hi_wrI, if_neg (by omega), upF_n (by omega)]; exact (x6 k hk).2
theorem SCR.mv (x : SCR c G f a h) (c25 : c ≤ 25) (G5 : G ≤ 5) (g5 : g < 5) : SCR c G (upF f (56 + g) v) a (wrI h (a + 3) g v) := by
  obtain ⟨⟨x1, x2, x3⟩, x4, x5, x6⟩ := x
  refine ⟨⟨?_, ?_, ?_⟩, fun b hb => ?_, fun b hb => ?_, fun k hk => ⟨?_, ?_⟩⟩
  · rw [hi_wrI, if_neg (by omega), upF_n (by omega)]; exact x1
  · rw [hi_wrI, if_neg (by omega), upF_n (by omega)]; exact x2
  · rw [hi_wrI, if_neg (by omega), upF_n (by omega)]; exact x3
  · rw [hi_wrI, if_neg (by omega)]
    by_cases y : b < c
    · rw [upF_n (by omega)]; exact x4 b hb
    · exact ⟨fun z => absurd ((x4 b hb).mp z).1 y, fun z => absurd z.1 y⟩
  · rw [hi_wrI, if_neg (by omega), upF_n (by omega), upF_n (by omega)]; exact x5 b hb
  · rw [hi_wrI, if_neg (by omega), upF_n (by omega)]; exact (x6 k hk).1
  · rw [hi_wrI]
    by_cases y : k = g
    · rw [if_pos ⟨rfl, y⟩, y, upF_e]
    · rw [if_neg (fun z => y z.2), upF_n (by omega)]; exact (x6 k hk).2
theorem RVR.tm (x : RVR c G f) (G5 : G ≤ 5) : RVR c G (upF f 61 v) := x.cg G5 (fun k hk => upF_n (by omega))
theorem RVR.go (x : RVR c G f) (G5 : G ≤ 5) (c25 : c ≤ 25) (gG : g < G) {d : Nat} (hd : v.toInt = (d : Int)) (dc : d < c) (fr : bt (f 50) d = false) : RVR c G (upF f (51 + g) v) := by
  obtain ⟨x1, x2, x3, x4⟩ := x
  refine ⟨fun b hb => ?_, fun b hb => ?_, fun k hk => ?_, fun k h1 h2 => ?_⟩
  · rw [upF_n (by omega), upF_n (by omega)]; exact x1 b hb
  · rw [upF_n (by omega)]; exact x2 b hb
  · rw [upF_n (show 50 ≠ 51 + g by omega)]
    by_cases y : k = g
    · rw [y, upF_e, hd]
      exact ⟨⟨by omega, by omega⟩, fr⟩
    · rw [upF_n (by omega)]; exact x3 k hk
  · rw [upF_n (by omega), upF_n (by omega)]; exact x4 k h1 h2
theorem RVR.mv (x : RVR c G f) (G5 : G ≤ 5) (c25 : c ≤ 25) (gG : g < G) : RVR c G (upF f (56 + g) v) := by
  obtain ⟨x1, x2, x3, x4⟩ := x
  refine ⟨fun b hb => ?_, fun b hb => ?_, fun k hk => ?_, fun k h1 h2 => ?_⟩
  · rw [upF_n (by omega), upF_n (by omega)]; exact x1 b hb
  · rw [upF_n (by omega)]; exact x2 b hb
  · rw [upF_n (by omega), upF_n (by omega)]; exact x3 k hk
  · rw [upF_n (by omega), upF_n (by omega)]; exact x4 k h1 h2
/-- the band's draft is as it was -/
theorem BDF.at {T : TT} {q : Hp} (x : BDF T 23 h) (e : ∀ y k, 23 ≤ y → y ≤ 27 → hi q y k = hi h y k) : BDF T 23 q := x.to (fun k _ => e 24 k (by decide) (by decide)) (fun k _ _ => e 23 k (by decide) (by decide)) (e 25 3 (by decide) (by decide)) (fun k _ => e 26 k (by decide) (by decide)) (fun k _ => e 27 k (by decide) (by decide))
/-- as far as the goer i it is done -/
def w2i (T : TT) (f : Nat → Int32) (i : Nat) : Nat → Int32 := fun k => if (51 ≤ k ∧ k < 51 + i) ∨ (56 ≤ k ∧ k < 56 + i) then wk2 T f k else f k
def w1i (T : TT) (f : Nat → Int32) (i : Nat) : Nat → Int32 := fun k => if 51 ≤ k ∧ k < 51 + i then wk1 T f k else f k
theorem wk_46 {T : TT} (v : VT T) (ha : 30 ≤ a) : ∀ (n : Nat) (h : Hp) (l2 : Int32) (i : Nat), l2.toInt = (i : Int) → i ≤ T.go.length → BDF T 23 h → RVR (wT T * gT T) T.go.length f → SCR (wT T * gT T) T.go.length (w2i T f i) a h → RVR (wT T * gT T) T.go.length (w2i T f i) → Pc (W_X0_walk n 46 h 23 a l2) (fun q => SCR (wT T * gT T) T.go.length (wk2 T f) a q ∧ RVR (wT T * gT T) T.go.length (wk2 T f)) := by
  intro n
  have c25 := (wg_T v).1
  have G5 := v.2.2.1.1
  induction n with
  | zero => intro h l2 i e1 e2 bd r0 sc rv; exact Pc.no
  | succ n ih =>
    intro h l2 i e1 e2 bd r0 sc rv
    have f1 := lit_1
    have f5 := lit_5
    have hG := bd.2.1.1
    rw [u_X0_walk]
    refine Pc.neg (by decide) (Pc.pos rfl ?_)
    have fin (z : T.go.length ≤ i) : SCR (wT T * gT T) T.go.length (wk2 T f) a h ∧ RVR (wT T * gT T) T.go.length (wk2 T f) := by
      have ei : i = T.go.length := by omega
      have eq (k : Nat) : wk2 T f k = w2i T f i k := by
        unfold w2i
        by_cases y : (51 ≤ k ∧ k < 51 + i) ∨ (56 ≤ k ∧ k < 56 + i)
        · rw [if_pos y]
        · rw [if_neg y]
          unfold wk2
          rw [if_neg (by omega), if_neg (by omega)]
      exact ⟨sc.cg c25 G5 (fun k _ => eq k), rv.cg G5 (fun k _ => eq k)⟩
    refine Pc.le (fun z => Pc.ret (fin (by omega))) (fun z => Pc.le (fun z2 => Pc.ret (fin (by omega))) (fun z2 => Pc.chk (fun _ => ?_)))
    have n1 := ncT (show 0 ≤ l2.toInt by omega)
    have n2 : Int32.toNatClampNeg l2 = i := by omega
    rw [n2]
    have el : l2 = Int32.ofNat i := nOf e1 (by omega)
    have k51 : w2i T f i (51 + i) = f (51 + i) := if_neg (by omega)
    have k56 : w2i T f i (56 + i) = f (56 + i) := if_neg (by omega)
    have klo (k : Nat) (hk : k < 51) : w2i T f i k = f k := if_neg (by omega)
    have k61 : w2i T f i 61 = f 61 := if_neg (by omega)
    obtain ⟨s1, s2⟩ := sc.2.2.2 i (by omega)
    rw [k51] at s1
    rw [k56] at s2
    obtain ⟨⟨rg1, rg2⟩, rg3⟩ := r0.2.2.1 i (by omega)
    obtain ⟨b, hb⟩ : ∃ b : Nat, (f (51 + i)).toInt = (b : Int) := ⟨(f (51 + i)).toInt.toNat, by omega⟩
    have eb : (f (51 + i)).toInt.toNat = b := by omega
    have t61 : hi h a 0 = f 61 := sc.1.1.trans k61
    have a1 := adT l2 1 (by omega) (by omega)
    rw [s1, t61]
    have ld : loudF (w2i T f i) b (f 61) = loudF f b (f 61) := by
      unfold loudF
      rw [klo b (by omega), klo (25 + b) (by omega)]
    refine Pc.bind (so_c sc rv c25 (b := b) (by omega) hb (x2 := f 61)) (fun q9 h9 => ?_)
    obtain ⟨t1, t2⟩ := h9
    rw [t1, t2, ld]
    have w51 : wk2 T f (51 + i) = (if loudF f b (f 61) = true then Int32.ofNat (stF T f b (f (56 + i)) (Int32.ofNat i) 1) else f (51 + i)) := by
      unfold wk2
      rw [if_pos ⟨by omega, by omega⟩, eb, show 51 + i + 5 = 56 + i by omega, show 51 + i - 51 = i by omega]
    have w56 : wk2 T f (56 + i) = (if loudF f b (f 61) = true then f (56 + i) + 1 else f (56 + i)) := by
      unfold wk2
      rw [if_neg (by omega), if_pos ⟨by omega, by omega⟩, show 56 + i - 5 = 51 + i by omega, eb]
    by_cases z3 : loudF f b (f 61) = true
    · rw [if_pos z3] at w51 w56
      rw [if_pos z3]
      refine Pc.ite (fun y => absurd y (by decide)) (fun _ => ?_)
      refine Pc.bind (fun y e => And.intro (wt_c v bd sc rv ha (g := i) (by omega) e1 (k := 1) (by decide) f1 y e) (zf_X0_whereTo y e)) (fun q12 h12 => ?_)
      obtain ⟨t3, z12⟩ := h12
      rw [k51, k56, eb, el] at t3
      have est : stF T (w2i T f i) b (f (56 + i)) (Int32.ofNat i) 1 = stF T f b (f (56 + i)) (Int32.ofNat i) 1 := stF_cg c25 (fun k hk => klo k (by omega)) (klo 50 (by decide)) k61 (by omega)
      rw [est] at t3
      have dl := stF_lt v (f := f) (b := b) (by omega) (x4 := f (56 + i)) (x5 := Int32.ofNat i) (k := 1)
      have df := stF_free (T := T) (f := f) (b := b) (by rw [← eb]; exact rg3) (x4 := f (56 + i)) (x5 := Int32.ofNat i) (k := 1)
      have e12 : q12.1 = wk2 T f (51 + i) := by
        rw [w51]
        exact nOf t3 (by omega)
      have r12 (x j : Nat) (n1 : x ≠ 28) (n2 : x ≠ 29) : hi q12.2 x j = hi h x j := z12.1 x j (by omega)
      have sc12 : SCR (wT T * gT T) T.go.length (w2i T f i) a q12.2 := sc.to c25 G5 (fun j _ => r12 a j (by omega) (by omega)) (fun j _ => r12 (a + 1) j (by omega) (by omega)) (fun j _ => r12 (a + 2) j (by omega) (by omega)) (fun j _ => r12 (a + 3) j (by omega) (by omega))
      refine Pc.chk (fun _ => Pc.chk (fun _ => Pc.chk (fun _ => ?_)))
      have e33 : hi q12.2 (a + 3) i + 1 = wk2 T f (56 + i) := by
        rw [w56, r12 (a + 3) i (by omega) (by omega), s2]
      have eq (k : Nat) : w2i T f (i + 1) k = upF (upF (w2i T f i) (51 + i) q12.1) (56 + i) (hi q12.2 (a + 3) i + 1) k := by
        unfold upF
        by_cases y1 : k = 56 + i
        · rw [if_pos y1, e33, y1]
          exact if_pos (Or.inr ⟨by omega, by omega⟩)
        · rw [if_neg y1]
          by_cases y2 : k = 51 + i
          · rw [if_pos y2, e12, y2]
            exact if_pos (Or.inl ⟨by omega, by omega⟩)
          · rw [if_neg y2]
            unfold w2i
            by_cases y3 : (51 ≤ k ∧ k < 51 + i) ∨ (56 ≤ k ∧ k < 56 + i)
            · rw [if_pos y3, if_pos (by omega)]
            · rw [if_neg y3, if_neg (by omega)]
      have sA := (sc12.go (v := q12.1) (g := i) c25 G5 (by omega)).mv (v := hi q12.2 (a + 3) i + 1) (g := i) c25 G5 (by omega)
      have rA := (rv.go (v := q12.1) (g := i) G5 c25 (by omega) (d := stF T f b (f (56 + i)) (Int32.ofNat i) 1) t3 dl (by rw [klo 50 (by decide)]; exact df)).mv (v := hi q12.2 (a + 3) i + 1) (g := i) G5 c25 (by omega)
      have ew : hi (wrI q12.2 (a + 2) i q12.1) (a + 3) i = hi q12.2 (a + 3) i := hiA rfl (a + 3) i (by omega)
      rw [ew]
      refine ih _ (l2 + 1) (i + 1) (by omega) (by omega) (bd.at (fun y k h1 h2 => ?_)) r0 (sA.cg c25 G5 (fun k _ => eq k)) (rA.cg G5 (fun k _ => eq k))
      rw [hi_wrI, if_neg (by omega), hi_wrI, if_neg (by omega)]
      exact r12 y k (by omega) (by omega)
    · rw [if_neg z3] at w51 w56
      rw [if_neg z3]
      refine Pc.ite (fun _ => ?_) (fun y => absurd rfl y)
      have eq (k : Nat) : w2i T f (i + 1) k = w2i T f i k := by
        unfold w2i
        by_cases y3 : (51 ≤ k ∧ k < 51 + i) ∨ (56 ≤ k ∧ k < 56 + i)
        · rw [if_pos y3, if_pos (by omega)]
        · rw [if_neg y3]
          by_cases y1 : k = 56 + i
          · rw [if_pos (by omega), y1]; exact w56
          · by_cases y2 : k = 51 + i
            · rw [if_pos (by omega), y2]; exact w51
            · rw [if_neg (by omega)]
      exact ih h (l2 + 1) (i + 1) (by omega) (by omega) bd r0 (sc.cg c25 G5 (fun k _ => eq k)) (rv.cg G5 (fun k _ => eq k))
theorem wk_2 {T : TT} (v : VT T) (ha : 30 ≤ a) : ∀ (n : Nat) (h : Hp) (l2 : Int32) (i : Nat), l2.toInt = (i : Int) → i ≤ T.go.length → BDF T 23 h → RVR (wT T * gT T) T.go.length f → SCR (wT T * gT T) T.go.length (w1i T f i) a h → RVR (wT T * gT T) T.go.length (w1i T f i) → Pc (W_X0_walk n 2 h 23 a l2) (fun q => SCR (wT T * gT T) T.go.length (wk2 T (wk1 T f)) a q ∧ RVR (wT T * gT T) T.go.length (wk2 T (wk1 T f))) := by
  intro n
  have c25 := (wg_T v).1
  have G5 := v.2.2.1.1
  induction n with
  | zero => intro h l2 i e1 e2 bd r0 sc rv; exact Pc.no
  | succ n ih =>
    intro h l2 i e1 e2 bd r0 sc rv
    have f0 := lit_0
    have f1 := lit_1
    have f5 := lit_5
    have hG := bd.2.1.1
    rw [u_X0_walk]
    refine Pc.pos rfl ?_
    have klo (k : Nat) (hk : k < 51) : w1i T f i k = f k := if_neg (by omega)
    have k61 : w1i T f i 61 = f 61 := if_neg (by omega)
    have fin (z : T.go.length ≤ i) : Pc (W_X0_walk n 46 (wrI h a 0 ((hi h a 0) + 1)) 23 a 0) (fun q => SCR (wT T * gT T) T.go.length (wk2 T (wk1 T f)) a q ∧ RVR (wT T * gT T) T.go.length (wk2 T (wk1 T f))) := by
      have ei : i = T.go.length := by omega
      have e61 : hi h a 0 = f 61 := sc.1.1.trans k61
      have eq (k : Nat) : wk1 T f k = upF (w1i T f i) 61 (hi h a 0 + 1) k := by
        unfold upF
        by_cases y : k = 61
        · rw [if_pos y, y, e61]
          unfold wk1
          rw [if_neg (by omega), if_pos rfl]
        · rw [if_neg y]
          unfold w1i
          by_cases y2 : 51 ≤ k ∧ k < 51 + i
          · rw [if_pos y2]
          · rw [if_neg y2]
            unfold wk1
            rw [if_neg (by omega), if_neg y]
      have s1 := (sc.tm (v := hi h a 0 + 1) c25 G5).cg (g := wk1 T f) c25 G5 (fun k _ => eq k)
      have r1 := (rv.tm (v := hi h a 0 + 1) G5).cg (g := wk1 T f) G5 (fun k _ => eq k)
      have eq2 (k : Nat) : w2i T (wk1 T f) 0 k = wk1 T f k := if_neg (by omega)
      refine wk_46 (f := wk1 T f) v ha n _ 0 0 f0 (Nat.zero_le _) (bd.at (fun y k h1 h2 => by rw [hi_wrI, if_neg (by omega)])) r1 (s1.cg c25 G5 (fun k _ => eq2 k)) (r1.cg G5 (fun k _ => eq2 k))
    refine Pc.le (fun z => fin (by omega)) (fun z => Pc.le (fun z2 => fin (by omega)) (fun z2 => ?_))
    have n1 := ncT (show 0 ≤ l2.toInt by omega)
    have n2 : Int32.toNatClampNeg l2 = i := by omega
    have el : l2 = Int32.ofNat i := nOf e1 (by omega)
    have k51 : w1i T f i (51 + i) = f (51 + i) := if_neg (by omega)
    have k56 : w1i T f i (56 + i) = f (56 + i) := if_neg (by omega)
    obtain ⟨⟨rg1, rg2⟩, rg3⟩ := r0.2.2.1 i (by omega)
    obtain ⟨b, hb⟩ : ∃ b : Nat, (f (51 + i)).toInt = (b : Int) := ⟨(f (51 + i)).toInt.toNat, by omega⟩
    have eb : (f (51 + i)).toInt.toNat = b := by omega
    have a1 := adT l2 1 (by omega) (by omega)
    refine Pc.bind (fun y e => And.intro (wt_c v bd sc rv ha (g := i) (by omega) e1 (k := 0) (by decide) f0 y e) (zf_X0_whereTo y e)) (fun q12 h12 => ?_)
    obtain ⟨t3, z12⟩ := h12
    rw [k51, k56, eb, el] at t3
    have est : stF T (w1i T f i) b (f (56 + i)) (Int32.ofNat i) 0 = stF T f b (f (56 + i)) (Int32.ofNat i) 0 := stF_cg c25 (fun k hk => klo k (by omega)) (klo 50 (by decide)) k61 (by omega)
    rw [est] at t3
    have dl := stF_lt v (f := f) (b := b) (by omega) (x4 := f (56 + i)) (x5 := Int32.ofNat i) (k := 0)
    have df := stF_free (T := T) (f := f) (b := b) (by rw [← eb]; exact rg3) (x4 := f (56 + i)) (x5 := Int32.ofNat i) (k := 0)
    have w51 : wk1 T f (51 + i) = Int32.ofNat (stF T f b (f (56 + i)) (Int32.ofNat i) 0) := by
      unfold wk1
      rw [if_pos ⟨by omega, by omega⟩, eb, show 51 + i + 5 = 56 + i by omega, show 51 + i - 51 = i by omega]
    have e12 : q12.1 = wk1 T f (51 + i) := by
      rw [w51]
      exact nOf t3 (by omega)
    have r12 (x j : Nat) (n1 : x ≠ 28) (n2 : x ≠ 29) : hi q12.2 x j = hi h x j := z12.1 x j (by omega)
    have sc12 : SCR (wT T * gT T) T.go.length (w1i T f i) a q12.2 := sc.to c25 G5 (fun j _ => r12 a j (by omega) (by omega)) (fun j _ => r12 (a + 1) j (by omega) (by omega)) (fun j _ => r12 (a + 2) j (by omega) (by omega)) (fun j _ => r12 (a + 3) j (by omega) (by omega))
    rw [n2]
    refine Pc.chk (fun _ => ?_)
    have eq (k : Nat) : w1i T f (i + 1) k = upF (w1i T f i) (51 + i) q12.1 k := by
      unfold upF
      by_cases y2 : k = 51 + i
      · rw [if_pos y2, e12, y2]
        exact if_pos ⟨by omega, by omega⟩
      · rw [if_neg y2]
        unfold w1i
        by_cases y3 : 51 ≤ k ∧ k < 51 + i
        · rw [if_pos y3, if_pos (by omega)]
        · rw [if_neg y3, if_neg (by omega)]
    have sA := sc12.go (v := q12.1) (g := i) c25 G5 (by omega)
    have rA := rv.go (v := q12.1) (g := i) G5 c25 (by omega) (d := stF T f b (f (56 + i)) (Int32.ofNat i) 0) t3 dl (by rw [klo 50 (by decide)]; exact df)
    refine ih _ (l2 + 1) (i + 1) (by omega) (by omega) (bd.at (fun y k h1 h2 => ?_)) r0 (sA.cg c25 G5 (fun k _ => eq k)) (rA.cg G5 (fun k _ => eq k))
    rw [hi_wrI, if_neg (by omega)]
    exact r12 y k (by omega) (by omega)
theorem wk_c {T : TT} (v : VT T) (ha : 30 ≤ a) (bd : BDF T 23 h) (sc : SCR (wT T * gT T) T.go.length f a h) (rv : RVR (wT T * gT T) T.go.length f) : Pc (F_X0_walk n h 23 a) (fun q => SCR (wT T * gT T) T.go.length (wk2 T (wk1 T f)) a q ∧ RVR (wT T * gT T) T.go.length (wk2 T (wk1 T f))) := by
  have c25 := (wg_T v).1
  have G5 := v.2.2.1.1
  unfold F_X0_walk
  have eq (k : Nat) : w1i T f 0 k = f k := if_neg (by omega)
  exact wk_2 v ha n h 0 0 lit_0 (Nat.zero_le _) bd rv (sc.cg c25 G5 (fun k _ => eq k)) (rv.cg G5 (fun k _ => eq k))
end R56H
end
section
/-! ALL GOERS WALK, in the reference -/
/-- the cells on each side, as they must be -/
def SD5 (T : TT) (h : Hp) : Prop := ∀ c k : Nat, c < wT T * gT T → k < 5 → (hi h 264 (5 * c + k)).toInt = ((sdv (wT T) (gT T) c k : Nat) : Int)
def bgF (x k : Nat) : Prop := (260 ≤ x ∧ x ≤ 261) ∨ x = 263 ∨ x = 265 ∨ (x = 226 ∧ k = 52)
section R56I
variable {s : Nat} {T : TT} {f : Nat → Int32} {h h0 q : Hp} {n : Nat} {x1 x2 x3 x4 : Int32}
theorem SD5.of (v : VT T) (e : EN2 s T h) (sd : sdO h) : SD5 T h := by
  obtain ⟨c25, ⟨w2, w5⟩, ⟨g2, g5⟩, y1, y2⟩ := wg_T v
  have nc := e.nc
  have e1 : wdN h = ((wT T : Nat) : Int) := by
    unfold wdN
    rw [nc]
    exact e.2.1.1.trans y1
  have e2 : hgN h = ((gT T : Nat) : Int) := by
    unfold hgN
    rw [nc]
    exact e.2.1.2.trans y2
  intro c k hc hk
  have := sd c k (by unfold cnN; rw [e1, e2, ← Int.natCast_mul]; omega) hk
  rw [e1, e2, Int.toNat_natCast, Int.toNat_natCast] at this
  exact this
theorem EN2.bg (e : EN2 s T h0) (fr : frZ bgF h0 h) : EN2 s T h := e.cg (fun a k h1 h2 => fr.1 a k (by unfold bgF; omega)) (fr.1 226 18 (by unfold bgF; omega))
theorem SD5.bg (e : SD5 T h0) (fr : frZ bgF h0 h) : SD5 T h := fun c k hc hk => by rw [fr.1 264 _ (by unfold bgF; omega)]; exact e c k hc hk
theorem ir_r {b : Nat} (hb : b < 32) (hx : x1.toInt = (b : Int)) : Pc (F_X12_isRoped n h x1) (fun q => q.2 = h ∧ q.1 = if bt (hi h 263 50) b = true then 1 else 0) := by
  have f1 := lit_1
  have n1 := ncT (show 0 ≤ x1.toInt by omega)
  have n2 : Int32.toNatClampNeg x1 = b := by omega
  have b1 := btS1 (hi h 263 50) (c := x1) (by omega) (by omega)
  rw [n2] at b1
  unfold F_X12_isRoped
  refine Pc.eq (fun z => Pc.ret ⟨rfl, ?_⟩) (fun z => Pc.ret ⟨rfl, ?_⟩)
  · rw [if_pos (b1.mp (z.trans f1))]
  · rw [if_neg (fun y => z ((b1.mpr y).trans f1.symm))]
/-- where a goer goes -/
theorem wo_r (v : VT T) (e : EN2 s T h) (sd : SD5 T h) {g b : Nat} (g5 : g < 5) (hg : x1.toInt = (g : Int)) (hb : b < wT T * gT T) (hx : x2.toInt = (b : Int)) {k : Nat} (k4 : k < 4) (hk : x3.toInt = (k : Int)) (hp : x4 = plW4 k) : Pc (F_X12_wayOf n h x1 x2 x3 x4) (fun q => q.1.toInt = ((stF T (hi h 263) b (hi h 263 (56 + g)) x1 k : Nat) : Int)) := by
  have f0 := lit_0
  have f5 := lit_5
  have f56 : (56 : Int32).toInt = 56 := by decide
  obtain ⟨c25, ⟨w2, w5⟩, ⟨g2, g5'⟩, -, -⟩ := wg_T v
  have a1 := adT 56 x1 (by omega) (by omega)
  have n1 := ncT (show 0 ≤ (56 + x1).toInt by omega)
  have n2 : Int32.toNatClampNeg (56 + x1) = 56 + g := by omega
  unfold F_X12_wayOf
  rw [n2]
  refine Pc.chk (fun _ => ?_)
  refine Pc.bind (fun y e' => And.intro (ar_r v e (b := b) hb hx k4 hk hp (x2 := hi h 263 (56 + g)) (x3 := x1) y e') (zf_X12_toldOf y e')) (fun q2 h2 => ?_)
  obtain ⟨t1, z2⟩ := h2
  have m5x := mlT 5 x2 5 f5 (by omega) (by omega)
  have r2 (a j : Nat) (n1 : a ≠ 260) (n2 : a ≠ 261) (n3 : ¬ (a = 226 ∧ j = 52)) : hi q2.2 a j = hi h a j := z2.1 a j (by omega)
  have e50 : hi q2.2 263 50 = hi h 263 50 := r2 263 50 (by decide) (by decide) (by decide)
  -- the cell that is taken
  have go (y : Int32) (d : Nat) (hd : d < 5) (hy : y.toInt = ((5 * b + d : Nat) : Int)) (ed : (lwT T (hi h 263) b (hi h 263 (56 + g)) x1 k).toInt.toNat % 5 = d) : Pc ((F_X12_isRoped n q2.2 (hi q2.2 264 (Int32.toNatClampNeg y))).bind (fun q6 => (if (q6.1 : Int32) = (0 : Int32) then some ((hi q2.2 264 (Int32.toNatClampNeg y)), q6.2) else some (x2, q6.2)))) (fun q => q.1.toInt = ((stF T (hi h 263) b (hi h 263 (56 + g)) x1 k : Nat) : Int)) := by
    have m1 := ncT (show 0 ≤ y.toInt by omega)
    have m2 : Int32.toNatClampNeg y = 5 * b + d := by omega
    rw [m2]
    have es : (hi q2.2 264 (5 * b + d)).toInt = ((sdv (wT T) (gT T) b d : Nat) : Int) := by
      rw [r2 264 _ (by decide) (by decide) (by omega)]
      exact sd b d hb hd
    have dl : sdv (wT T) (gT T) b d < wT T * gT T := (sdv_all (wT T) (by omega) (gT T) (by omega) b (by omega) d hd hb).1
    unfold stF
    rw [ed]
    refine Pc.bind (ir_r (b := sdv (wT T) (gT T) b d) (by omega) es) (fun q6 h6 => ?_)
    obtain ⟨t6, t7⟩ := h6
    rw [e50] at t7
    rw [t7]
    by_cases z : bt (hi h 263 50) (sdv (wT T) (gT T) b d) = true
    · rw [if_pos z, if_pos z]
      exact Pc.ite (fun y => absurd y (by decide)) (fun _ => Pc.ret hx)
    · rw [if_neg z, if_neg z]
      exact Pc.ite (fun _ => Pc.ret es) (fun y => absurd rfl y)
  refine Pc.le (fun z => Pc.chk (fun _ => ?_)) (fun z => Pc.chk (fun _ => ?_))
  · have m5 := rmN (x := q2.1) (y := 5) (a := q2.1.toInt.toNat) (b := 5) (by omega) f5
    have lm : q2.1.toInt.toNat % 5 < 5 := Nat.mod_lt _ (by decide)
    generalize (q2.1 - q2.1 / 5 * 5 : Int32) = r at m5 ⊢
    have a2 := adT (5 * x2) r (by omega) (by omega)
    exact go _ (q2.1.toInt.toNat % 5) lm (by omega) (by rw [t1])
  · have a2 := adT (5 * x2) 0 (by omega) (by omega)
    refine go _ 0 (by decide) (by omega) ?_
    rw [← t1]
    have : q2.1.toInt.toNat = 0 := by omega
    rw [this]
theorem il_r {b : Nat} (hb : b < 25) (hx : x1.toInt = (b : Int)) : Pc (F_X12_isLoud n h x1 x2) (fun q => q.2 = h ∧ q.1 = if loudF (hi h 263) b x2 = true then 1 else 0) := by
  have f0 := lit_0
  have f25 := lit_25
  have n1 := ncT (show 0 ≤ x1.toInt by omega)
  have n2 : Int32.toNatClampNeg x1 = b := by omega
  have a1 := adT 25 x1 (by omega) (by omega)
  have n3 := ncT (show 0 ≤ (25 + x1).toInt by omega)
  have n4 : Int32.toNatClampNeg (25 + x1) = 25 + b := by omega
  unfold F_X12_isLoud loudF
  rw [n2, n4]
  refine Pc.chk (fun _ => Pc.le (fun z => Pc.ret ⟨rfl, ?_⟩) (fun z => Pc.chk (fun _ => Pc.ite (fun _ => Pc.no) (fun _ => Pc.chk (fun _ => ?_)))))
  · rw [decide_eq_false (show ¬ 0 < (hi h 263 b).toInt by omega)]
    rfl
  · rw [decide_eq_true (show 0 < (hi h 263 b).toInt by omega), Bool.true_and]
    by_cases y : x2 - x2 / hi h 263 b * hi h 263 b = hi h 263 (25 + b)
    · rw [decide_eq_true y]
      exact Pc.ite (fun _ => Pc.ret ⟨rfl, rfl⟩) (fun w => absurd y w)
    · rw [decide_eq_false y]
      exact Pc.ite (fun w => absurd w y) (fun _ => Pc.ret ⟨rfl, rfl⟩)
/-- what a beat comes to, but for the spreading -/
def btQ (T : TT) (f : Nat → Int32) (h0 q : Hp) : Prop := ∃ (m : Nat) (h' : Hp), frZ bgF h0 h' ∧ (∀ k, hi h' 263 k = wk2 T f k) ∧ ((vp_nar .boolean (hi h0 226 56) = 0 ∧ F_X12_spreads m h' = some q) ∨ (vp_nar .boolean (hi h0 226 56) ≠ 0 ∧ q = h'))
theorem gN (v : VT T) (e : EN2 s T h0) (fr : frZ bgF h0 h) : hi h 242 (Int32.toNatClampNeg (hi h 226 18)) = hi h0 242 s ∧ (hi h0 242 s).toInt = (T.go.length : Int) ∧ T.go.length ≤ 5 := by
  have e' := e.bg fr
  rw [e'.nc, fr.1 242 s (by unfold bgF; omega)]
  exact ⟨rfl, e.2.2.1, v.2.2.1.1⟩
theorem lt_140 (v : VT T) (e : EN2 s T h0) (rv : RVR (wT T * gT T) T.go.length f) : ∀ (n : Nat) (h : Hp) (l1 : Int32) (i : Nat), l1.toInt = (i : Int) → i ≤ T.go.length → frZ bgF h0 h → (∀ k, hi h 263 k = w2i T f i k) → (∀ j, j < T.go.length → hi h 265 j = if loudF f (f (51 + j)).toInt.toNat (f 61) = true then Int32.ofNat (stF T f (f (51 + j)).toInt.toNat (f (56 + j)) (Int32.ofNat j) 1) else -1) → Pc (W_X12_beatGoes n 140 h l1) (btQ T f h0) := by
  intro n
  have c25 := (wg_T v).1
  induction n with
  | zero => intro h l1 i a b c d r; exact Pc.no
  | succ n ih =>
    intro h l1 i a b c d r
    have f0 := lit_0
    have f1 := lit_1
    have f51 : (51 : Int32).toInt = 51 := by decide
    have f56 : (56 : Int32).toInt = 56 := by decide
    obtain ⟨g1, g2, g5⟩ := gN v e c
    rw [u_X12_beatGoes]
    refine Pc.neg (by decide) (Pc.neg (by decide) (Pc.neg (by decide) (Pc.pos rfl ?_)))
    rw [g1]
    refine Pc.chk (fun _ => ?_)
    refine Pc.le (fun z => ?_) (fun z => Pc.chk (fun _ => ?_))
    · have ei : i = T.go.length := by omega
      have eq (k : Nat) : hi h 263 k = wk2 T f k := by
        rw [d k]
        unfold w2i
        by_cases y : (51 ≤ k ∧ k < 51 + i) ∨ (56 ≤ k ∧ k < 56 + i)
        · rw [if_pos y]
        · rw [if_neg y]
          unfold wk2
          rw [if_neg (by omega), if_neg (by omega)]
      have e56 : hi h 226 56 = hi h0 226 56 := c.1 226 56 (by unfold bgF; omega)
      rw [e56]
      refine Pc.ite (fun y => ?_) (fun y => Pc.ret ⟨0, h, c, eq, Or.inr ⟨y, rfl⟩⟩)
      intro q hq
      cases z2 : F_X12_spreads n h with
      | none =>
        rw [z2] at hq
        exact (nsn hq).elim
      | some q' =>
        rw [z2] at hq
        have : q' = q := Option.some.inj hq
        subst this
        exact ⟨n, h, c, eq, Or.inl ⟨y, z2⟩⟩
    · have n1 := ncT (show 0 ≤ l1.toInt by omega)
      have n2 : Int32.toNatClampNeg l1 = i := by omega
      have a1 := adT l1 1 (by omega) (by omega)
      have a51 := adT 51 l1 (by omega) (by omega)
      have a56 := adT 56 l1 (by omega) (by omega)
      have n3 := ncT (show 0 ≤ (51 + l1).toInt by omega)
      have n4 : Int32.toNatClampNeg (51 + l1) = 51 + i := by omega
      have n5 := ncT (show 0 ≤ (56 + l1).toInt by omega)
      have n6 : Int32.toNatClampNeg (56 + l1) = 56 + i := by omega
      rw [n2, n4, n6]
      have ri := r i (by omega)
      have w51 : wk2 T f (51 + i) = (if loudF f (f (51 + i)).toInt.toNat (f 61) = true then Int32.ofNat (stF T f (f (51 + i)).toInt.toNat (f (56 + i)) (Int32.ofNat i) 1) else f (51 + i)) := by
        unfold wk2
        rw [if_pos ⟨by omega, by omega⟩, show 51 + i + 5 = 56 + i by omega, show 51 + i - 51 = i by omega]
      have w56 : wk2 T f (56 + i) = (if loudF f (f (51 + i)).toInt.toNat (f 61) = true then f (56 + i) + 1 else f (56 + i)) := by
        unfold wk2
        rw [if_neg (by omega), if_pos ⟨by omega, by omega⟩, show 56 + i - 5 = 51 + i by omega]
      obtain ⟨⟨rg1, rg2⟩, rg3⟩ := rv.2.2.1 i (by omega)
      by_cases z3 : loudF f (f (51 + i)).toInt.toNat (f 61) = true
      · rw [if_pos z3] at ri w51 w56
        have dl := stF_lt v (f := f) (b := (f (51 + i)).toInt.toNat) (by omega) (x4 := f (56 + i)) (x5 := Int32.ofNat i) (k := 1)
        have pz : 0 ≤ (hi h 265 i).toInt := by
          rw [ri, Int32.toInt_ofNat_of_lt (by omega)]
          omega
        refine Pc.le (fun _ => Pc.chk (fun _ => Pc.chk (fun _ => Pc.chk (fun _ => Pc.chk (fun _ => ?_))))) (fun y => by exfalso; omega)
        have e56 : hi (wrI h 263 (51 + i) (hi h 265 i)) 263 (56 + i) = f (56 + i) := by
          rw [hi_wrI, if_neg (by omega), d (56 + i)]
          exact if_neg (by omega)
        refine ih _ (l1 + 1) (i + 1) (by omega) (by omega) ((c.w (Or.inr (Or.inl rfl))).w (Or.inr (Or.inl rfl))) (fun k => ?_) (fun j hj => ?_)
        · rw [e56, hi_wrI]
          by_cases y1 : k = 56 + i
          · rw [if_pos ⟨rfl, y1⟩, y1, ← w56]
            exact (if_pos (Or.inr ⟨by omega, by omega⟩)).symm
          · rw [if_neg (fun z => y1 z.2), hi_wrI]
            by_cases y2 : k = 51 + i
            · rw [if_pos ⟨rfl, y2⟩, y2, ri, ← w51]
              exact (if_pos (Or.inl ⟨by omega, by omega⟩)).symm
            · rw [if_neg (fun z => y2 z.2), d k]
              unfold w2i
              by_cases y3 : (51 ≤ k ∧ k < 51 + i) ∨ (56 ≤ k ∧ k < 56 + i)
              · rw [if_pos y3, if_pos (by omega)]
              · rw [if_neg y3, if_neg (by omega)]
        · rw [hi_wrI, if_neg (by omega), hi_wrI, if_neg (by omega)]
          exact r j hj
      · rw [if_neg z3] at ri w51 w56
        have fm : (-1 : Int32).toInt = -1 := by decide
        refine Pc.le (fun y => by exfalso; rw [ri] at y; omega) (fun _ => ?_)
        refine ih h (l1 + 1) (i + 1) (by omega) (by omega) c (fun k => ?_) r
        rw [d k]
        unfold w2i
        by_cases y3 : (51 ≤ k ∧ k < 51 + i) ∨ (56 ≤ k ∧ k < 56 + i)
        · rw [if_pos y3, if_pos (by omega)]
        · rw [if_neg y3]
          by_cases y1 : k = 56 + i
          · rw [if_pos (by omega), y1]; exact w56.symm
          · by_cases y2 : k = 51 + i
            · rw [if_pos (by omega), y2]; exact w51.symm
            · rw [if_neg (by omega)]
theorem lt_81 (v : VT T) (e : EN2 s T h0) (sd : SD5 T h0) (rv : RVR (wT T * gT T) T.go.length f) : ∀ (n : Nat) (h : Hp) (l1 : Int32) (i : Nat), l1.toInt = (i : Int) → i ≤ T.go.length → frZ bgF h0 h → (∀ k, hi h 263 k = f k) → (∀ j, j < i → hi h 265 j = if loudF f (f (51 + j)).toInt.toNat (f 61) = true then Int32.ofNat (stF T f (f (51 + j)).toInt.toNat (f (56 + j)) (Int32.ofNat j) 1) else -1) → Pc (W_X12_beatGoes n 81 h l1) (btQ T f h0) := by
  intro n
  have c25 := (wg_T v).1
  induction n with
  | zero => intro h l1 i a b c d r; exact Pc.no
  | succ n ih =>
    intro h l1 i a b c d r
    have f0 := lit_0
    have f1 := lit_1
    have f51 : (51 : Int32).toInt = 51 := by decide
    obtain ⟨g1, g2, g5⟩ := gN v e c
    rw [u_X12_beatGoes]
    refine Pc.neg (by decide) (Pc.neg (by decide) (Pc.pos rfl ?_))
    rw [g1]
    refine Pc.chk (fun _ => ?_)
    refine Pc.le (fun z => ?_) (fun z => Pc.chk (fun _ => ?_))
    · refine lt_140 v e rv n h 0 0 f0 (Nat.zero_le _) c (fun k => ?_) (fun j hj => r j (by omega))
      rw [d k]
      exact (if_neg (by omega)).symm
    · have n1 := ncT (show 0 ≤ l1.toInt by omega)
      have n2 : Int32.toNatClampNeg l1 = i := by omega
      have el : l1 = Int32.ofNat i := nOf a (by omega)
      have a1 := adT l1 1 (by omega) (by omega)
      have a51 := adT 51 l1 (by omega) (by omega)
      have n3 := ncT (show 0 ≤ (51 + l1).toInt by omega)
      have n4 : Int32.toNatClampNeg (51 + l1) = 51 + i := by omega
      obtain ⟨⟨rg1, rg2⟩, rg3⟩ := rv.2.2.1 i (by omega)
      obtain ⟨b', hb⟩ : ∃ b : Nat, (f (51 + i)).toInt = (b : Int) := ⟨(f (51 + i)).toInt.toNat, by omega⟩
      have eb : (f (51 + i)).toInt.toNat = b' := by omega
      have ef : hi h 263 = f := funext d
      rw [n4, d (51 + i), d 61, n2]
      refine Pc.bind (il_r (b := b') (by omega) hb) (fun q13 h13 => ?_)
      obtain ⟨t1, t2⟩ := h13
      rw [ef] at t2
      rw [t1, t2]
      have nx (u : Int32) (hu : u = if loudF f b' (f 61) = true then Int32.ofNat (stF T f b' (f (56 + i)) (Int32.ofNat i) 1) else -1) (h2 : Hp) (c2 : frZ bgF h0 h2) (d2 : ∀ k, hi h2 263 k = f k) (r2 : ∀ j, hi h2 265 j = hi h 265 j) : Pc (W_X12_beatGoes n 81 (wrI h2 265 i u) (l1 + 1)) (btQ T f h0) := by
        refine ih _ (l1 + 1) (i + 1) (by omega) (by omega) (c2.w (Or.inr (Or.inr (Or.inl rfl)))) (fun k => by rw [hi_wrI, if_neg (by omega)]; exact d2 k) (fun j hj => ?_)
        rw [hi_wrI]
        by_cases y : j = i
        · rw [if_pos ⟨rfl, y⟩, y, eb]; exact hu
        · rw [if_neg (fun z => y z.2), r2 j]; exact r j (by omega)
      by_cases z3 : loudF f b' (f 61) = true
      · rw [if_pos z3]
        refine Pc.ite (fun y => absurd y (by decide)) (fun _ => ?_)
        have mo : Pc (F_X12_moveOf n h l1) (fun q => q.1.toInt = ((stF T f b' (f (56 + i)) l1 1 : Nat) : Int) ∧ frZ (fun x k => (260 ≤ x ∧ x ≤ 261) ∨ (x = 226 ∧ (k = 52))) h q.2) := by
          unfold F_X12_moveOf
          rw [n4, d (51 + i)]
          refine Pc.chk (fun _ => ?_)
          refine Pc.bind (fun y e' => And.intro (wo_r v (e.bg c) (sd.bg c) (g := i) (b := b') (by omega) a (by omega) hb (k := 1) (by decide) f1 rfl y e') (zf_X12_wayOf y e')) (fun q2 h2 => Pc.ret ?_)
          obtain ⟨t3, z3⟩ := h2
          rw [ef] at t3
          exact ⟨t3, z3⟩
        refine Pc.bind mo (fun q17 h17 => Pc.chk (fun _ => ?_))
        obtain ⟨t3, z17⟩ := h17
        have dl := stF_lt v (f := f) (b := b') (by omega) (x4 := f (56 + i)) (x5 := Int32.ofNat i) (k := 1)
        rw [el] at t3
        refine nx q17.1 ?_ q17.2 (c.tr (z17.sub (fun x k z => by unfold bgF; omega))) (fun k => by rw [z17.1 263 k (by omega)]; exact d k) (fun j => z17.1 265 j (by omega))
        rw [if_pos z3]
        exact nOf t3 (by omega)
      · rw [if_neg z3]
        refine Pc.ite (fun _ => Pc.chk (fun _ => ?_)) (fun y => absurd rfl y)
        exact nx (-1) (if_neg z3).symm h c d (fun _ => rfl)
theorem lt_34 (v : VT T) (e : EN2 s T h0) (sd : SD5 T h0) (rv : RVR (wT T * gT T) T.go.length f) : ∀ (n : Nat) (h : Hp) (l1 : Int32) (i : Nat), l1.toInt = (i : Int) → i ≤ T.go.length → frZ bgF h0 h → (∀ k, hi h 263 k = w1i T f i k) → (∀ j, j < T.go.length → hi h 265 j = wk1 T f (51 + j)) → RVR (wT T * gT T) T.go.length (wk1 T f) → Pc (W_X12_beatGoes n 34 h l1) (btQ T (wk1 T f) h0) := by
  intro n
  induction n with
  | zero => intro h l1 i a b c d r r1; exact Pc.no
  | succ n ih =>
    intro h l1 i a b c d r r1
    have f0 := lit_0
    have f1 := lit_1
    have f51 : (51 : Int32).toInt = 51 := by decide
    obtain ⟨g1, g2, g5⟩ := gN v e c
    rw [u_X12_beatGoes]
    refine Pc.neg (by decide) (Pc.pos rfl ?_)
    rw [g1]
    refine Pc.chk (fun _ => ?_)
    refine Pc.le (fun z => ?_) (fun z => Pc.chk (fun _ => Pc.chk (fun _ => ?_)))
    · have ei : i = T.go.length := by omega
      refine lt_81 v e sd r1 n _ 0 0 f0 (Nat.zero_le _) (c.w (Or.inr (Or.inl rfl))) (fun k => ?_) (fun j hj => absurd hj (Nat.not_lt_zero j))
      rw [hi_wrI]
      have e61 : hi h 263 61 = f 61 := (d 61).trans (if_neg (by omega))
      by_cases y : k = 61
      · rw [if_pos ⟨rfl, y⟩, y, e61]
        unfold wk1
        rw [if_neg (by omega), if_pos rfl]
      · rw [if_neg (fun z => y z.2), d k]
        unfold w1i
        by_cases y2 : 51 ≤ k ∧ k < 51 + i
        · rw [if_pos y2]
        · rw [if_neg y2]
          unfold wk1
          rw [if_neg (by omega), if_neg y]
    · have n1 := ncT (show 0 ≤ l1.toInt by omega)
      have n2 : Int32.toNatClampNeg l1 = i := by omega
      have a1 := adT l1 1 (by omega) (by omega)
      have a51 := adT 51 l1 (by omega) (by omega)
      have n3 := ncT (show 0 ≤ (51 + l1).toInt by omega)
      have n4 : Int32.toNatClampNeg (51 + l1) = 51 + i := by omega
      rw [n2, n4, r i (by omega)]
      refine ih _ (l1 + 1) (i + 1) (by omega) (by omega) (c.w (Or.inr (Or.inl rfl))) (fun k => ?_) (fun j hj => by rw [hi_wrI, if_neg (by omega)]; exact r j hj) r1
      rw [hi_wrI]
      unfold w1i
      by_cases y2 : k = 51 + i
      · rw [if_pos ⟨rfl, y2⟩, if_pos (by omega), y2]
      · rw [if_neg (fun z => y2 z.2), d k]
        unfold w1i
        by_cases y3 : 51 ≤ k ∧ k < 51 + i
        · rw [if_pos y3, if_pos (by omega)]
        · rw [if_neg y3, if_neg (by omega)]
theorem lt_2 (v : VT T) (e : EN2 s T h0) (sd : SD5 T h0) (rv : RVR (wT T * gT T) T.go.length f) (r1 : RVR (wT T * gT T) T.go.length (wk1 T f)) : ∀ (n : Nat) (h : Hp) (l1 : Int32) (i : Nat), l1.toInt = (i : Int) → i ≤ T.go.length → frZ bgF h0 h → (∀ k, hi h 263 k = f k) → (∀ j, j < i → hi h 265 j = wk1 T f (51 + j)) → Pc (W_X12_beatGoes n 2 h l1) (btQ T (wk1 T f) h0) := by
  intro n
  have c25 := (wg_T v).1
  induction n with
  | zero => intro h l1 i a b c d r; exact Pc.no
  | succ n ih =>
    intro h l1 i a b c d r
    have f0 := lit_0
    have f1 := lit_1
    have f51 : (51 : Int32).toInt = 51 := by decide
    obtain ⟨g1, g2, g5⟩ := gN v e c
    rw [u_X12_beatGoes]
    refine Pc.pos rfl ?_
    rw [g1]
    refine Pc.chk (fun _ => ?_)
    refine Pc.le (fun z => ?_) (fun z => ?_)
    · have ei : i = T.go.length := by omega
      exact lt_34 v e sd rv n h 0 0 f0 (Nat.zero_le _) c (fun k => (d k).trans (if_neg (by omega)).symm) (fun j hj => r j (by omega)) r1
    · have n1 := ncT (show 0 ≤ l1.toInt by omega)
      have n2 : Int32.toNatClampNeg l1 = i := by omega
      have el : l1 = Int32.ofNat i := nOf a (by omega)
      have a1 := adT l1 1 (by omega) (by omega)
      have a51 := adT 51 l1 (by omega) (by omega)
      have n3 := ncT (show 0 ≤ (51 + l1).toInt by omega)
      have n4 : Int32.toNatClampNeg (51 + l1) = 51 + i := by omega
      obtain ⟨⟨rg1, rg2⟩, rg3⟩ := rv.2.2.1 i (by omega)
      obtain ⟨b', hb⟩ : ∃ b : Nat, (f (51 + i)).toInt = (b : Int) := ⟨(f (51 + i)).toInt.toNat, by omega⟩
      have eb : (f (51 + i)).toInt.toNat = b' := by omega
      have ef : hi h 263 = f := funext d
      have mo : Pc (F_X12_stepOf n h l1) (fun q => q.1.toInt = ((stF T f b' (f (56 + i)) l1 0 : Nat) : Int) ∧ frZ (fun x k => (260 ≤ x ∧ x ≤ 261) ∨ (x = 226 ∧ (k = 52))) h q.2) := by
        unfold F_X12_stepOf
        rw [n4, d (51 + i)]
        refine Pc.chk (fun _ => ?_)
        refine Pc.bind (fun y e' => And.intro (wo_r v (e.bg c) (sd.bg c) (g := i) (b := b') (by omega) a (by omega) hb (k := 0) (by decide) f0 rfl y e') (zf_X12_wayOf y e')) (fun q2 h2 => Pc.ret ?_)
        obtain ⟨t3, z3⟩ := h2
        rw [ef] at t3
        exact ⟨t3, z3⟩
      refine Pc.bind mo (fun q17 h17 => Pc.chk (fun _ => ?_))
      obtain ⟨t3, z17⟩ := h17
      have dl := stF_lt v (f := f) (b := b') (by omega) (x4 := f (56 + i)) (x5 := Int32.ofNat i) (k := 0)
      rw [el] at t3
      have w51 : wk1 T f (51 + i) = Int32.ofNat (stF T f b' (f (56 + i)) (Int32.ofNat i) 0) := by
        unfold wk1
        rw [if_pos ⟨by omega, by omega⟩, eb, show 51 + i + 5 = 56 + i by omega, show 51 + i - 51 = i by omega]
      rw [n2]
      refine ih _ (l1 + 1) (i + 1) (by omega) (by omega) ((c.tr (z17.sub (fun x k z => by unfold bgF; omega))).w (Or.inr (Or.inr (Or.inl rfl)))) (fun k => by rw [hi_wrI, if_neg (by omega), z17.1 263 k (by omega)]; exact d k) (fun j hj => ?_)
      rw [hi_wrI]
      by_cases y : j = i
      · rw [if_pos ⟨rfl, y⟩, y, w51]
        exact nOf t3 (by omega)
      · rw [if_neg (fun z => y z.2), z17.1 265 j (by omega)]; exact r j (by omega)
theorem lt_beat (v : VT T) (e : EN2 s T h) (sd : SD5 T h) (rv : RVR (wT T * gT T) T.go.length (hi h 263)) (r1 : RVR (wT T * gT T) T.go.length (wk1 T (hi h 263))) : Pc (F_X12_beatGoes n h) (btQ T (wk1 T (hi h 263)) h) := by
  unfold F_X12_beatGoes
  exact lt_2 v e sd rv r1 n h 0 0 lit_0 (Nat.zero_le _) (frZ.rf h) (fun _ => rfl) (fun j hj => absurd hj (Nat.not_lt_zero j))
end R56I
end
section
/-! A CELL IS MOWN, in both -/
/-- what mowing costs -/
def coF (T : TT) (f : Nat → Int32) (b : Nat) : Int32 := if 0 ≤ (lwT T f b 0 0 3).toInt then (if (lwT T f b 0 0 3).toInt ≤ 99 then lwT T f b 0 0 3 else 99) else 0
/-- the row behind it -/
def mwF (T : TT) (f : Nat → Int32) (b : Nat) : Nat → Int32 := upF (upF (upF f 62 (f 62 + coF T f b)) b 0) (25 + b) 0
section R56J
variable {c G : Nat} {f : Nat → Int32} {a : Nat} {h q : Hp} {n : Nat} {v x1 : Int32} {T : TT} {s : Nat}
theorem SCR.pd (x : SCR c G f a h) (c25 : c ≤ 25) (G5 : G ≤ 5) : SCR c G (upF f 62 v) a (wrI h a 1 v) := by
  obtain ⟨⟨x1, x2, x3⟩, x4, x5, x6⟩ := x
  refine ⟨⟨?_, ?_, ?_⟩, fun b hb => ?_, fun b hb => ?_, fun k hk => ?_⟩
  · rw [hi_wrI, if_neg (by omega), upF_n (by omega)]; exact x1
  · rw [hi_wrI, if_pos ⟨rfl, rfl⟩, upF_e]
  · rw [hi_wrI, if_neg (by omega), upF_n (by omega)]; exact x3
  · rw [hi_wrI, if_neg (by omega)]
    by_cases y : b < c
    · rw [upF_n (by omega)]; exact x4 b hb
    · exact ⟨fun z => absurd ((x4 b hb).mp z).1 y, fun z => absurd z.1 y⟩
  · rw [hi_wrI, if_neg (by omega), upF_n (by omega), upF_n (by omega)]; exact x5 b hb
  · rw [hi_wrI, if_neg (by omega), hi_wrI, if_neg (by omega), upF_n (by omega), upF_n (by omega)]; exact x6 k hk
theorem SCR.hu (x : SCR c G f a h) (c25 : c ≤ 25) (G5 : G ≤ 5) {b : Nat} (hb : b < c) (hx : x1.toInt = (b : Int)) : SCR c G (upF (upF f b 0) (25 + b) 0) a (wrI h a 3 (hi h a 3 &&& (((1 : Int32) <<< (x1 &&& 31)) ^^^ (-1)))) := by
  have f0 := lit_0
  obtain ⟨⟨y1, y2, y3⟩, y4, y5, y6⟩ := x
  have n1 := ncT (show 0 ≤ x1.toInt by omega)
  have n2 : Int32.toNatClampNeg x1 = b := by omega
  refine ⟨⟨?_, ?_, ?_⟩, fun i hi' => ?_, fun i hi' => ?_, fun k hk => ?_⟩
  · rw [hi_wrI, if_neg (by omega), upF_n (by omega), upF_n (by omega)]; exact y1
  · rw [hi_wrI, if_neg (by omega), upF_n (by omega), upF_n (by omega)]; exact y2
  · rw [hi_wrI, if_neg (by omega), upF_n (by omega), upF_n (by omega)]; exact y3
  · rw [hi_wrI, if_pos ⟨rfl, rfl⟩, bt_and, bt_not _ hi', btL (by omega) (by omega), n2, Bool.and_eq_true, y4 i hi']
    by_cases z : i = b
    · refine ⟨fun w => ?_, fun w => ?_⟩
      · have := w.2
        rw [decide_eq_true z] at this
        exact absurd this (by decide)
      · have := w.2
        rw [z, upF_n (by omega), upF_e] at this
        exfalso; omega
    · rw [decide_eq_false z]
      refine ⟨fun w => ⟨w.1.1, ?_⟩, fun w => ⟨⟨w.1, ?_⟩, rfl⟩⟩
      · rw [upF_n (by have := w.1.1; omega), upF_n z]; exact w.1.2
      · have := w.2
        rw [upF_n (by have := w.1; omega), upF_n z] at this
        exact this
  · rw [hi_wrI, if_neg (by omega)]
    by_cases z : i = b
    · rw [z, upF_n (show b ≠ 25 + b by omega), upF_e]
      intro w
      exfalso; omega
    · rw [upF_n (show i ≠ 25 + b by omega), upF_n z, upF_n (show 25 + i ≠ 25 + b by omega), upF_n (show 25 + i ≠ b by omega)]
      exact y5 i hi'
  · rw [hi_wrI, if_neg (by omega), hi_wrI, if_neg (by omega), upF_n (by omega), upF_n (by omega), upF_n (by omega), upF_n (by omega)]; exact y6 k hk
theorem RVR.mw (x : RVR c G f) (c25 : c ≤ 25) (G5 : G ≤ 5) {b : Nat} (hb : b < c) : RVR c G (upF (upF (upF f 62 v) b 0) (25 + b) 0) := by
  have f0 := lit_0
  obtain ⟨x1, x2, x3, x4⟩ := x
  refine ⟨fun i hi' => ?_, fun i hi' => ?_, fun k hk => ?_, fun k h1 h2 => ?_⟩
  · by_cases z : i = b
    · rw [z, upF_n (show b ≠ 25 + b by omega), upF_e]
      exact ⟨fun _ => f0, by omega, fun w => by exfalso; omega⟩
    · rw [upF_n (show i ≠ 25 + b by omega), upF_n z, upF_n (show i ≠ 62 by omega), upF_n (show 25 + i ≠ 25 + b by omega), upF_n (show 25 + i ≠ b by omega), upF_n (show 25 + i ≠ 62 by omega)]
      exact x1 i hi'
  · rw [upF_n (by omega), upF_n (by omega), upF_n (by omega)]; exact x2 i hi'
  · rw [upF_n (by omega), upF_n (by omega), upF_n (by omega), upF_n (by omega), upF_n (by omega), upF_n (by omega)]; exact x3 k hk
  · rw [upF_n (by omega), upF_n (by omega), upF_n (by omega), upF_n (by omega), upF_n (by omega), upF_n (by omega)]; exact x4 k h1 h2
/-- the class: what mowing costs -/
theorem co_c (v : VT T) (bd : BDF T 23 h) (sc : SCR (wT T * gT T) G f a h) (rv : RVR (wT T * gT T) G f) (ha : 30 ≤ a) {b : Nat} (hb : b < wT T * gT T) (hx : x1.toInt = (b : Int)) : Pc (F_X0_costOf n h 23 a x1) (fun q => q.1 = coF T f b) := by
  have f0 := lit_0
  have f3 := lit_3
  have f99 : (99 : Int32).toInt = 99 := by decide
  unfold F_X0_costOf
  refine Pc.bind (as_c v bd sc rv ha hb hx (k := 3) (by decide) f3 (x4 := 0) (x5 := 0)) (fun q1 h1 => Pc.ret ?_)
  show (if (0 : Int32) < (if q1.1 < (99 : Int32) then q1.1 else 99) then (if q1.1 < (99 : Int32) then q1.1 else 99) else 0) = coF T f b
  unfold coF
  rw [← h1]
  generalize q1.1 = y
  by_cases z : y < (99 : Int32)
  · have := Int32.lt_iff_toInt_lt.mp z
    rw [if_pos z]
    by_cases w : (0 : Int32) < y
    · have := Int32.lt_iff_toInt_lt.mp w
      rw [if_pos w, if_pos (by omega), if_pos (by omega)]
    · have w' : ¬ (0 : Int32).toInt < y.toInt := fun u => w (Int32.lt_iff_toInt_lt.mpr u)
      rw [if_neg w]
      by_cases u : 0 ≤ y.toInt
      · rw [if_pos u, if_pos (by omega)]
        exact Int32.toInt_inj.mp (by omega)
      · rw [if_neg u]
  · have z' : ¬ y.toInt < (99 : Int32).toInt := fun u => z (Int32.lt_iff_toInt_lt.mpr u)
    rw [if_neg z, if_pos (show (0 : Int32) < 99 by decide), if_pos (by omega)]
    by_cases w : y.toInt ≤ 99
    · rw [if_pos w]
      exact Int32.toInt_inj.mp (by omega)
    · rw [if_neg w]
/-- the reference: what mowing costs -/
theorem co_r (v : VT T) (e : EN2 s T h) {b : Nat} (hb : b < wT T * gT T) (hx : x1.toInt = (b : Int)) : Pc (F_X12_costsOf n h x1) (fun q => q.1 = coF T (hi h 263) b) := by
  have f0 := lit_0
  have f3 := lit_3
  have f99 : (99 : Int32).toInt = 99 := by decide
  unfold F_X12_costsOf
  refine Pc.bind (ar_r v e hb hx (k := 3) (by decide) f3 rfl (x2 := 0) (x3 := 0)) (fun q1 h1 => ?_)
  have wi : Pc (F_X12_within n q1.2 q1.1 0 99) (fun q => q.1 = coF T (hi h 263) b) := by
    unfold F_X12_within coF
    rw [← h1]
    generalize q1.1 = y
    refine Pc.le (fun z => ?_) (fun z => Pc.ret ?_)
    · refine Pc.le (fun w => Pc.ret ?_) (fun w => Pc.ret ?_)
      · rw [if_pos (by omega), if_pos (by omega)]
      · rw [if_pos (by omega), if_neg (by omega)]
    · rw [if_neg (by omega)]
  exact Pc.bind wi (fun q3 h3 => Pc.ret h3)
end R56J
end
section
/-! WHERE TUNES SPREAD: what both ask -/
def mxV (x y : Int32) : Int32 := ((x ^^^ y) * 1103515245 + 12345) ^^^ ((((x ^^^ y) * 1103515245 + 12345).toUInt32 >>> ((15 : Int32).toUInt32 &&& Int32.toUInt32 31)).toInt32)
def lotV (s x : Int32) : Int32 := ((mxV (mxV s 197) x).toUInt32 >>> ((1 : Int32).toUInt32 &&& Int32.toUInt32 31)).toInt32 - ((mxV (mxV s 197) x).toUInt32 >>> ((1 : Int32).toUInt32 &&& Int32.toUInt32 31)).toInt32 / 100 * 100
def sdV (T : TT) : Int32 := Int32.ofInt T.ws.2
/-- it is wet there -/
def wetF (T : TT) (f : Nat → Int32) (b : Nat) : Bool := decide ((lotV (sdV T) (32 * f 61 + Int32.ofNat b)).toInt < T.ws.1)
/-- a tune with a quiet cell on its right -/
def qtF (T : TT) (f : Nat → Int32) (b : Nat) : Bool := (decide (b < wT T * gT T) && decide (0 < (f b).toInt)) && (decide (b % wT T + 1 < wT T) && !decide (0 < (f (b + 1)).toInt))
/-- it would spread, were there room -/
def wlF (T : TT) (f : Nat → Int32) (b : Nat) : Bool := qtF T f b && (wetF T f b && decide (0 < (lwT T f b 0 0 2).toInt))
/-- how many tunes -/
def tnN (T : TT) (f : Nat → Int32) : Nat := cntB (fun i => decide (0 < (f i).toInt)) (wT T * gT T)
/-- it spreads -/
def snF (T : TT) (f : Nat → Int32) (b : Nat) : Bool := wlF T f b && decide (tnN T f + cntB (wlF T f) b < 8)
/-- the row behind it -/
def spF (T : TT) (f : Nat → Int32) : Nat → Int32 := fun k => if (1 ≤ k ∧ k < 25) ∧ snF T f (k - 1) = true then f (k - 1) else if (26 ≤ k ∧ k < 50) ∧ snF T f (k - 26) = true then (f (k - 1) + 1) - (f (k - 1) + 1) / f (k - 26) * f (k - 26) else f k
section R56K
variable {G : Nat} {f : Nat → Int32} {a : Nat} {h : Hp} {n : Nat} {x1 x2 x3 : Int32} {T : TT} {s : Nat}
theorem bt_tb (x : Int32) (i : Nat) : bt x i = Nat.testBit (bn x) i := rfl
theorem bt_r1 (x : Int32) (i : Nat) : bt ((x.toUInt32 >>> ((1 : Int32).toUInt32 &&& Int32.toUInt32 31)).toInt32) i = bt x (i + 1) := by
  rw [bt_tb, bn_r1, bt_tb, Nat.testBit_succ]
def rtKq (w g b : Nat) : Bool := !decide (0 < w) || (!decide (b < w * g) || (decide (b % w + 1 < w) == (decide (b + 1 < w * g) && !(decide ((b + 1) % w = 0 ∧ b + 1 < w * g)))))
theorem rtKq_all : ∀ w, w < 6 → ∀ g, g < 6 → ∀ b, b < 25 → rtKq w g b = true := by decide +kernel
theorem rt_all {w g b : Nat} (w2 : 2 ≤ w) (w5 : w ≤ 5) (g5 : g ≤ 5) (hb : b < 25) (h1 : b < w * g) : decide (b % w + 1 < w) = (decide (b + 1 < w * g) && !(decide ((b + 1) % w = 0 ∧ b + 1 < w * g))) := by
  have q := rtKq_all w (by omega) g (by omega) b hb
  unfold rtKq at q
  rw [decide_eq_true h1, decide_eq_true (show 0 < w by omega)] at q
  simp only [Bool.not_true, Bool.false_or, beq_iff_eq] at q
  exact q
/-- the class: tunes with a quiet cell on their right -/
theorem qt_c (v : VT T) (bd : BDF T 23 h) (sc : SCR (wT T * gT T) G f a h) (rv : RVR (wT T * gT T) G f) : Pc (F_X3_quietOnTheRight n h 24 (hi h a 3)) (fun q => q.2 = h ∧ ∀ i, i < 32 → bt q.1 i = qtF T f i) := by
  obtain ⟨c25, ⟨w2, w5⟩, ⟨g2, g5⟩, -, -⟩ := wg_T v
  obtain ⟨⟨-, -, b3, b4⟩, -⟩ := bd
  unfold F_X3_quietOnTheRight
  refine Pc.ret ⟨rfl, fun i hi' => ?_⟩
  show bt (hi h a 3 &&& ((((hi h 24 2 &&& (hi h 24 3 ^^^ (-1))) &&& (hi h a 3 ^^^ (-1))).toUInt32 >>> ((1 : Int32).toUInt32 &&& Int32.toUInt32 31)).toInt32)) i = _
  rw [bt_and, bt_r1]
  have tb (j : Nat) (hj : j < 32) : bt (hi h a 3) j = (decide (j < wT T * gT T) && decide (0 < (f j).toInt)) := by
    have := sc.2.1 j hj
    cases e : bt (hi h a 3) j with
    | true => rw [decide_eq_true (this.mp e).1, decide_eq_true (this.mp e).2]; rfl
    | false =>
      by_cases y : j < wT T * gT T
      · rw [decide_eq_true y, decide_eq_false (fun z => by rw [this.mpr ⟨y, z⟩] at e; exact absurd e (by decide))]; rfl
      · rw [decide_eq_false y]; rfl
  unfold qtF
  rw [tb i hi']
  by_cases y : i < wT T * gT T
  · rw [bt_and, bt_and, bt_not _ (by omega), bt_not _ (by omega), b3 (i + 1) (by omega), b4 (i + 1) (by omega), tb (i + 1) (by omega), rt_all w2 w5 g5 (by omega) y]
    by_cases z : i + 1 < wT T * gT T
    · rw [decide_eq_true z]
      simp only [Bool.true_and]
    · rw [decide_eq_false z]
      simp only [Bool.false_and, Bool.and_false]
  · rw [decide_eq_false y]
    simp only [Bool.false_and]
/-- the class: is it wet -/
theorem we_c (bd : BDF T 23 h) {b : Nat} (b25 : b < 25) (ht : x1 = f 61) (hx : x2.toInt = (b : Int)) (hs : x3.toInt = T.ws.2) : Pc (F_X0_isWet n h 23 x1 x2 x3) (fun q => q.2 = h ∧ q.1 = if wetF T f b = true then 1 else 0) := by
  have es : x3 = sdV T := by
    unfold sdV
    rw [← hs, Int32.ofInt_toInt]
  have f100 : (0 : Int32) < 100 := by decide
  unfold F_X0_isWet
  have lo : Pc (F_X0_lot n h 100 x3 (32 * x1 + x2)) (fun q => q.2 = h ∧ q.1 = lotV (sdV T) (32 * f 61 + Int32.ofNat b)) := by
    unfold F_X0_lot F_X0_stirred
    refine Pc.bind (Pc.ret (P := fun q : Int32 × Hp => q.2 = h ∧ q.1 = mxV x3 197) ⟨rfl, rfl⟩) (fun q1 h1 => ?_)
    refine Pc.bind (Pc.ret (P := fun q : Int32 × Hp => q.2 = h ∧ q.1 = mxV q1.1 (32 * x1 + x2)) ⟨h1.1, rfl⟩) (fun q3 h3 => ?_)
    refine Pc.le (fun z => absurd z (by decide)) (fun _ => Pc.ite (fun _ => Pc.no) (fun _ => Pc.ret ⟨h3.1, ?_⟩))
    show ((q3.1.toUInt32 >>> ((1 : Int32).toUInt32 &&& Int32.toUInt32 31)).toInt32 - (q3.1.toUInt32 >>> ((1 : Int32).toUInt32 &&& Int32.toUInt32 31)).toInt32 / 100 * 100 : Int32) = _
    rw [h3.2, h1.2, es, ht, nOf hx (by omega)]
    rfl
  refine Pc.bind lo (fun q1 h1 => ?_)
  obtain ⟨t1, t2⟩ := h1
  have e3 : (hi h 23 3).toInt = T.ws.1 := bd.2.1.2.1
  rw [t1, t2]
  unfold wetF
  refine Pc.le (fun z => Pc.ret ⟨rfl, ?_⟩) (fun z => Pc.ret ⟨rfl, ?_⟩)
  · rw [decide_eq_false (by omega)]; rfl
  · rw [decide_eq_true (by omega)]; rfl
/-- the reference: the lot of a cell -/
theorem lo_r (hs : (hi h 226 55).toInt = T.ws.2) : Pc (F_X12_lotOf n h x1) (fun q => q.2 = h ∧ q.1 = lotV (sdV T) x1) := by
  have es : hi h 226 55 = sdV T := by
    unfold sdV
    rw [← hs, Int32.ofInt_toInt]
  unfold F_X12_lotOf F_X12_mixed
  refine Pc.bind (Pc.ret (P := fun q : Int32 × Hp => q.2 = h ∧ q.1 = mxV (hi h 226 55) 197) ⟨rfl, rfl⟩) (fun q1 h1 => ?_)
  refine Pc.bind (Pc.ret (P := fun q : Int32 × Hp => q.2 = h ∧ q.1 = mxV q1.1 x1) ⟨h1.1, rfl⟩) (fun q3 h3 => Pc.ret ⟨h3.1, ?_⟩)
  show ((q3.1.toUInt32 >>> ((1 : Int32).toUInt32 &&& Int32.toUInt32 31)).toInt32 - (q3.1.toUInt32 >>> ((1 : Int32).toUInt32 &&& Int32.toUInt32 31)).toInt32 / 100 * 100 : Int32) = _
  rw [h3.2, h1.2, es]
  rfl
end R56K
end
section
/-! WHERE TUNES SPREAD: counted, and the reference's set -/
theorem cntB_upd {p : Nat → Bool} {j : Nat} (hj : p j = false) : ∀ n, cntB (fun i => if i = j then true else p i) n = cntB p n + (if j < n then 1 else 0) := by
  intro n
  induction n with
  | zero => rw [if_neg (Nat.not_lt_zero j)]; rfl
  | succ n ih =>
    show cntB (fun i => if i = j then true else p i) n + (if n = j then true else p n).toNat = cntB p n + (p n).toNat + _
    rw [ih]
    by_cases y : n = j
    · rw [if_pos y, if_neg (by omega), if_pos (by omega), y, hj]
      rfl
    · rw [if_neg y]
      by_cases z : j < n
      · rw [if_pos z, if_pos (by omega)]; omega
      · rw [if_neg z, if_neg (by omega)]; omega
theorem cntB_mono (p : Nat → Bool) {m n : Nat} (h : m ≤ n) : cntB p m ≤ cntB p n := by
  obtain ⟨d, hd⟩ : ∃ d, n = m + d := ⟨n - m, by omega⟩
  rw [hd, cntB_add]
  omega
/-- counting all that would, or all that do: the same test -/
theorem sn_cnt {wl sn : Nat → Bool} {t : Nat} (h : ∀ b, sn b = (wl b && decide (t + cntB wl b < 8))) : ∀ b, (t + cntB wl b < 8 → cntB sn b = cntB wl b) ∧ (8 ≤ t + cntB wl b → 8 ≤ t + cntB sn b) := by
  intro b
  induction b with
  | zero => exact ⟨fun _ => rfl, fun z => z⟩
  | succ b ih =>
    obtain ⟨i1, i2⟩ := ih
    have e1 : cntB wl (b + 1) = cntB wl b + (wl b).toNat := rfl
    have e2 : cntB sn (b + 1) = cntB sn b + (sn b).toNat := rfl
    rw [e1, e2, h b]
    by_cases y : t + cntB wl b < 8
    · have := i1 y
      rw [decide_eq_true y, Bool.and_true, this]
      exact ⟨fun _ => rfl, fun z => z⟩
    · have := i2 (by omega)
      exact ⟨fun z => by omega, fun _ => by omega⟩
section R56L
variable {h h0 : Hp} {n : Nat} {T : TT} {s : Nat}
def bgW (x k : Nat) : Prop := (260 ≤ x ∧ x ≤ 261) ∨ (x = 226 ∧ k = 52)
theorem sdv_1 {w g b : Nat} : sdv w g b 1 = if b % w + 1 < w then b + 1 else b := rfl
theorem sb_9 (v : VT T) (e : EN2 s T h0) (sd : SD5 T h0) (hs : (hi h0 226 55).toInt = T.ws.2) {l1 : Int32} (hl : ∀ b, b < 32 → (bt l1 b = true ↔ b < wT T * gT T ∧ 0 < (hi h0 263 b).toInt)) : ∀ (n : Nat) (h : Hp) (l2 l3 : Int32) (i : Nat), l3.toInt = (i : Int) → i ≤ wT T * gT T → frZ bgW h0 h → (∀ j, j < 32 → bt l2 j = (decide (j < i) && wlF T (hi h0 263) j)) → Pc (W_X12_spreadBits n 9 h l1 l2 l3) (fun q => frZ bgW h0 q.2 ∧ ∀ j, j < 32 → bt q.1 j = (decide (j < wT T * gT T) && wlF T (hi h0 263) j)) := by
  intro n
  obtain ⟨c25, ⟨w2, w5⟩, ⟨g2, g5⟩, -, -⟩ := wg_T v
  induction n with
  | zero => intro h l2 l3 i a b c d; exact Pc.no
  | succ n ih =>
    intro h l2 l3 i a b c d
    have f0 := lit_0
    have f1 := lit_1
    have f5 := lit_5
    have f32 := lit_32
    have rc (x k : Nat) (h1 : ¬ (260 ≤ x ∧ x ≤ 261)) (h2 : ¬ (x = 226 ∧ k = 52)) : hi h x k = hi h0 x k := c.1 x k (by unfold bgW; omega)
    have en : EN2 s T h := e.cg (fun x k h1 h2 => rc x k (by omega) (by omega)) (rc 226 18 (by omega) (by omega))
    have ef : hi h 263 = hi h0 263 := funext (fun k => rc 263 k (by omega) (by omega))
    have n1 := ncT (show 0 ≤ l3.toInt by omega)
    have n2 : Int32.toNatClampNeg l3 = i := by omega
    rw [u_X12_spreadBits]
    refine Pc.pos rfl ?_
    refine Pc.bind (ce_r v en) (fun q1 h1 => ?_)
    obtain ⟨t1, t2⟩ := h1
    rw [t1]
    refine Pc.le (fun z => Pc.ret ⟨c, fun j hj => ?_⟩) (fun z => Pc.chk (fun _ => ?_))
    · have ei : i = wT T * gT T := by omega
      rw [← ei]; exact d j hj
    have a1 := adT l3 1 (by omega) (by omega)
    -- the next one
    have nx (h' : Hp) (c' : frZ bgW h0 h') (no : wlF T (hi h0 263) i = false) : Pc (W_X12_spreadBits n 9 h' l1 l2 (l3 + 1)) (fun q => frZ bgW h0 q.2 ∧ ∀ j, j < 32 → bt q.1 j = (decide (j < wT T * gT T) && wlF T (hi h0 263) j)) := by
      refine ih h' l2 (l3 + 1) (i + 1) (by omega) (by omega) c' (fun j hj => ?_)
      rw [d j hj]
      by_cases y : j = i
      · rw [y, no, Bool.and_false, Bool.and_false]
      · by_cases y2 : j < i
        · rw [decide_eq_true y2, decide_eq_true (by omega)]
        · rw [decide_eq_false y2, decide_eq_false (by omega)]
    have b0 := btS0 l1 (c := l3) (by omega) (by omega)
    rw [n2] at b0
    have li := hl i (by omega)
    refine Pc.eq (fun z0 => nx h c ?_) (fun z0 => ?_)
    · have := b0.mp (z0.trans f0)
      unfold wlF qtF
      by_cases y : 0 < (hi h0 263 i).toInt
      · rw [li.mpr ⟨by omega, y⟩] at this
        exact absurd this (by decide)
      · rw [decide_eq_false y]
        simp only [Bool.and_false, Bool.false_and]
    have tun : bt l1 i = true := by
      cases y : bt l1 i with
      | true => rfl
      | false => exact absurd ((b0.mpr y).trans f0.symm) z0
    obtain ⟨-, pos⟩ := li.mp tun
    have m5 := mlT 5 l3 5 f5 (by omega) (by omega)
    have a5 := adT (5 * l3) 1 (by omega) (by omega)
    have n3 := ncT (show 0 ≤ (5 * l3 + 1).toInt by omega)
    have n4 : Int32.toNatClampNeg (5 * l3 + 1) = 5 * i + 1 := by omega
    rw [n4]
    have es : (hi h 264 (5 * i + 1)).toInt = ((sdv (wT T) (gT T) i 1 : Nat) : Int) := by
      rw [rc 264 _ (by omega) (by omega)]
      exact sd i 1 (by omega) (by decide)
    have dl : sdv (wT T) (gT T) i 1 < wT T * gT T := (sdv_all (wT T) (by omega) (gT T) (by omega) i (by omega) 1 (by decide) (by omega)).1
    have b1 := btS1 l1 (c := hi h 264 (5 * i + 1)) (by omega) (by omega)
    have n5 := ncT (show 0 ≤ (hi h 264 (5 * i + 1)).toInt by omega)
    have n6 : Int32.toNatClampNeg (hi h 264 (5 * i + 1)) = sdv (wT T) (gT T) i 1 := by omega
    rw [n6] at b1
    have ls := hl (sdv (wT T) (gT T) i 1) (by omega)
    refine Pc.eq (fun z1 => nx h c ?_) (fun z1 => ?_)
    · have := (ls.mp (b1.mp (z1.trans f1))).2
      unfold wlF qtF
      by_cases y : i % wT T + 1 < wT T
      · rw [sdv_1, if_pos y] at this
        rw [decide_eq_true this]
        simp only [Bool.not_true, Bool.and_false, Bool.false_and]
      · rw [decide_eq_false y]
        simp only [Bool.and_false, Bool.false_and]
    have rgt : i % wT T + 1 < wT T ∧ ¬ 0 < (hi h0 263 (i + 1)).toInt := by
      have nb : ¬ bt l1 (sdv (wT T) (gT T) i 1) = true := fun y => z1 ((b1.mpr y).trans f1.symm)
      by_cases y : i % wT T + 1 < wT T
      · rw [sdv_1, if_pos y] at nb ls dl
        exact ⟨y, fun w => nb (ls.mpr ⟨dl, w⟩)⟩
      · rw [sdv_1, if_neg y] at nb
        exact absurd tun nb
    have qt : qtF T (hi h0 263) i = true := by
      unfold qtF
      rw [decide_eq_true (show i < wT T * gT T by omega), decide_eq_true pos, decide_eq_true rgt.1, decide_eq_false rgt.2]
      rfl
    refine Pc.bind (fun y e' => And.intro (ar_r v en (b := i) (by omega) a (k := 2) (by decide) lit_2 rfl (x2 := 0) (x3 := 0) y e') (zf_X12_toldOf y e')) (fun q7 h7 => ?_)
    obtain ⟨t3, z7⟩ := h7
    rw [ef] at t3
    have c7 : frZ bgW h0 q7.2 := c.tr (z7.sub (fun x k z => by unfold bgW; omega))
    have rc7 (x k : Nat) (h1 : ¬ (260 ≤ x ∧ x ≤ 261)) (h2 : ¬ (x = 226 ∧ k = 52)) : hi q7.2 x k = hi h0 x k := c7.1 x k (by unfold bgW; omega)
    refine Pc.le (fun z2 => nx q7.2 c7 ?_) (fun z2 => ?_)
    · unfold wlF
      rw [decide_eq_false (show ¬ 0 < (lwT T (hi h0 263) i 0 0 2).toInt by rw [← t3]; omega)]
      simp only [Bool.and_false]
    refine Pc.bind (lo_r (T := T) (by rw [rc7 226 55 (by omega) (by omega)]; exact hs)) (fun q10 h10 => Pc.chk (fun _ => ?_))
    obtain ⟨t4, t5⟩ := h10
    have en7 : EN2 s T q7.2 := e.cg (fun x k h1 h2 => rc7 x k (by omega) (by omega)) (rc7 226 18 (by omega) (by omega))
    rw [t4, en7.nc]
    have ew : (hi q7.2 248 s).toInt = T.ws.1 := en7.2.2.2.1.1
    have el : lotV (sdV T) (32 * hi q7.2 263 61 + l3) = lotV (sdV T) (32 * hi h0 263 61 + Int32.ofNat i) := by
      rw [rc7 263 61 (by omega) (by omega), nOf a (by omega)]
    rw [el] at t5
    refine Pc.le (fun z3 => nx q7.2 c7 ?_) (fun z3 => ?_)
    · unfold wlF wetF
      rw [decide_eq_false (show ¬ (lotV (sdV T) (32 * hi h0 263 61 + Int32.ofNat i)).toInt < T.ws.1 by rw [← t5]; omega)]
      simp only [Bool.and_false, Bool.false_and]
    refine ih q7.2 _ (l3 + 1) (i + 1) (by omega) (by omega) c7 (fun j hj => ?_)
    have yes : wlF T (hi h0 263) i = true := by
      unfold wlF wetF
      rw [qt, decide_eq_true (show (lotV (sdV T) (32 * hi h0 263 61 + Int32.ofNat i)).toInt < T.ws.1 by rw [← t5]; omega), decide_eq_true (show 0 < (lwT T (hi h0 263) i 0 0 2).toInt by rw [← t3]; omega)]
      rfl
    rw [bt_add a (by omega), d j hj]
    by_cases y : j = i
    · rw [y, yes, decide_eq_true (show i < i + 1 by omega), decide_eq_true (show i = i from rfl)]
      simp only [Bool.or_true, Bool.true_and]
    · rw [decide_eq_false y, Bool.or_false]
      by_cases y2 : j < i
      · rw [decide_eq_true y2, decide_eq_true (by omega)]
      · rw [decide_eq_false y2, decide_eq_false (by omega)]
theorem sb_r (v : VT T) (e : EN2 s T h) (sd : SD5 T h) (hs : (hi h 226 55).toInt = T.ws.2) : Pc (F_X12_spreadBits n h) (fun q => frZ bgW h q.2 ∧ ∀ j, j < 32 → bt q.1 j = (decide (j < wT T * gT T) && wlF T (hi h 263) j)) := by
  unfold F_X12_spreadBits
  refine Pc.bind (tb_r v e) (fun q1 h1 => ?_)
  obtain ⟨t1, t2⟩ := h1
  rw [t1]
  exact sb_9 v e sd hs t2 n h 0 0 0 lit_0 (Nat.zero_le _) (frZ.rf h) (fun j _ => by rw [bt_zero, decide_eq_false (Nat.not_lt_zero j)]; rfl)
end R56L
end
section
/-! TUNES SPREAD, in the reference -/
def offF (f : Nat → Int32) (b : Nat) : Int32 := (f (25 + b) + 1) - (f (25 + b) + 1) / f b * f b
/-- as far as the cell i it is done -/
def spI (T : TT) (f : Nat → Int32) (i : Nat) : Nat → Int32 := fun k => if (1 ≤ k ∧ k < 25 ∧ k - 1 < i) ∧ snF T f (k - 1) = true then f (k - 1) else if (26 ≤ k ∧ k < 50 ∧ k - 26 < i) ∧ snF T f (k - 26) = true then offF f (k - 26) else f k
section R56M
variable {h h0 : Hp} {n : Nat} {T : TT} {s : Nat} {f : Nat → Int32}
theorem sn_wl {b : Nat} (z : snF T f b = true) : wlF T f b = true := by
  unfold snF at z
  exact (Bool.and_eq_true _ _ ▸ z).1
theorem wl_qt {b : Nat} (z : wlF T f b = true) : (b < wT T * gT T ∧ 0 < (f b).toInt) ∧ b % wT T + 1 < wT T ∧ ¬ 0 < (f (b + 1)).toInt := by
  unfold wlF qtF at z
  simp only [Bool.and_eq_true, decide_eq_true_eq, Bool.not_eq_true', decide_eq_false_iff_not] at z
  exact ⟨z.1.1, z.1.2⟩
theorem wl_in (v : VT T) {b : Nat} (z : wlF T f b = true) : b + 1 < wT T * gT T := by
  obtain ⟨c25, ⟨w2, w5⟩, ⟨g2, g5⟩, -, -⟩ := wg_T v
  obtain ⟨⟨q1, -⟩, q2, -⟩ := wl_qt z
  have r := rt_all w2 w5 g5 (b := b) (by omega) q1
  rw [decide_eq_true q2] at r
  by_cases y : b + 1 < wT T * gT T
  · exact y
  · rw [decide_eq_false y] at r
    exact absurd r (by simp)
theorem spI_n {i : Nat} (z : snF T f i = false) (k : Nat) : spI T f (i + 1) k = spI T f i k := by
  unfold spI
  by_cases y1 : (1 ≤ k ∧ k < 25 ∧ k - 1 < i) ∧ snF T f (k - 1) = true
  · rw [if_pos y1, if_pos ⟨⟨y1.1.1, y1.1.2.1, by omega⟩, y1.2⟩]
  · have m1 : ¬ ((1 ≤ k ∧ k < 25 ∧ k - 1 < i + 1) ∧ snF T f (k - 1) = true) := by
      intro w
      by_cases y3 : k - 1 = i
      · rw [y3, z] at w
        exact absurd w.2 (by decide)
      · exact y1 ⟨⟨w.1.1, w.1.2.1, by omega⟩, w.2⟩
    rw [if_neg y1, if_neg m1]
    by_cases y2 : (26 ≤ k ∧ k < 50 ∧ k - 26 < i) ∧ snF T f (k - 26) = true
    · rw [if_pos y2, if_pos ⟨⟨y2.1.1, y2.1.2.1, by omega⟩, y2.2⟩]
    · rw [if_neg y2]
      refine if_neg (fun w => ?_)
      by_cases y3 : k - 26 = i
      · rw [y3, z] at w
        exact absurd w.2 (by decide)
      · exact y2 ⟨⟨w.1.1, w.1.2.1, by omega⟩, w.2⟩
theorem spI_s {i : Nat} (i25 : i + 1 < 25) (z : snF T f i = true) (k : Nat) : spI T f (i + 1) k = upF (upF (spI T f i) (i + 1) (f i)) (i + 26) (offF f i) k := by
  unfold upF
  by_cases y : k = i + 26
  · rw [if_pos y]
    unfold spI
    rw [if_neg (by omega), if_pos ⟨⟨by omega, by omega, by omega⟩, by rw [show k - 26 = i by omega]; exact z⟩, show k - 26 = i by omega]
  · rw [if_neg y]
    by_cases y0 : k = i + 1
    · rw [if_pos y0]
      unfold spI
      rw [if_pos ⟨⟨by omega, by omega, by omega⟩, by rw [show k - 1 = i by omega]; exact z⟩, show k - 1 = i by omega]
    · rw [if_neg y0]
      unfold spI
      by_cases y1 : (1 ≤ k ∧ k < 25 ∧ k - 1 < i) ∧ snF T f (k - 1) = true
      · rw [if_pos y1, if_pos ⟨⟨y1.1.1, y1.1.2.1, by omega⟩, y1.2⟩]
      · rw [if_neg y1, if_neg (fun w => y1 ⟨⟨w.1.1, w.1.2.1, by omega⟩, w.2⟩)]
        by_cases y2 : (26 ≤ k ∧ k < 50 ∧ k - 26 < i) ∧ snF T f (k - 26) = true
        · rw [if_pos y2, if_pos ⟨⟨y2.1.1, y2.1.2.1, by omega⟩, y2.2⟩]
        · rw [if_neg y2, if_neg (fun w => y2 ⟨⟨w.1.1, w.1.2.1, by omega⟩, w.2⟩)]
theorem spI_at {i : Nat} (i25 : i + 1 < 25) (pos : 0 < (f i).toInt) : spI T f i i = f i ∧ spI T f i (25 + i) = f (25 + i) ∧ spI T f i (i + 1) = f (i + 1) := by
  have no (hi0 : 1 ≤ i) (w : snF T f (i - 1) = true) : False := by
    have := (wl_qt (sn_wl w)).2.2
    rw [show i - 1 + 1 = i by omega] at this
    exact this pos
  unfold spI
  refine ⟨?_, ?_, ?_⟩
  · rw [if_neg (fun w => no w.1.1 w.2), if_neg (by omega)]
  · rw [if_neg (by omega)]
    refine if_neg (fun w => ?_)
    have e := w.2
    rw [show 25 + i - 26 = i - 1 by omega] at e
    exact no (by omega) e
  · rw [if_neg (by omega), if_neg (by omega)]
theorem ss_7 (v : VT T) (e : EN2 s T h0) {l1 : Int32} (hl : ∀ j, j < 32 → bt l1 j = (decide (j < wT T * gT T) && wlF T f j)) : ∀ (n : Nat) (h : Hp) (l2 : Int32) (i : Nat), l2.toInt = (i : Int) → i ≤ wT T * gT T → frZ (fun x _ => x = 263) h0 h → (∀ k, hi h 263 k = spI T f i k) → cntB (fun j => decide (0 < (spI T f i j).toInt)) (wT T * gT T) = tnN T f + cntB (snF T f) i → Pc (W_X12_spreads n 7 h l1 l2) (fun q => frZ (fun x _ => x = 263) h0 q ∧ ∀ k, hi q 263 k = spI T f (wT T * gT T) k) := by
  intro n
  have c25 := (wg_T v).1
  induction n with
  | zero => intro h l2 i a b c d m; exact Pc.no
  | succ n ih =>
    intro h l2 i a b c d m
    have f0 := lit_0
    have f1 := lit_1
    have f8 := lit_8
    have f25 := lit_25
    have f26 : (26 : Int32).toInt = 26 := by decide
    have en : EN2 s T h := e.cg (fun x k h1 h2 => c.1 x k (by omega)) (c.1 226 18 (by omega))
    have n1 := ncT (show 0 ≤ l2.toInt by omega)
    have n2 : Int32.toNatClampNeg l2 = i := by omega
    rw [u_X12_spreads]
    refine Pc.pos rfl ?_
    refine Pc.bind (ce_r v en) (fun q1 h1 => ?_)
    obtain ⟨t1, t2⟩ := h1
    rw [t1]
    refine Pc.le (fun z => Pc.ret ⟨c, fun k => ?_⟩) (fun z => ?_)
    · have ei : i = wT T * gT T := by omega
      rw [← ei]; exact d k
    have a1 := adT l2 1 (by omega) (by omega)
    have nx (no : snF T f i = false) : Pc (W_X12_spreads n 7 h l1 (l2 + 1)) (fun q => frZ (fun x _ => x = 263) h0 q ∧ ∀ k, hi q 263 k = spI T f (wT T * gT T) k) := by
      refine ih h (l2 + 1) (i + 1) (by omega) (by omega) c (fun k => (d k).trans (spI_n no k).symm) ?_
      have e1 : cntB (snF T f) (i + 1) = cntB (snF T f) i + (snF T f i).toNat := rfl
      rw [e1, no, cntB_cg (g := fun j => decide (0 < (spI T f i j).toInt)) _ (fun j _ => by rw [spI_n no j]), m]
      rfl
    have b0 := btS0 l1 (c := l2) (by omega) (by omega)
    rw [n2] at b0
    have li := hl i (by omega)
    rw [decide_eq_true (show i < wT T * gT T by omega), Bool.true_and] at li
    refine Pc.eq (fun z0 => nx ?_) (fun z0 => ?_)
    · have := b0.mp (z0.trans f0)
      rw [li] at this
      unfold snF
      rw [this]; rfl
    have wl : wlF T f i = true := by
      cases y : wlF T f i with
      | true => rfl
      | false => exact absurd ((b0.mpr (li.trans y)).trans f0.symm) z0
    obtain ⟨⟨-, pos⟩, -, qu⟩ := wl_qt wl
    have ic := wl_in v wl
    refine Pc.bind (tb_r v en) (fun q5 h5 => ?_)
    obtain ⟨t3, t4⟩ := h5
    rw [t3]
    refine Pc.bind bi_r (fun q7 h7 => ?_)
    obtain ⟨t5, t6⟩ := h7
    rw [t5]
    have cnt : cntB (bt q5.1) 25 = tnN T f + cntB (snF T f) i := by
      rw [cn_r (f := hi h 263) c25 t4, ← m]
      exact cntB_cg _ (fun j _ => by rw [d j])
    rw [cnt] at t6
    obtain ⟨s1, s2⟩ := sn_cnt (wl := wlF T f) (sn := snF T f) (t := tnN T f) (fun _ => rfl) i
    refine Pc.lt (fun y => ?_) (fun y => nx ?_)
    · have ok : tnN T f + cntB (wlF T f) i < 8 := by
        by_cases w : tnN T f + cntB (wlF T f) i < 8
        · exact w
        · have := s2 (by omega); omega
      have sn : snF T f i = true := by
        unfold snF
        rw [wl, decide_eq_true ok]; rfl
      obtain ⟨p1, p2, p3⟩ := spI_at (T := T) (f := f) (i := i) (by omega) pos
      have a2 := adT l2 26 (by omega) (by omega)
      have a3 := adT 25 l2 (by omega) (by omega)
      have m1 := ncT (show 0 ≤ (l2 + 1).toInt by omega)
      have m1' : Int32.toNatClampNeg (l2 + 1) = i + 1 := by omega
      have m2 := ncT (show 0 ≤ (l2 + 26).toInt by omega)
      have m2' : Int32.toNatClampNeg (l2 + 26) = i + 26 := by omega
      have m3 := ncT (show 0 ≤ (25 + l2).toInt by omega)
      have m3' : Int32.toNatClampNeg (25 + l2) = 25 + i := by omega
      rw [n2, m1', m2', m3', d i, p1]
      generalize eg : wrI h 263 (i + 1) (f i) = g
      have g1 : hi g 263 i = f i := by rw [hiK eg 263 i (by omega), d i, p1]
      have g2 : hi g 263 (25 + i) = f (25 + i) := by rw [hiK eg 263 (25 + i) (by omega), d (25 + i), p2]
      rw [g1, g2]
      refine Pc.chk (fun _ => Pc.chk (fun _ => Pc.chk (fun _ => Pc.chk (fun _ => Pc.ite (fun _ => Pc.no) (fun _ => Pc.chk (fun _ => ?_))))))
      have cg : frZ (fun x _ => x = 263) h0 g := by rw [← eg]; exact c.w rfl
      refine ih _ (l2 + 1) (i + 1) (by omega) (by omega) (cg.w rfl) (fun k => ?_) ?_
      · rw [spI_s (by omega) sn k]
        unfold upF
        rw [hi_wrI]
        by_cases y2 : k = i + 26
        · rw [if_pos ⟨rfl, y2⟩, if_pos y2]; rfl
        · rw [if_neg (fun w => y2 w.2), if_neg y2, ← eg, hi_wrI]
          by_cases y3 : k = i + 1
          · rw [if_pos ⟨rfl, y3⟩, if_pos y3]
          · rw [if_neg (fun w => y3 w.2), if_neg y3]; exact d k
      · have e1 : cntB (snF T f) (i + 1) = cntB (snF T f) i + (snF T f i).toNat := rfl
        have up := cntB_upd (p := fun j => decide (0 < (spI T f i j).toInt)) (j := i + 1) (decide_eq_false (by rw [p3]; exact qu)) (wT T * gT T)
        rw [if_pos ic, m] at up
        rw [e1, sn, cntB_cg (g := fun j => if j = i + 1 then true else decide (0 < (spI T f i j).toInt)) _ (fun j hj => ?_), up]
        · rfl
        · rw [spI_s (by omega) sn j]
          unfold upF
          rw [if_neg (by omega)]
          by_cases y3 : j = i + 1
          · rw [if_pos y3, if_pos y3]; exact decide_eq_true pos
          · rw [if_neg y3, if_neg y3]
    · unfold snF
      rw [decide_eq_false (fun w => by have := s1 w; omega), Bool.and_false]
end R56M
end
section
/-! A BEAT, in the reference: as a function of the row -/
/-- a beat later -/
def beF (T : TT) (f : Nat → Int32) : Nat → Int32 := spF T (wk2 T (wk1 T f))
section R56N
variable {h h0 : Hp} {n : Nat} {T : TT} {s : Nat} {f : Nat → Int32}
theorem RVR.w1 (v : VT T) (x : RVR (wT T * gT T) T.go.length f) : RVR (wT T * gT T) T.go.length (wk1 T f) := by
  have c25 := (wg_T v).1
  have G5 := v.2.2.1.1
  obtain ⟨x1, x2, x3, x4⟩ := x
  have lo (k : Nat) (hk : k < 51) : wk1 T f k = f k := by
    unfold wk1
    rw [if_neg (by omega), if_neg (by omega)]
  have e56 (k : Nat) (hk : k < 5) : wk1 T f (56 + k) = f (56 + k) := by
    unfold wk1
    rw [if_neg (by omega), if_neg (by omega)]
  refine ⟨fun b hb => ?_, fun b hb => ?_, fun k hk => ?_, fun k h1 h2 => ⟨?_, ?_⟩⟩
  · rw [lo b (by omega), lo (25 + b) (by omega)]; exact x1 b hb
  · rw [lo 50 (by decide)]; exact x2 b hb
  · obtain ⟨⟨y1, y2⟩, y3⟩ := x3 k hk
    have e : wk1 T f (51 + k) = Int32.ofNat (stF T f (f (51 + k)).toInt.toNat (f (51 + k + 5)) (Int32.ofNat (51 + k - 51)) 0) := if_pos ⟨by omega, by omega⟩
    have dl := stF_lt v (f := f) (b := (f (51 + k)).toInt.toNat) (by omega) (x4 := f (51 + k + 5)) (x5 := Int32.ofNat (51 + k - 51)) (k := 0)
    have df := stF_free (T := T) (f := f) (b := (f (51 + k)).toInt.toNat) y3 (x4 := f (51 + k + 5)) (x5 := Int32.ofNat (51 + k - 51)) (k := 0)
    rw [lo 50 (by decide), e]
    generalize stF T f (f (51 + k)).toInt.toNat (f (51 + k + 5)) (Int32.ofNat (51 + k - 51)) 0 = d at dl df
    rw [Int32.toInt_ofNat_of_lt (by omega)]
    exact ⟨⟨by omega, by omega⟩, df⟩
  · unfold wk1
    rw [if_neg (by omega), if_neg (by omega)]
    exact (x4 k h1 h2).1
  · rw [e56 k h2]; exact (x4 k h1 h2).2
theorem RVR.w2 (v : VT T) (x : RVR (wT T * gT T) T.go.length f) : RVR (wT T * gT T) T.go.length (wk2 T f) := by
  have c25 := (wg_T v).1
  have G5 := v.2.2.1.1
  obtain ⟨x1, x2, x3, x4⟩ := x
  have lo (k : Nat) (hk : k < 51) : wk2 T f k = f k := by
    unfold wk2
    rw [if_neg (by omega), if_neg (by omega)]
  refine ⟨fun b hb => ?_, fun b hb => ?_, fun k hk => ?_, fun k h1 h2 => ⟨?_, ?_⟩⟩
  · rw [lo b (by omega), lo (25 + b) (by omega)]; exact x1 b hb
  · rw [lo 50 (by decide)]; exact x2 b hb
  · obtain ⟨⟨y1, y2⟩, y3⟩ := x3 k hk
    have e : wk2 T f (51 + k) = (if loudF f (f (51 + k)).toInt.toNat (f 61) = true then Int32.ofNat (stF T f (f (51 + k)).toInt.toNat (f (51 + k + 5)) (Int32.ofNat (51 + k - 51)) 1) else f (51 + k)) := if_pos ⟨by omega, by omega⟩
    have dl := stF_lt v (f := f) (b := (f (51 + k)).toInt.toNat) (by omega) (x4 := f (51 + k + 5)) (x5 := Int32.ofNat (51 + k - 51)) (k := 1)
    have df := stF_free (T := T) (f := f) (b := (f (51 + k)).toInt.toNat) y3 (x4 := f (51 + k + 5)) (x5 := Int32.ofNat (51 + k - 51)) (k := 1)
    rw [lo 50 (by decide), e]
    by_cases z : loudF f (f (51 + k)).toInt.toNat (f 61) = true
    · rw [if_pos z]
      generalize stF T f (f (51 + k)).toInt.toNat (f (51 + k + 5)) (Int32.ofNat (51 + k - 51)) 1 = d at dl df
      rw [Int32.toInt_ofNat_of_lt (by omega)]
      exact ⟨⟨by omega, by omega⟩, df⟩
    · rw [if_neg z]
      exact ⟨⟨y1, y2⟩, y3⟩
  · unfold wk2
    rw [if_neg (by omega), if_neg (by omega)]
    exact (x4 k h1 h2).1
  · unfold wk2
    rw [if_neg (by omega), if_neg (by omega)]
    exact (x4 k h1 h2).2
theorem spI_c (k : Nat) : spI T f (wT T * gT T) k = spF T f k := by
  unfold spI spF
  by_cases y1 : (1 ≤ k ∧ k < 25) ∧ snF T f (k - 1) = true
  · have := (wl_qt (sn_wl y1.2)).1.1
    rw [if_pos y1, if_pos ⟨⟨y1.1.1, y1.1.2, this⟩, y1.2⟩]
  · rw [if_neg y1, if_neg (fun w => y1 ⟨⟨w.1.1, w.1.2.1⟩, w.2⟩)]
    by_cases y2 : (26 ≤ k ∧ k < 50) ∧ snF T f (k - 26) = true
    · have := (wl_qt (sn_wl y2.2)).1.1
      rw [if_pos y2, if_pos ⟨⟨y2.1.1, y2.1.2, this⟩, y2.2⟩]
      unfold offF
      rw [show 25 + (k - 26) = k - 1 by omega]
    · rw [if_neg y2, if_neg (fun w => y2 ⟨⟨w.1.1, w.1.2.1⟩, w.2⟩)]
theorem spr_r (v : VT T) (e : EN2 s T h) (sd : SD5 T h) (hs : (hi h 226 55).toInt = T.ws.2) : Pc (F_X12_spreads n h) (fun q => frZ bgF h q ∧ ∀ k, hi q 263 k = spF T (hi h 263) k) := by
  unfold F_X12_spreads
  refine Pc.bind (sb_r v e sd hs) (fun q16 h16 => ?_)
  obtain ⟨t1, t2⟩ := h16
  have r (x k : Nat) (h1 : ¬ (260 ≤ x ∧ x ≤ 261)) (h2 : ¬ (x = 226 ∧ k = 52)) : hi q16.2 x k = hi h x k := t1.1 x k (by unfold bgW; omega)
  have en : EN2 s T q16.2 := e.cg (fun x k h1 h2 => r x k (by omega) (by omega)) (r 226 18 (by omega) (by omega))
  have z (k : Nat) : spI T (hi h 263) 0 k = hi h 263 k := by
    unfold spI
    rw [if_neg (by omega), if_neg (by omega)]
  refine (ss_7 (f := hi h 263) v en t2 n q16.2 0 0 lit_0 (Nat.zero_le _) (frZ.rf _) (fun k => by rw [r 263 k (by omega) (by omega), z]) ?_).mono (fun q hq => ⟨?_, fun k => (hq.2 k).trans (spI_c k)⟩)
  · rw [cntB_cg (g := fun j => decide (0 < (hi h 263 j).toInt)) _ (fun j _ => by rw [z])]
    rfl
  · exact (t1.sub (fun x k z => by unfold bgW at z; unfold bgF; omega)).tr (hq.1.sub (fun x k z => by unfold bgF; omega))
/-- the reference: a beat later -/
theorem be_r (v : VT T) (e : EN2 s T h) (sd : SD5 T h) (rv : RVR (wT T * gT T) T.go.length (hi h 263)) (hs : (hi h 226 55).toInt = T.ws.2) (st : vp_nar .boolean (hi h 226 56) = 0) : Pc (F_X12_beatGoes n h) (fun q => frZ bgF h q ∧ ∀ k, hi q 263 k = beF T (hi h 263) k) := by
  intro q hq
  obtain ⟨m, h', fr, d, r⟩ := lt_beat v e sd rv (rv.w1 v) q hq
  rcases r with ⟨-, w⟩ | ⟨w, -⟩
  · have ef : hi h' 263 = wk2 T (wk1 T (hi h 263)) := funext d
    obtain ⟨k1, k2⟩ := spr_r (n := m) v (e.bg fr) (sd.bg fr) (by rw [fr.1 226 55 (by unfold bgF; omega)]; exact hs) q w
    rw [ef] at k2
    exact ⟨fr.tr k1, k2⟩
  · exact absurd st w
end R56N
end
section
/-! MANY BEATS, in the reference -/
def itB (T : TT) : Nat → (Nat → Int32) → Nat → Int32
  | 0, f => f
  | m + 1, f => itB T m (beF T f)
section R56O
variable {h h0 : Hp} {n : Nat} {T : TT} {s : Nat} {f : Nat → Int32}
theorem spF_hi {k : Nat} (h1 : 50 ≤ k) : spF T f k = f k := by
  unfold spF
  rw [if_neg (by omega), if_neg (by omega)]
theorem RVR.sp {G : Nat} (v : VT T) (x : RVR (wT T * gT T) G f) : RVR (wT T * gT T) G (spF T f) := by
  have c25 := (wg_T v).1
  have f1 := lit_1
  obtain ⟨x1, x2, x3, x4⟩ := x
  refine ⟨fun b hb => ?_, fun b hb => ?_, fun k hk => ?_, fun k h1 h2 => ?_⟩
  · by_cases y : (1 ≤ b ∧ b < 25) ∧ snF T f (b - 1) = true
    · have wl := sn_wl y.2
      have ic := wl_in v wl
      obtain ⟨⟨q1, q2⟩, -, -⟩ := wl_qt wl
      have e1 : spF T f b = f (b - 1) := if_pos y
      have e2 : spF T f (25 + b) = (f (25 + b - 1) + 1) - (f (25 + b - 1) + 1) / f (25 + b - 26) * f (25 + b - 26) := by
        unfold spF
        rw [if_neg (by omega), if_pos ⟨⟨by omega, by omega⟩, by rw [show 25 + b - 26 = b - 1 by omega]; exact y.2⟩]
      obtain ⟨-, -, z⟩ := x1 (b - 1) (by omega)
      have z' := z q2
      rw [show 25 + (b - 1) = 25 + b - 1 by omega] at z'
      rw [e1, e2, show 25 + b - 26 = b - 1 by omega]
      have a1 := adT (f (25 + b - 1)) 1 (by omega) (by omega)
      have rg := rmG (f (25 + b - 1) + 1) (f (b - 1)) (by omega) q2
      exact ⟨fun w => by exfalso; omega, by omega, fun _ => ⟨z'.1, rg⟩⟩
    · have e1 : spF T f b = f b := by
        unfold spF
        rw [if_neg y, if_neg (by omega)]
      have e2 : spF T f (25 + b) = f (25 + b) := by
        unfold spF
        rw [if_neg (by omega)]
        refine if_neg (fun w => y ⟨⟨by omega, hb⟩, ?_⟩)
        have := w.2
        rw [show 25 + b - 26 = b - 1 by omega] at this
        exact this
      rw [e1, e2]; exact x1 b hb
  · rw [spF_hi (by decide)]; exact x2 b hb
  · rw [spF_hi (k := 50) (by decide), spF_hi (k := 51 + k) (by omega)]; exact x3 k hk
  · rw [spF_hi (k := 51 + k) (by omega), spF_hi (k := 56 + k) (by omega)]; exact x4 k h1 h2
theorem RVR.be (v : VT T) (x : RVR (wT T * gT T) T.go.length f) : RVR (wT T * gT T) T.go.length (beF T f) := ((x.w1 v).w2 v).sp v
theorem go_2 (v : VT T) {l1 : Int32} {m : Nat} (hm : l1.toInt = (m : Int)) : ∀ (n : Nat) (h : Hp) (l2 : Int32) (i : Nat), l2.toInt = (i : Int) → i ≤ m → EN2 s T h → SD5 T h → RVR (wT T * gT T) T.go.length (hi h 263) → (hi h 226 55).toInt = T.ws.2 → vp_nar .boolean (hi h 226 56) = 0 → Pc (W_X12_goes n 2 h l1 l2) (fun q => frZ bgF h q ∧ (∀ k, hi q 263 k = itB T (m - i) (hi h 263) k) ∧ RVR (wT T * gT T) T.go.length (hi q 263)) := by
  intro n
  induction n with
  | zero => intro h l2 i a b e sd rv hs st; exact Pc.no
  | succ n ih =>
    intro h l2 i a b e sd rv hs st
    have f1 := lit_1
    have rl := l1.toInt_lt
    rw [u_X12_goes]
    refine Pc.pos rfl ?_
    refine Pc.le (fun z => Pc.ret ⟨frZ.rf h, fun k => ?_, rv⟩) (fun z => ?_)
    · rw [show m - i = 0 by omega]
      rfl
    · have a1 := adT l2 1 (by omega) (by omega)
      refine Pc.bind (be_r v e sd rv hs st) (fun q2 h2 => ?_)
      obtain ⟨fr, d⟩ := h2
      have ef : hi q2 263 = beF T (hi h 263) := funext d
      refine (ih q2 (l2 + 1) (i + 1) (by omega) (by omega) (e.bg fr) (sd.bg fr) (by rw [ef]; exact rv.be v) (by rw [fr.1 226 55 (by unfold bgF; omega)]; exact hs) (by rw [fr.1 226 56 (by unfold bgF; omega)]; exact st)).mono (fun q hq => ⟨fr.tr hq.1, fun k => ?_, hq.2.2⟩)
      rw [hq.2.1 k, ef, show m - i = m - (i + 1) + 1 by omega]
      rfl
theorem go_r (v : VT T) {l1 : Int32} {m : Nat} (hm : l1.toInt = (m : Int)) (e : EN2 s T h) (sd : SD5 T h) (rv : RVR (wT T * gT T) T.go.length (hi h 263)) (hs : (hi h 226 55).toInt = T.ws.2) (st : vp_nar .boolean (hi h 226 56) = 0) : Pc (F_X12_goes n h l1) (fun q => frZ bgF h q ∧ (∀ k, hi q 263 k = itB T m (hi h 263) k) ∧ RVR (wT T * gT T) T.go.length (hi q 263)) := by
  unfold F_X12_goes
  exact go_2 v hm n h 0 0 lit_0 (Nat.zero_le _) e sd rv hs st
end R56O
end
section
/-! TUNES SPREAD, in the class: a tune sounds from the left -/
/-- the lowest taken out of a set -/
theorem lo_clr {x : Int32} {i : Nat} (hi' : i < 32) (h1 : bt x i = true) (h2 : ∀ m, m < i → bt x m = false) (j : Nat) : bt (x &&& (x - 1)) j = (bt x j && !decide (j = i)) := by
  have ge : 2 ^ i ≤ bn x := Nat.ge_two_pow_of_testBit h1
  have p1 : 1 ≤ 2 ^ i := Nat.one_le_two_pow
  have e3 : bn (1 : Int32) = 1 := by decide
  have em : bn (x - 1) = bn x - 1 := by rw [bnM _ _ (by rw [e3]; omega), e3]
  have z : bn x % 2 ^ i = 0 := by
    refine Nat.eq_of_testBit_eq (fun m => ?_)
    rw [Nat.testBit_mod_two_pow, Nat.zero_testBit]
    by_cases y : m < i
    · have : Nat.testBit (bn x) m = false := h2 m y
      rw [this, Bool.and_false]
    · rw [decide_eq_false y, Bool.false_and]
  have od : bn x / 2 ^ i % 2 = 1 := by
    have : Nat.testBit (bn x) i = true := h1
    rw [Nat.testBit_eq_decide_div_mod_eq] at this
    exact of_decide_eq_true this
  obtain ⟨q, hq⟩ : ∃ q, bn x / 2 ^ i = 2 * q + 1 := ⟨bn x / 2 ^ i / 2, by omega⟩
  have eN : bn x = 2 ^ (i + 1) * q + 2 ^ i := by
    have d := Nat.div_add_mod (bn x) (2 ^ i)
    rw [z, hq, Nat.mul_add, ← Nat.mul_assoc, Nat.mul_one, ← Nat.pow_succ] at d
    have d' : 2 ^ (i + 1) * q + 2 ^ i + 0 = bn x := d
    omega
  have eM : bn (x - 1) = 2 ^ (i + 1) * q + (2 ^ i - 1) := by rw [em, eN]; omega
  have ps : 2 ^ i < 2 ^ (i + 1) := Nat.pow_lt_pow_right (by decide) (by omega)
  have a1 : bt x j = if j < i + 1 then decide (i = j) else Nat.testBit q (j - (i + 1)) := by
    rw [bt_tb, eN, Nat.testBit_two_pow_mul_add q ps j, Nat.testBit_two_pow]
  have a2 : bt (x - 1) j = if j < i + 1 then decide (j < i) else Nat.testBit q (j - (i + 1)) := by
    rw [bt_tb, eM, Nat.testBit_two_pow_mul_add q (by omega) j, Nat.testBit_two_pow_sub_one]
  rw [bt_and, a1, a2]
  by_cases y : j < i + 1
  · rw [if_pos y, if_pos y]
    by_cases w : j = i
    · rw [w, decide_eq_false (Nat.lt_irrefl i), decide_eq_true (show i = i from rfl)]
      rfl
    · rw [decide_eq_false (show ¬ i = j by omega), Bool.false_and, Bool.false_and]
  · rw [if_neg y, if_neg y, decide_eq_false (show ¬ j = i by omega), Bool.not_false, Bool.and_true, Bool.and_self]
section R56P
variable {c G : Nat} {f : Nat → Int32} {a : Nat} {h : Hp} {n : Nat} {x1 x2 x3 : Int32}
theorem SCR.so (x : SCR c G f a h) (c25 : c ≤ 25) (G5 : G ≤ 5) {b : Nat} (hb : b < c) (hx : x1.toInt = (b : Int)) (y2 : 2 ≤ x2.toInt ∧ x2.toInt ≤ 6) (z2 : 0 ≤ x3.toInt ∧ x3.toInt < x2.toInt) : Pc (F_X8_soundIn n h a x1 x2 x3) (SCR c G (upF (upF f b x2) (25 + b) x3) a) := by
  have f0 := lit_0
  have f25 := lit_25
  have f8 := lit_8
  obtain ⟨w1, w2, w3, w4⟩ := x
  have n1 := ncT (show 0 ≤ x1.toInt by omega)
  have n2 : Int32.toNatClampNeg x1 = b := by omega
  have m := mlT 8 x2 8 f8 (by omega) (by omega)
  have ad := adT (8 * x2) x3 (by omega) (by omega)
  unfold F_X8_soundIn
  rw [n2]
  refine Pc.lt (fun q => by exfalso; omega) (fun _ => Pc.le (fun q => by exfalso; omega) (fun _ => Pc.chk (fun _ => Pc.ret ?_)))
  have e3 (v : Int32) : hi (wrI h (a + 1) b v) a 3 = hi h a 3 := hiA rfl a 3 (by omega)
  rw [e3]
  obtain ⟨u1, u2, u3⟩ := w1
  refine ⟨⟨?_, ?_, ?_⟩, fun i hi' => ?_, fun i hi' => ?_, fun k hk => ?_⟩
  · rw [hi_wrI, if_neg (by omega), hi_wrI, if_neg (by omega), upF_n (by omega), upF_n (by omega)]; exact u1
  · rw [hi_wrI, if_neg (by omega), hi_wrI, if_neg (by omega), upF_n (by omega), upF_n (by omega)]; exact u2
  · rw [hi_wrI, if_neg (by omega), hi_wrI, if_neg (by omega), upF_n (by omega), upF_n (by omega)]; exact u3
  · rw [hi_wrI, if_pos ⟨rfl, rfl⟩, bt_or, btL (by omega) (by omega) i, n2, Bool.or_eq_true, w2 i hi', decide_eq_true_eq]
    by_cases e : i = b
    · rw [e, upF_n (show b ≠ 25 + b by omega), upF_e]
      exact ⟨fun _ => ⟨hb, by omega⟩, fun _ => Or.inr rfl⟩
    · refine ⟨fun q => ?_, fun q => Or.inl ⟨q.1, ?_⟩⟩
      · rcases q with q | q
        · rw [upF_n (by omega), upF_n e]; exact q
        · exact absurd q e
      · have := q.2
        rw [upF_n (by have := q.1; omega), upF_n e] at this
        exact this
  · rw [hi_wrI, if_neg (by omega), hi_wrI]
    by_cases e : i = b
    · rw [if_pos ⟨rfl, e⟩, e, upF_n (show b ≠ 25 + b by omega), upF_e, upF_e, byN (by omega) (by omega), ad, m]
      exact fun _ => rfl
    · rw [if_neg (fun q => e q.2), upF_n (show i ≠ 25 + b by omega), upF_n e, upF_n (show 25 + i ≠ 25 + b by omega), upF_n (show 25 + i ≠ b by omega)]
      exact w3 i hi'
  · rw [hi_wrI, if_neg (by omega), hi_wrI, if_neg (by omega), hi_wrI, if_neg (by omega), hi_wrI, if_neg (by omega), upF_n (by omega), upF_n (by omega), upF_n (by omega), upF_n (by omega)]; exact w4 k hk
/-- a cell takes over the tune on its left -/
theorem sl_c (sc : SCR c G f a h) (rv : RVR c G f) (c25 : c ≤ 25) (G5 : G ≤ 5) {b : Nat} (hb : b + 1 < c) (pos : 0 < (f b).toInt) (hx : x1.toInt = ((b + 1 : Nat) : Int)) : Pc (F_X8_soundFromTheLeft n h a x1) (SCR c G (upF (upF f (b + 1) (f b)) (25 + (b + 1)) (offF f b)) a) := by
  have f0 := lit_0
  have f1 := lit_1
  obtain ⟨-, -, r3⟩ := rv.1 b (by omega)
  have r4 := r3 pos
  have s1 := sbT x1 1 (by omega) (by omega)
  have ex : (x1 - 1).toInt = (b : Int) := by omega
  unfold F_X8_soundFromTheLeft
  refine Pc.bind (be_c sc rv (b := b) (by omega) ex) (fun q1 h1 => ?_)
  obtain ⟨t1, t2⟩ := h1
  rw [t1, t2]
  refine Pc.le (fun z => by exfalso; omega) (fun _ => ?_)
  refine Pc.bind (of_c sc rv (b := b) (by omega) c25 pos ex) (fun q4 h4 => Pc.ite (fun _ => Pc.no) (fun _ => ?_))
  obtain ⟨t3, t4⟩ := h4
  rw [t3, t4]
  have a1 := adT (f (25 + b)) 1 (by omega) (by omega)
  have rg := rmG (f (25 + b) + 1) (f b) (by omega) pos
  exact Pc.bind (sc.so c25 G5 (b := b + 1) hb hx r4.1 rg) (fun q7 h7 => Pc.ret h7)
end R56P
end
