/-! THE LAWS, asked by the reference of its row -/
/-- what a text told for good, as the reference has it -/
def EN2 (s : Nat) (T : TT) (h : Hp) : Prop := (s ≤ 1 ∧ (hi h 226 18).toInt = (s : Int)) ∧ rtW s T.lw h ∧ (hi h 242 s).toInt = (T.go.length : Int) ∧ rtN s T.ws h ∧ ∃ B c, rtL s T.la B c h ∧ B ≤ 130 * s + 130 ∧ c ≤ 420 * s + 420
section R56F
variable {s : Nat} {T : TT} {h q : Hp} {n : Nat} {x1 x2 x3 x4 x5 : Int32}
theorem EN2.cg (e : EN2 s T h) (r : ∀ a k, 235 ≤ a → a ≤ 258 → hi q a k = hi h a k) (r2 : hi q 226 18 = hi h 226 18) : EN2 s T q := by
  obtain ⟨⟨e1, e2⟩, e3, e4, e5, B, c, e6, e7⟩ := e
  exact ⟨⟨e1, by rw [r2]; exact e2⟩, e3.cg (r 235 s (by decide) (by decide)) (r 236 s (by decide) (by decide)), by rw [r 242 s (by decide) (by decide)]; exact e4, e5.cg (r 248 s (by decide) (by decide)) (r 249 s (by decide) (by decide)), B, c, e6.cg (Nat.le_refl B) (Nat.le_refl c) (fun k _ => ⟨r 250 _ (by decide) (by decide), r 251 _ (by decide) (by decide)⟩) (fun a j h1 h2 _ => r a j (by omega) (by omega)) (fun j _ => ⟨r 257 j (by decide) (by decide), r 258 j (by decide) (by decide)⟩), e7⟩
theorem EN2.nc (e : EN2 s T h) : Int32.toNatClampNeg (hi h 226 18) = s := by
  have := e.1.2
  have n1 := ncT (show 0 ≤ (hi h 226 18).toInt by omega)
  omega
theorem ce_r (v : VT T) (e : EN2 s T h) : Pc (F_X12_cells n h) (fun q => q.2 = h ∧ q.1.toInt = ((wT T * gT T : Nat) : Int)) := by
  obtain ⟨c25, ⟨w2, w5⟩, ⟨g2, g5⟩, y1, y2⟩ := wg_T v
  unfold F_X12_cells
  rw [e.nc]
  have e1 : (hi h 235 s).toInt = ((wT T : Nat) : Int) := e.2.1.1.trans y1
  have e2 : (hi h 236 s).toInt = ((gT T : Nat) : Int) := e.2.1.2.trans y2
  have m := mlT (hi h 235 s) (hi h 236 s) ((wT T : Nat) : Int) e1 (by rw [e2, ← Int.natCast_mul]; omega) (by rw [e2, ← Int.natCast_mul]; omega)
  refine Pc.chk (fun _ => Pc.chk (fun _ => Pc.ret ⟨rfl, ?_⟩))
  show (hi h 235 s * hi h 236 s).toInt = _
  rw [m, e2, ← Int.natCast_mul]
theorem tb_4 (v : VT T) (e : EN2 s T h) : ∀ (n : Nat) (l1 l2 : Int32) (i : Nat), l2.toInt = (i : Int) → i ≤ wT T * gT T → (∀ b, b < 32 → (bt l1 b = true ↔ b < i ∧ 0 < (hi h 263 b).toInt)) → Pc (W_X12_tuneBits n 4 h l1 l2) (fun q => q.2 = h ∧ ∀ b, b < 32 → (bt q.1 b = true ↔ b < wT T * gT T ∧ 0 < (hi h 263 b).toInt)) := by
  intro n
  have c25 := (wg_T v).1
  induction n with
  | zero => intro l1 l2 i a b c; exact Pc.no
  | succ n ih =>
    intro l1 l2 i a b c
    have f0 := lit_0
    have f1 := lit_1
    have n1 := ncT (show 0 ≤ l2.toInt by omega)
    have n2 : Int32.toNatClampNeg l2 = i := by omega
    rw [u_X12_tuneBits]
    refine Pc.pos rfl ?_
    refine Pc.bind (ce_r v e) (fun q1 h1 => ?_)
    obtain ⟨t1, t2⟩ := h1
    rw [t1, n2]
    refine Pc.le (fun c1 => Pc.ret ⟨rfl, fun b' hb' => ?_⟩) (fun c1 => Pc.chk (fun _ => ?_))
    · have : i = wT T * gT T := by omega
      rw [← this]; exact c b' hb'
    · have a1 := adT l2 1 (by omega) (by omega)
      refine Pc.le (fun z => ?_) (fun z => ?_)
      · refine ih l1 (l2 + 1) (i + 1) (by omega) (by omega) (fun b' hb' => ?_)
        rw [c b' hb']
        refine ⟨fun y => ⟨by omega, y.2⟩, fun y => ⟨?_, y.2⟩⟩
        by_cases w : b' = i
        · rw [w] at y
          omega
        · omega
      · refine ih _ (l2 + 1) (i + 1) (by omega) (by omega) (fun b' hb' => ?_)
        rw [bt_add a (by omega), Bool.or_eq_true, c b' hb', decide_eq_true_iff]
        refine ⟨fun y => ?_, fun y => ?_⟩
        · rcases y with y | y
          · exact ⟨by omega, y.2⟩
          · rw [y]; exact ⟨by omega, by omega⟩
        · by_cases w : b' = i
          · exact Or.inr w
          · exact Or.inl ⟨by omega, y.2⟩
theorem tb_r (v : VT T) (e : EN2 s T h) : Pc (F_X12_tuneBits n h) (fun q => q.2 = h ∧ ∀ b, b < 32 → (bt q.1 b = true ↔ b < wT T * gT T ∧ 0 < (hi h 263 b).toInt)) := by
  unfold F_X12_tuneBits
  exact tb_4 v e n 0 0 0 lit_0 (Nat.zero_le _) (fun b hb => ⟨fun z => by rw [bt_zero] at z; exact Bool.noConfusion z, fun z => absurd z.1 (Nat.not_lt_zero b)⟩)
theorem bi_4 {l0 : Int32} : ∀ (n : Nat) (l1 l2 : Int32) (i : Nat), l2.toInt = (i : Int) → i ≤ 25 → l1.toInt = (cntB (bt l0) i : Nat) → Pc (W_X12_bits n 4 h l0 l1 l2) (fun q => q.2 = h ∧ q.1.toInt = (cntB (bt l0) 25 : Nat)) := by
  intro n
  induction n with
  | zero => intro l1 l2 i a b c; exact Pc.no
  | succ n ih =>
    intro l1 l2 i a b c
    have f25 := lit_25
    have f1 := lit_1
    have n1 := ncT (show 0 ≤ l2.toInt by omega)
    have n2 : Int32.toNatClampNeg l2 = i := by omega
    rw [u_X12_bits]
    refine Pc.pos rfl ?_
    refine Pc.le (fun c1 => Pc.ret ⟨rfl, ?_⟩) (fun c1 => ?_)
    · have : i = 25 := by omega
      rw [← this]; exact c
    · have a1 := adT l2 1 (by omega) (by omega)
      have bs := btS l0 (c := l2) (by omega) (by omega)
      rw [n2] at bs
      have cl := cntB_le (bt l0) i
      generalize (l0 >>> (l2 &&& 31) &&& 1 : Int32) = y at bs ⊢
      have b2 : y.toInt = ((bt l0 i).toNat : Nat) := by
        rw [bs]
        cases bt l0 i <;> rfl
      have b3 : (bt l0 i).toNat ≤ 1 := by cases bt l0 i <;> decide
      have a2 := adT l1 y (by omega) (by omega)
      refine ih (l1 + y) (l2 + 1) (i + 1) (by omega) (by omega) ?_
      show _ = ((cntB (bt l0) i + (bt l0 i).toNat : Nat) : Int)
      omega
theorem bi_r : Pc (F_X12_bits n h x1) (fun q => q.2 = h ∧ q.1.toInt = (cntB (bt x1) 25 : Nat)) := by
  unfold F_X12_bits
  exact bi_4 n 0 0 0 lit_0 (Nat.zero_le _) lit_0
/-- how many tunes there are -/
theorem cn_r {c : Nat} {x : Int32} {f : Nat → Int32} (c25 : c ≤ 25) (e : ∀ b, b < 32 → (bt x b = true ↔ b < c ∧ 0 < (f b).toInt)) : cntB (bt x) 25 = cntB (fun i => decide (0 < (f i).toInt)) c := by
  obtain ⟨d, hd⟩ : ∃ d, 25 = c + d := ⟨25 - c, by omega⟩
  rw [hd, cntB_add, cntB_no (f := fun i => bt x (c + i)) d (fun i hi' => ?_), Nat.add_zero]
  · refine cntB_cg c (fun i hi' => ?_)
    have s := e i (by omega)
    cases z : bt x i with
    | true => exact (decide_eq_true (s.mp z).2).symm
    | false =>
      refine (decide_eq_false (fun y => ?_)).symm
      rw [s.mpr ⟨hi', y⟩] at z
      exact Bool.noConfusion z
  · have s := e (c + i) (by omega)
    cases z : bt x (c + i) with
    | true => exact absurd (s.mp z).1 (by omega)
    | false => rfl
theorem law_O (e : EN2 s T h) {k : Nat} (k4 : k < 4) : ∃ U, rlO h U (4 * s + k) (plW4 k) (lawD T.la k).1 (lawD T.la k).2 := by
  obtain ⟨-, -, -, -, B, c, l, -, -⟩ := e
  obtain ⟨l1, l2⟩ := l k k4
  refine ⟨c, ?_⟩
  unfold lawD
  cases z : T.la k with
  | none =>
    refine Or.inl ⟨l1 z, rfl, rfl, ?_⟩
    have : k = 0 ∨ k = 1 ∨ k = 2 ∨ k = 3 := by omega
    rcases this with rfl | rfl | rfl | rfl <;> decide
  | some b =>
    obtain ⟨D, d1, d2, -, d4⟩ := l2 b z
    refine Or.inr ⟨D, d1, ?_, d4⟩
    show (hi h 251 (4 * s + k)).toInt = (D : Int) + (b.1.length : Int) + 1
    omega
/-- the reference asks a law -/
theorem ar_r (v : VT T) (e : EN2 s T h) {b : Nat} (hb : b < wT T * gT T) (hx : x1.toInt = (b : Int)) {k : Nat} (k4 : k < 4) (hk : x4.toInt = (k : Int)) (hp : x5 = plW4 k) : Pc (F_X12_toldOf n h x1 x2 x3 x4 x5) (fun q => q.1 = lwT T (hi h 263) b x2 x3 k) := by
  have f0 := lit_0
  obtain ⟨c25, ⟨w2, w5⟩, ⟨g2, g5⟩, y1, y2⟩ := wg_T v
  obtain ⟨l1, l2⟩ := la_gd v k4
  have n1 := ncT (show 0 ≤ x1.toInt by omega)
  have n2 : Int32.toNatClampNeg x1 = b := by omega
  have e1 : hi h 235 s = Int32.ofNat (wT T) := nOf (e.2.1.1.trans y1) (by omega)
  have e2 : hi h 236 s = Int32.ofNat (gT T) := nOf (e.2.1.2.trans y2) (by omega)
  have ex : x1 = Int32.ofNat b := nOf hx (by omega)
  obtain ⟨d1, d2⟩ := dm_all (wT T) (by omega) b (by omega)
  unfold F_X12_toldOf
  rw [e.nc, n2]
  refine Pc.chk (fun _ => Pc.ite (fun _ => Pc.no) (fun _ => Pc.chk (fun _ => Pc.ite (fun _ => Pc.no) (fun _ => Pc.chk (fun _ => Pc.chk (fun _ => Pc.chk (fun _ => ?_)))))))
  generalize e1' : wrI h 260 0 (x1 - x1 / (hi h 235 s) * (hi h 235 s)) = g1
  have q1 (a j : Nat) (ne : a ≠ 260) : hi g1 a j = hi h a j := hiA e1' a j ne
  have en1 : EN2 s T g1 := e.cg (fun a j h1 h2 => q1 a j (by omega)) (q1 226 18 (by decide))
  rw [en1.nc]
  generalize e2' : wrI g1 260 1 (x1 / (hi g1 235 s)) = g2'
  generalize e3' : wrI g2' 260 2 (hi g2' 263 61) = g3
  generalize e4' : wrI g3 260 3 (hi g3 263 b) = g4
  generalize e5' : wrI g4 260 4 x2 = g5'
  generalize e6' : wrI g5' 260 5 x3 = g6
  have q2 (a j : Nat) (ne : a ≠ 260) : hi g2' a j = hi h a j := (hiA e2' a j ne).trans (q1 a j ne)
  have q3 (a j : Nat) (ne : a ≠ 260) : hi g3 a j = hi h a j := (hiA e3' a j ne).trans (q2 a j ne)
  have q6 (a j : Nat) (ne : a ≠ 260) : hi g6 a j = hi h a j := (hiA e6' a j ne).trans ((hiA e5' a j ne).trans ((hiA e4' a j ne).trans (q3 a j ne)))
  have en6 : EN2 s T g6 := e.cg (fun a j h1 h2 => q6 a j (by omega)) (q6 226 18 (by decide))
  rw [en6.nc]
  generalize e7' : wrI g6 260 6 (hi g6 235 s) = g7
  have q7 (a j : Nat) (ne : a ≠ 260) : hi g7 a j = hi h a j := (hiA e7' a j ne).trans (q6 a j ne)
  have en7 : EN2 s T g7 := e.cg (fun a j h1 h2 => q7 a j (by omega)) (q7 226 18 (by decide))
  rw [en7.nc]
  generalize e8' : wrI g7 260 7 (hi g7 236 s) = g
  have rg (a j : Nat) (ne : a ≠ 260) : hi g a j = hi h a j := (hiA e8' a j ne).trans (q7 a j ne)
  have eng : EN2 s T g := e.cg (fun a j h1 h2 => rg a j (by omega)) (rg 226 18 (by decide))
  refine Pc.bind (tb_r v eng) (fun q8 h8 => ?_)
  obtain ⟨t1, t2⟩ := h8
  rw [t1]
  refine Pc.bind bi_r (fun q10 h10 => ?_)
  obtain ⟨t3, t4⟩ := h10
  rw [t3]
  generalize eg' : wrI g 260 8 q10.1 = g'
  have rg' (a j : Nat) (ne : a ≠ 260) : hi g' a j = hi h a j := (hiA eg' a j ne).trans (rg a j ne)
  have en' : EN2 s T g' := e.cg (fun a j h1 h2 => rg' a j (by omega)) (rg' 226 18 (by decide))
  obtain ⟨U, o⟩ := law_O en' k4
  have hv : ∀ j, j < 9 → hi g' 260 j = valF (wT T) (gT T) (wT T * gT T) (hi h 263) b x2 x3 j := by
    intro j hj
    have : j = 0 ∨ j = 1 ∨ j = 2 ∨ j = 3 ∨ j = 4 ∨ j = 5 ∨ j = 6 ∨ j = 7 ∨ j = 8 := by omega
    rcases this with rfl | rfl | rfl | rfl | rfl | rfl | rfl | rfl | rfl
    · rw [hiK eg' 260 0 (by decide), hiK e8' 260 0 (by decide), hiK e7' 260 0 (by decide), hiK e6' 260 0 (by decide), hiK e5' 260 0 (by decide), hiK e4' 260 0 (by decide), hiK e3' 260 0 (by decide), hiK e2' 260 0 (by decide), hiE e1', e1, ex, d2]
      rfl
    · rw [hiK eg' 260 1 (by decide), hiK e8' 260 1 (by decide), hiK e7' 260 1 (by decide), hiK e6' 260 1 (by decide), hiK e5' 260 1 (by decide), hiK e4' 260 1 (by decide), hiK e3' 260 1 (by decide), hiE e2', q1 235 s (by decide), e1, ex, d1]
      rfl
    · rw [hiK eg' 260 2 (by decide), hiK e8' 260 2 (by decide), hiK e7' 260 2 (by decide), hiK e6' 260 2 (by decide), hiK e5' 260 2 (by decide), hiK e4' 260 2 (by decide), hiE e3', q2 263 61 (by decide)]
      rfl
    · rw [hiK eg' 260 3 (by decide), hiK e8' 260 3 (by decide), hiK e7' 260 3 (by decide), hiK e6' 260 3 (by decide), hiK e5' 260 3 (by decide), hiE e4', q3 263 b (by decide)]
      rfl
    · rw [hiK eg' 260 4 (by decide), hiK e8' 260 4 (by decide), hiK e7' 260 4 (by decide), hiK e6' 260 4 (by decide), hiE e5']
      rfl
    · rw [hiK eg' 260 5 (by decide), hiK e8' 260 5 (by decide), hiK e7' 260 5 (by decide), hiE e6']
      rfl
    · rw [hiK eg' 260 6 (by decide), hiK e8' 260 6 (by decide), hiE e7', q6 235 s (by decide), e1]
      rfl
    · rw [hiK eg' 260 7 (by decide), hiE e8', q7 236 s (by decide), e2]
      rfl
    · rw [hiE eg']
      have c1 := cntB_le (bt q8.1) 25
      rw [nOf t4 (by omega), cn_r (f := hi g 263) c25 t2]
      show Int32.ofNat (cntB (fun i => decide (0 < (hi g 263 i).toInt)) (wT T * gT T)) = Int32.ofNat (cntB (fun i => decide (0 < (hi h 263 i).toInt)) (wT T * gT T))
      congr 1
      exact cntB_cg _ (fun i _ => by rw [rg 263 i (by decide)])
  refine Pc.bind (rv_tells l2 l1 hv hk k4 en'.1.2 en'.1.1 (by rw [hp]; exact o)) (fun q12 h12 => Pc.ret h12.2)
end R56F
