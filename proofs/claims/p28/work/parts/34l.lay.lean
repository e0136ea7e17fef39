section
/-! READING: what is told is laid out. The sides of each cell -/
theorem rmN {x y : Int32} {a b : Nat} (hx : x.toInt = (a : Int)) (hy : y.toInt = (b : Int)) : (x - x / y * y).toInt = ((a % b : Nat) : Int) := by
  rw [rmA, hx, hy]
  exact (Int.ofNat_tmod a b).symm
/-- the heap with cell c's sides laid, others kept -/
def sdP (w g : Nat) (hS h : Hp) (m : Nat) : Prop := ((∀ a k, a ≠ 264 → hi h a k = hi hS a k) ∧ (∀ a k, hl h a k = hl hS a k)) ∧ ∀ c, c < m → ∀ k, k < 5 → (hi h 264 (5 * c + k)).toInt = ((sdv w g c k : Nat) : Int)
theorem x12_cells {n : Nat} {h : Hp} {w g : Nat} (l0 : 0 ≤ (hi h 226 18).toInt) (l1 : (hi h 226 18).toInt ≤ 1) (hw : (hi h 235 (Int32.toNatClampNeg (hi h 226 18))).toInt = (w : Int)) (hg : (hi h 236 (Int32.toNatClampNeg (hi h 226 18))).toInt = (g : Int)) (w5 : w ≤ 5) (g5 : g ≤ 5) : Ok (F_X12_cells n h) (fun q => q.2 = h ∧ q.1.toInt = ((w * g : Nat) : Int)) := by
  unfold F_X12_cells
  refine Ok.chk (ixT (by omega) (by omega)) (fun c1 => ?_)
  refine Ok.pos c1 ?_
  refine Ok.ret ⟨rfl, ?_⟩
  show (hi h 235 (Int32.toNatClampNeg (hi h 226 18)) * hi h 236 (Int32.toNatClampNeg (hi h 226 18))).toInt = _
  rw [Int32.toInt_mul, hw, hg, ← Int.natCast_mul]
  have : w * g ≤ 5 * 5 := Nat.mul_le_mul w5 g5
  exact bmT (by omega) (by omega)
/-- one side's cell is written -/
theorem i5 {x : Int32} {c k : Nat} {kk : Int32} (hx : x.toInt = (c : Int)) (hc : c < 25) (hk : kk.toInt = (k : Int)) (k5 : k < 5) : ixOK (5 * x + kk) 125 = true ∧ Int32.toNatClampNeg (5 * x + kk) = 5 * c + k := by
  have f5 := lit_5
  have a1 := mlT 5 x 5 lit_5 (by omega) (by omega)
  have a2 := adT (5 * x) kk (by omega) (by omega)
  have n0 := ncT (show 0 ≤ (5 * x + kk : Int32).toInt by omega)
  exact ⟨ixT (by omega) (by omega), by omega⟩
/-- cell c's own sides, as far as they are laid: f k -/
def sdQ (w g : Nat) (hS h : Hp) (c : Nat) (f : Nat → Int) : Prop := sdP w g hS h c ∧ ∀ k, k < 5 → (hi h 264 (5 * c + k)).toInt = f k
theorem sdQ.w {w g : Nat} {hS h : Hp} {c k : Nat} {f : Nat → Int} {v : Int32} (q : sdQ w g hS h c f) (k5 : k < 5) : sdQ w g hS (wrI h 264 (5 * c + k) v) c (fun i => if i = k then v.toInt else f i) := by
  obtain ⟨⟨⟨q1, q2⟩, q3⟩, q4⟩ := q
  refine ⟨⟨⟨fun a z n => ?_, fun a z => q2 a z⟩, fun c' hc' k' hk' => ?_⟩, fun i hi5 => ?_⟩
  · rw [hi_wrI, if_neg (fun w => n w.1)]
    exact q1 a z n
  · rw [hi_wrI, if_neg (by omega)]
    exact q3 c' hc' k' hk'
  · show (hi (wrI h 264 (5 * c + k) v) 264 (5 * c + i)).toInt = if i = k then v.toInt else f i
    rw [hi_wrI]
    by_cases e : i = k
    · subst e
      rw [if_pos ⟨rfl, rfl⟩, if_pos rfl]
    · rw [if_neg (by omega), if_neg e]
      exact q4 i hi5
theorem sdQ.next {w g : Nat} {hS h : Hp} {c : Nat} {f : Nat → Int} (q : sdQ w g hS h c f) (e : ∀ k, k < 5 → f k = ((sdv w g c k : Nat) : Int)) : sdP w g hS h (c + 1) := by
  refine ⟨q.1.1, fun c' hc' k hk => ?_⟩
  by_cases z : c' = c
  · subst z
    rw [q.2 k hk]
    exact e k hk
  · exact q.1.2 c' (by omega) k hk
theorem sd5 {k : Nat} (h : k < 5) : k = 0 ∨ k = 1 ∨ k = 2 ∨ k = 3 ∨ k = 4 := by omega
set_option maxRecDepth 100000 in
set_option maxHeartbeats 8000000 in
theorem sr_sides {w g : Nat} (w0 : 2 ≤ w) (w5 : w ≤ 5) (g5 : g ≤ 5) {hS : Hp} (l0 : 0 ≤ (hi hS 226 18).toInt) (l1' : (hi hS 226 18).toInt ≤ 1) (hw : (hi hS 235 (Int32.toNatClampNeg (hi hS 226 18))).toInt = (w : Int)) (hg : (hi hS 236 (Int32.toNatClampNeg (hi hS 226 18))).toInt = (g : Int)) {l1 : Int32} (hl1 : l1.toInt = (w : Int)) : ∀ n : Nat, (∀ (h : Hp) (c : Nat) (l2 : Int32), l2.toInt = (c : Int) → c ≤ w * g → sdP w g hS h c → 10 * (26 - c) + 20 < n → Ok (W_X12_fillsSides n 12 h l1 l2 0) (fun q => sdP w g hS q (w * g))) ∧ (∀ (h : Hp) (c k : Nat) (l2 l3 : Int32), l2.toInt = (c : Int) → c < w * g → l3.toInt = (k : Int) → k ≤ 5 → sdP w g hS h c → (∀ i, i < k → (hi h 264 (5 * c + i)).toInt = (c : Int)) → 10 * (26 - c) + 19 - k < n → Ok (W_X12_fillsSides n 22 h l1 l2 l3) (fun q => sdP w g hS q (w * g))) := by
  have w25 : w * g ≤ 5 * 5 := Nat.mul_le_mul w5 g5
  have f0 := lit_0
  have f1 := lit_1
  have f2 := lit_2
  have f3 := lit_3
  have f4 := lit_4
  have f5 := lit_5
  have cel (m : Nat) (h : Hp) (e : ∀ a k, a ≠ 264 → hi h a k = hi hS a k) : Ok (F_X12_cells m h) (fun q => q.2 = h ∧ q.1.toInt = ((w * g : Nat) : Int)) := by
    refine x12_cells ?_ ?_ ?_ ?_ w5 g5
    · rw [e 226 18 (by decide)]; exact l0
    · rw [e 226 18 (by decide)]; exact l1'
    · rw [e 226 18 (by decide), e 235 _ (by decide)]; exact hw
    · rw [e 226 18 (by decide), e 236 _ (by decide)]; exact hg
  intro n
  induction n with
  | zero => exact ⟨by intro h c l2 a b d e; omega, by intro h c k l2 l3 a b d e f i j; omega⟩
  | succ n ih =>
    refine ⟨?_, ?_⟩
    · intro h c l2 a b d e
      rw [u_X12_fillsSides]
      refine Ok.pos rfl ?_
      refine Ok.bind (cel n h d.1.1) (fun q1 hq1 => ?_)
      obtain ⟨e1, y1⟩ := hq1
      rw [e1]
      refine Ok.le (fun c1 => ?_) (fun c1 => ?_)
      · refine Ok.ret ?_
        rw [show w * g = c by omega]
        exact d
      · exact ih.2 h c 0 l2 0 a (by omega) f0 (by decide) d (fun i il => by omega) (by omega)
    · intro h c k l2 l3 a b d e f i j
      have hc25 : c < 25 := by omega
      rw [u_X12_fillsSides]
      refine Ok.neg (by decide) ?_
      refine Ok.pos rfl ?_
      refine Ok.le (fun c1 => ?_) (fun c1 => ?_)
      · have k5 : k = 5 := by omega
        subst k5
        have q0 : sdQ w g hS h c (fun _ => (c : Int)) := ⟨f, fun z hz => i z hz⟩
        have a1 := adT l2 1 (by omega) (by omega)
        have a2 := adT l2 l1 (by omega) (by omega)
        obtain ⟨x1, z1⟩ := i5 (kk := 1) a hc25 f1 (by decide)
        obtain ⟨x2, z2⟩ := i5 (kk := 2) a hc25 f2 (by decide)
        obtain ⟨x3, z3⟩ := i5 (kk := 3) a hc25 f3 (by decide)
        obtain ⟨x4, z4⟩ := i5 (kk := 4) a hc25 f4 (by decide)
        simp only [z1, z2, z3, z4]
        have rm := rmN a hl1
        have md : c % w < w := Nat.mod_lt _ (by omega)
        generalize er : (l2 - l2 / l1 * l1 : Int32) = r at rm
        generalize es : (l1 - 1 : Int32) = s1
        have fs := sbG es rfl lit_1 (by omega) (by omega)
        have fin (hh : Hp) (ff : Nat → Int) (q : sdQ w g hS hh c ff) (ee : ∀ k, k < 5 → ff k = ((sdv w g c k : Nat) : Int)) : Ok (W_X12_fillsSides n 12 hh l1 (l2 + 1) 0) (fun q => sdP w g hS q (w * g)) := ih.1 hh (c + 1) (l2 + 1) (by omega) (by omega) (q.next ee) (by omega)
        have dv : ¬ (l1 = 0) := fun z => by rw [z, f0] at hl1; omega
        -- the two lower sides
        have low (hh : Hp) (ff : Nat → Int) (q : sdQ w g hS hh c ff) (e0 : ff 0 = c) (e1 : ff 1 = ((sdv w g c 1 : Nat) : Int)) (e2 : ff 2 = ((sdv w g c 2 : Nat) : Int)) (e3 : ff 3 = c) (e4 : ff 4 = c) : Ok (if (l1 : Int32) = 0 then none else (if (r : Int32) ≤ 0 then (if (l2 : Int32) < (l1 : Int32) then W_X12_fillsSides n 12 hh l1 (l2 + 1) 0 else (if ixOK ((5 * l2) + 4) 125 = true then W_X12_fillsSides n 12 (wrI hh 264 (5 * c + 4) (l2 - l1)) l1 (l2 + 1) 0 else none)) else (if ixOK ((5 * l2) + 3) 125 = true then (if (l2 : Int32) < (l1 : Int32) then W_X12_fillsSides n 12 (wrI hh 264 (5 * c + 3) (l2 - 1)) l1 (l2 + 1) 0 else (if ixOK ((5 * l2) + 4) 125 = true then W_X12_fillsSides n 12 (wrI (wrI hh 264 (5 * c + 3) (l2 - 1)) 264 (5 * c + 4) (l2 - l1)) l1 (l2 + 1) 0 else none)) else none))) (fun q => sdP w g hS q (w * g)) := by
          refine Ok.neg dv ?_
          generalize e31 : (l2 - 1 : Int32) = m1
          generalize e41 : (l2 - l1 : Int32) = m4
          have g3 := sbG e31 rfl lit_1 (by omega) (by omega)
          have g4 := sbG e41 rfl rfl (by omega) (by omega)
          refine Ok.le (fun c3 => ?_) (fun c3 => ?_)
          · have n3 : ¬ 0 < c % w := by omega
            refine Ok.lt (fun c4 => ?_) (fun c4 => ?_)
            · refine fin _ _ q (fun k hk => ?_)
              rcases sd5 hk with rfl | rfl | rfl | rfl | rfl
              · rw [e0]; rfl
              · exact e1
              · exact e2
              · rw [e3]; unfold sdv; rw [if_neg (by decide), if_neg (by decide), if_pos rfl, if_neg n3]
              · rw [e4]; unfold sdv; rw [if_neg (by decide), if_neg (by decide), if_neg (by decide), if_pos rfl, if_neg (by omega)]
            · refine Ok.pos x4 (fin _ _ (q.w (by decide)) (fun k hk => ?_))
              rcases sd5 hk with rfl | rfl | rfl | rfl | rfl
              · rw [if_neg (by decide), e0]; rfl
              · rw [if_neg (by decide)]; exact e1
              · rw [if_neg (by decide)]; exact e2
              · rw [if_neg (by decide), e3]; unfold sdv; rw [if_neg (by decide), if_neg (by decide), if_pos rfl, if_neg n3]
              · rw [if_pos rfl]; unfold sdv; rw [if_neg (by decide), if_neg (by decide), if_neg (by decide), if_pos rfl, if_pos (by omega)]; omega
          · have p3 : 0 < c % w := by omega
            have c1' : 1 ≤ c := by
              by_cases z : c = 0
              · rw [z, Nat.zero_mod] at p3; omega
              · omega
            refine Ok.pos x3 ?_
            refine Ok.lt (fun c4 => ?_) (fun c4 => ?_)
            · refine fin _ _ (q.w (by decide)) (fun k hk => ?_)
              rcases sd5 hk with rfl | rfl | rfl | rfl | rfl
              · rw [if_neg (by decide), e0]; rfl
              · rw [if_neg (by decide)]; exact e1
              · rw [if_neg (by decide)]; exact e2
              · rw [if_pos rfl]; unfold sdv; rw [if_neg (by decide), if_neg (by decide), if_pos rfl, if_pos p3]; omega
              · rw [if_neg (by decide), e4]; unfold sdv; rw [if_neg (by decide), if_neg (by decide), if_neg (by decide), if_pos rfl, if_neg (by omega)]
            · refine Ok.pos x4 (fin _ _ ((q.w (by decide)).w (by decide)) (fun k hk => ?_))
              rcases sd5 hk with rfl | rfl | rfl | rfl | rfl
              · rw [if_neg (by decide), if_neg (by decide), e0]; rfl
              · rw [if_neg (by decide), if_neg (by decide)]; exact e1
              · rw [if_neg (by decide), if_neg (by decide)]; exact e2
              · rw [if_neg (by decide), if_pos rfl]; unfold sdv; rw [if_neg (by decide), if_neg (by decide), if_pos rfl, if_pos p3]; omega
              · rw [if_pos rfl]; unfold sdv; rw [if_neg (by decide), if_neg (by decide), if_neg (by decide), if_pos rfl, if_pos (by omega)]; omega
        refine Ok.neg dv ?_
        refine Ok.le (fun cA => ?_) (fun cA => ?_)
        · have nR : ¬ c % w + 1 < w := by omega
          have e1 : (c : Int) = ((sdv w g c 1 : Nat) : Int) := by unfold sdv; rw [if_pos rfl, if_neg nR]
          refine Ok.bind (cel n h f.1.1) (fun q7 hq7 => ?_)
          obtain ⟨e7, y7⟩ := hq7
          rw [e7]
          refine Ok.le (fun cB => ?_) (fun cB => ?_)
          · exact low h _ q0 rfl e1 (by unfold sdv; rw [if_neg (by decide), if_pos rfl, if_neg (by omega)]) rfl rfl
          · refine Ok.pos x2 ?_
            exact low _ _ (q0.w (k := 2) (v := l2 + l1) (by decide)) rfl e1 (by show (l2 + l1).toInt = _; unfold sdv; rw [if_neg (by decide), if_pos rfl, if_pos (by omega)]; omega) rfl rfl
        · have yR : c % w + 1 < w := by omega
          have e1 : (l2 + 1).toInt = ((sdv w g c 1 : Nat) : Int) := by unfold sdv; rw [if_pos rfl, if_pos yR]; omega
          refine Ok.pos x1 ?_
          have q1 := q0.w (k := 1) (v := l2 + 1) (by decide)
          generalize eg : wrI h 264 (5 * c + 1) (l2 + 1) = hh at q1
          refine Ok.bind (cel n hh q1.1.1.1) (fun q7 hq7 => ?_)
          obtain ⟨e7, y7⟩ := hq7
          rw [e7]
          refine Ok.le (fun cB => ?_) (fun cB => ?_)
          · exact low hh _ q1 rfl e1 (by show (c : Int) = _; unfold sdv; rw [if_neg (by decide), if_pos rfl, if_neg (by omega)]) rfl rfl
          · refine Ok.pos x2 ?_
            exact low _ _ (q1.w (k := 2) (v := l2 + l1) (by decide)) rfl e1 (by show (l2 + l1).toInt = _; unfold sdv; rw [if_neg (by decide), if_pos rfl, if_pos (by omega)]; omega) rfl rfl
      · obtain ⟨x1, z1⟩ := i5 (kk := l3) a hc25 d (by omega)
        refine Ok.pos x1 ?_
        rw [z1]
        have a1 := adT l3 1 (by omega) (by omega)
        refine ih.2 _ c (k + 1) l2 (l3 + 1) a b (by omega) (by omega) ⟨⟨fun a' k' q => ?_, fun a' k' => f.1.2 a' k'⟩, fun c' hc' k' hk' => ?_⟩ (fun i' hi' => ?_) (by omega)
        · rw [hi_wrI, if_neg (fun z => q z.1)]
          exact f.1.1 a' k' q
        · rw [hi_wrI, if_neg (by omega)]
          exact f.2 c' hc' k' hk'
        · rw [hi_wrI]
          by_cases z : i' = k
          · subst z
            rw [if_pos ⟨rfl, rfl⟩]
            exact a
          · rw [if_neg (by omega)]
            exact i i' (by omega)
theorem sf_X12_fillsSides {n : Nat} {h : Hp} {w g : Nat} (hn : 400 ≤ n) (w0 : 2 ≤ w) (w5 : w ≤ 5) (g5 : g ≤ 5) (l0 : 0 ≤ (hi h 226 18).toInt) (l1 : (hi h 226 18).toInt ≤ 1) (hw : (hi h 235 (Int32.toNatClampNeg (hi h 226 18))).toInt = (w : Int)) (hg : (hi h 236 (Int32.toNatClampNeg (hi h 226 18))).toInt = (g : Int)) : Ok (F_X12_fillsSides n h) (fun q => sdP w g h q (w * g)) := by
  have f0 := lit_0
  unfold F_X12_fillsSides
  refine Ok.pos (ixT (by omega) (by omega)) ?_
  exact (sr_sides w0 w5 g5 l0 l1 hw hg hw n).1 h 0 0 f0 (Nat.zero_le _) ⟨⟨fun _ _ _ => rfl, fun _ _ => rfl⟩, fun c hc => by omega⟩ (by omega)
end
section
/-! READING: the row as it begins -/
/-- the rows of what was told, all on the lawn (s: the side, now live) -/
def onL (s w g : Nat) (h : Hp) : Prop := (∀ k : Nat, (k : Int) < (hi h 237 s).toInt → (0 ≤ (hi h 238 (8 * s + k)).toInt ∧ (hi h 238 (8 * s + k)).toInt < w) ∧ (0 ≤ (hi h 239 (8 * s + k)).toInt ∧ (hi h 239 (8 * s + k)).toInt < g) ∧ (2 ≤ (hi h 240 (8 * s + k)).toInt ∧ (hi h 240 (8 * s + k)).toInt ≤ 6) ∧ 0 ≤ (hi h 241 (8 * s + k)).toInt ∧ (hi h 241 (8 * s + k)).toInt < (hi h 240 (8 * s + k)).toInt) ∧ (∀ k : Nat, (k : Int) < (hi h 242 s).toInt → (0 ≤ (hi h 243 (5 * s + k)).toInt ∧ (hi h 243 (5 * s + k)).toInt < w) ∧ (0 ≤ (hi h 244 (5 * s + k)).toInt ∧ (hi h 244 (5 * s + k)).toInt < g))
def bgS (w g : Nat) (hS h : Hp) : Prop := ((∀ a k, a ≠ 263 → hi h a k = hi hS a k) ∧ (∀ a k, hl h a k = hl hS a k)) ∧ rwO ((w * g : Nat) : Int) (hi h 263) ∧ ovO (hi h 263)
theorem cellN {w g x y : Nat} (hx : x < w) (hy : y < g) : w * y + x < w * g := by
  have h1 : w * y + x < w * (y + 1) := by rw [Nat.mul_succ]; omega
  exact Nat.lt_of_lt_of_le h1 (Nat.mul_le_mul (Nat.le_refl w) hy)
theorem sr_cellAt {n : Nat} {h : Hp} {w g : Nat} {x y : Int32} (w5 : w ≤ 5) (g5 : g ≤ 5) (l0 : 0 ≤ (hi h 226 18).toInt) (l1 : (hi h 226 18).toInt ≤ 1) (hw : (hi h 235 (Int32.toNatClampNeg (hi h 226 18))).toInt = (w : Int)) (x0 : 0 ≤ x.toInt) (x1 : x.toInt < w) (y0 : 0 ≤ y.toInt) (y1 : y.toInt < g) : Ok (F_X12_cellAt n h x y) (fun q => q.2 = h ∧ ∃ c : Nat, q.1.toInt = (c : Int) ∧ c < w * g ∧ (c : Int) = w * y.toInt + x.toInt) := by
  unfold F_X12_cellAt
  refine Ok.pos (ixT (by omega) (by omega)) ?_
  have e1 : x.toInt = (x.toInt.toNat : Int) := by omega
  have e2 : y.toInt = (y.toInt.toNat : Int) := by omega
  have hc : w * y.toInt.toNat + x.toInt.toNat < w * g := cellN (by omega) (by omega)
  have w25 : w * g ≤ 5 * 5 := Nat.mul_le_mul w5 g5
  have p0 : (w * y.toInt.toNat : Nat) ≤ 25 := by omega
  have m : (hi h 235 (Int32.toNatClampNeg (hi h 226 18)) * y).toInt = ((w * y.toInt.toNat : Nat) : Int) := by
    rw [Int32.toInt_mul, hw, e2, ← Int.natCast_mul, Int.toNat_natCast]
    exact bmT (by omega) (by omega)
  have a := adT (hi h 235 (Int32.toNatClampNeg (hi h 226 18)) * y) x (by omega) (by omega)
  refine Ok.ret ⟨rfl, w * y.toInt.toNat + x.toInt.toNat, ?_, hc, ?_⟩
  · show (hi h 235 (Int32.toNatClampNeg (hi h 226 18)) * y + x).toInt = _
    omega
  · rw [Int.natCast_add, Int.natCast_mul, ← e1, ← e2]
theorem bg_tune {w g : Nat} {hS h : Hp} (w25 : w * g ≤ 25) (b : bgS w g hS h) {c : Nat} (hc : c < w * g) {u v : Int32} (u0 : 2 ≤ u.toInt) (u1 : u.toInt ≤ 6) (v0 : 0 ≤ v.toInt) (v1 : v.toInt < u.toInt) : bgS w g hS (wrI (wrI h 263 c u) 263 (25 + c) v) := by
  have e0 (i : Nat) : hi (wrI (wrI h 263 c u) 263 (25 + c) v) 263 i = if i = 25 + c then v else if i = c then u else hi h 263 i := by
    rw [hi_wrI, hi_wrI]
    by_cases q : i = 25 + c
    · rw [if_pos q, if_pos ⟨rfl, q⟩]
    · rw [if_neg q, if_neg (fun z => q z.2)]
      by_cases q2 : i = c
      · rw [if_pos q2, if_pos ⟨rfl, q2⟩]
      · rw [if_neg q2, if_neg (fun z => q2 z.2)]
  obtain ⟨⟨b1, b2⟩, b3, b4⟩ := b
  refine ⟨⟨fun a k q => ?_, fun a k => b2 a k⟩, ⟨fun i il => ?_, fun i h1 h2 => ?_⟩, fun i il h1 => ?_⟩
  · rw [hi_wrI, if_neg (fun z => q z.1), hi_wrI, if_neg (fun z => q z.1)]
    exact b1 a k q
  · rw [e0, if_neg (by omega)]
    by_cases q : i = c
    · rw [if_pos q]; omega
    · rw [if_neg q]; exact b3.1 i il
  · rw [e0, if_neg (by omega), if_neg (by omega)]
    exact b3.2 i h1 h2
  · have a1 : hi (wrI (wrI h 263 c u) 263 (25 + c) v) 263 i = if i = c then u else hi h 263 i := by rw [e0, if_neg (by omega)]
    have a2 := e0 (25 + i)
    rw [a1] at h1 ⊢
    rw [a2]
    by_cases q : i = c
    · rw [if_pos q] at h1 ⊢
      rw [if_pos (by omega)]
      exact ⟨v0, v1⟩
    · rw [if_neg q] at h1 ⊢
      rw [if_neg (by omega), if_neg (by omega)]
      exact b4 i il h1
theorem bg_one {w g : Nat} {hS h : Hp} (b : bgS w g hS h) {k : Nat} {v : Int32} (k0 : 50 ≤ k) (ok : 51 ≤ k → k < 56 → 0 ≤ v.toInt ∧ v.toInt < ((w * g : Nat) : Int)) : bgS w g hS (wrI h 263 k v) := by
  have e0 (i : Nat) : hi (wrI h 263 k v) 263 i = if i = k then v else hi h 263 i := by
    rw [hi_wrI]
    by_cases q : i = k
    · rw [if_pos q, if_pos ⟨rfl, q⟩]
    · rw [if_neg q, if_neg (fun z => q z.2)]
  obtain ⟨⟨b1, b2⟩, b3, b4⟩ := b
  refine ⟨⟨fun a z q => ?_, fun a z => b2 a z⟩, ⟨fun i il => ?_, fun i h1 h2 => ?_⟩, fun i il h1 => ?_⟩
  · rw [hi_wrI, if_neg (fun z => q z.1)]
    exact b1 a z q
  · rw [e0, if_neg (by omega)]
    exact b3.1 i il
  · rw [e0]
    by_cases q : i = k
    · rw [if_pos q]; exact ok (by omega) (by omega)
    · rw [if_neg q]; exact b3.2 i h1 h2
  · rw [e0, if_neg (by omega)] at h1
    rw [e0, if_neg (by omega), e0, if_neg (by omega)]
    exact b4 i il h1
end
section
/-! READING: begins -/
section BG
variable {s w g : Nat} {hS : Hp}
def bgP (w g : Nat) (hS q : Hp) : Prop := ∃ (h1 : Hp) (v : Int32), bgS w g hS h1 ∧ sdP w g (wrI (wrI h1 226 55 v) 226 56 0) q (w * g)
def bgH (s w g : Nat) (hS : Hp) : Prop := s ≤ 1 ∧ (2 ≤ w ∧ w ≤ 5) ∧ (2 ≤ g ∧ g ≤ 5) ∧ (hi hS 226 18).toInt = (s : Int) ∧ (hi hS 235 s).toInt = (w : Int) ∧ (hi hS 236 s).toInt = (g : Int) ∧ onL s w g hS ∧ (0 ≤ (hi hS 237 s).toInt ∧ (hi hS 237 s).toInt ≤ 8) ∧ (0 ≤ (hi hS 242 s).toInt ∧ (hi hS 242 s).toInt ≤ 5) ∧ (0 ≤ (hi hS 245 s).toInt ∧ (hi hS 245 s).toInt ≤ 8)
theorem bgH.lv (H : bgH s w g hS) {h : Hp} (e : ∀ a k, a ≠ 263 → hi h a k = hi hS a k) : ixOK (hi h 226 18) 2 = true ∧ Int32.toNatClampNeg (hi h 226 18) = s ∧ (hi h 226 18).toInt = (s : Int) := by
  have a : (hi h 226 18).toInt = (s : Int) := by rw [e 226 18 (by decide)]; exact H.2.2.2.1
  have b := ncT (show 0 ≤ (hi h 226 18).toInt by omega)
  have c := H.1
  exact ⟨ixT (by omega) (by omega), by omega, a⟩
theorem bg178 (H : bgH s w g hS) : ∀ n : Nat, ∀ (h : Hp) (l1 : Int32), bgS w g hS h → 0 ≤ l1.toInt → (500 : Int) < n → (500 : Int) + (6 - l1.toInt) < n → Ok (W_X12_begins n 178 h l1) (fun q => bgP w g hS q) := by
  obtain ⟨hs, hw2, hg5, h18, h35, h36, hon, c37, c42, c45⟩ := id H
  have w25 : w * g ≤ 5 * 5 := Nat.mul_le_mul hw2.2 hg5.2
  intro n
  induction n with
  | zero => intro h l1 b a c d; exfalso; omega
  | succ n ih =>
    intro h l1 b a c d
    obtain ⟨i1, i2, i3⟩ := H.lv b.1.1
    have e (x k : Nat) (hx : x ≠ 263) : hi h x k = hi hS x k := b.1.1 x k hx
    have n1 := ncT a
    have f5 := lit_5
    have f51 := lit_51
    have f1 := lit_1
    rw [u_X12_begins]
    refine Ok.neg (by decide) (Ok.neg (by decide) (Ok.neg (by decide) (Ok.pos rfl ?_)))
    refine Ok.pos i1 ?_
    rw [i2, e 242 s (by decide)]
    refine Ok.le (fun c1 => ?_) (fun c1 => ?_)
    · refine Ok.pos i1 ?_
      generalize ev : hi h 249 s = v
      have r (x k : Nat) (hx : x ≠ 226) : hi (wrI (wrI h 226 55 v) 226 56 0) x k = hi h x k := by rw [hi_wrI, if_neg (by omega), hi_wrI, if_neg (by omega)]
      have r18 : hi (wrI (wrI h 226 55 v) 226 56 0) 226 18 = hi h 226 18 := by rw [hi_wrI, if_neg (by decide), hi_wrI, if_neg (by decide)]
      refine Ok.bind (sf_X12_fillsSides (w := w) (g := g) (by omega) hw2.1 hw2.2 hg5.2 (by rw [r18]; omega) (by rw [r18]; omega) (by rw [r18, i2, r 235 s (by decide), e 235 s (by decide)]; exact h35) (by rw [r18, i2, r 236 s (by decide), e 236 s (by decide)]; exact h36)) (fun q hq => ?_)
      exact Ok.ret ⟨h, v, b, hq⟩
    · have a1 := mlT 5 (hi h 226 18) 5 lit_5 (by omega) (by omega)
      have a2 := adT (5 * hi h 226 18) l1 (by omega) (by omega)
      have a3 := adT 51 l1 (by omega) (by omega)
      have a4 := adT l1 1 (by omega) (by omega)
      have n2 := ncT (show 0 ≤ (5 * hi h 226 18 + l1 : Int32).toInt by omega)
      have n3 := ncT (show 0 ≤ (51 + l1 : Int32).toInt by omega)
      have im : ixOK (5 * hi h 226 18 + l1) 10 = true := ixT (by omega) (by omega)
      refine Ok.pos im (Ok.pos im ?_)
      have ek : Int32.toNatClampNeg (5 * hi h 226 18 + l1) = 5 * s + Int32.toNatClampNeg l1 := by omega
      rw [ek]
      have o := hon.2 (Int32.toNatClampNeg l1) (by omega)
      refine Ok.bind (sr_cellAt (w := w) (g := g) hw2.2 hg5.2 (by omega) (by omega) (by rw [i2, e 235 s (by decide)]; exact h35) (by rw [e 243 _ (by decide)]; exact o.1.1) (by rw [e 243 _ (by decide)]; exact o.1.2) (by rw [e 244 _ (by decide)]; exact o.2.1) (by rw [e 244 _ (by decide)]; exact o.2.2)) (fun q hq => ?_)
      obtain ⟨e1, cc, k1, k2, -⟩ := hq
      rw [e1]
      refine Ok.chk (ixT (by omega) (by omega)) (fun c2 => ?_)
      exact ih _ (l1 + 1) (bg_one b (by omega) (fun _ _ => by omega)) (by omega) (by omega) (by omega)
theorem bg121 (H : bgH s w g hS) : ∀ n : Nat, ∀ (h : Hp) (l1 : Int32), bgS w g hS h → 8 * (s : Int) ≤ l1.toInt → l1.toInt ≤ 8 * s + 8 → (600 : Int) < n → (600 : Int) + (17 - l1.toInt) < n → Ok (W_X12_begins n 121 h l1) (fun q => bgP w g hS q) := by
  obtain ⟨hs, hw2, hg5, h18, h35, h36, hon, c37, c42, c45⟩ := id H
  intro n
  induction n with
  | zero => intro h l1 b a a' c d; exfalso; omega
  | succ n ih =>
    intro h l1 b a a' c d
    obtain ⟨i1, i2, i3⟩ := H.lv b.1.1
    have e (x k : Nat) (hx : x ≠ 263) : hi h x k = hi hS x k := b.1.1 x k hx
    have n1 := ncT (show 0 ≤ l1.toInt by omega)
    have f0 := lit_0
    have f8 := lit_8
    have f1 := lit_1
    rw [u_X12_begins]
    refine Ok.neg (by decide) (Ok.neg (by decide) (Ok.pos rfl ?_))
    refine Ok.pos i1 ?_
    rw [i2, e 245 s (by decide)]
    have a1 := mlT 8 (hi h 226 18) 8 lit_8 (by omega) (by omega)
    have a2 := adT (8 * hi h 226 18) (hi hS 245 s) (by omega) (by omega)
    refine Ok.le (fun c1 => bg178 H n h 0 b (by omega) (by omega) (by omega)) (fun c1 => ?_)
    have im : ixOK l1 16 = true := ixT (by omega) (by omega)
    have a4 := adT l1 1 (by omega) (by omega)
    refine Ok.pos im (Ok.pos im ?_)
    have ca (x y : Int32) : Ok (F_X12_cellAt n h x y) (fun q => q.2 = h) := by
      unfold F_X12_cellAt
      exact Ok.pos i1 (Ok.ret rfl)
    refine Ok.bind (ca _ _) (fun q hq => ?_)
    rw [hq]
    exact ih _ (l1 + 1) (bg_one b (by decide) (fun q => absurd q (by decide))) (by omega) (by omega) (by omega) (by omega)
end BG
end
section
/-! READING: begins, the rest -/
section BH
variable {s w g : Nat} {hS : Hp}
set_option maxHeartbeats 4000000 in
theorem bg29 (H : bgH s w g hS) : ∀ n : Nat, ∀ (h : Hp) (l1 : Int32), bgS w g hS h → 8 * (s : Int) ≤ l1.toInt → l1.toInt ≤ 8 * s + 8 → (700 : Int) < n → (700 : Int) + (17 - l1.toInt) < n → Ok (W_X12_begins n 29 h l1) (fun q => bgP w g hS q) := by
  obtain ⟨hs, hw2, hg5, h18, h35, h36, hon, c37, c42, c45⟩ := id H
  have w25 : w * g ≤ 5 * 5 := Nat.mul_le_mul hw2.2 hg5.2
  intro n
  induction n with
  | zero => intro h l1 b a a' c d; exfalso; omega
  | succ n ih =>
    intro h l1 b a a' c d
    obtain ⟨i1, i2, i3⟩ := H.lv b.1.1
    have e (x k : Nat) (hx : x ≠ 263) : hi h x k = hi hS x k := b.1.1 x k hx
    have n1 := ncT (show 0 ≤ l1.toInt by omega)
    have f0 := lit_0
    have f8 := lit_8
    have f1 := lit_1
    have f25 := lit_25
    rw [u_X12_begins]
    refine Ok.neg (by decide) (Ok.pos rfl ?_)
    refine Ok.pos i1 ?_
    rw [i2, e 237 s (by decide)]
    have a1 := mlT 8 (hi h 226 18) 8 lit_8 (by omega) (by omega)
    have a2 := adT (8 * hi h 226 18) (hi hS 237 s) (by omega) (by omega)
    refine Ok.le (fun c1 => bg121 H n h (8 * hi h 226 18) b (by omega) (by omega) (by omega) (by omega)) (fun c1 => ?_)
    have im : ixOK l1 16 = true := ixT (by omega) (by omega)
    have a4 := adT l1 1 (by omega) (by omega)
    obtain ⟨k, hk⟩ : ∃ k : Nat, Int32.toNatClampNeg l1 = 8 * s + k := ⟨Int32.toNatClampNeg l1 - 8 * s, by omega⟩
    have o := hon.1 k (by omega)
    rw [← hk] at o
    refine Ok.pos im (Ok.pos im ?_)
    refine Ok.bind (sr_cellAt (w := w) (g := g) hw2.2 hg5.2 (by omega) (by omega) (by rw [i2, e 235 s (by decide)]; exact h35) (by rw [e 238 _ (by decide)]; exact o.1.1) (by rw [e 238 _ (by decide)]; exact o.1.2) (by rw [e 239 _ (by decide)]; exact o.2.1.1) (by rw [e 239 _ (by decide)]; exact o.2.1.2)) (fun q7 hq7 => ?_)
    obtain ⟨e7, cc, k1, k2, k3⟩ := hq7
    rw [e7]
    have nc := ncT (show 0 ≤ q7.1.toInt by omega)
    have ec : Int32.toNatClampNeg q7.1 = cc := by omega
    refine Ok.pos im ?_
    refine Ok.chk (ixT (by omega) (by omega)) (fun c2 => ?_)
    refine Ok.pos im (Ok.pos im ?_)
    rw [ec]
    generalize eg : wrI h 263 cc (hi h 240 (Int32.toNatClampNeg l1)) = g1
    have e' (x z : Nat) (hx : x ≠ 263) : hi g1 x z = hi hS x z := (hiA eg x z hx).trans (e x z hx)
    obtain ⟨j1, j2, j3⟩ := H.lv e'
    refine Ok.bind (sr_cellAt (w := w) (g := g) hw2.2 hg5.2 (by omega) (by omega) (by rw [j2, e' 235 s (by decide)]; exact h35) (by rw [e' 238 _ (by decide)]; exact o.1.1) (by rw [e' 238 _ (by decide)]; exact o.1.2) (by rw [e' 239 _ (by decide)]; exact o.2.1.1) (by rw [e' 239 _ (by decide)]; exact o.2.1.2)) (fun q13 hq13 => ?_)
    obtain ⟨e13, cd, m1, m2, m3⟩ := hq13
    rw [e13]
    have ecd : cd = cc := by
      rw [e' 239 _ (by decide), e' 238 _ (by decide)] at m3
      rw [e 239 _ (by decide), e 238 _ (by decide)] at k3
      omega
    have a5 := adT 25 q13.1 (by omega) (by omega)
    have n25 := ncT (show 0 ≤ (25 + q13.1 : Int32).toInt by omega)
    refine Ok.pos im ?_
    refine Ok.chk (ixT (by omega) (by omega)) (fun c3 => ?_)
    rw [show Int32.toNatClampNeg (25 + q13.1) = 25 + cc by omega, e' 241 _ (by decide), ← eg]
    exact ih _ (l1 + 1) (bg_tune (by omega) b k2 (by rw [e 240 _ (by decide)]; exact o.2.2.1.1) (by rw [e 240 _ (by decide)]; exact o.2.2.1.2) o.2.2.2.1 (by rw [e 240 _ (by decide)]; exact o.2.2.2.2)) (by omega) (by omega) (by omega) (by omega)
theorem bg2 (H : bgH s w g hS) : ∀ n : Nat, ∀ (h : Hp) (l1 : Int32), (∀ a k, a ≠ 263 → hi h a k = hi hS a k) → (∀ a k, hl h a k = hl hS a k) → 0 ≤ l1.toInt → (∀ k : Nat, (k : Int) < l1.toInt → (hi h 263 k).toInt = 0) → (800 : Int) < n → (800 : Int) + (64 - l1.toInt) < n → Ok (W_X12_begins n 2 h l1) (fun q => bgP w g hS q) := by
  obtain ⟨hs, hw2, hg5, h18, h35, h36, hon, c37, c42, c45⟩ := id H
  have wg0 : 0 < w * g := Nat.mul_pos (by omega) (by omega)
  intro n
  induction n with
  | zero => intro h l1 b l a z c d; exfalso; omega
  | succ n ih =>
    intro h l1 b l a z c d
    obtain ⟨i1, i2, i3⟩ := H.lv b
    have n1 := ncT a
    have f0 := lit_0
    have f63 := lit_63
    have f8 := lit_8
    have f1 := lit_1
    rw [u_X12_begins]
    refine Ok.pos rfl ?_
    refine Ok.le (fun c1 => ?_) (fun c1 => ?_)
    · have a1 := mlT 8 (hi h 226 18) 8 lit_8 (by omega) (by omega)
      refine bg29 H n h (8 * hi h 226 18) ⟨⟨b, l⟩, ⟨fun k hk => ?_, fun k h1 h2 => ?_⟩, fun k hk h1 => ?_⟩ (by omega) (by omega) (by omega) (by omega)
      · rw [z k (by omega)]; omega
      · rw [z k (by omega)]; omega
      · rw [z k (by omega)] at h1; omega
    · refine Ok.chk (ixT (by omega) (by omega)) (fun c2 => ?_)
      have a4 := adT l1 1 (by omega) (by omega)
      refine ih _ (l1 + 1) (fun x k q => ?_) (fun x k => l x k) (by omega) (fun k hk => ?_) (by omega) (by omega)
      · rw [hi_wrI, if_neg (fun w => q w.1)]
        exact b x k q
      · rw [hi_wrI]
        by_cases q : k = Int32.toNatClampNeg l1
        · rw [if_pos ⟨rfl, q⟩]; exact f0
        · rw [if_neg (fun w => q w.2)]
          exact z k (by omega)
theorem sf_X12_begins {n : Nat} (hn : 1000 ≤ n) (H : bgH s w g hS) : Ok (F_X12_begins n hS) (fun q => bgP w g hS q) := by
  have f0 := lit_0
  unfold F_X12_begins
  exact bg2 H n hS 0 (fun _ _ _ => rfl) (fun _ _ => rfl) (by omega) (fun k hk => by omega) (by omega) (by omega)
end BH
end
section
/-! READING: is anything beyond the lawn -/
section BY
variable {s : Nat} {h : Hp}
def sdH (s : Nat) (h : Hp) : Prop := s ≤ 1 ∧ (hi h 226 19).toInt = (s : Int) ∧ cnB s h
theorem sdH.ix (H : sdH s h) : ixOK (hi h 226 19) 2 = true ∧ Int32.toNatClampNeg (hi h 226 19) = s := by
  have a := H.1
  have b := H.2.1
  have c := ncT (show 0 ≤ (hi h 226 19).toInt by omega)
  exact ⟨ixT (by omega) (by omega), by omega⟩
def offT (s : Nat) (h : Hp) (m : Int) : Prop := ∀ k : Nat, (k : Int) < m → (hi h 238 (8 * s + k)).toInt < (hi h 235 s).toInt ∧ (hi h 239 (8 * s + k)).toInt < (hi h 236 s).toInt
def offG (s : Nat) (h : Hp) (m : Int) : Prop := ∀ k : Nat, (k : Int) < m → (hi h 243 (5 * s + k)).toInt < (hi h 235 s).toInt ∧ (hi h 244 (5 * s + k)).toInt < (hi h 236 s).toInt
def byP (s : Nat) (h : Hp) (q : Int32 × Hp) : Prop := q.2 = h ∧ (q.1.toInt = 0 → offT s h (hi h 237 s).toInt ∧ offG s h (hi h 242 s).toInt)
theorem sr_isOff {n : Nat} {x y : Int32} (H : sdH s h) : Ok (F_X12_isOff n h x y) (fun q => q.2 = h ∧ (q.1.toInt = 0 → x.toInt < (hi h 235 s).toInt ∧ y.toInt < (hi h 236 s).toInt)) := by
  obtain ⟨i1, i2⟩ := H.ix
  have n1 : ¬ (1 : Int32).toInt = 0 := by decide
  unfold F_X12_isOff
  refine Ok.pos i1 ?_
  rw [i2]
  refine Ok.le (fun _ => Ok.ret ⟨rfl, fun q => absurd q n1⟩) (fun c1 => ?_)
  refine Ok.pos i1 ?_
  exact Ok.lt (fun c2 => Ok.ret ⟨rfl, fun _ => ⟨c1, c2⟩⟩) (fun _ => Ok.ret ⟨rfl, fun q => absurd q n1⟩)
theorem one_by {s : Nat} {h : Hp} : byP s h (1, h) := ⟨rfl, fun q => absurd q (show ¬ (1 : Int32).toInt = 0 by decide)⟩
set_option maxHeartbeats 4000000 in
theorem by119 (H : sdH s h) (ot : offT s h (hi h 237 s).toInt) : ∀ n : Nat, (∀ l1 : Int32, 5 * (s : Int) ≤ l1.toInt → l1.toInt ≤ 5 * s + 5 → offG s h (l1.toInt - 5 * s) → (10 : Int) + 40 * (11 - l1.toInt) < n → Ok (W_X12_isBeyond n 119 h l1 0) (byP s h)) ∧ (∀ l1 l2 : Int32, 5 * (s : Int) ≤ l1.toInt → l1.toInt < 5 * s + 5 → offG s h (l1.toInt + 1 - 5 * s) → 8 * (s : Int) ≤ l2.toInt → l2.toInt ≤ 8 * s + 8 → (10 : Int) + 40 * (11 - l1.toInt) - 1 - l2.toInt < n → Ok (W_X12_isBeyond n 168 h l1 l2) (byP s h)) := by
  obtain ⟨i1, i2⟩ := H.ix
  obtain ⟨hs, h19, c37, c42, c20, c45⟩ := H
  have H : sdH s h := ⟨hs, h19, c37, c42, c20, c45⟩
  have f5 := lit_5
  have f8 := lit_8
  have f1 := lit_1
  have f0 := lit_0
  have a5 := mlT 5 (hi h 226 19) 5 lit_5 (by omega) (by omega)
  have b5 := adT (5 * hi h 226 19) (hi h 242 s) (by omega) (by omega)
  have a8 := mlT 8 (hi h 226 19) 8 lit_8 (by omega) (by omega)
  have b8 := adT (8 * hi h 226 19) (hi h 245 s) (by omega) (by omega)
  intro n
  induction n with
  | zero => exact ⟨by intro l1 a b c d; exfalso; omega, by intro l1 l2 a b c d e f; exfalso; omega⟩
  | succ n ih =>
    refine ⟨?_, ?_⟩
    · intro l1 a b c d
      have n1 := ncT (show 0 ≤ l1.toInt by omega)
      rw [u_X12_isBeyond]
      refine Ok.neg (by decide) (Ok.neg (by decide) (Ok.pos rfl ?_))
      refine Ok.pos i1 ?_
      rw [i2]
      refine Ok.le (fun c1 => ?_) (fun c1 => ?_)
      · refine Ok.ret ⟨rfl, fun _ => ⟨ot, fun k hk => c k (by omega)⟩⟩
      · have im : ixOK l1 10 = true := ixT (by omega) (by omega)
        refine Ok.pos im (Ok.pos im ?_)
        refine Ok.bind (sr_isOff H) (fun q hq => ?_)
        rw [hq.1]
        refine Ok.eq (fun c2 => ?_) (fun _ => Ok.ret one_by)
        have y := hq.2 (by omega)
        refine ih.2 l1 (8 * hi h 226 19) a (by omega) (fun k hk => ?_) (by omega) (by omega) (by omega)
        by_cases z : (k : Int) < l1.toInt - 5 * s
        · exact c k z
        · rw [show 5 * s + k = Int32.toNatClampNeg l1 by omega]
          exact y
    · intro l1 l2 a b c d e f
      have n1 := ncT (show 0 ≤ l1.toInt by omega)
      have n2 := ncT (show 0 ≤ l2.toInt by omega)
      have a1 := adT l1 1 (by omega) (by omega)
      have a2 := adT l2 1 (by omega) (by omega)
      rw [u_X12_isBeyond]
      refine Ok.neg (by decide) (Ok.neg (by decide) (Ok.neg (by decide) (Ok.pos rfl ?_)))
      refine Ok.pos i1 ?_
      rw [i2]
      refine Ok.le (fun c1 => ?_) (fun c1 => ?_)
      · exact ih.1 (l1 + 1) (by omega) (by omega) (fun k hk => c k (by omega)) (by omega)
      · have im : ixOK l1 10 = true := ixT (by omega) (by omega)
        have im2 : ixOK l2 16 = true := ixT (by omega) (by omega)
        have go : Ok (W_X12_isBeyond n 168 h l1 (l2 + 1)) (byP s h) := ih.2 l1 (l2 + 1) a b c (by omega) (by omega) (by omega)
        refine Ok.pos im2 (Ok.pos im ?_)
        refine Ok.ite (fun _ => ?_) (fun _ => go)
        refine Ok.pos im2 (Ok.pos im ?_)
        exact Ok.ite (fun _ => Ok.ret one_by) (fun _ => go)
end BY
end
section
/-! READING: is anything beyond the lawn, the rest -/
section BZ
variable {s : Nat} {h : Hp}
theorem by64 (H : sdH s h) (ot : offT s h (hi h 237 s).toInt) : ∀ n : Nat, ∀ l1 : Int32, 8 * (s : Int) ≤ l1.toInt → l1.toInt ≤ 8 * s + 8 → (500 : Int) + (17 - l1.toInt) < n → Ok (W_X12_isBeyond n 64 h l1 0) (byP s h) := by
  obtain ⟨i1, i2⟩ := H.ix
  obtain ⟨hs, h19, c37, c42, c20, c45⟩ := id H
  have f5 := lit_5
  have f8 := lit_8
  have f1 := lit_1
  have f0 := lit_0
  have a5 := mlT 5 (hi h 226 19) 5 lit_5 (by omega) (by omega)
  have a8 := mlT 8 (hi h 226 19) 8 lit_8 (by omega) (by omega)
  have b8 := adT (8 * hi h 226 19) (hi h 245 s) (by omega) (by omega)
  intro n
  induction n with
  | zero => intro l1 a b c; exfalso; omega
  | succ n ih =>
    intro l1 a b c
    have n1 := ncT (show 0 ≤ l1.toInt by omega)
    have a1 := adT l1 1 (by omega) (by omega)
    rw [u_X12_isBeyond]
    refine Ok.neg (by decide) (Ok.pos rfl ?_)
    refine Ok.pos i1 ?_
    rw [i2]
    refine Ok.le (fun c1 => ?_) (fun c1 => ?_)
    · exact (by119 H ot n).1 (5 * hi h 226 19) (by omega) (by omega) (fun k hk => by omega) (by omega)
    · have im : ixOK l1 16 = true := ixT (by omega) (by omega)
      refine Ok.pos im (Ok.pos im ?_)
      refine Ok.bind (sr_isOff H) (fun q hq => ?_)
      rw [hq.1]
      exact Ok.ite (fun _ => ih (l1 + 1) (by omega) (by omega) (by omega)) (fun _ => Ok.ret one_by)
theorem by8 (H : sdH s h) : ∀ n : Nat, ∀ l1 : Int32, 8 * (s : Int) ≤ l1.toInt → l1.toInt ≤ 8 * s + 8 → offT s h (l1.toInt - 8 * s) → (600 : Int) + (17 - l1.toInt) < n → Ok (W_X12_isBeyond n 8 h l1 0) (byP s h) := by
  obtain ⟨i1, i2⟩ := H.ix
  obtain ⟨hs, h19, c37, c42, c20, c45⟩ := id H
  have f8 := lit_8
  have f1 := lit_1
  have f0 := lit_0
  have a8 := mlT 8 (hi h 226 19) 8 lit_8 (by omega) (by omega)
  have b8 := adT (8 * hi h 226 19) (hi h 237 s) (by omega) (by omega)
  intro n
  induction n with
  | zero => intro l1 a b o c; exfalso; omega
  | succ n ih =>
    intro l1 a b o c
    have n1 := ncT (show 0 ≤ l1.toInt by omega)
    have a1 := adT l1 1 (by omega) (by omega)
    rw [u_X12_isBeyond]
    refine Ok.pos rfl ?_
    refine Ok.pos i1 ?_
    rw [i2]
    refine Ok.le (fun c1 => ?_) (fun c1 => ?_)
    · exact by64 H (fun k hk => o k (by omega)) n (8 * hi h 226 19) (by omega) (by omega) (by omega)
    · have im : ixOK l1 16 = true := ixT (by omega) (by omega)
      refine Ok.pos im (Ok.pos im ?_)
      refine Ok.bind (sr_isOff H) (fun q hq => ?_)
      rw [hq.1]
      refine Ok.eq (fun c2 => ?_) (fun _ => Ok.ret one_by)
      have y := hq.2 (by omega)
      refine ih (l1 + 1) (by omega) (by omega) (fun k hk => ?_) (by omega)
      by_cases z : (k : Int) < l1.toInt - 8 * s
      · exact o k z
      · rw [show 8 * s + k = Int32.toNatClampNeg l1 by omega]
        exact y
theorem sf_X12_isBeyond {n : Nat} (hn : 1000 ≤ n) (H : sdH s h) : Ok (F_X12_isBeyond n h) (byP s h) := by
  obtain ⟨hs, h19, -⟩ := id H
  have f8 := lit_8
  have a8 := mlT 8 (hi h 226 19) 8 lit_8 (by omega) (by omega)
  unfold F_X12_isBeyond
  exact by8 H n (8 * hi h 226 19) (by omega) (by omega) (fun k hk => by omega) (by omega)
end BZ
end
section
/-! READING: a side made plain -/
def plW (s a k : Nat) : Prop := ((a = 235 ∨ a = 236 ∨ a = 237 ∨ a = 242 ∨ a = 245 ∨ a = 248 ∨ a = 249) ∧ k = s) ∨ ((a = 250 ∨ a = 251) ∧ 4 * s ≤ k ∧ k < 4 * s + 4)
def plP (s : Nat) (h q : Hp) : Prop := ((∀ a k, ¬ plW s a k → hi q a k = hi h a k) ∧ (∀ a k, hl q a k = hl h a k)) ∧ (hi q 235 s).toInt = 4 ∧ (hi q 236 s).toInt = 4 ∧ (hi q 237 s).toInt = 0 ∧ (hi q 242 s).toInt = 0 ∧ (hi q 245 s).toInt = 0
def plQ (s : Nat) (h q : Hp) (m : Int) : Prop := plP s h q ∧ ∀ k : Nat, (k : Int) < m → (hi q 250 (4 * s + k)).toInt = (hi q 251 (4 * s + k)).toInt
theorem plN {s a k a0 k0 : Nat} (n : plW s a0 k0) (q : ¬ plW s a k) : ¬ (a = a0 ∧ k = k0) := fun z => q (by rw [z.1, z.2]; exact n)
theorem pl51 {s : Nat} (hs : s ≤ 1) {hS : Hp} {l1 : Int32} (hl : l1.toInt = (s : Int)) : ∀ n : Nat, ∀ (h : Hp) (l2 : Int32), 0 ≤ l2.toInt → l2.toInt ≤ 4 → plQ s hS h l2.toInt → (1 : Int) + (4 - l2.toInt) < n → Ok (W_X12_plain n 51 h l1 l2) (fun q => plQ s hS q 4) := by
  intro n
  induction n with
  | zero => intro h l2 a b p c; exfalso; omega
  | succ n ih =>
    intro h l2 a b p c
    have f4 := lit_4
    have f1 := lit_1
    rw [u_X12_plain]
    refine Ok.pos rfl ?_
    refine Ok.le (fun c1 => ?_) (fun c1 => ?_)
    · refine Ok.ret ?_
      rw [show l2.toInt = 4 by omega] at p
      exact p
    · have a1 := mlT 4 l1 4 lit_4 (by omega) (by omega)
      have a2 := adT (4 * l1) l2 (by omega) (by omega)
      have a3 := adT l2 1 (by omega) (by omega)
      have n1 := ncT (show 0 ≤ (4 * l1 + l2 : Int32).toInt by omega)
      have n2 := ncT a
      have ix : ixOK (4 * l1 + l2) 8 = true := ixT (by omega) (by omega)
      refine Ok.pos ix (Ok.pos ix ?_)
      generalize ek : Int32.toNatClampNeg (4 * l1 + l2) = k at n1
      have hk : k = 4 * s + Int32.toNatClampNeg l2 := by omega
      have nf0 : plW s 250 k := by unfold plW; omega
      have nf1 : plW s 251 k := by unfold plW; omega
      have r (a' k' : Nat) (z1 : ¬ (a' = 250 ∧ k' = k)) (z2 : ¬ (a' = 251 ∧ k' = k)) : hi (wrI (wrI h 250 k 0) 251 k 0) a' k' = hi h a' k' := by
        rw [hi_wrI, if_neg z2, hi_wrI, if_neg z1]
      have r0 : hi (wrI (wrI h 250 k 0) 251 k 0) 250 k = 0 := by rw [hi_wrI, if_neg (by omega), hi_wrI, if_pos ⟨rfl, rfl⟩]
      have r1 : hi (wrI (wrI h 250 k 0) 251 k 0) 251 k = 0 := by rw [hi_wrI, if_pos ⟨rfl, rfl⟩]
      obtain ⟨⟨⟨p1, p2⟩, p3, p4, p5, p6, p7⟩, pk⟩ := p
      refine ih _ (l2 + 1) (by omega) (by omega) ⟨⟨⟨fun a' k' q => ?_, fun a' k' => p2 a' k'⟩, ?_, ?_, ?_, ?_, ?_⟩, fun i il => ?_⟩ (by omega)
      · rw [r a' k' (plN nf0 q) (plN nf1 q)]
        exact p1 a' k' q
      · rw [r 235 s (by omega) (by omega)]; exact p3
      · rw [r 236 s (by omega) (by omega)]; exact p4
      · rw [r 237 s (by omega) (by omega)]; exact p5
      · rw [r 242 s (by omega) (by omega)]; exact p6
      · rw [r 245 s (by omega) (by omega)]; exact p7
      · by_cases z : 4 * s + i = k
        · rw [z, r0, r1]
        · rw [r 250 _ (by omega) (by omega), r 251 _ (by omega) (by omega)]
          exact pk i (by omega)
theorem sf_X12_plain {n : Nat} {s : Nat} (hn : 100 ≤ n) (hs : s ≤ 1) {h : Hp} {x1 : Int32} (hx : x1.toInt = (s : Int)) : Ok (F_X12_plain n h x1) (fun q => plQ s h q 4) := by
  have ix : ixOK x1 2 = true := ixT (by omega) (by omega)
  have n1 := ncT (show 0 ≤ x1.toInt by omega)
  have e1 : Int32.toNatClampNeg x1 = s := by omega
  have f0 := lit_0
  unfold F_X12_plain
  refine Ok.pos ix (Ok.pos ix (Ok.pos ix (Ok.pos ix (Ok.pos ix (Ok.pos ix (Ok.pos ix ?_))))))
  rw [e1]
  have w (a0 : Nat) (m : a0 = 235 ∨ a0 = 236 ∨ a0 = 237 ∨ a0 = 242 ∨ a0 = 245 ∨ a0 = 248 ∨ a0 = 249) : plW s a0 s := by unfold plW; omega
  refine pl51 hs hx n _ 0 (by omega) (by omega) ⟨⟨⟨fun a k q => ?_, fun a k => rfl⟩, ?_, ?_, ?_, ?_, ?_⟩, fun i il => by omega⟩ (by omega)
  · rw [hi_wrI, if_neg (plN (w 249 (by decide)) q), hi_wrI, if_neg (plN (w 248 (by decide)) q), hi_wrI, if_neg (plN (w 245 (by decide)) q), hi_wrI, if_neg (plN (w 242 (by decide)) q), hi_wrI, if_neg (plN (w 237 (by decide)) q), hi_wrI, if_neg (plN (w 236 (by decide)) q), hi_wrI, if_neg (plN (w 235 (by decide)) q)]
  · rw [hi_wrI, if_neg (by omega), hi_wrI, if_neg (by omega), hi_wrI, if_neg (by omega), hi_wrI, if_neg (by omega), hi_wrI, if_neg (by omega), hi_wrI, if_neg (by omega), hi_wrI, if_pos ⟨rfl, rfl⟩]; exact lit_4
  · rw [hi_wrI, if_neg (by omega), hi_wrI, if_neg (by omega), hi_wrI, if_neg (by omega), hi_wrI, if_neg (by omega), hi_wrI, if_neg (by omega), hi_wrI, if_pos ⟨rfl, rfl⟩]; exact lit_4
  · rw [hi_wrI, if_neg (by omega), hi_wrI, if_neg (by omega), hi_wrI, if_neg (by omega), hi_wrI, if_neg (by omega), hi_wrI, if_pos ⟨rfl, rfl⟩]; exact lit_0
  · rw [hi_wrI, if_neg (by omega), hi_wrI, if_neg (by omega), hi_wrI, if_neg (by omega), hi_wrI, if_pos ⟨rfl, rfl⟩]; exact lit_0
  · rw [hi_wrI, if_neg (by omega), hi_wrI, if_neg (by omega), hi_wrI, if_pos ⟨rfl, rfl⟩]; exact lit_0
end
section
/-! READING: what goes on if the text is refused -/
theorem oi_cw {f fi g gi : Nat → Int32} {x y : Int32} (A B : Int) (hx : A ≤ x.toInt) (hy : y.toInt ≤ B) (c1 : ∀ i : Nat, A ≤ i → (i : Int) < B → g i = f i) (c2 : ∀ i : Nat, A ≤ i → (i : Int) < B → gi i = fi i) (o : oiO f fi x y) : oiO g gi x y := by
  have n1 := ncT o.1
  have n2 := ncT o.2.1
  exact ⟨o.1, o.2.1, oc_cg (fun i a b => c1 i (by omega) (by omega)) (fun i a b => c2 i (by omega) (by omega)) o.2.2⟩
theorem ob_fr {L : Int} {h q : Hp} {b : Nat} (f : ∀ a, 252 ≤ a → a ≤ 256 → hi q a b = hi h a b) (g : ∀ a (k : Nat), (a = 257 ∨ a = 258) → 420 * L ≤ k → (k : Int) < 420 * L + 420 → hi q a k = hi h a k) (o : obO L h b) : obO L q b := by
  obtain ⟨o1, o2, o3, o4, o5⟩ := o
  have g7 (i : Nat) (h1 : 420 * L ≤ i) (h2 : (i : Int) < 420 * L + 420) : hi q 257 i = hi h 257 i := g 257 i (Or.inl rfl) h1 h2
  have g8 (i : Nat) (h1 : 420 * L ≤ i) (h2 : (i : Int) < 420 * L + 420) : hi q 258 i = hi h 258 i := g 258 i (Or.inr rfl) h1 h2
  unfold obO
  rw [f 252 (by decide) (by decide), f 253 (by decide) (by decide), f 254 (by decide) (by decide), f 255 (by decide) (by decide), f 256 (by decide) (by decide)]
  have t3 := oi_le o2
  refine ⟨fun z => ?_, oi_cw (420 * L) (420 * L + 420) o3 o5 g7 g8 o2, o3, o4, o5⟩
  have t1 := oi_le (o1 z).1
  have t2 := oi_le (o1 z).2
  have t0 := o4 z
  exact ⟨oi_cw (420 * L) (420 * L + 420) t0 (by omega) g7 g8 (o1 z).1, oi_cw (420 * L) (420 * L + 420) (by omega) (by omega) g7 g8 (o1 z).2⟩
theorem dI.fr {hS q : Hp} {L : Int} (hL : (hi hS 226 18).toInt = L) (fr : ∀ a k, 226 ≤ a → ¬ (227 ≤ a ∧ a ≤ 231) → frB L a k → hi q a k = hi hS a k) (t0 : 0 ≤ (hi q 226 2).toInt ∧ (hi q 226 2).toInt ≤ 2000) (d : dI hS) : dI q := by
  obtain ⟨⟨s1, s2, s3, s4, s5, s6, s7, s8, s9, s10⟩, d2, d3, d4, d5, d6, d7⟩ := d
  have b0 (k : Nat) (m : k = 18 ∨ k = 59 ∨ k = 65) : hi q 226 k = hi hS 226 k := fr 226 k (by decide) (by decide) (by unfold frB; omega)
  have e18 := b0 18 (by decide)
  have e59 := b0 59 (by decide)
  have e65 := b0 65 (by decide)
  have hh (a k : Nat) (m : 260 ≤ a) : hi q a k = hi hS a k := fr a k (by omega) (by omega) (by unfold frB; omega)
  have hr (a : Nat) (m : 260 ≤ a) : hi q a = hi hS a := funext fun k => hh a k m
  have n18 := ncT s1.1
  have c3 (a : Nat) (m : a = 235 ∨ a = 236 ∨ a = 242) : hi q a (Int32.toNatClampNeg (hi hS 226 18)) = hi hS a (Int32.toNatClampNeg (hi hS 226 18)) := fr a _ (by omega) (by omega) (by unfold frB; omega)
  have ew : wdN q = wdN hS := by
    unfold wdN
    rw [e18, c3 235 (by decide)]
  have eh : hgN q = hgN hS := by
    unfold hgN
    rw [e18, c3 236 (by decide)]
  have eg : gnN q = gnN hS := by
    unfold gnN
    rw [e18, c3 242 (by decide)]
  have ec : cnN q = cnN hS := by
    unfold cnN
    rw [ew, eh]
  have r5 : sdO q := by
    intro c k hc hk
    rw [ew, eh, hh 264 _ (by decide)]
    rw [ec] at hc
    exact s5 c k hc hk
  have r6 : lwsO q := by
    intro i h1 h2
    rw [e18] at h1 h2 ⊢
    rw [hL] at h1 h2 ⊢
    have o := s6 i (by rw [hL]; exact h1) (by rw [hL]; exact h2)
    rw [hL] at o
    have p0 : hi q 250 i = hi hS 250 i := fr 250 i (by decide) (by decide) (by unfold frB; omega)
    have p1 : hi q 251 i = hi hS 251 i := fr 251 i (by decide) (by decide) (by unfold frB; omega)
    unfold olO at o ⊢
    rw [p0, p1]
    rcases o with z | ⟨z1, z2, z3⟩
    · exact Or.inl z
    · refine Or.inr ⟨z1, z2, fun b b1 b2 => ob_fr (fun a m1 m2 => fr a b (by omega) (by omega) (by unfold frB; omega)) (fun a k m1 m2 m3 => fr a k (by omega) (by omega) (by unfold frB; omega)) (z3 b b1 b2)⟩
  refine ⟨⟨by rw [e18]; exact s1, by rw [ew]; exact s2, by rw [eh]; exact s3, by rw [eg]; exact s4, r5, r6, by rw [ec, hr 262 (by decide)]; exact s7, by rw [hr 262 (by decide)]; exact s8, by rw [e65]; exact s9, by rw [e59]; exact s10⟩, t0, by rw [ec, hr 263 (by decide)]; exact d3, by rw [hr 263 (by decide)]; exact d4, ?_, ?_, ?_⟩
  · intro k
    rw [hh 265 k (by decide)]
    exact d5 k
  · rw [ec]
    exact hsO.cg e59 (fun k => hh 266 k (by decide)) d6
  · rw [ec]
    exact hdO.cg (fun k => hh 273 k (by decide)) (fun k => hh 274 k (by decide)) d7
end
section
/-! READING: refused, or told -/
def rdC (s : Nat) (hS hC : Hp) : Prop := (∀ a k, ¬ (227 ≤ a ∧ a ≤ 231) → frB (1 - s) a k → hi hC a k = hi hS a k) ∧ (∀ a k, (a < 226 ∨ a = 233) → hl hC a k = hl hS a k) ∧ ∀ k, 0 ≤ (hi hC 229 k).toInt
def rdP (hS : Hp) (q : Int32 × Hp) : Prop := dI q.2 ∧ kX hS q.2 ∧ (hi q.2 226 2).toInt = 0 ∧ (∀ k, hl q.2 233 k = hl hS 233 k) ∧ ∀ k, 0 ≤ (hi q.2 229 k).toInt
section RD
variable {s : Nat} {hS hC x : Hp}
theorem rd_x (c : rdC s hS hC) (j : jR s hC x) : rdC s hS x := by
  refine ⟨fun a k n q => (j.1.1.1 a k q).trans (c.1 a k n q), fun a k n => (j.1.1.2 a k (by omega)).trans (c.2.1 a k n), fun k => ?_⟩
  rw [j.1.1.1 229 k (by unfold frB; omega)]
  exact c.2.2 k
theorem rd_bad (d : dI hS) (hv : (hi hS 226 18).toInt = 1 - s) (c : rdC s hS hC) (j : jR s hC x) {p v : Int32} : rdP hS (v, wrI x 226 17 p) := by
  have c' := rd_x c j
  have r (a k : Nat) (n : ¬ (a = 226 ∧ k = 17)) : hi (wrI x 226 17 p) a k = hi x a k := by rw [hi_wrI, if_neg n]
  have e2 : (hi (wrI x 226 17 p) 226 2).toInt = 0 := by rw [r 226 2 (by decide)]; exact j.1.2.1.1
  show dI (wrI x 226 17 p) ∧ kX hS (wrI x 226 17 p) ∧ (hi (wrI x 226 17 p) 226 2).toInt = 0 ∧ (∀ k, hl (wrI x 226 17 p) 233 k = hl hS 233 k) ∧ ∀ k, 0 ≤ (hi (wrI x 226 17 p) 229 k).toInt
  refine ⟨d.fr hv (fun a k _ n q => ?_) (by omega), fun a k n => ⟨?_, c'.2.1 a k (Or.inl n)⟩, e2, fun k => c'.2.1 233 k (Or.inr rfl), fun k => ?_⟩
  · show hi (wrI x 226 17 p) a k = _
    rw [r a k (by unfold frB at q; omega)]
    exact c'.1 a k n q
  · show hi (wrI x 226 17 p) a k = _
    rw [r a k (by omega)]
    exact c'.1 a k (by omega) (by unfold frB; omega)
  · show 0 ≤ (hi (wrI x 226 17 p) 229 k).toInt
    rw [r 229 k (by omega)]
    exact c'.2.2 k
theorem rd_243 {g3 : Hp} {P : Int32 × Hp → Prop} (kk : ∀ q : Hp, (∀ a k, a ≠ 273 → hi q a k = hi g3 a k) → (∀ a k, hl q a k = hl g3 a k) → (∀ k, k < 3 → hi q 273 k = 0) → P (0, q)) : ∀ n : Nat, ∀ (h : Hp) (l1 : Int32), 0 ≤ l1.toInt → (∀ a k, a ≠ 273 → hi h a k = hi g3 a k) → (∀ a k, hl h a k = hl g3 a k) → (∀ k : Nat, (k : Int) < l1.toInt → hi h 273 k = 0) → (1 : Int) < n → (1 : Int) + (3 - l1.toInt) < n → Ok (W_X12_read n 243 h l1) P := by
  intro n
  induction n with
  | zero => intro h l1 a b c z e f; exfalso; omega
  | succ n ih =>
    intro h l1 a b c z e f
    have f3 := lit_3
    have f1 := lit_1
    have n1 := ncT a
    rw [u_X12_read]
    refine Ok.neg (by decide) (Ok.neg (by decide) (Ok.pos rfl ?_))
    refine Ok.le (fun c1 => Ok.ret (kk h b c (fun k hk => z k (by omega)))) (fun c1 => ?_)
    refine Ok.chk (ixT (by omega) (by omega)) (fun c2 => ?_)
    have a1 := adT l1 1 (by omega) (by omega)
    refine ih _ (l1 + 1) (by omega) (fun a' k' q => ?_) (fun a' k' => c a' k') (fun k hk => ?_) (by omega) (by omega)
    · rw [hi_wrI, if_neg (fun w => q w.1)]
      exact b a' k' q
    · rw [hi_wrI]
      by_cases y : k = Int32.toNatClampNeg l1
      · rw [if_pos ⟨rfl, y⟩]
      · rw [if_neg (fun w => y w.2)]
        exact z k (by omega)
theorem rd_bgH (hs : s ≤ 1) (j : jR s hC x) (fz : (hi x 226 13).toInt = 0) (wz : (hi x 226 15).toInt = 0) (ot : offT s x (hi x 237 s).toInt) (og : offG s x (hi x 242 s).toInt) {g2 : Hp} (r : ∀ a k, a ≠ 226 → hi g2 a k = hi x a k) (e18 : hi g2 226 18 = hi x 226 19) : bgH s (hi x 235 s).toInt.toNat (hi x 236 s).toInt.toNat g2 := by
  obtain ⟨v1, v2, v3, v4, v5⟩ := (j.2 fz).2.2.2.2.1 wz
  have cb := j.1.2.2.2.1
  have h19 := j.1.2.1.2
  have rr (a : Nat) (n : a ≠ 226) : hi g2 a = hi x a := funext fun k => r a k n
  unfold bgH onL
  rw [rr 235 (by decide), rr 236 (by decide), rr 237 (by decide), rr 238 (by decide), rr 239 (by decide), rr 240 (by decide), rr 241 (by decide), rr 242 (by decide), rr 243 (by decide), rr 244 (by decide), rr 245 (by decide), e18]
  refine ⟨hs, by omega, by omega, h19, by omega, by omega, ⟨fun k hk => ?_, fun k hk => ?_⟩, cb.1, cb.2.1, cb.2.2.2⟩
  · have a := v3 k hk
    have b := ot k hk
    unfold in4 at a
    omega
  · have a := v4 k hk
    have b := og k hk
    unfold in4 at a
    omega
set_option maxHeartbeats 4000000 in
theorem rd_dI (hs : s ≤ 1) (d : dI hS) (c : rdC s hS hC) (j : jR s hC x) (fz : (hi x 226 13).toInt = 0) (wz : (hi x 226 15).toInt = 0) {q h1 : Hp} {w g : Nat} (hw : (hi x 235 s).toInt = (w : Int)) (hg : (hi x 236 s).toInt = (g : Int)) (r : ∀ a k, a ≠ 226 → a ≠ 262 → a ≠ 263 → a ≠ 264 → a ≠ 273 → hi q a k = hi x a k) (rl : ∀ a k, hl q a k = hl x a k) (e2 : hi q 226 2 = hi x 226 2) (e18 : hi q 226 18 = hi x 226 19) (e59 : hi q 226 59 = 0) (e65 : hi q 226 65 = 0) (e62 : ∀ k, k < 63 → hi q 262 k = hi h1 263 k) (e63 : ∀ k, k < 63 → hi q 263 k = hi h1 263 k) (rw1 : rwO ((w * g : Nat) : Int) (hi h1 263)) (ov1 : ovO (hi h1 263)) (e64 : ∀ m, m < w * g → ∀ k, k < 5 → (hi q 264 (5 * m + k)).toInt = ((sdv w g m k : Nat) : Int)) (e73 : ∀ k, k < 3 → hi q 273 k = 0) {v : Int32} : rdP hS (v, q) := by
  obtain ⟨v1, v2, -⟩ := (j.2 fz).2.2.2.2.1 wz
  have lw := (j.2 fz).2.2.2.2.2
  have c' := rd_x c j
  have cb := j.1.2.2.2.1
  have br := j.1.2.2.2.2.2
  have f0 := lit_0
  have i18 : (hi q 226 18).toInt = (s : Int) := by rw [e18]; exact j.1.2.1.2
  have n18 := ncT (show 0 ≤ (hi q 226 18).toInt by omega)
  have k18 : Int32.toNatClampNeg (hi q 226 18) = s := by omega
  have i2 : (hi q 226 2).toInt = 0 := by rw [e2]; exact j.1.2.1.1
  have i59 : (hi q 226 59).toInt = 0 := by rw [e59]; exact f0
  have i65 : (hi q 226 65).toInt = 0 := by rw [e65]; exact f0
  have ew : wdN q = (w : Int) := by
    unfold wdN
    rw [k18, r 235 s (by decide) (by decide) (by decide) (by decide) (by decide)]
    exact hw
  have eh : hgN q = (g : Int) := by
    unfold hgN
    rw [k18, r 236 s (by decide) (by decide) (by decide) (by decide) (by decide)]
    exact hg
  have eg : gnN q = (hi x 242 s).toInt := by
    unfold gnN
    rw [k18, r 242 s (by decide) (by decide) (by decide) (by decide) (by decide)]
  have ec : cnN q = ((w * g : Nat) : Int) := by
    unfold cnN
    rw [ew, eh, Int.natCast_mul]
  have r5 : sdO q := by
    intro m k hm hk
    rw [ew, eh, Int.toNat_natCast, Int.toNat_natCast]
    rw [ec] at hm
    exact e64 m (by omega) k hk
  have r6 : lwsO q := by
    intro i h1 h2
    rw [i18] at h1 h2 ⊢
    have o := lw i (by omega) (by omega)
    unfold olO
    rw [r 250 i (by decide) (by decide) (by decide) (by decide) (by decide), r 251 i (by decide) (by decide) (by decide) (by decide) (by decide)]
    rcases o with z | ⟨z1, z2, z3⟩
    · exact Or.inl z
    · exact Or.inr ⟨z1, by omega, fun b b1 b2 => (z3 b b1 b2).1.cg (fun a k m1 m2 => r a k (by omega) (by omega) (by omega) (by omega) (by omega))⟩
  have w2 : rwO (cnN q) (hi q 262) := by rw [ec]; exact rw1.cg e62
  have w3 : rwO (cnN q) (hi q 263) := by rw [ec]; exact rw1.cg e63
  show dI q ∧ kX hS q ∧ (hi q 226 2).toInt = 0 ∧ (∀ k, hl q 233 k = hl hS 233 k) ∧ ∀ k, 0 ≤ (hi q 229 k).toInt
  refine ⟨⟨⟨by omega, by omega, by omega, by rw [eg]; exact cb.2.1, r5, r6, w2, ov1.cg e62, by omega, by omega⟩, by omega, w3, ov1.cg e63, fun k => ?_, fun u hu => ?_, fun u hu hx => ?_⟩, fun a k n => ⟨?_, (rl a k).trans (c'.2.1 a k (Or.inl n))⟩, i2, fun k => (rl 233 k).trans (c'.2.1 233 k (Or.inr rfl)), fun k => ?_⟩
  · show -1 ≤ (hi q 265 k).toInt ∧ (hi q 265 k).toInt < 25
    rw [r 265 k (by decide) (by decide) (by decide) (by decide) (by decide), c'.1 265 k (by decide) (by unfold frB; omega)]
    exact d.2.2.2.2.1 k
  · exfalso; omega
  · rw [e73 u hu] at hx
    exact absurd (show (vp_nar .boolean (0 : Int32)).toInt = 0 by decide) hx
  · show hi q a k = _
    rw [r a k (by omega) (by omega) (by omega) (by omega) (by omega)]
    exact c'.1 a k (by omega) (by unfold frB; omega)
  · show 0 ≤ (hi q 229 k).toInt
    rw [r 229 k (by decide) (by decide) (by decide) (by decide) (by decide)]
    exact c'.2.2 k
end RD
end
section
/-! READING: the whole of it -/
def rdE (n : Nat) (x : Hp) (p : Int32) : Option (Int32 × Hp) := (if ((hi (wrI x 226 17 p) 226 13) : Int32) ≤ (0 : Int32) then (if ((hi (wrI x 226 17 p) 226 15) : Int32) ≤ (0 : Int32) then ((F_X12_begins n (wrI (wrI x 226 17 p) 226 18 (hi (wrI x 226 17 p) 226 19))).bind (fun q106 => ((F_X12_keepsRow n q106).bind (fun q108 => W_X12_read n 243 (wrI (wrI q108 226 59 0) 226 65 0) 0)))) else some ((hi (wrI x 226 17 p) 226 15), (wrI x 226 17 p))) else some ((hi (wrI x 226 17 p) 226 13), (wrI x 226 17 p)))
def rdT (n : Nat) (x : Hp) : Option (Int32 × Hp) := (if ((hi x 226 13) : Int32) ≤ (0 : Int32) then (if ((hi x 226 15) : Int32) ≤ (0 : Int32) then rdE n x (-1) else rdE n x (hi x 226 16)) else rdE n x (hi x 226 14))
def rdB (n : Nat) (x : Hp) : Option (Int32 × Hp) := ((F_X12_isBeyond n x).bind (fun q99 => (if (q99.1 : Int32) = (0 : Int32) then rdT n q99.2 else ((F_X12_wrong n q99.2 6 (hi q99.2 226 11)).bind (fun q122 => rdT n q122)))))
section RR
variable {s : Nat} {hS hC x : Hp}
theorem rd_E (hs : s ≤ 1) (d : dI hS) (hv : (hi hS 226 18).toInt = 1 - s) (c : rdC s hS hC) (j : jR s hC x) {n : Nat} (hn : 2000 ≤ n) (bz : (hi x 226 13).toInt = 0 → (hi x 226 15).toInt = 0 → offT s x (hi x 237 s).toInt ∧ offG s x (hi x 242 s).toInt) (p : Int32) : Ok (rdE n x p) (rdP hS) := by
  have f0 := lit_0
  have t2 := j.1.2.2.1.2
  have e13 : hi (wrI x 226 17 p) 226 13 = hi x 226 13 := hiK rfl 226 13 (by decide)
  have e15 : hi (wrI x 226 17 p) 226 15 = hi x 226 15 := hiK rfl 226 15 (by decide)
  have e19 : hi (wrI x 226 17 p) 226 19 = hi x 226 19 := hiK rfl 226 19 (by decide)
  unfold rdE
  rw [e13, e15, e19]
  refine Ok.le (fun c1 => ?_) (fun c1 => Ok.ret (rd_bad d hv c j))
  refine Ok.le (fun c2 => ?_) (fun c2 => Ok.ret (rd_bad d hv c j))
  have fz : (hi x 226 13).toInt = 0 := by omega
  have wz : (hi x 226 15).toInt = 0 := by omega
  obtain ⟨ot, og⟩ := bz fz wz
  obtain ⟨v1, v2, -⟩ := (j.2 fz).2.2.2.2.1 wz
  generalize eg1 : wrI x 226 17 p = g1
  generalize eg2 : wrI g1 226 18 (hi x 226 19) = g2
  have r2 (a k : Nat) (n1 : ¬ (a = 226 ∧ (k = 17 ∨ k = 18))) : hi g2 a k = hi x a k := by
    rw [← eg2, hi_wrI, if_neg (by omega), ← eg1, hi_wrI, if_neg (by omega)]
  have H : bgH s (hi x 235 s).toInt.toNat (hi x 236 s).toInt.toNat g2 := rd_bgH hs j fz wz ot og (fun a k n1 => r2 a k (by omega)) (hiE eg2)
  refine Ok.bind (sf_X12_begins (by omega) H) (fun q106 hq106 => ?_)
  obtain ⟨h1, v, hb, hp⟩ := hq106
  refine Ok.bind (sf_X12_keepsRow (by omega)) (fun q108 cp => ?_)
  have r6 (a k : Nat) (n1 : a ≠ 263) (n2 : a ≠ 264) (n3 : ¬ (a = 226 ∧ (k = 55 ∨ k = 56))) : hi q106 a k = hi g2 a k := by
    rw [hp.1.1 a k n2, hi_wrI, if_neg (by omega), hi_wrI, if_neg (by omega)]
    exact hb.1.1 a k n1
  have l6 (a k : Nat) : hl q106 a k = hl x a k := by
    rw [hp.1.2 a k]
    show hl h1 a k = _
    rw [hb.1.2 a k, ← eg2]
    show hl g1 a k = _
    rw [← eg1]
    rfl
  have r8 (a k : Nat) (n0 : a ≠ 262) (n1 : a ≠ 263) (n2 : a ≠ 264) (n3 : ¬ (a = 226 ∧ (k = 55 ∨ k = 56))) : hi q108 a k = hi g2 a k := by
    rw [cp.1.1 a k n0]
    exact r6 a k n1 n2 n3
  have e63 (k : Nat) : hi q106 263 k = hi h1 263 k := by
    rw [hp.1.1 263 k (by decide), hi_wrI, if_neg (by omega), hi_wrI, if_neg (by omega)]
  generalize eg3 : wrI (wrI q108 226 59 0) 226 65 0 = g3
  have r9 (a k : Nat) (n1 : ¬ (a = 226 ∧ (k = 59 ∨ k = 65))) : hi g3 a k = hi q108 a k := by
    rw [← eg3, hi_wrI, if_neg (by omega), hi_wrI, if_neg (by omega)]
  have e59 : hi g3 226 59 = 0 := by
    rw [← eg3, hi_wrI, if_neg (by decide), hi_wrI, if_pos ⟨rfl, rfl⟩]
  have e65 : hi g3 226 65 = 0 := by
    rw [← eg3, hi_wrI, if_pos ⟨rfl, rfl⟩]
  refine rd_243 (g3 := g3) (fun q b1 b2 b3 => ?_) n g3 0 (by omega) (fun _ _ _ => rfl) (fun _ _ => rfl) (fun k hk => by omega) (by omega) (by omega)
  refine rd_dI (h1 := h1) hs d c j fz wz (w := (hi x 235 s).toInt.toNat) (g := (hi x 236 s).toInt.toNat) (by omega) (by omega) (fun a k n1 n2 n3 n4 n5 => ?_) (fun a k => ?_) ?_ ?_ ?_ ?_ (fun k hk => ?_) (fun k hk => ?_) hb.2.1 hb.2.2 (fun m hm k hk => ?_) b3
  · rw [b1 a k n5, r9 a k (by omega), r8 a k n2 n3 n4 (by omega)]
    exact r2 a k (by omega)
  · rw [b2 a k, ← eg3]
    show hl q108 a k = _
    rw [cp.1.2 a k]
    exact l6 a k
  · rw [b1 226 2 (by decide), r9 226 2 (by decide), r8 226 2 (by decide) (by decide) (by decide) (by decide)]
    exact r2 226 2 (by decide)
  · rw [b1 226 18 (by decide), r9 226 18 (by decide), r8 226 18 (by decide) (by decide) (by decide) (by decide)]
    exact hiE eg2
  · rw [b1 226 59 (by decide)]
    exact e59
  · rw [b1 226 65 (by decide)]
    exact e65
  · rw [b1 262 k (by decide), r9 262 k (by omega), cp.2.1 k hk]
    exact e63 k
  · rw [b1 263 k (by decide), r9 263 k (by omega), cp.1.1 263 k (by decide)]
    exact e63 k
  · rw [b1 264 _ (by decide), r9 264 _ (by omega), cp.1.1 264 _ (by decide)]
    exact hp.2 m hm k hk
theorem rd_T (hs : s ≤ 1) (d : dI hS) (hv : (hi hS 226 18).toInt = 1 - s) (c : rdC s hS hC) (j : jR s hC x) {n : Nat} (hn : 2000 ≤ n) (bz : (hi x 226 13).toInt = 0 → (hi x 226 15).toInt = 0 → offT s x (hi x 237 s).toInt ∧ offG s x (hi x 242 s).toInt) : Ok (rdT n x) (rdP hS) := by
  unfold rdT
  exact Ok.le (fun _ => Ok.le (fun _ => rd_E hs d hv c j hn bz _) (fun _ => rd_E hs d hv c j hn bz _)) (fun _ => rd_E hs d hv c j hn bz _)
theorem rd_B (hs : s ≤ 1) (d : dI hS) (hv : (hi hS 226 18).toInt = 1 - s) (c : rdC s hS hC) (j : jR s hC x) {n : Nat} (hn : 2000 ≤ n) (fz : (hi x 226 13).toInt = 0) : Ok (rdB n x) (rdP hS) := by
  have f0 := lit_0
  unfold rdB
  refine Ok.bind (sf_X12_isBeyond (s := s) (by omega) ⟨hs, j.1.2.1.2, j.1.2.2.2.1⟩) (fun q99 hq => ?_)
  obtain ⟨e9, hb⟩ := hq
  rw [e9]
  refine Ok.eq (fun c1 => rd_T hs d hv c j hn (fun _ _ => hb (by omega))) (fun _ => ?_)
  have t := j.1.2.2.1
  refine Ok.bind (sr_wrong t (by decide) t.1.1 t.1.2) (fun q hq => ?_)
  have jq := j.p hq.1
  exact rd_T hs d hv c jq hn (fun z1 z2 => absurd z2 (hq.2.2.2 z1))
theorem rd_112a (hs : s ≤ 1) (d : dI hS) (hv : (hi hS 226 18).toInt = 1 - s) (c : rdC s hS hC) {l1 : Int32} {n : Nat} {h : Hp} (j : jR s hC h) (fz : (hi h 226 13).toInt ≠ 0) (hn : 3000 ≤ n) : Ok (W_X12_read n 112 h l1) (rdP hS) := by
  obtain ⟨m, rfl⟩ : ∃ m, n = m + 1 := ⟨n - 1, by omega⟩
  have f0 := lit_0
  rw [u_X12_read]
  refine Ok.neg (by decide) (Ok.pos rfl ?_)
  refine Ok.eq (fun c1 => by omega) (fun c1 => ?_)
  refine Ok.eq (fun c1 => by omega) (fun c1 => ?_)
  exact rd_T hs d hv c j (by omega) (fun z => absurd z fz)
theorem rd_112 (hs : s ≤ 1) (d : dI hS) (hv : (hi hS 226 18).toInt = 1 - s) (c : rdC s hS hC) {l1 : Int32} : ∀ n : Nat, ∀ h : Hp, jR s hC h → (hi h 226 13).toInt = 0 → (10000 : Int) + (402 - (hi h 226 11).toInt) < n → Ok (W_X12_read n 112 h l1) (rdP hS) := by
  intro n
  induction n with
  | zero =>
    intro h j fz e
    have t := j.1.2.2.1.1
    exfalso; omega
  | succ n ih =>
    intro h j fz e
    have f0 := lit_0
    have t := j.1.2.2.1.1
    rw [u_X12_read]
    refine Ok.neg (by decide) (Ok.pos rfl ?_)
    refine Ok.eq (fun c1 => ?_) (fun c1 => by omega)
    refine Ok.bind (sr_is j.1.2.2.1) (fun q75 hq => ?_)
    obtain ⟨e7, -, -⟩ := hq
    rw [e7]
    refine Ok.ite (fun _ => ?_) (fun _ => ?_)
    · refine Ok.bind (sr_one (by omega) hs j fz ((rd_x c j).2.2 _)) (fun q hq => ?_)
      by_cases z : (hi q 226 13).toInt = 0
      · have t2 := hq.2 z
        exact ih q hq.1 z (by omega)
      · exact rd_112a hs d hv c hq.1 z (by omega)
    · refine Ok.eq (fun c1 => ?_) (fun c1 => by omega)
      exact rd_B hs d hv c j (by omega) fz
end RR
end
section
/-! READING: from the tape to the text, TOKENS, a plain side -/
theorem rd_w6 (q2 : Hp) (v : Int32) : hi (wrI (wrI (wrI (wrI (wrI (wrI q2 226 11 0) 226 12 0) 226 13 0) 226 15 0) 226 19 v) 226 20 0) 226 11 = 0 ∧ hi (wrI (wrI (wrI (wrI (wrI (wrI q2 226 11 0) 226 12 0) 226 13 0) 226 15 0) 226 19 v) 226 20 0) 226 12 = 0 ∧ hi (wrI (wrI (wrI (wrI (wrI (wrI q2 226 11 0) 226 12 0) 226 13 0) 226 15 0) 226 19 v) 226 20 0) 226 13 = 0 ∧ hi (wrI (wrI (wrI (wrI (wrI (wrI q2 226 11 0) 226 12 0) 226 13 0) 226 15 0) 226 19 v) 226 20 0) 226 15 = 0 ∧ hi (wrI (wrI (wrI (wrI (wrI (wrI q2 226 11 0) 226 12 0) 226 13 0) 226 15 0) 226 19 v) 226 20 0) 226 19 = v ∧ hi (wrI (wrI (wrI (wrI (wrI (wrI q2 226 11 0) 226 12 0) 226 13 0) 226 15 0) 226 19 v) 226 20 0) 226 20 = 0 := by
  refine ⟨?_, ?_, ?_, ?_, ?_, ?_⟩
  · rw [hi_wrI, if_neg (by omega), hi_wrI, if_neg (by omega), hi_wrI, if_neg (by omega), hi_wrI, if_neg (by omega), hi_wrI, if_neg (by omega), hi_wrI, if_pos ⟨rfl, rfl⟩]
  · rw [hi_wrI, if_neg (by omega), hi_wrI, if_neg (by omega), hi_wrI, if_neg (by omega), hi_wrI, if_neg (by omega), hi_wrI, if_pos ⟨rfl, rfl⟩]
  · rw [hi_wrI, if_neg (by omega), hi_wrI, if_neg (by omega), hi_wrI, if_neg (by omega), hi_wrI, if_pos ⟨rfl, rfl⟩]
  · rw [hi_wrI, if_neg (by omega), hi_wrI, if_neg (by omega), hi_wrI, if_pos ⟨rfl, rfl⟩]
  · rw [hi_wrI, if_neg (by omega), hi_wrI, if_pos ⟨rfl, rfl⟩]
  · rw [hi_wrI, if_pos ⟨rfl, rfl⟩]
theorem rd_w6n (q2 : Hp) (v : Int32) (a k : Nat) (n : ¬ (a = 226 ∧ (k = 11 ∨ k = 12 ∨ k = 13 ∨ k = 15 ∨ k = 19 ∨ k = 20))) : hi (wrI (wrI (wrI (wrI (wrI (wrI q2 226 11 0) 226 12 0) 226 13 0) 226 15 0) 226 19 v) 226 20 0) a k = hi q2 a k := by
  rw [hi_wrI, if_neg (by omega), hi_wrI, if_neg (by omega), hi_wrI, if_neg (by omega), hi_wrI, if_neg (by omega), hi_wrI, if_neg (by omega), hi_wrI, if_neg (by omega)]
theorem lit_130 : (130 : Int32).toInt = 130 := by decide
theorem lit_420 : (420 : Int32).toInt = 420 := by decide
section RS
variable {hS : Hp}
/-- the heap behind TOKENS and a plain side: what telling begins with -/
theorem rd_begin {s : Nat} (hs : s ≤ 1) {gC q2 g6 q4 : Hp} (c0 : ∀ a k, a ≠ 228 → ¬ (a = 226 ∧ (k = 2 ∨ k = 4)) → hi gC a k = hi hS a k) (cl : ∀ a k, hl gC a k = hl hS a k) (ct : (hi gC 226 2).toInt = 0) (jc : jC gC q2) {v : Int32} (hv : v.toInt = (s : Int)) (e6 : wrI (wrI (wrI (wrI (wrI (wrI q2 226 11 0) 226 12 0) 226 13 0) 226 15 0) 226 19 v) 226 20 0 = g6) (pl : plQ s g6 q4 4) {b c : Int32} (hb : b.toInt = 130 * s) (hc : c.toInt = 420 * s) {hC : Hp} (eC : wrI (wrI q4 226 39 b) 226 45 c = hC) : jR s hC hC ∧ rdC s hS hC := by
  have f0 := lit_0
  obtain ⟨w1, w2, w3, w4, w5, w6⟩ := rd_w6 q2 v
  rw [e6] at w1 w2 w3 w4 w5 w6
  have wn (a k : Nat) (n : ¬ (a = 226 ∧ (k = 11 ∨ k = 12 ∨ k = 13 ∨ k = 15 ∨ k = 19 ∨ k = 20))) : hi g6 a k = hi q2 a k := by
    rw [← e6]; exact rd_w6n q2 v a k n
  obtain ⟨⟨⟨p1, p2⟩, p3, p4, p5, p6, p7⟩, p8⟩ := pl
  have rC (a k : Nat) (n : ¬ (a = 226 ∧ (k = 39 ∨ k = 45))) : hi hC a k = hi q4 a k := by
    rw [← eC, hi_wrI, if_neg (by omega), hi_wrI, if_neg (by omega)]
  have e45 : hi hC 226 45 = c := by rw [← eC, hi_wrI, if_pos ⟨rfl, rfl⟩]
  have e39 : hi hC 226 39 = b := by rw [← eC, hi_wrI, if_neg (by decide), hi_wrI, if_pos ⟨rfl, rfl⟩]
  have rf (k : Nat) (n : ¬ (k = 39 ∨ k = 45)) : hi hC 226 k = hi g6 226 k := by
    rw [rC 226 k (by omega)]; exact p1 226 k (by unfold plW; omega)
  have i2 : (hi hC 226 2).toInt = 0 := by
    rw [rf 2 (by decide), wn 226 2 (by decide), jc.1 226 2 (by decide) (by decide) (by decide) (by decide)]
    exact ct
  have i11 : (hi hC 226 11).toInt = 0 := by rw [rf 11 (by decide), w1]; exact f0
  have i12 : (hi hC 226 12).toInt = 0 := by rw [rf 12 (by decide), w2]; exact f0
  have i13 : (hi hC 226 13).toInt = 0 := by rw [rf 13 (by decide), w3]; exact f0
  have i15 : (hi hC 226 15).toInt = 0 := by rw [rf 15 (by decide), w4]; exact f0
  have i19 : (hi hC 226 19).toInt = (s : Int) := by rw [rf 19 (by decide), w5]; exact hv
  have i20 : (hi hC 226 20).toInt = 0 := by rw [rf 20 (by decide), w6]; exact f0
  have i45 : (hi hC 226 45).toInt = 420 * s := by rw [e45]; exact hc
  have i39 : (hi hC 226 39).toInt = 130 * s := by rw [e39]; exact hb
  have i235 : (hi hC 235 s).toInt = 4 := by rw [rC 235 s (by omega)]; exact p3
  have i236 : (hi hC 236 s).toInt = 4 := by rw [rC 236 s (by omega)]; exact p4
  have i237 : (hi hC 237 s).toInt = 0 := by rw [rC 237 s (by omega)]; exact p5
  have i242 : (hi hC 242 s).toInt = 0 := by rw [rC 242 s (by omega)]; exact p6
  have i245 : (hi hC 245 s).toInt = 0 := by rw [rC 245 s (by omega)]; exact p7
  refine ⟨⟨⟨⟨fun _ _ _ => rfl, fun _ _ _ => rfl⟩, ⟨i2, i19⟩, ?_, ?_, by omega, by omega⟩, fun _ => ⟨i12, by omega, by omega, by omega, fun _ => ?_, fun i h1 h2 => ?_⟩⟩, fun a k n q => ?_, fun a k n => ?_, fun k => ?_⟩
  · unfold tI; omega
  · unfold cnB; omega
  · refine ⟨by omega, by omega, fun k hk => by omega, fun k hk => by omega, fun k hk => by omega⟩
  · refine Or.inl ?_
    rw [rC 250 i (by omega), rC 251 i (by omega)]
    have := p8 (i - 4 * s) (by omega)
    rw [show 4 * s + (i - 4 * s) = i by omega] at this
    exact this
  · have q' := q
    unfold frB at q'
    rw [rC a k (by omega), p1 a k (by unfold plW; omega), wn a k (by omega), jc.1 a k (by omega) (by omega) (by omega) (by omega)]
    exact c0 a k (by omega) (by omega)
  · rw [← eC]
    show hl q4 a k = _
    rw [p2 a k, ← e6]
    show hl q2 a k = _
    rw [jc.2.1 a k (by omega)]
    exact cl a k
  · rw [rC 229 k (by omega), p1 229 k (by unfold plW; omega), wn 229 k (by omega)]
    exact jc.2.2 k
set_option maxHeartbeats 4000000 in
theorem rd_10 (d : dI hS) (kd : ∀ k, 0 ≤ (hi hS 229 k).toInt) {g0 : Hp} (e0 : wrI hS 226 4 (hi hS 226 2) = g0) : ∀ n : Nat, ∀ (h : Hp) (l1 : Int32), 0 ≤ l1.toInt → l1.toInt ≤ 2000 → (∀ a k, a ≠ 228 → hi h a k = hi g0 a k) → (∀ a k, hl h a k = hl g0 a k) → (68719500000 : Int) + (2001 - l1.toInt) < n → Ok (W_X12_read n 10 h l1) (rdP hS) := by
  intro n
  induction n with
  | zero => intro h l1 a a' b c e; exfalso; omega
  | succ n ih =>
    intro h l1 a a' b c e
    have f0 := lit_0
    have f1 := lit_1
    have tp := d.2.1
    have e4 : hi h 226 4 = hi hS 226 2 := (b 226 4 (by decide)).trans (hiE e0)
    rw [u_X12_read]
    refine Ok.pos rfl ?_
    rw [e4]
    refine Ok.le (fun c1 => ?_) (fun c1 => ?_)
    · generalize eC : wrI h 226 2 0 = gC
      have rC (x k : Nat) (n0 : x ≠ 228) (n1 : ¬ (x = 226 ∧ (k = 2 ∨ k = 4))) : hi gC x k = hi hS x k := by
        rw [← eC, hi_wrI, if_neg (by omega), b x k n0, ← e0, hi_wrI, if_neg (by omega)]
      have lC (x k : Nat) : hl gC x k = hl hS x k := by
        rw [← eC]
        show hl h x k = _
        rw [c x k, ← e0]
        rfl
      have z4 : hi gC 226 4 = hi hS 226 2 := (hiK eC 226 4 (by decide)).trans e4
      have z2 : (hi gC 226 2).toInt = 0 := by rw [hiE eC]; exact f0
      refine Ok.bind (sf_X12_cut (h0 := gC) (by rw [z4]; exact tp) n gC (by omega) ⟨fun _ _ _ _ _ _ => rfl, fun _ _ _ => rfl, fun k => by rw [rC 229 k (by decide) (by omega)]; exact kd k⟩) (fun q2 hq2 => ?_)
      obtain ⟨jc, -⟩ := hq2
      have e18 : hi (wrI (wrI (wrI (wrI q2 226 11 0) 226 12 0) 226 13 0) 226 15 0) 226 18 = hi hS 226 18 := by
        rw [hi_wrI, if_neg (by decide), hi_wrI, if_neg (by decide), hi_wrI, if_neg (by decide), hi_wrI, if_neg (by decide), jc.1 226 18 (by decide) (by decide) (by decide) (by decide)]
        exact rC 226 18 (by decide) (by decide)
      rw [e18]
      have l01 := d.1.1
      generalize ev : (1 - hi hS 226 18 : Int32) = v
      have fv := sbG ev lit_1 rfl (by omega) (by omega)
      obtain ⟨s, hs⟩ : ∃ s : Nat, v.toInt = (s : Int) := ⟨v.toInt.toNat, by omega⟩
      have hs1 : s ≤ 1 := by omega
      generalize e6 : wrI (wrI (wrI (wrI (wrI (wrI q2 226 11 0) 226 12 0) 226 13 0) 226 15 0) 226 19 v) 226 20 0 = g6
      have w19 : hi g6 226 19 = v := by rw [← e6]; exact (rd_w6 q2 v).2.2.2.2.1
      rw [w19]
      refine Ok.bind (sf_X12_plain (s := s) (by omega) hs1 hs) (fun q4 pl => ?_)
      have x19 : hi q4 226 19 = v := (pl.1.1.1 226 19 (by unfold plW; omega)).trans w19
      rw [x19]
      have y19 : hi (wrI q4 226 39 (130 * v)) 226 19 = v := (hiK rfl 226 19 (by decide)).trans x19
      rw [y19]
      have m1 := mlT 130 v 130 lit_130 (by omega) (by omega)
      have m2 := mlT 420 v 420 lit_420 (by omega) (by omega)
      generalize eH : wrI (wrI q4 226 39 (130 * v)) 226 45 (420 * v) = hC
      obtain ⟨jr, rc⟩ := rd_begin hs1 rC lC z2 jc hs e6 pl (by omega) (by omega) eH
      have t0 := jr.1.2.2.1.1
      have fz : (hi hC 226 13).toInt = 0 := by
        rw [← eH, hi_wrI, if_neg (by decide), hi_wrI, if_neg (by decide), pl.1.1.1 226 13 (by unfold plW; omega), ← e6, (rd_w6 q2 v).2.2.1]
        exact f0
      exact rd_112 hs1 d (by omega) rc n hC jr fz (by omega)
    · refine Ok.chk (ixT (by omega) (by omega)) (fun c2 => ?_)
      refine Ok.pos c2 ?_
      have a1 := adT l1 1 (by omega) (by omega)
      refine ih _ (l1 + 1) (by omega) (by omega) (fun x k q => ?_) (fun x k => c x k) (by omega)
      rw [hi_wrI, if_neg (fun w => q w.1)]
      exact b x k q
theorem sf_X12_read {n : Nat} (hn : 68719600000 ≤ n) (d : dI hS) (kd : ∀ k, 0 ≤ (hi hS 229 k).toInt) : Ok (F_X12_read n hS) (rdP hS) := by
  have f0 := lit_0
  unfold F_X12_read
  exact rd_10 d kd rfl n _ 0 (by omega) (by omega) (fun _ _ _ => rfl) (fun _ _ => rfl) (by omega)
end RS
end
section
/-! THE TAPE: feed, back, read -/
theorem kM.tr {h0 h1 h2 : Hp} (a : kM h0 h1) (b : kM h1 h2) : kM h0 h2 := fun x k q => ⟨(b x k q).1.trans (a x k q).1, (b x k q).2.trans (a x k q).2⟩
theorem kX.tr {h0 h1 h2 : Hp} (a : kX h0 h1) (b : kX h1 h2) : kX h0 h2 := fun x k q => ⟨(b x k q).1.trans (a x k q).1, (b x k q).2.trans (a x k q).2⟩
theorem kX.rf (h : Hp) : kX h h := fun _ _ _ => ⟨rfl, rfl⟩
theorem tp01 {h0 h h1 : Hp} {v : Int32} (e : wrI h 0 1 v = h1) (ix : IX h) (km : kM h0 h) (r : 0 ≤ v.toInt ∧ v.toInt ≤ 2000) : IX h1 ∧ kM h0 h1 ∧ hi h1 0 1 = v := by
  subst e
  have hu : ∀ q ∈ ckk, q.1 = 0 → q.2.1 = 1 → q = (0, 1, 0, 2000) := by decide
  refine ⟨⟨fun q hq => ?_, fun k => ?_, fun k => ?_⟩, fun a k ha => ?_, ?_⟩
  · rw [hi_wrI]
    by_cases z : q.1 = 0 ∧ q.2.1 = 1
    · rw [if_pos z, hu q hq z.1 z.2]
      exact r
    · rw [if_neg z]
      exact ix.1 q hq
  · rw [hi_wrI, if_neg (by omega)]
    exact ix.2.1 k
  · rw [hi_wrI, if_neg (by omega)]
    exact ix.2.2 k
  · rw [hi_wrI, if_neg (by omega)]
    exact km a k ha
  · rw [hi_wrI, if_pos ⟨rfl, rfl⟩]
theorem tp1 {h0 h h1 : Hp} {k : Nat} {v : Int32} (e : wrI h 1 k v = h1) (ix : IX h) (km : kM h0 h) : IX h1 ∧ kM h0 h1 ∧ hi h1 0 1 = hi h 0 1 := by
  subst e
  have hu : ∀ q ∈ ckk, q.1 ≠ 1 := by decide
  refine ⟨⟨fun q hq => ?_, fun k' => ?_, fun k' => ?_⟩, fun a k' ha => ?_, ?_⟩
  · rw [hi_wrI, if_neg (fun z => hu q hq z.1)]
    exact ix.1 q hq
  · rw [hi_wrI, if_neg (by omega)]
    exact ix.2.1 k'
  · rw [hi_wrI, if_neg (by omega)]
    exact ix.2.2 k'
  · rw [hi_wrI, if_neg (by omega)]
    exact km a k' ha
  · rw [hi_wrI, if_neg (by omega)]
theorem tp02 {h0 h h1 : Hp} {v : Int32} (e : wrI h 0 2 v = h1) (ix : IX h) (km : kM h0 h) : IX h1 ∧ kM h0 h1 ∧ hi h1 0 1 = hi h 0 1 := by
  subst e
  have hu : ∀ q ∈ ckk, q.1 = 0 → q.2.1 = 2 → q = (0, 2, -2147483648, 2147483647) := by decide
  refine ⟨⟨fun q hq => ?_, fun k => ?_, fun k => ?_⟩, fun a k ha => ?_, ?_⟩
  · rw [hi_wrI]
    by_cases z : q.1 = 0 ∧ q.2.1 = 2
    · rw [if_pos z, hu q hq z.1 z.2]
      exact rgT v
    · rw [if_neg z]
      exact ix.1 q hq
  · rw [hi_wrI, if_neg (by omega)]
    exact ix.2.1 k
  · rw [hi_wrI, if_neg (by omega)]
    exact ix.2.2 k
  · rw [hi_wrI, if_neg (by omega)]
    exact km a k ha
  · rw [hi_wrI, if_neg (by omega)]
theorem sxl (v : BitVec 32) : v.signExtend 8 = v.setWidth 8 := BitVec.signExtend_eq_setWidth_of_le v (by decide)
theorem byE (x : BitVec 32) (k : Nat) (hk : k ≤ 24) : (x >>> k).setWidth 8 = (x.sshiftRight k).setWidth 8 := by
  apply BitVec.eq_of_getLsbD_eq
  intro i il
  rw [BitVec.getLsbD_setWidth, BitVec.getLsbD_setWidth, BitVec.getLsbD_ushiftRight, BitVec.getLsbD_sshiftRight]
  have h1 : k + i < 32 := by omega
  have h2 : ¬ 32 ≤ i := by omega
  simp [h1, h2]
/-- a byte laid is the same either way -/
theorem byEq (x l : Int32) (h : l = 24 ∨ l = 16 ∨ l = 8 ∨ l = 0) : ((x.toUInt32 >>> (l.toUInt32 &&& Int32.toUInt32 31)).toInt32).toInt8.toInt32 = (x >>> (l &&& 31)).toInt8.toInt32 := by
  apply congrArg
  apply Int8.toBitVec_inj.mp
  rw [Int32.toBitVec_toInt8, Int32.toBitVec_toInt8, sxl, sxl]
  rcases h with rfl | rfl | rfl | rfl
  · exact byE x.toBitVec 24 (by decide)
  · exact byE x.toBitVec 16 (by decide)
  · exact byE x.toBitVec 8 (by decide)
  · exact byE x.toBitVec 0 (by decide)
/-- what feed and back leave as it was -/
def kF (h q : Hp) : Prop := hi q 0 2 = hi h 0 2 ∧ ∀ k, hl q 19 k = hl h 19 k
theorem kF.rf (h : Hp) : kF h h := ⟨rfl, fun _ => rfl⟩
theorem kF.tr {h0 h1 h2 : Hp} (a : kF h0 h1) (b : kF h1 h2) : kF h0 h2 := ⟨b.1.trans a.1, fun k => (b.2 k).trans (a.2 k)⟩
/-- how feed answers, and how many bytes then lie on the tape -/
def fdR (t v t' : Int32) : Prop := (t.toInt ≤ 1980 ∧ v.toInt = t.toInt + 20 ∧ t'.toInt = t.toInt + 20) ∨ (1980 < t.toInt ∧ v.toInt = -1 ∧ t'.toInt = t.toInt)
def bkR (t x v t' : Int32) : Prop := ((0 ≤ x.toInt ∧ x.toInt ≤ t.toInt) ∧ v.toInt = t.toInt - x.toInt ∧ t'.toInt = t.toInt - x.toInt) ∨ ((x.toInt < 0 ∨ t.toInt < x.toInt) ∧ v.toInt = -1 ∧ t'.toInt = t.toInt)
theorem sf_X11_back {h : Hp} {n : Nat} {x1 : Int32} (ix : IX h) : Ok (F_X11_back n h x1) (fun q => (IX q.2 ∧ kM h q.2 ∧ kF h q.2 ∧ ∀ k, hi q.2 1 k = hi h 1 k) ∧ bkR (hi h 0 1) x1 q.1 (hi q.2 0 1)) := by
  have t0 := ix.1 (0, 1, 0, 2000) (by decide)
  have t1 : 0 ≤ (hi h 0 1).toInt ∧ (hi h 0 1).toInt ≤ 2000 := t0
  have f0 := lit_0
  unfold F_X11_back
  refine Ok.lt (fun c1 => Ok.ret ⟨⟨ix, kM.rfl' h, kF.rf h, fun _ => rfl⟩, Or.inr ⟨by omega, lit_m1, rfl⟩⟩) (fun c1 => ?_)
  refine Ok.le (fun c2 => ?_) (fun c2 => Ok.ret ⟨⟨ix, kM.rfl' h, kF.rf h, fun _ => rfl⟩, Or.inr ⟨by omega, lit_m1, rfl⟩⟩)
  have a1 := sbT (hi h 0 1) x1 (by omega) (by omega)
  generalize eg2 : wrI h 0 1 (hi h 0 1 - x1) = g2
  obtain ⟨y1, y2, y3⟩ := tp01 eg2 ix (kM.rfl' h) (by omega)
  refine Ok.ret ⟨⟨y1, y2, ⟨hiK eg2 0 2 (by decide), fun k => by rw [← eg2]; rfl⟩, fun k => hiA eg2 1 k (by decide)⟩, Or.inl ⟨by omega, ?_, ?_⟩⟩
  · show (hi g2 0 1).toInt = _
    rw [y3]; omega
  · show (hi g2 0 1).toInt = _
    rw [y3]; omega
theorem sf_X11_read {h : Hp} {n : Nat} (hn : 618475290624 ≤ n) (ix : IX h) : Ok (F_X11_read n h) (fun q => IX q.2 ∧ kM h q.2 ∧ (hi q.2 0 1).toInt = 0 ∧ ∀ k, hl q.2 19 k = hl h 19 k) := by
  have f0 := lit_0
  unfold F_X11_read
  refine Ok.bind (sf_X7_readText (h0 := h) n h (hi h 0 1) hn ⟨ix, kM.rfl' h, kT.rf h⟩) (fun q1 hq1 => ?_)
  obtain ⟨j1, -⟩ := hq1
  generalize eg1 : wrI q1.2 0 1 0 = g1
  obtain ⟨y1, y2, y3⟩ := tp01 eg1 j1.1 j1.2.1 (by omega)
  have fin (v u : Int32) : Ok (if (q1.1 : Int32) = 0 then ((F_X0_become n (wrI g1 0 2 v) 23 3).bind (fun q14 => ((F_X8_become n q14 30 10).bind (fun q16 => ((F_X6_clear n q16).bind (fun q18 => ((F_X2_clear n q18).bind (fun q20 => some (u, (wrI q20 0 10 0)))))))))) else some (u, (wrI g1 0 2 v))) (fun q => IX q.2 ∧ kM h q.2 ∧ (hi q.2 0 1).toInt = 0 ∧ ∀ k, hl q.2 19 k = hl h 19 k) := by
    generalize eg2 : wrI g1 0 2 v = g2
    obtain ⟨v1, v2, v3⟩ := tp02 eg2 y1 y2
    have j2 : J g2 g2 := ⟨v1, kM.rfl' g2, kT.rf g2⟩
    have l2 (k : Nat) : hl g2 19 k = hl h 19 k := by
      rw [← eg2]
      show hl g1 19 k = _
      rw [← eg1]
      exact j1.2.2.2.2.2 k
    refine Ok.ite (fun _ => ?_) (fun _ => ?_)
    · refine Ok.bind (sf_X0_become (h0 := g2) n g2 23 3 (by omega) j2 bd_23 bd_3) (fun q14 h14 => ?_)
      refine Ok.bind (sf_X8_become (h0 := g2) n q14 30 10 (by omega) h14.1 sc_30 sc_10) (fun q16 h16 => ?_)
      refine Ok.bind (sf_X6_clear (h0 := g2) n q16 (by omega) h16.1) (fun q18 h18 => ?_)
      refine Ok.bind (sf_X2_clear (h0 := g2) n q18 (by omega) h18.1) (fun q20 h20 => ?_)
      generalize eg3 : wrI q20 0 10 0 = g3
      have j3 : J g2 g3 := JwI eg3 h20.1 (by decide)
      refine Ok.ret ⟨j3.1, v2.tr j3.2.1, ?_, fun k => (j3.2.2.2.2.2 k).trans (l2 k)⟩
      show (hi g3 0 1).toInt = 0
      rw [j3.2.2.1, v3, y3]; exact f0
    · refine Ok.ret ⟨v1, v2, ?_, l2⟩
      show (hi g2 0 1).toInt = 0
      rw [v3, y3]; exact f0
  exact Ok.ite (fun _ => fin _ _) (fun _ => fin _ _)
end
section
/-! THE TAPE: the reference's -/
def ltF (h q : Hp) : Prop := (∀ a k, a ≠ 227 → ¬ (a = 226 ∧ k = 2) → hi q a k = hi h a k) ∧ (∀ a k, hl q a k = hl h a k)
theorem ltF.tr {h0 h1 h2 : Hp} (a : ltF h0 h1) (b : ltF h1 h2) : ltF h0 h2 := ⟨fun x k p q => (b.1 x k p q).trans (a.1 x k p q), fun x k => (b.2 x k).trans (a.2 x k)⟩
/-- what feed and back keep of the reference -/
def tpP (h q : Hp) : Prop := dI q ∧ kX h q ∧ hi q 226 17 = hi h 226 17 ∧ (∀ k, hl q 233 k = hl h 233 k) ∧ ∀ k, hi q 229 k = hi h 229 k
theorem ltF.dI {h q : Hp} (l : ltF h q) (t0 : 0 ≤ (hi q 226 2).toInt ∧ (hi q 226 2).toInt ≤ 2000) (d : dI h) : tpP h q := by
  refine ⟨d.fr rfl (fun a k _ n f => l.1 a k ?_ ?_) t0, fun a k ha => ⟨l.1 a k (by omega) (by omega), l.2 a k⟩, l.1 226 17 (by decide) (by decide), fun k => l.2 233 k, fun k => l.1 229 k (by decide) (by omega)⟩
  · unfold frB at f; have := d.1.1; omega
  · unfold frB at f; omega
theorem tpP.rf {h : Hp} (d : dI h) : tpP h h := ⟨d, kX.rf h, rfl, fun _ => rfl, fun _ => rfl⟩
theorem ltF.rf (h : Hp) : ltF h h := ⟨fun _ _ _ _ => rfl, fun _ _ => rfl⟩
/-- both tapes, byte by byte -/
def tpQ (h0 h q h' : Hp) (m : Nat) (q' : Hp) : Prop := (IX q ∧ kM h0 q ∧ kF h q ∧ (hi q 0 1).toInt = (hi h 0 1).toInt + m) ∧ ltF h' q' ∧ (hi q' 226 2).toInt = (hi h 0 1).toInt + m ∧ ∀ k : Nat, (k : Int) < (hi h 0 1).toInt + m → hi q 1 k = hi q' 227 k
theorem tp_loop {h0 : Hp} {l1 : Int32} : ∀ (m n : Nat) (h h' : Hp) (l2 : Int32), IX h → kM h0 h → l2.toInt = 8 * (m : Int) - 8 → m ≤ 4 → (hi h 0 1).toInt + m ≤ 2000 → (hi h' 226 2).toInt = (hi h 0 1).toInt → (∀ k : Nat, (k : Int) < (hi h 0 1).toInt → hi h 1 k = hi h' 227 k) → m + 1 ≤ n → Ok (W_X11_putOnTape n 3 h l1 l2) (fun q => Ok (W_X12_lays n 3 h' l1 l2) (tpQ h0 h q h' m)) := by
  intro m
  induction m with
  | zero =>
    intro n h h' l2 ix km a b c t e d
    obtain ⟨n', rfl⟩ : ∃ n', n = n' + 1 := ⟨n - 1, by omega⟩
    have f0 := lit_0
    rw [u_X11_putOnTape, u_X12_lays]
    refine Ok.pos rfl ?_
    refine Ok.lt (fun _ => Ok.ret ?_) (fun c1 => by exfalso; omega)
    refine Ok.pos rfl ?_
    refine Ok.lt (fun _ => Ok.ret ⟨⟨ix, km, kF.rf h, by omega⟩, ltF.rf h', by omega, fun k hk => e k (by omega)⟩) (fun c1 => by exfalso; omega)
  | succ m ih =>
    intro n h h' l2 ix km a b c t e d
    obtain ⟨n', rfl⟩ : ∃ n', n = n' + 1 := ⟨n - 1, by omega⟩
    have f0 := lit_0
    have f2 := lit_2000
    have f1 := lit_1
    have t0 := ix.1 (0, 1, 0, 2000) (by decide)
    have t1 : 0 ≤ (hi h 0 1).toInt := t0.1
    have l24 : l2 = 24 ∨ l2 = 16 ∨ l2 = 8 ∨ l2 = 0 := by
      rcases (show m = 0 ∨ m = 1 ∨ m = 2 ∨ m = 3 by omega) with rfl | rfl | rfl | rfl
      · exact Or.inr (Or.inr (Or.inr (Int32.toInt_inj.mp (a.trans (by decide)))))
      · exact Or.inr (Or.inr (Or.inl (Int32.toInt_inj.mp (a.trans (by decide)))))
      · exact Or.inr (Or.inl (Int32.toInt_inj.mp (a.trans (by decide))))
      · exact Or.inl (Int32.toInt_inj.mp (a.trans (by decide)))
    have eb := byEq l1 l2 l24
    have et : hi h' 226 2 = hi h 0 1 := Int32.toInt_inj.mp t
    rw [u_X11_putOnTape, u_X12_lays]
    refine Ok.pos rfl ?_
    refine Ok.lt (fun c1 => by exfalso; omega) (fun c1 => ?_)
    refine Ok.le (fun c2 => by exfalso; omega) (fun c2 => ?_)
    refine Ok.chk (ixT (by omega) (by omega)) (fun c3 => ?_)
    rw [eb]
    generalize ((l1 : Int32) >>> ((l2 : Int32) &&& 31)).toInt8.toInt32 = bb
    generalize eg1 : wrI h 1 (Int32.toNatClampNeg (hi h 0 1)) bb = g1
    obtain ⟨x1, x2, x3⟩ := tp1 eg1 ix km
    rw [x3]
    have a1 := adT (hi h 0 1) 1 (by omega) (by omega)
    generalize eg2 : wrI g1 0 1 (hi h 0 1 + 1) = g2
    obtain ⟨y1, y2, y3⟩ := tp01 eg2 x1 x2 (by omega)
    generalize ey : (l2 + (-8) : Int32) = y
    have fy := adG ey rfl (show (-8 : Int32).toInt = -8 by decide) (by omega) (by omega)
    have nt := ncT t1
    generalize eg3 : wrI h' 227 (Int32.toNatClampNeg (hi h 0 1)) bb = g3
    have z3 : hi g3 226 2 = hi h 0 1 := (hiA eg3 226 2 (by decide)).trans et
    generalize eg4 : wrI g3 226 2 (hi h 0 1 + 1) = g4
    have z4 : hi g4 226 2 = hi h 0 1 + 1 := hiE eg4
    have fr : ltF h' g4 := by
      refine ⟨fun x k p q => ?_, fun x k => ?_⟩
      · rw [← eg4, hi_wrI, if_neg q]
        exact hiA eg3 x k p
      · rw [← eg4]
        show hl g3 x k = _
        rw [← eg3]
        rfl
    have ee (k : Nat) (hk : (k : Int) < (hi g2 0 1).toInt) : hi g2 1 k = hi g4 227 k := by
      rw [y3] at hk
      rw [hiA eg2 1 k (by decide), hiA eg4 227 k (by decide), ← eg1, ← eg3, hi_wrI, hi_wrI]
      by_cases z : k = Int32.toNatClampNeg (hi h 0 1)
      · rw [if_pos ⟨rfl, z⟩, if_pos ⟨rfl, z⟩]
      · rw [if_neg (fun w => z w.2), if_neg (fun w => z w.2)]
        exact e k (by omega)
    refine (ih n' g2 g4 y y1 y2 (by omega) (by omega) (by rw [y3]; omega) (by rw [z4, y3]) ee (by omega)).mono (fun q hq => ?_)
    refine Ok.pos rfl ?_
    refine Ok.lt (fun c1 => by exfalso; omega) (fun c1 => ?_)
    rw [et]
    refine Ok.pos c3 ?_
    rw [eg3, z3, eg4]
    refine hq.mono (fun q' hq' => ?_)
    obtain ⟨⟨u1, u2, u3, u4⟩, u5, u6, u7⟩ := hq'
    rw [y3] at u4 u6 u7
    have kf : kF h g2 := by
      refine ⟨?_, fun k => ?_⟩
      · rw [hiK eg2 0 2 (by decide), hiA eg1 0 2 (by decide)]
      · rw [← eg2]
        show hl g1 19 k = _
        rw [← eg1]
        rfl
    exact ⟨⟨u1, u2, kf.tr u3, by omega⟩, fr.tr u5, by omega, fun k hk => u7 k (by omega)⟩
theorem tp_word {h0 h h' : Hp} {n : Nat} {x : Int32} (hn : 10 ≤ n) (ix : IX h) (km : kM h0 h) (c : (hi h 0 1).toInt + 4 ≤ 2000) (t : (hi h' 226 2).toInt = (hi h 0 1).toInt) (e : ∀ k : Nat, (k : Int) < (hi h 0 1).toInt → hi h 1 k = hi h' 227 k) : Ok (F_X11_putOnTape n h x) (fun q => Ok (F_X12_lays n h' x) (tpQ h0 h q h' 4)) := by
  unfold F_X11_putOnTape F_X12_lays
  exact tp_loop 4 n h h' 24 ix km (by decide) (by omega) c t e (by omega)
def fdP (h h' : Hp) (q q' : Int32 × Hp) : Prop := (IX q.2 ∧ kM h q.2 ∧ kF h q.2) ∧ ltF h' q'.2 ∧ q.1 = q'.1 ∧ hi q.2 0 1 = hi q'.2 226 2 ∧ (0 ≤ (hi q'.2 226 2).toInt ∧ (hi q'.2 226 2).toInt ≤ 2000) ∧ ∀ k : Nat, (k : Int) < (hi q.2 0 1).toInt → hi q.2 1 k = hi q'.2 227 k
set_option maxHeartbeats 4000000 in
theorem fd_both {h h' : Hp} {n : Nat} {x1 x2 x3 x4 x5 : Int32} (hn : 10 ≤ n) (ix : IX h) (t : hi h 0 1 = hi h' 226 2) (e : ∀ k : Nat, (k : Int) < (hi h 0 1).toInt → hi h 1 k = hi h' 227 k) : Ok (F_X11_feed n h x1 x2 x3 x4 x5) (fun q => Ok (F_X12_feed n h' x1 x2 x3 x4 x5) (fdP h h' q)) := by
  have t0 := ix.1 (0, 1, 0, 2000) (by decide)
  have t1 : 0 ≤ (hi h 0 1).toInt ∧ (hi h 0 1).toInt ≤ 2000 := t0
  have f20 := lit_20
  have f2 := lit_2000
  have a1 := adT (hi h 0 1) 20 (by omega) (by omega)
  have ti := congrArg Int32.toInt t
  unfold F_X11_feed F_X12_feed
  rw [← t]
  refine Ok.le (fun c1 => ?_) (fun c1 => Ok.ret ?_)
  · obtain ⟨p1, e1, p1', e1', ⟨i1, k1, f1, s1⟩, r1, s1', b1⟩ := tp_word (h0 := h) (x := x1) hn ix (kM.rfl' h) (by omega) (by omega) e
    obtain ⟨p2, e2, p2', e2', ⟨i2, k2, f2', s2⟩, r2, s2', b2⟩ := tp_word (h0 := h) (h' := p1') (x := x2) hn i1 k1 (by omega) (by omega) (fun k hk => b1 k (by omega))
    obtain ⟨p3, e3, p3', e3', ⟨i3, k3, f3, s3⟩, r3, s3', b3⟩ := tp_word (h0 := h) (h' := p2') (x := x3) hn i2 k2 (by omega) (by omega) (fun k hk => b2 k (by omega))
    obtain ⟨p4, e4, p4', e4', ⟨i4, k4, f4, s4⟩, r4, s4', b4⟩ := tp_word (h0 := h) (h' := p3') (x := x4) hn i3 k3 (by omega) (by omega) (fun k hk => b3 k (by omega))
    obtain ⟨p5, e5, p5', e5', ⟨i5, k5, f5, s5⟩, r5, s5', b5⟩ := tp_word (h0 := h) (h' := p4') (x := x5) hn i4 k4 (by omega) (by omega) (fun k hk => b4 k (by omega))
    have es : hi p5 0 1 = hi p5' 226 2 := Int32.toInt_inj.mp (by omega)
    refine ⟨(hi p5 0 1, p5), ?_, (hi p5' 226 2, p5'), ?_, ⟨i5, k5, (((f1.tr f2').tr f3).tr f4).tr f5⟩, (((r1.tr r2).tr r3).tr r4).tr r5, es, es, ?_, fun k hk => b5 k ?_⟩
    · rw [e1, Option.bind_some, e2, Option.bind_some, e3, Option.bind_some, e4, Option.bind_some, e5, Option.bind_some]
    · rw [if_pos (Int32.le_iff_toInt_le.mpr c1), e1', Option.bind_some, e2', Option.bind_some, e3', Option.bind_some, e4', Option.bind_some, e5', Option.bind_some]
    · show 0 ≤ (hi p5' 226 2).toInt ∧ (hi p5' 226 2).toInt ≤ 2000
      omega
    · have hk' : (k : Int) < (hi p5 0 1).toInt := hk
      omega
  · refine ⟨(-1, h'), ?_, ⟨ix, kM.rfl' h, kF.rf h⟩, ltF.rf h', rfl, t, ?_, e⟩
    · rw [if_neg (fun z => by have := Int32.le_iff_toInt_le.mp z; omega)]
    · show 0 ≤ (hi h' 226 2).toInt ∧ (hi h' 226 2).toInt ≤ 2000
      omega
theorem sf_X12_back {h : Hp} {n : Nat} {x1 : Int32} (d : dI h) : Ok (F_X12_back n h x1) (fun q => (tpP h q.2 ∧ ∀ k, hi q.2 227 k = hi h 227 k) ∧ bkR (hi h 226 2) x1 q.1 (hi q.2 226 2)) := by
  have t1 := d.2.1
  have f0 := lit_0
  unfold F_X12_back
  refine Ok.lt (fun c1 => Ok.ret ⟨⟨tpP.rf d, fun _ => rfl⟩, Or.inr ⟨by omega, lit_m1, rfl⟩⟩) (fun c1 => ?_)
  refine Ok.le (fun c2 => ?_) (fun c2 => Ok.ret ⟨⟨tpP.rf d, fun _ => rfl⟩, Or.inr ⟨by omega, lit_m1, rfl⟩⟩)
  have a1 := sbT (hi h 226 2) x1 (by omega) (by omega)
  generalize eg2 : wrI h 226 2 (hi h 226 2 - x1) = g2
  have y3 : hi g2 226 2 = hi h 226 2 - x1 := hiE eg2
  have fr : ltF h g2 := by
    refine ⟨fun x k p q => ?_, fun x k => ?_⟩
    · rw [← eg2, hi_wrI, if_neg q]
    · rw [← eg2]
      rfl
  refine Ok.ret ⟨⟨fr.dI (by rw [y3]; omega) d, fun k => hiA eg2 227 k (by decide)⟩, Or.inl ⟨by omega, ?_, ?_⟩⟩
  · show (hi g2 226 2).toInt = _
    rw [y3]; omega
  · show (hi g2 226 2).toInt = _
    rw [y3]; omega
end
