/-! READING: what is told is laid out. The sides of each cell -/
theorem rmN {x y : Int32} {a b : Nat} (hx : x.toInt = (a : Int)) (hy : y.toInt = (b : Int)) : (x - x / y * y).toInt = ((a % b : Nat) : Int) := by
  rw [rmA, hx, hy]
  exact (Int.ofNat_tmod a b).symm
/-- the heap with cell c's sides laid, others kept -/
def sdP (w g : Nat) (hS h : Hp) (m : Nat) : Prop := ((∀ a k, a ≠ 264 → hi h a k = hi hS a k) ∧ (∀ a k, hl h a k = hl hS a k)) ∧ ∀ c, c < m → ∀ k, k < 5 → (hi h 264 (5 * c + k)).toInt = ((sdv w g c k : Nat) : Int)
theorem x12_cells {n : Nat} {h : Hp} {w g : Nat} (l0 : 0 ≤ (hi h 226 18).toInt) (l1 : (hi h 226 18).toInt ≤ 1) (hw : (hi h 235 (Int32.toNatClampNeg (hi h 226 18))).toInt = (w : Int)) (hg : (hi h 236 (Int32.toNatClampNeg (hi h 226 18))).toInt = (g : Int)) (w5 : w ≤ 5) (g5 : g ≤ 5) : Ok (F_X12_cells n h) (fun q => q.2 = h ∧ q.1.toInt = ((w * g : Nat) : Int)) := by
  unfold F_X12_cells
  refine Ok.chk (ixT (by omega) (by omega)) (fun c1 => ?_)
  refine Ok.pos c1 ?_
  refine Ok.ret ⟨rfl, ?_⟩
  show (hi h 235 (Int32.toNatClampNeg (hi h 226 18)) * hi h 236 (Int32.toNatClampNeg (hi h 226 18))).toInt = _
  rw [Int32.toInt_mul, hw, hg, ← Int.natCast_mul]
  have : w * g ≤ 5 * 5 := Nat.mul_le_mul w5 g5
  exact bmT (by omega) (by omega)
/-- one side's cell is written -/
theorem i5 {x : Int32} {c k : Nat} {kk : Int32} (hx : x.toInt = (c : Int)) (hc : c < 25) (hk : kk.toInt = (k : Int)) (k5 : k < 5) : ixOK (5 * x + kk) 125 = true ∧ Int32.toNatClampNeg (5 * x + kk) = 5 * c + k := by
  have f5 := lit_5
  have a1 := mlT 5 x 5 lit_5 (by omega) (by omega)
  have a2 := adT (5 * x) kk (by omega) (by omega)
  have n0 := ncT (show 0 ≤ (5 * x + kk : Int32).toInt by omega)
  exact ⟨ixT (by omega) (by omega), by omega⟩
/-- cell c's own sides, as far as they are laid: f k -/
def sdQ (w g : Nat) (hS h : Hp) (c : Nat) (f : Nat → Int) : Prop := sdP w g hS h c ∧ ∀ k, k < 5 → (hi h 264 (5 * c + k)).toInt = f k
theorem sdQ.w {w g : Nat} {hS h : Hp} {c k : Nat} {f : Nat → Int} {v : Int32} (q : sdQ w g hS h c f) (k5 : k < 5) : sdQ w g hS (wrI h 264 (5 * c + k) v) c (fun i => if i = k then v.toInt else f i) := by
  obtain ⟨⟨⟨q1, q2⟩, q3⟩, q4⟩ := q
  refine ⟨⟨⟨fun a z n => ?_, fun a z => q2 a z⟩, fun c' hc' k' hk' => ?_⟩, fun i hi5 => ?_⟩
  · rw [hi_wrI, if_neg (fun w => n w.1)]
    exact q1 a z n
  · rw [hi_wrI, if_neg (by omega)]
    exact q3 c' hc' k' hk'
  · show (hi (wrI h 264 (5 * c + k) v) 264 (5 * c + i)).toInt = if i = k then v.toInt else f i
    rw [hi_wrI]
    by_cases e : i = k
    · subst e
      rw [if_pos ⟨rfl, rfl⟩, if_pos rfl]
    · rw [if_neg (by omega), if_neg e]
      exact q4 i hi5
theorem sdQ.next {w g : Nat} {hS h : Hp} {c : Nat} {f : Nat → Int} (q : sdQ w g hS h c f) (e : ∀ k, k < 5 → f k = ((sdv w g c k : Nat) : Int)) : sdP w g hS h (c + 1) := by
  refine ⟨q.1.1, fun c' hc' k hk => ?_⟩
  by_cases z : c' = c
  · subst z
    rw [q.2 k hk]
    exact e k hk
  · exact q.1.2 c' (by omega) k hk
theorem sd5 {k : Nat} (h : k < 5) : k = 0 ∨ k = 1 ∨ k = 2 ∨ k = 3 ∨ k = 4 := by omega
set_option maxRecDepth 100000 in
set_option maxHeartbeats 8000000 in
theorem sr_sides {w g : Nat} (w0 : 2 ≤ w) (w5 : w ≤ 5) (g5 : g ≤ 5) {hS : Hp} (l0 : 0 ≤ (hi hS 226 18).toInt) (l1' : (hi hS 226 18).toInt ≤ 1) (hw : (hi hS 235 (Int32.toNatClampNeg (hi hS 226 18))).toInt = (w : Int)) (hg : (hi hS 236 (Int32.toNatClampNeg (hi hS 226 18))).toInt = (g : Int)) {l1 : Int32} (hl1 : l1.toInt = (w : Int)) : ∀ n : Nat, (∀ (h : Hp) (c : Nat) (l2 : Int32), l2.toInt = (c : Int) → c ≤ w * g → sdP w g hS h c → 10 * (26 - c) + 20 < n → Ok (W_X12_fillsSides n 12 h l1 l2 0) (fun q => sdP w g hS q (w * g))) ∧ (∀ (h : Hp) (c k : Nat) (l2 l3 : Int32), l2.toInt = (c : Int) → c < w * g → l3.toInt = (k : Int) → k ≤ 5 → sdP w g hS h c → (∀ i, i < k → (hi h 264 (5 * c + i)).toInt = (c : Int)) → 10 * (26 - c) + 19 - k < n → Ok (W_X12_fillsSides n 22 h l1 l2 l3) (fun q => sdP w g hS q (w * g))) := by
  have w25 : w * g ≤ 5 * 5 := Nat.mul_le_mul w5 g5
  have f0 := lit_0
  have f1 := lit_1
  have f2 := lit_2
  have f3 := lit_3
  have f4 := lit_4
  have f5 := lit_5
  have cel (m : Nat) (h : Hp) (e : ∀ a k, a ≠ 264 → hi h a k = hi hS a k) : Ok (F_X12_cells m h) (fun q => q.2 = h ∧ q.1.toInt = ((w * g : Nat) : Int)) := by
    refine x12_cells ?_ ?_ ?_ ?_ w5 g5
    · rw [e 226 18 (by decide)]; exact l0
    · rw [e 226 18 (by decide)]; exact l1'
    · rw [e 226 18 (by decide), e 235 _ (by decide)]; exact hw
    · rw [e 226 18 (by decide), e 236 _ (by decide)]; exact hg
  intro n
  induction n with
  | zero => exact ⟨by intro h c l2 a b d e; omega, by intro h c k l2 l3 a b d e f i j; omega⟩
  | succ n ih =>
    refine ⟨?_, ?_⟩
    · intro h c l2 a b d e
      rw [u_X12_fillsSides]
      refine Ok.pos rfl ?_
      refine Ok.bind (cel n h d.1.1) (fun q1 hq1 => ?_)
      obtain ⟨e1, y1⟩ := hq1
      rw [e1]
      refine Ok.le (fun c1 => ?_) (fun c1 => ?_)
      · refine Ok.ret ?_
        rw [show w * g = c by omega]
        exact d
      · exact ih.2 h c 0 l2 0 a (by omega) f0 (by decide) d (fun i il => by omega) (by omega)
    · intro h c k l2 l3 a b d e f i j
      have hc25 : c < 25 := by omega
      rw [u_X12_fillsSides]
      refine Ok.neg (by decide) ?_
      refine Ok.pos rfl ?_
      refine Ok.le (fun c1 => ?_) (fun c1 => ?_)
      · have k5 : k = 5 := by omega
        subst k5
        have q0 : sdQ w g hS h c (fun _ => (c : Int)) := ⟨f, fun z hz => i z hz⟩
        have a1 := adT l2 1 (by omega) (by omega)
        have a2 := adT l2 l1 (by omega) (by omega)
        obtain ⟨x1, z1⟩ := i5 (kk := 1) a hc25 f1 (by decide)
        obtain ⟨x2, z2⟩ := i5 (kk := 2) a hc25 f2 (by decide)
        obtain ⟨x3, z3⟩ := i5 (kk := 3) a hc25 f3 (by decide)
        obtain ⟨x4, z4⟩ := i5 (kk := 4) a hc25 f4 (by decide)
        simp only [z1, z2, z3, z4]
        have rm := rmN a hl1
        have md : c % w < w := Nat.mod_lt _ (by omega)
        generalize er : (l2 - l2 / l1 * l1 : Int32) = r at rm
        generalize es : (l1 - 1 : Int32) = s1
        have fs := sbG es rfl lit_1 (by omega) (by omega)
        have fin (hh : Hp) (ff : Nat → Int) (q : sdQ w g hS hh c ff) (ee : ∀ k, k < 5 → ff k = ((sdv w g c k : Nat) : Int)) : Ok (W_X12_fillsSides n 12 hh l1 (l2 + 1) 0) (fun q => sdP w g hS q (w * g)) := ih.1 hh (c + 1) (l2 + 1) (by omega) (by omega) (q.next ee) (by omega)
        have dv : ¬ (l1 = 0) := fun z => by rw [z, f0] at hl1; omega
        -- the two lower sides
        have low (hh : Hp) (ff : Nat → Int) (q : sdQ w g hS hh c ff) (e0 : ff 0 = c) (e1 : ff 1 = ((sdv w g c 1 : Nat) : Int)) (e2 : ff 2 = ((sdv w g c 2 : Nat) : Int)) (e3 : ff 3 = c) (e4 : ff 4 = c) : Ok (if (l1 : Int32) = 0 then none else (if (r : Int32) ≤ 0 then (if (l2 : Int32) < (l1 : Int32) then W_X12_fillsSides n 12 hh l1 (l2 + 1) 0 else (if ixOK ((5 * l2) + 4) 125 = true then W_X12_fillsSides n 12 (wrI hh 264 (5 * c + 4) (l2 - l1)) l1 (l2 + 1) 0 else none)) else (if ixOK ((5 * l2) + 3) 125 = true then (if (l2 : Int32) < (l1 : Int32) then W_X12_fillsSides n 12 (wrI hh 264 (5 * c + 3) (l2 - 1)) l1 (l2 + 1) 0 else (if ixOK ((5 * l2) + 4) 125 = true then W_X12_fillsSides n 12 (wrI (wrI hh 264 (5 * c + 3) (l2 - 1)) 264 (5 * c + 4) (l2 - l1)) l1 (l2 + 1) 0 else none)) else none))) (fun q => sdP w g hS q (w * g)) := by
          refine Ok.neg dv ?_
          generalize e31 : (l2 - 1 : Int32) = m1
          generalize e41 : (l2 - l1 : Int32) = m4
          have g3 := sbG e31 rfl lit_1 (by omega) (by omega)
          have g4 := sbG e41 rfl rfl (by omega) (by omega)
          refine Ok.le (fun c3 => ?_) (fun c3 => ?_)
          · have n3 : ¬ 0 < c % w := by omega
            refine Ok.lt (fun c4 => ?_) (fun c4 => ?_)
            · refine fin _ _ q (fun k hk => ?_)
              rcases sd5 hk with rfl | rfl | rfl | rfl | rfl
              · rw [e0]; rfl
              · exact e1
              · exact e2
              · rw [e3]; unfold sdv; rw [if_neg (by decide), if_neg (by decide), if_pos rfl, if_neg n3]
              · rw [e4]; unfold sdv; rw [if_neg (by decide), if_neg (by decide), if_neg (by decide), if_pos rfl, if_neg (by omega)]
            · refine Ok.pos x4 (fin _ _ (q.w (by decide)) (fun k hk => ?_))
              rcases sd5 hk with rfl | rfl | rfl | rfl | rfl
              · rw [if_neg (by decide), e0]; rfl
              · rw [if_neg (by decide)]; exact e1
              · rw [if_neg (by decide)]; exact e2
              · rw [if_neg (by decide), e3]; unfold sdv; rw [if_neg (by decide), if_neg (by decide), if_pos rfl, if_neg n3]
              · rw [if_pos rfl]; unfold sdv; rw [if_neg (by decide), if_neg (by decide), if_neg (by decide), if_pos rfl, if_pos (by omega)]; omega
          · have p3 : 0 < c % w := by omega
            have c1' : 1 ≤ c := by
              by_cases z : c = 0
              · rw [z, Nat.zero_mod] at p3; omega
              · omega
            refine Ok.pos x3 ?_
            refine Ok.lt (fun c4 => ?_) (fun c4 => ?_)
            · refine fin _ _ (q.w (by decide)) (fun k hk => ?_)
              rcases sd5 hk with rfl | rfl | rfl | rfl | rfl
              · rw [if_neg (by decide), e0]; rfl
              · rw [if_neg (by decide)]; exact e1
              · rw [if_neg (by decide)]; exact e2
              · rw [if_pos rfl]; unfold sdv; rw [if_neg (by decide), if_neg (by decide), if_pos rfl, if_pos p3]; omega
              · rw [if_neg (by decide), e4]; unfold sdv; rw [if_neg (by decide), if_neg (by decide), if_neg (by decide), if_pos rfl, if_neg (by omega)]
            · refine Ok.pos x4 (fin _ _ ((q.w (by decide)).w (by decide)) (fun k hk => ?_))
              rcases sd5 hk with rfl | rfl | rfl | rfl | rfl
              · rw [if_neg (by decide), if_neg (by decide), e0]; rfl
              · rw [if_neg (by decide), if_neg (by decide)]; exact e1
              · rw [if_neg (by decide), if_neg (by decide)]; exact e2
              · rw [if_neg (by decide), if_pos rfl]; unfold sdv; rw [if_neg (by decide), if_neg (by decide), if_pos rfl, if_pos p3]; omega
              · rw [if_pos rfl]; unfold sdv; rw [if_neg (by decide), if_neg (by decide), if_neg (by decide), if_pos rfl, if_pos (by omega)]; omega
        refine Ok.neg dv ?_
        refine Ok.le (fun cA => ?_) (fun cA => ?_)
        · have nR : ¬ c % w + 1 < w := by omega
          have e1 : (c : Int) = ((sdv w g c 1 : Nat) : Int) := by unfold sdv; rw [if_pos rfl, if_neg nR]
          refine Ok.bind (cel n h f.1.1) (fun q7 hq7 => ?_)
          obtain ⟨e7, y7⟩ := hq7
          rw [e7]
          refine Ok.le (fun cB => ?_) (fun cB => ?_)
          · exact low h _ q0 rfl e1 (by unfold sdv; rw [if_neg (by decide), if_pos rfl, if_neg (by omega)]) rfl rfl
          · refine Ok.pos x2 ?_
            exact low _ _ (q0.w (k := 2) (v := l2 + l1) (by decide)) rfl e1 (by show (l2 + l1).toInt = _; unfold sdv; rw [if_neg (by decide), if_pos rfl, if_pos (by omega)]; omega) rfl rfl
        · have yR : c % w + 1 < w := by omega
          have e1 : (l2 + 1).toInt = ((sdv w g c 1 : Nat) : Int) := by unfold sdv; rw [if_pos rfl, if_pos yR]; omega
          refine Ok.pos x1 ?_
          have q1 := q0.w (k := 1) (v := l2 + 1) (by decide)
          generalize eg : wrI h 264 (5 * c + 1) (l2 + 1) = hh at q1
          refine Ok.bind (cel n hh q1.1.1.1) (fun q7 hq7 => ?_)
          obtain ⟨e7, y7⟩ := hq7
          rw [e7]
          refine Ok.le (fun cB => ?_) (fun cB => ?_)
          · exact low hh _ q1 rfl e1 (by show (c : Int) = _; unfold sdv; rw [if_neg (by decide), if_pos rfl, if_neg (by omega)]) rfl rfl
          · refine Ok.pos x2 ?_
            exact low _ _ (q1.w (k := 2) (v := l2 + l1) (by decide)) rfl e1 (by show (l2 + l1).toInt = _; unfold sdv; rw [if_neg (by decide), if_pos rfl, if_pos (by omega)]; omega) rfl rfl
      · obtain ⟨x1, z1⟩ := i5 (kk := l3) a hc25 d (by omega)
        refine Ok.pos x1 ?_
        rw [z1]
        have a1 := adT l3 1 (by omega) (by omega)
        refine ih.2 _ c (k + 1) l2 (l3 + 1) a b (by omega) (by omega) ⟨⟨fun a' k' q => ?_, fun a' k' => f.1.2 a' k'⟩, fun c' hc' k' hk' => ?_⟩ (fun i' hi' => ?_) (by omega)
        · rw [hi_wrI, if_neg (fun z => q z.1)]
          exact f.1.1 a' k' q
        · rw [hi_wrI, if_neg (by omega)]
          exact f.2 c' hc' k' hk'
        · rw [hi_wrI]
          by_cases z : i' = k
          · subst z
            rw [if_pos ⟨rfl, rfl⟩]
            exact a
          · rw [if_neg (by omega)]
            exact i i' (by omega)
theorem sf_X12_fillsSides {n : Nat} {h : Hp} {w g : Nat} (hn : 400 ≤ n) (w0 : 2 ≤ w) (w5 : w ≤ 5) (g5 : g ≤ 5) (l0 : 0 ≤ (hi h 226 18).toInt) (l1 : (hi h 226 18).toInt ≤ 1) (hw : (hi h 235 (Int32.toNatClampNeg (hi h 226 18))).toInt = (w : Int)) (hg : (hi h 236 (Int32.toNatClampNeg (hi h 226 18))).toInt = (g : Int)) : Ok (F_X12_fillsSides n h) (fun q => sdP w g h q (w * g)) := by
  have f0 := lit_0
  unfold F_X12_fillsSides
  refine Ok.pos (ixT (by omega) (by omega)) ?_
  exact (sr_sides w0 w5 g5 l0 l1 hw hg hw n).1 h 0 0 f0 (Nat.zero_le _) ⟨⟨fun _ _ _ => rfl, fun _ _ => rfl⟩, fun c hc => by omega⟩ (by omega)
