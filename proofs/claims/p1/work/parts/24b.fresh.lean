/-! THE FRESH STATE: what the cells hold once both are made, and what each method answers there -/
theorem hi_wrI (h : Hp) (a k : Nat) (v : Int32) (a' k' : Nat) : hi (wrI h a k v) a' k' = if a' = a ∧ k' = k then v else hi h a' k' := rfl
theorem hi_wrA (h : Hp) (a : Nat) (f : Nat → Int32) (a' k' : Nat) : hi (wrA h a f) a' k' = if a' = a then f k' else hi h a' k' := rfl
theorem hi_ne {h : Hp} {a k : Nat} {v : Int32} {a' k' : Nat} (hn : a' ≠ a) : hi (wrI h a k v) a' k' = hi h a' k' := if_neg (fun q => hn q.1)
theorem hi_nk {h : Hp} {a k : Nat} {v : Int32} {a' k' : Nat} (hn : k' ≠ k) : hi (wrI h a k v) a' k' = hi h a' k' := if_neg (fun q => hn q.2)
theorem hi_eq {h : Hp} {a k : Nat} {v : Int32} : hi (wrI h a k v) a k = v := if_pos ⟨rfl, rfl⟩
/-- the model: nothing told, nothing gone on -/
def FM (h : Hp) : Prop := (hi h 226 18 = 0 ∧ hi h 235 0 = 4 ∧ hi h 236 0 = 4 ∧ hi h 242 0 = 0) ∧ (hi h 248 0 = 0 ∧ hi h 249 0 = 0 ∧ ∀ k, k < 4 → hi h 250 k = 0 ∧ hi h 251 k = 0) ∧ (∀ k, k < 63 → hi h 262 k = 0) ∧ (∀ k, k < 80 → hi h 264 k = sideT k) ∧ (hi h 226 2 = 0 ∧ hi h 226 17 = -1 ∧ hi h 226 59 = 0 ∧ hi h 226 65 = 0) ∧ ∀ k, k < 3 → hi h 273 k = 0
/-- its row of what goes on: nothing there, at time t -/
def RZ (t : Int32) (h : Hp) : Prop := (∀ k, k < 61 → hi h 263 k = 0) ∧ hi h 263 61 = t
/-- the class: nothing told, nothing gone on -/
def FX (h : Hp) : Prop := (hi h 24 0 = 4 ∧ hi h 24 1 = 4 ∧ hi h 24 2 = 65535 ∧ hi h 24 3 = 4369) ∧ (hi h 30 0 = 0 ∧ hi h 30 1 = 0 ∧ hi h 30 2 = 0 ∧ hi h 30 3 = 0) ∧ (hi h 23 2 = 0 ∧ hi h 23 3 = 0 ∧ hi h 23 4 = 0) ∧ (hi h 25 3 = 4 ∧ (∀ k, k < 4 → hi h 26 k = ([0, -15, 1, -15] : List Int32).getD k 0) ∧ ∀ k, k < 4 → hi h 27 k = ([0, 2, 0, 2] : List Int32).getD k 0) ∧ (hi h 0 1 = 0 ∧ hi h 0 2 = -1 ∧ hi h 0 10 = 0) ∧ (hi h 38 1 = 0 ∧ hi h 38 2 = 0) ∧ hi h 201 2 = 0
theorem fmF : FM hk_F := ⟨by decide +kernel, by decide +kernel, by decide +kernel, by decide +kernel, by decide +kernel, by decide +kernel⟩
theorem fxF : FX hk_F := ⟨by decide +kernel, by decide +kernel, by decide +kernel, by decide +kernel, by decide +kernel, by decide +kernel, by decide +kernel⟩
/-- no cell of the model is touched -/
def kM (h h' : Hp) : Prop := ∀ a k, 226 ≤ a → hi h' a k = hi h a k
theorem kM.rf {h : Hp} : kM h h := fun _ _ _ => rfl
theorem kM.tr {h h1 h2 : Hp} (a : kM h h1) (b : kM h1 h2) : kM h h2 := fun x k hx => (b x k hx).trans (a x k hx)
theorem kM.w {h h' : Hp} {a k : Nat} {v : Int32} (ha : a < 226) (z : kM h h') : kM h (wrI h' a k v) := fun x j hx => (hi_ne (by omega)).trans (z x j hx)
theorem kM.wA {h h' : Hp} {a : Nat} {f : Nat → Int32} (ha : a < 226) (z : kM h h') : kM h (wrA h' a f) := fun x j hx => by
  rw [hi_wrA, if_neg (by omega)]
  exact z x j hx
theorem FM.keep {h h' : Hp} (hF : FM h) (z : kM h h') : FM h' := by
  obtain ⟨⟨a1, a2, a3, a4⟩, ⟨b1, b2, b3⟩, c, d, ⟨e1, e2, e3, e4⟩, f⟩ := hF
  refine ⟨⟨?_, ?_, ?_, ?_⟩, ⟨?_, ?_, fun k hk => ⟨?_, ?_⟩⟩, fun k hk => ?_, fun k hk => ?_, ⟨?_, ?_, ?_, ?_⟩, fun k hk => ?_⟩
  · rw [z _ _ (by decide)]; exact a1
  · rw [z _ _ (by decide)]; exact a2
  · rw [z _ _ (by decide)]; exact a3
  · rw [z _ _ (by decide)]; exact a4
  · rw [z _ _ (by decide)]; exact b1
  · rw [z _ _ (by decide)]; exact b2
  · rw [z _ _ (by decide)]; exact (b3 k hk).1
  · rw [z _ _ (by decide)]; exact (b3 k hk).2
  · rw [z _ _ (by decide)]; exact c k hk
  · rw [z _ _ (by decide)]; exact d k hk
  · rw [z _ _ (by decide)]; exact e1
  · rw [z _ _ (by decide)]; exact e2
  · rw [z _ _ (by decide)]; exact e3
  · rw [z _ _ (by decide)]; exact e4
  · rw [z _ _ (by decide)]; exact f k hk
/-- cells that the model uses as it answers: its row, reaches, laws' values, its lots -/
def scr (a k : Nat) : Prop := a = 263 ∨ a = 267 ∨ a = 268 ∨ a = 269 ∨ a = 260 ∨ a = 265 ∨ (a = 226 ∧ (k = 55 ∨ k = 56 ∨ k = 52))
def kS (h h' : Hp) : Prop := ∀ a k, ¬ scr a k → hi h' a k = hi h a k
theorem kS.rf {h : Hp} : kS h h := fun _ _ _ => rfl
theorem kS.tr {h h1 h2 : Hp} (a : kS h h1) (b : kS h1 h2) : kS h h2 := fun x k hx => (b x k hx).trans (a x k hx)
theorem kS.w {h h' : Hp} {a k : Nat} {v : Int32} (ha : scr a k) (z : kS h h') : kS h (wrI h' a k v) := fun x j hx => by
  rw [hi_wrI, if_neg (fun q => hx (by rw [q.1, q.2]; exact ha))]
  exact z x j hx
theorem FM.kS {h h' : Hp} (hF : FM h) (z : kS h h') : FM h' := by
  obtain ⟨⟨a1, a2, a3, a4⟩, ⟨b1, b2, b3⟩, c, d, ⟨e1, e2, e3, e4⟩, f⟩ := hF
  refine ⟨⟨?_, ?_, ?_, ?_⟩, ⟨?_, ?_, fun k hk => ⟨?_, ?_⟩⟩, fun k hk => ?_, fun k hk => ?_, ⟨?_, ?_, ?_, ?_⟩, fun k hk => ?_⟩
  · rw [z _ _ (by unfold scr; omega)]; exact a1
  · rw [z _ _ (by unfold scr; omega)]; exact a2
  · rw [z _ _ (by unfold scr; omega)]; exact a3
  · rw [z _ _ (by unfold scr; omega)]; exact a4
  · rw [z _ _ (by unfold scr; omega)]; exact b1
  · rw [z _ _ (by unfold scr; omega)]; exact b2
  · rw [z _ _ (by unfold scr; omega)]; exact (b3 k hk).1
  · rw [z _ _ (by unfold scr; omega)]; exact (b3 k hk).2
  · rw [z _ _ (by unfold scr; omega)]; exact c k hk
  · rw [z _ _ (by unfold scr; omega)]; exact d k hk
  · rw [z _ _ (by unfold scr; omega)]; exact e1
  · rw [z _ _ (by unfold scr; omega)]; exact e2
  · rw [z _ _ (by unfold scr; omega)]; exact e3
  · rw [z _ _ (by unfold scr; omega)]; exact e4
  · rw [z _ _ (by unfold scr; omega)]; exact f k hk
theorem ck0 : Int32.toNatClampNeg 0 = 0 := by decide
theorem ix02 : ixOK 0 2 = true := by decide
theorem ixN {j n : Nat} (h : j < n) (hn : n < 2 ^ 31) : ixOK (nI j) n = true := by
  unfold ixOK
  rw [nI_clamp (by omega)]
  simp only [Bool.and_eq_true, decide_eq_true_eq]
  exact ⟨nI_pos' (by omega), h⟩
theorem lt16 (x : Int32) : ((16 : Int32) ≤ x) ↔ ((15 : Int32) < x) := by
  rw [Int32.le_iff_toInt_le, Int32.lt_iff_toInt_lt]
  have e1 : (16 : Int32).toInt = 16 := by decide
  have e2 : (15 : Int32).toInt = 15 := by decide
  omega
/-- a cell of the lawn, or none -/
theorem cell_or (x : Int32) : (x < 0 ∨ (16 : Int32) ≤ x) ∨ ∃ j, j < 16 ∧ x = nI j := by
  by_cases h0 : x < 0
  · exact Or.inl (Or.inl h0)
  · obtain ⟨j, hj, rfl⟩ := nI_of h0
    rcases Nat.lt_or_ge j 16 with q | q
    · exact Or.inr ⟨j, q, rfl⟩
    · exact Or.inl (Or.inr (nI_le q hj))
section FMX
variable {n : Nat} {h : Hp}
theorem m_cells (hF : FM h) : F_X12_cells n h = some (16, h) := by
  obtain ⟨⟨a1, a2, a3, a4⟩, -⟩ := hF
  simp only [F_X12_cells, a1, ix02, ck0, a2, a3, if_true]
  rfl
theorem m_isCell_out (hF : FM h) {x : Int32} (hx : x < 0 ∨ (16 : Int32) ≤ x) : F_X12_isCell n h x = some (0, h) := by
  simp only [F_X12_isCell, m_cells hF, Option.bind_some, F_X12_in]
  by_cases h0 : x < 0
  · rw [if_pos h0]; rfl
  · rw [if_neg h0, if_pos (show ((16 : Int32) - 1) < x from (lt16 x).mp (hx.resolve_left h0))]; rfl
theorem m_isCell (hF : FM h) {j : Nat} (hj : j < 16) : F_X12_isCell n h (nI j) = some (1, h) := by
  simp only [F_X12_isCell, m_cells hF, Option.bind_some, F_X12_in]
  rw [if_neg (nI_pos (by omega)), if_neg (show ¬ ((16 : Int32) - 1) < nI j from nI_nlt (a := 15) (b := j) (by omega) (by decide))]
  rfl
theorem m_isGoer (hF : FM h) (x : Int32) : F_X12_isGoer n h x = some (0, h) := by
  obtain ⟨⟨a1, a2, a3, a4⟩, -⟩ := hF
  simp only [F_X12_isGoer, a1, ix02, ck0, a4, if_true, F_X12_in]
  by_cases h0 : x < 0
  · rw [if_pos h0]; rfl
  · rw [if_neg h0, if_pos (show ((0 : Int32) - 1) < x by
      rw [Int32.lt_iff_toInt_lt]
      have e1 : ((0 : Int32) - 1).toInt = -1 := by decide
      have e2 : ¬ x.toInt < (0 : Int32).toInt := fun q => h0 (Int32.lt_iff_toInt_lt.mpr q)
      have e3 : (0 : Int32).toInt = 0 := by decide
      omega)]; rfl
theorem x_has_out (hF : FX h) {x : Int32} (hx : x < 0 ∨ (16 : Int32) ≤ x) : F_X3_has n h 24 x = some (0, h) := by
  obtain ⟨⟨a1, a2, a3, a4⟩, -⟩ := hF
  simp only [F_X3_has, a1, a2]
  by_cases h0 : x < 0
  · rw [if_pos h0]
  · rw [if_neg h0, if_pos (show ((4 : Int32) * 4) ≤ x from hx.resolve_left h0)]
theorem x_has (hF : FX h) {j : Nat} (hj : j < 16) : F_X3_has n h 24 (nI j) = some (1, h) := by
  obtain ⟨⟨a1, a2, a3, a4⟩, -⟩ := hF
  simp only [F_X3_has, a1, a2]
  rw [if_neg (nI_pos (by omega)), if_neg (show ¬ ((4 : Int32) * 4) ≤ nI j from nI_ge (b := 16) hj (by decide))]
theorem x_hasGoer (hF : FX h) (x : Int32) : F_X0_hasGoer n h 23 x = some (0, h) := by
  obtain ⟨-, -, ⟨a1, -, -⟩, -⟩ := hF
  simp only [F_X0_hasGoer, a1]
  by_cases h0 : x < 0
  · rw [if_pos h0]
  · rw [if_neg h0, if_pos (Int32.not_lt.mp h0)]
end FMX
theorem shr0 (x : Int32) : (((0 : Int32).toUInt32 >>> (x.toUInt32 &&& Int32.toUInt32 31)).toInt32 &&& (1 : Int32)) = 0 := by
  have e : (0 : Int32).toUInt32 >>> (x.toUInt32 &&& Int32.toUInt32 31) = 0 := by
    apply UInt32.toNat_inj.mp
    rw [UInt32.toNat_shiftRight]
    show (0 : Nat) >>> _ = 0
    exact Nat.zero_shiftRight _
  rw [e]
  rfl
theorem sar0 (x : Int32) : ((0 : Int32) >>> (x &&& 31)) &&& (1 : Int32) = 0 := by
  have e : (0 : Int32) >>> (x &&& 31) = 0 := by
    apply Int32.toBitVec_inj.mp
    rw [Int32.toBitVec_shiftRight]
    show BitVec.sshiftRight 0#32 _ = 0#32
    exact BitVec.zero_sshiftRight
  rw [e]
  rfl
