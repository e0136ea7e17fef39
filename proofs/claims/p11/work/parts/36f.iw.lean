/-! WHAT BOTH KEEP BETWEEN CALLS -/
/-- the reference's words, as it keeps them -/
def kyW : List (List Int) := [[108, 97, 119, 110], [116, 117, 110, 101], [103, 111, 101, 114], [114, 111, 112, 101], [115, 116, 101, 112, 115], [109, 111, 118, 101, 115], [115, 112, 114, 101, 97, 100, 115], [99, 111, 115, 116, 115], [119, 101, 116], [115, 101, 101, 100], [105, 102], [116, 104, 101, 110], [101, 108, 115, 101], [108, 101, 102, 116], [116, 111, 112], [116, 105, 109, 101], [98, 101, 97, 116], [109, 111, 118, 101, 100], [119, 104, 105, 99, 104], [119, 105, 100, 101], [104, 105, 103, 104], [116, 117, 110, 101, 115]]
/-- a word's number, in a base -/
def wnF (b : Int) (l : List Int) : Int := l.foldl (fun a c => b * a + (c - 96)) 0
def kyN (k : Nat) : Int := wnF 27 (kyW.getD k [])
def wdN32 (k : Nat) : Int := wnF 32 (kyW.getD (if k < 9 then 13 + k else k - 9) [])
/-- both tapes, the last place, the words of both -/
def Iv4 (h : Hp) : Prop := hi h 0 2 = hi h 226 17 ∧ (∀ k : Nat, (k : Int) < (hi h 0 1).toInt → hi h 1 k = hi h 227 k) ∧ (∀ k, k < 22 → (hl h 19 k).toInt = wdN32 k) ∧ ∀ k, k < 22 → (hl h 233 k).toInt = kyN k
def Iw (h : Hp) : Prop := (IX h ∧ dI h ∧ hi h 0 1 = hi h 226 2 ∧ ∀ k, 0 ≤ (hi h 229 k).toInt) ∧ Iv4 h
theorem IX.kX {h h' : Hp} (i : IX h) (k : kX h h') : IX h' := by
  have hc : ∀ q ∈ ckk, q.1 < 226 := by decide
  refine ⟨fun q hq => ?_, fun k' => ?_, fun k' => ?_⟩
  · rw [(k q.1 q.2.1 (hc q hq)).1]
    exact i.1 q hq
  · rw [(k 209 k' (by decide)).1]
    exact i.2.1 k'
  · rw [(k 210 k' (by decide)).1]
    exact i.2.2 k'
theorem dI.km {h h' : Hp} (d : dI h) (k : kM h h') : dI h' := d.fr rfl (fun a k' ha _ _ => (k a k' ha).1) (by rw [(k 226 2 (by decide)).1]; exact d.2.1)
theorem jS {h : Hp} (w : Iw h) : J h h := ⟨w.1.1, kM.rfl' h, kT.rf h⟩
theorem ix505 : ∀ q ∈ ckk, q.2.2.1 ≤ (hi hk_505 q.1 q.2.1).toInt ∧ (hi hk_505 q.1 q.2.1).toInt ≤ q.2.2.2 := by decide +kernel
theorem fl505 : hi hk_505 226 2 = 0 ∧ hi hk_505 226 59 = 0 ∧ hi hk_505 226 65 = 0 ∧ hi hk_505 0 1 = 0 ∧ ∀ k, k < 3 → hi hk_505 273 k = 0 := by decide +kernel
theorem ky505 : ∀ k, k < 22 → (hl hk_Y 233 k).toInt = kyN k := by decide +kernel
theorem wd505 : ∀ k, k < 22 → (hl hk_Y 19 k).toInt = wdN32 k := by decide +kernel
theorem pl505 : hi hk_505 226 17 = -1 ∧ hi hk_505 0 2 = -1 := by decide +kernel
theorem iwY : Iw hk_Y := by
  obtain ⟨t1, ⟨h1, t2, t3, t4, t5⟩, t6, ⟨t7, t8, t9⟩, t10⟩ := tlY
  obtain ⟨y2, y59, y65, y1, y73⟩ := fl505
  have f0 := lit_0
  have rf (k : Nat) (n : ¬ (k = 55 ∨ k = 56)) : hi hk_Y 226 k = hi hk_505 226 k := t1 226 k (by decide) (by decide) (by decide) (by omega) (by unfold plW; omega) (by unfold plW; omega)
  have ra (a k : Nat) (n : a < 226 ∨ a = 229 ∨ 265 ≤ a) : hi hk_Y a k = hi hk_505 a k := t1 a k (by omega) (by omega) (by omega) (by omega) (by unfold plW; omega) (by unfold plW; omega)
  have i2 : hi hk_Y 226 2 = 0 := (rf 2 (by decide)).trans y2
  have i18 : hi hk_Y 226 18 = 0 := (rf 18 (by decide)).trans y18
  have i59 : hi hk_Y 226 59 = 0 := (rf 59 (by decide)).trans y59
  have i65 : hi hk_Y 226 65 = 0 := (rf 65 (by decide)).trans y65
  have k18 : Int32.toNatClampNeg (hi hk_Y 226 18) = 0 := by rw [i18]; decide
  have ew : wdN hk_Y = 4 := by unfold wdN; rw [k18]; exact t7
  have eh : hgN hk_Y = 4 := by unfold hgN; rw [k18]; exact t8
  have eg : gnN hk_Y = 0 := by unfold gnN; rw [k18]; exact t9
  have ec : cnN hk_Y = 16 := by unfold cnN; rw [ew, eh]; rfl
  have q18 : (hi hk_Y 226 18).toInt = 0 := by rw [i18]; exact f0
  have r5 : sdO hk_Y := by
    intro c k hc hk
    rw [ew, eh]
    rw [ec] at hc
    exact t6 c (by omega) k hk
  have r6 : lwsO hk_Y := by
    intro i a b
    rw [q18] at a b
    exact Or.inl (t10 i (by omega))
  refine ⟨⟨⟨fun q hq => ?_, fun k => ?_, fun k => ?_⟩, ⟨⟨by omega, by omega, by omega, by omega, r5, r6, ?_, t5.cg t2, by rw [i65]; omega, by rw [i59]; omega⟩, by rw [i2]; omega, ?_, t5.cg (fun k _ => t3 k), fun k => ?_, fun u hu => ?_, fun u hu hx => ?_⟩, ?_, fun k => ?_⟩, ?_, fun k hk => ?_, wd505, ky505⟩
  · have hc : ∀ q ∈ ckk, q.1 < 226 := by decide
    rw [ra q.1 q.2.1 (Or.inl (hc q hq))]
    exact ix505 q hq
  · rw [ra 209 k (by decide), zh_505 (Or.inl rfl) k]; decide
  · rw [ra 210 k (by decide), zh_505 (Or.inr (Or.inl rfl)) k]; decide
  · rw [ec]; exact t4.cg t2
  · rw [ec]; exact t4.cg (fun k _ => t3 k)
  · show -1 ≤ (hi hk_Y 265 k).toInt ∧ (hi hk_Y 265 k).toInt < 25
    rw [ra 265 k (by decide), zh_505 (Or.inr (Or.inr (Or.inr rfl))) k]; decide
  · rw [i59] at hu; exfalso; omega
  · rw [ra 273 u (by decide), y73 u hu] at hx
    exact absurd (show (vp_nar .boolean (0 : Int32)).toInt = 0 by decide) hx
  · rw [i2, ra 0 1 (by decide)]; exact y1
  · rw [ra 229 k (by decide), zh_505 (Or.inr (Or.inr (Or.inl rfl))) k]; decide
  · rw [ra 0 2 (by decide), rf 17 (by decide), pl505.1, pl505.2]
  · exfalso
    rw [ra 0 1 (by decide), y1] at hk
    omega
