/-! WHAT BOTH KEEP BETWEEN CALLS -/
def Iw (h : Hp) : Prop := IX h ∧ dI h ∧ hi h 0 1 = hi h 226 2 ∧ ∀ k, 0 ≤ (hi h 229 k).toInt
theorem IX.kX {h h' : Hp} (i : IX h) (k : kX h h') : IX h' := by
  have hc : ∀ q ∈ ckk, q.1 < 226 := by decide
  refine ⟨fun q hq => ?_, fun k' => ?_, fun k' => ?_⟩
  · rw [(k q.1 q.2.1 (hc q hq)).1]
    exact i.1 q hq
  · rw [(k 209 k' (by decide)).1]
    exact i.2.1 k'
  · rw [(k 210 k' (by decide)).1]
    exact i.2.2 k'
theorem dI.km {h h' : Hp} (d : dI h) (k : kM h h') : dI h' := d.fr rfl (fun a k' ha _ _ => (k a k' ha).1) (by rw [(k 226 2 (by decide)).1]; exact d.2.1)
theorem jS {h : Hp} (w : Iw h) : J h h := ⟨w.1, kM.rfl' h, rfl⟩
theorem ix505 : ∀ q ∈ ckk, q.2.2.1 ≤ (hi hk_505 q.1 q.2.1).toInt ∧ (hi hk_505 q.1 q.2.1).toInt ≤ q.2.2.2 := by decide +kernel
theorem fl505 : hi hk_505 226 2 = 0 ∧ hi hk_505 226 59 = 0 ∧ hi hk_505 226 65 = 0 ∧ hi hk_505 0 1 = 0 ∧ ∀ k, k < 3 → hi hk_505 273 k = 0 := by decide +kernel
theorem iwY : Iw hk_Y := by
  obtain ⟨t1, ⟨h1, t2, t3, t4, t5⟩, t6, ⟨t7, t8, t9⟩, t10⟩ := tlY
  obtain ⟨y2, y59, y65, y1, y73⟩ := fl505
  have f0 := lit_0
  have rf (k : Nat) (n : ¬ (k = 55 ∨ k = 56)) : hi hk_Y 226 k = hi hk_505 226 k := t1 226 k (by decide) (by decide) (by decide) (by omega) (by unfold plW; omega) (by unfold plW; omega)
  have ra (a k : Nat) (n : a < 226 ∨ a = 229 ∨ 265 ≤ a) : hi hk_Y a k = hi hk_505 a k := t1 a k (by omega) (by omega) (by omega) (by omega) (by unfold plW; omega) (by unfold plW; omega)
  have i2 : hi hk_Y 226 2 = 0 := (rf 2 (by decide)).trans y2
  have i18 : hi hk_Y 226 18 = 0 := (rf 18 (by decide)).trans y18
  have i59 : hi hk_Y 226 59 = 0 := (rf 59 (by decide)).trans y59
  have i65 : hi hk_Y 226 65 = 0 := (rf 65 (by decide)).trans y65
  have k18 : Int32.toNatClampNeg (hi hk_Y 226 18) = 0 := by rw [i18]; decide
  have ew : wdN hk_Y = 4 := by unfold wdN; rw [k18]; exact t7
  have eh : hgN hk_Y = 4 := by unfold hgN; rw [k18]; exact t8
  have eg : gnN hk_Y = 0 := by unfold gnN; rw [k18]; exact t9
  have ec : cnN hk_Y = 16 := by unfold cnN; rw [ew, eh]; rfl
  have q18 : (hi hk_Y 226 18).toInt = 0 := by rw [i18]; exact f0
  have r5 : sdO hk_Y := by
    intro c k hc hk
    rw [ew, eh]
    rw [ec] at hc
    exact t6 c (by omega) k hk
  have r6 : lwsO hk_Y := by
    intro i a b
    rw [q18] at a b
    exact Or.inl (t10 i (by omega))
  refine ⟨⟨fun q hq => ?_, fun k => ?_, fun k => ?_⟩, ⟨⟨by omega, by omega, by omega, by omega, r5, r6, ?_, t5.cg t2, by rw [i65]; omega, by rw [i59]; omega⟩, by rw [i2]; omega, ?_, t5.cg (fun k _ => t3 k), fun k => ?_, fun u hu => ?_, fun u hu hx => ?_⟩, ?_, fun k => ?_⟩
  · have hc : ∀ q ∈ ckk, q.1 < 226 := by decide
    rw [ra q.1 q.2.1 (Or.inl (hc q hq))]
    exact ix505 q hq
  · rw [ra 209 k (by decide), zh_505 (Or.inl rfl) k]; decide
  · rw [ra 210 k (by decide), zh_505 (Or.inr (Or.inl rfl)) k]; decide
  · rw [ec]; exact t4.cg t2
  · rw [ec]; exact t4.cg (fun k _ => t3 k)
  · show -1 ≤ (hi hk_Y 265 k).toInt ∧ (hi hk_Y 265 k).toInt < 25
    rw [ra 265 k (by decide), zh_505 (Or.inr (Or.inr (Or.inr rfl))) k]; decide
  · rw [i59] at hu; exfalso; omega
  · rw [ra 273 u (by decide), y73 u hu] at hx
    exact absurd (show (vp_nar .boolean (0 : Int32)).toInt = 0 by decide) hx
  · rw [i2, ra 0 1 (by decide)]; exact y1
  · rw [ra 229 k (by decide), zh_505 (Or.inr (Or.inr (Or.inl rfl))) k]; decide
