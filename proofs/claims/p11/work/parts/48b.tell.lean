/-! TELL, FORGET, HOLD, RESTORE: both -/
section ET
variable {h h0 q : Hp} {n : Nat} {x1 x2 : Int32}
theorem frZ.hr {S : Nat → Nat → Prop} (f : frZ S h q) (m : ∀ x k, S x k → x < 226) (a k : Nat) (l : 226 ≤ a) : hi q a k = hi h a k := f.1 a k (fun z => Nat.not_le.mpr (m a k z) l)
theorem ezHeld.at (i : ezHeld h) (f : hi q 0 10 = hi h 0 10) (g : ∀ k, hi q 273 k = hi h 273 k) : ezHeld q := by
  obtain ⟨a, b, c, i1, i2, i3, i4⟩ := i
  exact ⟨a, b, c, f.trans i1, (g 0).trans i2, (g 1).trans i3, (g 2).trans i4⟩
/-- three cells written -/
theorem ez_wr {z zk t s K : Nat} {v u w : Int32} (d1 : t ≠ s) (d2 : t ≠ z) (d3 : s ≠ z) (e : q = wrI (wrI (wrI h t K v) s K u) z zk w) : hi q z zk = w ∧ hi q t K = v ∧ hi q s K = u ∧ ∀ a k, ¬ ((a = z ∧ k = zk) ∨ (a = t ∧ k = K) ∨ (a = s ∧ k = K)) → hi q a k = hi h a k := by
  subst e
  refine ⟨hiE rfl, ?_, ?_, fun a k m => ?_⟩
  · rw [hi_wrI, if_neg (fun y => d2 y.1), hi_wrI, if_neg (fun y => d1 y.1), hi_wrI, if_pos ⟨rfl, rfl⟩]
  · rw [hi_wrI, if_neg (fun y => d3 y.1), hi_wrI, if_pos ⟨rfl, rfl⟩]
  · rw [hi_wrI, if_neg (by omega), hi_wrI, if_neg (by omega), hi_wrI, if_neg (by omega)]
def ezT1 (h : Hp) (x1 x2 : Int32) (q : Int32 × Hp) : Prop := (((hi h 201 2).toInt < 20 ∧ 0 ≤ x1.toInt ∧ x1.toInt < 60) ∧ q.1 = hi h 201 2 + 1 - 1 ∧ q.2 = wrI (wrI (wrI h 202 (Int32.toNatClampNeg (hi h 201 2)) x1.toInt8.toInt32) 203 (Int32.toNatClampNeg (hi h 201 2)) x2) 201 2 (hi h 201 2 + 1)) ∨ (¬ ((hi h 201 2).toInt < 20 ∧ 0 ≤ x1.toInt ∧ x1.toInt < 60) ∧ q.1 = -1 ∧ q.2 = h)
theorem ez_tell11 : Pc (F_X11_tell n h x1 x2) (ezT1 h x1 x2) := by
  have f0 := lit_0
  have f20 := lit_20
  have f60 := lit_60
  have e1 (v : Int32) (k : Nat) : hi (wrI h 202 k v) 201 2 = hi h 201 2 := hiA rfl 201 2 (by decide)
  have e2 (v u : Int32) (k j : Nat) : hi (wrI (wrI h 202 k v) 203 j u) 201 2 = hi h 201 2 := (hiA rfl 201 2 (by decide)).trans (e1 v k)
  have e3 (g : Hp) (v : Int32) : hi (wrI g 201 2 v) 201 2 = v := hiE rfl
  unfold F_X11_tell
  refine Pc.bind (Q := ezT1 h x1 x2) ?_ (fun q1 h1 => Pc.ret h1)
  unfold F_X2_keep
  simp only [e1, e2, e3]
  refine Pc.le (fun c1 => Pc.ret (Or.inr ⟨fun z => by omega, rfl, rfl⟩)) (fun c1 => ?_)
  refine Pc.lt (fun c2 => Pc.ret (Or.inr ⟨fun z => by omega, rfl, rfl⟩)) (fun c2 => ?_)
  refine Pc.lt (fun c3 => ?_) (fun c3 => Pc.ret (Or.inr ⟨fun z => by omega, rfl, rfl⟩))
  exact Pc.chk (fun _ => Pc.chk (fun _ => Pc.ret (Or.inl ⟨⟨by omega, by omega, by omega⟩, rfl, rfl⟩)))
theorem ez_in {x3 : Int32} : Pc (F_X12_in n h x1 x2 x3) (fun q => q.2 = h ∧ (q.1.toInt ≠ 0 ↔ x2.toInt ≤ x1.toInt ∧ x1.toInt ≤ x3.toInt)) := by
  have f0 := lit_0
  have f1 := lit_1
  unfold F_X12_in
  refine Pc.lt (fun c1 => Pc.ret ⟨rfl, ?_⟩) (fun c1 => Pc.lt (fun c2 => Pc.ret ⟨rfl, ?_⟩) (fun c2 => Pc.ret ⟨rfl, ?_⟩))
  · show (0 : Int32).toInt ≠ 0 ↔ _
    omega
  · show (0 : Int32).toInt ≠ 0 ↔ _
    omega
  · show (1 : Int32).toInt ≠ 0 ↔ _
    omega
theorem ez_isTime : Pc (F_X12_isTime n h x1) (fun q => q.2 = h ∧ (q.1.toInt ≠ 0 ↔ 0 ≤ x1.toInt ∧ x1.toInt ≤ 59)) := by
  have f0 := lit_0
  have f59 := lit_59
  unfold F_X12_isTime
  refine Pc.bind ez_in (fun q1 h1 => Pc.chk (fun _ => Pc.ret ⟨h1.1, ?_⟩))
  show q1.1.toInt ≠ 0 ↔ _
  have := h1.2
  omega
def ezT2 (h : Hp) (x1 x2 : Int32) (q : Int32 × Hp) : Prop := (((hi h 226 65).toInt ≠ 20 ∧ 0 ≤ x1.toInt ∧ x1.toInt ≤ 59) ∧ q.1 = hi h 226 65 + 1 - 1 ∧ q.2 = wrI (wrI (wrI h 271 (Int32.toNatClampNeg (hi h 226 65)) x1) 272 (Int32.toNatClampNeg (hi h 226 65)) x2) 226 65 (hi h 226 65 + 1)) ∨ (¬ ((hi h 226 65).toInt ≠ 20 ∧ 0 ≤ x1.toInt ∧ x1.toInt ≤ 59) ∧ q.1 = -1 ∧ q.2 = h)
theorem ez_tell12 : Pc (F_X12_tell n h x1 x2) (ezT2 h x1 x2) := by
  have f0 := lit_0
  have f20 := lit_20
  have e1 (v : Int32) (k : Nat) : hi (wrI h 271 k v) 226 65 = hi h 226 65 := hiA rfl 226 65 (by decide)
  have e2 (v u : Int32) (k j : Nat) : hi (wrI (wrI h 271 k v) 272 j u) 226 65 = hi h 226 65 := (hiA rfl 226 65 (by decide)).trans (e1 v k)
  have e3 (g : Hp) (v : Int32) : hi (wrI g 226 65 v) 226 65 = v := hiE rfl
  unfold F_X12_tell
  refine Pc.eq (fun c1 => Pc.ret (Or.inr ⟨fun z => by omega, rfl, rfl⟩)) (fun c1 => ?_)
  refine Pc.bind ez_isTime (fun q2 h2 => ?_)
  obtain ⟨t1, t2⟩ := h2
  rw [t1]
  simp only [e1, e2, e3]
  refine Pc.eq (fun c2 => Pc.ret (Or.inr ⟨fun z => by omega, rfl, rfl⟩)) (fun c2 => ?_)
  exact Pc.chk (fun _ => Pc.chk (fun _ => Pc.ret (Or.inl ⟨⟨by omega, by omega, by omega⟩, rfl, rfl⟩)))
theorem tl_ie {q1 q2 : Int32 × Hp} {n1 n2 : Nat} (w : Ie h0) (e1 : F_X11_tell n1 h0 x1 x2 = some q1) (e2 : F_X12_tell n2 q1.2 x1 x2 = some q2) : q1.1 = q2.1 ∧ Ie q2.2 := by
  have r1 := ez_tell11 q1 e1
  have r2 := ez_tell12 q2 e2
  have k1 := frZ.hr (zf_X11_tell q1 e1) (fun x k z => by omega)
  obtain ⟨wh, w1, w2, w3⟩ := w
  have eS : hi q1.2 226 65 = hi h0 201 2 := (k1 226 65 (by decide)).trans w1.symm
  unfold ezT2 at r2
  rw [eS] at r2
  rcases r1 with ⟨a1, a2, a3⟩ | ⟨a1, a2, a3⟩
  · rcases r2 with ⟨b1, b2, b3⟩ | ⟨b1, _⟩
    · refine ⟨a2.trans b2.symm, ?_⟩
      obtain ⟨p1, p2, p3, p4⟩ := ez_wr (by decide) (by decide) (by decide) a3
      obtain ⟨o1, o2, o3, o4⟩ := ez_wr (by decide) (by decide) (by decide) b3
      have hn := ncT w2.1
      have f1 := lit_1
      have ad := adT (hi h0 201 2) 1 (by omega) (by omega)
      have s1 : hi q2.2 201 2 = hi h0 201 2 + 1 := (o4 201 2 (by omega)).trans p1
      refine ⟨wh.at ?_ (fun k => ?_), s1.trans o1.symm, by rw [s1]; omega, fun k hk => ?_⟩
      · rw [o4 0 10 (by omega), p4 0 10 (by omega)]
      · rw [o4 273 k (by omega), p4 273 k (by omega)]
      · rw [s1] at hk
        by_cases y : k = Int32.toNatClampNeg (hi h0 201 2)
        · rw [y, o2, o3, o4 202 _ (by omega), o4 203 _ (by omega), p2, p3, b8 x1 (by omega) (by omega)]
          exact ⟨rfl, rfl, by omega, by omega⟩
        · have := w3 k (by omega)
          rw [o4 202 k (by omega), o4 203 k (by omega), o4 271 k (by omega), o4 272 k (by omega), p4 202 k (by omega), p4 203 k (by omega), p4 271 k (by omega), p4 272 k (by omega)]
          exact this
    · exfalso; omega
  · rcases r2 with ⟨b1, _⟩ | ⟨b1, b2, b3⟩
    · exfalso; omega
    · refine ⟨a2.trans b2.symm, ?_⟩
      rw [b3, a3]
      exact ⟨wh, w1, w2, w3⟩
theorem fg_ie {q1 q2 : Int32 × Hp} {n1 n2 : Nat} (w : Ie h0) (e1 : F_X11_forget n1 h0 = some q1) (e2 : F_X12_forget n2 q1.2 = some q2) : q1.1 = q2.1 ∧ Ie q2.2 := by
  have r1 : Pc (F_X11_forget n1 h0) (fun q => q.1 = hi h0 201 2 ∧ q.2 = wrI h0 201 2 0) := by
    unfold F_X11_forget F_X2_clear
    exact Pc.bind (Q := fun g => g = wrI h0 201 2 0) (Pc.ret rfl) (fun g hg => Pc.ret ⟨rfl, hg⟩)
  have r2 : Pc (F_X12_forget n2 q1.2) (fun q => q.1 = hi q1.2 226 65 ∧ q.2 = wrI q1.2 226 65 0) := by
    unfold F_X12_forget
    exact Pc.ret ⟨rfl, rfl⟩
  obtain ⟨a1, a2⟩ := r1 q1 e1
  obtain ⟨b1, b2⟩ := r2 q2 e2
  obtain ⟨wh, w1, w2, w3⟩ := w
  have f0 := lit_0
  have e5 : hi q1.2 226 65 = hi h0 226 65 := by rw [a2, hi_wrI, if_neg (by decide)]
  have r (a k : Nat) (m : ¬ ((a = 201 ∧ k = 2) ∨ (a = 226 ∧ k = 65))) : hi q2.2 a k = hi h0 a k := by
    rw [b2, hi_wrI, if_neg (by omega), a2, hi_wrI, if_neg (by omega)]
  have s1 : hi q2.2 201 2 = 0 := by rw [b2, hi_wrI, if_neg (by decide), a2, hi_wrI, if_pos ⟨rfl, rfl⟩]
  have s2 : hi q2.2 226 65 = 0 := by rw [b2, hi_wrI, if_pos ⟨rfl, rfl⟩]
  refine ⟨by rw [a1, b1, e5, w1], wh.at (r 0 10 (by omega)) (fun k => r 273 k (by omega)), s1.trans s2.symm, by rw [s1]; omega, fun k hk => ?_⟩
  rw [s1] at hk
  exfalso; omega
/-- one of the three -/
theorem ez_three (c1 : 0 ≤ x1.toInt) (c2 : x1.toInt < 3) : x1 = 0 ∨ x1 = 1 ∨ x1 = 2 := by
  have f0 := lit_0
  have f1 := lit_1
  have f2 := lit_2
  by_cases y : x1.toInt = 0
  · exact Or.inl (Int32.toInt_inj.mp (by omega))
  · by_cases z : x1.toInt = 1
    · exact Or.inr (Or.inl (Int32.toInt_inj.mp (by omega)))
    · exact Or.inr (Or.inr (Int32.toInt_inj.mp (by omega)))
theorem ezM_0 (a b c : Bool) : ezM a b c ||| ((1 : Int32) <<< ((0 : Int32) &&& 31)) = ezM true b c := by
  cases a <;> cases b <;> cases c <;> decide
theorem ezM_1 (a b c : Bool) : ezM a b c ||| ((1 : Int32) <<< ((1 : Int32) &&& 31)) = ezM a true c := by
  cases a <;> cases b <;> cases c <;> decide
theorem ezM_2 (a b c : Bool) : ezM a b c ||| ((1 : Int32) <<< ((2 : Int32) &&& 31)) = ezM a b true := by
  cases a <;> cases b <;> cases c <;> decide
theorem ezS_0 (a b c : Bool) : (((ezM a b c).toUInt32 >>> ((0 : Int32).toUInt32 &&& Int32.toUInt32 31)).toInt32) &&& (1 : Int32) = ezB a := by
  cases a <;> cases b <;> cases c <;> decide
theorem ezS_1 (a b c : Bool) : (((ezM a b c).toUInt32 >>> ((1 : Int32).toUInt32 &&& Int32.toUInt32 31)).toInt32) &&& (1 : Int32) = ezB b := by
  cases a <;> cases b <;> cases c <;> decide
theorem ezS_2 (a b c : Bool) : (((ezM a b c).toUInt32 >>> ((2 : Int32).toUInt32 &&& Int32.toUInt32 31)).toInt32) &&& (1 : Int32) = ezB c := by
  cases a <;> cases b <;> cases c <;> decide
theorem ezB_nar (a : Bool) : vp_nar .boolean (ezB a) = ezB a := by cases a <;> decide
theorem ez_hold11 : Pc (F_X11_hold n h x1) (fun q => (¬ (0 ≤ x1.toInt ∧ x1.toInt < 3) ∧ q.2 = h) ∨ ((0 ≤ x1.toInt ∧ x1.toInt < 3) ∧ hi q.2 0 10 = (hi h 0 10 ||| ((1 : Int32) <<< (x1 &&& 31))) ∧ ∀ a k, ezC a k → ¬ (a = 0 ∧ k = 10) → hi q.2 a k = hi h a k)) := by
  have f0 := lit_0
  have f3 := lit_3
  unfold F_X11_hold
  refine Pc.lt (fun c1 => Pc.ret (Or.inl ⟨by omega, rfl⟩)) (fun c1 => ?_)
  refine Pc.lt (fun c2 => Pc.chk (fun _ => ?_)) (fun c2 => Pc.ret (Or.inl ⟨by omega, rfl⟩))
  have n1 := ncT (show 0 ≤ x1.toInt by omega)
  refine Pc.bind zf_X8_become (fun q4 h4 => Pc.ret (Or.inr ⟨⟨by omega, by omega⟩, ?_, fun a k c m => ?_⟩))
  · have k4 : ezK h q4 := ezK.z h4 (fun x k z => by unfold ezC; omega)
    show hi (wrI q4 0 10 _) 0 10 = _
    rw [hi_wrI, if_pos ⟨rfl, rfl⟩, k4 0 10 (by unfold ezC; omega)]
  · have k4 : ezK h q4 := ezK.z h4 (fun x k z => by unfold ezC; omega)
    show hi (wrI q4 0 10 _) a k = _
    rw [hi_wrI, if_neg m]
    exact k4 a k c
theorem ez_hold12 : Pc (F_X12_hold n h x1) (fun q => (¬ (0 ≤ x1.toInt ∧ x1.toInt < 3) ∧ q.2 = h) ∨ ((0 ≤ x1.toInt ∧ x1.toInt < 3) ∧ hi q.2 273 (Int32.toNatClampNeg x1) = 1 ∧ ∀ a k, ezC a k → ¬ (a = 273 ∧ k = Int32.toNatClampNeg x1) → hi q.2 a k = hi h a k)) := by
  have f0 := lit_0
  have f2 := lit_2
  unfold F_X12_hold
  refine Pc.bind ez_in (fun q4 h4 => ?_)
  obtain ⟨t1, t2⟩ := h4
  refine Pc.eq (fun c1 => Pc.ret (Or.inl ⟨by omega, t1⟩)) (fun c1 => Pc.chk (fun _ => ?_))
  rw [t1]
  refine Pc.mono (zw_X12_hold n 20 _ x1 0) (fun q hq => Or.inr ⟨⟨by omega, by omega⟩, ?_, fun a k c m => ?_⟩)
  · have k4 : ezK (wrI h 273 (Int32.toNatClampNeg x1) 1) q.2 := ezK.z hq (fun x k z => by unfold ezC; omega)
    rw [k4 273 _ (by unfold ezC; omega), hi_wrI, if_pos ⟨rfl, rfl⟩]
  · have k4 : ezK (wrI h 273 (Int32.toNatClampNeg x1) 1) q.2 := ezK.z hq (fun x k z => by unfold ezC; omega)
    rw [k4 a k c, hi_wrI, if_neg m]
theorem hd_ie {q1 q2 : Int32 × Hp} {n1 n2 : Nat} (w : Ie h0) (e1 : F_X11_hold n1 h0 x1 = some q1) (e2 : F_X12_hold n2 q1.2 x1 = some q2) : Ie q2.2 := by
  rcases ez_hold11 q1 e1 with ⟨a1, a2⟩ | ⟨a1, a2, a3⟩
  · rcases ez_hold12 q2 e2 with ⟨b1, b2⟩ | ⟨b1, _⟩
    · rw [b2, a2]; exact w
    · exact absurd b1 a1
  · rcases ez_hold12 q2 e2 with ⟨b1, _⟩ | ⟨b1, b2, b3⟩
    · exact absurd a1 b1
    · have r (a k : Nat) (c : ezC a k) (m1 : ¬ (a = 0 ∧ k = 10)) (m2 : ¬ (a = 273 ∧ k = Int32.toNatClampNeg x1)) : hi q2.2 a k = hi h0 a k := (b3 a k c m2).trans (a3 a k c m1)
      have e0 : hi q2.2 0 10 = (hi h0 0 10 ||| ((1 : Int32) <<< (x1 &&& 31))) := (b3 0 10 (by unfold ezC; omega) (by omega)).trans a2
      obtain ⟨⟨u, v, t, i1, i2, i3, i4⟩, w1, w2, w3⟩ := w
      have s1 : hi q2.2 201 2 = hi h0 201 2 := r 201 2 (by unfold ezC; omega) (by omega) (by omega)
      refine ⟨?_, ?_⟩
      · rcases ez_three a1.1 a1.2 with z | z | z
        · subst z
          have k0 : Int32.toNatClampNeg (0 : Int32) = 0 := by decide
          rw [k0] at b2 r
          refine ⟨true, v, t, ?_, b2, ?_, ?_⟩
          · rw [e0, i1, ezM_0]
          · rw [r 273 1 (by unfold ezC; omega) (by omega) (by omega)]; exact i3
          · rw [r 273 2 (by unfold ezC; omega) (by omega) (by omega)]; exact i4
        · subst z
          have k0 : Int32.toNatClampNeg (1 : Int32) = 1 := by decide
          rw [k0] at b2 r
          refine ⟨u, true, t, ?_, ?_, b2, ?_⟩
          · rw [e0, i1, ezM_1]
          · rw [r 273 0 (by unfold ezC; omega) (by omega) (by omega)]; exact i2
          · rw [r 273 2 (by unfold ezC; omega) (by omega) (by omega)]; exact i4
        · subst z
          have k0 : Int32.toNatClampNeg (2 : Int32) = 2 := by decide
          rw [k0] at b2 r
          refine ⟨u, v, true, ?_, ?_, ?_, b2⟩
          · rw [e0, i1, ezM_2]
          · rw [r 273 0 (by unfold ezC; omega) (by omega) (by omega)]; exact i2
          · rw [r 273 1 (by unfold ezC; omega) (by omega) (by omega)]; exact i3
      · unfold ezTold
        rw [s1, r 226 65 (by unfold ezC; omega) (by omega) (by omega)]
        refine ⟨w1, w2, fun k hk => ?_⟩
        rw [r 202 k (by unfold ezC; omega) (by omega) (by omega), r 203 k (by unfold ezC; omega) (by omega) (by omega), r 271 k (by unfold ezC; omega) (by omega) (by omega), r 272 k (by unfold ezC; omega) (by omega) (by omega)]
        exact w3 k hk
theorem ez_rest11 : Pc (F_X11_restore n h x1) (fun q => (¬ (0 ≤ x1.toInt ∧ x1.toInt < 3) ∧ q.1 = 0) ∨ ((0 ≤ x1.toInt ∧ x1.toInt < 3) ∧ (((hi h 0 10).toUInt32 >>> (x1.toUInt32 &&& Int32.toUInt32 31)).toInt32 &&& (1 : Int32) = 0 ∧ q.1 = 0 ∨ ¬ ((hi h 0 10).toUInt32 >>> (x1.toUInt32 &&& Int32.toUInt32 31)).toInt32 &&& (1 : Int32) = 0 ∧ q.1 = 1))) := by
  have f0 := lit_0
  have f3 := lit_3
  unfold F_X11_restore
  refine Pc.lt (fun c1 => Pc.ret (Or.inl ⟨by omega, rfl⟩)) (fun c1 => ?_)
  refine Pc.le (fun c2 => Pc.ret (Or.inl ⟨by omega, rfl⟩)) (fun c2 => ?_)
  refine Pc.ite (fun c3 => Pc.ret (Or.inr ⟨⟨by omega, by omega⟩, Or.inl ⟨c3, rfl⟩⟩)) (fun c3 => Pc.chk (fun _ => ?_))
  refine Pc.bind zf_X8_become (fun q5 _ => ?_)
  exact Pc.bind zf_X6_clear (fun q7 _ => Pc.ret (Or.inr ⟨⟨by omega, by omega⟩, Or.inr ⟨c3, rfl⟩⟩))
theorem ez_restW : ∀ (n : Nat) (hd : Nat) (h : Hp) (l1 l2 : Int32), Pc (W_X12_restore n hd h l1 l2) (fun q => q.1 = 1) := by
  intro n
  induction n with
  | zero => intro hd h l1 l2; exact Pc.no
  | succ n ih =>
    intro hd h l1 l2
    rw [u_X12_restore]
    refine Pc.ite (fun _ => ?_) (fun _ => Pc.no)
    exact Pc.ite (fun _ => Pc.ret rfl) (fun _ => Pc.chk (fun _ => Pc.chk (fun _ => ih _ _ _ _)))
theorem ez_rest12 : Pc (F_X12_restore n h x1) (fun q => (¬ (0 ≤ x1.toInt ∧ x1.toInt < 3) ∧ q.1 = 0) ∨ ((0 ≤ x1.toInt ∧ x1.toInt < 3) ∧ (vp_nar .boolean (hi h 273 (Int32.toNatClampNeg x1)) = 0 ∧ q.1 = 0 ∨ ¬ vp_nar .boolean (hi h 273 (Int32.toNatClampNeg x1)) = 0 ∧ q.1 = 1))) := by
  have f0 := lit_0
  have f2 := lit_2
  unfold F_X12_restore
  refine Pc.bind ez_in (fun q4 h4 => ?_)
  obtain ⟨t1, t2⟩ := h4
  rw [t1]
  refine Pc.eq (fun c1 => Pc.ret (Or.inl ⟨by omega, rfl⟩)) (fun c1 => Pc.chk (fun _ => ?_))
  refine Pc.ite (fun c3 => Pc.ret (Or.inr ⟨⟨by omega, by omega⟩, Or.inl ⟨c3, rfl⟩⟩)) (fun c3 => ?_)
  exact Pc.mono (ez_restW n 22 h x1 0) (fun q hq => Or.inr ⟨⟨by omega, by omega⟩, Or.inr ⟨c3, hq⟩⟩)
theorem rs_ie {q1 q2 : Int32 × Hp} {n1 n2 : Nat} (w : Ie h0) (e1 : F_X11_restore n1 h0 x1 = some q1) (e2 : F_X12_restore n2 q1.2 x1 = some q2) : q1.1 = q2.1 ∧ Ie q2.2 := by
  have k1 := frZ.hr (zf_X11_restore q1 e1) (fun x k z => by omega)
  have z1 : ezK h0 q1.2 := ezK.z (zf_X11_restore q1 e1) (fun x k z => by unfold ezC; omega)
  have z2 : ezK q1.2 q2.2 := ezK.z (zf_X12_restore q2 e2) (fun x k z => by unfold ezC; omega)
  refine ⟨?_, w.ke (z1.tr z2)⟩
  obtain ⟨⟨u, v, t, i1, i2, i3, i4⟩, -⟩ := w
  have same (b : Bool) (r1 : ezB b = 0 ∧ q1.1 = 0 ∨ ¬ ezB b = 0 ∧ q1.1 = 1) (r2 : ezB b = 0 ∧ q2.1 = 0 ∨ ¬ ezB b = 0 ∧ q2.1 = 1) : q1.1 = q2.1 := by
    rcases r1 with ⟨a, a'⟩ | ⟨a, a'⟩
    · rcases r2 with ⟨c, c'⟩ | ⟨c, c'⟩
      · rw [a', c']
      · exact absurd a c
    · rcases r2 with ⟨c, c'⟩ | ⟨c, c'⟩
      · exact absurd c a
      · rw [a', c']
  rcases ez_rest11 q1 e1 with ⟨a1, a2⟩ | ⟨a1, a2⟩
  · rcases ez_rest12 q2 e2 with ⟨b1, b2⟩ | ⟨b1, _⟩
    · rw [a2, b2]
    · exact absurd b1 a1
  · rcases ez_rest12 q2 e2 with ⟨b1, _⟩ | ⟨b1, b2⟩
    · exact absurd a1 b1
    · rw [i1] at a2
      rw [k1 273 _ (by decide)] at b2
      rcases ez_three a1.1 a1.2 with z | z | z
      · subst z
        have k0 : Int32.toNatClampNeg (0 : Int32) = 0 := by decide
        rw [k0, i2, ezB_nar] at b2
        rw [ezS_0] at a2
        exact same u a2 b2
      · subst z
        have k0 : Int32.toNatClampNeg (1 : Int32) = 1 := by decide
        rw [k0, i3, ezB_nar] at b2
        rw [ezS_1] at a2
        exact same v a2 b2
      · subst z
        have k0 : Int32.toNatClampNeg (2 : Int32) = 2 := by decide
        rw [k0, i4, ezB_nar] at b2
        rw [ezS_2] at a2
        exact same t a2 b2
end ET
