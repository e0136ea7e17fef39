/-! THE CLASS: words, numbers, one TOKEN kept -/
def KL (v r : Int) : Prop := (∃ k : Nat, k < 22 ∧ r = (k : Int) ∧ v = wdN32 k ∧ ∀ j, j < k → v ≠ wdN32 j) ∨ (r = 31 ∧ ∀ j, j < 22 → v ≠ wdN32 j)
def WD (h : Hp) : Prop := ∀ k, k < 22 → (hl h 19 k).toInt = wdN32 k
section LX3
variable {bs : Nat → Int} {m : Nat} {h : Hp}
theorem pc_lettersOf (B : BS bs m) (S : SC bs m h) {l1 l2 : Int32} {i e : Nat} (he : l2.toInt = (e : Int)) (e2 : e ≤ 2000) (hl' : ∀ j, i ≤ j → j < e → isLt (bs j)) : ∀ (n : Nat) (l3 : Int64) (l5 : Int32) (k : Nat), l5.toInt = ((i + k : Nat) : Int) → i + k ≤ e → (k ≤ 8 → l3.toInt = wnR 32 96 bs i k) → Pc (W_X9_lettersOf n 5 h l1 l2 l3 l5) (fun q => q.2 = h ∧ (e ≤ i + 8 → q.1.toInt = wnR 32 96 bs i (e - i))) := by
  have f1 := lit_1
  have f97 := lit_97
  intro n
  induction n with
  | zero => intro l3 l5 k a b c; exact Pc.no
  | succ n ih =>
    intro l3 l5 k a b c
    rw [u_X9_lettersOf]
    refine Pc.pos rfl ?_
    refine Pc.le (fun c1 => Pc.ret ⟨rfl, fun z => ?_⟩) (fun c1 => ?_)
    · have ek : e - i = k := by omega
      rw [ek]
      exact c (by omega)
    · refine Pc.bind (pc_signAt B S) (fun q2 h2 => ?_)
      rw [h2.1]
      have v2 := h2.2 (i + k) a
      refine Pc.bind (Q := fun q => q.2 = h ∧ q.1 = l3 * 32 + ((q2.1 - 97) + 1).toInt64) (by unfold F_X9_withLetter; exact Pc.ret ⟨rfl, rfl⟩) (fun q4 h4 => ?_)
      rw [h4.1]
      have a1 := adT l5 1 (by omega) (by omega)
      refine ih q4.1 (l5 + 1) (k + 1) (by omega) (by omega) (fun k8 => ?_)
      have w := c (by omega)
      have wb := wn_32 (bs := bs) (i := i) (k := k) (by omega) (fun j p q => hl' j p (by omega))
      have lt := hl' (i + k) (by omega) (by omega)
      unfold isLt at lt
      have s1 := sbT q2.1 97 (by omega) (by omega)
      have s2 := adT (q2.1 - 97) 1 (by omega) (by omega)
      have s3 := t64 ((q2.1 - 97) + 1)
      have s4 := mlL l3 32 32 lit32L (by omega) (by omega)
      have s5 := adL (l3 * 32) ((q2.1 - 97) + 1).toInt64 (by omega) (by omega)
      rw [h4.2, s5, s4, s3, s2, s1, w, v2, f97, f1]
      show wnR 32 96 bs i k * 32 + (bs (i + k) - 97 + 1) = 32 * wnR 32 96 bs i k + (bs (i + k) - 96)
      omega
theorem pc_kindOfLetters (W : WD h) {x1 : Int64} : ∀ (n : Nat) (l3 : Int32) (k : Nat), l3.toInt = (k : Int) → k ≤ 22 → (∀ j, j < k → x1.toInt ≠ wdN32 j) → Pc (W_X9_kindOfLetters n 2 h x1 l3) (fun q => q.2 = h ∧ KL x1.toInt q.1.toInt) := by
  have f1 := lit_1
  have f22 := lit_22
  have f0 := lit_0
  intro n
  induction n with
  | zero => intro l3 k a b c; exact Pc.no
  | succ n ih =>
    intro l3 k a b c
    rw [u_X9_kindOfLetters]
    refine Pc.pos rfl ?_
    refine Pc.le (fun c1 => Pc.ret ⟨rfl, Or.inr ⟨by show (31 : Int32).toInt = 31; decide, fun j hj => c j (by omega)⟩⟩) (fun c1 => ?_)
    refine Pc.chk (fun c2 => ?_)
    have n1 := ncT (show 0 ≤ l3.toInt by omega)
    have n2 : Int32.toNatClampNeg l3 = k := by omega
    rw [n2]
    have lz := lgz (hl h 19 k) x1
    rw [W k (by omega)] at lz
    refine Pc.eq (fun c3 => Pc.ret ⟨rfl, Or.inl ⟨k, by omega, a, ?_, c⟩⟩) (fun c3 => ?_)
    · exact (lz.mp (c3.trans f0)).symm
    · have a1 := adT l3 1 (by omega) (by omega)
      refine ih (l3 + 1) (k + 1) (by omega) (by omega) (fun j hj => ?_)
      by_cases z : j = k
      · rw [z]
        exact fun y => c3 ((lz.mpr y.symm).trans f0.symm)
      · exact c j (by omega)
theorem pc_numberOf (B : BS bs m) (S : SC bs m h) {l1 l2 : Int32} {i e : Nat} (he : l2.toInt = (e : Int)) (e2 : e ≤ 2000) (hl' : ∀ j, i ≤ j → j < e → isDg (bs j)) : ∀ (n : Nat) (l3 l4 : Int32) (k : Nat), l4.toInt = ((i + k : Nat) : Int) → i + k ≤ e → (k ≤ 4 → l3.toInt = wnR 10 48 bs i k) → Pc (W_X9_numberOf n 5 h l1 l2 l3 l4) (fun q => q.2 = h ∧ (e ≤ i + 4 → q.1.toInt = wnR 10 48 bs i (e - i))) := by
  have f1 := lit_1
  have f10 := lit_10
  have f48 := lit_48
  intro n
  induction n with
  | zero => intro l3 l4 k a b c; exact Pc.no
  | succ n ih =>
    intro l3 l4 k a b c
    rw [u_X9_numberOf]
    refine Pc.pos rfl ?_
    refine Pc.le (fun c1 => Pc.ret ⟨rfl, fun z => ?_⟩) (fun c1 => ?_)
    · have ek : e - i = k := by omega
      rw [ek]
      exact c (by omega)
    · refine Pc.bind (pc_signAt B S) (fun q2 h2 => ?_)
      rw [h2.1]
      have v2 := h2.2 (i + k) a
      have a1 := adT l4 1 (by omega) (by omega)
      refine ih _ (l4 + 1) (k + 1) (by omega) (by omega) (fun k8 => ?_)
      have w := c (by omega)
      have wb := wn_10 (bs := bs) (i := i) (k := k) (by omega) (fun j p q => hl' j p (by omega))
      have lt := hl' (i + k) (by omega) (by omega)
      unfold isDg at lt
      have s1 := sbT q2.1 48 (by omega) (by omega)
      have s4 := mlT 10 l3 10 lit_10 (by omega) (by omega)
      have s5 := adT (10 * l3) (q2.1 - 48) (by omega) (by omega)
      rw [s5, s4, s1, w, v2, f48]
      rfl
theorem pc_isSign {n : Nat} {x1 : Int32} : Pc (F_X9_isSign n h x1) (fun q => q.2 = h ∧ (q.1.toInt ≠ 0 ↔ isSg x1.toInt)) := by
  have f0 := lit_0
  have f1 := lit_1
  have l40 := lit_40
  have l41 := lit_41
  have l42 := lit_42
  have l43 := lit_43
  have l44 := lit_44
  have l45 := lit_45
  have l46 := lit_46
  have l47 := lit_47
  have l48 := lit_48
  have l49 := lit_49
  have l50 := lit_50
  have l51 := lit_51
  have l52 := lit_52
  have l53 := lit_53
  have l54 := lit_54
  have l55 := lit_55
  have l56 := lit_56
  have l57 := lit_57
  have l58 := lit_58
  have l59 := lit_59
  have l60 := lit_60
  have l61 := lit_61
  have yes : isSg x1.toInt → Pc (some ((1 : Int32), h)) (fun q => q.2 = h ∧ (q.1.toInt ≠ 0 ↔ isSg x1.toInt)) := fun z => Pc.ret ⟨rfl, fun _ => z, fun _ => by show (1 : Int32).toInt ≠ 0; omega⟩
  have no : ¬ isSg x1.toInt → Pc (some ((0 : Int32), h)) (fun q => q.2 = h ∧ (q.1.toInt ≠ 0 ↔ isSg x1.toInt)) := fun z => Pc.ret ⟨rfl, fun y => absurd f0 y, fun y => absurd y z⟩
  unfold F_X9_isSign
  refine Pc.eq (fun c => yes (by unfold isSg; omega)) (fun c40 => ?_)
  refine Pc.eq (fun c => yes (by unfold isSg; omega)) (fun c41 => ?_)
  refine Pc.eq (fun c => yes (by unfold isSg; omega)) (fun c42 => ?_)
  refine Pc.eq (fun c => yes (by unfold isSg; omega)) (fun c43 => ?_)
  refine Pc.eq (fun c => no (by unfold isSg; omega)) (fun c44 => ?_)
  refine Pc.eq (fun c => yes (by unfold isSg; omega)) (fun c45 => ?_)
  refine Pc.eq (fun c => no (by unfold isSg; omega)) (fun c46 => ?_)
  refine Pc.eq (fun c => yes (by unfold isSg; omega)) (fun c47 => ?_)
  refine Pc.eq (fun c => no (by unfold isSg; omega)) (fun c48 => ?_)
  refine Pc.eq (fun c => no (by unfold isSg; omega)) (fun c49 => ?_)
  refine Pc.eq (fun c => no (by unfold isSg; omega)) (fun c50 => ?_)
  refine Pc.eq (fun c => no (by unfold isSg; omega)) (fun c51 => ?_)
  refine Pc.eq (fun c => no (by unfold isSg; omega)) (fun c52 => ?_)
  refine Pc.eq (fun c => no (by unfold isSg; omega)) (fun c53 => ?_)
  refine Pc.eq (fun c => no (by unfold isSg; omega)) (fun c54 => ?_)
  refine Pc.eq (fun c => no (by unfold isSg; omega)) (fun c55 => ?_)
  refine Pc.eq (fun c => no (by unfold isSg; omega)) (fun c56 => ?_)
  refine Pc.eq (fun c => no (by unfold isSg; omega)) (fun c57 => ?_)
  refine Pc.eq (fun c => no (by unfold isSg; omega)) (fun c58 => ?_)
  refine Pc.eq (fun c => yes (by unfold isSg; omega)) (fun c59 => ?_)
  refine Pc.eq (fun c => yes (by unfold isSg; omega)) (fun c60 => ?_)
  exact Pc.eq (fun c => yes (by unfold isSg; omega)) (fun c61 => no (by unfold isSg; omega))
/-- a TOKEN's kind, where it ends, what it is worth: the class's numbers -/
def TkE (bs : Nat → Int) (i e : Nat) : Prop := (isLt (bs i) ∧ RunE isLt bs i e) ∨ (isDg (bs i) ∧ RunE isDg bs i e) ∨ (¬ isLt (bs i) ∧ ¬ isDg (bs i) ∧ e = i + 1)
def TkC (bs : Nat → Int) (i e : Nat) (kd : Int) (v : Int) : Prop := (isLt (bs i) ∧ ((i + 8 < e ∧ kd = 33) ∨ (e ≤ i + 8 ∧ KL (wnR 32 96 bs i (e - i)) kd ∧ v = wnR 32 96 bs i (e - i)))) ∨ (isDg (bs i) ∧ ((i + 4 < e ∧ kd = 33) ∨ (e ≤ i + 4 ∧ kd = 30 ∧ v = wnR 10 48 bs i (e - i)))) ∨ (isSg (bs i) ∧ kd = bs i) ∨ (¬ isLt (bs i) ∧ ¬ isDg (bs i) ∧ ¬ isSg (bs i) ∧ kd = 33)
/-- one more is kept -/
def KP (h h' : Hp) (x1 kd : Int32) (v : Int64) : Prop := (∀ a k, a ≠ 20 → a ≠ 21 → ¬ (a = 18 ∧ k = 5) → hi h' a k = hi h a k) ∧ (∀ a k, a ≠ 22 → hl h' a k = hl h a k) ∧ hi h' 18 5 = hi h 18 5 + 1 ∧ (∀ k, hi h' 20 k = if k = Int32.toNatClampNeg (hi h 18 5) then kd.toInt8.toInt32 else hi h 20 k) ∧ (∀ k, hi h' 21 k = if k = Int32.toNatClampNeg (hi h 18 5) then x1.toInt16.toInt32 else hi h 21 k) ∧ (∀ k, hl h' 22 k = if k = Int32.toNatClampNeg (hi h 18 5) then v else hl h 22 k)
def kpT (h : Hp) (x1 e kd : Int32) (v : Int64) : Option (Int32 × Hp) := (if (401 : Int32) ≤ ((hi h 18 5) : Int32) then some (e, h) else (if ixOK (hi h 18 5) 401 = true then (if ixOK (hi (wrI h 20 (Int32.toNatClampNeg (hi h 18 5)) kd.toInt8.toInt32) 18 5) 401 = true then (if ixOK (hi (wrI (wrI h 20 (Int32.toNatClampNeg (hi h 18 5)) kd.toInt8.toInt32) 21 (Int32.toNatClampNeg (hi (wrI h 20 (Int32.toNatClampNeg (hi h 18 5)) kd.toInt8.toInt32) 18 5)) x1.toInt16.toInt32) 18 5) 401 = true then some (e, (wrI (wrL (wrI (wrI h 20 (Int32.toNatClampNeg (hi h 18 5)) kd.toInt8.toInt32) 21 (Int32.toNatClampNeg (hi (wrI h 20 (Int32.toNatClampNeg (hi h 18 5)) kd.toInt8.toInt32) 18 5)) x1.toInt16.toInt32) 22 (Int32.toNatClampNeg (hi (wrI (wrI h 20 (Int32.toNatClampNeg (hi h 18 5)) kd.toInt8.toInt32) 21 (Int32.toNatClampNeg (hi (wrI h 20 (Int32.toNatClampNeg (hi h 18 5)) kd.toInt8.toInt32) 18 5)) x1.toInt16.toInt32) 18 5)) v) 18 5 ((hi (wrL (wrI (wrI h 20 (Int32.toNatClampNeg (hi h 18 5)) kd.toInt8.toInt32) 21 (Int32.toNatClampNeg (hi (wrI h 20 (Int32.toNatClampNeg (hi h 18 5)) kd.toInt8.toInt32) 18 5)) x1.toInt16.toInt32) 22 (Int32.toNatClampNeg (hi (wrI (wrI h 20 (Int32.toNatClampNeg (hi h 18 5)) kd.toInt8.toInt32) 21 (Int32.toNatClampNeg (hi (wrI h 20 (Int32.toNatClampNeg (hi h 18 5)) kd.toInt8.toInt32) 18 5)) x1.toInt16.toInt32) 18 5)) v) 18 5) + 1))) else none) else none) else none))
set_option maxRecDepth 100000 in
theorem pc_kpT {x1 e kd : Int32} {v : Int64} (k4 : (hi h 18 5).toInt < 401) : Pc (kpT h x1 e kd v) (fun q => q.1 = e ∧ KP h q.2 x1 kd v) := by
  have f4 := lit_401
  unfold kpT
  refine Pc.le (fun c1 => by exfalso; omega) (fun c1 => ?_)
  generalize ek : Int32.toNatClampNeg (hi h 18 5) = k
  generalize eg1 : wrI h 20 k kd.toInt8.toInt32 = g1
  have r1 : hi g1 18 5 = hi h 18 5 := hiA eg1 18 5 (by decide)
  rw [r1, ek]
  generalize eg2 : wrI g1 21 k x1.toInt16.toInt32 = g2
  have r2 : hi g2 18 5 = hi h 18 5 := (hiA eg2 18 5 (by decide)).trans r1
  rw [r2, ek]
  generalize eg3 : wrL g2 22 k v = g3
  have r3 : hi g3 18 5 = hi h 18 5 := (hiLL eg3 18 5).trans r2
  rw [r3]
  generalize eg4 : wrI g3 18 5 (hi h 18 5 + 1) = g4
  refine Pc.chk (fun _ => Pc.chk (fun _ => Pc.chk (fun _ => Pc.ret ⟨rfl, ?_⟩)))
  show KP h g4 x1 kd v
  unfold KP
  rw [ek]
  refine ⟨fun a z n1 n2 n3 => ?_, fun a z n1 => ?_, hiE eg4, fun z => ?_, fun z => ?_, fun z => ?_⟩
  · rw [← eg4, hi_wrI, if_neg n3, hiLL eg3, hiA eg2 a z n2, hiA eg1 a z n1]
  · rw [← eg4, hl_wrI, ← eg3, hl_wrL, if_neg (fun w => n1 w.1), ← eg2, hl_wrI, ← eg1, hl_wrI]
  · rw [hiA eg4 20 z (by decide), hiLL eg3, hiA eg2 20 z (by decide), ← eg1, hi_wrI]
    by_cases y : z = k
    · rw [if_pos ⟨rfl, y⟩, if_pos y]
    · rw [if_neg (fun w => y w.2), if_neg y]
  · rw [hiA eg4 21 z (by decide), hiLL eg3, ← eg2, hi_wrI]
    by_cases y : z = k
    · rw [if_pos ⟨rfl, y⟩, if_pos y]
    · rw [if_neg (fun w => y w.2), if_neg y, ← eg1, hi_wrI, if_neg (by omega)]
  · rw [← eg4, hl_wrI, ← eg3, hl_wrL]
    by_cases y : z = k
    · rw [if_pos ⟨rfl, y⟩, if_pos y]
    · rw [if_neg (fun w => y w.2), if_neg y, ← eg2, hl_wrI, ← eg1, hl_wrI]
end LX3
