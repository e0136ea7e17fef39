/-! THE CELLS BESIDE: near in the reference, grown in the class -/
theorem bt_shl (x : Int32) {c : Int32} {m : Nat} (hc : c.toInt = (m : Int)) (hm : m < 32) {i : Nat} (hi' : i < 32) : bt (x <<< (c &&& 31)) i = (decide (m ≤ i) && bt x (i - m)) := by
  have h2 := ncT (show 0 ≤ c.toInt by omega)
  have e : Int32.toNatClampNeg c = m := by omega
  unfold bt
  rw [Int32.toBitVec_shiftLeft]
  show (x.toBitVec <<< (BitVec.smod (Int32.toBitVec (c &&& 31)) 32#32).toNat).getLsbD i = _
  rw [smodC (by omega) (by omega), e, BitVec.getLsbD_shiftLeft, decide_eq_true hi', Bool.true_and]
  by_cases y : m ≤ i
  · rw [decide_eq_true y, decide_eq_false (show ¬ i < m by omega)]; rfl
  · rw [decide_eq_false y, decide_eq_true (show i < m by omega)]; rfl
theorem shrK : ∀ m, m < 32 → (((Int32.ofNat m).toUInt32 &&& Int32.toUInt32 31).toBitVec % 32#32).toNat = m := by decide +kernel
theorem bt_shr (x : Int32) {c : Int32} {m : Nat} (hc : c.toInt = (m : Int)) (hm : m < 32) (i : Nat) : bt ((x.toUInt32 >>> (c.toUInt32 &&& Int32.toUInt32 31)).toInt32) i = bt x (m + i) := by
  have e : c = Int32.ofNat m := nOf hc (by omega)
  subst e
  unfold bt
  show (x.toUInt32 >>> ((Int32.ofNat m).toUInt32 &&& Int32.toUInt32 31)).toBitVec.getLsbD i = _
  rw [UInt32.toBitVec_shiftRight]
  show (x.toBitVec >>> (((Int32.ofNat m).toUInt32 &&& Int32.toUInt32 31).toBitVec % 32#32).toNat).getLsbD i = _
  rw [shrK m hm, BitVec.getLsbD_ushiftRight]
theorem md_tab : ∀ w, w < 6 → ∀ i, i < 25 → w < 2 ∨ ((i % w = 0 ∨ (i - 1) % w + 1 < w) ∧ (¬ i % w + 1 < w ∨ ¬ (i + 1) % w = 0)) := by decide +kernel
/-- beside one of a set, or in it -/
def nrP (T : TT) (p : Nat → Prop) (i : Nat) : Prop := ∃ j k, (j < wT T * gT T ∧ k < 5) ∧ p j ∧ sdv (wT T) (gT T) j k = i
section RYE
variable {s : Nat} {T : TT} {h h0 q g : Hp} {n n1 n2 : Nat} {x1 x2 x3 : Int32} {a : Nat}
theorem nrP.cg {p p' : Nat → Prop} (e : ∀ j, j < wT T * gT T → (p j ↔ p' j)) (i : Nat) : nrP T p i ↔ nrP T p' i := by
  refine ⟨fun z => ?_, fun z => ?_⟩
  · obtain ⟨j, k, z1, z2, z3⟩ := z
    exact ⟨j, k, z1, (e j z1.1).mp z2, z3⟩
  · obtain ⟨j, k, z1, z2, z3⟩ := z
    exact ⟨j, k, z1, (e j z1.1).mpr z2, z3⟩
theorem nrP_lt (v : VT T) {p : Nat → Prop} {i : Nat} (z : nrP T p i) : i < wT T * gT T := by
  obtain ⟨c25, ⟨w2, w5⟩, ⟨g2, g5⟩, -, -⟩ := wg_T v
  obtain ⟨j, k, z1, z2, z3⟩ := z
  rw [← z3]
  exact (sdv_all (wT T) (by omega) (gT T) (by omega) j (by omega) k z1.2 z1.1).1
theorem nrP_in (v : VT T) {p : Nat → Prop} {i : Nat} (hi' : i < wT T * gT T) (z : p i) : nrP T p i := ⟨i, 0, ⟨hi', by decide⟩, z, rfl⟩
/-- the class -/
theorem gw_c (v : VT T) (e : FLD h a (wT T) (gT T)) (x : ∀ j, j < 32 → bt x1 j = true → j < wT T * gT T) : Pc (F_X3_grown n h a x1) (fun q => q.2 = h ∧ ∀ i, i < 32 → (bt q.1 i = true ↔ nrP T (fun j => bt x1 j = true) i)) := by
  obtain ⟨c25, ⟨w2, w5⟩, ⟨g2, g5⟩, -, -⟩ := wg_T v
  obtain ⟨e0, e1, e2, e3⟩ := e
  have f1 := lit_1
  unfold F_X3_grown
  refine Pc.ret ⟨rfl, fun i hi' => ?_⟩
  have xl (j : Nat) (z : bt x1 j = true) : j < wT T * gT T := by
    by_cases y : j < 32
    · exact x j y z
    · rw [bt_ge _ (by omega)] at z
      exact absurd z (by decide)
  show bt (((((x1 ||| ((x1 <<< ((1 : Int32) &&& 31)) &&& ((hi h a 3) ^^^ (-1)))) ||| (((x1 &&& ((hi h a 3) ^^^ (-1))).toUInt32 >>> ((1 : Int32).toUInt32 &&& Int32.toUInt32 31)).toInt32)) ||| (x1 <<< ((hi h a 0) &&& 31))) ||| ((x1.toUInt32 >>> ((hi h a 0).toUInt32 &&& Int32.toUInt32 31)).toInt32)) &&& (hi h a 2)) i = true ↔ _
  rw [bt_and, bt_or, bt_or, bt_or, bt_or, bt_and, bt_not _ hi', bt_shl x1 (c := 1) (m := 1) f1 (by decide) hi', bt_shr _ (c := 1) (m := 1) f1 (by decide), bt_and, bt_shl x1 e0 (by omega) hi', bt_shr x1 e0 (by omega), e2 i hi', e3 i hi']
  have e31 : bt x1 (1 + i) = true → bt (hi h a 3 ^^^ (-1)) (1 + i) = !decide ((1 + i) % wT T = 0 ∧ 1 + i < wT T * gT T) := by
    intro z
    have := xl _ z
    rw [bt_not _ (by omega), e3 (1 + i) (by omega)]
  simp only [Bool.and_eq_true, Bool.or_eq_true, decide_eq_true_eq, Bool.not_eq_true', decide_eq_false_iff_not]
  refine ⟨fun z => ?_, fun z => ?_⟩
  · obtain ⟨z, ic⟩ := z
    have tb := md_tab (wT T) (by omega) i (by omega)
    rcases z with (((z | ⟨⟨z1, z2⟩, z3⟩) | ⟨z1, z2⟩) | ⟨z1, z2⟩) | z
    · exact ⟨i, 0, ⟨ic, by decide⟩, z, rfl⟩
    · refine ⟨i - 1, 1, ⟨by omega, by decide⟩, z2, ?_⟩
      have m0 : ¬ i % wT T = 0 := fun w => z3 ⟨w, ic⟩
      have m1 : (i - 1) % wT T + 1 < wT T := by omega
      show (if (i - 1) % wT T + 1 < wT T then i - 1 + 1 else i - 1) = i
      rw [if_pos m1]; omega
    · have := xl _ z1
      have b3 := e31 z1
      rw [b3] at z2
      have m0 : ¬ (1 + i) % wT T = 0 := by
        intro w
        rw [decide_eq_true ⟨w, this⟩] at z2
        exact absurd z2 (by decide)
      refine ⟨1 + i, 3, ⟨this, by decide⟩, z1, ?_⟩
      show (if 0 < (1 + i) % wT T then 1 + i - 1 else 1 + i) = i
      rw [if_pos (by omega)]; omega
    · refine ⟨i - wT T, 2, ⟨by omega, by decide⟩, z2, ?_⟩
      show (if i - wT T + wT T < wT T * gT T then i - wT T + wT T else i - wT T) = i
      rw [if_pos (by omega)]; omega
    · have := xl _ z
      refine ⟨wT T + i, 4, ⟨this, by decide⟩, z, ?_⟩
      show (if wT T ≤ wT T + i then wT T + i - wT T else wT T + i) = i
      rw [if_pos (by omega)]; omega
  · have ic := nrP_lt v z
    obtain ⟨j, k, ⟨jc, k5⟩, zj, zs⟩ := z
    refine ⟨?_, ic⟩
    have tb := md_tab (wT T) (by omega) j (by omega)
    have : k = 0 ∨ k = 1 ∨ k = 2 ∨ k = 3 ∨ k = 4 := by omega
    rcases this with rfl | rfl | rfl | rfl | rfl
    · have eij : j = i := zs
      subst eij
      exact Or.inl (Or.inl (Or.inl (Or.inl zj)))
    · have zs' : (if j % wT T + 1 < wT T then j + 1 else j) = i := zs
      by_cases y : j % wT T + 1 < wT T
      · rw [if_pos y] at zs'
        subst zs'
        refine Or.inl (Or.inl (Or.inl (Or.inr ⟨⟨by omega, by rw [show j + 1 - 1 = j by omega]; exact zj⟩, fun w => ?_⟩)))
        rcases tb.resolve_left (by omega) with ⟨-, t2⟩
        exact t2.elim (fun u => u y) (fun u => u w.1)
      · rw [if_neg y] at zs'
        subst zs'
        exact Or.inl (Or.inl (Or.inl (Or.inl zj)))
    · have zs' : (if j + wT T < wT T * gT T then j + wT T else j) = i := zs
      by_cases y : j + wT T < wT T * gT T
      · rw [if_pos y] at zs'
        subst zs'
        exact Or.inl (Or.inr ⟨by omega, by rw [show j + wT T - wT T = j by omega]; exact zj⟩)
      · rw [if_neg y] at zs'
        subst zs'
        exact Or.inl (Or.inl (Or.inl (Or.inl zj)))
    · have zs' : (if 0 < j % wT T then j - 1 else j) = i := zs
      by_cases y : 0 < j % wT T
      · rw [if_pos y] at zs'
        have j1 : 1 + i = j := by
          have : j ≠ 0 := by
            intro w
            rw [w, Nat.zero_mod] at y
            exact absurd y (by decide)
          omega
        refine Or.inl (Or.inl (Or.inr ⟨by rw [j1]; exact zj, ?_⟩))
        rw [e31 (by rw [j1]; exact zj), j1]
        refine Bool.not_eq_true' _ |>.mpr (decide_eq_false (fun w => ?_))
        omega
      · rw [if_neg y] at zs'
        subst zs'
        exact Or.inl (Or.inl (Or.inl (Or.inl zj)))
    · have zs' : (if wT T ≤ j then j - wT T else j) = i := zs
      by_cases y : wT T ≤ j
      · rw [if_pos y] at zs'
        exact Or.inr (by rw [show wT T + i = j by omega]; exact zj)
      · rw [if_neg y] at zs'
        subst zs'
        exact Or.inl (Or.inl (Or.inl (Or.inl zj)))
/-- the reference -/
def nbN (T : TT) (x y : Int32) (i m : Nat) : Prop := ∀ b, b < 32 → (bt y b = true ↔ ∃ j k, ((j < i ∧ k < 5) ∨ (j = i ∧ k < m)) ∧ bt x j = true ∧ sdv (wT T) (gT T) j k = b)
theorem nb_4 (v : VT T) (en : EN2 s T h) (sd : SD5 T h) : ∀ n : Nat, (∀ (l2 l3 l4 : Int32) (i : Nat), l3.toInt = (i : Int) → i ≤ wT T * gT T → nbN T x1 l2 i 0 → Pc (W_X12_nearBits n 4 h x1 l2 l3 l4) (fun q => q.2 = h ∧ nbN T x1 q.1 (wT T * gT T) 0)) ∧ (∀ (l2 l3 l4 : Int32) (i m : Nat), l3.toInt = (i : Int) → i < wT T * gT T → bt x1 i = true → l4.toInt = (m : Int) → m ≤ 5 → nbN T x1 l2 i m → Pc (W_X12_nearBits n 26 h x1 l2 l3 l4) (fun q => q.2 = h ∧ nbN T x1 q.1 (wT T * gT T) 0)) := by
  intro n
  obtain ⟨c25, ⟨w2, w5⟩, ⟨g2, g5⟩, -, -⟩ := wg_T v
  induction n with
  | zero => exact ⟨fun l2 l3 l4 i a b c => Pc.no, fun l2 l3 l4 i m a b c d e f => Pc.no⟩
  | succ n ih =>
    obtain ⟨ih1, ih2⟩ := ih
    have f0 := lit_0
    have f1 := lit_1
    have f5 := lit_5
    refine ⟨fun l2 l3 l4 i a b c => ?_, fun l2 l3 l4 i m a b t d e f => ?_⟩
    · rw [u_X12_nearBits]
      refine Pc.pos rfl ?_
      refine Pc.bind (ce_r v en) (fun q1 h1 => ?_)
      obtain ⟨t1, t2⟩ := h1
      rw [t1]
      refine Pc.le (fun z => Pc.ret ⟨rfl, ?_⟩) (fun z => ?_)
      · have : i = wT T * gT T := by omega
        rw [← this]; exact c
      have a1 := adT l3 1 (by omega) (by omega)
      have n1 := ncT (show 0 ≤ l3.toInt by omega)
      have n2 : Int32.toNatClampNeg l3 = i := by omega
      have b0 := btS0 x1 (c := l3) (by omega) (by omega)
      rw [n2] at b0
      refine Pc.eq (fun z0 => ?_) (fun z0 => ?_)
      · have no := b0.mp (z0.trans f0)
        refine ih1 l2 (l3 + 1) 0 (i + 1) (by omega) (by omega) (fun b' hb' => (c b' hb').trans ⟨fun w => ?_, fun w => ?_⟩)
        · obtain ⟨j, k, k1, k2, k3⟩ := w
          exact ⟨j, k, by omega, k2, k3⟩
        · obtain ⟨j, k, k1, k2, k3⟩ := w
          refine ⟨j, k, ?_, k2, k3⟩
          by_cases y : j = i
          · rw [y, no] at k2
            exact absurd k2 (by decide)
          · omega
      · have yes : bt x1 i = true := by
          cases y : bt x1 i with
          | true => rfl
          | false => exact absurd ((b0.mpr y).trans f0.symm) z0
        exact ih2 l2 l3 0 i 0 a (by omega) yes f0 (by decide) c
    · rw [u_X12_nearBits]
      refine Pc.neg (by decide) (Pc.pos rfl ?_)
      refine Pc.le (fun z => ?_) (fun z => Pc.chk (fun _ => ?_))
      · have a1 := adT l3 1 (by omega) (by omega)
        have m5 : m = 5 := by omega
        subst m5
        refine ih1 l2 (l3 + 1) 0 (i + 1) (by omega) (by omega) (fun b' hb' => (f b' hb').trans ⟨fun w => ?_, fun w => ?_⟩)
        · obtain ⟨j, k, k1, k2, k3⟩ := w
          exact ⟨j, k, by omega, k2, k3⟩
        · obtain ⟨j, k, k1, k2, k3⟩ := w
          exact ⟨j, k, by omega, k2, k3⟩
      · have a1 := adT l4 1 (by omega) (by omega)
        have m5 := mlT 5 l3 5 f5 (by omega) (by omega)
        have a2 := adT (5 * l3) l4 (by omega) (by omega)
        have n3 := ncT (show 0 ≤ (5 * l3 + l4).toInt by omega)
        have n4 : Int32.toNatClampNeg (5 * l3 + l4) = 5 * i + m := by omega
        have es := sd i m b (by omega)
        have dl : sdv (wT T) (gT T) i m < wT T * gT T := (sdv_all (wT T) (by omega) (gT T) (by omega) i (by omega) m (by omega) b).1
        rw [n4]
        refine ih2 _ l3 (l4 + 1) i (m + 1) a b t (by omega) (by omega) (fun b' hb' => ?_)
        rw [bt_add (v := sdv (wT T) (gT T) i m) es (by omega), Bool.or_eq_true, f b' hb', decide_eq_true_eq]
        refine ⟨fun w => ?_, fun w => ?_⟩
        · rcases w with ⟨j, k, k1, k2, k3⟩ | w
          · exact ⟨j, k, by omega, k2, k3⟩
          · exact ⟨i, m, Or.inr ⟨rfl, by omega⟩, t, w.symm⟩
        · obtain ⟨j, k, k1, k2, k3⟩ := w
          by_cases y : j = i ∧ k = m
          · rw [y.1, y.2] at k3
            exact Or.inr k3.symm
          · exact Or.inl ⟨j, k, by omega, k2, k3⟩
theorem nb_r (v : VT T) (en : EN2 s T h) (sd : SD5 T h) : Pc (F_X12_nearBits n h x1) (fun q => q.2 = h ∧ ∀ i, i < 32 → (bt q.1 i = true ↔ nrP T (fun j => bt x1 j = true) i)) := by
  unfold F_X12_nearBits
  refine ((nb_4 v en sd n).1 0 0 0 0 lit_0 (Nat.zero_le _) (fun b hb => ⟨fun z => by rw [bt_zero] at z; exact absurd z (by decide), fun z => ?_⟩)).mono (fun q hq => ⟨hq.1, fun i hi' => (hq.2 i hi').trans ⟨fun z => ?_, fun z => ?_⟩⟩)
  · obtain ⟨j, k, k1, -⟩ := z
    exfalso; omega
  · obtain ⟨j, k, k1, k2, k3⟩ := z
    exact ⟨j, k, by omega, k2, k3⟩
  · obtain ⟨j, k, k1, k2, k3⟩ := z
    exact ⟨j, k, Or.inl k1, k2, k3⟩
end RYE
