section
/-! A WHOLE TEXT: the row that the reference begins with -/
/-- the row that a text tells -/
def RWF (T : TT) (f : Nat → Int32) : Prop :=
  (f 61 = 0 ∧ f 62 = 0 ∧ ∀ k, k < 5 → f (56 + k) = 0) ∧
  (∀ b, b < 32 → (bt (f 50) b = true ↔ b < wT T * gT T ∧ ropeT T (spt (wT T) b))) ∧
  (∀ b, b < 25 → (¬ b < wT T * gT T → f b = 0) ∧ (b < wT T * gT T → (lastT T.tn (spt (wT T) b) = none → f b = 0 ∧ f (25 + b) = 0) ∧ ∀ p, lastT T.tn (spt (wT T) b) = some p → (f b).toInt = p.1 ∧ (f (25 + b)).toInt = p.2)) ∧
  (∀ k, k < T.go.length → (f (51 + k)).toInt = (clw (wT T) (gsT T k) : Nat)) ∧ ∀ k, T.go.length ≤ k → k < 5 → f (51 + k) = 0
section BG
variable {s : Nat} {h : Hp} {n : Nat}
theorem lastT_some {l : List ((Int × Int) × (Int × Int))} {x : (Int × Int) × (Int × Int)} (hx : x ∈ l) {c : Nat} (e : x.1.1 + 5 * x.1.2 = (c : Int)) : lastT l c ≠ none := by
  have key : ∀ r : List ((Int × Int) × (Int × Int)), x ∈ r.reverse → lastT r.reverse c ≠ none := by
    intro r
    induction r with
    | nil => intro m; exact absurd m List.not_mem_nil
    | cons y r ih =>
      intro m
      rw [List.reverse_cons] at m ⊢
      rw [lastT_snoc]
      by_cases z : y.1.1 + 5 * y.1.2 = (c : Int)
      · rw [if_pos z]; exact Option.some_ne_none _
      · rw [if_neg z]
        rcases List.mem_append.mp m with q | q
        · exact ih q
        · rw [List.mem_singleton.mp q] at e
          exact absurd e z
  have := key l.reverse (by rw [List.reverse_reverse]; exact hx)
  rw [List.reverse_reverse] at this
  exact this
theorem clw_xy {w : Nat} (hw : w ≤ 5) {x y : Int} (sp : sp5 (x, y)) : ((clw w (x + 5 * y).toNat : Nat) : Int) = (w : Int) * y + x := by
  unfold sp5 at sp
  simp only at sp
  obtain ⟨⟨a1, a2⟩, a3, a4⟩ := sp
  unfold clw
  have e1 : (x + 5 * y).toNat / 5 = y.toNat := by omega
  have e2 : (x + 5 * y).toNat % 5 = x.toNat := by omega
  rw [e1, e2, Int.natCast_add, Int.natCast_mul, Int.toNat_of_nonneg a3, Int.toNat_of_nonneg a1]
/-- the number of a cell -/
theorem bg_cell {w : Nat} (lv : (hi h 226 18).toInt = (s : Int)) (ew : (hi h 235 s).toInt = (w : Int)) (hw : w ≤ 5) {x1 x2 : Int32} {x y : Int} (e1 : x1.toInt = x) (e2 : x2.toInt = y) (sp : sp5 (x, y)) : Pc (F_X12_cellAt n h x1 x2) (fun q => q.2 = h ∧ q.1.toInt = (clw w (x + 5 * y).toNat : Nat)) := by
  have n1 := ncT (show 0 ≤ (hi h 226 18).toInt by omega)
  have n1' : Int32.toNatClampNeg (hi h 226 18) = s := by omega
  have cx := clw_xy hw sp
  unfold sp5 at sp
  simp only at sp
  have wy : (w : Int) * y ≤ 20 ∧ 0 ≤ (w : Int) * y := by
    obtain ⟨z, hz⟩ : ∃ z : Nat, y = (z : Int) := ⟨y.toNat, by omega⟩
    subst hz
    rw [← Int.natCast_mul]
    have : w * z ≤ 5 * 4 := Nat.mul_le_mul hw (by omega)
    omega
  unfold F_X12_cellAt
  rw [n1']
  refine Pc.chk (fun _ => Pc.ret ⟨rfl, ?_⟩)
  show (hi h 235 s * x2 + x1).toInt = _
  have m := mlT (hi h 235 s) x2 (w : Int) ew (by rw [e2]; omega) (by rw [e2]; omega)
  rw [e2] at m
  rw [adT _ _ (by omega) (by omega), m, e1, cx]
/-- what the row doesn't touch -/
def bgK (h0 h : Hp) : Prop := ∀ a k, a ≠ 263 → hi h a k = hi h0 a k
/-- goers laid out -/
theorem bg_178 {h0 : Hp} {T : TT} {B c : Nat} (hs : s ≤ 1) (lv : (hi h0 226 18).toInt = (s : Int)) (d : rD s T B c h0) (v : VT T) (vl : VLw T) : ∀ (n : Nat) (h : Hp) (l1 : Int32) (i : Nat), bgK h0 h → l1.toInt = (i : Int) → i ≤ T.go.length → ((hi h 263 61 = 0 ∧ hi h 263 62 = 0 ∧ ∀ k, k < 5 → hi h 263 (56 + k) = 0) ∧ (∀ b, b < 32 → (bt (hi h 263 50) b = true ↔ b < wT T * gT T ∧ ropeT T (spt (wT T) b))) ∧ (∀ b, b < 25 → (¬ b < wT T * gT T → hi h 263 b = 0) ∧ (b < wT T * gT T → (lastT T.tn (spt (wT T) b) = none → hi h 263 b = 0 ∧ hi h 263 (25 + b) = 0) ∧ ∀ p, lastT T.tn (spt (wT T) b) = some p → (hi h 263 b).toInt = p.1 ∧ (hi h 263 (25 + b)).toInt = p.2))) → (∀ k, k < i → (hi h 263 (51 + k)).toInt = (clw (wT T) (gsT T k) : Nat)) → (∀ k, i ≤ k → k < 5 → hi h 263 (51 + k) = 0) → Pc (W_X12_begins n 178 h l1) (fun q => RWF T (hi q 263)) := by
  have f1 := lit_1
  have f5 := lit_5
  have f51 : (51 : Int32).toInt = 51 := by decide
  obtain ⟨⟨d1, d2, d3, d4, d5⟩, d6, d7⟩ := d
  have ew : ((wT T : Nat) : Int) = T.lw.1 := by unfold wT; have := v.1; omega
  have w5 : wT T ≤ 5 := by have := v.1; omega
  intro n
  induction n with
  | zero => intro h l1 i a b c e g g2; exact Pc.no
  | succ n ih =>
    intro h l1 i a b c e g g2
    have lv' : (hi h 226 18).toInt = (s : Int) := by rw [a 226 18 (by decide)]; exact lv
    have n1 := ncT (show 0 ≤ (hi h 226 18).toInt by omega)
    have n1' : Int32.toNatClampNeg (hi h 226 18) = s := by omega
    rw [u_X12_begins, n1', a 242 s (by decide)]
    refine Pc.neg (by decide) (Pc.neg (by decide) (Pc.neg (by decide) (Pc.pos rfl (Pc.chk (fun _ => ?_)))))
    have l3 := d3.1
    refine Pc.le (fun q => ?_) (fun q => ?_)
    · have il : i = T.go.length := by omega
      refine Pc.chk (fun _ => ?_)
      refine Pc.bind zf_X12_fillsSides (fun q26 h26 => Pc.ret ?_)
      have r (k : Nat) : hi q26 263 k = hi h 263 k := by
        rw [h26.1 263 k (by intro y; omega), hi_wrI, if_neg (by omega), hi_wrI, if_neg (by omega)]
      have e' : hi q26 263 = hi h 263 := funext r
      rw [e']
      subst il
      exact ⟨e.1, e.2.1, e.2.2, g, g2⟩
    · have i5 : i < T.go.length := by omega
      have m5 := mlT 5 (hi h 226 18) 5 f5 (by omega) (by omega)
      have ad := adT (5 * hi h 226 18) l1 (by omega) (by omega)
      have nn := ncT (show 0 ≤ (5 * hi h 226 18 + l1).toInt by omega)
      have nn' : Int32.toNatClampNeg (5 * hi h 226 18 + l1) = 5 * s + i := by omega
      have a51 := adT 51 l1 (by omega) (by omega)
      have n51 := ncT (show 0 ≤ (51 + l1).toInt by omega)
      have n51' : Int32.toNatClampNeg (51 + l1) = 51 + i := by omega
      have a1 := adT l1 1 (by omega) (by omega)
      rw [nn', n51']
      refine Pc.chk (fun _ => Pc.chk (fun _ => ?_))
      have gx := d3.2.2 i i5
      have sp : sp5 ((T.go.getD i (0, 0)).1, (T.go.getD i (0, 0)).2) := by
        have m : T.go.getD i (0, 0) ∈ T.go := by
          rw [List.getD_eq_getElem?_getD, List.getElem?_eq_getElem i5]
          exact List.getElem_mem i5
        exact v.2.2.1.2 _ m
      refine Pc.bind (bg_cell lv' (by rw [a 235 s (by decide), ew]; exact d1.1) w5 (by rw [a 243 _ (by decide)]; exact gx.1) (by rw [a 244 _ (by decide)]; exact gx.2) sp) (fun q30 hq => Pc.chk (fun _ => ?_))
      rw [hq.1]
      have r (k : Nat) (m : k ≠ 51 + i) : hi (wrI h 263 (51 + i) q30.1) 263 k = hi h 263 k := by rw [hi_wrI, if_neg (fun z => m z.2)]
      refine ih _ (l1 + 1) (i + 1) (fun x k m => by rw [hi_wrI, if_neg (fun z => m z.1)]; exact a x k m) (by omega) (by omega) ⟨⟨by rw [r 61 (by omega)]; exact e.1.1, by rw [r 62 (by omega)]; exact e.1.2.1, fun k hk => by rw [r _ (by omega)]; exact e.1.2.2 k hk⟩, fun b hb => by rw [r 50 (by omega)]; exact e.2.1 b hb, fun b hb => by rw [r b (by omega), r (25 + b) (by omega)]; exact e.2.2 b hb⟩ (fun k hk => ?_) (fun k hk hk5 => by rw [r _ (by omega)]; exact g2 k (by omega) hk5)
      by_cases y : k = i
      · rw [y, hi_wrI, if_pos ⟨rfl, rfl⟩, hq.2]; rfl
      · rw [r _ (by omega)]; exact g k (by omega)
/-- ropes laid out -/
theorem bg_121 {h0 : Hp} {T : TT} {B c : Nat} (hs : s ≤ 1) (lv : (hi h0 226 18).toInt = (s : Int)) (d : rD s T B c h0) (v : VT T) (vl : VLw T) : ∀ (n : Nat) (h : Hp) (l1 : Int32) (i : Nat), bgK h0 h → l1.toInt = ((8 * s + i : Nat) : Int) → i ≤ T.ro.length → (∀ k, 50 < k → k < 63 → hi h 263 k = 0) → (∀ b, b < 32 → (bt (hi h 263 50) b = true ↔ b < wT T * gT T ∧ ∃ p ∈ T.ro.take i, p.1 + 5 * p.2 = ((spt (wT T) b : Nat) : Int))) → (∀ b, b < 25 → (¬ b < wT T * gT T → hi h 263 b = 0) ∧ (b < wT T * gT T → (lastT T.tn (spt (wT T) b) = none → hi h 263 b = 0 ∧ hi h 263 (25 + b) = 0) ∧ ∀ p, lastT T.tn (spt (wT T) b) = some p → (hi h 263 b).toInt = p.1 ∧ (hi h 263 (25 + b)).toInt = p.2)) → Pc (W_X12_begins n 121 h l1) (fun q => RWF T (hi q 263)) := by
  have f0 := lit_0
  have f1 := lit_1
  have f8 := lit_8
  have d' := d
  obtain ⟨⟨d1, d2, d3, d4, d5⟩, d6, d7⟩ := d
  have ew : ((wT T : Nat) : Int) = T.lw.1 := by unfold wT; have := v.1; omega
  have eg : ((gT T : Nat) : Int) = T.lw.2 := by unfold gT; have := v.1; omega
  have w5 : wT T ≤ 5 := by have := v.1; omega
  have g5 : gT T ≤ 5 := by have := v.1; omega
  have w25 := wg25 w5 g5
  intro n
  induction n with
  | zero => intro h l1 i a b c e g g2; exact Pc.no
  | succ n ih =>
    intro h l1 i a b c e g g2
    have lv' : (hi h 226 18).toInt = (s : Int) := by rw [a 226 18 (by decide)]; exact lv
    have n1 := ncT (show 0 ≤ (hi h 226 18).toInt by omega)
    have n1' : Int32.toNatClampNeg (hi h 226 18) = s := by omega
    have l4 := d4.1
    have ro8 := d7.2.2
    rw [u_X12_begins, n1', a 245 s (by decide)]
    have m8 := mlT 8 (hi h 226 18) 8 f8 (by omega) (by omega)
    have ad := adT (8 * hi h 226 18) (hi h0 245 s) (by omega) (by omega)
    refine Pc.neg (by decide) (Pc.neg (by decide) (Pc.pos rfl (Pc.chk (fun _ => ?_))))
    refine Pc.le (fun q => ?_) (fun q => ?_)
    · have il : i = T.ro.length := by omega
      subst il
      rw [List.take_length] at g
      exact bg_178 hs lv d' v vl n h 0 0 a f0 (Nat.zero_le _) ⟨⟨e 61 (by decide) (by decide), e 62 (by decide) (by decide), fun k hk => e _ (by omega) (by omega)⟩, g, g2⟩ (fun k hk => absurd hk (Nat.not_lt_zero k)) (fun k _ hk => e _ (by omega) (by omega))
    · have i8 : i < T.ro.length := by omega
      have nn := ncT (show 0 ≤ l1.toInt by omega)
      have nn' : Int32.toNatClampNeg l1 = 8 * s + i := by omega
      have a1 := adT l1 1 (by omega) (by omega)
      rw [nn']
      refine Pc.chk (fun _ => Pc.chk (fun _ => ?_))
      have gx := d4.2 i i8
      have m : T.ro.getD i (0, 0) ∈ T.ro := by
        rw [List.getD_eq_getElem?_getD, List.getElem?_eq_getElem i8]
        exact List.getElem_mem i8
      have sp : sp5 ((T.ro.getD i (0, 0)).1, (T.ro.getD i (0, 0)).2) := v.2.2.2.1.2 _ m
      generalize ep : T.ro.getD i (0, 0) = p at gx m sp
      refine Pc.bind (bg_cell lv' (by rw [a 235 s (by decide), ew]; exact d1.1) w5 (by rw [a 246 _ (by decide)]; exact gx.1) (by rw [a 247 _ (by decide)]; exact gx.2) sp) (fun q30 hq => ?_)
      rw [hq.1]
      have sp' := sp
      unfold sp5 at sp'
      simp only at sp'
      have c25 : (p.1 + 5 * p.2).toNat < 25 := by omega
      have rp : ropeT T (p.1 + 5 * p.2).toNat := ⟨p, m, by omega⟩
      have on := vl.1 _ c25 rp
      obtain ⟨o1, o2⟩ := clw_on w5 g5 c25 on
      have r (k : Nat) (m : k ≠ 50) (x : Int32) : hi (wrI h 263 50 x) 263 k = hi h 263 k := by rw [hi_wrI, if_neg (fun z => m z.2)]
      have tk : T.ro.take (i + 1) = T.ro.take i ++ [p] := by
        rw [← ep, List.getD_eq_getElem?_getD, List.getElem?_eq_getElem i8]
        exact List.take_succ_eq_append_getElem i8
      have nx := ncT (show 0 ≤ q30.1.toInt by omega)
      refine ih _ (l1 + 1) (i + 1) (fun x k m => by rw [hi_wrI, if_neg (fun z => m z.1)]; exact a x k m) (by omega) (by omega) (fun k h1 h2 => by rw [r k (by omega)]; exact e k h1 h2) (fun b hb => ?_) (fun b hb => by rw [r b (by omega), r (25 + b) (by omega)]; exact g2 b hb)
      rw [hi_wrI, if_pos ⟨rfl, rfl⟩, bt_or, btL (by omega) (by omega) b, Bool.or_eq_true, g b hb, decide_eq_true_eq, tk]
      constructor
      · rintro (⟨x1, y, y1, y2⟩ | z)
        · exact ⟨x1, y, List.mem_append_left _ y1, y2⟩
        · have eb : b = clw (wT T) (p.1 + 5 * p.2).toNat := by omega
          rw [eb]
          refine ⟨o1, p, List.mem_append_right _ (List.mem_singleton.mpr rfl), ?_⟩
          rw [o2]; omega
      · rintro ⟨x1, y, y1, y2⟩
        rcases List.mem_append.mp y1 with z | z
        · exact Or.inl ⟨x1, y, z, y2⟩
        · right
          rw [List.mem_singleton.mp z] at y2
          have := (spt_on w5 g5 x1).2.2
          have e2 : spt (wT T) b = (p.1 + 5 * p.2).toNat := by omega
          rw [e2] at this
          omega
/-- tunes laid out -/
theorem bg_29 {h0 : Hp} {T : TT} {B c : Nat} (hs : s ≤ 1) (lv : (hi h0 226 18).toInt = (s : Int)) (d : rD s T B c h0) (v : VT T) (vl : VLw T) : ∀ (n : Nat) (h : Hp) (l1 : Int32) (i : Nat), bgK h0 h → l1.toInt = ((8 * s + i : Nat) : Int) → i ≤ T.tn.length → (∀ k, 50 ≤ k → k < 63 → hi h 263 k = 0) → (∀ b, b < 25 → (¬ b < wT T * gT T → hi h 263 b = 0) ∧ (b < wT T * gT T → (lastT (T.tn.take i) (spt (wT T) b) = none → hi h 263 b = 0 ∧ hi h 263 (25 + b) = 0) ∧ ∀ p, lastT (T.tn.take i) (spt (wT T) b) = some p → (hi h 263 b).toInt = p.1 ∧ (hi h 263 (25 + b)).toInt = p.2)) → Pc (W_X12_begins n 29 h l1) (fun q => RWF T (hi q 263)) := by
  have f0 := lit_0
  have f1 := lit_1
  have f8 := lit_8
  have f25 := lit_25
  have d' := d
  obtain ⟨⟨d1, d2, d3, d4, d5⟩, d6, d7⟩ := d
  have ew : ((wT T : Nat) : Int) = T.lw.1 := by unfold wT; have := v.1; omega
  have eg : ((gT T : Nat) : Int) = T.lw.2 := by unfold gT; have := v.1; omega
  have w5 : wT T ≤ 5 := by have := v.1; omega
  have g5 : gT T ≤ 5 := by have := v.1; omega
  have w25 := wg25 w5 g5
  intro n
  induction n with
  | zero => intro h l1 i a b c e g; exact Pc.no
  | succ n ih =>
    intro h l1 i a b c e g
    have lv' : (hi h 226 18).toInt = (s : Int) := by rw [a 226 18 (by decide)]; exact lv
    have n1 := ncT (show 0 ≤ (hi h 226 18).toInt by omega)
    have n1' : Int32.toNatClampNeg (hi h 226 18) = s := by omega
    have l2 := d2.1
    have tn8 := d7.1
    rw [u_X12_begins, n1', a 237 s (by decide)]
    have m8 := mlT 8 (hi h 226 18) 8 f8 (by omega) (by omega)
    have ad := adT (8 * hi h 226 18) (hi h0 237 s) (by omega) (by omega)
    refine Pc.neg (by decide) (Pc.pos rfl (Pc.chk (fun _ => ?_)))
    refine Pc.le (fun q => ?_) (fun q => ?_)
    · have il : i = T.tn.length := by omega
      subst il
      rw [List.take_length] at g
      refine bg_121 hs lv d' v vl n h _ 0 a (by omega) (Nat.zero_le _) (fun k h1 h2 => e k (by omega) h2) (fun b hb => ?_) g
      rw [e 50 (by decide) (by decide), bt_zero]
      exact ⟨fun z => Bool.noConfusion z, fun ⟨_, p, p1, _⟩ => absurd p1 List.not_mem_nil⟩
    · have i8 : i < T.tn.length := by omega
      have nn := ncT (show 0 ≤ l1.toInt by omega)
      have nn' : Int32.toNatClampNeg l1 = 8 * s + i := by omega
      have a1 := adT l1 1 (by omega) (by omega)
      rw [nn']
      refine Pc.chk (fun _ => Pc.chk (fun _ => ?_))
      have gx := d2.2 i i8
      have m : T.tn.getD i ((0, 0), (0, 0)) ∈ T.tn := by
        rw [List.getD_eq_getElem?_getD, List.getElem?_eq_getElem i8]
        exact List.getElem_mem i8
      have ep' : T.tn.take (i + 1) = T.tn.take i ++ [T.tn.getD i ((0, 0), (0, 0))] := by
        rw [List.getD_eq_getElem?_getD, List.getElem?_eq_getElem i8]
        exact List.take_succ_eq_append_getElem i8
      have vt := v.2.1.2 _ m
      generalize ep : T.tn.getD i ((0, 0), (0, 0)) = p at gx m vt ep'
      obtain ⟨sp, bb, ob⟩ := vt
      have sp' := sp
      unfold sp5 at sp'
      have c25 : (p.1.1 + 5 * p.1.2).toNat < 25 := by omega
      have on := vl.2.1 _ c25 (lastT_some m (by omega))
      obtain ⟨o1, o2⟩ := clw_on w5 g5 c25 on
      refine Pc.bind (bg_cell lv' (by rw [a 235 s (by decide), ew]; exact d1.1) w5 (by rw [a 238 _ (by decide)]; exact gx.1) (by rw [a 239 _ (by decide)]; exact gx.2.1) sp) (fun q7 hq => ?_)
      rw [hq.1]
      have hq2 : q7.1.toInt = ((clw (wT T) (p.1.1 + 5 * p.1.2).toNat : Nat) : Int) := hq.2
      have nx := ncT (show 0 ≤ q7.1.toInt by omega)
      have nx' : Int32.toNatClampNeg q7.1 = clw (wT T) (p.1.1 + 5 * p.1.2).toNat := by omega
      rw [nx']
      refine Pc.chk (fun _ => Pc.chk (fun _ => ?_))
      generalize eg1 : wrI h 263 (clw (wT T) (p.1.1 + 5 * p.1.2).toNat) (hi h 240 (8 * s + i)) = h1
      have k1 (x k : Nat) (m : x ≠ 263) : hi h1 x k = hi h x k := hiA eg1 x k m
      refine Pc.chk (fun _ => Pc.chk (fun _ => ?_))
      refine Pc.bind (bg_cell (x := p.1.1) (y := p.1.2) (by rw [k1 226 18 (by decide)]; exact lv') (by rw [k1 235 s (by decide), a 235 s (by decide), ew]; exact d1.1) w5 (by rw [k1 238 _ (by decide), a 238 _ (by decide)]; exact gx.1) (by rw [k1 239 _ (by decide), a 239 _ (by decide)]; exact gx.2.1) sp) (fun q13 hq2 => ?_)
      rw [hq2.1]
      have ad25 := adT 25 q13.1 (by omega) (by omega)
      have ny := ncT (show 0 ≤ (25 + q13.1).toInt by omega)
      have ny' : Int32.toNatClampNeg (25 + q13.1) = 25 + clw (wT T) (p.1.1 + 5 * p.1.2).toNat := by omega
      rw [ny']
      refine Pc.chk (fun _ => Pc.chk (fun _ => ?_))
      generalize eC : clw (wT T) (p.1.1 + 5 * p.1.2).toNat = C at *
      have rb (k : Nat) (m1 : k ≠ C) (m2 : k ≠ 25 + C) (x : Int32) : hi (wrI h1 263 (25 + C) x) 263 k = hi h 263 k := by
        rw [hi_wrI, if_neg (fun z => m2 z.2), ← eg1, hi_wrI, if_neg (fun z => m1 z.2)]
      have rC (x : Int32) : hi (wrI h1 263 (25 + C) x) 263 C = hi h 240 (8 * s + i) := by
        rw [hi_wrI, if_neg (by omega), ← eg1, hi_wrI, if_pos ⟨rfl, rfl⟩]
      refine ih _ (l1 + 1) (i + 1) (fun x k m => by rw [hi_wrI, if_neg (fun z => m z.1), k1 x k m]; exact a x k m) (by omega) (by omega) (fun k h1 h2 => by rw [rb k (by omega) (by omega)]; exact e k h1 h2) (fun b hb => ?_)
      rw [ep', lastT_snoc]
      by_cases y : b = C
      · have sb : spt (wT T) b = (p.1.1 + 5 * p.1.2).toNat := by rw [y]; exact o2
        rw [if_pos (by rw [sb]; omega)]
        refine ⟨fun z => absurd (by rw [y]; exact o1) z, fun _ => ⟨fun z => absurd z (Option.some_ne_none _), fun p' hp' => ?_⟩⟩
        have e' : p.2 = p' := Option.some.inj hp'
        rw [← e', y, rC, hi_wrI, if_pos ⟨rfl, rfl⟩, k1 241 _ (by decide), a 240 _ (by decide), a 241 _ (by decide)]
        exact ⟨gx.2.2.1, gx.2.2.2⟩
      · rw [rb b y (by omega), rb (25 + b) (by omega) (by omega)]
        refine ⟨(g b hb).1, fun bl => ?_⟩
        have nb : ¬ p.1.1 + 5 * p.1.2 = ((spt (wT T) b : Nat) : Int) := by
          intro z
          have := (spt_on w5 g5 bl).2.2
          have e2 : spt (wT T) b = (p.1.1 + 5 * p.1.2).toNat := by omega
          rw [e2, eC] at this
          exact y this.symm
        rw [if_neg nb]
        exact (g b hb).2 bl
/-- the row is cleared -/
theorem bg_2 {h0 : Hp} {T : TT} {B c : Nat} (hs : s ≤ 1) (lv : (hi h0 226 18).toInt = (s : Int)) (d : rD s T B c h0) (v : VT T) (vl : VLw T) : ∀ (n : Nat) (h : Hp) (l1 : Int32) (i : Nat), bgK h0 h → l1.toInt = (i : Int) → i ≤ 63 → (∀ k, k < i → hi h 263 k = 0) → Pc (W_X12_begins n 2 h l1) (fun q => RWF T (hi q 263)) := by
  have f1 := lit_1
  have f8 := lit_8
  have f63 := lit_63
  intro n
  induction n with
  | zero => intro h l1 i a b c e; exact Pc.no
  | succ n ih =>
    intro h l1 i a b c e
    have nn := ncT (show 0 ≤ l1.toInt by omega)
    have nn' : Int32.toNatClampNeg l1 = i := by omega
    rw [u_X12_begins, nn']
    refine Pc.pos rfl ?_
    refine Pc.le (fun q => ?_) (fun q => Pc.chk (fun _ => ?_))
    · have i63 : i = 63 := by omega
      subst i63
      have lv' : (hi h 226 18).toInt = (s : Int) := by rw [a 226 18 (by decide)]; exact lv
      have m8 := mlT 8 (hi h 226 18) 8 f8 (by omega) (by omega)
      refine bg_29 hs lv d v vl n h _ 0 a (by omega) (Nat.zero_le _) (fun k _ h2 => e k h2) (fun b hb => ⟨fun _ => e b (by omega), fun _ => ⟨fun _ => ⟨e b (by omega), e (25 + b) (by omega)⟩, fun p hp => absurd hp (fun z => nsn (show (none : Option (Int × Int)) = some p from z))⟩⟩)
    · have a1 := adT l1 1 (by omega) (by omega)
      refine ih _ (l1 + 1) (i + 1) (fun x k m => by rw [hi_wrI, if_neg (fun z => m z.1)]; exact a x k m) (by omega) (by omega) (fun k hk => ?_)
      rw [hi_wrI]
      by_cases y : k = i
      · rw [if_pos ⟨rfl, y⟩]
      · rw [if_neg (fun z => y z.2)]; exact e k (by omega)
theorem bg_row {T : TT} {B c : Nat} (hs : s ≤ 1) (lv : (hi h 226 18).toInt = (s : Int)) (d : rD s T B c h) (v : VT T) (vl : VLw T) : Pc (F_X12_begins n h) (fun q => RWF T (hi q 263)) := by
  unfold F_X12_begins
  exact bg_2 hs lv d v vl n h 0 0 (fun _ _ _ => rfl) lit_0 (Nat.zero_le _) (fun k hk => absurd hk (Nat.not_lt_zero k))
end BG
end
section
/-! A WHOLE TEXT: the reference's reading -/
/-- what the reference holds when a text is read -/
def RF (s : Nat) (T : TT) (q : Hp) : Prop := (hi q 226 18).toInt = (s : Int) ∧ (∃ B c, rD s T B c q ∧ B ≤ 130 * s + 130 ∧ c ≤ 420 * s + 420) ∧ RWF T (hi q 262) ∧ (hi q 226 59 = 0 ∧ hi q 226 65 = 0) ∧ ∀ k, k < 3 → hi q 273 k = 0
theorem RWF.cg {T : TT} {f g : Nat → Int32} (a : RWF T f) (l : T.go.length ≤ 5) (e : ∀ k, k < 63 → g k = f k) : RWF T g := by
  obtain ⟨⟨a1, a2, a3⟩, b, c, d1, d2⟩ := a
  exact ⟨⟨by rw [e 61 (by decide)]; exact a1, by rw [e 62 (by decide)]; exact a2, fun k hk => by rw [e (56 + k) (by omega)]; exact a3 k hk⟩, fun x hx => by rw [e 50 (by decide)]; exact b x hx, fun x hx => by rw [e x (by omega), e (25 + x) (by omega)]; exact c x hx, fun k hk => by rw [e (51 + k) (by omega)]; exact d1 k hk, fun k h1 h2 => by rw [e (51 + k) (by omega)]; exact d2 k h1 h2⟩
section RR55
variable {s : Nat} {h q x : Hp} {n : Nat} {p : Int32}
theorem rD.at {T : TT} {B c : Nat} (d : rD s T B c h) (e : ∀ a k, 235 ≤ a → a ≤ 258 → hi q a k = hi h a k) (e2 : hi q 226 20 = hi h 226 20) : rD s T B c q := by
  obtain ⟨⟨d1, d2, d3, d4, d5⟩, d6, d7⟩ := d
  exact ⟨⟨d1.cg (e 235 s (by decide) (by decide)) (e 236 s (by decide) (by decide)), d2.cg (fun a k h1 h2 => e a k (by omega) (by omega)), d3.cg (fun a k h1 h2 => e a k (by omega) (by omega)) e2, d4.cg (fun a k h1 h2 => e a k (by omega) (by omega)), d5.cg (e 248 s (by decide) (by decide)) (e 249 s (by decide) (by decide))⟩, d6.cg (Nat.le_refl B) (Nat.le_refl c) (fun k _ => ⟨e 250 _ (by decide) (by decide), e 251 _ (by decide) (by decide)⟩) (fun a j h1 h2 _ => e a j (by omega) (by omega)) (fun j _ => ⟨e 257 j (by decide) (by decide), e 258 j (by decide) (by decide)⟩), d7⟩
theorem kr_2 {h0 : Hp} : ∀ (n : Nat) (h : Hp) (l1 : Int32) (i : Nat), l1.toInt = (i : Int) → i ≤ 63 → (∀ k, hi h 263 k = hi h0 263 k) → (∀ k, k < i → hi h 262 k = hi h0 263 k) → Pc (W_X12_keepsRow n 2 h l1) (fun q => ∀ k, k < 63 → hi q 262 k = hi h0 263 k) := by
  intro n
  induction n with
  | zero => intro h l1 i a b c d; exact Pc.no
  | succ n ih =>
    intro h l1 i a b c d
    have f63 := lit_63
    have f1 := lit_1
    have n1 := ncT (show 0 ≤ l1.toInt by omega)
    have n2 : Int32.toNatClampNeg l1 = i := by omega
    rw [u_X12_keepsRow, n2]
    refine Pc.pos rfl ?_
    refine Pc.le (fun c1 => Pc.ret (fun k hk => d k (by omega))) (fun c1 => Pc.chk (fun _ => Pc.chk (fun _ => ?_)))
    have a1 := adT l1 1 (by omega) (by omega)
    refine ih _ (l1 + 1) (i + 1) (by omega) (by omega) (fun k => by rw [hi_wrI, if_neg (by omega)]; exact c k) (fun k hk => ?_)
    rw [hi_wrI]
    by_cases y : k = i
    · rw [if_pos ⟨rfl, y⟩, y]; exact c i
    · rw [if_neg (fun z => y z.2)]; exact d k (by omega)
theorem kr_row : Pc (F_X12_keepsRow n h) (fun q => ∀ k, k < 63 → hi q 262 k = hi h 263 k) := by
  unfold F_X12_keepsRow
  exact kr_2 n h 0 0 lit_0 (Nat.zero_le _) (fun _ => rfl) (fun k hk => absurd hk (Nat.not_lt_zero k))
/-- a fault is told -/
theorem rw_E (z : ¬ ZR x) (m : NN x) : Pc (rdE n x p) (fun q => q.1.toInt ≠ 0) := by
  have f0 := lit_0
  obtain ⟨m1, m2⟩ := m
  have e13 : hi (wrI x 226 17 p) 226 13 = hi x 226 13 := hiK rfl 226 13 (by decide)
  have e15 : hi (wrI x 226 17 p) 226 15 = hi x 226 15 := hiK rfl 226 15 (by decide)
  unfold rdE
  rw [e13, e15]
  refine Pc.le (fun c1 => ?_) (fun c1 => Pc.ret ?_)
  · refine Pc.le (fun c2 => ?_) (fun c2 => Pc.ret ?_)
    · exact (z ⟨by omega, by omega⟩).elim
    · show (hi x 226 15).toInt ≠ 0
      omega
  · show (hi x 226 13).toInt ≠ 0
    omega
theorem rw_T (z : ¬ ZR x) (m : NN x) : Pc (rdT n x) (fun q => q.1.toInt ≠ 0) := by
  unfold rdT
  exact Pc.le (fun _ => Pc.le (fun _ => rw_E z m) (fun _ => rw_E z m)) (fun _ => rw_E z m)
theorem zr.bad (a : zr h q) (z : ¬ ZR h) (m : NN h) : ¬ ZR q ∧ NN q := ⟨fun y => z (a.1 y), a.2.2 m⟩
theorem rw_B (z : ¬ ZR x) (m : NN x) : Pc (rdB n x) (fun q => q.1.toInt ≠ 0) := by
  unfold rdB
  refine Pc.bind zf_X12_isBeyond (fun q99 h99 => ?_)
  obtain ⟨z1, m1⟩ := (zr.fr h99 (fun z => z) (fun z => z)).bad z m
  refine Pc.ite (fun _ => rw_T z1 m1) (fun _ => ?_)
  refine Pc.bind (zb_X12_wrong (by decide)) (fun q hq => ?_)
  obtain ⟨z2, m2⟩ := hq.bad z1 m1
  exact rw_T z2 m2
theorem rw_112 : ∀ (n : Nat) (h : Hp) (l1 : Int32), ¬ ZR h → NN h → Pc (W_X12_read n 112 h l1) (fun q => q.1.toInt ≠ 0) := by
  intro n
  induction n with
  | zero => intro h l1 z m; exact Pc.no
  | succ n ih =>
    intro h l1 z m
    rw [u_X12_read]
    refine Pc.neg (by decide) (Pc.pos rfl ?_)
    refine Pc.ite (fun c1 => ?_) (fun c1 => ?_)
    · refine Pc.bind zf_X12_is (fun q75 h75 => ?_)
      obtain ⟨z1, m1⟩ := (zr.fr h75 (fun z => z) (fun z => z)).bad z m
      refine Pc.ite (fun _ => ?_) (fun _ => ?_)
      · refine Pc.bind zb_X12_tellOne (fun q hq => ?_)
        obtain ⟨z2, m2⟩ := hq.bad z1 m1
        exact ih q l1 z2 m2
      · exact Pc.ite (fun _ => rw_B z1 m1) (fun _ => rw_T z1 m1)
    · exact Pc.ite (fun _ => rw_B z m) (fun _ => rw_T z m)
/-- the end of a text that holds -/
def rgQ5 (s : Nat) (T : TT) (q : Int32 × Hp) : Prop := q.1.toInt = 0 → VT T → VLw T → RF s T q.2
theorem rg_E {T : TT} {B c : Nat} (hb : B ≤ 130 * s + 130 ∧ c ≤ 420 * s + 420) (hs : s ≤ 1) (d : rD s T B c x) (e : (hi x 226 19).toInt = (s : Int)) : Pc (rdE n x p) (rgQ5 s T) := by
  have f0 := lit_0
  have e13 : hi (wrI x 226 17 p) 226 13 = hi x 226 13 := hiK rfl 226 13 (by decide)
  have e15 : hi (wrI x 226 17 p) 226 15 = hi x 226 15 := hiK rfl 226 15 (by decide)
  have e19 : hi (wrI x 226 17 p) 226 19 = hi x 226 19 := hiK rfl 226 19 (by decide)
  unfold rdE
  rw [e13, e15, e19]
  refine Pc.le (fun c1 => ?_) (fun c1 => Pc.ret (fun z => ?_))
  · refine Pc.le (fun c2 => ?_) (fun c2 => Pc.ret (fun z => ?_))
    · generalize eg : wrI (wrI x 226 17 p) 226 18 (hi x 226 19) = g
      have r2 (a k : Nat) (n1 : ¬ (a = 226 ∧ (k = 17 ∨ k = 18))) : hi g a k = hi x a k := by
        rw [← eg, hi_wrI, if_neg (by omega), hi_wrI, if_neg (by omega)]
      have lv : (hi g 226 18).toInt = (s : Int) := by rw [hiE eg]; exact e
      have dg : rD s T B c g := d.at (fun a k h1 h2 => r2 a k (by omega)) (r2 226 20 (by omega))
      have bg : Pc (F_X12_begins n g) (fun q => (VT T → VLw T → RWF T (hi q 263)) ∧ frZ (fun x k => (263 ≤ x ∧ x ≤ 264) ∨ (x = 226 ∧ (k = 55 ∨ k = 56))) g q) := fun q eq => ⟨fun v vl => bg_row hs lv dg v vl q eq, zf_X12_begins q eq⟩
      refine Pc.bind bg (fun q6 h6 => ?_)
      obtain ⟨w6, fr6⟩ := h6
      have kr : Pc (F_X12_keepsRow n q6) (fun q => (∀ k, k < 63 → hi q 262 k = hi q6 263 k) ∧ frZ (fun x k => x = 262) q6 q) := fun q eq => ⟨kr_row q eq, zf_X12_keepsRow q eq⟩
      refine Pc.bind kr (fun q8 h8 => ?_)
      obtain ⟨w8, fr8⟩ := h8
      refine (ez_243 n _ 0 0 f0 (by decide) (fun k hk => absurd hk (Nat.not_lt_zero k))).mono (fun q hq _ v vl => ?_)
      obtain ⟨-, y1, y2⟩ := hq
      have r8 (a k : Nat) (n1 : ¬ (262 ≤ a ∧ a ≤ 264)) (n2 : a ≠ 273) (n3 : ¬ (a = 226 ∧ (k = 17 ∨ k = 18 ∨ k = 55 ∨ k = 56 ∨ k = 59 ∨ k = 65))) : hi q.2 a k = hi x a k := by
        rw [y1 a k n2, hi_wrI, if_neg (by omega), hi_wrI, if_neg (by omega), fr8.1 a k (by omega), fr6.1 a k (by omega)]
        exact r2 a k (by omega)
      refine ⟨?_, ⟨B, c, d.at (fun a k h1 h2 => r8 a k (by omega) (by omega) (by omega)) (r8 226 20 (by omega) (by omega) (by omega)), hb⟩, (w6 v vl).cg v.2.2.1.1 (fun k hk => ?_), ⟨?_, ?_⟩, y2⟩
      · rw [y1 226 18 (by decide), hi_wrI, if_neg (by decide), hi_wrI, if_neg (by decide), fr8.1 226 18 (by decide), fr6.1 226 18 (by decide)]
        exact lv
      · rw [y1 262 k (by decide), hi_wrI, if_neg (by omega), hi_wrI, if_neg (by omega)]
        exact w8 k hk
      · rw [y1 226 59 (by decide), hi_wrI, if_neg (by decide), hi_wrI, if_pos ⟨rfl, rfl⟩]
      · rw [y1 226 65 (by decide), hi_wrI, if_pos ⟨rfl, rfl⟩]
    · exfalso
      have z' : (hi x 226 15).toInt = 0 := z
      omega
  · exfalso
    have z' : (hi x 226 13).toInt = 0 := z
    omega
theorem rg_T {T : TT} {B c : Nat} (hb : B ≤ 130 * s + 130 ∧ c ≤ 420 * s + 420) (hs : s ≤ 1) (d : rD s T B c x) (e : (hi x 226 19).toInt = (s : Int)) : Pc (rdT n x) (rgQ5 s T) := by
  unfold rdT
  exact Pc.le (fun _ => Pc.le (fun _ => rg_E hb hs d e) (fun _ => rg_E hb hs d e)) (fun _ => rg_E hb hs d e)
theorem rg_B {T : TT} {B c : Nat} (hb : B ≤ 130 * s + 130 ∧ c ≤ 420 * s + 420) (hs : s ≤ 1) (d : rD s T B c x) (e : (hi x 226 19).toInt = (s : Int)) : Pc (rdB n x) (rgQ5 s T) := by
  unfold rdB
  refine Pc.bind zf_X12_isBeyond (fun q99 h99 => ?_)
  have r (a k : Nat) : hi q99.2 a k = hi x a k := h99.1 a k (fun z => z)
  have d9 : rD s T B c q99.2 := d.at (fun a k _ _ => r a k) (r 226 20)
  have e9 : (hi q99.2 226 19).toInt = (s : Int) := by rw [r]; exact e
  refine Pc.ite (fun _ => rg_T hb hs d9 e9) (fun _ => ?_)
  refine Pc.bind zf_X12_wrong (fun q hq => ?_)
  exact rg_T hb hs (d9.at (fun a k h1 h2 => hq.1 a k (by omega)) (hq.1 226 20 (by omega))) (by rw [hq.1 226 19 (by omega)]; exact e9)
theorem rg_112 {N : Nat} {kd pl vl : Nat → Int} (X : TX N kd pl vl) (hs : s ≤ 1) {hS hC : Hp} (rc : rdC s hS hC) : ∀ (n : Nat) (h : Hp) (l1 : Int32) (T : TT) (t B c : Nat), rX N kd pl vl s t B c h → rD s T B c h → jR s hC h → (10000 : Int) + (402 - (t : Int)) < n → Pc (W_X12_read n 112 h l1) (fun q => q.1.toInt = 0 → ∃ m T' t', TLD kd vl m T t T' t' ∧ kd t' = 32 ∧ (VT T' → VLw T' → RF s T' q.2)) := by
  intro n
  induction n with
  | zero => intro h l1 T t B c a d j hn; exact Pc.no
  | succ n ih =>
    intro h l1 T t B c a d j hn
    have f0 := lit_0
    have e11 : (hi h 226 11).toInt = (t : Int) := a.1.1.2.2.1.2.2.1 rfl
    have t4 : t ≤ 400 := a.1.1.2.1.2
    have e39 := a.1.2.1
    have e45 := a.1.2.2.1
    have j5 := j.1.2.2.2.2.1.2
    have j6 := j.1.2.2.2.2.2.2
    have jz := j.2 a.1.1.2.2.1.2.1
    have j7 := jz.2.2.1
    have hb : B ≤ 130 * s + 130 ∧ c ≤ 420 * s + 420 := ⟨by omega, by omega⟩
    have fz : (hi h 226 13).toInt = 0 := a.1.1.2.2.1.2.1
    have wz : (hi h 226 15).toInt = 0 := a.2
    have e19 : (hi h 226 19).toInt = (s : Int) := a.1.2.2.2
    rw [u_X12_read]
    refine Pc.neg (by decide) (Pc.pos rfl ?_)
    refine Pc.eq (fun c1 => ?_) (fun c1 => absurd (fz.trans f0.symm) c1)
    refine Pc.bind (pr_is X a.1.1.1 a.1.1.2.1 a.1.1.2.2.1 (x1 := 0) 32 (by decide) (by decide)) (fun q75 hq => ?_)
    obtain ⟨e7, i7⟩ := hq
    rw [e7]
    refine Pc.eq (fun c2 => ?_) (fun c2 => ?_)
    · have ne : kd t ≠ 32 := fun z => i7.2 ⟨rfl, z⟩ (c2.trans f0)
      have tl : Pc (F_X12_tellOne n h) (fun q => (ZR q → rTell N kd pl vl s T t q) ∧ zr h q ∧ jR s hC q) := fun q eq => ⟨yt_tell X hs a d ne q eq, zb_X12_tellOne q eq, ((sr_one (by omega) hs j fz ((rd_x rc j).2.2 _)).pc q eq).1⟩
      refine Pc.bind tl (fun q hq => ?_)
      obtain ⟨g, m, jq⟩ := hq
      have nq : NN q := m.2.2 ⟨by omega, by omega⟩
      by_cases z : ZR q
      · obtain ⟨T', t', B', c', st, lt, a', d'⟩ := g z
        refine (ih q l1 T' t' B' c' a' d' jq (by omega)).mono (fun r hr y => ?_)
        obtain ⟨m', U, u, k1, k2, k3⟩ := hr y
        exact ⟨m' + 1, U, u, ⟨T', t', st, k1⟩, k2, k3⟩
      · exact (rw_112 n q l1 z nq).mono (fun r hr y => absurd y hr)
    · have k32 : kd t = 32 := (i7.1 (fun z => c2 (z.trans f0.symm))).2
      refine Pc.eq (fun _ => ?_) (fun c3 => absurd (fz.trans f0.symm) c3)
      exact (rg_B hb hs d e19).mono (fun r hr y => ⟨0, T, t, ⟨rfl, rfl⟩, k32, hr y⟩)
end RR55
end
section
/-! A WHOLE TEXT: both tell the same -/
theorem tq_all2 {bs : Nat → Int} {m : Nat} {hc hr : Hp} {N : Nat} (q : TQ bs m hc hr N) : ∃ kd pl vl, TX N kd pl vl ∧ CT N kd pl vl hc ∧ RT N kd pl vl hr ∧ ∀ t, kd t = 30 → 0 ≤ vl t ∧ vl t ≤ 9999 := by
  obtain ⟨kd, pl, vl, nm, ⟨x1, x2, x3, x4⟩, ⟨c1, c2, c3⟩, R, -, -, -⟩ := tq_all q
  obtain ⟨K, eK⟩ : ∃ K : Nat → Int, ∀ t, K t = if t ≤ N then kd t else 32 := ⟨_, fun _ => rfl⟩
  have k1 (t : Nat) (ht : t ≤ N) : K t = kd t := (eK t).trans (if_pos ht)
  refine ⟨K, pl, vl, ⟨fun t ht => ?_, ?_, fun t ht z => ?_, x4⟩, ⟨c1, c2, fun t ht => ?_⟩, fun t ht => ?_, fun t z => ?_⟩
  · rw [k1 t (Nat.le_of_lt ht)]; exact x1 t ht
  · rw [k1 N (Nat.le_refl N)]; exact x2
  · rw [k1 t (Nat.le_of_lt ht)] at z
    exact x3 t ht z
  · rw [k1 t (Nat.le_of_lt ht)]; exact c3 t ht
  · rw [k1 t ht.1]; exact R t ht
  · by_cases y : t < N
    · rw [k1 t (Nat.le_of_lt y)] at z
      exact x3 t y z
    · exfalso
      by_cases y2 : t = N
      · rw [y2, k1 N (Nat.le_refl N), x2] at z
        exact absurd z (by decide)
      · rw [eK, if_neg (by omega)] at z
        exact absurd z (by decide)
/-- the reference's side is plain, its law too -/
def rB2 (s : Nat) (g2 hr : Hp) : Prop := rB s g2 hr ∧ ((hi hr 248 s).toInt = 0 ∧ (hi hr 249 s).toInt = 0) ∧ (∀ k, k < 4 → (hi hr 250 (4 * s + k)).toInt = (hi hr 251 (4 * s + k)).toInt) ∧ (hi hr 226 39).toInt = ((130 * s : Nat) : Int) ∧ (hi hr 226 45).toInt = ((420 * s : Nat) : Int)
/-- whatever both make of the same text -/
def bothP (s : Nat) (qc qr : Int32 × Hp) : Prop := qc.1.toInt = 0 → qr.1.toInt = 0 → ∃ T, CF T qc.2 ∧ RF s T qr.2
def rdJ2 (bs : Nat → Int) (m : Nat) (qc : Int32 × Hp) : Prop := ∀ (s : Nat) (hS hC g0 g2 hr : Hp) (l1 : Int32), s ≤ 1 → CtP bs m g0 g2 → rB2 s g2 hr → rdC s hS hC → jR s hC hr → ∀ m', 11000 ≤ m' → Pc (W_X12_read m' 112 hr l1) (bothP s qc)
theorem cB0.cg {h q : Hp} (b : cB0 h) (f : ∀ a k, a ≤ 17 → hi q a k = hi h a k) : cB0 q := by
  obtain ⟨⟨⟨d1, d2, d3, d4, d5⟩, ⟨S, l, hS⟩, v⟩, c1, c2, ⟨e1, e2, e3, e4⟩, e5⟩ := b
  refine ⟨⟨⟨d1.cg (fun k => f 4 k (by decide)), d2.cg (f 2 13 (by decide)) (fun k => f 16 k (by decide)) (fun k => f 17 k (by decide)), d3.cg (f 3 2 (by decide)) (fun k => f 15 k (by decide)), d4.cg (f 2 14 (by decide)) (f 2 12 (by decide)), d5.cg (f 3 3 (by decide)) (f 3 4 (by decide))⟩, ⟨S, l.cg (f 5 3 (by decide)) (fun k => f 6 k (by decide)) (fun k => f 7 k (by decide)), hS⟩, v⟩, ?_, ?_, ⟨?_, ?_, ?_, ?_⟩, fun k hk => ?_⟩
  · unfold cS
    rw [f 2 5 (by decide), f 2 4 (by decide)]; exact c1
  · rw [f 2 6 (by decide)]; exact c2
  · rw [f 10 0 (by decide)]; exact e1
  · rw [f 10 1 (by decide)]; exact e2
  · rw [f 10 2 (by decide)]; exact e3
  · rw [f 10 3 (by decide)]; exact e4
  · rw [f 13 k (by decide)]; exact e5 k hk
theorem rB2.rX {N : Nat} {kd pl vl : Nat → Int} {s : Nat} {g2 hr : Hp} (b : rB2 s g2 hr) (R : RT N kd pl vl g2) : rX N kd pl vl s 0 (130 * s) (420 * s) hr ∧ rD s TT0 (130 * s) (420 * s) hr := by
  obtain ⟨⟨r1, r2, r3, r4, ⟨x11, x12, x13, x15, x19, x20⟩, y5, y6, y7, y42, y45⟩, ⟨w1, w2⟩, p1, p2, p3⟩ := b
  refine ⟨⟨⟨⟨R.cg ⟨r1, r2, r3⟩, ⟨Nat.zero_le _, Nat.zero_le _⟩, ⟨Int.le_refl 0, x13, fun _ => x11, fun z => absurd rfl z⟩, x12⟩, p2, p3, x19⟩, x15⟩, ⟨⟨⟨y5, y6⟩, ⟨y7, fun k hk => absurd hk (Nat.not_lt_zero k)⟩, ⟨y42, x20, fun k hk => absurd hk (Nat.not_lt_zero k)⟩, ⟨y45, fun k hk => absurd hk (Nat.not_lt_zero k)⟩, w1, w2⟩, fun k hk => ⟨fun _ => p1 k hk, fun b hb => absurd hb (fun z => nsn (show (none : Option LWS) = some b from z))⟩, Nat.zero_le 8, Nat.zero_le 5, Nat.zero_le 8⟩⟩
theorem c_text2 {bs : Nat → Int} {m n : Nat} {h : Hp} {x1 : Int32} (B : BS bs m) (hx : x1.toInt = (m : Int)) (W : WD h) (hb : ∀ i, i < m → ((vp_nar .byte (hi h 1 i) : Int32) &&& 255).toInt = bs i) : Pc (F_X7_readText n h x1) (rdJ2 bs m) := by
  unfold F_X7_readText
  have cl : Pc (F_X7_clear n h) (fun q => (frA clA h q ∧ bgC q) ∧ cB0 q) := fun q e => ⟨pc_clear7 q e, clr7 q e⟩
  refine Pc.bind cl (fun q25 h25 => ?_)
  obtain ⟨⟨a1, -⟩, b0⟩ := h25
  have f0 := lit_0
  refine Pc.bind (pc_scan B hx (fun k hk => by rw [a1.2 19 k]; exact W k hk) (fun i hi' => by rw [a1.1 1 i (by unfold clA; omega)]; exact hb i hi')) (fun q27 h27 => ?_)
  intro qc eqc s hS hC g0 g2 hr l1 hs E r rc jr m' hm qr eqr zc' zr'
  obtain ⟨N, q⟩ := tok_both B h27 E
  obtain ⟨kd, pl, vl, X, C, R, vlr⟩ := tq_all2 q
  have bc : cB0 q27 := b0.cg (fun a k ha => h27.1.1 a k (by omega) (by omega) (by omega))
  obtain ⟨d, c1, c2, e1, e2⟩ := bc
  obtain ⟨m1, T1, t1, k1, k2, k3⟩ := ct_loop X vlr n q27 0 TT0 0 ⟨C, ⟨Nat.zero_le _, Nat.zero_le _⟩, c1, c2⟩ d e1 e2 (by omega) (by omega) qc eqc zc'
  obtain ⟨ax, ad⟩ := r.rX R
  obtain ⟨m2, T2, t2, j1, j2, j3⟩ := rg_112 X hs rc m' hr l1 TT0 0 _ _ ax ad jr (by omega) qr eqr zr'
  obtain ⟨eT, -⟩ := TLD.uniq k1 j1 k2 j2
  subst eT
  exact ⟨T1, k3, j3 k3.1 k3.2.1⟩
end
section
/-! A WHOLE TEXT: the reference from its first byte -/
section R55D
variable {s : Nat} {h : Hp} {n : Nat}
theorem pl_51 : ∀ (n : Nat) (h : Hp) (l1 l2 : Int32), hi h 248 s = 0 → hi h 249 s = 0 → Pc (W_X12_plain n 51 h l1 l2) (fun q => hi q 248 s = 0 ∧ hi q 249 s = 0) := by
  intro n
  induction n with
  | zero => intro h l1 l2 a b; exact Pc.no
  | succ n ih =>
    intro h l1 l2 a b
    rw [u_X12_plain]
    refine Pc.pos rfl ?_
    refine Pc.le (fun _ => Pc.ret ⟨a, b⟩) (fun _ => Pc.chk (fun _ => Pc.chk (fun _ => ih _ l1 (l2 + 1) ?_ ?_)))
    · rw [hi_wrI, if_neg (by omega), hi_wrI, if_neg (by omega)]; exact a
    · rw [hi_wrI, if_neg (by omega), hi_wrI, if_neg (by omega)]; exact b
theorem pl_ws {x1 : Int32} (hx : x1.toInt = (s : Int)) : Pc (F_X12_plain n h x1) (fun q => hi q 248 s = 0 ∧ hi q 249 s = 0) := by
  have n1 := ncT (show 0 ≤ x1.toInt by omega)
  have n2 : Int32.toNatClampNeg x1 = s := by omega
  unfold F_X12_plain
  rw [n2]
  refine Pc.chk (fun _ => Pc.chk (fun _ => Pc.chk (fun _ => Pc.chk (fun _ => Pc.chk (fun _ => Pc.chk (fun _ => Pc.chk (fun _ => ?_)))))))
  refine pl_51 n _ x1 0 ?_ ?_
  · rw [hi_wrI, if_neg (by omega), hi_wrI, if_pos ⟨rfl, rfl⟩]
  · rw [hi_wrI, if_pos ⟨rfl, rfl⟩]
end R55D
/-- both hold what the text tells -/
def bothQ (qc qr : Int32 × Hp) : Prop := qc.1.toInt = 0 → qr.1.toInt = 0 → ∃ s, s ≤ 1 ∧ ∃ T, CF T qc.2 ∧ RF s T qr.2
section R55E
variable {hS : Hp}
set_option maxHeartbeats 4000000 in
theorem rd_10b (d : dI hS) (kd : ∀ k, 0 ≤ (hi hS 229 k).toInt) {bs : Nat → Int} {m : Nat} (B : BS bs m) (Y : KY hS) (tm : (hi hS 226 2).toInt = (m : Int)) (hb : ∀ i, i < m → ((vp_nar .byte (hi hS 227 i) : Int32) &&& 255).toInt = bs i) {qc : Int32 × Hp} (Q : rdJ2 bs m qc) {g0 : Hp} (e0 : wrI hS 226 4 (hi hS 226 2) = g0) : ∀ (n : Nat) (h : Hp) (l1 : Int32) (i : Nat), l1.toInt = (i : Int) → i ≤ m → (∀ a k, a ≠ 228 → hi h a k = hi g0 a k) → (∀ a k, hl h a k = hl g0 a k) → (∀ k, k < i → ((vp_nar .byte (hi h 228 k) : Int32) &&& 255).toInt = bs k) → (68719500000 : Int) + (2001 - l1.toInt) < n → Pc (W_X12_read n 10 h l1) (bothQ qc) := by
  intro n
  induction n with
  | zero => intro h l1 i a a' b c z e; exact Pc.no
  | succ n ih =>
    intro h l1 i a a' b c z e
    have f0 := lit_0
    have f1 := lit_1
    have tp := d.2.1
    have e4 : hi h 226 4 = hi hS 226 2 := (b 226 4 (by decide)).trans (hiE e0)
    rw [u_X12_read]
    refine Pc.pos rfl ?_
    rw [e4]
    refine Pc.le (fun c1 => ?_) (fun c1 => ?_)
    · have im : i = m := by omega
      subst im
      generalize eC : wrI h 226 2 0 = gC
      have rC (x k : Nat) (n0 : x ≠ 228) (n1 : ¬ (x = 226 ∧ (k = 2 ∨ k = 4))) : hi gC x k = hi hS x k := by
        rw [← eC, hi_wrI, if_neg (by omega), b x k n0, ← e0, hi_wrI, if_neg (by omega)]
      have lC (x k : Nat) : hl gC x k = hl hS x k := by
        rw [← eC, hl_wrI, c x k, ← e0, hl_wrI]
      have z4 : hi gC 226 4 = hi hS 226 2 := (hiK eC 226 4 (by decide)).trans e4
      have z2 : (hi gC 226 2).toInt = 0 := by rw [hiE eC]; exact f0
      have sr : SR bs i gC := ⟨by rw [z4]; exact tm, fun k hk => by rw [hiA eC 228 k (by decide)]; exact z k hk⟩
      have ky : KY gC := fun k hk => by rw [lC 233 k]; exact Y k hk
      refine Pc.bind (fun q2 eq2 => And.intro ((sf_X12_cut (h0 := gC) (by rw [z4]; exact tp) n gC (by omega) ⟨fun _ _ _ _ _ _ => rfl, fun _ _ _ => rfl, fun k => by rw [rC 229 k (by decide) (by omega)]; exact kd k⟩).pc q2 eq2) (pr_cut B sr ky q2 eq2)) (fun q2 hq2 => ?_)
      obtain ⟨⟨jc, -⟩, ct⟩ := hq2
      have e18 : hi (wrI (wrI (wrI (wrI q2 226 11 0) 226 12 0) 226 13 0) 226 15 0) 226 18 = hi hS 226 18 := by
        rw [hi_wrI, if_neg (by decide), hi_wrI, if_neg (by decide), hi_wrI, if_neg (by decide), hi_wrI, if_neg (by decide), jc.1 226 18 (by decide) (by decide) (by decide) (by decide)]
        exact rC 226 18 (by decide) (by decide)
      rw [e18]
      have l01 := d.1.1
      generalize ev : (1 - hi hS 226 18 : Int32) = v
      have fv := sbG ev lit_1 rfl (by omega) (by omega)
      obtain ⟨s, hs⟩ : ∃ s : Nat, v.toInt = (s : Int) := ⟨v.toInt.toNat, by omega⟩
      have hs1 : s ≤ 1 := by omega
      generalize e6 : wrI (wrI (wrI (wrI (wrI (wrI q2 226 11 0) 226 12 0) 226 13 0) 226 15 0) 226 19 v) 226 20 0 = g6
      have w19 : hi g6 226 19 = v := by rw [← e6]; exact (rd_w6 q2 v).2.2.2.2.1
      rw [w19]
      refine Pc.bind (fun q4 eq4 => And.intro ((sf_X12_plain (s := s) (by omega) hs1 hs).pc q4 eq4) (pl_ws hs q4 eq4)) (fun q4 plw => ?_)
      obtain ⟨pl, ws⟩ := plw
      have x19 : hi q4 226 19 = v := (pl.1.1.1 226 19 (by unfold plW; omega)).trans w19
      rw [x19]
      have y19 : hi (wrI q4 226 39 (130 * v)) 226 19 = v := (hiK rfl 226 19 (by decide)).trans x19
      rw [y19]
      have m1 := mlT 130 v 130 lit_130 (by omega) (by omega)
      have m2 := mlT 420 v 420 lit_420 (by omega) (by omega)
      generalize eH : wrI (wrI q4 226 39 (130 * v)) 226 45 (420 * v) = hC
      obtain ⟨jr, rc⟩ := rd_begin hs1 rC lC z2 jc hs e6 pl (by omega) (by omega) eH
      have rC' (a k : Nat) (n : ¬ (a = 226 ∧ (k = 39 ∨ k = 45))) : hi hC a k = hi q4 a k := by
        rw [← eH, hi_wrI, if_neg (by omega), hi_wrI, if_neg (by omega)]
      have r2 : rB2 s q2 hC := by
        refine ⟨rd_rB hs e6 pl eH, ⟨?_, ?_⟩, fun k hk => ?_, ?_, ?_⟩
        · rw [rC' 248 s (by omega), ws.1]; exact f0
        · rw [rC' 249 s (by omega), ws.2]; exact f0
        · rw [rC' 250 _ (by omega), rC' 251 _ (by omega)]
          exact pl.2 k (by omega)
        · rw [← eH, hi_wrI, if_neg (by decide), hi_wrI, if_pos ⟨rfl, rfl⟩]
          omega
        · rw [hiE eH]
          omega
      exact (Q s hS hC gC q2 hC l1 hs1 ct r2 rc jr n (by omega)).mono (fun r hr y1 y2 => ⟨s, hs1, hr y1 y2⟩)
    · refine Pc.chk (fun _ => Pc.chk (fun _ => ?_))
      have n1 := ncT (show 0 ≤ l1.toInt by omega)
      have n2 : Int32.toNatClampNeg l1 = i := by omega
      have B2 := B.1
      have a1 := adT l1 1 (by omega) (by omega)
      rw [n2]
      refine ih _ (l1 + 1) (i + 1) (by omega) (by omega) (fun x k q => ?_) (fun x k => c x k) (fun k hk => ?_) (by omega)
      · rw [hi_wrI, if_neg (fun w => q w.1)]
        exact b x k q
      · rw [hi_wrI]
        by_cases y : k = i
        · rw [if_pos ⟨rfl, y⟩, y, narB, narB, i8i8, ← narB, b 227 i (by decide), ← e0, hi_wrI, if_neg (by omega)]
          exact hb i (by omega)
        · rw [if_neg (fun w => y w.2)]
          exact z k (by omega)
theorem sj_X12_read2 {n : Nat} (hn : 68719600000 ≤ n) (d : dI hS) (kd : ∀ k, 0 ≤ (hi hS 229 k).toInt) {bs : Nat → Int} {m : Nat} (B : BS bs m) (Y : KY hS) (tm : (hi hS 226 2).toInt = (m : Int)) (hb : ∀ i, i < m → ((vp_nar .byte (hi hS 227 i) : Int32) &&& 255).toInt = bs i) {qc : Int32 × Hp} (Q : rdJ2 bs m qc) : Pc (F_X12_read n hS) (bothQ qc) := by
  have f0 := lit_0
  unfold F_X12_read
  exact rd_10b d kd B Y tm hb Q rfl n _ 0 0 f0 (Nat.zero_le m) (fun _ _ _ => rfl) (fun _ _ => rfl) (fun k hk => absurd hk (Nat.not_lt_zero k)) (by omega)
end R55E
end
section
/-! A WHOLE TEXT: what both hold behind it -/
section R55F
variable {h q : Hp} {n : Nat}
theorem hi_wrA' {h : Hp} {a : Nat} {f : Nat → Int32} (k : Nat) : hi (wrA h a f) a k = f k := by
  show upA (hi h) a f a k = f k
  unfold upA
  rw [if_pos rfl]
theorem bcm3 {a b : Nat} (ab : a ≠ b) : Pc (F_X3_become n h a b) (fun q => ∀ k, k < 4 → hi q a k = hi h b k) := by
  unfold F_X3_become
  generalize e1 : wrI h a 0 (hi h b 0) = g1
  generalize e2 : wrI g1 a 1 (hi g1 b 1) = g2
  generalize e3 : wrI g2 a 2 (hi g2 b 2) = g3
  generalize e4 : wrI g3 a 3 (hi g3 b 3) = g4
  have b1 (k : Nat) : hi g1 b k = hi h b k := hiA e1 b k (fun z => ab z.symm)
  have b2 (k : Nat) : hi g2 b k = hi h b k := (hiA e2 b k (fun z => ab z.symm)).trans (b1 k)
  have b3 (k : Nat) : hi g3 b k = hi h b k := (hiA e3 b k (fun z => ab z.symm)).trans (b2 k)
  refine Pc.ret (fun k hk => ?_)
  have : k = 0 ∨ k = 1 ∨ k = 2 ∨ k = 3 := by omega
  rcases this with rfl | rfl | rfl | rfl
  · rw [hiK e4 a 0 (by decide), hiK e3 a 0 (by decide), hiK e2 a 0 (by decide), hiE e1]
  · rw [hiK e4 a 1 (by decide), hiK e3 a 1 (by decide), hiE e2, b1]
  · rw [hiK e4 a 2 (by decide), hiE e3, b2]
  · rw [hiE e4, b3]
theorem bcm4 {a b : Nat} (ab : a + 2 < b ∨ b + 2 < a) : Pc (F_X4_become n h a b) (fun q => hi q a 3 = hi h b 3 ∧ (∀ k, k < 404 → hi q (a + 1) k = hi h (b + 1) k) ∧ ∀ k, k < 4 → hi q (a + 2) k = hi h (b + 2) k) := by
  unfold F_X4_become
  generalize e1 : wrI h a 3 (hi h b 3) = g1
  generalize e2 : wrA g1 (a + 1) (cpF g1 (b + 1) (a + 1) 404) = g2
  generalize e3 : wrA g2 (a + 2) (cpF g2 (b + 2) (a + 2) 4) = g3
  refine Pc.ret ⟨?_, fun k hk => ?_, fun k hk => ?_⟩
  · rw [hiAA e3 a 3 (by omega), hiAA e2 a 3 (by omega), hiE e1]
  · rw [hiAA e3 (a + 1) k (by omega), ← e2, hi_wrA']
    unfold cpF
    rw [if_pos hk, hiA e1 (b + 1) k (by omega)]
  · rw [← e3, hi_wrA']
    unfold cpF
    rw [if_pos hk, hiAA e2 (b + 2) k (by omega), hiA e1 (b + 2) k (by omega)]
theorem bcm8 {a b : Nat} (ab : a + 3 < b ∨ b + 3 < a) : Pc (F_X8_become n h a b) (fun q => (∀ k, k < 4 → hi q a k = hi h b k) ∧ (∀ k, k < 25 → hi q (a + 1) k = hi h (b + 1) k) ∧ (∀ k, k < 5 → hi q (a + 2) k = hi h (b + 2) k) ∧ ∀ k, k < 5 → hi q (a + 3) k = hi h (b + 3) k) := by
  unfold F_X8_become
  generalize e1 : wrI h a 0 (hi h b 0) = g1
  generalize e2 : wrI g1 a 1 (hi g1 b 1) = g2
  generalize e3 : wrI g2 a 2 (hi g2 b 2) = g3
  generalize e4 : wrI g3 a 3 (hi g3 b 3) = g4
  generalize e5 : wrA g4 (a + 1) (cpF g4 (b + 1) (a + 1) 25) = g5
  generalize e6 : wrA g5 (a + 2) (cpF g5 (b + 2) (a + 2) 5) = g6
  generalize e7 : wrA g6 (a + 3) (cpF g6 (b + 3) (a + 3) 5) = g7
  have r1 (x k : Nat) (n : x ≠ a) : hi g1 x k = hi h x k := hiA e1 x k n
  have r2 (x k : Nat) (n : x ≠ a) : hi g2 x k = hi h x k := (hiA e2 x k n).trans (r1 x k n)
  have r3 (x k : Nat) (n : x ≠ a) : hi g3 x k = hi h x k := (hiA e3 x k n).trans (r2 x k n)
  have r4 (x k : Nat) (n : x ≠ a) : hi g4 x k = hi h x k := (hiA e4 x k n).trans (r3 x k n)
  have s7 (k : Nat) : hi g7 a k = hi g4 a k := by rw [hiAA e7 a k (by omega), hiAA e6 a k (by omega), hiAA e5 a k (by omega)]
  refine Pc.ret ⟨fun k hk => ?_, fun k hk => ?_, fun k hk => ?_, fun k hk => ?_⟩
  · rw [s7]
    have : k = 0 ∨ k = 1 ∨ k = 2 ∨ k = 3 := by omega
    rcases this with rfl | rfl | rfl | rfl
    · rw [hiK e4 a 0 (by decide), hiK e3 a 0 (by decide), hiK e2 a 0 (by decide), hiE e1]
    · rw [hiK e4 a 1 (by decide), hiK e3 a 1 (by decide), hiE e2, r1 b 1 (by omega)]
    · rw [hiK e4 a 2 (by decide), hiE e3, r2 b 2 (by omega)]
    · rw [hiE e4, r3 b 3 (by omega)]
  · rw [hiAA e7 (a + 1) k (by omega), hiAA e6 (a + 1) k (by omega), ← e5, hi_wrA']
    unfold cpF
    rw [if_pos hk, r4 (b + 1) k (by omega)]
  · rw [hiAA e7 (a + 2) k (by omega), ← e6, hi_wrA']
    unfold cpF
    rw [if_pos hk, hiAA e5 (b + 2) k (by omega), r4 (b + 2) k (by omega)]
  · rw [← e7, hi_wrA']
    unfold cpF
    rw [if_pos hk, hiAA e6 (b + 3) k (by omega), hiAA e5 (b + 3) k (by omega), r4 (b + 3) k (by omega)]
theorem BDF.to {T : TT} {a b : Nat} (x : BDF T a h) (e1 : ∀ k, k < 4 → hi q (b + 1) k = hi h (a + 1) k) (e2 : ∀ k, 2 ≤ k → k ≤ 4 → hi q b k = hi h a k) (e3 : hi q (b + 2) 3 = hi h (a + 2) 3) (e4 : ∀ k, k < 404 → hi q (b + 3) k = hi h (a + 3) k) (e5 : ∀ k, k < 4 → hi q (b + 4) k = hi h (a + 4) k) : BDF T b q := by
  obtain ⟨⟨f1, f2, f3, f4⟩, ⟨g1, g2, g3⟩, S, s1, s2, s3⟩ := x
  refine ⟨⟨?_, ?_, fun i hi' => ?_, fun i hi' => ?_⟩, ⟨?_, ?_, ?_⟩, S, ?_, s2, fun k hk => ?_⟩
  · rw [e1 0 (by decide)]; exact f1
  · rw [e1 1 (by decide)]; exact f2
  · rw [e1 2 (by decide)]; exact f3 i hi'
  · rw [e1 3 (by decide)]; exact f4 i hi'
  · rw [e2 2 (by decide) (by decide)]; exact g1
  · rw [e2 3 (by decide) (by decide)]; exact g2
  · rw [e2 4 (by decide) (by decide)]; exact g3
  · rw [e3]; exact s1
  · obtain ⟨p, p1, p2⟩ := s3 k hk
    refine ⟨p, ?_, p2.cg (Nat.le_refl S) (fun j hj => e4 j (by omega))⟩
    rw [e5 k hk]; exact p1
theorem wg_T {T : TT} (v : VT T) : wT T * gT T ≤ 25 ∧ (2 ≤ wT T ∧ wT T ≤ 5) ∧ (2 ≤ gT T ∧ gT T ≤ 5) ∧ T.lw.1 = ((wT T : Nat) : Int) ∧ T.lw.2 = ((gT T : Nat) : Int) := by
  obtain ⟨⟨⟨a1, a2⟩, a3, a4⟩, -⟩ := v
  have w1 : T.lw.1 = ((wT T : Nat) : Int) := by unfold wT; omega
  have w2 : T.lw.2 = ((gT T : Nat) : Int) := by unfold gT; omega
  exact ⟨wg25 (by omega) (by omega), ⟨by omega, by omega⟩, ⟨by omega, by omega⟩, w1, w2⟩
theorem SCF.to {T : TT} {a b : Nat} (v : VT T) (x : SCF T a h) (e1 : ∀ k, k < 4 → hi q b k = hi h a k) (e2 : ∀ k, k < 25 → hi q (b + 1) k = hi h (a + 1) k) (e3 : ∀ k, k < 5 → hi q (b + 2) k = hi h (a + 2) k) (e4 : ∀ k, k < 5 → hi q (b + 3) k = hi h (a + 3) k) : SCF T b q := by
  obtain ⟨⟨x1, x2, x3⟩, x4, x5, x6, x7⟩ := x
  have wg := (wg_T v).1
  have g5 := v.2.2.1.1
  refine ⟨⟨?_, ?_, fun k hk => ?_⟩, fun c hc => ?_, fun c hc => ?_, fun c p hc hp => ?_, fun k hk => ?_⟩
  · rw [e1 0 (by decide)]; exact x1
  · rw [e1 1 (by decide)]; exact x2
  · rw [e4 k hk]; exact x3 k hk
  · rw [e1 2 (by decide)]; exact x4 c hc
  · rw [e1 3 (by decide)]; exact x5 c hc
  · rw [e2 c (by omega)]; exact x6 c p hc hp
  · rw [e3 k (by omega)]; exact x7 k hk
/-- the class's reading -/
def crJ2 (bs : Nat → Int) (m : Nat) (q : Int32 × Hp) : Prop := ∃ qt : Int32 × Hp, rdJ2 bs m qt ∧ q.1 = qt.1 ∧ (q.1.toInt = 0 → ∀ T, CF T qt.2 → BDF T 23 q.2 ∧ SCF T 30 q.2 ∧ hi q.2 38 2 = 0)
theorem cr_read {bs : Nat → Int} {m : Nat} (B : BS bs m) (W : WD h) (tm : (hi h 0 1).toInt = (m : Int)) (hb : ∀ i, i < m → ((vp_nar .byte (hi h 1 i) : Int32) &&& 255).toInt = bs i) : Pc (F_X11_read n h) (crJ2 bs m) := by
  have f0 := lit_0
  unfold F_X11_read
  refine Pc.bind (c_text2 B tm W hb) (fun q1 Q => ?_)
  generalize eg1 : wrI q1.2 0 1 0 = g1
  refine Pc.eq (fun c1 => ?_) (fun c1 => ?_)
  · refine Pc.eq (fun _ => ?_) (fun c2 => absurd c1 c2)
    generalize eg2 : wrI g1 0 2 (-1) = g2
    have r2 (x k : Nat) (nz : x ≠ 0) : hi g2 x k = hi q1.2 x k := (hiA eg2 x k nz).trans (hiA eg1 x k nz)
    -- the band
    have b0 : Pc (F_X0_become n g2 23 3) (fun q => (∀ k, k < 4 → hi q 24 k = hi g2 4 k) ∧ (∀ k, 2 ≤ k → k ≤ 4 → hi q 23 k = hi g2 3 k) ∧ hi q 25 3 = hi g2 5 3 ∧ (∀ k, k < 404 → hi q 26 k = hi g2 6 k) ∧ (∀ k, k < 4 → hi q 27 k = hi g2 7 k) ∧ ∀ x k, x < 23 → hi q x k = hi g2 x k) := by
      unfold F_X0_become
      refine Pc.bind (fun x e => And.intro (bcm3 (by decide) x e) (zf_X3_become x e)) (fun x1 hx1 => ?_)
      obtain ⟨y1, z1⟩ := hx1
      refine Pc.bind (fun x e => And.intro (bcm4 (by decide) x e) (zf_X4_become x e)) (fun x3 hx3 => ?_)
      obtain ⟨⟨y2, y3, y4⟩, z3⟩ := hx3
      generalize d1 : wrI x3 23 2 (hi x3 3 2) = u1
      generalize d2 : wrI u1 23 3 (hi u1 3 3) = u2
      generalize d3 : wrI u2 23 4 (hi u2 3 4) = u3
      have ru (x k : Nat) (nz : x ≠ 23) : hi u3 x k = hi x3 x k := by rw [hiA d3 x k nz, hiA d2 x k nz, hiA d1 x k nz]
      have rx (x k : Nat) (nz : x < 23) : hi x3 x k = hi g2 x k := by rw [z3.1 x k (by omega), z1.1 x k (by omega)]
      refine Pc.ret ⟨fun k hk => ?_, fun k h1 h2 => ?_, ?_, fun k hk => ?_, fun k hk => ?_, fun x k hx => ?_⟩
      · rw [ru 24 k (by decide), z3.1 24 k (by omega)]; exact y1 k hk
      · have : k = 2 ∨ k = 3 ∨ k = 4 := by omega
        rcases this with rfl | rfl | rfl
        · rw [hiK d3 23 2 (by decide), hiK d2 23 2 (by decide), hiE d1, rx 3 2 (by decide)]
        · rw [hiK d3 23 3 (by decide), hiE d2, hiA d1 3 3 (by decide), rx 3 3 (by decide)]
        · rw [hiE d3, hiA d2 3 4 (by decide), hiA d1 3 4 (by decide), rx 3 4 (by decide)]
      · rw [ru 25 3 (by decide), y2, z1.1 5 3 (by omega)]
      · rw [ru 26 k (by decide)]
        exact (y3 k hk).trans (z1.1 6 k (by omega))
      · rw [ru 27 k (by decide)]
        exact (y4 k hk).trans (z1.1 7 k (by omega))
      · rw [ru x k (by omega), rx x k hx]
    refine Pc.bind b0 (fun q14 h14 => ?_)
    obtain ⟨k1, k2, k3, k4, k5, k6⟩ := h14
    refine Pc.bind (fun x e => And.intro (bcm8 (a := 30) (b := 10) (by decide) x e) (zf_X8_become x e)) (fun q16 h16 => ?_)
    obtain ⟨⟨m1, m2, m3, m4⟩, z16⟩ := h16
    refine Pc.bind (fun x e => And.intro (show hi x 38 2 = 0 by
      have e' : some (wrI q16 38 2 0) = some x := e
      rw [← Option.some.inj e', hi_wrI, if_pos ⟨rfl, rfl⟩]) (zf_X6_clear x e)) (fun q18 h18 => ?_)
    obtain ⟨t1, z18⟩ := h18
    refine Pc.bind zf_X2_clear (fun q20 z20 => ?_)
    generalize eg3 : wrI q20 0 10 0 = g3
    refine Pc.ret ⟨q1, Q, rfl, fun _ T ct => ?_⟩
    obtain ⟨v, -, bd, sc⟩ := ct
    have r20 (x k : Nat) (h1 : x ≠ 0) (h2 : x ≠ 38) (h3 : ¬ (201 ≤ x ∧ x ≤ 203)) : hi g3 x k = hi q16 x k := by
      rw [hiA eg3 x k h1, z20.1 x k (by omega), z18.1 x k (by omega)]
    have r16 (x k : Nat) (h1 : 23 ≤ x) (h2 : x ≤ 27) : hi g3 x k = hi q14 x k := by
      rw [r20 x k (by omega) (by omega) (by omega), z16.1 x k (by omega)]
    refine ⟨bd.to (a := 3) (b := 23) (fun k hk => ?_) (fun k h1 h2 => ?_) ?_ (fun k hk => ?_) (fun k hk => ?_), sc.to v (a := 10) (b := 30) (fun k hk => ?_) (fun k hk => ?_) (fun k hk => ?_) (fun k hk => ?_), ?_⟩
    · exact (r16 24 k (by decide) (by decide)).trans ((k1 k hk).trans (r2 4 k (by decide)))
    · exact (r16 23 k (by decide) (by decide)).trans ((k2 k h1 h2).trans (r2 3 k (by decide)))
    · exact (r16 25 3 (by decide) (by decide)).trans (k3.trans (r2 5 3 (by decide)))
    · exact (r16 26 k (by decide) (by decide)).trans ((k4 k hk).trans (r2 6 k (by decide)))
    · exact (r16 27 k (by decide) (by decide)).trans ((k5 k hk).trans (r2 7 k (by decide)))
    · exact (r20 30 k (by decide) (by decide) (by decide)).trans ((m1 k hk).trans ((k6 10 k (by decide)).trans (r2 10 k (by decide))))
    · exact (r20 31 k (by decide) (by decide) (by decide)).trans ((m2 k hk).trans ((k6 11 k (by decide)).trans (r2 11 k (by decide))))
    · exact (r20 32 k (by decide) (by decide) (by decide)).trans ((m3 k hk).trans ((k6 12 k (by decide)).trans (r2 12 k (by decide))))
    · exact (r20 33 k (by decide) (by decide) (by decide)).trans ((m4 k hk).trans ((k6 13 k (by decide)).trans (r2 13 k (by decide))))
    · rw [hiA eg3 38 2 (by decide), z20.1 38 2 (by decide)]
      exact t1
  · refine Pc.eq (fun c2 => absurd c2 c1) (fun _ => Pc.ret ⟨q1, Q, rfl, fun z => absurd (z.trans f0.symm) c1⟩)
/-- what both hold behind a text that holds -/
def ENV (h : Hp) : Prop := ∃ s, s ≤ 1 ∧ ∃ T, (VT T ∧ VLw T) ∧ BDF T 23 h ∧ SCF T 30 h ∧ RF s T h ∧ hi h 38 2 = 0
theorem rd_env {h0 : Hp} (w : Iw h0) : ∃ (n1 : Nat) (q1 : Int32 × Hp) (n2 : Nat) (q2 : Int32 × Hp), F_X11_read n1 h0 = some q1 ∧ F_X12_read n2 q1.2 = some q2 ∧ q1.1 = q2.1 ∧ Iw q2.2 ∧ (q1.1.toInt = 0 → ENV q2.2) := by
  have w0 := w
  obtain ⟨⟨w1, w2, w3, w4⟩, v1, v2, v3, v4⟩ := w0
  have t0 : 0 ≤ (hi h0 0 1).toInt ∧ (hi h0 0 1).toInt ≤ 2000 := w1.1 (0, 1, 0, 2000) (by decide)
  obtain ⟨m, hm⟩ : ∃ m : Nat, (hi h0 0 1).toInt = (m : Int) := ⟨(hi h0 0 1).toInt.toNat, by omega⟩
  have B : BS (tpB h0 m) m := tpB_bs (by omega)
  obtain ⟨q1, e1, ⟨i1, k1, r1, l1⟩, qt, Q, c1, c2, c3⟩ := sj_X11_read (n := 10000000000000) (by decide) w1 B v3 hm (fun i hi' => (if_pos hi').symm)
  have kdp : ∀ k, 0 ≤ (hi q1.2 229 k).toInt := fun k => by rw [(k1 229 k (by decide)).1]; exact w4 k
  have ky : KY q1.2 := fun k hk => by rw [(k1 233 k (by decide)).2]; exact v4 k hk
  have tm2 : (hi q1.2 226 2).toInt = (m : Int) := by rw [(k1 226 2 (by decide)).1, ← w3]; exact hm
  have hb2 : ∀ i, i < m → ((vp_nar .byte (hi q1.2 227 i) : Int32) &&& 255).toInt = tpB h0 m i := fun i hi' => by rw [(k1 227 i (by decide)).1, ← v2 i (by omega)]; exact (if_pos hi').symm
  obtain ⟨q2, e2, ⟨d2, k2, t2, l2, g2⟩, a1, a2, a3⟩ := sj_X12_read (n := 10000000000000) (by decide) (w2.km k1) kdp B ky tm2 hb2 Q
  have iw : Iw q2.2 := by
    refine ⟨⟨i1.kX k2, d2, Int32.toInt_inj.mp ?_, g2⟩, ?_, fun k hk => ?_, fun k hk => ?_, fun k hk => ?_⟩
    · rw [(k2 0 1 (by decide)).1, r1, t2]
    · rw [(k2 0 2 (by decide)).1]
      by_cases z : qt.1.toInt = 0
      · rw [c2 z, a3 z]
      · rw [c3 z, a2 z]
    · exfalso
      rw [(k2 0 1 (by decide)).1, r1] at hk
      omega
    · rw [(k2 19 k (by decide)).2, l1 k]
      exact v3 k hk
    · rw [l2 k, (k1 233 k (by decide)).2]
      exact v4 k hk
  refine ⟨_, q1, _, q2, e1, e2, c1.trans a1, iw, fun z => ?_⟩
  obtain ⟨qu, Q', u1, u2⟩ := cr_read (n := 10000000000000) B v3 hm (fun i hi' => (if_pos hi').symm) q1 e1
  have zu : qu.1.toInt = 0 := by rw [← u1]; exact z
  have z2 : q2.1.toInt = 0 := by rw [← c1.trans a1]; exact z
  obtain ⟨s, hs, T, cf, rf⟩ := sj_X12_read2 (n := 10000000000000) (by decide) (w2.km k1) kdp B ky tm2 hb2 Q' q2 e2 zu z2
  obtain ⟨x1, x2, x3⟩ := u2 z T cf
  have kc (a k : Nat) (l : a < 226) : hi q2.2 a k = hi q1.2 a k := (k2 a k l).1
  refine ⟨s, hs, T, ⟨cf.1, cf.2.1⟩, x1.to (fun k _ => kc 24 k (by decide)) (fun k _ _ => kc 23 k (by decide)) (kc 25 3 (by decide)) (fun k _ => kc 26 k (by decide)) (fun k _ => kc 27 k (by decide)), x2.to cf.1 (fun k _ => kc 30 k (by decide)) (fun k _ => kc 31 k (by decide)) (fun k _ => kc 32 k (by decide)) (fun k _ => kc 33 k (by decide)), rf, ?_⟩
  rw [kc 38 2 (by decide)]
  exact x3
end R55F
end
section
/-! THE ROW: one scene, held by both -/
/-- the class's scene at a is the row f -/
def SCR (c G : Nat) (f : Nat → Int32) (a : Nat) (h : Hp) : Prop :=
  (hi h a 0 = f 61 ∧ hi h a 1 = f 62 ∧ hi h a 2 = f 50) ∧
  (∀ b, b < 32 → (bt (hi h a 3) b = true ↔ b < c ∧ 0 < (f b).toInt)) ∧
  (∀ b, b < c → 0 < (f b).toInt → (vp_nar .byte (hi h (a + 1) b)).toInt = 8 * (f b).toInt + (f (25 + b)).toInt) ∧
  ∀ k, k < G → hi h (a + 2) k = f (51 + k) ∧ hi h (a + 3) k = f (56 + k)
/-- a row as it must be -/
def RVR (c G : Nat) (f : Nat → Int32) : Prop :=
  (∀ b, b < 25 → (c ≤ b → (f b).toInt = 0) ∧ 0 ≤ (f b).toInt ∧ (0 < (f b).toInt → (2 ≤ (f b).toInt ∧ (f b).toInt ≤ 6) ∧ 0 ≤ (f (25 + b)).toInt ∧ (f (25 + b)).toInt < (f b).toInt)) ∧
  (∀ b, b < 32 → bt (f 50) b = true → b < c) ∧
  (∀ k, k < G → (0 ≤ (f (51 + k)).toInt ∧ (f (51 + k)).toInt < (c : Int)) ∧ bt (f 50) (f (51 + k)).toInt.toNat = false) ∧
  ∀ k, G ≤ k → k < 5 → f (51 + k) = 0 ∧ f (56 + k) = 0
section R56A
variable {c G : Nat} {f g : Nat → Int32} {a : Nat} {h q : Hp}
theorem RVR.cg (x : RVR c G f) (G5 : G ≤ 5) (e : ∀ k, k < 61 → g k = f k) : RVR c G g := by
  obtain ⟨x1, x2, x3, x4⟩ := x
  refine ⟨fun b hb => ?_, fun b hb => ?_, fun k hk => ?_, fun k h1 h2 => ?_⟩
  · rw [e b (by omega), e (25 + b) (by omega)]; exact x1 b hb
  · rw [e 50 (by decide)]; exact x2 b hb
  · rw [e 50 (by decide), e (51 + k) (by omega)]; exact x3 k hk
  · rw [e (51 + k) (by omega), e (56 + k) (by omega)]; exact x4 k h1 h2
theorem SCR.cg (x : SCR c G f a h) (c25 : c ≤ 25) (G5 : G ≤ 5) (e : ∀ k, k < 63 → g k = f k) : SCR c G g a h := by
  obtain ⟨⟨x1, x2, x3⟩, x4, x5, x6⟩ := x
  refine ⟨⟨?_, ?_, ?_⟩, fun b hb => ?_, fun b hb => ?_, fun k hk => ?_⟩
  · rw [e 61 (by decide)]; exact x1
  · rw [e 62 (by decide)]; exact x2
  · rw [e 50 (by decide)]; exact x3
  · by_cases y : b < c
    · rw [e b (by omega)]; exact x4 b hb
    · exact ⟨fun z => absurd ((x4 b hb).mp z).1 y, fun z => absurd z.1 y⟩
  · rw [e b (by omega), e (25 + b) (by omega)]; exact x5 b hb
  · rw [e (51 + k) (by omega), e (56 + k) (by omega)]; exact x6 k hk
theorem SCR.to (x : SCR c G f a h) (c25 : c ≤ 25) (G5 : G ≤ 5) {b : Nat} (e1 : ∀ k, k < 4 → hi q b k = hi h a k) (e2 : ∀ k, k < 25 → hi q (b + 1) k = hi h (a + 1) k) (e3 : ∀ k, k < 5 → hi q (b + 2) k = hi h (a + 2) k) (e4 : ∀ k, k < 5 → hi q (b + 3) k = hi h (a + 3) k) : SCR c G f b q := by
  obtain ⟨⟨x1, x2, x3⟩, x4, x5, x6⟩ := x
  refine ⟨⟨?_, ?_, ?_⟩, fun i hi' => ?_, fun i hi' => ?_, fun k hk => ?_⟩
  · rw [e1 0 (by decide)]; exact x1
  · rw [e1 1 (by decide)]; exact x2
  · rw [e1 2 (by decide)]; exact x3
  · rw [e1 3 (by decide)]; exact x4 i hi'
  · rw [e2 i (by omega)]; exact x5 i hi'
  · rw [e3 k (by omega), e4 k (by omega)]; exact x6 k hk
/-- what a text tells, both have as one row -/
theorem env_row {T : TT} (v : VT T) (vl : VLw T) (x : SCF T a h) (y : RWF T f) : SCR (wT T * gT T) T.go.length f a h ∧ RVR (wT T * gT T) T.go.length f := by
  obtain ⟨wg, ⟨w2, w5⟩, ⟨g2, g5⟩, -, -⟩ := wg_T v
  obtain ⟨⟨x1, x2, x3⟩, x4, x5, x6, x7⟩ := x
  obtain ⟨⟨y1, y2, y3⟩, y4, y5, y6, y7⟩ := y
  have go5 := v.2.2.1.1
  have f0 := lit_0
  have tn (b : Nat) (p : Int × Int) (e : lastT T.tn (spt (wT T) b) = some p) : (2 ≤ p.1 ∧ p.1 ≤ 6) ∧ 0 ≤ p.2 ∧ p.2 < p.1 := by
    obtain ⟨z, z1, z2, -⟩ := lastT_mem e
    have := (v.2.1.2 z z1).2
    rw [z2] at this
    exact this
  have tv (b : Nat) (hb : b < wT T * gT T) : (lastT T.tn (spt (wT T) b) = none ∧ (f b).toInt = 0) ∨ ∃ p, lastT T.tn (spt (wT T) b) = some p ∧ (f b).toInt = p.1 ∧ (f (25 + b)).toInt = p.2 ∧ (2 ≤ p.1 ∧ p.1 ≤ 6) ∧ 0 ≤ p.2 ∧ p.2 < p.1 := by
    obtain ⟨u1, u2⟩ := (y5 b (by omega)).2 hb
    cases e : lastT T.tn (spt (wT T) b) with
    | none => exact Or.inl ⟨rfl, by rw [(u1 e).1]; exact f0⟩
    | some p =>
      obtain ⟨k1, k2⟩ := tn b p e
      exact Or.inr ⟨p, rfl, (u2 p e).1, (u2 p e).2, k1, k2⟩
  refine ⟨⟨⟨x1.trans y1.symm, x2.trans y2.symm, ?_⟩, fun b hb => ?_, fun b hb z => ?_, fun k hk => ⟨?_, ?_⟩⟩, fun b hb => ⟨fun z => ?_, ?_⟩, fun b hb z => ((y4 b hb).mp z).1, fun k hk => ?_, fun k h1 h2 => ⟨y7 k h1 h2, y3 k h2⟩⟩
  · refine bt_ext (fun i hi' => ?_)
    have u1 := x4 i hi'
    have u2 := y4 i hi'
    cases e1 : bt (hi h a 2) i with
    | true => exact (u2.mpr (u1.mp e1)).symm
    | false =>
      cases e2 : bt (f 50) i with
      | true => exact absurd (u1.mpr (u2.mp e2)) (by rw [e1]; decide)
      | false => rfl
  · rw [x5 b hb]
    refine ⟨fun z => ⟨z.1, ?_⟩, fun z => ⟨z.1, ?_⟩⟩
    · rcases tv b z.1 with ⟨e, -⟩ | ⟨p, -, e2, -, e3, -⟩
      · exact absurd e z.2
      · omega
    · rcases tv b z.1 with ⟨-, e⟩ | ⟨p, e, -⟩
      · have := z.2
        omega
      · rw [e]
        exact fun z => nsn z.symm
  · rcases tv b hb with ⟨-, e⟩ | ⟨p, e, e2, e3, -⟩
    · omega
    · rw [x6 b p hb e, e2, e3]
  · exact Int32.toInt_inj.mp ((x7 k hk).trans (y6 k hk).symm)
  · rw [x3 k (by omega), y3 k (by omega)]
  · rw [(y5 b hb).1 (by omega)]; exact f0
  · by_cases y : b < wT T * gT T
    · rcases tv b y with ⟨-, e⟩ | ⟨p, -, e2, e3, e4, e5⟩
      · exact ⟨by omega, fun z => by omega⟩
      · exact ⟨by omega, fun _ => ⟨by omega, by omega⟩⟩
    · rw [(y5 b hb).1 y]
      exact ⟨by omega, fun z => by omega⟩
  · obtain ⟨l25, -⟩ := gs_lt v hk
    obtain ⟨on, nr⟩ := vl.2.2 k hk
    obtain ⟨c1, c2⟩ := clw_on w5 g5 l25 on
    have e := y6 k hk
    refine ⟨⟨by omega, by omega⟩, ?_⟩
    have en : (f (51 + k)).toInt.toNat = clw (wT T) (gsT T k) := by omega
    rw [en]
    cases z : bt (f 50) (clw (wT T) (gsT T k)) with
    | false => rfl
    | true =>
      have := ((y4 _ (by omega)).mp z).2
      rw [c2] at this
      exact absurd this nr
end R56A
end
section
/-! WHAT WAS: the class's ring, the reference's rows -/
/-- the row u of a store -/
def rwU (h : Hp) (a u : Nat) : Nat → Int32 := fun k => hi h a (63 * u + k)
/-- both keep the same rows, the newest first -/
def PST (c G : Nat) (h : Hp) : Prop := ∃ n p : Nat, (n ≤ 40 ∧ p < 40) ∧ ((hi h 38 2).toInt = (n : Int) ∧ (hi h 226 59).toInt = (n : Int) ∧ (hi h 38 1).toInt = (p : Int)) ∧ ∀ j, j < n → SCR c G (rwU h 266 (n - 1 - j)) (40 + 4 * ((p + 40 - j) % 40)) h ∧ RVR c G (rwU h 266 (n - 1 - j))
/-- the class has kept its scene -/
def KC (h q : Hp) : Prop := ∃ p p' : Nat, (p < 40 ∧ (hi h 38 1).toInt = (p : Int) ∧ p' = (p + 1) % 40) ∧ ((hi q 38 1).toInt = (p' : Int) ∧ hi q 38 2 = (if (40 : Int32) < hi h 38 2 + 1 then 40 else hi h 38 2 + 1)) ∧ ((∀ k, k < 4 → hi q (40 + 4 * p') k = hi h 30 k) ∧ (∀ k, k < 25 → hi q (40 + 4 * p' + 1) k = hi h 31 k) ∧ (∀ k, k < 5 → hi q (40 + 4 * p' + 2) k = hi h 32 k) ∧ ∀ k, k < 5 → hi q (40 + 4 * p' + 3) k = hi h 33 k) ∧ ∀ a k, a ≠ 38 → ¬ (40 + 4 * p' ≤ a ∧ a ≤ 40 + 4 * p' + 3) → hi q a k = hi h a k
/-- the reference has kept its row, and taken the new one -/
def KRr (h q : Hp) : Prop := (∀ k, k < 63 → hi q 262 k = hi h 263 k) ∧ ∀ n : Nat, (hi h 226 59).toInt = (n : Int) → n ≤ 40 → ∃ m : Nat, m = (if n = 40 then 39 else n) ∧ (hi q 226 59).toInt = ((m + 1 : Nat) : Int) ∧ (∀ k, k < 63 → hi q 266 (63 * m + k) = hi h 262 k) ∧ ∀ u, u < m → ∀ k, k < 63 → hi q 266 (63 * u + k) = hi h 266 (63 * (u + (if n = 40 then 1 else 0)) + k)
section R56B
variable {c G : Nat} {h q : Hp} {n : Nat}
theorem kp_c (r : 0 ≤ (hi h 38 1).toInt ∧ (hi h 38 1).toInt ≤ 39) : Pc (F_X6_keep n h 30) (KC h) := by
  have f1 := lit_1
  have f40 := lit_40
  obtain ⟨p, hp⟩ : ∃ p : Nat, (hi h 38 1).toInt = (p : Int) := ⟨(hi h 38 1).toInt.toNat, by omega⟩
  have a1 := adT (hi h 38 1) 1 (by omega) (by omega)
  have m1 := rmN (x := hi h 38 1 + 1) (y := 40) (a := p + 1) (b := 40) (by omega) (by omega)
  unfold F_X6_keep
  generalize ex : ((hi h 38 1 + 1) - (hi h 38 1 + 1) / 40 * 40 : Int32) = x at m1 ⊢
  have n1 := ncT (show 0 ≤ x.toInt by omega)
  have n2 : Int32.toNatClampNeg x = (p + 1) % 40 := by omega
  have e81 : hi (wrI h 38 1 x) 38 1 = x := hiE rfl
  rw [e81, n2]
  refine Pc.chk (fun _ => ?_)
  generalize eg : wrI h 38 1 x = g
  generalize ep : (p + 1) % 40 = p' at m1
  refine Pc.bind (fun y e => And.intro (bcm8 (a := 40 + 4 * p') (b := 30) (by omega) y e) (zf_X8_become y e)) (fun q2 hq => ?_)
  obtain ⟨⟨b1, b2, b3, b4⟩, z⟩ := hq
  have zz (k : Nat) : hi q2 38 k = hi g 38 k := z.1 38 k (by omega)
  have gg (a k : Nat) (ne : a ≠ 38) : hi g a k = hi h a k := hiA eg a k ne
  refine Pc.ret ⟨p, p', ⟨by omega, hp, ep.symm⟩, ⟨?_, ?_⟩, ⟨fun k hk => ?_, fun k hk => ?_, fun k hk => ?_, fun k hk => ?_⟩, fun a k h1 h2 => ?_⟩
  · rw [hi_wrI, if_neg (by decide), zz, hiE eg]; exact m1
  · rw [hi_wrI, if_pos ⟨rfl, rfl⟩, zz, hiK eg 38 2 (by decide)]
  · rw [hi_wrI, if_neg (by omega), b1 k hk, gg 30 k (by decide)]
  · rw [hi_wrI, if_neg (by omega), b2 k hk, gg 31 k (by decide)]
  · rw [hi_wrI, if_neg (by omega), b3 k hk, gg 32 k (by decide)]
  · rw [hi_wrI, if_neg (by omega), b4 k hk, gg 33 k (by decide)]
  · rw [hi_wrI, if_neg (by omega), z.1 a k (by omega), gg a k h1]
theorem rc_51 {h0 : Hp} {m : Nat} (m40 : m < 40) : ∀ (n : Nat) (h : Hp) (l1 : Int32) (i : Nat), l1.toInt = (i : Int) → i ≤ 63 → (∀ a k, a ≠ 266 → hi h a k = hi h0 a k) → (hi h0 226 59).toInt = (m : Int) → (∀ k, k < i → hi h 266 (63 * m + k) = hi h0 262 k) → (∀ k, k < 63 * m → hi h 266 k = hi h0 266 k) → Pc (W_X12_records n 51 h l1) (fun q => (∀ k, k < 63 → hi q 262 k = hi h0 263 k) ∧ (hi q 226 59).toInt = ((m + 1 : Nat) : Int) ∧ (∀ k, k < 63 → hi q 266 (63 * m + k) = hi h0 262 k) ∧ ∀ k, k < 63 * m → hi q 266 k = hi h0 266 k) := by
  intro n
  induction n with
  | zero => intro h l1 i a b c d e f; exact Pc.no
  | succ n ih =>
    intro h l1 i a b c d e f
    have f63 := lit_63
    have f1 := lit_1
    rw [u_X12_records]
    refine Pc.neg (by decide) (Pc.pos rfl ?_)
    refine Pc.le (fun c1 => ?_) (fun c1 => ?_)
    · refine Pc.bind (fun y e => And.intro (kr_row y e) (zf_X12_keepsRow y e)) (fun q5 h5 => Pc.ret ?_)
      obtain ⟨k5, z5⟩ := h5
      have a1 := adT (hi h 226 59) 1 (by rw [c 226 59 (by decide)]; omega) (by rw [c 226 59 (by decide)]; omega)
      rw [c 226 59 (by decide)] at a1
      refine ⟨fun k hk => ?_, ?_, fun k hk => ?_, fun k hk => ?_⟩
      · rw [k5 k hk, hi_wrI, if_neg (by omega)]
        exact c 263 k (by decide)
      · rw [z5.1 226 59 (by decide), hi_wrI, if_pos ⟨rfl, rfl⟩, c 226 59 (by decide)]
        omega
      · rw [z5.1 266 _ (by omega), hi_wrI, if_neg (by omega)]
        exact e k (by omega)
      · rw [z5.1 266 _ (by omega), hi_wrI, if_neg (by omega)]
        exact f k hk
    · refine Pc.chk (fun _ => Pc.chk (fun _ => ?_))
      have e59 : hi h 226 59 = hi h0 226 59 := c 226 59 (by decide)
      rw [e59]
      have m63 := mlT 63 (hi h0 226 59) 63 lit_63 (by omega) (by omega)
      have a2 := adT (63 * hi h0 226 59) l1 (by omega) (by omega)
      have n1 := ncT (show 0 ≤ l1.toInt by omega)
      have n2 : Int32.toNatClampNeg l1 = i := by omega
      have n3 := ncT (show 0 ≤ (63 * hi h0 226 59 + l1).toInt by omega)
      have n4 : Int32.toNatClampNeg (63 * hi h0 226 59 + l1) = 63 * m + i := by omega
      have a1 := adT l1 1 (by omega) (by omega)
      rw [n2, n4]
      refine ih _ (l1 + 1) (i + 1) (by omega) (by omega) (fun a k ne => by rw [hi_wrI, if_neg (fun z => ne z.1)]; exact c a k ne) d (fun k hk => ?_) (fun k hk => ?_)
      · rw [hi_wrI]
        by_cases y : k = i
        · rw [if_pos ⟨rfl, by omega⟩, y]; exact c 262 i (by decide)
        · rw [if_neg (by omega)]; exact e k (by omega)
      · rw [hi_wrI, if_neg (by omega)]; exact f k hk
theorem rc_11 {h0 : Hp} (d : (hi h0 226 59).toInt = 40) : ∀ (n : Nat) (h : Hp) (l1 : Int32) (i : Nat), l1.toInt = (i : Int) → i ≤ 2457 → (∀ a k, a ≠ 266 → hi h a k = hi h0 a k) → (∀ k, k < i → hi h 266 k = hi h0 266 (k + 63)) → (∀ k, i ≤ k → hi h 266 k = hi h0 266 k) → Pc (W_X12_records n 11 h l1) (fun q => (∀ k, k < 63 → hi q 262 k = hi h0 263 k) ∧ (hi q 226 59).toInt = 40 ∧ (∀ k, k < 63 → hi q 266 (63 * 39 + k) = hi h0 262 k) ∧ ∀ k, k < 63 * 39 → hi q 266 k = hi h0 266 (k + 63)) := by
  intro n
  induction n with
  | zero => intro h l1 i a b c e f; exact Pc.no
  | succ n ih =>
    intro h l1 i a b c e f
    have f2 : (2457 : Int32).toInt = 2457 := by decide
    have f63 := lit_63
    have f1 := lit_1
    have f0 := lit_0
    rw [u_X12_records]
    refine Pc.pos rfl ?_
    refine Pc.le (fun c1 => ?_) (fun c1 => ?_)
    · have s1 := sbT (hi h 226 59) 1 (by rw [c 226 59 (by decide)]; omega) (by rw [c 226 59 (by decide)]; omega)
      rw [c 226 59 (by decide)] at s1
      generalize eg : wrI h 226 59 (hi h 226 59 - 1) = g
      have g59 : (hi g 226 59).toInt = ((39 : Nat) : Int) := by
        rw [hiE eg, c 226 59 (by decide)]; omega
      refine (rc_51 (h0 := g) (m := 39) (by decide) n g 0 0 f0 (by decide) (fun _ _ _ => rfl) g59 (fun k hk => absurd hk (Nat.not_lt_zero k)) (fun _ _ => rfl)).mono (fun q hq => ?_)
      obtain ⟨k1, k2, k3, k4⟩ := hq
      refine ⟨fun k hk => ?_, by rw [k2]; rfl, fun k hk => ?_, fun k hk => ?_⟩
      · rw [k1 k hk, hiA eg 263 k (by decide)]; exact c 263 k (by decide)
      · rw [k3 k hk, hiA eg 262 k (by decide)]; exact c 262 k (by decide)
      · rw [k4 k hk, hiA eg 266 k (by decide)]; exact e k (by omega)
    · refine Pc.chk (fun _ => Pc.chk (fun _ => ?_))
      have n1 := ncT (show 0 ≤ l1.toInt by omega)
      have n2 : Int32.toNatClampNeg l1 = i := by omega
      have a1 := adT l1 1 (by omega) (by omega)
      have a2 := adT l1 63 (by omega) (by omega)
      have n3 := ncT (show 0 ≤ (l1 + 63).toInt by omega)
      have n4 : Int32.toNatClampNeg (l1 + 63) = i + 63 := by omega
      rw [n2, n4]
      refine ih _ (l1 + 1) (i + 1) (by omega) (by omega) (fun a k ne => by rw [hi_wrI, if_neg (fun z => ne z.1)]; exact c a k ne) (fun k hk => ?_) (fun k hk => ?_)
      · rw [hi_wrI]
        by_cases y : k = i
        · rw [if_pos ⟨rfl, y⟩, y]; exact f (i + 63) (by omega)
        · rw [if_neg (fun z => y z.2)]; exact e k (by omega)
      · rw [hi_wrI, if_neg (by omega)]; exact f k (by omega)
theorem kp_r (r : 0 ≤ (hi h 226 59).toInt ∧ (hi h 226 59).toInt ≤ 40) : Pc (F_X12_records n h) (KRr h) := by
  have f0 := lit_0
  have f40 := lit_40
  unfold F_X12_records
  refine Pc.eq (fun c1 => ?_) (fun c1 => ?_)
  · refine (rc_11 (h0 := h) (by omega) n h 0 0 f0 (by decide) (fun _ _ _ => rfl) (fun k hk => absurd hk (Nat.not_lt_zero k)) (fun _ _ => rfl)).mono (fun q hq => ?_)
    obtain ⟨k1, k2, k3, k4⟩ := hq
    refine ⟨k1, fun m hm m40 => ⟨39, ?_, by rw [k2]; rfl, k3, fun u hu k hk => ?_⟩⟩
    · rw [if_pos (by omega)]
    · rw [if_pos (by omega), k4 _ (by omega), show 63 * u + k + 63 = 63 * (u + 1) + k by omega]
  · obtain ⟨m, hm⟩ : ∃ m : Nat, (hi h 226 59).toInt = (m : Int) := ⟨(hi h 226 59).toInt.toNat, by omega⟩
    refine (rc_51 (h0 := h) (m := m) (by omega) n h 0 0 f0 (by decide) (fun _ _ _ => rfl) hm (fun k hk => absurd hk (Nat.not_lt_zero k)) (fun _ _ => rfl)).mono (fun q hq => ?_)
    obtain ⟨k1, k2, k3, k4⟩ := hq
    refine ⟨k1, fun m' hm' m40 => ⟨m, ?_, k2, k3, fun u hu k hk => ?_⟩⟩
    · rw [if_neg (by omega)]
      omega
    · rw [if_neg (by omega), k4 _ (by omega)]
      rfl
/-- the row that was stays kept by both -/
theorem PST.keep {h0 qa hb : Hp} (x : PST c G h0) (c25 : c ≤ 25) (G5 : G ≤ 5) (s : SCR c G (hi h0 262) 30 h0) (r : RVR c G (hi h0 262)) (kc : KC h0 qa) (e1 : ∀ a k, 38 ≤ a → a < 200 → hi q a k = hi qa a k) (kr : KRr hb q) (e2 : hi hb 226 59 = hi h0 226 59) (e3 : ∀ k, hi hb 262 k = hi h0 262 k) (e4 : ∀ k, hi hb 266 k = hi h0 266 k) : PST c G q := by
  have f1 := lit_1
  have f40 := lit_40
  obtain ⟨n, p0, ⟨n40, p40⟩, ⟨x1, x2, x3⟩, x4⟩ := x
  obtain ⟨p, p', ⟨y1, y2, y3⟩, ⟨y4, y5⟩, ⟨y6, y7, y8, y9⟩, y10⟩ := kc
  have ep : p0 = p := by omega
  subst ep
  obtain ⟨m, m1, m2, m3, m4⟩ := kr.2 n (by rw [e2]; exact x2) n40
  have a1 := adT (hi h0 38 2) 1 (by omega) (by omega)
  have mn : m + 1 ≤ 40 ∧ m ≤ n ∧ (n = 40 → m = 39) ∧ (n ≠ 40 → m = n) := by
    by_cases z : n = 40
    · rw [if_pos z] at m1; omega
    · rw [if_neg z] at m1; omega
  have sz : (hi q 38 2).toInt = ((m + 1 : Nat) : Int) := by
    rw [e1 38 2 (by decide) (by decide), y5]
    by_cases z : n = 40
    · rw [if_pos (Int32.lt_iff_toInt_lt.mpr (by omega))]; omega
    · rw [if_neg (fun w => by have := Int32.lt_iff_toInt_lt.mp w; omega)]; omega
  refine ⟨m + 1, p', ⟨mn.1, by omega⟩, ⟨sz, m2, by rw [e1 38 1 (by decide) (by decide)]; exact y4⟩, fun j hj => ?_⟩
  by_cases z : j = 0
  · have ej : (p' + 40 - j) % 40 = p' := by omega
    have er : m + 1 - 1 - j = m := by omega
    rw [ej, er]
    have row (k : Nat) (hk : k < 63) : rwU q 266 m k = hi h0 262 k := (m3 k hk).trans (e3 k)
    refine ⟨(s.to c25 G5 (b := 40 + 4 * p') (fun k hk => ?_) (fun k hk => ?_) (fun k hk => ?_) (fun k hk => ?_)).cg c25 G5 row, r.cg G5 (fun k hk => row k (by omega))⟩
    · rw [e1 _ k (by omega) (by omega)]; exact y6 k hk
    · rw [e1 _ k (by omega) (by omega)]; exact y7 k hk
    · rw [e1 _ k (by omega) (by omega)]; exact y8 k hk
    · rw [e1 _ k (by omega) (by omega)]; exact y9 k hk
  · obtain ⟨s1, r1⟩ := x4 (j - 1) (by omega)
    have ej : (p' + 40 - j) % 40 = (p0 + 40 - (j - 1)) % 40 := by omega
    have ne : (p0 + 40 - (j - 1)) % 40 ≠ p' := by omega
    have l40 : (p0 + 40 - (j - 1)) % 40 < 40 := Nat.mod_lt _ (by decide)
    have row (k : Nat) (hk : k < 63) : rwU q 266 (m + 1 - 1 - j) k = rwU h0 266 (n - 1 - (j - 1)) k := by
      have := m4 (m + 1 - 1 - j) (by omega) k hk
      refine this.trans ((e4 _).trans ?_)
      have ei : m + 1 - 1 - j + (if n = 40 then 1 else 0) = n - 1 - (j - 1) := by
        by_cases w : n = 40
        · rw [if_pos w]; omega
        · rw [if_neg w]; omega
      rw [ei]
      rfl
    rw [ej]
    generalize (p0 + 40 - (j - 1)) % 40 = i at ne l40 s1
    have fr (a k : Nat) (h1 : 40 + 4 * i ≤ a) (h2 : a ≤ 40 + 4 * i + 3) : hi q a k = hi h0 a k := by
      rw [e1 a k (by omega) (by omega)]
      exact y10 a k (by omega) (by omega)
    exact ⟨(s1.to c25 G5 (b := 40 + 4 * i) (fun k _ => fr _ k (by omega) (by omega)) (fun k _ => fr _ k (by omega) (by omega)) (fun k _ => fr _ k (by omega) (by omega)) (fun k _ => fr _ k (by omega) (by omega))).cg c25 G5 row, r1.cg G5 (fun k hk => row k (by omega))⟩
/-- nothing was kept or taken back -/
theorem PST.same {h0 : Hp} (x : PST c G h0) (c25 : c ≤ 25) (G5 : G ≤ 5) (e1 : ∀ a k, 38 ≤ a → a < 200 → hi q a k = hi h0 a k) (e2 : hi q 226 59 = hi h0 226 59) (e4 : ∀ k, hi q 266 k = hi h0 266 k) : PST c G q := by
  obtain ⟨n, p, ⟨n40, p40⟩, ⟨x1, x2, x3⟩, x4⟩ := x
  refine ⟨n, p, ⟨n40, p40⟩, ⟨by rw [e1 38 2 (by decide) (by decide)]; exact x1, by rw [e2]; exact x2, by rw [e1 38 1 (by decide) (by decide)]; exact x3⟩, fun j hj => ?_⟩
  obtain ⟨s1, r1⟩ := x4 j hj
  have l40 : (p + 40 - j) % 40 < 40 := Nat.mod_lt _ (by decide)
  generalize (p + 40 - j) % 40 = i at l40 s1
  have row (k : Nat) (_ : k < 63) : rwU q 266 (n - 1 - j) k = rwU h0 266 (n - 1 - j) k := e4 _
  have fr (a k : Nat) (h1 : 40 + 4 * i ≤ a) (h2 : a ≤ 40 + 4 * i + 3) : hi q a k = hi h0 a k := e1 a k (by omega) (by omega)
  exact ⟨(s1.to c25 G5 (b := 40 + 4 * i) (fun k _ => fr _ k (by omega) (by omega)) (fun k _ => fr _ k (by omega) (by omega)) (fun k _ => fr _ k (by omega) (by omega)) (fun k _ => fr _ k (by omega) (by omega))).cg c25 G5 row, r1.cg G5 (fun k hk => row k (by omega))⟩
/-- all that was is forgotten -/
theorem PST.none (e1 : hi q 38 2 = 0) (e2 : (hi q 38 1).toInt ≤ 39) (e3 : 0 ≤ (hi q 38 1).toInt) (e4 : hi q 226 59 = 0) : PST c G q := by
  have f0 := lit_0
  exact ⟨0, (hi q 38 1).toInt.toNat, ⟨Nat.zero_le _, by omega⟩, ⟨by rw [e1]; exact f0, by rw [e4]; exact f0, by omega⟩, fun j hj => absurd hj (Nat.not_lt_zero j)⟩
end R56B
end
section
/-! WHAT WAS: taken back by both -/
section R56C
variable {c G : Nat} {h q : Hp} {n : Nat}
/-- the class has taken back -/
def TC (h : Hp) (q : Int32 × Hp) : Prop := ((hi h 38 2).toInt = 0 → q.1 = 0 ∧ q.2 = h) ∧ ((hi h 38 2).toInt ≠ 0 → q.1 = 1 ∧ ∃ p : Nat, (p < 40 ∧ (hi h 38 1).toInt = (p : Int)) ∧ (((hi q.2 38 1).toInt = (((p + 39) % 40 : Nat) : Int)) ∧ hi q.2 38 2 = hi h 38 2 - 1) ∧ ((∀ k, k < 4 → hi q.2 30 k = hi h (40 + 4 * p) k) ∧ (∀ k, k < 25 → hi q.2 31 k = hi h (40 + 4 * p + 1) k) ∧ (∀ k, k < 5 → hi q.2 32 k = hi h (40 + 4 * p + 2) k) ∧ ∀ k, k < 5 → hi q.2 33 k = hi h (40 + 4 * p + 3) k) ∧ ∀ a k, a ≠ 38 → ¬ (30 ≤ a ∧ a ≤ 33) → hi q.2 a k = hi h a k)
def TR (h : Hp) (q : Int32 × Hp) : Prop := ((hi h 226 59).toInt = 0 → q.1 = 0 ∧ q.2 = h) ∧ ∀ m : Nat, (hi h 226 59).toInt = ((m + 1 : Nat) : Int) → q.1 = 1 ∧ (hi q.2 226 59).toInt = (m : Int) ∧ (∀ k, k < 63 → hi q.2 262 k = hi h 266 (63 * m + k)) ∧ ∀ k, hi q.2 266 k = hi h 266 k
theorem tb_c (r : 0 ≤ (hi h 38 1).toInt ∧ (hi h 38 1).toInt ≤ 39) : Pc (F_X6_takeBack n h 30) (TC h) := by
  have f0 := lit_0
  have f1 := lit_1
  have f40 := lit_40
  obtain ⟨p, hp⟩ : ∃ p : Nat, (hi h 38 1).toInt = (p : Int) := ⟨(hi h 38 1).toInt.toNat, by omega⟩
  unfold F_X6_takeBack
  refine Pc.eq (fun c1 => Pc.ret ⟨fun _ => ⟨rfl, rfl⟩, fun z => absurd (c1.trans f0) z⟩) (fun c1 => ?_)
  have n1 := ncT (show 0 ≤ (hi h 38 1).toInt by omega)
  have n2 : Int32.toNatClampNeg (hi h 38 1) = p := by omega
  rw [n2]
  refine Pc.chk (fun _ => ?_)
  refine Pc.bind (fun y e => And.intro (bcm8 (a := 30) (b := 40 + 4 * p) (by omega) y e) (zf_X8_become y e)) (fun q3 hq => ?_)
  obtain ⟨⟨b1, b2, b3, b4⟩, z⟩ := hq
  have zz (k : Nat) : hi q3 38 k = hi h 38 k := z.1 38 k (by omega)
  have a1 := adT (hi h 38 1) 40 (by omega) (by omega)
  have s1 := sbT (hi h 38 1 + 40) 1 (by omega) (by omega)
  have m1 := rmN (x := hi h 38 1 + 40 - 1) (y := 40) (a := p + 39) (b := 40) (by omega) (by omega)
  rw [zz 1]
  generalize ex : (hi h 38 1 + 40 - 1 - (hi h 38 1 + 40 - 1) / 40 * 40 : Int32) = x at m1 ⊢
  refine Pc.ret ⟨fun w => absurd (w.trans f0.symm) c1, fun _ => ⟨rfl, p, ⟨by omega, hp⟩, ⟨?_, ?_⟩, ⟨fun k hk => ?_, fun k hk => ?_, fun k hk => ?_, fun k hk => ?_⟩, fun a k h1 h2 => ?_⟩⟩
  · show (hi (wrI (wrI q3 38 1 x) 38 2 (hi q3 38 2 - 1)) 38 1).toInt = _
    rw [hi_wrI, if_neg (by decide), hi_wrI, if_pos ⟨rfl, rfl⟩]
    exact m1
  · show hi (wrI (wrI q3 38 1 x) 38 2 (hi q3 38 2 - 1)) 38 2 = _
    rw [hi_wrI, if_pos ⟨rfl, rfl⟩, zz]
  · show hi (wrI (wrI q3 38 1 x) 38 2 (hi q3 38 2 - 1)) 30 k = _
    rw [hi_wrI, if_neg (by omega), hi_wrI, if_neg (by omega)]
    exact b1 k hk
  · show hi (wrI (wrI q3 38 1 x) 38 2 (hi q3 38 2 - 1)) 31 k = _
    rw [hi_wrI, if_neg (by omega), hi_wrI, if_neg (by omega)]
    exact b2 k hk
  · show hi (wrI (wrI q3 38 1 x) 38 2 (hi q3 38 2 - 1)) 32 k = _
    rw [hi_wrI, if_neg (by omega), hi_wrI, if_neg (by omega)]
    exact b3 k hk
  · show hi (wrI (wrI q3 38 1 x) 38 2 (hi q3 38 2 - 1)) 33 k = _
    rw [hi_wrI, if_neg (by omega), hi_wrI, if_neg (by omega)]
    exact b4 k hk
  · show hi (wrI (wrI q3 38 1 x) 38 2 (hi q3 38 2 - 1)) a k = _
    rw [hi_wrI, if_neg (by omega), hi_wrI, if_neg (by omega)]
    exact z.1 a k (by omega)
theorem ub_21 {h0 : Hp} {m : Nat} (m40 : m < 40) (e59 : (hi h0 226 59).toInt = (m : Int)) : ∀ (n : Nat) (h : Hp) (l1 : Int32) (i : Nat), l1.toInt = (i : Int) → i ≤ 63 → (∀ a k, a ≠ 262 → hi h a k = hi h0 a k) → (∀ k, k < i → hi h 262 k = hi h0 266 (63 * m + k)) → Pc (W_X12_undo n 21 h l1) (fun q => q.1 = 1 ∧ (∀ a k, a ≠ 262 → hi q.2 a k = hi h0 a k) ∧ ∀ k, k < 63 → hi q.2 262 k = hi h0 266 (63 * m + k)) := by
  intro n
  induction n with
  | zero => intro h l1 i a b c e; exact Pc.no
  | succ n ih =>
    intro h l1 i a b c e
    have f63 := lit_63
    have f1 := lit_1
    rw [u_X12_undo]
    refine Pc.pos rfl ?_
    refine Pc.le (fun c1 => Pc.ret ⟨rfl, c, fun k hk => e k (by omega)⟩) (fun c1 => Pc.chk (fun _ => Pc.chk (fun _ => ?_)))
    rw [c 226 59 (by decide)]
    have m63 := mlT 63 (hi h0 226 59) 63 lit_63 (by omega) (by omega)
    have a2 := adT (63 * hi h0 226 59) l1 (by omega) (by omega)
    have n1 := ncT (show 0 ≤ l1.toInt by omega)
    have n2 : Int32.toNatClampNeg l1 = i := by omega
    have n3 := ncT (show 0 ≤ (63 * hi h0 226 59 + l1).toInt by omega)
    have n4 : Int32.toNatClampNeg (63 * hi h0 226 59 + l1) = 63 * m + i := by omega
    have a1 := adT l1 1 (by omega) (by omega)
    rw [n2, n4]
    refine ih _ (l1 + 1) (i + 1) (by omega) (by omega) (fun a k ne => by rw [hi_wrI, if_neg (fun z => ne z.1)]; exact c a k ne) (fun k hk => ?_)
    rw [hi_wrI]
    by_cases y : k = i
    · rw [if_pos ⟨rfl, y⟩, y]; exact c 266 _ (by decide)
    · rw [if_neg (fun z => y z.2)]; exact e k (by omega)
theorem ub_r (r : 0 ≤ (hi h 226 59).toInt ∧ (hi h 226 59).toInt ≤ 40) : Pc (F_X12_undo n h) (TR h) := by
  have f0 := lit_0
  have f1 := lit_1
  unfold F_X12_undo
  refine Pc.eq (fun c1 => Pc.ret ⟨fun _ => ⟨rfl, rfl⟩, fun m hm => by exfalso; omega⟩) (fun c1 => ?_)
  obtain ⟨m, hm⟩ : ∃ m : Nat, (hi h 226 59).toInt = ((m + 1 : Nat) : Int) := ⟨((hi h 226 59).toInt - 1).toNat, by omega⟩
  have s1 := sbT (hi h 226 59) 1 (by omega) (by omega)
  generalize eg : wrI h 226 59 (hi h 226 59 - 1) = g
  have e59 : (hi g 226 59).toInt = (m : Int) := by rw [hiE eg]; omega
  refine (ub_21 (h0 := g) (m := m) (by omega) e59 n g 0 0 f0 (by decide) (fun _ _ _ => rfl) (fun k hk => absurd hk (Nat.not_lt_zero k))).mono (fun q hq => ?_)
  obtain ⟨k1, k2, k3⟩ := hq
  refine ⟨fun z => absurd (z.trans f0.symm) c1, fun m' hm' => ?_⟩
  have em : m' = m := by omega
  subst em
  refine ⟨k1, by rw [k2 226 59 (by decide)]; exact e59, fun k hk => ?_, fun k => ?_⟩
  · rw [k3 k hk, hiA eg 266 _ (by decide)]
  · rw [k2 266 k (by decide), hiA eg 266 k (by decide)]
/-- both take back the same -/
theorem PST.undo {h0 : Hp} {qc qr : Int32 × Hp} (x : PST c G h0) (c25 : c ≤ 25) (G5 : G ≤ 5) (tc : TC h0 qc) (tr : TR qc.2 qr) (e0 : ∀ a k, 226 ≤ a → hi qc.2 a k = hi h0 a k) (e1 : ∀ a k, a < 226 → hi qr.2 a k = hi qc.2 a k) : qc.1 = qr.1 ∧ PST c G qr.2 ∧ ((qc.2 = h0 ∧ qr.2 = h0) ∨ (SCR c G (hi qr.2 262) 30 qr.2 ∧ RVR c G (hi qr.2 262) ∧ ∀ a k, a ≠ 38 → ¬ (30 ≤ a ∧ a ≤ 33) → a < 226 → hi qr.2 a k = hi h0 a k)) := by
  have f0 := lit_0
  have f1 := lit_1
  have x0 := x
  obtain ⟨n, p0, ⟨n40, p40⟩, ⟨x1, x2, x3⟩, x4⟩ := x
  obtain ⟨t1, t2⟩ := tc
  obtain ⟨r1, r2⟩ := tr
  rw [e0 226 59 (by decide)] at r1 r2
  by_cases z : n = 0
  · obtain ⟨u1, u2⟩ := t1 (by omega)
    obtain ⟨w1, w2⟩ := r1 (by omega)
    have eq : qr.2 = h0 := w2.trans u2
    exact ⟨u1.trans w1.symm, by rw [eq]; exact x0, Or.inl ⟨u2, eq⟩⟩
  · obtain ⟨u1, p, ⟨u2, u3⟩, ⟨u4, u5⟩, ⟨u6, u7, u8, u9⟩, u10⟩ := t2 (by omega)
    obtain ⟨m, hm⟩ : ∃ m, n = m + 1 := ⟨n - 1, by omega⟩
    subst hm
    obtain ⟨w1, w2, w3, w4⟩ := r2 m x2
    have ep : p0 = p := by omega
    subst ep
    have s1 := sbT (hi h0 38 2) 1 (by omega) (by omega)
    have row (k : Nat) (hk : k < 63) : hi qr.2 262 k = rwU h0 266 m k := (w3 k hk).trans (e0 266 _ (by decide))
    obtain ⟨v1, v2⟩ := x4 0 (by omega)
    have ei : (p0 + 40 - 0) % 40 = p0 := by omega
    have em : m + 1 - 1 - 0 = m := by omega
    rw [ei, em] at v1
    rw [em] at v2
    have fr (a k : Nat) (h1 : 40 ≤ a) (h2 : a < 226) : hi qr.2 a k = hi h0 a k := by
      rw [e1 a k h2]
      exact u10 a k (by omega) (by omega)
    refine ⟨u1.trans w1.symm, ⟨m, (p0 + 39) % 40, ⟨by omega, Nat.mod_lt _ (by decide)⟩, ⟨?_, w2, ?_⟩, fun j hj => ?_⟩, Or.inr ⟨?_, v2.cg G5 (fun k hk => row k (by omega)), fun a k h1 h2 h3 => ?_⟩⟩
    · rw [e1 38 2 (by decide), u5, s1]; omega
    · rw [e1 38 1 (by decide)]; exact u4
    · obtain ⟨y1, y2⟩ := x4 (j + 1) (by omega)
      have ej : ((p0 + 39) % 40 + 40 - j) % 40 = (p0 + 40 - (j + 1)) % 40 := by omega
      have er : m - 1 - j = m + 1 - 1 - (j + 1) := by omega
      rw [ej, er]
      have l40 : (p0 + 40 - (j + 1)) % 40 < 40 := Nat.mod_lt _ (by decide)
      generalize (p0 + 40 - (j + 1)) % 40 = i at l40 y1
      have rj (k : Nat) (_ : k < 63) : rwU qr.2 266 (m + 1 - 1 - (j + 1)) k = rwU h0 266 (m + 1 - 1 - (j + 1)) k := (w4 _).trans (e0 266 _ (by decide))
      exact ⟨(y1.to c25 G5 (b := 40 + 4 * i) (fun k _ => fr _ k (by omega) (by omega)) (fun k _ => fr _ k (by omega) (by omega)) (fun k _ => fr _ k (by omega) (by omega)) (fun k _ => fr _ k (by omega) (by omega))).cg c25 G5 rj, y2.cg G5 (fun k hk => rj k (by omega))⟩
    · refine (v1.to c25 G5 (b := 30) (fun k hk => ?_) (fun k hk => ?_) (fun k hk => ?_) (fun k hk => ?_)).cg c25 G5 row
      · rw [e1 30 k (by decide)]; exact u6 k hk
      · rw [e1 31 k (by decide)]; exact u7 k hk
      · rw [e1 32 k (by decide)]; exact u8 k hk
      · rw [e1 33 k (by decide)]; exact u9 k hk
    · rw [e1 a k h3]; exact u10 a k h1 h2
end R56C
end
section
/-! WHAT IS HELD: the same rows of both -/
def HLD (c G : Nat) (h : Hp) : Prop := ∀ j, j < 3 → hi h 273 j ≠ 0 → SCR c G (rwU h 274 j) (214 + 4 * j) h ∧ RVR c G (rwU h 274 j)
section R56D
variable {c G : Nat} {h q : Hp} {n : Nat} {x1 : Int32}
def HC (x1 : Int32) (h : Hp) (q : Int32 × Hp) : Prop := (¬ (0 ≤ x1.toInt ∧ x1.toInt < 3) ∧ q.2 = h) ∨ ∃ j : Nat, (j < 3 ∧ x1.toInt = (j : Int)) ∧ ((∀ k, k < 4 → hi q.2 (214 + 4 * j) k = hi h 30 k) ∧ (∀ k, k < 25 → hi q.2 (214 + 4 * j + 1) k = hi h 31 k) ∧ (∀ k, k < 5 → hi q.2 (214 + 4 * j + 2) k = hi h 32 k) ∧ ∀ k, k < 5 → hi q.2 (214 + 4 * j + 3) k = hi h 33 k) ∧ ∀ a k, a ≠ 0 → ¬ (214 + 4 * j ≤ a ∧ a ≤ 214 + 4 * j + 3) → hi q.2 a k = hi h a k
def HR (x1 : Int32) (h : Hp) (q : Int32 × Hp) : Prop := (¬ (0 ≤ x1.toInt ∧ x1.toInt < 3) ∧ q.2 = h) ∨ ∃ j : Nat, (j < 3 ∧ x1.toInt = (j : Int)) ∧ (∀ k, k < 63 → hi q.2 274 (63 * j + k) = hi h 262 k) ∧ (∀ k, ¬ (63 * j ≤ k ∧ k < 63 * j + 63) → hi q.2 274 k = hi h 274 k) ∧ (∀ k, k ≠ j → hi q.2 273 k = hi h 273 k) ∧ ∀ a k, a ≠ 273 → a ≠ 274 → hi q.2 a k = hi h a k
theorem hc_hold : Pc (F_X11_hold n h x1) (HC x1 h) := by
  have f0 := lit_0
  have f3 := lit_3
  unfold F_X11_hold
  refine Pc.lt (fun c1 => Pc.ret (Or.inl ⟨by omega, rfl⟩)) (fun c1 => ?_)
  refine Pc.lt (fun c2 => Pc.chk (fun _ => ?_)) (fun c2 => Pc.ret (Or.inl ⟨by omega, rfl⟩))
  have n1 := ncT (show 0 ≤ x1.toInt by omega)
  generalize Int32.toNatClampNeg x1 = j at n1
  refine Pc.bind (fun y e => And.intro (bcm8 (a := 214 + 4 * j) (b := 30) (by omega) y e) (zf_X8_become y e)) (fun q4 hq => ?_)
  obtain ⟨⟨b1, b2, b3, b4⟩, z⟩ := hq
  generalize eg : wrI q4 0 10 (hi q4 0 10 ||| ((1 : Int32) <<< (x1 &&& 31))) = g
  have gg (a k : Nat) (ne : a ≠ 0) : hi g a k = hi q4 a k := hiA eg a k ne
  refine Pc.ret (Or.inr ⟨j, ⟨by omega, by omega⟩, ⟨fun k hk => ?_, fun k hk => ?_, fun k hk => ?_, fun k hk => ?_⟩, fun a k h1 h2 => ?_⟩)
  · exact (gg _ k (by omega)).trans (b1 k hk)
  · exact (gg _ k (by omega)).trans (b2 k hk)
  · exact (gg _ k (by omega)).trans (b3 k hk)
  · exact (gg _ k (by omega)).trans (b4 k hk)
  · exact (gg a k h1).trans (z.1 a k (by omega))
theorem hr_20 {h0 : Hp} {j : Nat} (j3 : j < 3) {l1 : Int32} (hl : l1.toInt = (j : Int)) : ∀ (n : Nat) (h : Hp) (l2 : Int32) (i : Nat), l2.toInt = (i : Int) → i ≤ 63 → (∀ a k, a ≠ 274 → hi h a k = hi h0 a k) → (∀ k, k < i → hi h 274 (63 * j + k) = hi h0 262 k) → (∀ k, ¬ (63 * j ≤ k ∧ k < 63 * j + 63) → hi h 274 k = hi h0 274 k) → Pc (W_X12_hold n 20 h l1 l2) (fun q => (∀ a k, a ≠ 274 → hi q.2 a k = hi h0 a k) ∧ (∀ k, k < 63 → hi q.2 274 (63 * j + k) = hi h0 262 k) ∧ ∀ k, ¬ (63 * j ≤ k ∧ k < 63 * j + 63) → hi q.2 274 k = hi h0 274 k) := by
  intro n
  induction n with
  | zero => intro h l2 i a b c e f; exact Pc.no
  | succ n ih =>
    intro h l2 i a b c e f
    have f63 := lit_63
    have f1 := lit_1
    rw [u_X12_hold]
    refine Pc.pos rfl ?_
    refine Pc.le (fun c1 => Pc.ret ⟨c, fun k hk => e k (by omega), f⟩) (fun c1 => Pc.chk (fun _ => Pc.chk (fun _ => ?_)))
    have m63 := mlT 63 l1 63 lit_63 (by omega) (by omega)
    have a2 := adT (63 * l1) l2 (by omega) (by omega)
    have n1 := ncT (show 0 ≤ l2.toInt by omega)
    have n2 : Int32.toNatClampNeg l2 = i := by omega
    have n3 := ncT (show 0 ≤ (63 * l1 + l2).toInt by omega)
    have n4 : Int32.toNatClampNeg (63 * l1 + l2) = 63 * j + i := by omega
    have a1 := adT l2 1 (by omega) (by omega)
    rw [n2, n4]
    refine ih _ (l2 + 1) (i + 1) (by omega) (by omega) (fun a k ne => by rw [hi_wrI, if_neg (fun z => ne z.1)]; exact c a k ne) (fun k hk => ?_) (fun k hk => ?_)
    · rw [hi_wrI]
      by_cases y : k = i
      · rw [if_pos ⟨rfl, by omega⟩, y]; exact c 262 i (by decide)
      · rw [if_neg (by omega)]; exact e k (by omega)
    · rw [hi_wrI, if_neg (by omega)]; exact f k hk
theorem hr_hold : Pc (F_X12_hold n h x1) (HR x1 h) := by
  have f0 := lit_0
  have f2 := lit_2
  unfold F_X12_hold
  refine Pc.bind ez_in (fun q4 h4 => ?_)
  obtain ⟨t1, t2⟩ := h4
  refine Pc.eq (fun c1 => Pc.ret (Or.inl ⟨by omega, t1⟩)) (fun c1 => Pc.chk (fun _ => ?_))
  rw [t1]
  have r := t2.mp (fun z => c1 (z.trans f0.symm))
  have n1 := ncT (show 0 ≤ x1.toInt by omega)
  obtain ⟨j, hj⟩ : ∃ j : Nat, x1.toInt = (j : Int) := ⟨x1.toInt.toNat, by omega⟩
  have n2 : Int32.toNatClampNeg x1 = j := by omega
  rw [n2]
  generalize eg : wrI h 273 j 1 = g
  have gg (a k : Nat) (ne : a ≠ 273) : hi g a k = hi h a k := hiA eg a k ne
  refine (hr_20 (h0 := g) (j := j) (by omega) hj n g 0 0 f0 (by decide) (fun _ _ _ => rfl) (fun k hk => absurd hk (Nat.not_lt_zero k)) (fun _ _ => rfl)).mono (fun q hq => ?_)
  obtain ⟨k1, k2, k3⟩ := hq
  refine Or.inr ⟨j, ⟨by omega, hj⟩, fun k hk => ?_, fun k hk => ?_, fun k ne => ?_, fun a k h1 h2 => ?_⟩
  · rw [k2 k hk]; exact gg 262 k (by decide)
  · rw [k3 k hk]; exact gg 274 k (by decide)
  · rw [k1 273 k (by decide)]; exact hiK eg 273 k ne
  · rw [k1 a k h2]; exact gg a k h1
/-- one more row is held -/
theorem HLD.hold {h0 : Hp} {qc qr : Int32 × Hp} (x : HLD c G h0) (c25 : c ≤ 25) (G5 : G ≤ 5) (s : SCR c G (hi h0 262) 30 h0) (r : RVR c G (hi h0 262)) (hc : HC x1 h0 qc) (hr : HR x1 qc.2 qr) (e0 : ∀ a k, 226 ≤ a → hi qc.2 a k = hi h0 a k) (e1 : ∀ a k, a < 226 → hi qr.2 a k = hi qc.2 a k) : HLD c G qr.2 := by
  rcases hc with ⟨z, u⟩ | ⟨j, ⟨j3, hj⟩, ⟨b1, b2, b3, b4⟩, b5⟩
  · rcases hr with ⟨-, w⟩ | ⟨j, ⟨j3, hj⟩, -⟩
    · rw [w, u]; exact x
    · exfalso; omega
  · rcases hr with ⟨z, -⟩ | ⟨j', ⟨j3', hj'⟩, d1, d2, d3, d4⟩
    · exfalso; omega
    · have ej : j' = j := by omega
      subst ej
      intro i i3 hi'
      by_cases y : i = j'
      · subst y
        have row (k : Nat) (hk : k < 63) : rwU qr.2 274 i k = hi h0 262 k := (d1 k hk).trans (e0 262 k (by decide))
        refine ⟨(s.to c25 G5 (b := 214 + 4 * i) (fun k hk => ?_) (fun k hk => ?_) (fun k hk => ?_) (fun k hk => ?_)).cg c25 G5 row, r.cg G5 (fun k hk => row k (by omega))⟩
        · rw [e1 _ k (by omega)]; exact b1 k hk
        · rw [e1 _ k (by omega)]; exact b2 k hk
        · rw [e1 _ k (by omega)]; exact b3 k hk
        · rw [e1 _ k (by omega)]; exact b4 k hk
      · rw [d3 i y, e0 273 i (by decide)] at hi'
        obtain ⟨s1, r1⟩ := x i i3 hi'
        have row (k : Nat) (hk : k < 63) : rwU qr.2 274 i k = rwU h0 274 i k := (d2 _ (by omega)).trans (e0 274 _ (by decide))
        have fr (a k : Nat) (h1 : 214 + 4 * i ≤ a) (h2 : a ≤ 214 + 4 * i + 3) : hi qr.2 a k = hi h0 a k := by
          rw [e1 a k (by omega)]
          exact b5 a k (by omega) (by omega)
        exact ⟨(s1.to c25 G5 (b := 214 + 4 * i) (fun k _ => fr _ k (by omega) (by omega)) (fun k _ => fr _ k (by omega) (by omega)) (fun k _ => fr _ k (by omega) (by omega)) (fun k _ => fr _ k (by omega) (by omega))).cg c25 G5 row, r1.cg G5 (fun k hk => row k (by omega))⟩
theorem HLD.same {h0 : Hp} (x : HLD c G h0) (c25 : c ≤ 25) (G5 : G ≤ 5) (e1 : ∀ a k, 214 ≤ a → a < 226 → hi q a k = hi h0 a k) (e2 : ∀ k, hi q 273 k = hi h0 273 k) (e4 : ∀ k, hi q 274 k = hi h0 274 k) : HLD c G q := by
  intro i i3 hi'
  rw [e2 i] at hi'
  obtain ⟨s1, r1⟩ := x i i3 hi'
  have row (k : Nat) (_ : k < 63) : rwU q 274 i k = rwU h0 274 i k := e4 _
  have fr (a k : Nat) (h1 : 214 + 4 * i ≤ a) (h2 : a ≤ 214 + 4 * i + 3) : hi q a k = hi h0 a k := e1 a k (by omega) (by omega)
  exact ⟨(s1.to c25 G5 (b := 214 + 4 * i) (fun k _ => fr _ k (by omega) (by omega)) (fun k _ => fr _ k (by omega) (by omega)) (fun k _ => fr _ k (by omega) (by omega)) (fun k _ => fr _ k (by omega) (by omega))).cg c25 G5 row, r1.cg G5 (fun k hk => row k (by omega))⟩
/-! what was held comes back -/
def SCc (x1 : Int32) (h : Hp) (q : Int32 × Hp) : Prop := (q.1 = 0 ∧ q.2 = h) ∨ (q.1 = 1 ∧ ∃ j : Nat, (j < 3 ∧ x1.toInt = (j : Int)) ∧ hi q.2 38 2 = 0 ∧ ((∀ k, k < 4 → hi q.2 30 k = hi h (214 + 4 * j) k) ∧ (∀ k, k < 25 → hi q.2 31 k = hi h (214 + 4 * j + 1) k) ∧ (∀ k, k < 5 → hi q.2 32 k = hi h (214 + 4 * j + 2) k) ∧ ∀ k, k < 5 → hi q.2 33 k = hi h (214 + 4 * j + 3) k) ∧ ∀ a k, ¬ (a = 38 ∧ k = 2) → ¬ (30 ≤ a ∧ a ≤ 33) → hi q.2 a k = hi h a k)
def SR12 (x1 : Int32) (h : Hp) (q : Int32 × Hp) : Prop := (q.1 = 0 ∧ q.2 = h) ∨ (q.1 = 1 ∧ ∃ j : Nat, (j < 3 ∧ x1.toInt = (j : Int)) ∧ hi h 273 j ≠ 0 ∧ hi q.2 226 59 = 0 ∧ (∀ k, k < 63 → hi q.2 262 k = hi h 274 (63 * j + k)) ∧ ∀ a k, a ≠ 262 → ¬ (a = 226 ∧ k = 59) → hi q.2 a k = hi h a k)
theorem sc_rest : Pc (F_X11_restore n h x1) (SCc x1 h) := by
  have f0 := lit_0
  have f3 := lit_3
  unfold F_X11_restore
  refine Pc.lt (fun c1 => Pc.ret (Or.inl ⟨rfl, rfl⟩)) (fun c1 => ?_)
  refine Pc.le (fun c2 => Pc.ret (Or.inl ⟨rfl, rfl⟩)) (fun c2 => ?_)
  refine Pc.ite (fun c3 => Pc.ret (Or.inl ⟨rfl, rfl⟩)) (fun c3 => Pc.chk (fun _ => ?_))
  have n1 := ncT (show 0 ≤ x1.toInt by omega)
  generalize Int32.toNatClampNeg x1 = j at n1
  refine Pc.bind (fun y e => And.intro (bcm8 (a := 30) (b := 214 + 4 * j) (by omega) y e) (zf_X8_become y e)) (fun q5 hq => ?_)
  obtain ⟨⟨b1, b2, b3, b4⟩, z⟩ := hq
  unfold F_X6_clear
  generalize eg : wrI q5 38 2 0 = g
  have gg (a k : Nat) (ne : ¬ (a = 38 ∧ k = 2)) : hi g a k = hi q5 a k := by rw [← eg, hi_wrI, if_neg ne]
  exact Pc.ret (Or.inr ⟨rfl, j, ⟨by omega, by omega⟩, hiE eg, ⟨fun k hk => (gg 30 k (by omega)).trans (b1 k hk), fun k hk => (gg 31 k (by omega)).trans (b2 k hk), fun k hk => (gg 32 k (by omega)).trans (b3 k hk), fun k hk => (gg 33 k (by omega)).trans (b4 k hk)⟩, fun a k h1 h2 => (gg a k h1).trans (z.1 a k (by omega))⟩)
theorem sr_22 {h0 : Hp} {j : Nat} (j3 : j < 3) {l1 : Int32} (hl : l1.toInt = (j : Int)) : ∀ (n : Nat) (h : Hp) (l2 : Int32) (i : Nat), l2.toInt = (i : Int) → i ≤ 63 → (∀ a k, a ≠ 262 → hi h a k = hi h0 a k) → (∀ k, k < i → hi h 262 k = hi h0 274 (63 * j + k)) → Pc (W_X12_restore n 22 h l1 l2) (fun q => q.1 = 1 ∧ hi q.2 226 59 = 0 ∧ (∀ a k, a ≠ 262 → ¬ (a = 226 ∧ k = 59) → hi q.2 a k = hi h0 a k) ∧ ∀ k, k < 63 → hi q.2 262 k = hi h0 274 (63 * j + k)) := by
  intro n
  induction n with
  | zero => intro h l2 i a b c e; exact Pc.no
  | succ n ih =>
    intro h l2 i a b c e
    have f63 := lit_63
    have f1 := lit_1
    rw [u_X12_restore]
    refine Pc.pos rfl ?_
    refine Pc.le (fun c1 => Pc.ret ⟨rfl, ?_, fun a k h1 h2 => ?_, fun k hk => ?_⟩) (fun c1 => Pc.chk (fun _ => Pc.chk (fun _ => ?_)))
    · show hi (wrI h 226 59 0) 226 59 = 0
      rw [hi_wrI, if_pos ⟨rfl, rfl⟩]
    · show hi (wrI h 226 59 0) a k = _
      rw [hi_wrI, if_neg h2]; exact c a k h1
    · show hi (wrI h 226 59 0) 262 k = _
      rw [hi_wrI, if_neg (by omega)]; exact e k (by omega)
    have m63 := mlT 63 l1 63 lit_63 (by omega) (by omega)
    have a2 := adT (63 * l1) l2 (by omega) (by omega)
    have n1 := ncT (show 0 ≤ l2.toInt by omega)
    have n2 : Int32.toNatClampNeg l2 = i := by omega
    have n3 := ncT (show 0 ≤ (63 * l1 + l2).toInt by omega)
    have n4 : Int32.toNatClampNeg (63 * l1 + l2) = 63 * j + i := by omega
    have a1 := adT l2 1 (by omega) (by omega)
    rw [n2, n4]
    refine ih _ (l2 + 1) (i + 1) (by omega) (by omega) (fun a k ne => by rw [hi_wrI, if_neg (fun z => ne z.1)]; exact c a k ne) (fun k hk => ?_)
    rw [hi_wrI]
    by_cases y : k = i
    · rw [if_pos ⟨rfl, y⟩, y]; exact c 274 _ (by decide)
    · rw [if_neg (fun z => y z.2)]; exact e k (by omega)
theorem sr_rest : Pc (F_X12_restore n h x1) (SR12 x1 h) := by
  have f0 := lit_0
  have f2 := lit_2
  unfold F_X12_restore
  refine Pc.bind ez_in (fun q4 h4 => ?_)
  obtain ⟨t1, t2⟩ := h4
  refine Pc.eq (fun c1 => Pc.ret (Or.inl ⟨rfl, t1⟩)) (fun c1 => Pc.chk (fun _ => ?_))
  rw [t1]
  have r := t2.mp (fun z => c1 (z.trans f0.symm))
  have n1 := ncT (show 0 ≤ x1.toInt by omega)
  obtain ⟨j, hj⟩ : ∃ j : Nat, x1.toInt = (j : Int) := ⟨x1.toInt.toNat, by omega⟩
  have n2 : Int32.toNatClampNeg x1 = j := by omega
  rw [n2]
  refine Pc.ite (fun c3 => Pc.ret (Or.inl ⟨rfl, rfl⟩)) (fun c3 => ?_)
  have nz : hi h 273 j ≠ 0 := fun z => c3 (by rw [z]; decide)
  refine (sr_22 (h0 := h) (j := j) (by omega) hj n h 0 0 f0 (by decide) (fun _ _ _ => rfl) (fun k hk => absurd hk (Nat.not_lt_zero k))).mono (fun q hq => ?_)
  obtain ⟨k1, k2, k3, k4⟩ := hq
  exact Or.inr ⟨k1, j, ⟨by omega, hj⟩, nz, k2, k4, k3⟩
end R56D
end
section
/-! THE LAWS, asked by both of one row -/
theorem nOf {x : Int32} {b : Nat} (hx : x.toInt = (b : Int)) (hb : b < 2147483648) : x = Int32.ofNat b := Int32.toInt_inj.mp (hx.trans (Int32.toInt_ofNat_of_lt (by omega)).symm)
theorem dm_all : ∀ w, w < 6 → ∀ b, b < 25 → (Int32.ofNat b / Int32.ofNat w = Int32.ofNat (b / w) ∧ Int32.ofNat b - Int32.ofNat b / Int32.ofNat w * Int32.ofNat w = Int32.ofNat (b % w)) := by decide +kernel
theorem and7_all : ∀ n, n < 64 → (Int32.ofNat n &&& 7) = Int32.ofNat (n % 8) := by decide +kernel
/-- what a law is told of the cell b -/
def valF (w g c : Nat) (f : Nat → Int32) (b : Nat) (x4 x5 : Int32) (k : Nat) : Int32 :=
  if k = 0 then Int32.ofNat (b % w) else if k = 1 then Int32.ofNat (b / w) else if k = 2 then f 61 else if k = 3 then f b else if k = 4 then x4 else if k = 5 then x5 else if k = 6 then Int32.ofNat w else if k = 7 then Int32.ofNat g else Int32.ofNat (cntB (fun i => decide (0 < (f i).toInt)) c)
def lwT (T : TT) (f : Nat → Int32) (b : Nat) (x4 x5 : Int32) (k : Nat) : Int32 := lwV (valF (wT T) (gT T) (wT T * gT T) f b x4 x5) (lawD T.la k).1 (lawD T.la k).2
section R56E
variable {c G : Nat} {f : Nat → Int32} {a : Nat} {h : Hp} {n : Nat} {x1 x2 x3 x4 x5 : Int32}
theorem lf_c {w b : Nat} (e : (hi h a 0).toInt = (w : Int)) (w2 : 2 ≤ w) (w5 : w ≤ 5) (hb : b < 25) (hx : x1.toInt = (b : Int)) : Pc (F_X3_leftOf n h a x1) (fun q => q.2 = h ∧ q.1 = Int32.ofNat (b % w)) := by
  have f0 := lit_0
  unfold F_X3_leftOf
  refine Pc.le (fun z => by exfalso; omega) (fun _ => Pc.ite (fun _ => Pc.no) (fun _ => Pc.ret ⟨rfl, ?_⟩))
  show (x1 - x1 / hi h a 0 * hi h a 0 : Int32) = _
  rw [nOf hx (by omega), nOf e (by omega)]
  exact (dm_all w (by omega) b hb).2
theorem tp_c {w b : Nat} (e : (hi h a 0).toInt = (w : Int)) (w2 : 2 ≤ w) (w5 : w ≤ 5) (hb : b < 25) (hx : x1.toInt = (b : Int)) : Pc (F_X3_topOf n h a x1) (fun q => q.2 = h ∧ q.1 = Int32.ofNat (b / w)) := by
  have f0 := lit_0
  unfold F_X3_topOf
  refine Pc.le (fun z => by exfalso; omega) (fun _ => Pc.ite (fun _ => Pc.no) (fun _ => Pc.ret ⟨rfl, ?_⟩))
  show (x1 / hi h a 0 : Int32) = _
  rw [nOf hx (by omega), nOf e (by omega)]
  exact (dm_all w (by omega) b hb).1
theorem tu_c (sc : SCR c G f a h) {b : Nat} (hb : b < 25) (hx : x1.toInt = (b : Int)) : Pc (F_X8_isTuned n h a x1) (fun q => q.2 = h ∧ (q.1 = 0 ∨ q.1 = 1) ∧ (q.1 ≠ 0 ↔ b < c ∧ 0 < (f b).toInt)) := by
  have f0 := lit_0
  have f25 := lit_25
  have s := sc.2.1 b (by omega)
  have sb := sh_bit (hi h a 3) x1 b hb hx
  unfold F_X8_isTuned
  refine Pc.lt (fun z => by exfalso; omega) (fun _ => Pc.le (fun z => by exfalso; omega) (fun _ => ?_))
  refine Pc.ite (fun z => Pc.ret ⟨rfl, Or.inl rfl, fun y => absurd rfl y, fun y => absurd (s.mpr y) (sb.mp z)⟩) (fun z => Pc.ret ⟨rfl, Or.inr rfl, fun _ => ?_, fun _ => by show (1 : Int32) ≠ 0; decide⟩)
  by_cases y : bt (hi h a 3) b = true
  · exact s.mp y
  · exact absurd (sb.mpr y) z
theorem rv_0 (rv : RVR c G f) {b : Nat} (hb : b < 25) (z : ¬ (b < c ∧ 0 < (f b).toInt)) : f b = 0 := by
  have f0 := lit_0
  obtain ⟨r1, r2, -⟩ := rv.1 b hb
  refine Int32.toInt_inj.mp ?_
  by_cases y : b < c
  · have : ¬ 0 < (f b).toInt := fun w => z ⟨y, w⟩
    omega
  · rw [r1 (by omega)]; exact f0.symm
theorem be_c (sc : SCR c G f a h) (rv : RVR c G f) {b : Nat} (hb : b < 25) (hx : x1.toInt = (b : Int)) : Pc (F_X8_beatOf n h a x1) (fun q => q.2 = h ∧ q.1 = f b) := by
  have f0 := lit_0
  unfold F_X8_beatOf
  refine Pc.bind (tu_c sc hb hx) (fun q1 h1 => ?_)
  obtain ⟨t1, t2, t3⟩ := h1
  rw [t1]
  refine Pc.ite (fun z => Pc.ret ⟨rfl, (rv_0 rv hb (fun y => t3.mpr y z)).symm⟩) (fun z => Pc.chk (fun _ => Pc.ret ⟨rfl, ?_⟩))
  have n1 := ncT (show 0 ≤ x1.toInt by omega)
  have n2 : Int32.toNatClampNeg x1 = b := by omega
  obtain ⟨y1, y2⟩ := t3.mp z
  obtain ⟨-, -, r3⟩ := rv.1 b hb
  have r4 := r3 y2
  show (vp_nar .byte (hi h (a + 1) (Int32.toNatClampNeg x1)) >>> ((3 : Int32) &&& 31) : Int32) = f b
  rw [n2]
  refine Int32.toInt_inj.mp ?_
  rw [shr3T, sc.2.2.1 b y1 y2]
  omega
theorem of_c (sc : SCR c G f a h) (rv : RVR c G f) {b : Nat} (hb : b < c) (c25 : c ≤ 25) (p : 0 < (f b).toInt) (hx : x1.toInt = (b : Int)) : Pc (F_X8_offsetOf n h a x1) (fun q => q.2 = h ∧ q.1 = f (25 + b)) := by
  unfold F_X8_offsetOf
  refine Pc.bind (tu_c sc (b := b) (by omega) hx) (fun q1 h1 => ?_)
  obtain ⟨t1, t2, t3⟩ := h1
  rw [t1]
  refine Pc.ite (fun z => absurd z (t3.mpr ⟨hb, p⟩)) (fun z => Pc.chk (fun _ => Pc.ret ⟨rfl, ?_⟩))
  have n1 := ncT (show 0 ≤ x1.toInt by omega)
  have n2 : Int32.toNatClampNeg x1 = b := by omega
  obtain ⟨-, -, r3⟩ := rv.1 b (by omega)
  have r4 := r3 p
  show (vp_nar .byte (hi h (a + 1) (Int32.toNatClampNeg x1)) &&& 7 : Int32) = f (25 + b)
  rw [n2]
  have e := sc.2.2.1 b hb p
  obtain ⟨m, hm⟩ : ∃ m : Nat, (f b).toInt = (m : Int) := ⟨(f b).toInt.toNat, by omega⟩
  obtain ⟨o, ho⟩ : ∃ o : Nat, (f (25 + b)).toInt = (o : Int) := ⟨(f (25 + b)).toInt.toNat, by omega⟩
  have ex : (vp_nar .byte (hi h (a + 1) b) : Int32) = Int32.ofNat (8 * m + o) := nOf (by omega) (by omega)
  have ey : f (25 + b) = Int32.ofNat o := nOf ho (by omega)
  rw [ex, and7_all _ (by omega), ey]
  congr 1
  omega
theorem ro_c (sc : SCR c G f a h) {b : Nat} (hb : b < 25) (hx : x1.toInt = (b : Int)) : Pc (F_X8_isRoped n h a x1) (fun q => q.2 = h ∧ q.1 = if bt (f 50) b = true then 1 else 0) := by
  have sb := sh_bit (hi h a 2) x1 b hb hx
  unfold F_X8_isRoped
  have e : hi h a 2 = f 50 := sc.1.2.2
  refine Pc.ite (fun z => Pc.ret ⟨rfl, ?_⟩) (fun z => Pc.ret ⟨rfl, ?_⟩)
  · rw [if_neg (fun y => sb.mp z (by rw [e]; exact y))]
  · by_cases y : bt (f 50) b = true
    · rw [if_pos y]
    · exact absurd (sb.mpr (by rw [e]; exact y)) z
theorem cn_c (sc : SCR c G f a h) (c25 : c ≤ 25) : cntB (bt (hi h a 3)) 32 = cntB (fun i => decide (0 < (f i).toInt)) c := by
  obtain ⟨d, hd⟩ : ∃ d, 32 = c + d := ⟨32 - c, by omega⟩
  rw [hd, cntB_add, cntB_no (f := fun i => bt (hi h a 3) (c + i)) d (fun i hi' => ?_), Nat.add_zero]
  · refine cntB_cg c (fun i hi' => ?_)
    have s := sc.2.1 i (by omega)
    cases e : bt (hi h a 3) i with
    | true => exact (decide_eq_true (s.mp e).2).symm
    | false =>
      refine (decide_eq_false (fun z => ?_)).symm
      rw [s.mpr ⟨hi', z⟩] at e
      exact Bool.noConfusion e
  · have s := sc.2.1 (c + i) (by omega)
    cases e : bt (hi h a 3) (c + i) with
    | true => exact absurd (s.mp e).1 (by omega)
    | false => rfl
theorem la_gd {T : TT} (v : VT T) {k : Nat} (k4 : k < 4) : gdB 16 (lawD T.la k).1 ∧ gdC 16 (lawD T.la k).2 := by
  unfold lawD
  cases e : T.la k with
  | none =>
    refine ⟨fun b hb => absurd hb List.not_mem_nil, ?_⟩
    have : k = 0 ∨ k = 1 ∨ k = 2 ∨ k = 3 := by omega
    rcases this with rfl | rfl | rfl | rfl <;> (show dpL 16 _ 0 = some 1; decide)
  | some b => exact v.2.2.2.2.2 k b e
/-- the class asks a law -/
theorem as_c {T : TT} (v : VT T) (bd : BDF T 23 h) (sc : SCR (wT T * gT T) G f a h) (rv : RVR (wT T * gT T) G f) (ha : 30 ≤ a) {b : Nat} (hb : b < wT T * gT T) (hx : x3.toInt = (b : Int)) {k : Nat} (k4 : k < 4) (hk : x2.toInt = (k : Int)) : Pc (F_X0_ask n h 23 a x2 x3 x4 x5) (fun q => q.1 = lwT T f b x4 x5 k) := by
  have f0 := lit_0
  have f4 := lit_4
  obtain ⟨c25, ⟨w2, w5⟩, ⟨g2, g5⟩, -, -⟩ := wg_T v
  obtain ⟨⟨b1, b2, -, -⟩, -, S, b4, b5, b6⟩ := bd
  obtain ⟨p, p1, p2⟩ := b6 k k4
  obtain ⟨l1, l2⟩ := la_gd v k4
  unfold F_X0_ask
  refine Pc.bind (lf_c (w := wT T) (b := b) b1 w2 w5 (by omega) hx) (fun q1 h1 => ?_)
  obtain ⟨u1, u2⟩ := h1
  rw [u1]
  generalize e1 : wrI h (23 + 6) 0 q1.1 = g1
  have r1 (x j : Nat) (nx : x ≠ 29) : hi g1 x j = hi h x j := hiA e1 x j nx
  refine Pc.bind (tp_c (w := wT T) (b := b) (by rw [r1 24 0 (by decide)]; exact b1) w2 w5 (by omega) hx) (fun q3 h3 => ?_)
  obtain ⟨u3, u4⟩ := h3
  rw [u3]
  generalize e2 : wrI g1 (23 + 6) 1 q3.1 = g2'
  generalize e3 : wrI g2' (23 + 6) 2 (hi g2' a 0) = g3
  have r3 (x j : Nat) (nx : x ≠ 29) : hi g3 x j = hi h x j := by
    rw [hiA e3 x j nx, hiA e2 x j nx]; exact r1 x j nx
  have sc3 : SCR (wT T * gT T) G f a g3 := by
    obtain ⟨s1, s2, s3, s4⟩ := sc
    refine ⟨?_, fun i hi' => ?_, fun i hi' => ?_, fun i hi' => ?_⟩
    · rw [r3 a 0 (by omega), r3 a 1 (by omega), r3 a 2 (by omega)]; exact s1
    · rw [r3 a 3 (by omega)]; exact s2 i hi'
    · rw [r3 (a + 1) i (by omega)]; exact s3 i hi'
    · rw [r3 (a + 2) i (by omega), r3 (a + 3) i (by omega)]; exact s4 i hi'
  refine Pc.bind (be_c sc3 rv (b := b) (by omega) hx) (fun q5 h5 => ?_)
  obtain ⟨u5, u6⟩ := h5
  rw [u5]
  generalize e4 : wrI g3 (23 + 6) 3 q5.1 = g4
  generalize e5 : wrI g4 (23 + 6) 4 x4 = g5'
  generalize e6 : wrI g5' (23 + 6) 5 x5 = g6
  generalize e7 : wrI g6 (23 + 6) 6 (hi g6 (23 + 1) 0) = g7
  generalize e8 : wrI g7 (23 + 6) 7 (hi g7 (23 + 1) 1) = g8
  have r6 (x j : Nat) (nx : x ≠ 29) : hi g6 x j = hi h x j := by
    rw [hiA e6 x j nx, hiA e5 x j nx, hiA e4 x j nx]; exact r3 x j nx
  have r8 (x j : Nat) (nx : x ≠ 29) : hi g8 x j = hi h x j := by
    rw [hiA e8 x j nx, hiA e7 x j nx, hiA e6 x j nx, hiA e5 x j nx, hiA e4 x j nx]; exact r3 x j nx
  refine Pc.bind pc_bits (fun q7 h7 => ?_)
  obtain ⟨u7, u8⟩ := h7
  rw [u7]
  generalize e9 : wrI g8 (23 + 6) 8 q7.1 = g9
  have r9 (x j : Nat) (nx : x ≠ 29) : hi g9 x j = hi h x j := by
    rw [hiA e9 x j nx]; exact r8 x j nx
  have hv : ∀ j, j < 9 → hi g9 29 j = valF (wT T) (gT T) (wT T * gT T) f b x4 x5 j := by
    intro j hj
    have w0 : hi h 24 0 = Int32.ofNat (wT T) := nOf b1 (by omega)
    have w1 : hi h 24 1 = Int32.ofNat (gT T) := nOf b2 (by omega)
    have : j = 0 ∨ j = 1 ∨ j = 2 ∨ j = 3 ∨ j = 4 ∨ j = 5 ∨ j = 6 ∨ j = 7 ∨ j = 8 := by omega
    rcases this with rfl | rfl | rfl | rfl | rfl | rfl | rfl | rfl | rfl
    · rw [hiK e9 29 0 (by decide), hiK e8 29 0 (by decide), hiK e7 29 0 (by decide), hiK e6 29 0 (by decide), hiK e5 29 0 (by decide), hiK e4 29 0 (by decide), hiK e3 29 0 (by decide), hiK e2 29 0 (by decide), hiE e1, u2]
      rfl
    · rw [hiK e9 29 1 (by decide), hiK e8 29 1 (by decide), hiK e7 29 1 (by decide), hiK e6 29 1 (by decide), hiK e5 29 1 (by decide), hiK e4 29 1 (by decide), hiK e3 29 1 (by decide), hiE e2, u4]
      rfl
    · rw [hiK e9 29 2 (by decide), hiK e8 29 2 (by decide), hiK e7 29 2 (by decide), hiK e6 29 2 (by decide), hiK e5 29 2 (by decide), hiK e4 29 2 (by decide), hiE e3, hiA e2 a 0 (by omega), r1 a 0 (by omega), sc.1.1]
      rfl
    · rw [hiK e9 29 3 (by decide), hiK e8 29 3 (by decide), hiK e7 29 3 (by decide), hiK e6 29 3 (by decide), hiK e5 29 3 (by decide), hiE e4, u6]
      rfl
    · rw [hiK e9 29 4 (by decide), hiK e8 29 4 (by decide), hiK e7 29 4 (by decide), hiK e6 29 4 (by decide), hiE e5]
      rfl
    · rw [hiK e9 29 5 (by decide), hiK e8 29 5 (by decide), hiK e7 29 5 (by decide), hiE e6]
      rfl
    · rw [hiK e9 29 6 (by decide), hiK e8 29 6 (by decide), hiE e7, r6 24 0 (by decide), w0]
      rfl
    · rw [hiK e9 29 7 (by decide), hiE e8, hiA e7 24 1 (by decide), r6 24 1 (by decide), w1]
      rfl
    · rw [hiE e9, nOf u8 (by have := cntB_le (bt (hi g8 a 3)) 32; omega), r8 a 3 (by omega), cn_c sc c25]
      rfl
  have val (h' : Hp) (eh : g9 = h') : Pc (F_X4_value n h' (23 + 2) x2 (23 + 6)) (fun q => q.1 = lwT T f b x4 x5 k) := by
    subst eh
    unfold F_X4_value
    refine Pc.lt (fun z => by exfalso; omega) (fun _ => Pc.le (fun z => by exfalso; omega) (fun _ => Pc.chk (fun _ => ?_)))
    have n1 := ncT (show 0 ≤ x2.toInt by omega)
    have n2 : Int32.toNatClampNeg x2 = k := by omega
    rw [n2]
    refine (cv_law (h0 := g9) (a := 25) (b2 := 29) (S := S) (by rw [r9 25 3 (by decide)]; exact b4) b5 hv (by decide) l2 (lawD T.la k).1 n g9 0 _ 0 p l1 (agr.rf _ _) (p2.cg (Nat.le_refl S) (fun j _ => r9 26 j (by decide))) f0 (by rw [r9 27 k (by decide)]; exact p1) (by rw [f0]; exact Int.le_refl 0) (by rw [f0, r9 27 k (by decide), p1]; omega)).mono (fun q hq => hq.2)
  exact Pc.bind (val g9 rfl) (fun q9 h9 => Pc.ret h9)
end R56E
end
