/-! A WHOLE TEXT: the row that the reference begins with -/
/-- the row that a text tells -/
def RWF (T : TT) (f : Nat → Int32) : Prop :=
  (f 61 = 0 ∧ f 62 = 0 ∧ ∀ k, k < 5 → f (56 + k) = 0) ∧
  (∀ b, b < 32 → (bt (f 50) b = true ↔ b < wT T * gT T ∧ ropeT T (spt (wT T) b))) ∧
  (∀ b, b < 25 → (¬ b < wT T * gT T → f b = 0) ∧ (b < wT T * gT T → (lastT T.tn (spt (wT T) b) = none → f b = 0 ∧ f (25 + b) = 0) ∧ ∀ p, lastT T.tn (spt (wT T) b) = some p → (f b).toInt = p.1 ∧ (f (25 + b)).toInt = p.2)) ∧
  (∀ k, k < T.go.length → (f (51 + k)).toInt = (clw (wT T) (gsT T k) : Nat)) ∧ ∀ k, T.go.length ≤ k → k < 5 → f (51 + k) = 0
section BG
variable {s : Nat} {h : Hp} {n : Nat}
theorem lastT_some {l : List ((Int × Int) × (Int × Int))} {x : (Int × Int) × (Int × Int)} (hx : x ∈ l) {c : Nat} (e : x.1.1 + 5 * x.1.2 = (c : Int)) : lastT l c ≠ none := by
  have key : ∀ r : List ((Int × Int) × (Int × Int)), x ∈ r.reverse → lastT r.reverse c ≠ none := by
    intro r
    induction r with
    | nil => intro m; exact absurd m List.not_mem_nil
    | cons y r ih =>
      intro m
      rw [List.reverse_cons] at m ⊢
      rw [lastT_snoc]
      by_cases z : y.1.1 + 5 * y.1.2 = (c : Int)
      · rw [if_pos z]; exact Option.some_ne_none _
      · rw [if_neg z]
        rcases List.mem_append.mp m with q | q
        · exact ih q
        · rw [List.mem_singleton.mp q] at e
          exact absurd e z
  have := key l.reverse (by rw [List.reverse_reverse]; exact hx)
  rw [List.reverse_reverse] at this
  exact this
theorem clw_xy {w : Nat} (hw : w ≤ 5) {x y : Int} (sp : sp5 (x, y)) : ((clw w (x + 5 * y).toNat : Nat) : Int) = (w : Int) * y + x := by
  unfold sp5 at sp
  simp only at sp
  obtain ⟨⟨a1, a2⟩, a3, a4⟩ := sp
  unfold clw
  have e1 : (x + 5 * y).toNat / 5 = y.toNat := by omega
  have e2 : (x + 5 * y).toNat % 5 = x.toNat := by omega
  rw [e1, e2, Int.natCast_add, Int.natCast_mul, Int.toNat_of_nonneg a3, Int.toNat_of_nonneg a1]
/-- the number of a cell -/
theorem bg_cell {w : Nat} (lv : (hi h 226 18).toInt = (s : Int)) (ew : (hi h 235 s).toInt = (w : Int)) (hw : w ≤ 5) {x1 x2 : Int32} {x y : Int} (e1 : x1.toInt = x) (e2 : x2.toInt = y) (sp : sp5 (x, y)) : Pc (F_X12_cellAt n h x1 x2) (fun q => q.2 = h ∧ q.1.toInt = (clw w (x + 5 * y).toNat : Nat)) := by
  have n1 := ncT (show 0 ≤ (hi h 226 18).toInt by omega)
  have n1' : Int32.toNatClampNeg (hi h 226 18) = s := by omega
  have cx := clw_xy hw sp
  unfold sp5 at sp
  simp only at sp
  have wy : (w : Int) * y ≤ 20 ∧ 0 ≤ (w : Int) * y := by
    obtain ⟨z, hz⟩ : ∃ z : Nat, y = (z : Int) := ⟨y.toNat, by omega⟩
    subst hz
    rw [← Int.natCast_mul]
    have : w * z ≤ 5 * 4 := Nat.mul_le_mul hw (by omega)
    omega
  unfold F_X12_cellAt
  rw [n1']
  refine Pc.chk (fun _ => Pc.ret ⟨rfl, ?_⟩)
  show (hi h 235 s * x2 + x1).toInt = _
  have m := mlT (hi h 235 s) x2 (w : Int) ew (by rw [e2]; omega) (by rw [e2]; omega)
  rw [e2] at m
  rw [adT _ _ (by omega) (by omega), m, e1, cx]
/-- what the row doesn't touch -/
def bgK (h0 h : Hp) : Prop := ∀ a k, a ≠ 263 → hi h a k = hi h0 a k
/-- goers laid out -/
theorem bg_178 {h0 : Hp} {T : TT} {B c : Nat} (hs : s ≤ 1) (lv : (hi h0 226 18).toInt = (s : Int)) (d : rD s T B c h0) (v : VT T) (vl : VLw T) : ∀ (n : Nat) (h : Hp) (l1 : Int32) (i : Nat), bgK h0 h → l1.toInt = (i : Int) → i ≤ T.go.length → ((hi h 263 61 = 0 ∧ hi h 263 62 = 0 ∧ ∀ k, k < 5 → hi h 263 (56 + k) = 0) ∧ (∀ b, b < 32 → (bt (hi h 263 50) b = true ↔ b < wT T * gT T ∧ ropeT T (spt (wT T) b))) ∧ (∀ b, b < 25 → (¬ b < wT T * gT T → hi h 263 b = 0) ∧ (b < wT T * gT T → (lastT T.tn (spt (wT T) b) = none → hi h 263 b = 0 ∧ hi h 263 (25 + b) = 0) ∧ ∀ p, lastT T.tn (spt (wT T) b) = some p → (hi h 263 b).toInt = p.1 ∧ (hi h 263 (25 + b)).toInt = p.2))) → (∀ k, k < i → (hi h 263 (51 + k)).toInt = (clw (wT T) (gsT T k) : Nat)) → (∀ k, i ≤ k → k < 5 → hi h 263 (51 + k) = 0) → Pc (W_X12_begins n 178 h l1) (fun q => RWF T (hi q 263)) := by
  have f1 := lit_1
  have f5 := lit_5
  have f51 : (51 : Int32).toInt = 51 := by decide
  obtain ⟨⟨d1, d2, d3, d4, d5⟩, d6, d7⟩ := d
  have ew : ((wT T : Nat) : Int) = T.lw.1 := by unfold wT; have := v.1; omega
  have w5 : wT T ≤ 5 := by have := v.1; omega
  intro n
  induction n with
  | zero => intro h l1 i a b c e g g2; exact Pc.no
  | succ n ih =>
    intro h l1 i a b c e g g2
    have lv' : (hi h 226 18).toInt = (s : Int) := by rw [a 226 18 (by decide)]; exact lv
    have n1 := ncT (show 0 ≤ (hi h 226 18).toInt by omega)
    have n1' : Int32.toNatClampNeg (hi h 226 18) = s := by omega
    rw [u_X12_begins, n1', a 242 s (by decide)]
    refine Pc.neg (by decide) (Pc.neg (by decide) (Pc.neg (by decide) (Pc.pos rfl (Pc.chk (fun _ => ?_)))))
    have l3 := d3.1
    refine Pc.le (fun q => ?_) (fun q => ?_)
    · have il : i = T.go.length := by omega
      refine Pc.chk (fun _ => ?_)
      refine Pc.bind zf_X12_fillsSides (fun q26 h26 => Pc.ret ?_)
      have r (k : Nat) : hi q26 263 k = hi h 263 k := by
        rw [h26.1 263 k (by intro y; omega), hi_wrI, if_neg (by omega), hi_wrI, if_neg (by omega)]
      have e' : hi q26 263 = hi h 263 := funext r
      rw [e']
      subst il
      exact ⟨e.1, e.2.1, e.2.2, g, g2⟩
    · have i5 : i < T.go.length := by omega
      have m5 := mlT 5 (hi h 226 18) 5 f5 (by omega) (by omega)
      have ad := adT (5 * hi h 226 18) l1 (by omega) (by omega)
      have nn := ncT (show 0 ≤ (5 * hi h 226 18 + l1).toInt by omega)
      have nn' : Int32.toNatClampNeg (5 * hi h 226 18 + l1) = 5 * s + i := by omega
      have a51 := adT 51 l1 (by omega) (by omega)
      have n51 := ncT (show 0 ≤ (51 + l1).toInt by omega)
      have n51' : Int32.toNatClampNeg (51 + l1) = 51 + i := by omega
      have a1 := adT l1 1 (by omega) (by omega)
      rw [nn', n51']
      refine Pc.chk (fun _ => Pc.chk (fun _ => ?_))
      have gx := d3.2.2 i i5
      have sp : sp5 ((T.go.getD i (0, 0)).1, (T.go.getD i (0, 0)).2) := by
        have m : T.go.getD i (0, 0) ∈ T.go := by
          rw [List.getD_eq_getElem?_getD, List.getElem?_eq_getElem i5]
          exact List.getElem_mem i5
        exact v.2.2.1.2 _ m
      refine Pc.bind (bg_cell lv' (by rw [a 235 s (by decide), ew]; exact d1.1) w5 (by rw [a 243 _ (by decide)]; exact gx.1) (by rw [a 244 _ (by decide)]; exact gx.2) sp) (fun q30 hq => Pc.chk (fun _ => ?_))
      rw [hq.1]
      have r (k : Nat) (m : k ≠ 51 + i) : hi (wrI h 263 (51 + i) q30.1) 263 k = hi h 263 k := by rw [hi_wrI, if_neg (fun z => m z.2)]
      refine ih _ (l1 + 1) (i + 1) (fun x k m => by rw [hi_wrI, if_neg (fun z => m z.1)]; exact a x k m) (by omega) (by omega) ⟨⟨by rw [r 61 (by omega)]; exact e.1.1, by rw [r 62 (by omega)]; exact e.1.2.1, fun k hk => by rw [r _ (by omega)]; exact e.1.2.2 k hk⟩, fun b hb => by rw [r 50 (by omega)]; exact e.2.1 b hb, fun b hb => by rw [r b (by omega), r (25 + b) (by omega)]; exact e.2.2 b hb⟩ (fun k hk => ?_) (fun k hk hk5 => by rw [r _ (by omega)]; exact g2 k (by omega) hk5)
      by_cases y : k = i
      · rw [y, hi_wrI, if_pos ⟨rfl, rfl⟩, hq.2]; rfl
      · rw [r _ (by omega)]; exact g k (by omega)
/-- ropes laid out -/
theorem bg_121 {h0 : Hp} {T : TT} {B c : Nat} (hs : s ≤ 1) (lv : (hi h0 226 18).toInt = (s : Int)) (d : rD s T B c h0) (v : VT T) (vl : VLw T) : ∀ (n : Nat) (h : Hp) (l1 : Int32) (i : Nat), bgK h0 h → l1.toInt = ((8 * s + i : Nat) : Int) → i ≤ T.ro.length → (∀ k, 50 < k → k < 63 → hi h 263 k = 0) → (∀ b, b < 32 → (bt (hi h 263 50) b = true ↔ b < wT T * gT T ∧ ∃ p ∈ T.ro.take i, p.1 + 5 * p.2 = ((spt (wT T) b : Nat) : Int))) → (∀ b, b < 25 → (¬ b < wT T * gT T → hi h 263 b = 0) ∧ (b < wT T * gT T → (lastT T.tn (spt (wT T) b) = none → hi h 263 b = 0 ∧ hi h 263 (25 + b) = 0) ∧ ∀ p, lastT T.tn (spt (wT T) b) = some p → (hi h 263 b).toInt = p.1 ∧ (hi h 263 (25 + b)).toInt = p.2)) → Pc (W_X12_begins n 121 h l1) (fun q => RWF T (hi q 263)) := by
  have f0 := lit_0
  have f1 := lit_1
  have f8 := lit_8
  have d' := d
  obtain ⟨⟨d1, d2, d3, d4, d5⟩, d6, d7⟩ := d
  have ew : ((wT T : Nat) : Int) = T.lw.1 := by unfold wT; have := v.1; omega
  have eg : ((gT T : Nat) : Int) = T.lw.2 := by unfold gT; have := v.1; omega
  have w5 : wT T ≤ 5 := by have := v.1; omega
  have g5 : gT T ≤ 5 := by have := v.1; omega
  have w25 := wg25 w5 g5
  intro n
  induction n with
  | zero => intro h l1 i a b c e g g2; exact Pc.no
  | succ n ih =>
    intro h l1 i a b c e g g2
    have lv' : (hi h 226 18).toInt = (s : Int) := by rw [a 226 18 (by decide)]; exact lv
    have n1 := ncT (show 0 ≤ (hi h 226 18).toInt by omega)
    have n1' : Int32.toNatClampNeg (hi h 226 18) = s := by omega
    have l4 := d4.1
    have ro8 := d7.2.2
    rw [u_X12_begins, n1', a 245 s (by decide)]
    have m8 := mlT 8 (hi h 226 18) 8 f8 (by omega) (by omega)
    have ad := adT (8 * hi h 226 18) (hi h0 245 s) (by omega) (by omega)
    refine Pc.neg (by decide) (Pc.neg (by decide) (Pc.pos rfl (Pc.chk (fun _ => ?_))))
    refine Pc.le (fun q => ?_) (fun q => ?_)
    · have il : i = T.ro.length := by omega
      subst il
      rw [List.take_length] at g
      exact bg_178 hs lv d' v vl n h 0 0 a f0 (Nat.zero_le _) ⟨⟨e 61 (by decide) (by decide), e 62 (by decide) (by decide), fun k hk => e _ (by omega) (by omega)⟩, g, g2⟩ (fun k hk => absurd hk (Nat.not_lt_zero k)) (fun k _ hk => e _ (by omega) (by omega))
    · have i8 : i < T.ro.length := by omega
      have nn := ncT (show 0 ≤ l1.toInt by omega)
      have nn' : Int32.toNatClampNeg l1 = 8 * s + i := by omega
      have a1 := adT l1 1 (by omega) (by omega)
      rw [nn']
      refine Pc.chk (fun _ => Pc.chk (fun _ => ?_))
      have gx := d4.2 i i8
      have m : T.ro.getD i (0, 0) ∈ T.ro := by
        rw [List.getD_eq_getElem?_getD, List.getElem?_eq_getElem i8]
        exact List.getElem_mem i8
      have sp : sp5 ((T.ro.getD i (0, 0)).1, (T.ro.getD i (0, 0)).2) := v.2.2.2.1.2 _ m
      generalize ep : T.ro.getD i (0, 0) = p at gx m sp
      refine Pc.bind (bg_cell lv' (by rw [a 235 s (by decide), ew]; exact d1.1) w5 (by rw [a 246 _ (by decide)]; exact gx.1) (by rw [a 247 _ (by decide)]; exact gx.2) sp) (fun q30 hq => ?_)
      rw [hq.1]
      have sp' := sp
      unfold sp5 at sp'
      simp only at sp'
      have c25 : (p.1 + 5 * p.2).toNat < 25 := by omega
      have rp : ropeT T (p.1 + 5 * p.2).toNat := ⟨p, m, by omega⟩
      have on := vl.1 _ c25 rp
      obtain ⟨o1, o2⟩ := clw_on w5 g5 c25 on
      have r (k : Nat) (m : k ≠ 50) (x : Int32) : hi (wrI h 263 50 x) 263 k = hi h 263 k := by rw [hi_wrI, if_neg (fun z => m z.2)]
      have tk : T.ro.take (i + 1) = T.ro.take i ++ [p] := by
        rw [← ep, List.getD_eq_getElem?_getD, List.getElem?_eq_getElem i8]
        exact List.take_succ_eq_append_getElem i8
      have nx := ncT (show 0 ≤ q30.1.toInt by omega)
      refine ih _ (l1 + 1) (i + 1) (fun x k m => by rw [hi_wrI, if_neg (fun z => m z.1)]; exact a x k m) (by omega) (by omega) (fun k h1 h2 => by rw [r k (by omega)]; exact e k h1 h2) (fun b hb => ?_) (fun b hb => by rw [r b (by omega), r (25 + b) (by omega)]; exact g2 b hb)
      rw [hi_wrI, if_pos ⟨rfl, rfl⟩, bt_or, btL (by omega) (by omega) b, Bool.or_eq_true, g b hb, decide_eq_true_eq, tk]
      constructor
      · rintro (⟨x1, y, y1, y2⟩ | z)
        · exact ⟨x1, y, List.mem_append_left _ y1, y2⟩
        · have eb : b = clw (wT T) (p.1 + 5 * p.2).toNat := by omega
          rw [eb]
          refine ⟨o1, p, List.mem_append_right _ (List.mem_singleton.mpr rfl), ?_⟩
          rw [o2]; omega
      · rintro ⟨x1, y, y1, y2⟩
        rcases List.mem_append.mp y1 with z | z
        · exact Or.inl ⟨x1, y, z, y2⟩
        · right
          rw [List.mem_singleton.mp z] at y2
          have := (spt_on w5 g5 x1).2.2
          have e2 : spt (wT T) b = (p.1 + 5 * p.2).toNat := by omega
          rw [e2] at this
          omega
/-- tunes laid out -/
theorem bg_29 {h0 : Hp} {T : TT} {B c : Nat} (hs : s ≤ 1) (lv : (hi h0 226 18).toInt = (s : Int)) (d : rD s T B c h0) (v : VT T) (vl : VLw T) : ∀ (n : Nat) (h : Hp) (l1 : Int32) (i : Nat), bgK h0 h → l1.toInt = ((8 * s + i : Nat) : Int) → i ≤ T.tn.length → (∀ k, 50 ≤ k → k < 63 → hi h 263 k = 0) → (∀ b, b < 25 → (¬ b < wT T * gT T → hi h 263 b = 0) ∧ (b < wT T * gT T → (lastT (T.tn.take i) (spt (wT T) b) = none → hi h 263 b = 0 ∧ hi h 263 (25 + b) = 0) ∧ ∀ p, lastT (T.tn.take i) (spt (wT T) b) = some p → (hi h 263 b).toInt = p.1 ∧ (hi h 263 (25 + b)).toInt = p.2)) → Pc (W_X12_begins n 29 h l1) (fun q => RWF T (hi q 263)) := by
  have f0 := lit_0
  have f1 := lit_1
  have f8 := lit_8
  have f25 := lit_25
  have d' := d
  obtain ⟨⟨d1, d2, d3, d4, d5⟩, d6, d7⟩ := d
  have ew : ((wT T : Nat) : Int) = T.lw.1 := by unfold wT; have := v.1; omega
  have eg : ((gT T : Nat) : Int) = T.lw.2 := by unfold gT; have := v.1; omega
  have w5 : wT T ≤ 5 := by have := v.1; omega
  have g5 : gT T ≤ 5 := by have := v.1; omega
  have w25 := wg25 w5 g5
  intro n
  induction n with
  | zero => intro h l1 i a b c e g; exact Pc.no
  | succ n ih =>
    intro h l1 i a b c e g
    have lv' : (hi h 226 18).toInt = (s : Int) := by rw [a 226 18 (by decide)]; exact lv
    have n1 := ncT (show 0 ≤ (hi h 226 18).toInt by omega)
    have n1' : Int32.toNatClampNeg (hi h 226 18) = s := by omega
    have l2 := d2.1
    have tn8 := d7.1
    rw [u_X12_begins, n1', a 237 s (by decide)]
    have m8 := mlT 8 (hi h 226 18) 8 f8 (by omega) (by omega)
    have ad := adT (8 * hi h 226 18) (hi h0 237 s) (by omega) (by omega)
    refine Pc.neg (by decide) (Pc.pos rfl (Pc.chk (fun _ => ?_)))
    refine Pc.le (fun q => ?_) (fun q => ?_)
    · have il : i = T.tn.length := by omega
      subst il
      rw [List.take_length] at g
      refine bg_121 hs lv d' v vl n h _ 0 a (by omega) (Nat.zero_le _) (fun k h1 h2 => e k (by omega) h2) (fun b hb => ?_) g
      rw [e 50 (by decide) (by decide), bt_zero]
      exact ⟨fun z => Bool.noConfusion z, fun ⟨_, p, p1, _⟩ => absurd p1 List.not_mem_nil⟩
    · have i8 : i < T.tn.length := by omega
      have nn := ncT (show 0 ≤ l1.toInt by omega)
      have nn' : Int32.toNatClampNeg l1 = 8 * s + i := by omega
      have a1 := adT l1 1 (by omega) (by omega)
      rw [nn']
      refine Pc.chk (fun _ => Pc.chk (fun _ => ?_))
      have gx := d2.2 i i8
      have m : T.tn.getD i ((0, 0), (0, 0)) ∈ T.tn := by
        rw [List.getD_eq_getElem?_getD, List.getElem?_eq_getElem i8]
        exact List.getElem_mem i8
      have ep' : T.tn.take (i + 1) = T.tn.take i ++ [T.tn.getD i ((0, 0), (0, 0))] := by
        rw [List.getD_eq_getElem?_getD, List.getElem?_eq_getElem i8]
        exact List.take_succ_eq_append_getElem i8
      have vt := v.2.1.2 _ m
      generalize ep : T.tn.getD i ((0, 0), (0, 0)) = p at gx m vt ep'
      obtain ⟨sp, bb, ob⟩ := vt
      have sp' := sp
      unfold sp5 at sp'
      have c25 : (p.1.1 + 5 * p.1.2).toNat < 25 := by omega
      have on := vl.2.1 _ c25 (lastT_some m (by omega))
      obtain ⟨o1, o2⟩ := clw_on w5 g5 c25 on
      refine Pc.bind (bg_cell lv' (by rw [a 235 s (by decide), ew]; exact d1.1) w5 (by rw [a 238 _ (by decide)]; exact gx.1) (by rw [a 239 _ (by decide)]; exact gx.2.1) sp) (fun q7 hq => ?_)
      rw [hq.1]
      have hq2 : q7.1.toInt = ((clw (wT T) (p.1.1 + 5 * p.1.2).toNat : Nat) : Int) := hq.2
      have nx := ncT (show 0 ≤ q7.1.toInt by omega)
      have nx' : Int32.toNatClampNeg q7.1 = clw (wT T) (p.1.1 + 5 * p.1.2).toNat := by omega
      rw [nx']
      refine Pc.chk (fun _ => Pc.chk (fun _ => ?_))
      generalize eg1 : wrI h 263 (clw (wT T) (p.1.1 + 5 * p.1.2).toNat) (hi h 240 (8 * s + i)) = h1
      have k1 (x k : Nat) (m : x ≠ 263) : hi h1 x k = hi h x k := hiA eg1 x k m
      refine Pc.chk (fun _ => Pc.chk (fun _ => ?_))
      refine Pc.bind (bg_cell (x := p.1.1) (y := p.1.2) (by rw [k1 226 18 (by decide)]; exact lv') (by rw [k1 235 s (by decide), a 235 s (by decide), ew]; exact d1.1) w5 (by rw [k1 238 _ (by decide), a 238 _ (by decide)]; exact gx.1) (by rw [k1 239 _ (by decide), a 239 _ (by decide)]; exact gx.2.1) sp) (fun q13 hq2 => ?_)
      rw [hq2.1]
      have ad25 := adT 25 q13.1 (by omega) (by omega)
      have ny := ncT (show 0 ≤ (25 + q13.1).toInt by omega)
      have ny' : Int32.toNatClampNeg (25 + q13.1) = 25 + clw (wT T) (p.1.1 + 5 * p.1.2).toNat := by omega
      rw [ny']
      refine Pc.chk (fun _ => Pc.chk (fun _ => ?_))
      generalize eC : clw (wT T) (p.1.1 + 5 * p.1.2).toNat = C at *
      have rb (k : Nat) (m1 : k ≠ C) (m2 : k ≠ 25 + C) (x : Int32) : hi (wrI h1 263 (25 + C) x) 263 k = hi h 263 k := by
        rw [hi_wrI, if_neg (fun z => m2 z.2), ← eg1, hi_wrI, if_neg (fun z => m1 z.2)]
      have rC (x : Int32) : hi (wrI h1 263 (25 + C) x) 263 C = hi h 240 (8 * s + i) := by
        rw [hi_wrI, if_neg (by omega), ← eg1, hi_wrI, if_pos ⟨rfl, rfl⟩]
      refine ih _ (l1 + 1) (i + 1) (fun x k m => by rw [hi_wrI, if_neg (fun z => m z.1), k1 x k m]; exact a x k m) (by omega) (by omega) (fun k h1 h2 => by rw [rb k (by omega) (by omega)]; exact e k h1 h2) (fun b hb => ?_)
      rw [ep', lastT_snoc]
      by_cases y : b = C
      · have sb : spt (wT T) b = (p.1.1 + 5 * p.1.2).toNat := by rw [y]; exact o2
        rw [if_pos (by rw [sb]; omega)]
        refine ⟨fun z => absurd (by rw [y]; exact o1) z, fun _ => ⟨fun z => absurd z (Option.some_ne_none _), fun p' hp' => ?_⟩⟩
        have e' : p.2 = p' := Option.some.inj hp'
        rw [← e', y, rC, hi_wrI, if_pos ⟨rfl, rfl⟩, k1 241 _ (by decide), a 240 _ (by decide), a 241 _ (by decide)]
        exact ⟨gx.2.2.1, gx.2.2.2⟩
      · rw [rb b y (by omega), rb (25 + b) (by omega) (by omega)]
        refine ⟨(g b hb).1, fun bl => ?_⟩
        have nb : ¬ p.1.1 + 5 * p.1.2 = ((spt (wT T) b : Nat) : Int) := by
          intro z
          have := (spt_on w5 g5 bl).2.2
          have e2 : spt (wT T) b = (p.1.1 + 5 * p.1.2).toNat := by omega
          rw [e2, eC] at this
          exact y this.symm
        rw [if_neg nb]
        exact (g b hb).2 bl
/-- the row is cleared -/
theorem bg_2 {h0 : Hp} {T : TT} {B c : Nat} (hs : s ≤ 1) (lv : (hi h0 226 18).toInt = (s : Int)) (d : rD s T B c h0) (v : VT T) (vl : VLw T) : ∀ (n : Nat) (h : Hp) (l1 : Int32) (i : Nat), bgK h0 h → l1.toInt = (i : Int) → i ≤ 63 → (∀ k, k < i → hi h 263 k = 0) → Pc (W_X12_begins n 2 h l1) (fun q => RWF T (hi q 263)) := by
  have f1 := lit_1
  have f8 := lit_8
  have f63 := lit_63
  intro n
  induction n with
  | zero => intro h l1 i a b c e; exact Pc.no
  | succ n ih =>
    intro h l1 i a b c e
    have nn := ncT (show 0 ≤ l1.toInt by omega)
    have nn' : Int32.toNatClampNeg l1 = i := by omega
    rw [u_X12_begins, nn']
    refine Pc.pos rfl ?_
    refine Pc.le (fun q => ?_) (fun q => Pc.chk (fun _ => ?_))
    · have i63 : i = 63 := by omega
      subst i63
      have lv' : (hi h 226 18).toInt = (s : Int) := by rw [a 226 18 (by decide)]; exact lv
      have m8 := mlT 8 (hi h 226 18) 8 f8 (by omega) (by omega)
      refine bg_29 hs lv d v vl n h _ 0 a (by omega) (Nat.zero_le _) (fun k _ h2 => e k h2) (fun b hb => ⟨fun _ => e b (by omega), fun _ => ⟨fun _ => ⟨e b (by omega), e (25 + b) (by omega)⟩, fun p hp => absurd hp (fun z => nsn (show (none : Option (Int × Int)) = some p from z))⟩⟩)
    · have a1 := adT l1 1 (by omega) (by omega)
      refine ih _ (l1 + 1) (i + 1) (fun x k m => by rw [hi_wrI, if_neg (fun z => m z.1)]; exact a x k m) (by omega) (by omega) (fun k hk => ?_)
      rw [hi_wrI]
      by_cases y : k = i
      · rw [if_pos ⟨rfl, y⟩]
      · rw [if_neg (fun z => y z.2)]; exact e k (by omega)
theorem bg_row {T : TT} {B c : Nat} (hs : s ≤ 1) (lv : (hi h 226 18).toInt = (s : Int)) (d : rD s T B c h) (v : VT T) (vl : VLw T) : Pc (F_X12_begins n h) (fun q => RWF T (hi q 263)) := by
  unfold F_X12_begins
  exact bg_2 hs lv d v vl n h 0 0 (fun _ _ _ => rfl) lit_0 (Nat.zero_le _) (fun k hk => absurd hk (Nat.not_lt_zero k))
end BG
