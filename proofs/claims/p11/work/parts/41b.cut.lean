/-! THE REFERENCE: all TOKENS of a text -/
def enR (h : Hp) (t i : Nat) (kd v nm : Int) : Prop := (hi h 229 t).toInt = kd ∧ (hi h 230 t).toInt = (i : Int) ∧ (hi h 231 t).toInt = v ∧ (hl h 232 t).toInt = nm
def TabR (bs : Nat → Int) (m : Nat) (h : Hp) (N : Nat) (P : Nat → Nat) (E : Nat) : Prop := (N = 0 → E = 0) ∧ (0 < N → RunE isBl bs 0 (P 0)) ∧ ∀ t, t < N → P t < m ∧ ∃ e, TkE bs (P t) e ∧ (t + 1 = N → E = e) ∧ (t + 1 < N → RunE isBl bs e (P (t + 1))) ∧ ∃ kd v nm, TkR bs (P t) e kd v nm ∧ enR h t (P t) kd v nm
def frR (h h' : Hp) : Prop := (∀ a k, a ≠ 229 → a ≠ 230 → a ≠ 231 → ¬ (a = 226 ∧ k = 10) → hi h' a k = hi h a k) ∧ ∀ a k, a ≠ 232 → hl h' a k = hl h a k
def CtP (bs : Nat → Int) (m : Nat) (h0 h : Hp) : Prop := frR h0 h ∧ ∃ (N : Nat) (P : Nat → Nat) (E : Nat), N ≤ 401 ∧ TabR bs m h N P E ∧ (N = 401 ∨ (N ≤ 400 ∧ (hi h 229 N).toInt = 0 ∧ (hi h 230 N).toInt = (m : Int) ∧ RunE isBl bs E m))
section RY
variable {bs : Nat → Int} {m : Nat} {h0 : Hp}
def I0 (bs : Nat → Int) (m : Nat) (h0 h : Hp) (N : Nat) (P : Nat → Nat) (E p : Nat) : Prop := SR bs m h ∧ KY h ∧ frR h0 h ∧ (hi h 226 10).toInt = (N : Int) ∧ TabR bs m h N P E ∧ E ≤ p ∧ ∀ j, E ≤ j → j < p → isBl (bs j)
theorem enR.cg {h h' : Hp} {t i : Nat} {kd v nm : Int} {x1 x2 x3 : Int32} {x4 : Int64} (k : KR h h' x1 x2 x3 x4) (n : t ≠ Int32.toNatClampNeg (hi h 226 10)) (e : enR h t i kd v nm) : enR h' t i kd v nm := by
  obtain ⟨-, -, -, k1, k2, k3, k4⟩ := k
  unfold enR
  rw [k1, if_neg n, k2, if_neg n, k3, if_neg n, k4, if_neg n]
  exact e
theorem I0.add {h h' : Hp} {N : Nat} {P : Nat → Nat} {E p e : Nat} (I : I0 bs m h0 h N P E p) (hp : p < m) (nb : ¬ isBl (bs p)) {x1 x2 x3 : Int32} {x4 : Int64} (te : TkE bs p e) (tr : TkR bs p e x1.toInt x3.toInt x4.toInt) (hx : x2.toInt = (p : Int)) (k : KR h h' x1 x2 x3 x4) (n4 : N ≤ 400) : I0 bs m h0 h' (N + 1) (updP P N p) e e := by
  obtain ⟨S, Y, fr, kN, T, ep, bl⟩ := I
  have nk := ncT (show 0 ≤ (hi h 226 10).toInt by omega)
  have ek : Int32.toNatClampNeg (hi h 226 10) = N := by omega
  have a1 := adT (hi h 226 10) 1 (by have := lit_1; omega) (by have := lit_1; omega)
  have f1 := lit_1
  have kk := k
  obtain ⟨k1, k2, k3, k4, k5, k6, k7⟩ := kk
  have rp : RunE isBl bs E p := ⟨ep, bl, nb⟩
  refine ⟨⟨by rw [k1 226 4 (by decide) (by decide) (by decide) (by decide)]; exact S.1, fun i il => by rw [k1 228 i (by decide) (by decide) (by decide) (by omega)]; exact S.2 i il⟩, fun j hj => by rw [k2 233 j (by decide)]; exact Y j hj, ⟨fun a z n1 n2 n3 n5 => (k1 a z n1 n2 n3 n5).trans (fr.1 a z n1 n2 n3 n5), fun a z n1 => (k2 a z n1).trans (fr.2 a z n1)⟩, by rw [k3]; omega, ⟨fun z => by omega, fun _ => ?_, fun t ht => ?_⟩, Nat.le_refl e, fun j a b => by omega⟩
  · by_cases z : N = 0
    · subst z
      rw [updP_eq]
      rw [T.1 rfl] at rp
      exact rp
    · rw [updP_ne (by omega)]
      exact T.2.1 (by omega)
  · by_cases z : t = N
    · subst z
      rw [updP_eq]
      refine ⟨hp, e, te, fun _ => rfl, fun y => by omega, x1.toInt, x3.toInt, x4.toInt, tr, ?_⟩
      unfold enR
      rw [k4, if_pos ek.symm, k5, if_pos ek.symm, k6, if_pos ek.symm, k7, if_pos ek.symm]
      exact ⟨rfl, hx, rfl, rfl⟩
    · rw [updP_ne z]
      obtain ⟨b1, e', b2, b3, b4, kd, v, nm, b5, b6⟩ := T.2.2 t (by omega)
      refine ⟨b1, e', b2, fun y => by omega, fun y => ?_, kd, v, nm, b5, b6.cg k (by omega)⟩
      by_cases w : t + 1 = N
      · rw [w, updP_eq, ← b3 w]
        exact rp
      · rw [updP_ne w]
        exact b4 (by omega)
theorem bl_no {c : Int} (h1 : isLt c ∨ isDg c) : ¬ isBl c := by unfold isLt isDg at h1; unfold isBl; omega
theorem lt_dg {c : Int} (h1 : isLt c) : ¬ isDg c := by unfold isLt at h1; unfold isDg; omega
theorem wn_ap {bs : Nat → Int} {p k : Nat} {x : Int64} {c : Int32} (k8 : k < 8) (hl : ∀ j, p ≤ j → j < p + k → isLt (bs j)) (hx : x.toInt = wnR 27 96 bs p k) (hc : c.toInt = bs (p + k)) (lc : isLt (bs (p + k))) {n : Nat} {h : Hp} : Pc (F_X12_appends n h x c) (fun q => q.2 = h ∧ q.1.toInt = wnR 27 96 bs p (k + 1)) := by
  have f0 := lit_0
  have f1 := lit_1
  have f97 := lit_97
  unfold isLt at lc
  have wb := wn_27 (bs := bs) (i := p) (k := k) (by omega) hl
  have s1 := sbT c 97 (by omega) (by omega)
  have s2 := adT (c - 97) 1 (by omega) (by omega)
  have s3 := t64 ((c - 97) + 1)
  have s4 := mlL' 27 x 27 lit27L (by omega) (by omega)
  have s5 := adL (27 * x) ((c - 97) + 1).toInt64 (by omega) (by omega)
  unfold F_X12_appends
  refine Pc.eq (fun c1 => by exfalso; omega) (fun c1 => Pc.ret ⟨rfl, ?_⟩)
  show (27 * x + ((c - 97) + 1).toInt64).toInt = 27 * wnR 27 96 bs p k + (bs (p + k) - 96)
  omega
set_option maxHeartbeats 4000000 in
theorem pr_cutL (B : BS bs m) : ∀ n : Nat,
    (∀ (h : Hp) (l1 : Int32) (N : Nat) (P : Nat → Nat) (E p : Nat), I0 bs m h0 h N P E p → N ≤ 401 → p ≤ m → l1.toInt = (p : Int) → Pc (W_X12_cut n 7 h l1 0 0 0 0 0 0) (CtP bs m h0)) ∧
    (∀ (h : Hp) (l1 l2 l3 : Int32) (l4 : Int64) (N : Nat) (P : Nat → Nat) (E p k : Nat), I0 bs m h0 h N P E p → N ≤ 400 → p < m → l1.toInt = (p : Int) → l3.toInt = (k : Int) → p + k ≤ m → isLt (bs p) → (∀ j, p ≤ j → j < p + k → isLt (bs j)) → (k ≤ 8 → l4.toInt = wnR 27 96 bs p k) → Pc (W_X12_cut n 85 h l1 l2 l3 0 l4 0 0) (CtP bs m h0)) ∧
    (∀ (h : Hp) (l1 l2 l3 l6 l7 : Int32) (l4 : Int64) (N : Nat) (P : Nat → Nat) (E p k j : Nat), I0 bs m h0 h N P E p → N ≤ 400 → p < m → l1.toInt = (p : Int) → l3.toInt = (k : Int) → k ≤ 8 → p + k ≤ m → isLt (bs p) → RunE isLt bs p (p + k) → l4.toInt = wnR 27 96 bs p k → l7.toInt = (j : Int) → j ≤ 22 → ((∃ z : Nat, z < 22 ∧ l6.toInt = 20 + (z : Int) ∧ l4.toInt = kyN z) ∨ (l6.toInt = 1 ∧ ∀ z, z < j → l4.toInt ≠ kyN z)) → Pc (W_X12_cut n 146 h l1 l2 l3 0 l4 l6 l7) (CtP bs m h0)) ∧
    (∀ (h : Hp) (l1 l2 l3 l4 : Int32) (N : Nat) (P : Nat → Nat) (E p k : Nat), I0 bs m h0 h N P E p → N ≤ 400 → p < m → l1.toInt = (p : Int) → l3.toInt = (k : Int) → p + k ≤ m → isDg (bs p) → (∀ j, p ≤ j → j < p + k → isDg (bs j)) → (k ≤ 4 → l4.toInt = wnR 10 48 bs p k) → (4 ≤ k → l4.toInt = wnR 10 48 bs p 4) → Pc (W_X12_cut n 208 h l1 l2 l3 l4 0 0 0) (CtP bs m h0)) := by
  have f0 := lit_0
  have f1 := lit_1
  have f2 := lit_2
  have f3 := lit_3
  have f4 := lit_4
  have f8 := lit_8
  have f9 := lit_9
  have f10 := lit_10
  have f13 := lit_13
  have f20 := lit_20
  have f22 := lit_22
  have f32 := lit_32
  have f48 := lit_48
  have f400 := lit_400
  have b1 := B.1
  intro n
  induction n with
  | zero => exact ⟨fun _ _ _ _ _ _ _ _ _ _ => Pc.no, fun _ _ _ _ _ _ _ _ _ _ _ _ _ _ _ _ _ _ _ => Pc.no, fun _ _ _ _ _ _ _ _ _ _ _ _ _ _ _ _ _ _ _ _ _ _ _ _ _ _ => Pc.no, fun _ _ _ _ _ _ _ _ _ _ _ _ _ _ _ _ _ _ _ _ => Pc.no⟩
  | succ n ih =>
    obtain ⟨ih7, ih85, ih146, ih208⟩ := ih
    refine ⟨fun h l1 N P E p I n4 pm e1 => ?_, fun h l1 l2 l3 l4 N P E p k I n4 pm e1 e3 pk lp lk w => ?_, fun h l1 l2 l3 l6 l7 l4 N P E p k j I n4 pm e1 e3 k8 pk lp rk w e7 j22 ky => ?_, fun h l1 l2 l3 l4 N P E p k I n4 pm e1 e3 pk lp lk w w4 => ?_⟩
    · have I' := I
      obtain ⟨S, Y, fr, kN, T, ep, bl⟩ := I'
      rw [u_X12_cut]
      refine Pc.pos rfl ?_
      refine Pc.lt (fun c1 => Pc.ret ⟨fr, N, P, E, n4, T, Or.inl (by omega)⟩) (fun c1 => ?_)
      refine Pc.bind (pc_byteAt B S) (fun q2 h2 => ?_)
      rw [h2.1]
      have v2 := h2.2 p e1
      have s1 := S.1
      have a1 := adT l1 1 (by omega) (by omega)
      refine Pc.lt (fun c2 => ?_) (fun c2 => ?_)
      · have sk (hb : isBl (bs p)) : Pc (W_X12_cut n 7 h (l1 + 1) 0 0 0 0 0 0) (CtP bs m h0) := by
          refine ih7 h (l1 + 1) N P E (p + 1) ⟨S, Y, fr, kN, T, by omega, fun j x y => ?_⟩ n4 (by omega) (by omega)
          by_cases z : j = p
          · rw [z]; exact hb
          · exact bl j x (by omega)
        refine Pc.eq (fun c3 => sk (by unfold isBl; omega)) (fun c3 => ?_)
        refine Pc.eq (fun c4 => sk (by unfold isBl; omega)) (fun c4 => ?_)
        refine Pc.eq (fun c5 => sk (by unfold isBl; omega)) (fun c5 => ?_)
        refine Pc.eq (fun c6 => sk (by unfold isBl; omega)) (fun c6 => ?_)
        have nb : ¬ isBl (bs p) := by unfold isBl; omega
        refine Pc.bind pr_isLetter (fun q9 h9 => ?_)
        rw [h9.1]
        have v9 := h9.2
        rw [v2] at v9
        refine Pc.eq (fun c7 => ?_) (fun c7 => ?_)
        · have nl : ¬ isLt (bs p) := fun z => v9.mpr z (c7.trans f0)
          refine Pc.bind pr_isDigit (fun q12 h12 => ?_)
          rw [h12.1]
          have v12 := h12.2
          rw [v2] at v12
          refine Pc.eq (fun c8 => ?_) (fun c8 => ?_)
          · have nd : ¬ isDg (bs p) := fun z => v12.mpr z (c8.trans f0)
            refine Pc.bind (pc_byteAt B S) (fun q15 h15 => ?_)
            rw [h15.1]
            refine Pc.bind pr_sign (fun q17 h17 => ?_)
            obtain ⟨r1, kd, r2, kr⟩ := h17
            rw [v2] at r2
            have a2 := adT l1 q17.1 (by omega) (by omega)
            exact ih7 q17.2 (l1 + q17.1) (N + 1) _ (p + 1) (p + 1) (I.add (by omega) nb (Or.inr (Or.inr ⟨nl, nd, rfl⟩)) (Or.inr (Or.inr ⟨nl, nd, r2⟩)) e1 kr (by omega)) (by omega) (by omega) (by omega)
          · exact ih208 h l1 q2.1 0 0 N P E p 0 I (by omega) (by omega) e1 f0 (by omega) (v12.mp (by omega)) (fun j x y => by omega) (fun _ => f0) (fun z => by omega)
        · exact ih85 h l1 q2.1 0 0 N P E p 0 I (by omega) (by omega) e1 f0 (by omega) (v9.mp (by omega)) (fun j x y => by omega) (fun _ => lit0L)
      · have pm' : p = m := by omega
        refine Pc.bind pr_token (fun q19 kr => Pc.ret ?_)
        have nk := ncT (show 0 ≤ (hi h 226 10).toInt by omega)
        have ek : Int32.toNatClampNeg (hi h 226 10) = N := by omega
        have kr' := kr
        obtain ⟨k1, k2, k3, k4, k5, k6, k7⟩ := kr'
        refine ⟨⟨fun a z n1 n2 n3 n5 => (k1 a z n1 n2 n3 n5).trans (fr.1 a z n1 n2 n3 n5), fun a z n1 => (k2 a z n1).trans (fr.2 a z n1)⟩, N, P, E, n4, ⟨T.1, T.2.1, fun t ht => ?_⟩, Or.inr ⟨by omega, ?_, ?_, ?_⟩⟩
        · obtain ⟨d1, e', d2, d3, d4, kd, v, nm, d5, d6⟩ := T.2.2 t ht
          exact ⟨d1, e', d2, d3, d4, kd, v, nm, d5, d6.cg kr (by omega)⟩
        · rw [k4, if_pos ek.symm]; exact f0
        · rw [k5, if_pos ek.symm]; exact s1
        · rw [← pm']
          refine ⟨ep, bl, ?_⟩
          rw [B.2.1 p (by omega)]
          unfold isBl
          omega
    · have I' := I
      obtain ⟨S, Y, fr, kN, T, ep, bl⟩ := I'
      have a13 := adT l1 l3 (by omega) (by omega)
      have a31 := adT l3 1 (by omega) (by omega)
      have nb := bl_no (Or.inl lp)
      rw [u_X12_cut]
      refine Pc.neg (by decide) (Pc.pos rfl ?_)
      refine Pc.bind (pc_byteAt B S) (fun q21 h21 => ?_)
      rw [h21.1]
      have v21 := h21.2 (p + k) (by omega)
      refine Pc.bind pr_isLetter (fun q23 h23 => ?_)
      rw [h23.1]
      have v23 := h23.2
      rw [v21] at v23
      refine Pc.eq (fun c1 => ?_) (fun c1 => ?_)
      · have nl : ¬ isLt (bs (p + k)) := fun z => v23.mpr z (c1.trans f0)
        have rk : RunE isLt bs p (p + k) := ⟨by omega, lk, nl⟩
        refine Pc.le (fun c2 => ?_) (fun c2 => ?_)
        · refine Pc.lt (fun c3 => by exfalso; omega) (fun c3 => ?_)
          exact ih146 h l1 l2 l3 1 0 l4 N P E p k 0 I n4 pm e1 e3 (by omega) pk lp rk (w (by omega)) f0 (by omega) (Or.inr ⟨f1, fun z hz => by omega⟩)
        · refine Pc.lt (fun c3 => ?_) (fun c3 => by exfalso; omega)
          refine Pc.bind pr_token (fun q31 kr => ?_)
          exact ih7 q31 (l1 + l3) (N + 1) _ (p + k) (p + k) (I.add pm nb (Or.inl ⟨lp, rk⟩) (Or.inl ⟨lp, Or.inl ⟨by omega, f3⟩⟩) e1 kr n4) (by omega) (by omega) (by omega)
      · have yl : isLt (bs (p + k)) := v23.mp (by omega)
        have km : p + k < m := by
          by_cases z : p + k < m
          · exact z
          · exfalso
            rw [B.2.1 (p + k) (by omega)] at yl
            exact lt0 yl
        have lk' (j : Nat) (x : p ≤ j) (y : j < p + (k + 1)) : isLt (bs j) := by
          by_cases z : j = p + k
          · rw [z]; exact yl
          · exact lk j x (by omega)
        refine Pc.le (fun c2 => ?_) (fun c2 => ?_)
        · exact ih85 h l1 l2 (l3 + 1) l4 N P E p (k + 1) I n4 pm e1 (by omega) (by omega) lp lk' (fun z => by omega)
        · refine Pc.bind (pc_byteAt B S) (fun q34 h34 => ?_)
          rw [h34.1]
          refine Pc.bind (wn_ap (by omega) lk (w (by omega)) (h34.2 (p + k) (by omega)) yl) (fun q36 h36 => ?_)
          rw [h36.1]
          exact ih85 h l1 l2 (l3 + 1) q36.1 N P E p (k + 1) I n4 pm e1 (by omega) (by omega) lp lk' (fun _ => h36.2)
    · have I' := I
      obtain ⟨S, Y, fr, kN, T, ep, bl⟩ := I'
      have a13 := adT l1 l3 (by omega) (by omega)
      have a71 := adT l7 1 (by omega) (by omega)
      have a20 := adT 20 l7 (by omega) (by omega)
      have nb := bl_no (Or.inl lp)
      rw [u_X12_cut]
      refine Pc.neg (by decide) (Pc.neg (by decide) (Pc.pos rfl ?_))
      refine Pc.le (fun c1 => ?_) (fun c1 => ?_)
      · refine Pc.bind pr_token (fun q39 kr => ?_)
        have rl : RLk (wnR 27 96 bs p (p + k - p)) l6.toInt := by
          rw [show p + k - p = k by omega, ← w]
          rcases ky with ⟨z, z1, z2, z3⟩ | ⟨z1, z2⟩
          · exact Or.inl ⟨z, z1, z2, z3⟩
          · exact Or.inr ⟨z1, fun y hy => z2 y (by omega)⟩
        exact ih7 q39 (l1 + l3) (N + 1) _ (p + k) (p + k) (I.add pm nb (Or.inl ⟨lp, rk⟩) (Or.inl ⟨lp, Or.inr ⟨by omega, rl, by rw [show p + k - p = k by omega]; exact w⟩⟩) e1 kr n4) (by omega) (by omega) (by omega)
      · refine Pc.chk (fun c2 => ?_)
        have n1 := ncT (show 0 ≤ l7.toInt by omega)
        have n2 : Int32.toNatClampNeg l7 = j := by omega
        rw [n2]
        have lz := lgz (hl h 233 j) l4
        rw [Y j (by omega)] at lz
        refine Pc.eq (fun c3 => ?_) (fun c3 => ?_)
        · exact ih146 h l1 l2 l3 (20 + l7) (l7 + 1) l4 N P E p k (j + 1) I n4 pm e1 e3 k8 pk lp rk w (by omega) (by omega) (Or.inl ⟨j, by omega, by omega, (lz.mp (c3.trans f0)).symm⟩)
        · refine ih146 h l1 l2 l3 l6 (l7 + 1) l4 N P E p k (j + 1) I n4 pm e1 e3 k8 pk lp rk w (by omega) (by omega) ?_
          rcases ky with y | ⟨z1, z2⟩
          · exact Or.inl y
          · refine Or.inr ⟨z1, fun y hy => ?_⟩
            by_cases x : y = j
            · rw [x]
              exact fun u => c3 ((lz.mpr u.symm).trans f0.symm)
            · exact z2 y (by omega)
    · have I' := I
      obtain ⟨S, Y, fr, kN, T, ep, bl⟩ := I'
      have a13 := adT l1 l3 (by omega) (by omega)
      have a31 := adT l3 1 (by omega) (by omega)
      have nb := bl_no (Or.inr lp)
      rw [u_X12_cut]
      refine Pc.neg (by decide) (Pc.neg (by decide) (Pc.neg (by decide) (Pc.pos rfl ?_)))
      refine Pc.bind (pc_byteAt B S) (fun q43 h43 => ?_)
      rw [h43.1]
      have v43 := h43.2 (p + k) (by omega)
      refine Pc.bind pr_isDigit (fun q45 h45 => ?_)
      rw [h45.1]
      have v45 := h45.2
      rw [v43] at v45
      refine Pc.eq (fun c1 => ?_) (fun c1 => ?_)
      · have nl : ¬ isDg (bs (p + k)) := fun z => v45.mpr z (c1.trans f0)
        have rk : RunE isDg bs p (p + k) := ⟨by omega, lk, nl⟩
        refine Pc.le (fun c2 => ?_) (fun c2 => ?_)
        · refine Pc.bind pr_token (fun q49 kr => ?_)
          exact ih7 q49 (l1 + l3) (N + 1) _ (p + k) (p + k) (I.add pm nb (Or.inr (Or.inl ⟨lp, rk⟩)) (Or.inr (Or.inl ⟨lp, Or.inr ⟨by omega, f2, by rw [show p + k - p = k by omega]; exact w (by omega)⟩⟩)) e1 kr n4) (by omega) (by omega) (by omega)
        · refine Pc.bind pr_token (fun q51 kr => ?_)
          exact ih7 q51 (l1 + l3) (N + 1) _ (p + k) (p + k) (I.add pm nb (Or.inr (Or.inl ⟨lp, rk⟩)) (Or.inr (Or.inl ⟨lp, Or.inl ⟨by omega, f3⟩⟩)) e1 kr n4) (by omega) (by omega) (by omega)
      · have yl : isDg (bs (p + k)) := v45.mp (by omega)
        have km : p + k < m := by
          by_cases z : p + k < m
          · exact z
          · exfalso
            rw [B.2.1 (p + k) (by omega)] at yl
            exact dg0 yl
        have lk' (j : Nat) (x : p ≤ j) (y : j < p + (k + 1)) : isDg (bs j) := by
          by_cases z : j = p + k
          · rw [z]; exact yl
          · exact lk j x (by omega)
        refine Pc.le (fun c2 => ?_) (fun c2 => ?_)
        · exact ih208 h l1 l2 (l3 + 1) l4 N P E p (k + 1) I n4 pm e1 (by omega) (by omega) lp lk' (fun z => by omega) (fun _ => w4 (by omega))
        · refine Pc.bind (pc_byteAt B S) (fun q54 h54 => ?_)
          rw [h54.1]
          have v54 := h54.2 (p + k) (by omega)
          have w' := w (by omega)
          have wb := wn_10 (bs := bs) (i := p) (k := k) (by omega) lk
          have dd := yl
          unfold isDg at dd
          have s1 := mlT 10 l4 10 lit_10 (by omega) (by omega)
          have s2 := adT (10 * l4) q54.1 (by omega) (by omega)
          have s3 := sbT (10 * l4 + q54.1) 48 (by omega) (by omega)
          have wn : (10 * l4 + q54.1 - 48).toInt = wnR 10 48 bs p (k + 1) := by
            show _ = 10 * wnR 10 48 bs p k + (bs (p + k) - 48)
            omega
          exact ih208 h l1 l2 (l3 + 1) _ N P E p (k + 1) I n4 pm e1 (by omega) (by omega) lp lk' (fun _ => wn) (fun z => by rw [wn, show k + 1 = 4 by omega])
theorem pr_cut (B : BS bs m) {n : Nat} {h : Hp} (S : SR bs m h) (Y : KY h) : Pc (F_X12_cut n h) (CtP bs m h) := by
  have f0 := lit_0
  unfold F_X12_cut
  generalize eg : wrI h 226 10 0 = g
  have fr : frR h g := ⟨fun a k n1 n2 n3 n4 => by rw [← eg, hi_wrI, if_neg n4], fun a k _ => by rw [← eg]; rfl⟩
  have g10 : hi g 226 10 = 0 := hiE eg
  refine (pr_cutL (h0 := h) B n).1 g 0 0 (fun _ => 0) 0 0 ⟨⟨by rw [fr.1 226 4 (by decide) (by decide) (by decide) (by decide)]; exact S.1, fun i il => by rw [fr.1 228 i (by decide) (by decide) (by decide) (by omega)]; exact S.2 i il⟩, fun k hk => by rw [fr.2 233 k (by decide)]; exact Y k hk, fr, by rw [g10]; exact f0, ⟨fun _ => rfl, fun z => by omega, fun t ht => by omega⟩, Nat.le_refl 0, fun j x y => by omega⟩ (by omega) (by omega) f0
end RY
