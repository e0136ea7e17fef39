/-! THE CLASS: all TOKENS of a text -/
section LX4
variable {bs : Nat → Int} {m : Nat} {h : Hp}
theorem run_in {p : Int → Prop} (p0 : ¬ p 0) (B : BS bs m) {i e : Nat} (h : p (bs i)) (r : RunE p bs i e) : i < e ∧ e ≤ m := by
  have i1 : i ≠ e := fun z => r.2.2 (by rw [← z]; exact h)
  refine ⟨by have := r.1; omega, ?_⟩
  by_cases z : e ≤ m
  · exact z
  · exfalso
    have := r.2.1 (e - 1) (by have := r.1; omega) (by omega)
    rw [B.2.1 (e - 1) (by omega)] at this
    exact p0 this
theorem lt0 : ¬ isLt 0 := by unfold isLt; omega
theorem dg0 : ¬ isDg 0 := by unfold isDg; omega
def KQ (bs : Nat → Int) (m i : Nat) (h : Hp) (x1 : Int32) (q : Int32 × Hp) : Prop := ∃ (e : Nat) (kd : Int32) (v : Int64), q.1.toInt = (e : Int) ∧ e ≤ m ∧ TkE bs i e ∧ TkC bs i e kd.toInt v.toInt ∧ KP h q.2 x1 kd v
set_option maxHeartbeats 4000000 in
theorem pc_keep {n : Nat} {x1 : Int32} {i : Nat} (B : BS bs m) (S : SC bs m h) (W : WD h) (k4 : (hi h 18 5).toInt < 401) (hx : x1.toInt = (i : Int)) (him : i < m) : Pc (F_X9_keep n h x1) (KQ bs m i h x1) := by
  have f0 := lit_0
  have f1 := lit_1
  have f4 := lit_4
  have f8 := lit_8
  have b1 := B.1
  have a1 := adT x1 1 (by omega) (by omega)
  have l33 : (33 : Int32).toInt = 33 := by decide
  have l30 := lit_30
  unfold F_X9_keep
  refine Pc.bind (pc_signAt B S) (fun q1 h1 => ?_)
  rw [h1.1]
  have v1 := h1.2 i hx
  refine Pc.bind pc_isLetter (fun q3 h3 => ?_)
  rw [h3.1]
  have v3 := h3.2
  rw [v1] at v3
  refine Pc.eq (fun c1 => ?_) (fun c1 => ?_)
  · have nl : ¬ isLt (bs i) := fun z => v3.mpr z (c1.trans f0)
    refine Pc.bind pc_isDigit (fun q6 h6 => ?_)
    rw [h6.1]
    have v6 := h6.2
    rw [v1] at v6
    refine Pc.eq (fun c2 => ?_) (fun c2 => ?_)
    · have nd : ¬ isDg (bs i) := fun z => v6.mpr z (c2.trans f0)
      refine Pc.bind pc_isSign (fun q9 h9 => ?_)
      rw [h9.1]
      have v9 := h9.2
      rw [v1] at v9
      refine Pc.eq (fun c3 => ?_) (fun c3 => ?_)
      · refine Pc.mono (show Pc (kpT h x1 (x1 + 1) 33 0) _ from pc_kpT k4) (fun q hq => ⟨i + 1, 33, 0, by rw [hq.1]; omega, by omega, Or.inr (Or.inr ⟨nl, nd, rfl⟩), Or.inr (Or.inr (Or.inr ⟨nl, nd, fun z => v9.mpr z (c3.trans f0), l33⟩)), hq.2⟩)
      · refine Pc.mono (show Pc (kpT h x1 (x1 + 1) q1.1 0) _ from pc_kpT k4) (fun q hq => ⟨i + 1, q1.1, 0, by rw [hq.1]; omega, by omega, Or.inr (Or.inr ⟨nl, nd, rfl⟩), Or.inr (Or.inr (Or.inl ⟨v9.mp (by omega), v1⟩)), hq.2⟩)
    · have yd : isDg (bs i) := v6.mp (by omega)
      refine Pc.bind (by unfold F_X9_behindDigits; exact pc_behindDigits B S n x1 i hx) (fun q20 h20 => ?_)
      obtain ⟨e20, e, ee, re, -⟩ := h20
      rw [e20]
      have ri := run_in dg0 B yd re
      refine Pc.bind (by unfold F_X9_numberOf; exact pc_numberOf B S (l1 := x1) ee (by omega) re.2.1 n 0 x1 0 (by omega) (by omega) (fun _ => f0)) (fun q22 h22 => ?_)
      rw [h22.1]
      have s1 := sbT q20.1 x1 (by omega) (by omega)
      have s2 := t64 q22.1
      refine Pc.le (fun c3 => ?_) (fun c3 => ?_)
      · refine Pc.mono (show Pc (kpT h x1 q20.1 30 q22.1.toInt64) _ from pc_kpT k4) (fun q hq => ⟨e, 30, q22.1.toInt64, by rw [hq.1]; exact ee, ri.2, Or.inr (Or.inl ⟨yd, re⟩), Or.inr (Or.inl ⟨yd, Or.inr ⟨by omega, l30, ?_⟩⟩), hq.2⟩)
        rw [s2]
        exact h22.2 (by omega)
      · refine Pc.mono (show Pc (kpT h x1 q20.1 33 q22.1.toInt64) _ from pc_kpT k4) (fun q hq => ⟨e, 33, q22.1.toInt64, by rw [hq.1]; exact ee, ri.2, Or.inr (Or.inl ⟨yd, re⟩), Or.inr (Or.inl ⟨yd, Or.inl ⟨by omega, l33⟩⟩), hq.2⟩)
  · have yl : isLt (bs i) := v3.mp (by omega)
    refine Pc.bind (by unfold F_X9_behindLetters; exact pc_behindLetters B S n x1 i hx) (fun q33 h33 => ?_)
    obtain ⟨e33, e, ee, re, -⟩ := h33
    rw [e33]
    have ri := run_in lt0 B yl re
    refine Pc.bind (by unfold F_X9_lettersOf; exact pc_lettersOf B S (l1 := x1) ee (by omega) re.2.1 n 0 x1 0 (by omega) (by omega) (fun _ => lit0L)) (fun q35 h35 => ?_)
    rw [h35.1]
    have s1 := sbT q33.1 x1 (by omega) (by omega)
    refine Pc.le (fun c3 => ?_) (fun c3 => ?_)
    · refine Pc.bind (by unfold F_X9_kindOfLetters; exact pc_kindOfLetters W n 0 0 f0 (by omega) (fun j hj => by omega)) (fun q38 h38 => ?_)
      rw [h38.1]
      have w := h35.2 (by omega)
      have kl := h38.2
      rw [w] at kl
      exact Pc.mono (show Pc (kpT h x1 q33.1 q38.1 q35.1) _ from pc_kpT k4) (fun q hq => ⟨e, q38.1, q35.1, by rw [hq.1]; exact ee, ri.2, Or.inl ⟨yl, re⟩, Or.inl ⟨yl, Or.inr ⟨by omega, kl, w⟩⟩, hq.2⟩)
    · exact Pc.mono (show Pc (kpT h x1 q33.1 33 q35.1) _ from pc_kpT k4) (fun q hq => ⟨e, 33, q35.1, by rw [hq.1]; exact ee, ri.2, Or.inl ⟨yl, re⟩, Or.inl ⟨yl, Or.inl ⟨by omega, l33⟩⟩, hq.2⟩)
theorem tk_kd {i e : Nat} {kd v : Int} (t : TkC bs i e kd v) : 0 ≤ kd ∧ kd ≤ 61 := by
  rcases t with ⟨-, ⟨-, z⟩ | ⟨-, z, -⟩⟩ | ⟨-, ⟨-, z⟩ | ⟨-, z, -⟩⟩ | ⟨s, z⟩ | ⟨-, -, -, z⟩
  · omega
  · rcases z with ⟨k, k1, k2, -⟩ | ⟨k1, -⟩ <;> omega
  · omega
  · omega
  · unfold isSg at s; omega
  · omega
/-- TOKEN t as the class keeps it -/
def enC (h : Hp) (t : Nat) (i : Nat) (kd v : Int) : Prop := (vp_nar .byte (hi h 20 t)).toInt = kd ∧ (vp_nar .short (hi h 21 t)).toInt = (i : Int) ∧ (hl h 22 t).toInt = v
/-- the first N, where each begins -/
def TabC (bs : Nat → Int) (m : Nat) (h : Hp) (N : Nat) (P : Nat → Nat) : Prop := RunE isBl bs 0 (P 0) ∧ ∀ t, t < N → P t < m ∧ ∃ e, TkE bs (P t) e ∧ RunE isBl bs e (P (t + 1)) ∧ ∃ kd v, TkC bs (P t) e kd v ∧ enC h t (P t) kd v
/-- what scanning writes -/
def frS (h h' : Hp) : Prop := (∀ a k, a ≠ 20 → a ≠ 21 → ¬ (a = 18 ∧ (k = 5 ∨ k = 6)) → hi h' a k = hi h a k) ∧ ∀ a k, a ≠ 22 → hl h' a k = hl h a k
theorem TabC.add {h' : Hp} {N : Nat} {P : Nat → Nat} (B : BS bs m) (T : TabC bs m h N P) (kN : (hi h 18 5).toInt = (N : Int)) (hm : P N < m) {x1 kd : Int32} {v : Int64} {e p : Nat} (hx : x1.toInt = (P N : Int)) (te : TkE bs (P N) e) (tc : TkC bs (P N) e kd.toInt v.toInt) (kp : KP h h' x1 kd v) (r : RunE isBl bs e p) : TabC bs m h' (N + 1) (updP P (N + 1) p) := by
  have b1 := B.1
  have nk := ncT (show 0 ≤ (hi h 18 5).toInt by omega)
  have ek : Int32.toNatClampNeg (hi h 18 5) = N := by omega
  obtain ⟨-, -, -, k4, k5, k6⟩ := kp
  rw [ek] at k4 k5 k6
  have kr := tk_kd tc
  refine ⟨by rw [updP_ne (by omega)]; exact T.1, fun t ht => ?_⟩
  by_cases z : t = N
  · subst z
    rw [updP_ne (t := t) (by omega), updP_eq]
    refine ⟨hm, e, te, r, kd.toInt, v.toInt, tc, ?_, ?_, ?_⟩
    · rw [k4 t, if_pos rfl, narB, b8 kd (by omega) (by omega), b8 kd (by omega) (by omega)]
    · rw [k5 t, if_pos rfl, narS, b16 x1 (by omega) (by omega), b16 x1 (by omega) (by omega)]
      exact hx
    · rw [k6 t, if_pos rfl]
  · obtain ⟨a1, e', a2, a3, kd', v', a4, a5, a6, a7⟩ := T.2 t (by omega)
    rw [updP_ne (t := t) (by omega), updP_ne (t := t + 1) (by omega)]
    refine ⟨a1, e', a2, a3, kd', v', a4, ?_, ?_, ?_⟩
    · rw [k4 t, if_neg z]; exact a5
    · rw [k5 t, if_neg z]; exact a6
    · rw [k6 t, if_neg z]; exact a7
/-- all TOKENS that are kept -/
def ScP (bs : Nat → Int) (m : Nat) (h0 h : Hp) : Prop := frS h0 h ∧ (hi h 18 6).toInt = (m : Int) ∧ ∃ (N : Nat) (P : Nat → Nat), (hi h 18 5).toInt = (N : Int) ∧ N ≤ 401 ∧ TabC bs m h N P ∧ (N = 401 ∨ m ≤ P N)
theorem SC.cg {h' : Hp} (S : SC bs m h) (e1 : hi h' 18 6 = hi h 18 6) (e2 : ∀ k, hi h' 1 k = hi h 1 k) : SC bs m h' := ⟨by rw [e1]; exact S.1, fun i il => by rw [e2]; exact S.2 i il⟩
theorem pc_scanL (B : BS bs m) {h0 : Hp} {l1 : Int32} : ∀ (n : Nat) (h : Hp) (l2 l3 : Int32) (N : Nat) (P : Nat → Nat), SC bs m h → WD h → frS h0 h → (hi h 18 5).toInt = (N : Int) → l3.toInt = (N : Int) → N ≤ 401 → TabC bs m h N P → l2.toInt = (P N : Int) → Pc (W_X9_scan n 30 h l1 l2 l3) (ScP bs m h0) := by
  have f4 := lit_401
  have f1 := lit_1
  intro n
  induction n with
  | zero => intro h l2 l3 N P S W fr a b c T d; exact Pc.no
  | succ n ih =>
    intro h l2 l3 N P S W fr a b c T d
    rw [u_X9_scan]
    refine Pc.pos rfl ?_
    have s1 := S.1
    refine Pc.le (fun c1 => Pc.ret ⟨fr, s1, N, P, a, c, T, Or.inl (by omega)⟩) (fun c1 => ?_)
    refine Pc.le (fun c2 => Pc.ret ⟨fr, s1, N, P, a, c, T, Or.inr (by omega)⟩) (fun c2 => ?_)
    refine Pc.bind (pc_keep B S W (by omega) d (by omega)) (fun q3 h3 => ?_)
    obtain ⟨e, kd, v, h4, h5, te, tc, kp⟩ := h3
    have kp' := kp
    obtain ⟨k1, k2, k3, -, -, -⟩ := kp'
    have S' : SC bs m q3.2 := S.cg (k1 18 6 (by decide) (by decide) (by decide)) (fun k => k1 1 k (by decide) (by decide) (by omega))
    refine Pc.bind (by unfold F_X9_behindBlanks; exact pc_behindBlanks B S' n q3.1 e h4) (fun q5 h6 => ?_)
    obtain ⟨e6, p, e7, r, -⟩ := h6
    rw [e6]
    have a1 := adT l3 1 (by omega) (by omega)
    have a2 := adT (hi h 18 5) 1 (by omega) (by omega)
    refine ih q3.2 q5.1 (l3 + 1) (N + 1) _ S' (fun k hk => by rw [k2 19 k (by decide)]; exact W k hk) ⟨fun x k n1 n2 n3 => (k1 x k n1 n2 (by omega)).trans (fr.1 x k n1 n2 n3), fun x k n1 => (k2 x k n1).trans (fr.2 x k n1)⟩ (by rw [k3]; omega) (by omega) (by omega) (T.add B a (by omega) d te tc kp r) ?_
    rw [updP_eq]
    exact e7
theorem pc_scan (B : BS bs m) {n : Nat} {x1 : Int32} (hx : x1.toInt = (m : Int)) (W : WD h) (hb : ∀ i, i < m → ((vp_nar .byte (hi h 1 i) : Int32) &&& 255).toInt = bs i) : Pc (F_X9_scan n h x1) (ScP bs m h) := by
  have f2 := lit_2000
  have f0 := lit_0
  have b1 := B.1
  unfold F_X9_scan
  have e1 : (if (2000 : Int32) < x1 then (2000 : Int32) else x1) = x1 := by
    rw [if_neg (fun z => by have := Int32.lt_iff_toInt_lt.mp z; omega)]
  rw [e1]
  have e2 : (if (0 : Int32) < x1 then x1 else (0 : Int32)).toInt = (m : Int) := by
    by_cases z : (0 : Int32) < x1
    · rw [if_pos z]; exact hx
    · rw [if_neg z]
      have : ¬ (0 : Int32).toInt < x1.toInt := fun y => z (Int32.lt_iff_toInt_lt.mpr y)
      omega
  generalize (if (0 : Int32) < x1 then x1 else (0 : Int32)) = y at e2
  generalize eg : wrI (wrI h 18 6 y) 18 5 0 = g
  have g6 : hi g 18 6 = y := by rw [← eg, hi_wrI, if_neg (by decide), hi_wrI, if_pos ⟨rfl, rfl⟩]
  have g5 : hi g 18 5 = 0 := by rw [← eg, hi_wrI, if_pos ⟨rfl, rfl⟩]
  have fr : frS h g := by
    refine ⟨fun a k n1 n2 n3 => ?_, fun a k _ => ?_⟩
    · rw [← eg, hi_wrI, if_neg (by omega), hi_wrI, if_neg (by omega)]
    · rw [← eg]; rfl
  have S : SC bs m g := ⟨by rw [g6]; exact e2, fun i il => by rw [fr.1 1 i (by decide) (by decide) (by omega)]; exact hb i il⟩
  refine Pc.bind (by unfold F_X9_behindBlanks; exact pc_behindBlanks B S n 0 0 f0) (fun q7 h7 => ?_)
  obtain ⟨e7, p, e8, r, -⟩ := h7
  rw [e7]
  exact pc_scanL B n g q7.1 0 0 (fun _ => p) S (fun k hk => by rw [fr.2 19 k (by decide)]; exact W k hk) fr (by rw [g5]; exact f0) f0 (by omega) ⟨r, fun t ht => by omega⟩ e8
end LX4
