/-! READING, both: TOKENS as both keep them -/
section TD
variable {bs : Nat → Int} {m N : Nat} {hc hr : Hp}
theorem TkE.lt {i e : Nat} (a : TkE bs i e) : i < e := by
  rcases a with ⟨a1, a2, -, a3⟩ | ⟨a1, a2, -, a3⟩ | ⟨-, -, a3⟩
  · by_cases z : i = e
    · rw [z] at a1; exact absurd a1 a3
    · omega
  · by_cases z : i = e
    · rw [z] at a1; exact absurd a1 a3
    · omega
  · omega
theorem RN.lt {P : Nat → Nat} (a : RN bs N P) : ∀ d t, t + d + 1 ≤ N → P t < P (t + d + 1) := by
  have st (t : Nat) (ht : t < N) : P t < P (t + 1) := by
    obtain ⟨e, e1, e2⟩ := a.2 t ht
    have := e1.lt
    have := e2.1
    omega
  intro d
  induction d with
  | zero => intro t h; exact st t (by omega)
  | succ d ih =>
    intro t h
    have h1 := ih t (by omega)
    have h2 := st (t + d + 1) (by omega)
    have e : t + (d + 1) + 1 = t + d + 1 + 1 := by omega
    rw [e]
    omega
/-- TOKENS of both, as numbers -/
theorem tq_all (q : TQ bs m hc hr N) : ∃ kd pl vl nm, TX N kd pl vl ∧ CT N kd pl vl hc ∧ RT N kd pl vl hr ∧ NM N nm hr ∧ TN N kd vl nm ∧ pl N = (m : Int) := by
  obtain ⟨q1, q2, q3, q4, P, q5, q6⟩ := q
  let kd : Nat → Int := fun t => if t < N then (vp_nar .byte (hi hc 20 t)).toInt else 32
  let pl : Nat → Int := fun t => if t < N then (vp_nar .short (hi hc 21 t)).toInt else (m : Int)
  let vl : Nat → Int := fun t => (hl hc 22 t).toInt
  let nm : Nat → Int := fun t => (hl hr 232 t).toInt
  have kN : kd N = 32 := if_neg (Nat.lt_irrefl N)
  have pN : pl N = (m : Int) := if_neg (Nat.lt_irrefl N)
  have kt (t : Nat) (h : t < N) : kd t = (vp_nar .byte (hi hc 20 t)).toInt := if_pos h
  have pt (t : Nat) (h : t < N) : pl t = (vp_nar .short (hi hc 21 t)).toInt := if_pos h
  have key (t : Nat) (h : t < N) : P t < m ∧ ∃ e v' , TkE bs (P t) e ∧ pl t = (P t : Int) ∧ ((hi hr 229 t).toInt = rk (kd t) ∧ (hi hr 230 t).toInt = (P t : Int) ∧ (hi hr 231 t).toInt = v') ∧ TkB bs (P t) e (kd t) (vl t) (rk (kd t)) v' (nm t) := by
    obtain ⟨a1, e, k, v, v', n', b1, ⟨b2, b3, b4⟩, ⟨b5, b6, b7, b8⟩, b9⟩ := q6 t h
    have ek : kd t = k := (kt t h).trans b2
    have en : nm t = n' := b8
    have ev : vl t = v := b4
    refine ⟨a1, e, v', b1, (pt t h).trans b3, ⟨by rw [ek]; exact b5, b6, b7⟩, ?_⟩
    rw [ek, en, ev]
    exact b9
  refine ⟨kd, pl, vl, nm, ⟨fun t h => ?_, kN, fun t h z => ?_, fun t t' h h' => ?_⟩, ⟨q2, by rw [q3, pN], fun t h => ⟨(kt t h).symm, (pt t h).symm, rfl⟩⟩, fun t h => ?_, fun t _ => rfl, fun t t' h h' z z' => ?_, pN⟩
  · obtain ⟨-, e, v', -, -, -, b⟩ := key t h
    exact ⟨b.2.1, b.2.2.1⟩
  · obtain ⟨-, e, v', -, -, -, b⟩ := key t h
    exact (b.2.2.2.1 z).2
  · obtain ⟨a1, e, v', -, b1, -, -⟩ := key t (by omega)
    by_cases w : t' = N
    · rw [w, pN, b1]; omega
    · obtain ⟨-, -, -, -, b2, -, -⟩ := key t' (by omega)
      rw [b1, b2]
      have := q5.lt (t' - t - 1) t (by omega)
      have e : t + (t' - t - 1) + 1 = t' := by omega
      rw [e] at this
      omega
  · by_cases w : t < N
    · obtain ⟨-, e, v', -, b1, ⟨c1, c2, c3⟩, b⟩ := key t w
      refine ⟨c1, by rw [c2, b1], fun z => ?_⟩
      rw [c3, (b.2.2.2.1 z).1]
    · have : t = N := by unfold tI2 at h; omega
      subst this
      obtain ⟨c1, c2⟩ := q4 h.2
      refine ⟨by rw [c1, kN]; decide, by rw [c2, pN], fun z => ?_⟩
      rw [kN] at z
      exact absurd z (by decide)
  · obtain ⟨-, e, v', -, -, -, b⟩ := key t h
    obtain ⟨-, e', w', -, -, -, b'⟩ := key t' h'
    obtain ⟨-, x1, x2, x3⟩ := b.2.2.2.2 z
    obtain ⟨-, y1, y2, y3⟩ := b'.2.2.2.2 z'
    rw [x2, x3, y2, y3]
    exact ⟨wn_inj (by decide) _ _ x1 y1, wn_inj (by decide) _ _ x1 y1⟩
end TD
/-! READING, both: how the class begins -/
section CB
variable {h : Hp} {n : Nat}
/-- cells that stay -/
def frA (A : Nat → Prop) (h q : Hp) : Prop := (∀ a k, ¬ A a → hi q a k = hi h a k) ∧ ∀ a k, hl q a k = hl h a k
theorem frA.rf {A : Nat → Prop} (h : Hp) : frA A h h := ⟨fun _ _ _ => rfl, fun _ _ => rfl⟩
theorem frA.tr {A : Nat → Prop} {h0 h1 h2 : Hp} (a : frA A h0 h1) (b : frA A h1 h2) : frA A h0 h2 := ⟨fun x k n => (b.1 x k n).trans (a.1 x k n), fun x k => (b.2 x k).trans (a.2 x k)⟩
theorem frA.w {A : Nat → Prop} {h q : Hp} (f : frA A h q) {a k : Nat} {v : Int32} (n : A a) : frA A h (wrI q a k v) := ⟨fun x y m => by rw [hi_wrI, if_neg (fun z : x = a ∧ y = k => m (by rw [z.1]; exact n))]; exact f.1 x y m, fun x y => f.2 x y⟩
theorem frA.sub {A B : Nat → Prop} {h q : Hp} (f : frA A h q) (s : ∀ a, A a → B a) : frA B h q := ⟨fun x k n => f.1 x k (fun z => n (s x z)), f.2⟩
theorem pc_fill25 {b : Nat} {x : Int32} : ∀ (n : Nat) (h : Hp) (l2 l3 : Int32) (i : Nat), l2.toInt = (i : Int) → l3.toInt = 25 → i ≤ 25 → (∀ k, k < i → hi h b k = x) → Pc (W_J7_fill_25 n 5 h b x l2 l3) (fun q => frA (fun a => a = b) h q ∧ ∀ k, k < 25 → hi q b k = x) := by
  intro n
  induction n with
  | zero => intro h l2 l3 i a b' c d; exact Pc.no
  | succ n ih =>
    intro h l2 l3 i e e3 e5 z
    have n1 := ncT (show 0 ≤ l2.toInt by omega)
    have n2 : Int32.toNatClampNeg l2 = i := by omega
    have f1 := lit_1
    rw [u_J7_fill_25, n2]
    refine Pc.pos rfl ?_
    refine Pc.le (fun c => Pc.ret ⟨frA.rf h, fun k hk => z k (by omega)⟩) (fun c => Pc.chk (fun _ => ?_))
    have a1 := adT l2 1 (by omega) (by omega)
    refine (ih (wrI h b i x) (l2 + 1) l3 (i + 1) (by omega) e3 (by omega) (fun k hk => ?_)).mono (fun q hq => ⟨frA.tr (h1 := wrI h b i x) (frA.w (frA.rf h) (show b = b from rfl)) hq.1, hq.2⟩)
    rw [hi_wrI]
    by_cases y : k = i
    · rw [if_pos ⟨rfl, y⟩]
    · rw [if_neg (fun w => y w.2)]
      exact z k (by omega)
theorem pc_fill5 {b : Nat} {x : Int32} : ∀ (n : Nat) (h : Hp) (l2 l3 : Int32), Pc (W_J7_fill_5 n 5 h b x l2 l3) (fun q => frA (fun a => a = b) h q) := by
  intro n
  induction n with
  | zero => intro h l2 l3; exact Pc.no
  | succ n ih =>
    intro h l2 l3
    rw [u_J7_fill_5]
    refine Pc.pos rfl ?_
    refine Pc.le (fun c => Pc.ret (frA.rf h)) (fun c => Pc.chk (fun _ => ?_))
    exact (ih _ (l2 + 1) l3).mono (fun q hq => frA.tr (A := fun a => a = b) (frA.w (frA.rf h) (show b = b from rfl)) hq)
theorem pc_clear8 {a : Nat} : Pc (F_X8_clear n h a) (fun q => frA (fun x => x = a ∨ x = a + 3) h q) := by
  unfold F_X8_clear F_J7_fill_5
  refine Pc.bind (pc_fill5 n _ 0 5) (fun q hq => Pc.ret ?_)
  exact ((((frA.rf h).w (Or.inl rfl)).w (Or.inl rfl)).w (Or.inl rfl)).w (Or.inl rfl) |>.tr (hq.sub (fun a' z => Or.inr z))
theorem pc_lay4 {a : Nat} {l1 l2 : Int32} : ∀ (n : Nat) (h : Hp) (l3 : Int32), Pc (W_X3_lay n 17 h a l1 l2 l3) (fun q => (∀ x k, ¬ (x = a ∧ (k = 2 ∨ k = 3)) → hi q x k = hi h x k) ∧ ∀ x k, hl q x k = hl h x k) := by
  intro n
  induction n with
  | zero => intro h l3; exact Pc.no
  | succ n ih =>
    intro h l3
    rw [u_X3_lay]
    refine Pc.pos rfl ?_
    refine Pc.le (fun c => Pc.ret ⟨fun x k n => by rw [hi_wrI, if_neg (by omega)], fun _ _ => rfl⟩) (fun c => ?_)
    refine (ih _ (l3 + 1)).mono (fun q hq => ⟨fun x k n => ?_, fun x k => hq.2 x k⟩)
    rw [hq.1 x k n, hi_wrI, if_neg (by omega)]
def laC (a x : Nat) : Prop := x = a ∨ x = a + 1 ∨ x = a + 2
theorem pc_begin4 {a : Nat} {x : Int32} : Pc (F_X4_begin n h a x) (fun q => frA (laC a) h q) := by
  unfold F_X4_begin
  exact Pc.lt (fun _ => Pc.ret (frA.rf h)) (fun _ => Pc.le (fun _ => Pc.ret (frA.rf h)) (fun _ => Pc.chk (fun _ => Pc.ret ((frA.rf h).w (Or.inr (Or.inr rfl))))))
theorem pc_add4 {a : Nat} {x : Int32} : Pc (F_X4_add n h a x) (fun q => frA (laC a) h q) := by
  unfold F_X4_add
  exact Pc.le (fun _ => Pc.ret (frA.rf h)) (fun _ => Pc.chk (fun _ => Pc.ret (((frA.rf h).w (Or.inr (Or.inl rfl))).w (Or.inl rfl))))
theorem pc_clear4 {a : Nat} : Pc (F_X4_clear n h a) (fun q => frA (laC a) h q) := by
  unfold F_X4_clear
  have f0 : frA (laC a) h (wrI h a 3 0) := (frA.rf h).w (Or.inl rfl)
  refine Pc.bind pc_begin4 (fun q1 h1 => ?_)
  have f1 := f0.tr h1
  refine Pc.bind pc_begin4 (fun q2 h2 => ?_)
  have f2 := f1.tr h2
  refine Pc.bind pc_add4 (fun q3 h3 => ?_)
  have f3 := f2.tr h3
  refine Pc.bind pc_add4 (fun q4 h4 => ?_)
  have f4 := f3.tr h4
  refine Pc.bind pc_begin4 (fun q5 h5 => ?_)
  have f5 := f4.tr h5
  refine Pc.bind pc_begin4 (fun q6 h6 => ?_)
  have f6 := f5.tr h6
  refine Pc.bind pc_add4 (fun q7 h7 => ?_)
  have f7 := f6.tr h7
  refine Pc.bind pc_add4 (fun q8 h8 => ?_)
  exact Pc.ret (f7.tr h8)
def clA (x : Nat) : Prop := x = 2 ∨ x = 3 ∨ x = 4 ∨ x = 5 ∨ x = 6 ∨ x = 7 ∨ x = 10 ∨ x = 13 ∨ x = 16
theorem pc_clear0 : Pc (F_X0_clear n h 3) (fun q => frA (fun x => x = 3 ∨ x = 4 ∨ x = 5 ∨ x = 6 ∨ x = 7) h q ∧ hi q 3 2 = 0 ∧ hi q 4 0 = 4 ∧ hi q 4 1 = 4) := by
  unfold F_X0_clear F_X3_lay
  refine Pc.bind (pc_lay4 n _ 0) (fun q1 h1 => ?_)
  refine Pc.bind pc_clear4 (fun q2 h2 => Pc.ret ⟨⟨fun x k m => ?_, fun x k => ?_⟩, ?_, ?_, ?_⟩)
  · rw [hi_wrI, if_neg (by omega), hi_wrI, if_neg (by omega), hi_wrI, if_neg (by omega), h2.1 x k (by unfold laC; omega), h1.1 x k (by omega), hi_wrI, if_neg (by omega), hi_wrI, if_neg (by omega), hi_wrI, if_neg (by omega)]
  · rw [hl_wrI, hl_wrI, hl_wrI, h2.2 x k, h1.2 x k, hl_wrI, hl_wrI, hl_wrI]
  · rw [hi_wrI, if_neg (by omega), hi_wrI, if_neg (by omega), hi_wrI, if_pos ⟨rfl, rfl⟩]
  · rw [hi_wrI, if_neg (by omega), hi_wrI, if_neg (by omega), hi_wrI, if_neg (by omega), h2.1 4 0 (by unfold laC; omega), h1.1 4 0 (by omega), hi_wrI, if_neg (by omega), hi_wrI, if_neg (by omega), hi_wrI, if_pos ⟨rfl, rfl⟩]
  · rw [hi_wrI, if_neg (by omega), hi_wrI, if_neg (by omega), hi_wrI, if_neg (by omega), h2.1 4 1 (by unfold laC; omega), h1.1 4 1 (by omega), hi_wrI, if_neg (by omega), hi_wrI, if_pos ⟨rfl, rfl⟩]
/-- the class, cleared -/
def bgC (q : Hp) : Prop := cS q 0 0 ∧ (hi q 2 6).toInt = 0 ∧ (hi q 2 12 = 0 ∧ (hi q 2 13).toInt = 0 ∧ (hi q 2 14).toInt = 0) ∧ (hi q 3 2).toInt = 0 ∧ ((hi q 4 0).toInt = 4 ∧ (hi q 4 1).toInt = 4) ∧ ∀ k, k < 25 → (hi q 16 k).toInt = 0
theorem bgC.cg {q q' : Hp} (b : bgC q) (f : ∀ a k, a ≤ 16 → hi q' a k = hi q a k) : bgC q' := by
  unfold bgC cS
  rw [f 2 5 (by decide), f 2 4 (by decide), f 2 6 (by decide), f 2 12 (by decide), f 2 13 (by decide), f 2 14 (by decide), f 3 2 (by decide), f 4 0 (by decide), f 4 1 (by decide)]
  refine ⟨b.1, b.2.1, b.2.2.1, b.2.2.2.1, b.2.2.2.2.1, fun k hk => ?_⟩
  rw [f 16 k (by decide)]
  exact b.2.2.2.2.2 k hk
theorem pc_clear7 : Pc (F_X7_clear n h) (fun q => frA clA h q ∧ bgC q) := by
  have f0 := lit_0
  have f4 := lit_4
  unfold F_X7_clear F_J7_fill_25
  refine Pc.bind pc_clear0 (fun q1 h1 => ?_)
  obtain ⟨a1, a2, a3, a4⟩ := h1
  refine Pc.bind pc_clear8 (fun q2 h2 => ?_)
  refine Pc.bind (pc_fill25 n _ 0 25 0 f0 lit_25 (by decide) (fun k hk => absurd hk (Nat.not_lt_zero k))) (fun q3 h3 => Pc.ret ?_)
  obtain ⟨b1, b2⟩ := h3
  have r3 (k : Nat) (n2 : ¬ (k = 12 ∨ k = 13 ∨ k = 14)) : hi (wrI (wrI (wrI q3 2 12 0) 2 13 0) 2 14 0) 2 k = hi (wrI (wrI (wrI (wrI (wrI q2 2 2 (-1)) 2 4 0) 2 5 0) 2 6 0) 2 7 (-1)) 2 k := by
    rw [hi_wrI, if_neg (by omega), hi_wrI, if_neg (by omega), hi_wrI, if_neg (by omega)]
    exact b1.1 2 k (by decide)
  have rn (a k : Nat) (n2 : a ≠ 2) : hi (wrI (wrI (wrI q3 2 12 0) 2 13 0) 2 14 0) a k = hi q3 a k := by
    rw [hi_wrI, if_neg (by omega), hi_wrI, if_neg (by omega), hi_wrI, if_neg (by omega)]
  have rm (a k : Nat) (n2 : a ≠ 2) (n3 : a ≠ 16) : hi q3 a k = hi q2 a k := by
    rw [b1.1 a k n3, hi_wrI, if_neg (by omega), hi_wrI, if_neg (by omega), hi_wrI, if_neg (by omega), hi_wrI, if_neg (by omega), hi_wrI, if_neg (by omega)]
  refine ⟨⟨fun a k m => ?_, fun a k => ?_⟩, ⟨?_, ?_⟩, ?_, ⟨?_, ?_, ?_⟩, ?_, ⟨?_, ?_⟩, fun k hk => ?_⟩
  · unfold clA at m
    rw [rn a k (by omega), rm a k (by omega) (by omega), h2.1 a k (by omega)]
    exact a1.1 a k (by omega)
  · rw [hl_wrI, hl_wrI, hl_wrI, b1.2 a k, hl_wrI, hl_wrI, hl_wrI, hl_wrI, hl_wrI, h2.2 a k]
    exact a1.2 a k
  · rw [r3 5 (by decide), hi_wrI, if_neg (by omega), hi_wrI, if_neg (by omega), hi_wrI, if_pos ⟨rfl, rfl⟩]
    exact f0
  · rw [r3 4 (by decide), hi_wrI, if_neg (by omega), hi_wrI, if_neg (by omega), hi_wrI, if_neg (by omega), hi_wrI, if_pos ⟨rfl, rfl⟩]
    exact f0
  · rw [r3 6 (by decide), hi_wrI, if_neg (by omega), hi_wrI, if_pos ⟨rfl, rfl⟩]
    exact f0
  · rw [hi_wrI, if_neg (by omega), hi_wrI, if_neg (by omega), hi_wrI, if_pos ⟨rfl, rfl⟩]
  · rw [hi_wrI, if_neg (by omega), hi_wrI, if_pos ⟨rfl, rfl⟩]; exact f0
  · rw [hi_wrI, if_pos ⟨rfl, rfl⟩]; exact f0
  · rw [rn 3 2 (by decide), rm 3 2 (by decide) (by decide), h2.1 3 2 (by decide), a2]; exact f0
  · rw [rn 4 0 (by decide), rm 4 0 (by decide) (by decide), h2.1 4 0 (by decide), a3]; exact f4
  · rw [rn 4 1 (by decide), rm 4 1 (by decide) (by decide), h2.1 4 1 (by decide), a4]; exact f4
  · rw [rn 16 k (by decide), b2 k hk]; exact f0
end CB
