/-! ALL GOERS WALK, in the class -/
def upF (f : Nat → Int32) (k : Nat) (v : Int32) : Nat → Int32 := fun j => if j = k then v else f j
/-- each goes his step, and it is a beat later -/
def wk1 (T : TT) (f : Nat → Int32) : Nat → Int32 := fun k => if 51 ≤ k ∧ k < 51 + T.go.length then Int32.ofNat (stF T f (f k).toInt.toNat (f (k + 5)) (Int32.ofNat (k - 51)) 0) else if k = 61 then f 61 + 1 else f k
/-- whoever stands where it is loud moves on -/
def wk2 (T : TT) (f : Nat → Int32) : Nat → Int32 := fun k => if 51 ≤ k ∧ k < 51 + T.go.length then (if loudF f (f k).toInt.toNat (f 61) = true then Int32.ofNat (stF T f (f k).toInt.toNat (f (k + 5)) (Int32.ofNat (k - 51)) 1) else f k) else if 56 ≤ k ∧ k < 56 + T.go.length then (if loudF f (f (k - 5)).toInt.toNat (f 61) = true then f k + 1 else f k) else f k
section R56H
variable {c G : Nat} {f : Nat → Int32} {a : Nat} {h : Hp} {n : Nat} {v : Int32} {g : Nat}
theorem upF_e {k : Nat} : upF f k v k = v := if_pos rfl
theorem upF_n {k j : Nat} (ne : j ≠ k) : upF f k v j = f j := if_neg ne
theorem SCR.tm (x : SCR c G f a h) (c25 : c ≤ 25) (G5 : G ≤ 5) : SCR c G (upF f 61 v) a (wrI h a 0 v) := by
  obtain ⟨⟨x1, x2, x3⟩, x4, x5, x6⟩ := x
  refine ⟨⟨?_, ?_, ?_⟩, fun b hb => ?_, fun b hb => ?_, fun k hk => ?_⟩
  · rw [hi_wrI, if_pos ⟨rfl, rfl⟩, upF_e]
  · rw [hi_wrI, if_neg (by omega), upF_n (by omega)]; exact x2
  · rw [hi_wrI, if_neg (by omega), upF_n (by omega)]; exact x3
  · rw [hi_wrI, if_neg (by omega)]
    by_cases y : b < c
    · rw [upF_n (by omega)]; exact x4 b hb
    · exact ⟨fun z => absurd ((x4 b hb).mp z).1 y, fun z => absurd z.1 y⟩
  · rw [hi_wrI, if_neg (by omega), upF_n (by omega), upF_n (by omega)]; exact x5 b hb
  · rw [hi_wrI, if_neg (by omega), hi_wrI, if_neg (by omega), upF_n (by omega), upF_n (by omega)]; exact x6 k hk
theorem SCR.go (x : SCR c G f a h) (c25 : c ≤ 25) (G5 : G ≤ 5) (g5 : g < 5) : SCR c G (upF f (51 + g) v) a (wrI h (a + 2) g v) := by
  obtain ⟨⟨x1, x2, x3⟩, x4, x5, x6⟩ := x
  refine ⟨⟨?_, ?_, ?_⟩, fun b hb => ?_, fun b hb => ?_, fun k hk => ⟨?_, ?_⟩⟩
  · rw [hi_wrI, if_neg (by omega), upF_n (by omega)]; exact x1
  · rw [hi_wrI, if_neg (by omega), upF_n (by omega)]; exact x2
  · rw [hi_wrI, if_neg (by omega), upF_n (by omega)]; exact x3
  · rw [hi_wrI, if_neg (by omega)]
    by_cases y : b < c
    · rw [upF_n (by omega)]; exact x4 b hb
    · exact ⟨fun z => absurd ((x4 b hb).mp z).1 y, fun z => absurd z.1 y⟩
  · rw [hi_wrI, if_neg (by omega), upF_n (by omega), upF_n (by omega)]; exact x5 b hb
  · rw [hi_wrI]
    by_cases y : k = g
    · rw [if_pos ⟨rfl, y⟩, y, upF_e]
    · rw [if_neg (fun z => y z.2), upF_n (by omega)]; exact (x6 k hk).1
  · rw [hi_wrI, if_neg (by omega), upF_n (by omega)]; exact (x6 k hk).2
theorem SCR.mv (x : SCR c G f a h) (c25 : c ≤ 25) (G5 : G ≤ 5) (g5 : g < 5) : SCR c G (upF f (56 + g) v) a (wrI h (a + 3) g v) := by
  obtain ⟨⟨x1, x2, x3⟩, x4, x5, x6⟩ := x
  refine ⟨⟨?_, ?_, ?_⟩, fun b hb => ?_, fun b hb => ?_, fun k hk => ⟨?_, ?_⟩⟩
  · rw [hi_wrI, if_neg (by omega), upF_n (by omega)]; exact x1
  · rw [hi_wrI, if_neg (by omega), upF_n (by omega)]; exact x2
  · rw [hi_wrI, if_neg (by omega), upF_n (by omega)]; exact x3
  · rw [hi_wrI, if_neg (by omega)]
    by_cases y : b < c
    · rw [upF_n (by omega)]; exact x4 b hb
    · exact ⟨fun z => absurd ((x4 b hb).mp z).1 y, fun z => absurd z.1 y⟩
  · rw [hi_wrI, if_neg (by omega), upF_n (by omega), upF_n (by omega)]; exact x5 b hb
  · rw [hi_wrI, if_neg (by omega), upF_n (by omega)]; exact (x6 k hk).1
  · rw [hi_wrI]
    by_cases y : k = g
    · rw [if_pos ⟨rfl, y⟩, y, upF_e]
    · rw [if_neg (fun z => y z.2), upF_n (by omega)]; exact (x6 k hk).2
theorem RVR.tm (x : RVR c G f) (G5 : G ≤ 5) : RVR c G (upF f 61 v) := x.cg G5 (fun k hk => upF_n (by omega))
theorem RVR.go (x : RVR c G f) (G5 : G ≤ 5) (c25 : c ≤ 25) (gG : g < G) {d : Nat} (hd : v.toInt = (d : Int)) (dc : d < c) (fr : bt (f 50) d = false) : RVR c G (upF f (51 + g) v) := by
  obtain ⟨x1, x2, x3, x4⟩ := x
  refine ⟨fun b hb => ?_, fun b hb => ?_, fun k hk => ?_, fun k h1 h2 => ?_⟩
  · rw [upF_n (by omega), upF_n (by omega)]; exact x1 b hb
  · rw [upF_n (by omega)]; exact x2 b hb
  · rw [upF_n (show 50 ≠ 51 + g by omega)]
    by_cases y : k = g
    · rw [y, upF_e, hd]
      exact ⟨⟨by omega, by omega⟩, fr⟩
    · rw [upF_n (by omega)]; exact x3 k hk
  · rw [upF_n (by omega), upF_n (by omega)]; exact x4 k h1 h2
theorem RVR.mv (x : RVR c G f) (G5 : G ≤ 5) (c25 : c ≤ 25) (gG : g < G) : RVR c G (upF f (56 + g) v) := by
  obtain ⟨x1, x2, x3, x4⟩ := x
  refine ⟨fun b hb => ?_, fun b hb => ?_, fun k hk => ?_, fun k h1 h2 => ?_⟩
  · rw [upF_n (by omega), upF_n (by omega)]; exact x1 b hb
  · rw [upF_n (by omega)]; exact x2 b hb
  · rw [upF_n (by omega), upF_n (by omega)]; exact x3 k hk
  · rw [upF_n (by omega), upF_n (by omega)]; exact x4 k h1 h2
/-- the band's draft is as it was -/
theorem BDF.at {T : TT} {q : Hp} (x : BDF T 23 h) (e : ∀ y k, 23 ≤ y → y ≤ 27 → hi q y k = hi h y k) : BDF T 23 q := x.to (fun k _ => e 24 k (by decide) (by decide)) (fun k _ _ => e 23 k (by decide) (by decide)) (e 25 3 (by decide) (by decide)) (fun k _ => e 26 k (by decide) (by decide)) (fun k _ => e 27 k (by decide) (by decide))
/-- as far as the goer i it is done -/
def w2i (T : TT) (f : Nat → Int32) (i : Nat) : Nat → Int32 := fun k => if (51 ≤ k ∧ k < 51 + i) ∨ (56 ≤ k ∧ k < 56 + i) then wk2 T f k else f k
def w1i (T : TT) (f : Nat → Int32) (i : Nat) : Nat → Int32 := fun k => if 51 ≤ k ∧ k < 51 + i then wk1 T f k else f k
theorem wk_46 {T : TT} (v : VT T) (ha : 30 ≤ a) : ∀ (n : Nat) (h : Hp) (l2 : Int32) (i : Nat), l2.toInt = (i : Int) → i ≤ T.go.length → BDF T 23 h → RVR (wT T * gT T) T.go.length f → SCR (wT T * gT T) T.go.length (w2i T f i) a h → RVR (wT T * gT T) T.go.length (w2i T f i) → Pc (W_X0_walk n 46 h 23 a l2) (fun q => SCR (wT T * gT T) T.go.length (wk2 T f) a q ∧ RVR (wT T * gT T) T.go.length (wk2 T f)) := by
  intro n
  have c25 := (wg_T v).1
  have G5 := v.2.2.1.1
  induction n with
  | zero => intro h l2 i e1 e2 bd r0 sc rv; exact Pc.no
  | succ n ih =>
    intro h l2 i e1 e2 bd r0 sc rv
    have f1 := lit_1
    have f5 := lit_5
    have hG := bd.2.1.1
    rw [u_X0_walk]
    refine Pc.neg (by decide) (Pc.pos rfl ?_)
    have fin (z : T.go.length ≤ i) : SCR (wT T * gT T) T.go.length (wk2 T f) a h ∧ RVR (wT T * gT T) T.go.length (wk2 T f) := by
      have ei : i = T.go.length := by omega
      have eq (k : Nat) : wk2 T f k = w2i T f i k := by
        unfold w2i
        by_cases y : (51 ≤ k ∧ k < 51 + i) ∨ (56 ≤ k ∧ k < 56 + i)
        · rw [if_pos y]
        · rw [if_neg y]
          unfold wk2
          rw [if_neg (by omega), if_neg (by omega)]
      exact ⟨sc.cg c25 G5 (fun k _ => eq k), rv.cg G5 (fun k _ => eq k)⟩
    refine Pc.le (fun z => Pc.ret (fin (by omega))) (fun z => Pc.le (fun z2 => Pc.ret (fin (by omega))) (fun z2 => Pc.chk (fun _ => ?_)))
    have n1 := ncT (show 0 ≤ l2.toInt by omega)
    have n2 : Int32.toNatClampNeg l2 = i := by omega
    rw [n2]
    have el : l2 = Int32.ofNat i := nOf e1 (by omega)
    have k51 : w2i T f i (51 + i) = f (51 + i) := if_neg (by omega)
    have k56 : w2i T f i (56 + i) = f (56 + i) := if_neg (by omega)
    have klo (k : Nat) (hk : k < 51) : w2i T f i k = f k := if_neg (by omega)
    have k61 : w2i T f i 61 = f 61 := if_neg (by omega)
    obtain ⟨s1, s2⟩ := sc.2.2.2 i (by omega)
    rw [k51] at s1
    rw [k56] at s2
    obtain ⟨⟨rg1, rg2⟩, rg3⟩ := r0.2.2.1 i (by omega)
    obtain ⟨b, hb⟩ : ∃ b : Nat, (f (51 + i)).toInt = (b : Int) := ⟨(f (51 + i)).toInt.toNat, by omega⟩
    have eb : (f (51 + i)).toInt.toNat = b := by omega
    have t61 : hi h a 0 = f 61 := sc.1.1.trans k61
    have a1 := adT l2 1 (by omega) (by omega)
    rw [s1, t61]
    have ld : loudF (w2i T f i) b (f 61) = loudF f b (f 61) := by
      unfold loudF
      rw [klo b (by omega), klo (25 + b) (by omega)]
    refine Pc.bind (so_c sc rv c25 (b := b) (by omega) hb (x2 := f 61)) (fun q9 h9 => ?_)
    obtain ⟨t1, t2⟩ := h9
    rw [t1, t2, ld]
    have w51 : wk2 T f (51 + i) = (if loudF f b (f 61) = true then Int32.ofNat (stF T f b (f (56 + i)) (Int32.ofNat i) 1) else f (51 + i)) := by
      unfold wk2
      rw [if_pos ⟨by omega, by omega⟩, eb, show 51 + i + 5 = 56 + i by omega, show 51 + i - 51 = i by omega]
    have w56 : wk2 T f (56 + i) = (if loudF f b (f 61) = true then f (56 + i) + 1 else f (56 + i)) := by
      unfold wk2
      rw [if_neg (by omega), if_pos ⟨by omega, by omega⟩, show 56 + i - 5 = 51 + i by omega, eb]
    by_cases z3 : loudF f b (f 61) = true
    · rw [if_pos z3] at w51 w56
      rw [if_pos z3]
      refine Pc.ite (fun y => absurd y (by decide)) (fun _ => ?_)
      refine Pc.bind (fun y e => And.intro (wt_c v bd sc rv ha (g := i) (by omega) e1 (k := 1) (by decide) f1 y e) (zf_X0_whereTo y e)) (fun q12 h12 => ?_)
      obtain ⟨t3, z12⟩ := h12
      rw [k51, k56, eb, el] at t3
      have est : stF T (w2i T f i) b (f (56 + i)) (Int32.ofNat i) 1 = stF T f b (f (56 + i)) (Int32.ofNat i) 1 := stF_cg c25 (fun k hk => klo k (by omega)) (klo 50 (by decide)) k61 (by omega)
      rw [est] at t3
      have dl := stF_lt v (f := f) (b := b) (by omega) (x4 := f (56 + i)) (x5 := Int32.ofNat i) (k := 1)
      have df := stF_free (T := T) (f := f) (b := b) (by rw [← eb]; exact rg3) (x4 := f (56 + i)) (x5 := Int32.ofNat i) (k := 1)
      have e12 : q12.1 = wk2 T f (51 + i) := by
        rw [w51]
        exact nOf t3 (by omega)
      have r12 (x j : Nat) (n1 : x ≠ 28) (n2 : x ≠ 29) : hi q12.2 x j = hi h x j := z12.1 x j (by omega)
      have sc12 : SCR (wT T * gT T) T.go.length (w2i T f i) a q12.2 := sc.to c25 G5 (fun j _ => r12 a j (by omega) (by omega)) (fun j _ => r12 (a + 1) j (by omega) (by omega)) (fun j _ => r12 (a + 2) j (by omega) (by omega)) (fun j _ => r12 (a + 3) j (by omega) (by omega))
      refine Pc.chk (fun _ => Pc.chk (fun _ => Pc.chk (fun _ => ?_)))
      have e33 : hi q12.2 (a + 3) i + 1 = wk2 T f (56 + i) := by
        rw [w56, r12 (a + 3) i (by omega) (by omega), s2]
      have eq (k : Nat) : w2i T f (i + 1) k = upF (upF (w2i T f i) (51 + i) q12.1) (56 + i) (hi q12.2 (a + 3) i + 1) k := by
        unfold upF
        by_cases y1 : k = 56 + i
        · rw [if_pos y1, e33, y1]
          exact if_pos (Or.inr ⟨by omega, by omega⟩)
        · rw [if_neg y1]
          by_cases y2 : k = 51 + i
          · rw [if_pos y2, e12, y2]
            exact if_pos (Or.inl ⟨by omega, by omega⟩)
          · rw [if_neg y2]
            unfold w2i
            by_cases y3 : (51 ≤ k ∧ k < 51 + i) ∨ (56 ≤ k ∧ k < 56 + i)
            · rw [if_pos y3, if_pos (by omega)]
            · rw [if_neg y3, if_neg (by omega)]
      have sA := (sc12.go (v := q12.1) (g := i) c25 G5 (by omega)).mv (v := hi q12.2 (a + 3) i + 1) (g := i) c25 G5 (by omega)
      have rA := (rv.go (v := q12.1) (g := i) G5 c25 (by omega) (d := stF T f b (f (56 + i)) (Int32.ofNat i) 1) t3 dl (by rw [klo 50 (by decide)]; exact df)).mv (v := hi q12.2 (a + 3) i + 1) (g := i) G5 c25 (by omega)
      have ew : hi (wrI q12.2 (a + 2) i q12.1) (a + 3) i = hi q12.2 (a + 3) i := hiA rfl (a + 3) i (by omega)
      rw [ew]
      refine ih _ (l2 + 1) (i + 1) (by omega) (by omega) (bd.at (fun y k h1 h2 => ?_)) r0 (sA.cg c25 G5 (fun k _ => eq k)) (rA.cg G5 (fun k _ => eq k))
      rw [hi_wrI, if_neg (by omega), hi_wrI, if_neg (by omega)]
      exact r12 y k (by omega) (by omega)
    · rw [if_neg z3] at w51 w56
      rw [if_neg z3]
      refine Pc.ite (fun _ => ?_) (fun y => absurd rfl y)
      have eq (k : Nat) : w2i T f (i + 1) k = w2i T f i k := by
        unfold w2i
        by_cases y3 : (51 ≤ k ∧ k < 51 + i) ∨ (56 ≤ k ∧ k < 56 + i)
        · rw [if_pos y3, if_pos (by omega)]
        · rw [if_neg y3]
          by_cases y1 : k = 56 + i
          · rw [if_pos (by omega), y1]; exact w56
          · by_cases y2 : k = 51 + i
            · rw [if_pos (by omega), y2]; exact w51
            · rw [if_neg (by omega)]
      exact ih h (l2 + 1) (i + 1) (by omega) (by omega) bd r0 (sc.cg c25 G5 (fun k _ => eq k)) (rv.cg G5 (fun k _ => eq k))
theorem wk_2 {T : TT} (v : VT T) (ha : 30 ≤ a) : ∀ (n : Nat) (h : Hp) (l2 : Int32) (i : Nat), l2.toInt = (i : Int) → i ≤ T.go.length → BDF T 23 h → RVR (wT T * gT T) T.go.length f → SCR (wT T * gT T) T.go.length (w1i T f i) a h → RVR (wT T * gT T) T.go.length (w1i T f i) → Pc (W_X0_walk n 2 h 23 a l2) (fun q => SCR (wT T * gT T) T.go.length (wk2 T (wk1 T f)) a q ∧ RVR (wT T * gT T) T.go.length (wk2 T (wk1 T f))) := by
  intro n
  have c25 := (wg_T v).1
  have G5 := v.2.2.1.1
  induction n with
  | zero => intro h l2 i e1 e2 bd r0 sc rv; exact Pc.no
  | succ n ih =>
    intro h l2 i e1 e2 bd r0 sc rv
    have f0 := lit_0
    have f1 := lit_1
    have f5 := lit_5
    have hG := bd.2.1.1
    rw [u_X0_walk]
    refine Pc.pos rfl ?_
    have klo (k : Nat) (hk : k < 51) : w1i T f i k = f k := if_neg (by omega)
    have k61 : w1i T f i 61 = f 61 := if_neg (by omega)
    have fin (z : T.go.length ≤ i) : Pc (W_X0_walk n 46 (wrI h a 0 ((hi h a 0) + 1)) 23 a 0) (fun q => SCR (wT T * gT T) T.go.length (wk2 T (wk1 T f)) a q ∧ RVR (wT T * gT T) T.go.length (wk2 T (wk1 T f))) := by
      have ei : i = T.go.length := by omega
      have e61 : hi h a 0 = f 61 := sc.1.1.trans k61
      have eq (k : Nat) : wk1 T f k = upF (w1i T f i) 61 (hi h a 0 + 1) k := by
        unfold upF
        by_cases y : k = 61
        · rw [if_pos y, y, e61]
          unfold wk1
          rw [if_neg (by omega), if_pos rfl]
        · rw [if_neg y]
          unfold w1i
          by_cases y2 : 51 ≤ k ∧ k < 51 + i
          · rw [if_pos y2]
          · rw [if_neg y2]
            unfold wk1
            rw [if_neg (by omega), if_neg y]
      have s1 := (sc.tm (v := hi h a 0 + 1) c25 G5).cg (g := wk1 T f) c25 G5 (fun k _ => eq k)
      have r1 := (rv.tm (v := hi h a 0 + 1) G5).cg (g := wk1 T f) G5 (fun k _ => eq k)
      have eq2 (k : Nat) : w2i T (wk1 T f) 0 k = wk1 T f k := if_neg (by omega)
      refine wk_46 (f := wk1 T f) v ha n _ 0 0 f0 (Nat.zero_le _) (bd.at (fun y k h1 h2 => by rw [hi_wrI, if_neg (by omega)])) r1 (s1.cg c25 G5 (fun k _ => eq2 k)) (r1.cg G5 (fun k _ => eq2 k))
    refine Pc.le (fun z => fin (by omega)) (fun z => Pc.le (fun z2 => fin (by omega)) (fun z2 => ?_))
    have n1 := ncT (show 0 ≤ l2.toInt by omega)
    have n2 : Int32.toNatClampNeg l2 = i := by omega
    have el : l2 = Int32.ofNat i := nOf e1 (by omega)
    have k51 : w1i T f i (51 + i) = f (51 + i) := if_neg (by omega)
    have k56 : w1i T f i (56 + i) = f (56 + i) := if_neg (by omega)
    obtain ⟨⟨rg1, rg2⟩, rg3⟩ := r0.2.2.1 i (by omega)
    obtain ⟨b, hb⟩ : ∃ b : Nat, (f (51 + i)).toInt = (b : Int) := ⟨(f (51 + i)).toInt.toNat, by omega⟩
    have eb : (f (51 + i)).toInt.toNat = b := by omega
    have a1 := adT l2 1 (by omega) (by omega)
    refine Pc.bind (fun y e => And.intro (wt_c v bd sc rv ha (g := i) (by omega) e1 (k := 0) (by decide) f0 y e) (zf_X0_whereTo y e)) (fun q12 h12 => ?_)
    obtain ⟨t3, z12⟩ := h12
    rw [k51, k56, eb, el] at t3
    have est : stF T (w1i T f i) b (f (56 + i)) (Int32.ofNat i) 0 = stF T f b (f (56 + i)) (Int32.ofNat i) 0 := stF_cg c25 (fun k hk => klo k (by omega)) (klo 50 (by decide)) k61 (by omega)
    rw [est] at t3
    have dl := stF_lt v (f := f) (b := b) (by omega) (x4 := f (56 + i)) (x5 := Int32.ofNat i) (k := 0)
    have df := stF_free (T := T) (f := f) (b := b) (by rw [← eb]; exact rg3) (x4 := f (56 + i)) (x5 := Int32.ofNat i) (k := 0)
    have w51 : wk1 T f (51 + i) = Int32.ofNat (stF T f b (f (56 + i)) (Int32.ofNat i) 0) := by
      unfold wk1
      rw [if_pos ⟨by omega, by omega⟩, eb, show 51 + i + 5 = 56 + i by omega, show 51 + i - 51 = i by omega]
    have e12 : q12.1 = wk1 T f (51 + i) := by
      rw [w51]
      exact nOf t3 (by omega)
    have r12 (x j : Nat) (n1 : x ≠ 28) (n2 : x ≠ 29) : hi q12.2 x j = hi h x j := z12.1 x j (by omega)
    have sc12 : SCR (wT T * gT T) T.go.length (w1i T f i) a q12.2 := sc.to c25 G5 (fun j _ => r12 a j (by omega) (by omega)) (fun j _ => r12 (a + 1) j (by omega) (by omega)) (fun j _ => r12 (a + 2) j (by omega) (by omega)) (fun j _ => r12 (a + 3) j (by omega) (by omega))
    rw [n2]
    refine Pc.chk (fun _ => ?_)
    have eq (k : Nat) : w1i T f (i + 1) k = upF (w1i T f i) (51 + i) q12.1 k := by
      unfold upF
      by_cases y2 : k = 51 + i
      · rw [if_pos y2, e12, y2]
        exact if_pos ⟨by omega, by omega⟩
      · rw [if_neg y2]
        unfold w1i
        by_cases y3 : 51 ≤ k ∧ k < 51 + i
        · rw [if_pos y3, if_pos (by omega)]
        · rw [if_neg y3, if_neg (by omega)]
    have sA := sc12.go (v := q12.1) (g := i) c25 G5 (by omega)
    have rA := rv.go (v := q12.1) (g := i) G5 c25 (by omega) (d := stF T f b (f (56 + i)) (Int32.ofNat i) 0) t3 dl (by rw [klo 50 (by decide)]; exact df)
    refine ih _ (l2 + 1) (i + 1) (by omega) (by omega) (bd.at (fun y k h1 h2 => ?_)) r0 (sA.cg c25 G5 (fun k _ => eq k)) (rA.cg G5 (fun k _ => eq k))
    rw [hi_wrI, if_neg (by omega)]
    exact r12 y k (by omega) (by omega)
theorem wk_c {T : TT} (v : VT T) (ha : 30 ≤ a) (bd : BDF T 23 h) (sc : SCR (wT T * gT T) T.go.length f a h) (rv : RVR (wT T * gT T) T.go.length f) : Pc (F_X0_walk n h 23 a) (fun q => SCR (wT T * gT T) T.go.length (wk2 T (wk1 T f)) a q ∧ RVR (wT T * gT T) T.go.length (wk2 T (wk1 T f))) := by
  have c25 := (wg_T v).1
  have G5 := v.2.2.1.1
  unfold F_X0_walk
  have eq (k : Nat) : w1i T f 0 k = f k := if_neg (by omega)
  exact wk_2 v ha n h 0 0 lit_0 (Nat.zero_le _) bd rv (sc.cg c25 G5 (fun k _ => eq k)) (rv.cg G5 (fun k _ => eq k))
end R56H
