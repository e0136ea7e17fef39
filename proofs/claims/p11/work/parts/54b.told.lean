/-! WHAT A TEXT TELLS: the reference, tunes, goers, laws, and all -/
theorem mE_ge {kd vl : Nat → Int} : ∀ (k : Nat) (u : Bool) (W : List Int) (t : Nat) (r : List Int32 × Nat), mE kd vl k u W t = some r → t ≤ r.2 := by
  intro k
  induction k with
  | zero => intro u W t r e; cases e
  | succ k ih =>
    intro u W t r e
    unfold mE at e
    by_cases h1 : u = true
    · rw [if_pos h1] at e
      by_cases h2 : kd t = 30
      · rw [if_pos h2] at e
        (obtain ⟨y, y1, y2⟩ := Option.map_eq_some_iff.mp e; have := ih _ _ _ _ y1; rw [← y2]; show t ≤ y.2; omega)
      · rw [if_neg h2] at e
        by_cases h3 : 0 ≤ kd t ∧ kd t < 9
        · rw [if_pos h3] at e
          (obtain ⟨y, y1, y2⟩ := Option.map_eq_some_iff.mp e; have := ih _ _ _ _ y1; rw [← y2]; show t ≤ y.2; omega)
        · rw [if_neg h3] at e
          by_cases h4 : kd t = 40
          · rw [if_pos h4] at e
            have := ih _ _ _ _ e
            omega
          · rw [if_neg h4] at e; cases e
    · rw [if_neg h1] at e
      by_cases h2 : kd t = 42 ∨ kd t = 43 ∨ kd t = 45 ∨ kd t = 47
      · rw [if_pos h2] at e
        (obtain ⟨y, y1, y2⟩ := Option.map_eq_some_iff.mp e; have := ih _ _ _ _ y1; rw [← y2]; show t ≤ y.2; omega)
      · rw [if_neg h2] at e
        by_cases h3 : (popW false W).2 = []
        · rw [if_pos h3] at e
          have := Option.some.inj e
          rw [← this]
          exact Nat.le_refl t
        · rw [if_neg h3] at e
          by_cases h4 : kd t = 41
          · rw [if_pos h4] at e
            (obtain ⟨y, y1, y2⟩ := Option.map_eq_some_iff.mp e; have := ih _ _ _ _ y1; rw [← y2]; show t ≤ y.2; omega)
          · rw [if_neg h4] at e; cases e
theorem LW.le {kd vl : Nat → Int} : ∀ {bs : List ((List Int32 × List Int32) × List Int32)} {t : Nat} {f : List Int32} {t' : Nat}, LW (meE kd vl) kd bs t f t' → t ≤ t' := by
  have me {t : Nat} {C : List Int32} {t' : Nat} (h : meE kd vl t C t') : t ≤ t' := by
    obtain ⟨k, h⟩ := h
    exact mE_ge k _ _ _ _ h
  intro bs
  induction bs with
  | nil => intro t f t' h; exact me h.2
  | cons b r ih =>
    intro t f t' h
    obtain ⟨⟨x, y⟩, c⟩ := b
    obtain ⟨h1, t1, t2, t3, h2, h3, h4, h5, h6, h7, h8⟩ := h
    have a1 := me h2
    have a2 := me h4
    have a3 := me h6
    have a4 := ih h8
    omega
section RU
variable {N : Nat} {kd pl vl : Nat → Int} {s t B c : Nat} {h : Hp} {n : Nat}
theorem ix_8 {a k : Nat} {x y : Int32} (hx : x.toInt = (a : Int)) (hy : y.toInt = (k : Int)) (a1 : a ≤ 1) (k8 : k ≤ 8) : Int32.toNatClampNeg (8 * x + y) = 8 * a + k := by
  have f8 := lit_8
  have m8 := mlT 8 x 8 f8 (by omega) (by omega)
  have ad := adT (8 * x) y (by omega) (by omega)
  have nn := ncT (show 0 ≤ (8 * x + y).toInt by omega)
  omega
theorem yt_tune (X : TX N kd pl vl) (a : rX N kd pl vl s t B c h) {T : TT} (d : rD s T B c h) (l8 : T.tn.length < 8) (hs : s ≤ 1) {g : Hp} (ag : rX N kd pl vl s (t + 1) B c g) (fg : frQ h g) (k10 : kd t = 10) : Pc (F_X12_tellTune n g) (fun q => ZR q → rTell N kd pl vl s T t q) := by
  have f1 := lit_1
  obtain ⟨⟨d1, d2, d3, d4, d5⟩, d6, d7⟩ := d
  have l0 := d2.1
  have g37 : hi g 237 s = hi h 237 s := fg.1 237 s (by omega)
  have g19 := ag.1.2.2.2
  unfold F_X12_tellTune
  rw [side_n ag, g37, ix_8 g19 l0 hs (by omega)]
  refine Pc.chk (fun _ => ?_)
  refine Pc.yt (yz_num X ag lit_0 lit_4) (fun q2 _ e => ?_) (fun q => ?_)
  rotate_left
  · (repeat (first | exact Pc.ret (zr.rf _) | exact Pc.ret ((zr.rf _).w (by omega)) | exact Pc.ret (((zr.rf _).w (by omega)).w (by omega)) | exact Pc.ret (((zr.rf _).wL.w (by omega)).w (by omega)) | refine Pc.yb zb_X12_must (fun _ => ?_) | refine Pc.yb zb_X12_bounded (fun _ => ?_) | refine Pc.yb zb_X12_goesOn (fun _ => ?_) | refine Pc.yb zb_X12_tellLaw (fun _ => ?_) | refine Pc.yb zb_X12_tellTune (fun _ => ?_) | refine Pc.yb zb_X12_tellGoer (fun _ => ?_) | refine Pc.yb zb_X12_tellRope (fun _ => ?_) | refine Pc.yb ((zb_X12_must).mono (fun _ m => (((zr.rf _).w (by omega)).tr m))) (fun _ => ?_) | refine Pc.yb ((zb_X12_bounded).mono (fun _ m => (((zr.rf _).w (by omega)).tr m))) (fun _ => ?_) | refine Pc.ite (fun _ => ?_) (fun _ => ?_) | exact Pc.no))
  obtain ⟨e1, e2, e3, e4⟩ := e
  refine Pc.chk (fun _ => ?_)
  refine Pc.yt (yz_num X (e1.w (x := 238) (by decide)) lit_0 lit_4) (fun q5 _ e => ?_) (fun q => ?_)
  rotate_left
  · (repeat (first | exact Pc.ret (zr.rf _) | exact Pc.ret ((zr.rf _).w (by omega)) | exact Pc.ret (((zr.rf _).w (by omega)).w (by omega)) | exact Pc.ret (((zr.rf _).wL.w (by omega)).w (by omega)) | refine Pc.yb zb_X12_must (fun _ => ?_) | refine Pc.yb zb_X12_bounded (fun _ => ?_) | refine Pc.yb zb_X12_goesOn (fun _ => ?_) | refine Pc.yb zb_X12_tellLaw (fun _ => ?_) | refine Pc.yb zb_X12_tellTune (fun _ => ?_) | refine Pc.yb zb_X12_tellGoer (fun _ => ?_) | refine Pc.yb zb_X12_tellRope (fun _ => ?_) | refine Pc.yb ((zb_X12_must).mono (fun _ m => (((zr.rf _).w (by omega)).tr m))) (fun _ => ?_) | refine Pc.yb ((zb_X12_bounded).mono (fun _ m => (((zr.rf _).w (by omega)).tr m))) (fun _ => ?_) | refine Pc.ite (fun _ => ?_) (fun _ => ?_) | exact Pc.no))
  obtain ⟨i1, i2, i3, i4⟩ := e
  refine Pc.chk (fun _ => ?_)
  refine Pc.yt (yz_num X (i1.w (x := 239) (by decide)) lit_2 lit_6') (fun q8 _ e => ?_) (fun q => ?_)
  rotate_left
  · (repeat (first | exact Pc.ret (zr.rf _) | exact Pc.ret ((zr.rf _).w (by omega)) | exact Pc.ret (((zr.rf _).w (by omega)).w (by omega)) | exact Pc.ret (((zr.rf _).wL.w (by omega)).w (by omega)) | refine Pc.yb zb_X12_must (fun _ => ?_) | refine Pc.yb zb_X12_bounded (fun _ => ?_) | refine Pc.yb zb_X12_goesOn (fun _ => ?_) | refine Pc.yb zb_X12_tellLaw (fun _ => ?_) | refine Pc.yb zb_X12_tellTune (fun _ => ?_) | refine Pc.yb zb_X12_tellGoer (fun _ => ?_) | refine Pc.yb zb_X12_tellRope (fun _ => ?_) | refine Pc.yb ((zb_X12_must).mono (fun _ m => (((zr.rf _).w (by omega)).tr m))) (fun _ => ?_) | refine Pc.yb ((zb_X12_bounded).mono (fun _ m => (((zr.rf _).w (by omega)).tr m))) (fun _ => ?_) | refine Pc.ite (fun _ => ?_) (fun _ => ?_) | exact Pc.no))
  obtain ⟨m1, m2, m3, m4⟩ := e
  refine Pc.chk (fun _ => Pc.chk (fun _ => ?_))
  -- the end, whatever the bound of the offset
  have fin {up : Int32} : Pc ((F_X12_bounded n (wrI q8.2 240 (8 * s + T.tn.length) q8.1) 0 up).bind (fun q13 => (if ixOK (8 * hi g 226 19 + hi h 237 s) 16 = true then ((F_X12_must n (wrI q13.2 241 (8 * s + T.tn.length) q13.1) 4).bind (fun q16 => (if (hi q16 226 13 : Int32) = 0 then (if ixOK (hi q16 226 19) 2 = true then (if ixOK (hi q16 226 19) 2 = true then some (wrI q16 237 (Int32.toNatClampNeg (hi q16 226 19)) (hi q16 237 (Int32.toNatClampNeg (hi q16 226 19)) + 1)) else none) else none) else some q16))) else none))) (fun q => ZR q → rTell N kd pl vl s T t q) := by
    refine Pc.yt (yz_num X (m1.w (x := 240) (by decide)) lit_0 rfl) (fun q13 _ e => ?_) (fun q => ?_)
    rotate_left
    · (repeat (first | exact Pc.ret (zr.rf _) | exact Pc.ret ((zr.rf _).w (by omega)) | exact Pc.ret (((zr.rf _).w (by omega)).w (by omega)) | exact Pc.ret (((zr.rf _).wL.w (by omega)).w (by omega)) | refine Pc.yb zb_X12_must (fun _ => ?_) | refine Pc.yb zb_X12_bounded (fun _ => ?_) | refine Pc.yb zb_X12_goesOn (fun _ => ?_) | refine Pc.yb zb_X12_tellLaw (fun _ => ?_) | refine Pc.yb zb_X12_tellTune (fun _ => ?_) | refine Pc.yb zb_X12_tellGoer (fun _ => ?_) | refine Pc.yb zb_X12_tellRope (fun _ => ?_) | refine Pc.yb ((zb_X12_must).mono (fun _ m => (((zr.rf _).w (by omega)).tr m))) (fun _ => ?_) | refine Pc.yb ((zb_X12_bounded).mono (fun _ m => (((zr.rf _).w (by omega)).tr m))) (fun _ => ?_) | refine Pc.ite (fun _ => ?_) (fun _ => ?_) | exact Pc.no))
    obtain ⟨o1, o2, o3, o4⟩ := e
    refine Pc.chk (fun _ => ?_)
    refine Pc.yt (yz_must X (o1.w (x := 241) (by decide)) 59 (by decide) (by decide) (by decide)) (fun q16 z16 e => ?_) (fun q => ?_)
    rotate_left
    · (repeat (first | exact Pc.ret (zr.rf _) | exact Pc.ret ((zr.rf _).w (by omega)) | exact Pc.ret (((zr.rf _).w (by omega)).w (by omega)) | exact Pc.ret (((zr.rf _).wL.w (by omega)).w (by omega)) | refine Pc.yb zb_X12_must (fun _ => ?_) | refine Pc.yb zb_X12_bounded (fun _ => ?_) | refine Pc.yb zb_X12_goesOn (fun _ => ?_) | refine Pc.yb zb_X12_tellLaw (fun _ => ?_) | refine Pc.yb zb_X12_tellTune (fun _ => ?_) | refine Pc.yb zb_X12_tellGoer (fun _ => ?_) | refine Pc.yb zb_X12_tellRope (fun _ => ?_) | refine Pc.yb ((zb_X12_must).mono (fun _ m => (((zr.rf _).w (by omega)).tr m))) (fun _ => ?_) | refine Pc.yb ((zb_X12_bounded).mono (fun _ m => (((zr.rf _).w (by omega)).tr m))) (fun _ => ?_) | refine Pc.ite (fun _ => ?_) (fun _ => ?_) | exact Pc.no))
    obtain ⟨j1, j2, j3, j4⟩ := e
    refine Pc.eq (fun _ => ?_) (fun y => absurd (z16.1.trans lit_0.symm) y)
    rw [side_n j1]
    refine Pc.chk (fun _ => Pc.chk (fun _ => Pc.ret (fun _ => ?_)))
    have r8 (x k : Nat) (m : 227 ≤ x) (m2 : ¬ ((238 ≤ x ∧ x ≤ 241) ∧ k = 8 * s + T.tn.length)) : hi q16 x k = hi h x k := by
      rw [j3.1 x k (by omega), hi_wrI, if_neg (by omega), o3.1 x k (by omega), hi_wrI, if_neg (by omega), m3.1 x k (by omega), hi_wrI, if_neg (by omega), i3.1 x k (by omega), hi_wrI, if_neg (by omega), e3.1 x k (by omega), fg.1 x k (by omega)]
    have e8 : hi q16 237 s = hi h 237 s := r8 237 s (by omega) (by omega)
    rw [e8]
    generalize eu : wrI q16 237 s (hi h 237 s + 1) = u
    have ru (x k : Nat) (m : x ≠ 237) : hi u x k = hi q16 x k := hiA eu x k m
    have r (x k : Nat) (m : 227 ≤ x) (m2 : ¬ (237 ≤ x ∧ x ≤ 241)) : hi u x k = hi h x k := by rw [ru x k (by omega), r8 x k m (by omega)]
    have r20 : hi u 226 20 = hi h 226 20 := by
      rw [ru 226 20 (by decide), j3.1 226 20 (by decide), hi_wrI, if_neg (by omega), o3.1 226 20 (by decide), hi_wrI, if_neg (by omega), m3.1 226 20 (by decide), hi_wrI, if_neg (by omega), i3.1 226 20 (by decide), hi_wrI, if_neg (by omega), e3.1 226 20 (by decide), fg.1 226 20 (by decide)]
    have au : rX N kd pl vl s (t + 6) B c u := by rw [← eu]; exact j1.w (by decide)
    have a1 := adT (hi h 237 s) 1 (by omega) (by omega)
    have ll : (T.tn ++ [((vl (t + 1), vl (t + 2)), (vl (t + 3), vl (t + 4)))]).length = T.tn.length + 1 := by simp
    refine ⟨TT.mk T.lw (T.tn ++ [((vl (t + 1), vl (t + 2)), (vl (t + 3), vl (t + 4)))]) T.go T.ro T.ws T.la, t + 6, B, c, Or.inr (Or.inl ⟨k10, rfl, rfl⟩), by omega, au, ⟨d1.cg (r 235 s (by omega) (by omega)) (r 236 s (by omega) (by omega)), ⟨?_, fun k hk => ?_⟩, d3.cg (fun x k h1 h2 => r x k (by omega) (by omega)) r20, d4.cg (fun x k h1 h2 => r x k (by omega) (by omega)), d5.cg (r 248 s (by omega) (by omega)) (r 249 s (by omega) (by omega))⟩, d6.cg (Nat.le_refl B) (Nat.le_refl c) (fun k _ => ⟨r 250 _ (by omega) (by omega), r 251 _ (by omega) (by omega)⟩) (fun x j h1 h2 _ => r x j (by omega) (by omega)) (fun j _ => ⟨r 257 j (by omega) (by omega), r 258 j (by omega) (by omega)⟩), (show (T.tn ++ [((vl (t + 1), vl (t + 2)), (vl (t + 3), vl (t + 4)))]).length ≤ 8 by omega), d7.2⟩
    · show (hi u 237 s).toInt = ((T.tn ++ [((vl (t + 1), vl (t + 2)), (vl (t + 3), vl (t + 4)))]).length : Int)
      rw [hiE eu, ll]; omega
    · show (hi u 238 (8 * s + k)).toInt = ((T.tn ++ [((vl (t + 1), vl (t + 2)), (vl (t + 3), vl (t + 4)))]).getD k ((0, 0), (0, 0))).1.1 ∧ (hi u 239 (8 * s + k)).toInt = ((T.tn ++ [((vl (t + 1), vl (t + 2)), (vl (t + 3), vl (t + 4)))]).getD k ((0, 0), (0, 0))).1.2 ∧ (hi u 240 (8 * s + k)).toInt = ((T.tn ++ [((vl (t + 1), vl (t + 2)), (vl (t + 3), vl (t + 4)))]).getD k ((0, 0), (0, 0))).2.1 ∧ (hi u 241 (8 * s + k)).toInt = ((T.tn ++ [((vl (t + 1), vl (t + 2)), (vl (t + 3), vl (t + 4)))]).getD k ((0, 0), (0, 0))).2.2
      rw [ru 238 _ (by decide), ru 239 _ (by decide), ru 240 _ (by decide), ru 241 _ (by decide)]
      rcases snd_lt (d := (((0 : Int), (0 : Int)), ((0 : Int), (0 : Int)))) hk with ⟨y1, y2⟩ | ⟨y1, y2⟩
      · rw [y2, y1]
        refine ⟨?_, ?_, ?_, ?_⟩
        · rw [j3.1 238 _ (by omega), hi_wrI, if_neg (by omega), o3.1 238 _ (by omega), hi_wrI, if_neg (by omega), m3.1 238 _ (by omega), hi_wrI, if_neg (by omega), i3.1 238 _ (by omega), hi_wrI, if_pos ⟨rfl, rfl⟩]; exact e4
        · rw [j3.1 239 _ (by omega), hi_wrI, if_neg (by omega), o3.1 239 _ (by omega), hi_wrI, if_neg (by omega), m3.1 239 _ (by omega), hi_wrI, if_pos ⟨rfl, rfl⟩]; exact i4
        · rw [j3.1 240 _ (by omega), hi_wrI, if_neg (by omega), o3.1 240 _ (by omega), hi_wrI, if_pos ⟨rfl, rfl⟩]; exact m4
        · rw [j3.1 241 _ (by omega), hi_wrI, if_pos ⟨rfl, rfl⟩]; exact o4
      · rw [y2, r8 238 _ (by omega) (by omega), r8 239 _ (by omega) (by omega), r8 240 _ (by omega) (by omega), r8 241 _ (by omega) (by omega)]
        exact d2.2 k y1
  have e240 : hi (wrI q8.2 240 (8 * s + T.tn.length) q8.1) 240 (8 * s + T.tn.length) = q8.1 := hiE rfl
  refine Pc.ite (fun _ => ?_) (fun _ => ?_)
  · exact fin
  · refine Pc.chk (fun _ => ?_)
    exact fin
theorem yt_goerL (X : TX N kd pl vl) {T : TT} (d : rD s T B c h) (l5 : T.go.length < 5) (hs : s ≤ 1) (t0 : Nat) (k11 : kd t0 = 11) {l1 l2 : Int32} (hl1 : l1.toInt = ((5 * s + T.go.length : Nat) : Int)) : ∀ (n : Nat) (g : Hp) (l3 : Int32), rX N kd pl vl s (t0 + 2) B c g → frQ h g → (t0 + 2 ≤ 400 ∧ 0 ≤ l2.toInt) → Pc (W_X12_tellGoer n 29 g l1 l2 l3) (fun q => ZR q → rTell N kd pl vl s T t0 q) := by
  have f0 := lit_0
  have f1 := lit_1
  have f3 := lit_3
  have n1 := ncT (show 0 ≤ l1.toInt by omega)
  have n1' : Int32.toNatClampNeg l1 = 5 * s + T.go.length := by omega
  intro n
  induction n with
  | zero => intro g l3 ag fg p; exact Pc.no
  | succ n ih =>
    intro g l3 ag fg p
    -- the end
    have fin : Pc ((F_X12_bounded n g 0 4).bind (fun q2 => (if ixOK l1 10 = true then ((F_X12_bounded n (wrI q2.2 243 (5 * s + T.go.length) q2.1) 0 4).bind (fun q5 => (if ixOK l1 10 = true then ((F_X12_must n (wrI q5.2 244 (5 * s + T.go.length) q5.1) 4).bind (fun q8 => (if ((hi q8 226 13) : Int32) ≤ (0 : Int32) then (if ixOK l2 403 = true then (if ixOK (hi q8 226 20) 5 = true then (if ixOK (hi (wrI (wrL q8 234 (Int32.toNatClampNeg (hi q8 226 20)) (hl q8 232 (Int32.toNatClampNeg l2))) 226 20 ((hi (wrL q8 234 (Int32.toNatClampNeg (hi q8 226 20)) (hl q8 232 (Int32.toNatClampNeg l2))) 226 20) + 1)) 226 19) 2 = true then (if ixOK (hi (wrI (wrL q8 234 (Int32.toNatClampNeg (hi q8 226 20)) (hl q8 232 (Int32.toNatClampNeg l2))) 226 20 ((hi (wrL q8 234 (Int32.toNatClampNeg (hi q8 226 20)) (hl q8 232 (Int32.toNatClampNeg l2))) 226 20) + 1)) 226 19) 2 = true then some (wrI (wrI (wrL q8 234 (Int32.toNatClampNeg (hi q8 226 20)) (hl q8 232 (Int32.toNatClampNeg l2))) 226 20 ((hi (wrL q8 234 (Int32.toNatClampNeg (hi q8 226 20)) (hl q8 232 (Int32.toNatClampNeg l2))) 226 20) + 1)) 242 (Int32.toNatClampNeg (hi (wrI (wrL q8 234 (Int32.toNatClampNeg (hi q8 226 20)) (hl q8 232 (Int32.toNatClampNeg l2))) 226 20 ((hi (wrL q8 234 (Int32.toNatClampNeg (hi q8 226 20)) (hl q8 232 (Int32.toNatClampNeg l2))) 226 20) + 1)) 226 19)) ((hi (wrI (wrL q8 234 (Int32.toNatClampNeg (hi q8 226 20)) (hl q8 232 (Int32.toNatClampNeg l2))) 226 20 ((hi (wrL q8 234 (Int32.toNatClampNeg (hi q8 226 20)) (hl q8 232 (Int32.toNatClampNeg l2))) 226 20) + 1)) 242 (Int32.toNatClampNeg (hi (wrI (wrL q8 234 (Int32.toNatClampNeg (hi q8 226 20)) (hl q8 232 (Int32.toNatClampNeg l2))) 226 20 ((hi (wrL q8 234 (Int32.toNatClampNeg (hi q8 226 20)) (hl q8 232 (Int32.toNatClampNeg l2))) 226 20) + 1)) 226 19))) + 1)) else none) else none) else none) else none) else some q8))) else none))) else none))) (fun q => ZR q → rTell N kd pl vl s T t0 q) := by
      refine Pc.yt (yz_num X ag lit_0 lit_4) (fun q2 _ e => ?_) (fun q => ?_)
      rotate_left
      · (repeat (first | exact Pc.ret (zr.rf _) | exact Pc.ret ((zr.rf _).w (by omega)) | exact Pc.ret (((zr.rf _).w (by omega)).w (by omega)) | exact Pc.ret (((zr.rf _).wL.w (by omega)).w (by omega)) | refine Pc.yb zb_X12_must (fun _ => ?_) | refine Pc.yb zb_X12_bounded (fun _ => ?_) | refine Pc.yb zb_X12_goesOn (fun _ => ?_) | refine Pc.yb zb_X12_tellLaw (fun _ => ?_) | refine Pc.yb zb_X12_tellTune (fun _ => ?_) | refine Pc.yb zb_X12_tellGoer (fun _ => ?_) | refine Pc.yb zb_X12_tellRope (fun _ => ?_) | refine Pc.yb ((zb_X12_must).mono (fun _ m => (((zr.rf _).w (by omega)).tr m))) (fun _ => ?_) | refine Pc.yb ((zb_X12_bounded).mono (fun _ m => (((zr.rf _).w (by omega)).tr m))) (fun _ => ?_) | refine Pc.ite (fun _ => ?_) (fun _ => ?_) | exact Pc.no))
      obtain ⟨e1, e2, e3, e4⟩ := e
      refine Pc.chk (fun _ => ?_)
      refine Pc.yt (yz_num X (e1.w (x := 243) (by decide)) lit_0 lit_4) (fun q5 _ e => ?_) (fun q => ?_)
      rotate_left
      · (repeat (first | exact Pc.ret (zr.rf _) | exact Pc.ret ((zr.rf _).w (by omega)) | exact Pc.ret (((zr.rf _).w (by omega)).w (by omega)) | exact Pc.ret (((zr.rf _).wL.w (by omega)).w (by omega)) | refine Pc.yb zb_X12_must (fun _ => ?_) | refine Pc.yb zb_X12_bounded (fun _ => ?_) | refine Pc.yb zb_X12_goesOn (fun _ => ?_) | refine Pc.yb zb_X12_tellLaw (fun _ => ?_) | refine Pc.yb zb_X12_tellTune (fun _ => ?_) | refine Pc.yb zb_X12_tellGoer (fun _ => ?_) | refine Pc.yb zb_X12_tellRope (fun _ => ?_) | refine Pc.yb ((zb_X12_must).mono (fun _ m => (((zr.rf _).w (by omega)).tr m))) (fun _ => ?_) | refine Pc.yb ((zb_X12_bounded).mono (fun _ m => (((zr.rf _).w (by omega)).tr m))) (fun _ => ?_) | refine Pc.ite (fun _ => ?_) (fun _ => ?_) | exact Pc.no))
      obtain ⟨i1, i2, i3, i4⟩ := e
      refine Pc.chk (fun _ => ?_)
      refine Pc.yt (yz_must X (i1.w (x := 244) (by decide)) 59 (by decide) (by decide) (by decide)) (fun q8 z8 e => ?_) (fun q => ?_)
      rotate_left
      · (repeat (first | exact Pc.ret (zr.rf _) | exact Pc.ret ((zr.rf _).w (by omega)) | exact Pc.ret (((zr.rf _).w (by omega)).w (by omega)) | exact Pc.ret (((zr.rf _).wL.w (by omega)).w (by omega)) | refine Pc.yb zb_X12_must (fun _ => ?_) | refine Pc.yb zb_X12_bounded (fun _ => ?_) | refine Pc.yb zb_X12_goesOn (fun _ => ?_) | refine Pc.yb zb_X12_tellLaw (fun _ => ?_) | refine Pc.yb zb_X12_tellTune (fun _ => ?_) | refine Pc.yb zb_X12_tellGoer (fun _ => ?_) | refine Pc.yb zb_X12_tellRope (fun _ => ?_) | refine Pc.yb ((zb_X12_must).mono (fun _ m => (((zr.rf _).w (by omega)).tr m))) (fun _ => ?_) | refine Pc.yb ((zb_X12_bounded).mono (fun _ m => (((zr.rf _).w (by omega)).tr m))) (fun _ => ?_) | refine Pc.ite (fun _ => ?_) (fun _ => ?_) | exact Pc.no))
      obtain ⟨j1, j2, j3, j4⟩ := e
      have z8' := z8.1
      refine Pc.le (fun _ => Pc.chk (fun _ => Pc.chk (fun _ => ?_))) (fun y => by exfalso; omega)
      obtain ⟨⟨d1, d2, d3, d4, d5⟩, d6, d7⟩ := d
      generalize ew : wrL q8 234 _ _ = w
      have rw' (x k : Nat) : hi w x k = hi q8 x k := by rw [← ew]; rfl
      generalize ev : wrI w 226 20 (hi w 226 20 + 1) = v
      have rv (x k : Nat) (m : ¬ (x = 226 ∧ k = 20)) : hi v x k = hi q8 x k := by rw [← ev, hi_wrI, if_neg m, rw']
      have aw : rX N kd pl vl s (t0 + 5) B c v := by
        have e5 : rX N kd pl vl s (t0 + 5) B c q8 := j1
        obtain ⟨⟨⟨c1, c2, c3, c4⟩, c5, c6, c7⟩, c8⟩ := e5
        refine ⟨⟨⟨c1.cg ⟨fun z => rv 229 z (by omega), fun z => rv 230 z (by omega), fun z => rv 231 z (by omega)⟩, c2, ?_, ?_⟩, ?_, ?_, ?_⟩, ?_⟩
        · unfold rT
          rw [rv 226 13 (by decide), rv 226 11 (by decide), rv 226 14 (by decide)]
          exact c3
        · rw [rv 226 12 (by decide)]; exact c4
        · rw [rv 226 39 (by decide)]; exact c5
        · rw [rv 226 45 (by decide)]; exact c6
        · rw [rv 226 19 (by decide)]; exact c7
        · rw [rv 226 15 (by decide)]; exact c8
      rw [side_n aw]
      refine Pc.chk (fun _ => Pc.chk (fun _ => Pc.ret (fun _ => ?_)))
      have r8 (x k : Nat) (m : 227 ≤ x) (m2 : ¬ ((x = 243 ∨ x = 244) ∧ k = 5 * s + T.go.length)) : hi q8 x k = hi h x k := by
        rw [j3.1 x k (by omega), hi_wrI, if_neg (by omega), i3.1 x k (by omega), hi_wrI, if_neg (by omega), e3.1 x k (by omega), fg.1 x k (by omega)]
      have e20 : hi q8 226 20 = hi h 226 20 := by
        rw [j3.1 226 20 (by decide), hi_wrI, if_neg (by omega), i3.1 226 20 (by decide), hi_wrI, if_neg (by omega), e3.1 226 20 (by decide), fg.1 226 20 (by decide)]
      have e42 : hi v 242 s = hi h 242 s := by rw [rv 242 s (by omega), r8 242 s (by omega) (by omega)]
      rw [e42]
      generalize eu : wrI v 242 s (hi h 242 s + 1) = u
      have ru (x k : Nat) (m : x ≠ 242) : hi u x k = hi v x k := hiA eu x k m
      have r (x k : Nat) (m : 227 ≤ x) (m2 : ¬ (242 ≤ x ∧ x ≤ 244)) : hi u x k = hi h x k := by rw [ru x k (by omega), rv x k (by omega), r8 x k m (by omega)]
      have au : rX N kd pl vl s (t0 + 5) B c u := by rw [← eu]; exact aw.w (by decide)
      have g1 := d3.1
      have g2 := d3.2.1
      have a1 := adT (hi h 242 s) 1 (by omega) (by omega)
      have a2 := adT (hi h 226 20) 1 (by omega) (by omega)
      have ll : (T.go ++ [(vl (t0 + 2), vl (t0 + 3))]).length = T.go.length + 1 := by simp
      refine ⟨TT.mk T.lw T.tn (T.go ++ [(vl (t0 + 2), vl (t0 + 3))]) T.ro T.ws T.la, t0 + 5, B, c, Or.inr (Or.inr (Or.inl ⟨k11, rfl, rfl⟩)), by omega, au, ⟨d1.cg (r 235 s (by omega) (by omega)) (r 236 s (by omega) (by omega)), d2.cg (fun x k h1 h2 => r x k (by omega) (by omega)), ⟨?_, ?_, fun k hk => ?_⟩, d4.cg (fun x k h1 h2 => r x k (by omega) (by omega)), d5.cg (r 248 s (by omega) (by omega)) (r 249 s (by omega) (by omega))⟩, d6.cg (Nat.le_refl B) (Nat.le_refl c) (fun k _ => ⟨r 250 _ (by omega) (by omega), r 251 _ (by omega) (by omega)⟩) (fun x j h1 h2 _ => r x j (by omega) (by omega)) (fun j _ => ⟨r 257 j (by omega) (by omega), r 258 j (by omega) (by omega)⟩), d7.1, (show (T.go ++ [(vl (t0 + 2), vl (t0 + 3))]).length ≤ 5 by omega), d7.2.2⟩
      · show (hi u 242 s).toInt = ((T.go ++ [(vl (t0 + 2), vl (t0 + 3))]).length : Int)
        rw [hiE eu, ll]; omega
      · show (hi u 226 20).toInt = ((T.go ++ [(vl (t0 + 2), vl (t0 + 3))]).length : Int)
        rw [ru 226 20 (by decide), hiE ev, rw', e20, ll]; omega
      · show (hi u 243 (5 * s + k)).toInt = ((T.go ++ [(vl (t0 + 2), vl (t0 + 3))]).getD k (0, 0)).1 ∧ (hi u 244 (5 * s + k)).toInt = ((T.go ++ [(vl (t0 + 2), vl (t0 + 3))]).getD k (0, 0)).2
        rw [ru 243 _ (by decide), ru 244 _ (by decide), rv 243 _ (by omega), rv 244 _ (by omega)]
        rcases snd_lt (d := ((0 : Int), (0 : Int))) hk with ⟨y1, y2⟩ | ⟨y1, y2⟩
        · rw [y2, y1]
          refine ⟨?_, ?_⟩
          · rw [j3.1 243 _ (by omega), hi_wrI, if_neg (by omega), i3.1 243 _ (by omega), hi_wrI, if_pos ⟨rfl, rfl⟩]; exact e4
          · rw [j3.1 244 _ (by omega), hi_wrI, if_pos ⟨rfl, rfl⟩]; exact i4
        · rw [y2, r8 243 _ (by omega) (by omega), r8 244 _ (by omega) (by omega)]
          exact d3.2.2 k y1
    have s1 := ag.1.1.2.2.1.2.1
    rw [u_X12_tellGoer, n1']
    refine Pc.pos rfl ?_
    refine Pc.ite (fun _ => fin) (fun _ => ?_)
    refine Pc.eq (fun _ => ?_) (fun y => by exfalso; omega)
    refine Pc.chk (fun _ => Pc.chk (fun c4 => Pc.ite (fun _ => ?_) (fun _ => ih g _ ag fg p)))
    -- a name told already
    have wr : Pc (F_X12_wrong n g 3 l2) (fun q => ¬ ZR q) := by
      unfold F_X12_wrong
      refine Pc.chk (fun _ => Pc.lt (fun y => by exfalso; omega) (fun _ => Pc.eq (fun _ => Pc.ret (fun z => ?_)) (fun y => absurd (ag.2.trans f0.symm) y)))
      have := z.2
      rw [hi_wrI, if_neg (by decide), hi_wrI, if_pos ⟨rfl, rfl⟩] at this
      omega
    exact Pc.bind wr (fun q32 nz => (zv_X12_tellGoer _ _ _ _ _ _).mono (fun q m z => absurd (m.1 z) nz))
theorem yt_goer (X : TX N kd pl vl) (a : rX N kd pl vl s t B c h) {T : TT} (d : rD s T B c h) (l5 : T.go.length < 5) (hs : s ≤ 1) {g : Hp} (ag : rX N kd pl vl s (t + 1) B c g) (fg : frQ h g) (k11 : kd t = 11) : Pc (F_X12_tellGoer n g) (fun q => ZR q → rTell N kd pl vl s T t q) := by
  have f5 := lit_5
  have g42 : hi g 242 s = hi h 242 s := fg.1 242 s (by omega)
  have l0 := d.1.2.2.1.1
  have g19 := ag.1.2.2.2
  have g11 := ag.1.1.2.2.1.2.2.1 rfl
  unfold F_X12_tellGoer
  rw [side_n ag, g42]
  have m5 := mlT 5 (hi g 226 19) 5 f5 (by omega) (by omega)
  have ad := adT (5 * hi g 226 19) (hi h 242 s) (by omega) (by omega)
  refine Pc.chk (fun _ => ?_)
  refine Pc.yt (yz_must X ag 31 (by decide) (by decide) (by decide)) (fun q35 _ e => ?_) (fun q => ?_)
  · obtain ⟨e1, e2, e3, e4⟩ := e
    exact yt_goerL X d l5 hs t k11 (by omega) n q35 0 e1 (fg.tr e3) ⟨by omega, by omega⟩
  · exact zv_X12_tellGoer _ _ _ _ _ _
theorem yt_law (X : TX N kd pl vl) (a : rX N kd pl vl s t B c h) {T : TT} (d : rD s T B c h) (hs : s ≤ 1) {k : Nat} (k4 : k < 4) (hk : kd t = 13 + (k : Int)) {x1 : Int32} (hx : x1.toInt = (k : Int)) : Pc ((F_X12_goesOn n h).bind (fun q47 => ((F_X12_tellLaw n q47 x1).bind (fun q49 => some q49)))) (fun q => ZR q → rTell N kd pl vl s T t q) := by
  refine Pc.yt (yz_goes X a (by omega)) (fun q3 _ b => ?_) (fun q => ?_)
  rotate_left
  · (repeat (first | exact Pc.ret (zr.rf _) | exact Pc.ret ((zr.rf _).w (by omega)) | exact Pc.ret (((zr.rf _).w (by omega)).w (by omega)) | exact Pc.ret (((zr.rf _).wL.w (by omega)).w (by omega)) | refine Pc.yb zb_X12_must (fun _ => ?_) | refine Pc.yb zb_X12_bounded (fun _ => ?_) | refine Pc.yb zb_X12_goesOn (fun _ => ?_) | refine Pc.yb zb_X12_tellLaw (fun _ => ?_) | refine Pc.yb zb_X12_tellTune (fun _ => ?_) | refine Pc.yb zb_X12_tellGoer (fun _ => ?_) | refine Pc.yb zb_X12_tellRope (fun _ => ?_) | refine Pc.yb ((zb_X12_must).mono (fun _ m => (((zr.rf _).w (by omega)).tr m))) (fun _ => ?_) | refine Pc.yb ((zb_X12_bounded).mono (fun _ m => (((zr.rf _).w (by omega)).tr m))) (fun _ => ?_) | refine Pc.ite (fun _ => ?_) (fun _ => ?_) | exact Pc.no))
  obtain ⟨b1, b2, b3⟩ := b
  refine Pc.bind (fun q e => And.intro (qr_law X b1.1 hx k4 hs q e) (zf_X12_tellLaw q e)) (fun q hq => Pc.ret (fun z => ?_))
  obtain ⟨hq, fz⟩ := hq
  obtain ⟨bs, f, t', c', o1, o2, o3, o4, o5, o6, o7, o8, o9, o10, o11⟩ := hq z.1
  have r (x j : Nat) (m : 227 ≤ x ∧ x < 250) : hi q x j = hi h x j := by
    rw [fz.1 x j (by intro y; omega), b2.1 x j (by omega)]
  have r20 : hi q 226 20 = hi h 226 20 := by rw [fz.1 226 20 (by intro y; omega), b2.1 226 20 (by decide)]
  obtain ⟨⟨d1, d2, d3, d4, d5⟩, d6, d7⟩ := d
  have ek : (kd t - 13).toNat = k := by omega
  have lt : t + 2 ≤ t' := LW.le o2
  refine ⟨TT.mk T.lw T.tn T.go T.ro T.ws (updL T.la k (bs, f)), t' + 1, B + bs.length + 1, c', Or.inr (Or.inr (Or.inr (Or.inr (Or.inr (Or.inr ⟨by omega, by omega, bs, f, t', o2, by rw [ek], rfl⟩))))), by omega, ⟨o4, z.2⟩, ⟨d1.cg (r 235 s (by omega)) (r 236 s (by omega)), d2.cg (fun x k h1 h2 => r x k (by omega)), d3.cg (fun x k h1 h2 => r x k (by omega)) r20, d4.cg (fun x k h1 h2 => r x k (by omega)), d5.cg (r 248 s (by omega)) (r 249 s (by omega))⟩, fun j hj => ?_, d7⟩
  show ((if j = k then some (bs, f) else T.la j) = none → _) ∧ ∀ b, (if j = k then some (bs, f) else T.la j) = some b → _
  by_cases y : j = k
  · rw [if_pos y, y]
    refine ⟨fun z => absurd z (Option.some_ne_none _), fun b hb => ?_⟩
    have e : (bs, f) = b := Option.some.inj hb
    rw [← e]
    exact ⟨B, o7, o8, Nat.le_refl _, o6⟩
  · rw [if_neg y, (o11 (4 * s + j) (by omega)).1, (o11 (4 * s + j) (by omega)).2, b2.1 250 _ (by omega), b2.1 251 _ (by omega)]
    refine ⟨(d6 j hj).1, fun b hb => ?_⟩
    obtain ⟨D, e1, e2, e3, e4⟩ := (d6 j hj).2 b hb
    refine ⟨D, e1, e2, by omega, e4.cg o5 (fun x i h1 h2 h3 h4 => ?_) (fun i hi' => ?_)⟩
    · rw [o9 x i h1 h2 (by omega), b2.1 x i (by omega)]
    · rw [(o10 i hi').1, (o10 i hi').2, b2.1 257 i (by omega), b2.1 258 i (by omega)]
      exact ⟨rfl, rfl⟩
end RU
