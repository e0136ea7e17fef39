/-! what is told and what goes on, at the fresh state -/
section TAPE
theorem x_put1 (x y : Int32) {n t : Nat} {h : Hp} (hy : ¬ y < 0) (ht : hi h 0 1 = nI t) (hl : t < 2000) : ∃ h', W_X11_putOnTape (n + 1) 3 h x y = W_X11_putOnTape n 3 h' x (y + (-8)) ∧ hi h' 0 1 = nI (t + 1) ∧ kM h h' := by
  refine ⟨wrI (wrI h 1 t ((((x.toUInt32 >>> (y.toUInt32 &&& Int32.toUInt32 31)).toInt32) : Int32).toInt8.toInt32)) 0 1 (nI t + 1), ?_, ?_, kM.w (by decide) (kM.w (by decide) kM.rf)⟩
  · rw [u_X11_putOnTape, if_pos rfl, if_neg hy, ht, if_neg (show ¬ (2000 : Int32) ≤ nI t from nI_ge (b := 2000) hl (by decide)), if_pos (ixN hl (by decide)), nI_clamp (by omega), hi_ne (by decide), ht]
  · rw [hi_eq, nI_1]
theorem x_put (x : Int32) {n t : Nat} {h : Hp} (ht : hi h 0 1 = nI t) (hl : t + 4 ≤ 2000) : ∃ h', F_X11_putOnTape (n + 5) h x = some h' ∧ hi h' 0 1 = nI (t + 4) ∧ kM h h' := by
  obtain ⟨h1, e1, t1, k1⟩ := x_put1 x 24 (n := n + 4) (h := h) (by decide) ht (by omega)
  obtain ⟨h2, e2, t2, k2⟩ := x_put1 x (24 + (-8)) (n := n + 3) (h := h1) (by decide) t1 (by omega)
  obtain ⟨h3, e3, t3, k3⟩ := x_put1 x (24 + (-8) + (-8)) (n := n + 2) (h := h2) (by decide) t2 (by omega)
  obtain ⟨h4, e4, t4, k4⟩ := x_put1 x (24 + (-8) + (-8) + (-8)) (n := n + 1) (h := h3) (by decide) t3 (by omega)
  refine ⟨h4, ?_, t4, ((k1.tr k2).tr k3).tr k4⟩
  rw [F_X11_putOnTape, e1, e2, e3, e4, u_X11_putOnTape, if_pos rfl, if_pos (by decide)]
theorem m_lay1 (x y : Int32) {n t : Nat} {h : Hp} (hy : ¬ y < 0) (ht : hi h 226 2 = nI t) (hl : t < 2000) : ∃ h', W_X12_lays (n + 1) 3 h x y = W_X12_lays n 3 h' x (y + (-8)) ∧ hi h' 226 2 = nI (t + 1) := by
  refine ⟨wrI (wrI h 227 t ((((x >>> (y &&& 31)) : Int32)).toInt8.toInt32)) 226 2 (nI t + 1), ?_, ?_⟩
  · rw [u_X12_lays, if_pos rfl, if_neg hy, ht, if_pos (ixN hl (by decide)), nI_clamp (by omega), hi_ne (by decide), ht]
  · rw [hi_eq, nI_1]
theorem m_lay (x : Int32) {n t : Nat} {h : Hp} (ht : hi h 226 2 = nI t) (hl : t + 4 ≤ 2000) : ∃ h', F_X12_lays (n + 5) h x = some h' ∧ hi h' 226 2 = nI (t + 4) := by
  obtain ⟨h1, e1, t1⟩ := m_lay1 x 24 (n := n + 4) (h := h) (by decide) ht (by omega)
  obtain ⟨h2, e2, t2⟩ := m_lay1 x (24 + (-8)) (n := n + 3) (h := h1) (by decide) t1 (by omega)
  obtain ⟨h3, e3, t3⟩ := m_lay1 x (24 + (-8) + (-8)) (n := n + 2) (h := h2) (by decide) t2 (by omega)
  obtain ⟨h4, e4, t4⟩ := m_lay1 x (24 + (-8) + (-8) + (-8)) (n := n + 1) (h := h3) (by decide) t3 (by omega)
  refine ⟨h4, ?_, t4⟩
  rw [F_X12_lays, e1, e2, e3, e4, u_X12_lays, if_pos rfl, if_pos (by decide)]
theorem pu_feed {h0 : Hp} (hX : FX h0) (hM : FM h0) : PU_feed h0 := by
  intro x1 x2 x3 x4 x5
  have a0 : hi h0 0 1 = nI 0 := hX.2.2.2.2.1.1
  obtain ⟨h1, e1, a1, k1⟩ := x_put x1 (n := 0) a0 (by decide)
  obtain ⟨h2, e2, a2, k2⟩ := x_put x2 (n := 0) a1 (by decide)
  obtain ⟨h3, e3, a3, k3⟩ := x_put x3 (n := 0) a2 (by decide)
  obtain ⟨h4, e4, a4, k4⟩ := x_put x4 (n := 0) a3 (by decide)
  obtain ⟨h5, e5, a5, k5⟩ := x_put x5 (n := 0) a4 (by decide)
  have hM5 := hM.keep ((((k1.tr k2).tr k3).tr k4).tr k5)
  have b0 : hi h5 226 2 = nI 0 := hM5.2.2.2.2.1.1
  obtain ⟨g1, f1, b1⟩ := m_lay x1 (n := 0) b0 (by decide)
  obtain ⟨g2, f2, b2⟩ := m_lay x2 (n := 0) b1 (by decide)
  obtain ⟨g3, f3, b3⟩ := m_lay x3 (n := 0) b2 (by decide)
  obtain ⟨g4, f4, b4⟩ := m_lay x4 (n := 0) b3 (by decide)
  obtain ⟨g5, f5, b5⟩ := m_lay x5 (n := 0) b4 (by decide)
  refine ⟨0 + 5, (nI 20, h5), 0 + 5, (nI 20, g5), ?_, ?_, rfl⟩
  · rw [F_X11_feed, a0, if_pos (by decide), e1, Option.bind_some, e2, Option.bind_some, e3, Option.bind_some, e4, Option.bind_some, e5, Option.bind_some, a5]
  · rw [F_X12_feed]
    show (if hi h5 226 2 + 20 ≤ 2000 then _ else _) = _
    rw [b0, if_pos (by decide), f1, Option.bind_some, f2, Option.bind_some, f3, Option.bind_some, f4, Option.bind_some, f5, Option.bind_some, b5]
end TAPE
section TELL
theorem lt60 (x : Int32) : (x < (60 : Int32)) ↔ ¬ ((59 : Int32) < x) := by
  rw [Int32.lt_iff_toInt_lt, Int32.lt_iff_toInt_lt]
  have e1 : (60 : Int32).toInt = 60 := by decide
  have e2 : (59 : Int32).toInt = 59 := by decide
  omega
theorem pu_tell {h0 : Hp} (hX : FX h0) (hM : FM h0) : PU_tell h0 := by
  intro x1 x2 _
  have s0 : hi h0 201 2 = 0 := hX.2.2.2.2.2.2
  have m0 : hi h0 226 65 = 0 := hM.2.2.2.2.1.2.2.2
  by_cases c1 : x1 < 0
  · refine ⟨1, (-1, h0), 1, (-1, h0), ?_, ?_, rfl⟩
    · rw [F_X11_tell, F_X2_keep, s0, if_neg (by decide), if_pos c1, Option.bind_some]
    · rw [F_X12_tell, m0, if_neg (by decide), F_X12_isTime, F_X12_in, if_pos c1, Option.bind_some, if_pos (Or.inl rfl), Option.bind_some, if_pos rfl]
  by_cases c2 : x1 < 60
  · have e1 : ∀ v : Int32, hi (wrI h0 202 0 v) 201 2 = 0 := fun v => (hi_ne (by decide)).trans s0
    have e2 : ∀ v w : Int32, hi (wrI (wrI h0 202 0 v) 203 0 w) 201 2 = 0 := fun v w => (hi_ne (by decide)).trans (e1 v)
    have i0 : ixOK 0 20 = true := by decide
    refine ⟨1, (0, wrI (wrI (wrI h0 202 0 x1.toInt8.toInt32) 203 0 x2) 201 2 (0 + 1)), 1, (0, wrI (wrI (wrI (wrI (wrI (wrI h0 202 0 x1.toInt8.toInt32) 203 0 x2) 201 2 (0 + 1)) 271 0 x1) 272 0 x2) 226 65 (0 + 1)), ?_, ?_, rfl⟩
    · rw [F_X11_tell, F_X2_keep]
      simp only [s0, ck0, e1, e2, hi_eq, i0, if_true]
      rw [if_neg (by decide), if_neg c1, if_pos c2, Option.bind_some]
      rfl
    · show F_X12_tell 1 (wrI (wrI (wrI h0 202 0 x1.toInt8.toInt32) 203 0 x2) 201 2 (0 + 1)) x1 x2 = _
      generalize hg : wrI (wrI (wrI h0 202 0 x1.toInt8.toInt32) 203 0 x2) 201 2 (0 + 1) = g
      have m1 : hi g 226 65 = 0 := by
        rw [← hg, hi_ne (by decide), hi_ne (by decide), hi_ne (by decide)]
        exact m0
      have m2 : ∀ v : Int32, hi (wrI g 271 0 v) 226 65 = 0 := fun v => (hi_ne (by decide)).trans m1
      have m3 : ∀ v w : Int32, hi (wrI (wrI g 271 0 v) 272 0 w) 226 65 = 0 := fun v w => (hi_ne (by decide)).trans (m2 v)
      have hT : F_X12_isTime 1 g x1 = some (1, g) := by
        rw [F_X12_isTime, F_X12_in, if_neg c1, if_neg ((lt60 x1).mp c2), Option.bind_some, if_pos (Or.inr rfl)]
      rw [F_X12_tell, hT, Option.bind_some]
      simp only [m1, ck0, m2, m3, hi_eq, i0, if_true]
      rw [if_neg (by decide), if_neg (by decide)]
      rfl
  · refine ⟨1, (-1, h0), 1, (-1, h0), ?_, ?_, rfl⟩
    · rw [F_X11_tell, F_X2_keep, s0, if_neg (by decide), if_neg c1, if_neg c2, Option.bind_some]
    · rw [F_X12_tell, m0, if_neg (by decide), F_X12_isTime, F_X12_in, if_neg c1, if_pos (Decidable.not_not.mp (fun q => c2 ((lt60 x1).mpr q))), Option.bind_some, if_pos (Or.inl rfl), Option.bind_some, if_pos rfl]
end TELL
section GOON
/-- a scene takes over another -/
theorem x_become {n a b1 : Nat} {h : Hp} (ha : a + 3 < 226) : ∃ h', F_X8_become n h a b1 = some h' ∧ kM h h' ∧ (∀ a' k', a' < a ∨ a + 3 < a' → hi h' a' k' = hi h a' k') ∧ (b1 < a ∨ a + 3 < b1 → ∀ k, k < 4 → hi h' a k = hi h b1 k) := by
  refine ⟨_, rfl, ?_, ?_, ?_⟩
  · exact kM.wA (by omega) (kM.wA (by omega) (kM.wA (by omega) (kM.w (by omega) (kM.w (by omega) (kM.w (by omega) (kM.w (by omega) kM.rf))))))
  · intro a' k' h1
    rw [hi_wrA, if_neg (by omega), hi_wrA, if_neg (by omega), hi_wrA, if_neg (by omega), hi_ne (by omega), hi_ne (by omega), hi_ne (by omega), hi_ne (by omega)]
  · intro hb k hk
    rw [hi_wrA, if_neg (by omega), hi_wrA, if_neg (by omega), hi_wrA, if_neg (by omega)]
    have hne : b1 ≠ a := by omega
    rcases (show k = 0 ∨ k = 1 ∨ k = 2 ∨ k = 3 by omega) with rfl | rfl | rfl | rfl
    · rw [hi_nk (by decide), hi_nk (by decide), hi_nk (by decide), hi_eq]
    · rw [hi_nk (by decide), hi_nk (by decide), hi_eq, hi_ne hne]
    · rw [hi_nk (by decide), hi_eq, hi_ne hne, hi_ne hne]
    · rw [hi_eq, hi_ne hne, hi_ne hne, hi_ne hne]
theorem x_keep {n : Nat} {h : Hp} (h1 : hi h 38 1 = 0) (h2 : hi h 38 2 = 0) : ∃ h', F_X6_keep n h 30 = some h' ∧ kM h h' ∧ ∀ a' k', a' < 38 → hi h' a' k' = hi h a' k' := by
  obtain ⟨g, e, k1, k2, -⟩ := x_become (n := n) (a := 44) (b1 := 30) (h := wrI h 38 1 1) (by decide)
  refine ⟨wrI g 38 2 (if (40 : Int32) < hi g 38 2 + 1 then 40 else hi g 38 2 + 1), ?_, kM.w (by decide) ((kM.w (by decide) kM.rf).tr k1), fun a' k' ha => ?_⟩
  · unfold F_X6_keep
    have e1 : hi h 38 1 + 1 - (hi h 38 1 + 1) / 40 * 40 = 1 := by rw [h1]; decide
    rw [e1, hi_eq, if_pos (by decide), show 40 + 4 * Int32.toNatClampNeg 1 = 44 by decide, e, Option.bind_some]
  · rw [hi_ne (by omega), k2 a' k' (by omega), hi_ne (by omega)]
theorem x_walk {n b1 : Nat} {h : Hp} (hb : b1 ≠ 23) (hg : hi h 23 2 = 0) : F_X0_walk (n + 2) h 23 b1 = some (wrI h b1 0 (hi h b1 0 + 1)) := by
  rw [F_X0_walk, u_X0_walk, if_pos rfl, hg, if_pos (Int32.le_refl 0), u_X0_walk, if_neg (by decide), if_pos rfl, hi_ne (fun q => hb q.symm), hg, if_pos (Int32.le_refl 0)]
theorem bit0 {n : Nat} {h : Hp} : F_J6_bitCount_0f7a4 n h 0 = some (0, h) := congrArg (fun z => some (z, h)) (by decide)
theorem x_quiet0 {n a : Nat} {h : Hp} : F_X3_quietOnTheRight n h a 0 = some (0, h) := by
  unfold F_X3_quietOnTheRight
  rw [Int32.zero_and]
theorem x_spread {n b1 : Nat} {h : Hp} (ht : hi h b1 3 = 0) (s : Int32) : F_X0_spread (n + 2) h 23 b1 s = some h := by
  unfold F_X0_spread
  rw [ht, bit0, Option.bind_some, ht, x_quiet0, Option.bind_some, u_X0_spread, if_pos rfl, if_neg (by decide), if_pos rfl, u_X0_spread, if_neg (by decide), if_pos rfl, if_neg (by decide), if_pos rfl]
theorem x_goW {N : Nat} (hN : N < 2 ^ 31) : ∀ (m j n t : Nat) (h : Hp), j + m = N → m + 3 ≤ n → hi h 23 2 = 0 → hi h 30 3 = 0 → hi h 30 0 = nI t → ∃ h', W_X0_goOn n 2 h 23 30 (nI N) (nI j) = some h' ∧ kM h h' ∧ hi h' 30 0 = nI (t + m) := by
  intro m
  induction m with
  | zero =>
    intro j n t h hj hn h1 h2 h3
    obtain ⟨n, rfl⟩ : ∃ n', n = n' + 1 := ⟨n - 1, by omega⟩
    refine ⟨h, ?_, kM.rf, h3⟩
    rw [u_X0_goOn, if_pos rfl, if_pos (nI_le (by omega) (by omega))]
  | succ m ih =>
    intro j n t h hj hn h1 h2 h3
    obtain ⟨n, rfl⟩ : ∃ n', n = n' + 3 := ⟨n - 3, by omega⟩
    obtain ⟨h', e, k1, k2⟩ := ih (j + 1) (n + 2) (t + 1) (wrI h 30 0 (nI t + 1)) (by omega) (by omega) ((hi_ne (by decide)).trans h1) ((hi_nk (by decide)).trans h2) (by rw [hi_eq, nI_1])
    refine ⟨h', ?_, (kM.w (by decide) kM.rf).tr k1, by rw [k2]; congr 1; omega⟩
    rw [u_X0_goOn, if_pos rfl, if_neg (nI_ge (by omega) hN), x_walk (by decide) h1, h3, Option.bind_some, x_spread ((hi_nk (by decide)).trans h2), Option.bind_some, nI_1 j]
    exact e
end GOON
section MGO
variable {t : Int32}
theorem m_spreadBW {h : Hp} (hF : FM h) (s : Int32) : ∀ (m j n : Nat), j + m = 16 → m < n → W_X12_spreadBits n 9 h 0 s (nI j) = some (s, h) := by
  intro m
  induction m with
  | zero =>
    intro j n hj hn
    obtain ⟨n, rfl⟩ : ∃ n', n = n' + 1 := ⟨n - 1, by omega⟩
    have e : j = 16 := by omega
    subst e
    rw [u_X12_spreadBits, if_pos rfl, m_cells hF, Option.bind_some, if_pos (show (16 : Int32) ≤ nI 16 from nI_le (Nat.le_refl _) (by decide))]
  | succ m ih =>
    intro j n hj hn
    obtain ⟨n, rfl⟩ : ∃ n', n = n' + 1 := ⟨n - 1, by omega⟩
    have e : (5 : Int32) * nI j + 1 = nI (5 * j + 1) := by
      rw [show (5 : Int32) = nI 5 from rfl, nI_mul, nI_1]
    rw [u_X12_spreadBits, if_pos rfl, m_cells hF, Option.bind_some, if_neg (show ¬ (16 : Int32) ≤ nI j from nI_ge (b := 16) (by omega) (by decide)), e, if_pos (ixN (by omega) (by decide)), sar0, if_pos rfl, nI_1]
    exact ih (j + 1) n (by omega) (by omega)
theorem m_spreadsW {h : Hp} (hF : FM h) : ∀ (m j n : Nat), j + m = 16 → m < n → W_X12_spreads n 7 h 0 (nI j) = some h := by
  intro m
  induction m with
  | zero =>
    intro j n hj hn
    obtain ⟨n, rfl⟩ : ∃ n', n = n' + 1 := ⟨n - 1, by omega⟩
    have e : j = 16 := by omega
    subst e
    rw [u_X12_spreads, if_pos rfl, m_cells hF, Option.bind_some, if_pos (show (16 : Int32) ≤ nI 16 from nI_le (Nat.le_refl _) (by decide))]
  | succ m ih =>
    intro j n hj hn
    obtain ⟨n, rfl⟩ : ∃ n', n = n' + 1 := ⟨n - 1, by omega⟩
    rw [u_X12_spreads, if_pos rfl, m_cells hF, Option.bind_some, if_neg (show ¬ (16 : Int32) ≤ nI j from nI_ge (b := 16) (by omega) (by decide)), sar0, if_pos rfl, nI_1]
    exact ih (j + 1) n (by omega) (by omega)
theorem m_spreads {n : Nat} {h : Hp} (hF : FM h) (hR : RZ t h) (hn : 17 ≤ n) : F_X12_spreads n h = some h := by
  unfold F_X12_spreads F_X12_spreadBits
  rw [m_tune hF hR hn, Option.bind_some, show W_X12_spreadBits n 9 h 0 0 0 = _ from m_spreadBW hF 0 16 0 n rfl (by omega), Option.bind_some]
  exact m_spreadsW hF 16 0 n rfl (by omega)
theorem m_beat {n : Nat} {h : Hp} (hF : FM h) (hR : RZ t h) (hn : 21 ≤ n) : F_X12_beatGoes n h = some (wrI h 263 61 (t + 1)) ∧ RZ (t + 1) (wrI h 263 61 (t + 1)) ∧ kS h (wrI h 263 61 (t + 1)) := by
  obtain ⟨n, rfl⟩ : ∃ n', n = n' + 4 := ⟨n - 4, by omega⟩
  have hR' : RZ (t + 1) (wrI h 263 61 (t + 1)) := ⟨fun k hk => (hi_nk (by omega)).trans (hR.1 k hk), hi_eq⟩
  have hk : kS h (wrI h 263 61 (t + 1)) := kS.w (Or.inl rfl) kS.rf
  have hF' := hF.kS hk
  refine ⟨?_, hR', hk⟩
  have s1 : ∀ (q : Nat) (g : Hp), FM g → W_X12_beatGoes (q + 1) 2 g 0 = W_X12_beatGoes q 34 g 0 := fun q g hg => by
    rw [u_X12_beatGoes, if_pos rfl, hg.1.1, if_pos ix02, ck0, hg.1.2.2.2, if_pos (Int32.le_refl 0)]
  have s2 : ∀ (q : Nat) (g : Hp), FM g → W_X12_beatGoes (q + 1) 34 g 0 = W_X12_beatGoes q 81 (wrI g 263 61 (hi g 263 61 + 1)) 0 := fun q g hg => by
    rw [u_X12_beatGoes, if_neg (by decide), if_pos rfl, hg.1.1, if_pos ix02, ck0, hg.1.2.2.2, if_pos (Int32.le_refl 0)]
  have s3 : ∀ (q : Nat) (g : Hp), FM g → W_X12_beatGoes (q + 1) 81 g 0 = W_X12_beatGoes q 140 g 0 := fun q g hg => by
    rw [u_X12_beatGoes, if_neg (by decide), if_neg (by decide), if_pos rfl, hg.1.1, if_pos ix02, ck0, hg.1.2.2.2, if_pos (Int32.le_refl 0)]
  rw [F_X12_beatGoes, s1 _ _ hF, s2 _ _ hF, hR.2, s3 _ _ hF', u_X12_beatGoes, if_neg (by decide), if_neg (by decide), if_neg (by decide), if_pos rfl, hF'.1.1, if_pos ix02, ck0, hF'.1.2.2.2, if_pos (Int32.le_refl 0)]
  by_cases hs : vp_nar .boolean (hi (wrI h 263 61 (t + 1)) 226 56) = 0
  · rw [if_pos hs, m_spreads hF' hR' (by omega), Option.bind_some]
  · rw [if_neg hs]
theorem m_goesW {N : Nat} (hN : N < 2 ^ 31) : ∀ (m j n a : Nat) (h : Hp), j + m = N → m + 22 ≤ n → FM h → RZ (nI a) h → ∃ h', W_X12_goes n 2 h (nI N) (nI j) = some h' ∧ kS h h' ∧ RZ (nI (a + m)) h' := by
  intro m
  induction m with
  | zero =>
    intro j n a h hj hn hF hR
    obtain ⟨n, rfl⟩ : ∃ n', n = n' + 1 := ⟨n - 1, by omega⟩
    refine ⟨h, ?_, kS.rf, hR⟩
    rw [u_X12_goes, if_pos rfl, if_pos (nI_le (by omega) (by omega))]
  | succ m ih =>
    intro j n a h hj hn hF hR
    obtain ⟨n, rfl⟩ : ∃ n', n = n' + 1 := ⟨n - 1, by omega⟩
    obtain ⟨e1, r1, q1⟩ := m_beat (n := n) hF hR (by omega)
    rw [nI_1] at e1 r1 q1
    obtain ⟨h', e, k1, k2⟩ := ih (j + 1) n (a + 1) _ (by omega) (by omega) (hF.kS q1) r1
    refine ⟨h', ?_, q1.tr k1, by rw [show a + (m + 1) = a + 1 + m by omega]; exact k2⟩
    rw [u_X12_goes, if_pos rfl, if_neg (nI_ge (by omega) hN), e1, Option.bind_some, nI_1]
    exact e
theorem m_goes {N n : Nat} {h : Hp} (hN : N < 101) (hF : FM h) (hR : RZ 0 h) (hn : 123 ≤ n) : ∃ h', F_X12_goes n h (nI N) = some h' ∧ kS h h' ∧ RZ (nI N) h' := by
  obtain ⟨h', e, k1, k2⟩ := m_goesW (N := N) (by omega) N 0 n 0 h (by omega) (by omega) hF hR
  rw [Nat.zero_add] at k2
  exact ⟨h', e, k1, k2⟩
theorem m_keepsW : ∀ (m j n : Nat) (h : Hp), j + m = 63 → m < n → ∃ h', W_X12_keepsRow n 2 h (nI j) = some h' ∧ (∀ k, j ≤ k → k < 63 → hi h' 262 k = hi h 263 k) ∧ (∀ k, k < j → hi h' 262 k = hi h 262 k) := by
  intro m
  induction m with
  | zero =>
    intro j n h hj hn
    obtain ⟨n, rfl⟩ : ∃ n', n = n' + 1 := ⟨n - 1, by omega⟩
    have e : j = 63 := by omega
    subst e
    refine ⟨h, ?_, fun k h1 h2 => absurd h2 (by omega), fun _ _ => rfl⟩
    rw [u_X12_keepsRow, if_pos rfl, if_pos (show (63 : Int32) ≤ nI 63 from nI_le (Nat.le_refl _) (by decide))]
  | succ m ih =>
    intro j n h hj hn
    obtain ⟨n, rfl⟩ : ∃ n', n = n' + 1 := ⟨n - 1, by omega⟩
    obtain ⟨h', e, k1, k2⟩ := ih (j + 1) n (wrI h 262 j (hi h 263 j)) (by omega) (by omega)
    refine ⟨h', ?_, fun k hk1 hk2 => ?_, fun k hk => ?_⟩
    · rw [u_X12_keepsRow, if_pos rfl, if_neg (show ¬ (63 : Int32) ≤ nI j from nI_ge (b := 63) (by omega) (by decide)), if_pos (ixN (by omega) (by decide)), if_pos (ixN (by omega) (by decide)), nI_clamp (by omega), nI_1]
      exact e
    · rcases Nat.eq_or_lt_of_le hk1 with rfl | q
      · rw [k2 j (by omega), hi_eq]
      · rw [k1 k q hk2, hi_ne (by decide)]
    · rw [k2 k (by omega), hi_nk (by omega)]
theorem m_recW : ∀ (m j n : Nat) (h : Hp), j + m = 63 → m + 65 ≤ n → hi h 226 59 = 0 → ∃ h', W_X12_records n 51 h (nI j) = some h' ∧ hi h' 262 61 = hi h 263 61 := by
  intro m
  induction m with
  | zero =>
    intro j n h hj hn h1
    obtain ⟨n, rfl⟩ : ∃ n', n = n' + 1 := ⟨n - 1, by omega⟩
    have e : j = 63 := by omega
    subst e
    obtain ⟨h', e, k1, -⟩ := m_keepsW 63 0 n (wrI h 226 59 (hi h 226 59 + 1)) rfl (by omega)
    refine ⟨h', ?_, (k1 61 (by decide) (by decide)).trans (hi_ne (by decide))⟩
    rw [u_X12_records, if_neg (by decide), if_pos rfl, if_pos (show (63 : Int32) ≤ nI 63 from nI_le (Nat.le_refl _) (by decide)), F_X12_keepsRow, show W_X12_keepsRow n 2 (wrI h 226 59 (hi h 226 59 + 1)) 0 = _ from e, Option.bind_some]
  | succ m ih =>
    intro j n h hj hn h1
    obtain ⟨n, rfl⟩ : ∃ n', n = n' + 1 := ⟨n - 1, by omega⟩
    obtain ⟨h', e, k1⟩ := ih (j + 1) n (wrI h 266 j (hi h 262 j)) (by omega) (by omega) ((hi_ne (by decide)).trans h1)
    refine ⟨h', ?_, k1.trans (hi_ne (by decide))⟩
    have e2 : (63 : Int32) * 0 + nI j = nI j := by rw [show (63 : Int32) * 0 = nI 0 by decide, nI_add, Nat.zero_add]
    rw [u_X12_records, if_neg (by decide), if_pos rfl, if_neg (show ¬ (63 : Int32) ≤ nI j from nI_ge (b := 63) (by omega) (by decide)), if_pos (ixN (by omega) (by decide)), h1, e2, if_pos (ixN (by omega) (by decide)), nI_clamp (by omega), nI_1]
    exact e
theorem m_records {n : Nat} {h : Hp} (hn : 128 ≤ n) (h1 : hi h 226 59 = 0) : ∃ h', F_X12_records n h = some h' ∧ hi h' 262 61 = hi h 263 61 := by
  unfold F_X12_records
  rw [h1, if_neg (by decide)]
  exact m_recW 63 0 n h rfl (by omega) h1
end MGO
section PG
variable {h0 : Hp}
theorem pu_beats (hX : FX h0) (hM : FM h0) : PU_beats h0 := by
  intro x1
  rcases span_or x1 with q | ⟨j, hj, rfl⟩
  · refine ⟨1, (-1, h0), 1, (-1, h0), ?_, ?_, rfl⟩
    · rw [F_X11_beats, x_isSpan_out q, Option.bind_some, if_pos rfl]
    · rw [F_X12_beats, m_isLong_out q, Option.bind_some, if_pos rfl]
  · by_cases hj0 : j = 0
    · subst hj0
      refine ⟨1, (0, h0), 1, (0, h0), ?_, ?_, rfl⟩
      · rw [F_X11_beats, x_isSpan hj, Option.bind_some, if_neg ne10, if_pos (show nI 0 ≤ (0 : Int32) from Int32.le_refl 0), hX.2.1.1]
      · rw [F_X12_beats, m_isLong hj, Option.bind_some, if_neg ne10, if_pos (show nI 0 = (0 : Int32) from rfl), hM.2.2.1 61 (by decide)]
    · obtain ⟨g1, e1, k1, f1⟩ := x_keep (n := 110) hX.2.2.2.2.2.1.1 hX.2.2.2.2.2.1.2
      obtain ⟨g2, e2, k2, f2⟩ := x_goW (N := j) (by omega) j 0 110 0 g1 (by omega) (by omega) ((f1 23 2 (by decide)).trans hX.2.2.1.1) ((f1 30 3 (by decide)).trans hX.2.1.2.2.2) ((f1 30 0 (by decide)).trans hX.2.1.1)
      have hM2 := hM.keep (k1.tr k2)
      obtain ⟨g3, e3, k3, r3⟩ := m_copies (n := 200) (by decide) hM2
      obtain ⟨g4, e4, k4, r4⟩ := m_goes (N := j) (n := 200) hj (hM2.kS k3) r3 (by decide)
      obtain ⟨g5, e5, f5⟩ := m_records (n := 200) (h := g4) (by decide) ((hM2.kS k3).kS k4).2.2.2.2.1.2.2.1
      rw [r4.2] at f5
      rw [Nat.zero_add] at f2
      refine ⟨110, (nI j, g2), 200, (nI j, g5), ?_, ?_, rfl⟩
      · rw [F_X11_beats, x_isSpan hj, Option.bind_some, if_neg ne10, if_neg (show ¬ nI j ≤ (0 : Int32) from nI_nle (by omega) (by omega)), e1, Option.bind_some, F_X0_goOn, show W_X0_goOn 110 2 g1 23 30 (nI j) 0 = _ from e2, Option.bind_some, f2]
      · rw [F_X12_beats, m_isLong hj, Option.bind_some, if_neg ne10, if_neg (show ¬ nI j = (0 : Int32) from nI_ne0 (by omega) (by omega)), e3, Option.bind_some, e4, Option.bind_some, e5, Option.bind_some, f5]
theorem x_stood0 {n : Nat} {h : Hp} {a : Nat} (hn : 1 ≤ n) : F_X8_stoodOn n h a 0 = some (0, h) := by
  obtain ⟨n, rfl⟩ : ∃ n', n = n' + 1 := ⟨n - 1, by omega⟩
  rw [F_X8_stoodOn, u_X8_stoodOn, if_pos rfl, if_pos (Int32.le_refl 0)]
theorem x_neverW {N : Nat} (hN : N < 2 ^ 31 - 1) : ∀ (m j n : Nat) (h : Hp), 1 ≤ j → j + m = N + 1 → m + 4 ≤ n → hi h 23 2 = 0 → hi h 24 2 = 65535 → ∃ h', W_X11_never n 37 h (nI N) 0 (nI j) = some (65535, h') ∧ kM h h' := by
  intro m
  induction m with
  | zero =>
    intro j n h h1 hj hn hg ha
    obtain ⟨n, rfl⟩ : ∃ n', n = n' + 1 := ⟨n - 1, by omega⟩
    refine ⟨h, ?_, kM.rf⟩
    rw [u_X11_never, if_pos rfl, if_pos (nI_lt (by omega) (by omega)), ha]
    exact congrArg (fun z => some (z, h)) (show (65535 : Int32) &&& ((0 : Int32) ^^^ (-1)) = 65535 by decide)
  | succ m ih =>
    intro j n h h1 hj hn hg ha
    obtain ⟨n, rfl⟩ : ∃ n', n = n' + 3 := ⟨n - 3, by omega⟩
    obtain ⟨h', e, k1⟩ := ih (j + 1) (n + 2) (wrI h 34 0 (hi h 34 0 + 1)) (by omega) (by omega) (by omega) ((hi_ne (by decide)).trans hg) ((hi_ne (by decide)).trans ha)
    refine ⟨h', ?_, (kM.w (by decide) kM.rf).tr k1⟩
    rw [u_X11_never, if_pos rfl, if_neg (nI_nlt (by omega) (by omega)), x_walk (by decide) hg, Option.bind_some, hi_ne (by decide), hg, x_stood0 (by omega), Option.bind_some, nI_1 j]
    show W_X11_never (n + 2) 37 (wrI h 34 0 (hi h 34 0 + 1)) (nI N) ((0 : Int32) ||| 0) (nI (j + 1)) = _
    rw [show (0 : Int32) ||| 0 = 0 by decide]
    exact e
theorem m_neverW {N : Nat} (hN : N < 2 ^ 31) : ∀ (m j n a : Nat) (h : Hp), j + m = N → m + 22 ≤ n → FM h → RZ (nI a) h → ∃ h', W_X12_never n 31 h (nI N) 65535 (nI j) = some (65535, h') := by
  intro m
  induction m with
  | zero =>
    intro j n a h hj hn hF hR
    obtain ⟨n, rfl⟩ : ∃ n', n = n' + 1 := ⟨n - 1, by omega⟩
    refine ⟨h, ?_⟩
    rw [u_X12_never, if_pos rfl, if_pos (nI_le (by omega) (by omega))]
  | succ m ih =>
    intro j n a h hj hn hF hR
    obtain ⟨n, rfl⟩ : ∃ n', n = n' + 1 := ⟨n - 1, by omega⟩
    obtain ⟨e1, r1, q1⟩ := m_beat (n := n) hF hR (by omega)
    rw [nI_1] at e1 r1 q1
    obtain ⟨h', e⟩ := ih (j + 1) n (a + 1) _ (by omega) (by omega) (hF.kS q1) r1
    refine ⟨h', ?_⟩
    rw [u_X12_never, if_pos rfl, if_neg (nI_ge (by omega) hN), e1, Option.bind_some, m_goerBits (hF.kS q1) (by omega), Option.bind_some, nI_1 j]
    show W_X12_never n 31 (wrI h 263 61 (nI (a + 1))) (nI N) ((65535 : Int32) &&& ((0 : Int32) ^^^ (-1))) (nI (j + 1)) = _
    rw [show (65535 : Int32) &&& ((0 : Int32) ^^^ (-1)) = 65535 by decide]
    exact e
theorem pu_never (hX : FX h0) (hM : FM h0) : PU_never h0 := by
  intro x1
  rcases span_or x1 with q | ⟨j, hj, rfl⟩
  · refine ⟨1, (-1, h0), 1, (-1, h0), ?_, ?_, rfl⟩
    · rw [F_X11_never, x_isSpan_out q, Option.bind_some, if_pos rfl]
    · rw [F_X12_never, m_isLong_out q, Option.bind_some, if_pos rfl]
  · obtain ⟨g1, e1, k1, f1, -⟩ := x_become (n := 200) (a := 34) (b1 := 30) (h := h0) (by decide)
    have hg : hi g1 23 2 = 0 := (f1 23 2 (by decide)).trans hX.2.2.1.1
    obtain ⟨g2, e2, k2⟩ := x_neverW (N := j) (by omega) j 1 200 g1 (by omega) (by omega) (by omega) hg ((f1 24 2 (by decide)).trans hX.1.2.2.1)
    have hM2 := hM.keep (k1.tr k2)
    obtain ⟨g3, e3, k3, r3⟩ := m_copies (n := 200) (by decide) hM2
    have hk4 : kS g3 (wrI g3 226 56 1) := kS.w (by unfold scr; omega) kS.rf
    have hM4 := (hM2.kS k3).kS hk4
    have r4 : RZ (nI 0) (wrI g3 226 56 1) := ⟨fun k hk => (hi_ne (by decide)).trans (r3.1 k hk), (hi_ne (by decide)).trans r3.2⟩
    obtain ⟨g5, e5⟩ := m_neverW (N := j) (by omega) j 0 200 0 (wrI g3 226 56 1) (by omega) (by omega) hM4 r4
    refine ⟨200, (65535, g2), 200, (65535, g5), ?_, ?_, rfl⟩
    · rw [F_X11_never, x_isSpan hj, Option.bind_some, if_neg ne10, e1, Option.bind_some, hg, x_stood0 (by decide), Option.bind_some]
      exact e2
    · rw [F_X12_never, m_isLong hj, Option.bind_some, if_neg ne10, F_X12_copiesStill, e3, Option.bind_some, Option.bind_some, m_cells hM4, Option.bind_some, m_goerBits hM4 (by decide), Option.bind_some]
      show W_X12_never 200 31 (wrI g3 226 56 1) (nI j) ((((1 : Int32) <<< ((16 : Int32) &&& 31)) - 1) &&& ((0 : Int32) ^^^ (-1))) (nI 0) = _
      rw [show (((1 : Int32) <<< ((16 : Int32) &&& 31)) - 1) &&& ((0 : Int32) ^^^ (-1)) = 65535 by decide]
      exact e5
theorem x_soak {n : Nat} {h : Hp} {b1 : Nat} (hn : 1 ≤ n) (hw : hi h 23 3 = 0) (x s : Int32) : F_X0_soak n h 23 b1 x s = some h := by
  obtain ⟨n, rfl⟩ : ∃ n', n = n' + 1 := ⟨n - 1, by omega⟩
  rw [F_X0_soak, u_X0_soak, if_pos rfl]
  by_cases c : x ≤ 0
  · rw [if_pos c]
  · rw [if_neg c, F_X0_canSpread, hw, if_pos (Int32.le_refl 0), Option.bind_some, if_pos rfl]
theorem pu_tunesIn (hX : FX h0) (hM : FM h0) : PU_tunesIn h0 := by
  intro x1
  rcases span_or x1 with q | ⟨j, hj, rfl⟩
  · refine ⟨1, (-1, h0), 1, (-1, h0), ?_, ?_, rfl⟩
    · rw [F_X11_tunesIn, x_isSpan_out q, Option.bind_some, if_pos rfl]
    · rw [F_X12_tunesIn, m_isLong_out q, Option.bind_some, if_pos rfl]
  · obtain ⟨g1, e1, k1, f1, f2⟩ := x_become (n := 200) (a := 34) (b1 := 30) (h := h0) (by decide)
    have hM2 := hM.keep k1
    obtain ⟨g3, e3, k3, r3⟩ := m_copies (n := 200) (by decide) hM2
    obtain ⟨g4, e4, k4, r4⟩ := m_goes (N := j) (n := 200) hj (hM2.kS k3) r3 (by decide)
    refine ⟨200, (0, g1), 200, (0, g4), ?_, ?_, rfl⟩
    · rw [F_X11_tunesIn, x_isSpan hj, Option.bind_some, if_neg ne10, e1, Option.bind_some, x_soak (by decide) ((f1 23 3 (by decide)).trans hX.2.2.1.2.1), Option.bind_some, f2 (by decide) 3 (by decide), hX.2.1.2.2.2]
    · rw [F_X12_tunesIn, m_isLong hj, Option.bind_some, if_neg ne10, e3, Option.bind_some, e4, Option.bind_some, m_tune ((hM2.kS k3).kS k4) r4 (by decide), Option.bind_some]
theorem x_isTunedAt {n a : Nat} {h : Hp} (ht : hi h a 3 = 0) (x : Int32) : F_X8_isTuned n h a x = some (0, h) := by
  unfold F_X8_isTuned
  by_cases c1 : x < 0
  · rw [if_pos c1]
  · rw [if_neg c1]
    by_cases c2 : (25 : Int32) ≤ x
    · rw [if_pos c2]
    · rw [if_neg c2, ht, shr0, if_pos rfl]
theorem x_yearW {N : Nat} (hN : N < 2 ^ 31) (x y : Int32) : ∀ (m j n : Nat) (h : Hp), j + m = N → m + 2 ≤ n → hi h 23 3 = 0 → hi h 30 3 = 0 → ∃ h', W_X11_year n 37 h x y (nI N) 0 (nI j) = some (0, h') ∧ kM h h' := by
  intro m
  induction m with
  | zero =>
    intro j n h hj hn hw ht
    obtain ⟨n, rfl⟩ : ∃ n', n = n' + 1 := ⟨n - 1, by omega⟩
    refine ⟨h, ?_, kM.rf⟩
    rw [u_X11_year, if_pos rfl, if_pos (nI_le (by omega) (by omega))]
  | succ m ih =>
    intro j n h hj hn hw ht
    obtain ⟨n, rfl⟩ : ∃ n', n = n' + 1 := ⟨n - 1, by omega⟩
    obtain ⟨g1, e1, k1, f1, f2⟩ := x_become (n := n) (a := 34) (b1 := 30) (h := h) (by decide)
    have hw1 := (f1 23 3 (by decide)).trans hw
    obtain ⟨h', e, k2⟩ := ih (j + 1) n g1 (by omega) (by omega) hw1 ((f1 30 3 (by decide)).trans ht)
    refine ⟨h', ?_, k1.tr k2⟩
    rw [u_X11_year, if_pos rfl, if_neg (nI_ge (by omega) hN), e1, Option.bind_some, x_soak (by omega) hw1, Option.bind_some, x_isTunedAt ((f2 (by decide) 3 (by decide)).trans ht), Option.bind_some, if_pos rfl, nI_1]
    exact e
theorem m_yearW {N M : Nat} (hN : N < 2 ^ 31) (hM101 : M < 101) {i : Nat} (hi16 : i < 16) : ∀ (m j n : Nat) (h : Hp), j + m = N → m + 130 ≤ n → FM h → ∃ h', W_X12_year n 33 h (nI i) (nI M) (nI N) 0 (nI j) = some (0, h') := by
  intro m
  induction m with
  | zero =>
    intro j n h hj hn hF
    obtain ⟨n, rfl⟩ : ∃ n', n = n' + 1 := ⟨n - 1, by omega⟩
    refine ⟨h, ?_⟩
    rw [u_X12_year, if_pos rfl, if_pos (nI_le (by omega) (by omega))]
  | succ m ih =>
    intro j n h hj hn hF
    obtain ⟨n, rfl⟩ : ∃ n', n = n' + 1 := ⟨n - 1, by omega⟩
    obtain ⟨g3, e3, k3, r3⟩ := m_copies (n := n) (by omega) hF
    have hk4 : kS g3 (wrI g3 226 55 (hi g3 226 55 + nI j)) := kS.w (by unfold scr; omega) kS.rf
    have r4 : RZ 0 (wrI g3 226 55 (hi g3 226 55 + nI j)) := ⟨fun k hk => (hi_ne (by decide)).trans (r3.1 k hk), (hi_ne (by decide)).trans r3.2⟩
    obtain ⟨g5, e5, k5, r5⟩ := m_goes (N := M) (n := n) hM101 ((hF.kS k3).kS hk4) r4 (by omega)
    obtain ⟨h', e⟩ := ih (j + 1) n g5 (by omega) (by omega) (((hF.kS k3).kS hk4).kS k5)
    refine ⟨h', ?_⟩
    rw [u_X12_year, if_pos rfl, if_neg (nI_ge (by omega) hN), e3, Option.bind_some, e5, Option.bind_some, if_pos (ixN (by omega) (by decide)), nI_clamp (by omega), r5.1 i (by omega), if_pos (Int32.le_refl 0), nI_1]
    exact e
theorem le20 (x : Int32) : (x ≤ (20 : Int32)) ↔ ¬ ((20 : Int32) < x) := Int32.not_lt.symm
theorem pu_year (hX : FX h0) (hM : FM h0) : PU_year h0 := by
  intro x1 x2 x3
  rcases cell_or x1 with q | ⟨i, hi, rfl⟩
  · refine ⟨1, (-1, h0), 1, (-1, h0), ?_, ?_, rfl⟩
    · rw [F_X11_year, x_has_out hX q, Option.bind_some, if_pos rfl]
    · rw [F_X12_year, m_isCell_out hM q, Option.bind_some, if_pos rfl]
  rcases span_or x2 with q | ⟨j, hj, rfl⟩
  · refine ⟨1, (-1, h0), 1, (-1, h0), ?_, ?_, rfl⟩
    · rw [F_X11_year, x_has hX hi, Option.bind_some, if_neg ne10, x_isSpan_out q, Option.bind_some, if_pos rfl]
    · rw [F_X12_year, m_isCell hM hi, Option.bind_some, if_neg ne10, m_isLong_out q, Option.bind_some, if_pos rfl]
  by_cases c1 : x3 < 1
  · refine ⟨1, (-1, h0), 1, (-1, h0), ?_, ?_, rfl⟩
    · rw [F_X11_year, x_has hX hi, Option.bind_some, if_neg ne10, x_isSpan hj, Option.bind_some, if_neg ne10, if_pos c1]
    · rw [F_X12_year, m_isCell hM hi, Option.bind_some, if_neg ne10, m_isLong hj, Option.bind_some, if_neg ne10, F_X12_in, if_pos c1, Option.bind_some, if_pos rfl]
  by_cases c2 : x3 ≤ 20
  · have c3 : ¬ x3 < 0 := fun q => c1 (Int32.lt_trans q (by decide))
    obtain ⟨s, hs, rfl⟩ := nI_of c3
    have hs20 : s ≤ 20 := (nI_leI hs (by decide)).mp c2
    obtain ⟨g1, e1, k1⟩ := x_yearW (N := s) hs (nI i) (nI j) s 0 100 h0 (by omega) (by omega) hX.2.2.1.2.1 hX.2.1.2.2.2
    obtain ⟨g2, e2⟩ := m_yearW (N := s) (M := j) hs hj hi s 0 200 g1 (by omega) (by omega) (hM.keep k1)
    refine ⟨100, (0, g1), 200, (0, g2), ?_, ?_, rfl⟩
    · rw [F_X11_year, x_has hX hi, Option.bind_some, if_neg ne10, x_isSpan hj, Option.bind_some, if_neg ne10, if_neg c1, if_pos c2]
      exact e1
    · rw [F_X12_year, m_isCell (hM.keep k1) hi, Option.bind_some, if_neg ne10, m_isLong hj, Option.bind_some, if_neg ne10, F_X12_in, if_neg c1, if_neg ((le20 _).mp c2), Option.bind_some, if_neg ne10]
      exact e2
  · refine ⟨1, (-1, h0), 1, (-1, h0), ?_, ?_, rfl⟩
    · rw [F_X11_year, x_has hX hi, Option.bind_some, if_neg ne10, x_isSpan hj, Option.bind_some, if_neg ne10, if_neg c1, if_neg c2]
    · rw [F_X12_year, m_isCell hM hi, Option.bind_some, if_neg ne10, m_isLong hj, Option.bind_some, if_neg ne10, F_X12_in, if_neg c1, if_pos (Int32.not_le.mp c2), Option.bind_some, if_pos rfl]
theorem x_goersIn0 {n : Nat} {h : Hp} {a : Nat} (hn : 1 ≤ n) (x : Int32) : F_X8_goersIn n h a x 0 = some (0, h) := by
  obtain ⟨n, rfl⟩ : ∃ n', n = n' + 1 := ⟨n - 1, by omega⟩
  rw [F_X8_goersIn, u_X8_goersIn, if_pos rfl, if_pos (Int32.le_refl 0)]
theorem pu_rope (hX : FX h0) (hM : FM h0) : PU_rope h0 := by
  intro x1 x2 hx2
  rcases cell_or x1 with q | ⟨i, hi16, rfl⟩
  · obtain ⟨g, e, k1, r1⟩ := m_copies (n := 200) (by decide) hM
    refine ⟨1, (0, h0), 200, (0, g), ?_, ?_, rfl⟩
    · rw [F_X11_rope, x_has_out hX q, Option.bind_some, if_pos rfl]
    · rw [F_X12_rope, e, Option.bind_some, m_isCell_out (hM.kS k1) q, Option.bind_some, if_pos rfl]
  rcases hx2 with rfl | rfl
  · obtain ⟨g, e, k1, r1⟩ := m_copies (n := 200) (by decide) hM
    refine ⟨1, (0, h0), 200, (0, g), ?_, ?_, rfl⟩
    · rw [F_X11_rope, x_has hX hi16, Option.bind_some, if_neg ne10, x_isRoped hX, Option.bind_some, if_pos rfl]
    · rw [F_X12_rope, e, Option.bind_some, m_isCell (hM.kS k1) hi16, Option.bind_some, if_neg ne10, m_isRoped r1, Option.bind_some, if_pos rfl]
  · obtain ⟨g1, e1, k1, f1⟩ := x_keep (n := 10) hX.2.2.2.2.2.1.1 hX.2.2.2.2.2.1.2
    have kk : kM h0 (wrI g1 30 2 ((hi g1 30 2) ^^^ ((1 : Int32) <<< (nI i &&& 31)))) := kM.w (by decide) k1
    have hM1 := hM.keep kk
    obtain ⟨g, e, k2, r1⟩ := m_copies (n := 200) (by decide) hM1
    obtain ⟨g5, e5, f5⟩ := m_records (n := 200) (h := wrI g 263 50 ((hi g 263 50) ^^^ ((1 : Int32) <<< (nI i &&& 31)))) (by decide) ((hi_ne (by decide)).trans (hM1.kS k2).2.2.2.2.1.2.2.1)
    refine ⟨10, (1, wrI g1 30 2 ((hi g1 30 2) ^^^ ((1 : Int32) <<< (nI i &&& 31)))), 200, (1, g5), ?_, ?_, rfl⟩
    · rw [F_X11_rope, x_has hX hi16, Option.bind_some, if_neg ne10, x_isRoped hX, Option.bind_some, if_neg ne01, hX.2.2.1.1, x_goersIn0 (by decide), Option.bind_some, if_pos rfl, if_neg (by decide), x_isTuned hX, Option.bind_some, if_pos rfl, e1, Option.bind_some]
    · rw [F_X12_rope]
      show (F_X12_copies 200 (wrI g1 30 2 ((hi g1 30 2) ^^^ ((1 : Int32) <<< (nI i &&& 31))))).bind _ = _
      rw [e, Option.bind_some, m_isCell (hM1.kS k2) hi16, Option.bind_some, if_neg ne10, m_isRoped r1, Option.bind_some, if_neg ne01, if_neg (by decide), if_pos (ixN (by omega) (by decide)), nI_clamp (by omega), r1.1 i (by omega), if_neg (by decide), m_whoAt (hM1.kS k2) (by decide), Option.bind_some, if_pos rfl, e5, Option.bind_some]
theorem m_holdW {s : Nat} (hs : s < 3) : ∀ (m j n : Nat) (h : Hp), j + m = 63 → m < n → ∃ h', W_X12_hold n 20 h (nI s) (nI j) = some (1, h') := by
  intro m
  induction m with
  | zero =>
    intro j n h hj hn
    obtain ⟨n, rfl⟩ : ∃ n', n = n' + 1 := ⟨n - 1, by omega⟩
    have e : j = 63 := by omega
    subst e
    refine ⟨h, ?_⟩
    rw [u_X12_hold, if_pos rfl, if_pos (show (63 : Int32) ≤ nI 63 from nI_le (Nat.le_refl _) (by decide))]
  | succ m ih =>
    intro j n h hj hn
    obtain ⟨n, rfl⟩ : ∃ n', n = n' + 1 := ⟨n - 1, by omega⟩
    obtain ⟨h', e⟩ := ih (j + 1) n (wrI h 274 (63 * s + j) (hi h 262 j)) (by omega) (by omega)
    refine ⟨h', ?_⟩
    have e2 : (63 : Int32) * nI s + nI j = nI (63 * s + j) := by rw [show (63 : Int32) = nI 63 from rfl, nI_mul, nI_add]
    rw [u_X12_hold, if_pos rfl, if_neg (show ¬ (63 : Int32) ≤ nI j from nI_ge (b := 63) (by omega) (by decide)), if_pos (ixN (by omega) (by decide)), e2, if_pos (ixN (by omega) (by decide)), nI_clamp (by omega), nI_clamp (by omega), nI_1]
    exact e
theorem pu_hold (hX : FX h0) (hM : FM h0) : PU_hold h0 := by
  intro x1
  by_cases c1 : x1 < 0
  · refine ⟨1, (0, h0), 1, (0, h0), ?_, ?_, rfl⟩
    · rw [F_X11_hold, if_pos c1]
    · rw [F_X12_hold, F_X12_in, if_pos c1, Option.bind_some, if_pos rfl]
  obtain ⟨s, hs, rfl⟩ := nI_of c1
  by_cases c2 : s < 3
  · obtain ⟨g1, e1, k1, -⟩ := x_become (n := 100) (a := 214 + 4 * s) (b1 := 30) (h := h0) (by omega)
    obtain ⟨g2, e2⟩ := m_holdW c2 63 0 100 (wrI (wrI g1 0 10 ((hi g1 0 10) ||| ((1 : Int32) <<< (nI s &&& 31)))) 273 s 1) rfl (by decide)
    refine ⟨100, (1, wrI g1 0 10 ((hi g1 0 10) ||| ((1 : Int32) <<< (nI s &&& 31)))), 100, (1, g2), ?_, ?_, rfl⟩
    · rw [F_X11_hold, if_neg c1, if_pos (show nI s < (3 : Int32) from nI_lt (b := 3) c2 (by decide)), if_pos (ixN c2 (by decide)), nI_clamp hs, e1, Option.bind_some]
    · rw [F_X12_hold, F_X12_in, if_neg c1, if_neg (show ¬ (2 : Int32) < nI s from nI_nlt (a := 2) (by omega) (by decide)), Option.bind_some, if_neg ne10, if_pos (ixN c2 (by decide)), nI_clamp hs]
      exact e2
  · refine ⟨1, (0, h0), 1, (0, h0), ?_, ?_, rfl⟩
    · rw [F_X11_hold, if_neg c1, if_neg (show ¬ nI s < (3 : Int32) from nI_nlt (b := 3) (by omega) hs)]
    · rw [F_X12_hold, F_X12_in, if_neg c1, if_pos (show (2 : Int32) < nI s from nI_lt (a := 2) (by omega) hs), Option.bind_some, if_pos rfl]
end PG
