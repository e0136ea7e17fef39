/-! ways at the fresh state -/
theorem nI_xor (a b : Nat) : nI a ^^^ nI b = nI (a ^^^ b) := by
  apply Int32.toBitVec_inj.mp
  rw [Int32.toBitVec_xor]
  show BitVec.ofNat 32 a ^^^ BitVec.ofNat 32 b = BitVec.ofNat 32 (a ^^^ b)
  apply BitVec.eq_of_getLsbD_eq
  intro i hi
  simp [BitVec.getLsbD_xor, BitVec.getLsbD_ofNat, hi]
/-- these cells and those beside them, as the class reckons it -/
def GX (x1 : Int32) : Int32 := ((((x1 ||| ((x1 <<< ((1 : Int32) &&& 31)) &&& ((4369 : Int32) ^^^ (-1)))) ||| (((x1 &&& ((4369 : Int32) ^^^ (-1))).toUInt32 >>> ((1 : Int32).toUInt32 &&& Int32.toUInt32 31)).toInt32)) ||| (x1 <<< ((4 : Int32) &&& 31))) ||| ((x1.toUInt32 >>> ((4 : Int32).toUInt32 &&& Int32.toUInt32 31)).toInt32)) &&& 65535
abbrev ubit (s y : Int32) : Int32 := ((s.toUInt32 >>> (y.toUInt32 &&& Int32.toUInt32 31)).toInt32) &&& (1 : Int32)
def CX (a : Int32) : Nat → Int32
  | 0 => (1 : Int32) <<< (a &&& 31)
  | k + 1 => GX (CX a k) &&& 65535
/-- how far apart -/
def dT (a b : Nat) : Nat := (a % 4 - b % 4) + (b % 4 - a % 4) + ((a / 4 - b / 4) + (b / 4 - a / 4))
theorem dT_le : ∀ a, a < 16 → ∀ b, b < 16 → dT a b ≤ 6 := by decide +kernel
theorem f_X1 : ∀ a, a < 16 → ∀ b, b < 16 → ∀ k, k < 7 → k < dT a b → ubit (CX (nI a) k) (nI b) = 0 := by decide +kernel
theorem f_X2 : ∀ a, a < 16 → ∀ k, k < 7 → ¬ CX (nI a) k = 0 := by decide +kernel
theorem f_X3 : ∀ a, a < 16 → ∀ b, b < 16 → ∀ k, k < 7 → k = dT a b → ¬ ubit (CX (nI a) k) (nI b) = 0 := by decide +kernel
theorem f_M : ∀ a, a < 16 → ∀ b, b < 16 → ∀ k, k < 7 → (k < dT a b → ¬ ((RB (nI a) k >>> (nI b &&& 31)) &&& (1 : Int32)) = 1) ∧ (k = dT a b → ((RB (nI a) k >>> (nI b &&& 31)) &&& (1 : Int32)) = 1) := by decide +kernel
def LK (h : Hp) : Prop := (hi h 24 0 = 4 ∧ hi h 24 2 = 65535 ∧ hi h 24 3 = 4369) ∧ hi h 204 3 = 65535 ∧ hi h 204 4 = 0 ∧ (∀ k, k < 60 → hi h 205 k = 0) ∧ hi h 30 0 = 0 ∧ hi h 30 3 = 0
theorem x_fillW : ∀ (m j n : Nat) (h : Hp), j + m = 60 → m < n → (∀ k, k < j → hi h 205 k = 0) → ∃ h', W_J7_fill_60 n 5 h 205 0 (nI j) 60 = some h' ∧ (∀ k, k < 60 → hi h' 205 k = 0) ∧ (∀ a k, a ≠ 205 → hi h' a k = hi h a k) := by
  intro m
  induction m with
  | zero =>
    intro j n h hj hn h0
    obtain ⟨n, rfl⟩ : ∃ n', n = n' + 1 := ⟨n - 1, by omega⟩
    have e : j = 60 := by omega
    subst e
    refine ⟨h, ?_, h0, fun _ _ _ => rfl⟩
    rw [u_J7_fill_60, if_pos rfl, if_pos (show (60 : Int32) ≤ nI 60 from nI_le (Nat.le_refl _) (by decide))]
  | succ m ih =>
    intro j n h hj hn h0
    obtain ⟨n, rfl⟩ : ∃ n', n = n' + 1 := ⟨n - 1, by omega⟩
    obtain ⟨h', e, k1, k2⟩ := ih (j + 1) n (wrI h 205 j 0) (by omega) (by omega) (fun k hk => by
      by_cases hkj : k = j
      · subst hkj; exact hi_eq
      · rw [hi_nk hkj]; exact h0 k (by omega))
    refine ⟨h', ?_, k1, fun a k ha => (k2 a k ha).trans (hi_ne ha)⟩
    rw [u_J7_fill_60, if_pos rfl, if_neg (show ¬ (60 : Int32) ≤ nI j from nI_ge (b := 60) (by omega) (by decide)), if_pos (ixN (by omega) (by decide)), nI_clamp (by omega), nI_1]
    exact e
theorem x_look {n : Nat} {h : Hp} (hX : FX h) (hn : 61 ≤ n) : ∃ h', F_X10_look n h 30 = some h' ∧ kM h h' ∧ LK h' := by
  obtain ⟨⟨a0, a1, a2, a3⟩, ⟨b0, b1, b2, b3⟩, -⟩ := hX
  obtain ⟨n, rfl⟩ : ∃ n', n = n' + 1 := ⟨n - 1, by omega⟩
  obtain ⟨h', e, k1, k2⟩ := x_fillW 60 0 (n + 1) (wrI (wrI h 204 3 65535) 204 4 0) rfl (by omega) (fun k hk => absurd hk (by omega))
  refine ⟨h', ?_, fun a k ha => (k2 a k (by omega)).trans ((hi_ne (by omega)).trans (hi_ne (by omega))), ⟨?_, ?_, ?_⟩, ?_, ?_, k1, ?_, ?_⟩
  · have e1 : (65535 : Int32) &&& ((0 : Int32) ^^^ (-1)) = 65535 := by decide
    have t1 : hi (wrI h 204 3 65535) 30 0 = 0 := (hi_ne (by decide)).trans b0
    have t2 : hi h' 30 3 = 0 := (k2 30 3 (by decide)).trans ((hi_ne (by decide)).trans ((hi_ne (by decide)).trans b3))
    unfold F_X10_look
    rw [a2, b2, e1, t1, F_J7_fill_60, show W_J7_fill_60 (n + 1) 5 (wrI (wrI h 204 3 65535) 204 4 0) 205 0 0 60 = _ from e, Option.bind_some, t2, u_X10_look, if_pos rfl, if_neg (by decide), if_pos rfl]
  · exact (k2 24 0 (by decide)).trans ((hi_ne (by decide)).trans ((hi_ne (by decide)).trans a0))
  · exact (k2 24 2 (by decide)).trans ((hi_ne (by decide)).trans ((hi_ne (by decide)).trans a2))
  · exact (k2 24 3 (by decide)).trans ((hi_ne (by decide)).trans ((hi_ne (by decide)).trans a3))
  · exact (k2 204 3 (by decide)).trans ((hi_nk (by decide)).trans hi_eq)
  · exact (k2 204 4 (by decide)).trans hi_eq
  · exact (k2 30 0 (by decide)).trans ((hi_ne (by decide)).trans ((hi_ne (by decide)).trans b0))
  · exact (k2 30 3 (by decide)).trans ((hi_ne (by decide)).trans ((hi_ne (by decide)).trans b3))
section WX
variable {h : Hp}
theorem x_grown {n : Nat} (h0 : hi h 24 0 = 4) (h2 : hi h 24 2 = 65535) (h3 : hi h 24 3 = 4369) (c : Int32) : F_X3_grown n h 24 c = some (GX c, h) := by
  unfold F_X3_grown
  rw [h3, h0, h2]
  rfl
theorem x_floor {n w : Nat} (hw : w < 2 ^ 31) : F_J9_floorMod_7cf53 n h (nI w) 60 = some (nI (w % 60), h) := by
  unfold F_J9_floorMod_7cf53
  have e : (0 : Int32) ≤ nI w ^^^ (60 : Int32) := by
    rw [show (60 : Int32) = nI 60 from rfl, nI_xor]
    exact nI_pos' (Nat.xor_lt_two_pow hw (by decide))
  rw [if_neg (by decide), if_pos e]
  exact congrArg (fun z => some (z, h)) (pk_rem hw (by decide) (by decide))
theorem x_quiet {n w : Nat} (hL : LK h) (hw : w < 2 ^ 31) (m : Int32) : F_X10_quietAt n h (nI w) m = some (65535, h) := by
  have hm : w % 60 < 60 := Nat.mod_lt _ (by decide)
  unfold F_X10_quietAt
  rw [x_floor hw, Option.bind_some, if_pos (ixN hm (by decide)), nI_clamp (by omega), hL.2.1, hL.2.2.2.1 _ hm, Int32.zero_and]
  exact congrArg (fun z => some (z, h)) (show (65535 : Int32) &&& ((0 : Int32) ^^^ (-1)) = 65535 by decide)
theorem x_onw {n w : Nat} (hL : LK h) (hw : w < 2 ^ 31) (c m : Int32) : F_X10_onwards n h c (nI w) m = some (GX c &&& 65535, h) := by
  unfold F_X10_onwards
  rw [x_grown hL.1.1 hL.1.2.1 hL.1.2.2, Option.bind_some, x_quiet hL hw, Option.bind_some]
theorem x_found {a b s : Nat} (hL : LK h) (ha : a < 16) (hb : b < 16) (hs : s < 1000) (x mown most : Int32) (hm : ∀ k, k ≤ dT a b → ¬ most < nI k) : ∀ (m k n : Nat), k + m = dT a b → m < n → W_X10_fewest n 8 h x (nI b) (nI s) mown most (CX (nI a) k) (nI k) = some (nI (dT a b), h) := by
  have hd := dT_le a ha b hb
  intro m
  induction m with
  | zero =>
    intro k n hk hn
    obtain ⟨n, rfl⟩ : ∃ n', n = n' + 1 := ⟨n - 1, by omega⟩
    have e : k = dT a b := by omega
    have f1 := f_X3 a ha b hb k (by omega) e
    have f2 := f_X2 a ha k (by omega)
    rw [u_X10_fewest, if_pos rfl, if_neg (hm k (by omega)), if_neg f2, if_neg f1, e]
  | succ m ih =>
    intro k n hk hn
    obtain ⟨n, rfl⟩ : ∃ n', n = n' + 1 := ⟨n - 1, by omega⟩
    have f1 := f_X1 a ha b hb k (by omega) (by omega)
    have f2 := f_X2 a ha k (by omega)
    rw [u_X10_fewest, if_pos rfl, if_neg (hm k (by omega)), if_neg f2, if_pos f1, nI_add, nI_1, x_onw hL (by omega), Option.bind_some, nI_1]
    exact ih (k + 1) n (by omega) (by omega)
theorem x_none {a b s K : Nat} (hL : LK h) (ha : a < 16) (hb : b < 16) (hs : s < 1000) (x mown most : Int32) (hK : K ≤ dT a b) (h1 : most < nI K) (hm : ∀ k, k < K → ¬ most < nI k) : ∀ (m k n : Nat), k + m = K → m < n → W_X10_fewest n 8 h x (nI b) (nI s) mown most (CX (nI a) k) (nI k) = some (-1, h) := by
  have hd := dT_le a ha b hb
  intro m
  induction m with
  | zero =>
    intro k n hk hn
    obtain ⟨n, rfl⟩ : ∃ n', n = n' + 1 := ⟨n - 1, by omega⟩
    have e : k = K := by omega
    rw [u_X10_fewest, if_pos rfl, e, if_pos h1]
  | succ m ih =>
    intro k n hk hn
    obtain ⟨n, rfl⟩ : ∃ n', n = n' + 1 := ⟨n - 1, by omega⟩
    have f1 := f_X1 a ha b hb k (by omega) (by omega)
    have f2 := f_X2 a ha k (by omega)
    rw [u_X10_fewest, if_pos rfl, if_neg (hm k (by omega)), if_neg f2, if_pos f1, nI_add, nI_1, x_onw hL (by omega), Option.bind_some, nI_1]
    exact ih (k + 1) n (by omega) (by omega)
theorem x_few {a b s M n : Nat} (hL : LK h) (ha : a < 16) (hb : b < 16) (hs : s < 1000) (hM : M < 2 ^ 31) (hn : 8 ≤ n) (mown : Int32) : F_X10_fewest n h (nI a) (nI b) (nI s) mown (nI M) = some (if dT a b ≤ M then nI (dT a b) else -1, h) := by
  have hd := dT_le a ha b hb
  unfold F_X10_fewest
  by_cases c : dT a b ≤ M
  · rw [if_pos c]
    exact x_found hL ha hb hs (nI a) mown (nI M) (fun k hk => nI_nlt (by omega) (by omega)) (dT a b) 0 n (by omega) (by omega)
  · rw [if_neg c]
    exact x_none hL ha hb hs (nI a) mown (nI M) (K := M + 1) (by omega) (nI_lt (by omega) (by omega)) (fun k hk => nI_nlt (by omega) (by omega)) (M + 1) 0 n (by omega) (by omega)
theorem x_few' {a b s n : Nat} (hL : LK h) (ha : a < 16) (hb : b < 16) (hs : s < 1000) (hn : 8 ≤ n) (mown : Int32) : F_X10_fewest n h (nI a) (nI b) (nI s) mown (nI (dT a b) - 1) = some (-1, h) := by
  have hd := dT_le a ha b hb
  have e1 : nI (dT a b) - 1 < nI (dT a b) := by
    rcases Nat.eq_zero_or_pos (dT a b) with q | q
    · rw [q]; decide
    · obtain ⟨r, hr⟩ : ∃ r, dT a b = r + 1 := ⟨dT a b - 1, by omega⟩
      rw [hr, nI_pred]
      exact nI_lt (by omega) (by omega)
  have e2 : ∀ k, k < dT a b → ¬ nI (dT a b) - 1 < nI k := by
    intro k hk
    obtain ⟨r, hr⟩ : ∃ r, dT a b = r + 1 := ⟨dT a b - 1, by omega⟩
    rw [hr, nI_pred]
    exact nI_nlt (by omega) (by omega)
  unfold F_X10_fewest
  exact x_none hL ha hb hs (nI a) mown (nI (dT a b) - 1) (K := dT a b) (Nat.le_refl _) e1 e2 (dT a b) 0 n (by omega) (by omega)
theorem ne_m1 {d : Nat} (hd : d < 2 ^ 31) : ¬ nI d = (-1 : Int32) := fun q => nI_pos hd (by rw [q]; decide)
theorem x_bestW {a b : Nat} (hL : LK h) (ha : a < 16) (hb : b < 16) : ∀ (m j n : Nat), 1 ≤ j → j + m = 60 → m + 9 ≤ n → W_X10_bestWait n 9 h (nI a) (nI b) 0 (nI (dT a b) - 1) (nI j) = some (0, h) := by
  intro m
  induction m with
  | zero =>
    intro j n h1 hj hn
    obtain ⟨n, rfl⟩ : ∃ n', n = n' + 1 := ⟨n - 1, by omega⟩
    have e : j = 60 := by omega
    subst e
    rw [u_X10_bestWait, if_pos rfl, if_pos (show (60 : Int32) ≤ nI 60 from nI_le (Nat.le_refl _) (by decide))]
  | succ m ih =>
    intro j n h1 hj hn
    obtain ⟨n, rfl⟩ : ∃ n', n = n' + 1 := ⟨n - 1, by omega⟩
    rw [u_X10_bestWait, if_pos rfl, if_neg (show ¬ (60 : Int32) ≤ nI j from nI_ge (b := 60) (by omega) (by decide)), hL.2.2.1, show (0 : Int32) = nI 0 from rfl, nI_add, Nat.zero_add, x_few' hL ha hb (by omega) (by omega), Option.bind_some, if_pos rfl, nI_1]
    exact ih (j + 1) n (by omega) (by omega) (by omega)
theorem x_best {a b n : Nat} (hL : LK h) (ha : a < 16) (hb : b < 16) (hn : 70 ≤ n) : F_X10_bestWait n h (nI a) (nI b) = some (0, h) := by
  have hd := dT_le a ha b hb
  obtain ⟨n, rfl⟩ : ∃ n', n = n' + 1 := ⟨n - 1, by omega⟩
  have e := x_few (s := 0) (M := 100) (n := n) hL ha hb (by decide) (by decide) (by omega) 0
  rw [if_pos (by omega)] at e
  unfold F_X10_bestWait
  rw [u_X10_bestWait, if_pos rfl, if_neg (by decide), hL.2.2.1, show (0 : Int32) + 0 = nI 0 by decide, show (100 : Int32) = nI 100 from rfl, e, Option.bind_some, if_neg (ne_m1 (by omega))]
  exact x_bestW hL ha hb 59 1 n (by decide) rfl (by omega)
end WX
section WM
theorem m_first {h : Hp} {a b M : Nat} (ha : a < 16) (hb : b < 16) (hM : M < 101) (hr : ∀ i, i < 101 → hi h 267 i = RB (nI a) i) {n : Nat} (hn : 8 ≤ n) : F_X12_firstAt n h (nI b) (nI M) = some (if dT a b ≤ M then nI (dT a b) else -2, h) := by
  have hd := dT_le a ha b hb
  have F : dT a b ≤ M → ∀ (m k n : Nat), k + m = dT a b → m < n → W_X12_firstAt n 2 h (nI b) (nI M) (nI k) = some (nI (dT a b), h) := by
    intro hdM m
    induction m with
    | zero =>
      intro k n hk hn
      obtain ⟨n, rfl⟩ : ∃ n', n = n' + 1 := ⟨n - 1, by omega⟩
      have e : k = dT a b := by omega
      rw [u_X12_firstAt, if_pos rfl, if_neg (nI_nlt (by omega) (by omega)), if_pos (ixN (by omega) (by decide)), nI_clamp (by omega), hr k (by omega), if_pos ((f_M a ha b hb k (by omega)).2 e), e]
    | succ m ih =>
      intro k n hk hn
      obtain ⟨n, rfl⟩ : ∃ n', n = n' + 1 := ⟨n - 1, by omega⟩
      rw [u_X12_firstAt, if_pos rfl, if_neg (nI_nlt (by omega) (by omega)), if_pos (ixN (by omega) (by decide)), nI_clamp (by omega), hr k (by omega), if_neg ((f_M a ha b hb k (by omega)).1 (by omega)), nI_1]
      exact ih (k + 1) n (by omega) (by omega)
  have N : ¬ dT a b ≤ M → ∀ (m k n : Nat), k + m = M + 1 → m < n → W_X12_firstAt n 2 h (nI b) (nI M) (nI k) = some (-2, h) := by
    intro hdM m
    induction m with
    | zero =>
      intro k n hk hn
      obtain ⟨n, rfl⟩ : ∃ n', n = n' + 1 := ⟨n - 1, by omega⟩
      rw [u_X12_firstAt, if_pos rfl, if_pos (nI_lt (by omega) (by omega))]
    | succ m ih =>
      intro k n hk hn
      obtain ⟨n, rfl⟩ : ∃ n', n = n' + 1 := ⟨n - 1, by omega⟩
      rw [u_X12_firstAt, if_pos rfl, if_neg (nI_nlt (by omega) (by omega)), if_pos (ixN (by omega) (by decide)), nI_clamp (by omega), hr k (by omega), if_neg ((f_M a ha b hb k (by omega)).1 (by omega)), nI_1]
      exact ih (k + 1) n (by omega) (by omega)
  unfold F_X12_firstAt
  by_cases c : dT a b ≤ M
  · rw [if_pos c]; exact F c (dT a b) 0 n (by omega) (by omega)
  · rw [if_neg c]; exact N c (M + 1) 0 n (by omega) (by omega)
theorem m_leaveW {a b : Nat} (ha : a < 16) (hb : b < 16) (w : Int32) : ∀ (m j n : Nat) (h : Hp), 1 ≤ j → j + m = 60 → m + 222 ≤ n → FM h → RZ 0 h → ∃ h', W_X12_leave n 35 h (nI a) (nI b) w 0 (nI (dT a b)) (nI j) = some (if w = 0 then 0 else nI (dT a b), h') := by
  have hd := dT_le a ha b hb
  intro m
  induction m with
  | zero =>
    intro j n h h1 hj hn hF hR
    obtain ⟨n, rfl⟩ : ∃ n', n = n' + 1 := ⟨n - 1, by omega⟩
    have e : j = 60 := by omega
    subst e
    refine ⟨h, ?_⟩
    rw [u_X12_leave, if_pos rfl, if_pos (show (60 : Int32) ≤ nI 60 from nI_le (Nat.le_refl _) (by decide))]
    by_cases c : w = 0
    · rw [if_pos c, if_pos c]
    · rw [if_neg c, if_neg c]
  | succ m ih =>
    intro j n h h1 hj hn hF hR
    obtain ⟨n, rfl⟩ : ∃ n', n = n' + 1 := ⟨n - 1, by omega⟩
    obtain ⟨g, e1, k1, r1, q1, -⟩ := m_fill (t := 0) (nI a) (hi h 263 61 + nI j) (b1 := 267) (n := n) (Or.inl rfl) hF hR (by omega)
    obtain ⟨h', e⟩ := ih (j + 1) n g (by omega) (by omega) (by omega) (hF.kS k1) r1
    refine ⟨h', ?_⟩
    have e2 := m_first (h := g) (M := 100) (n := n) ha hb (by decide) q1 (by omega)
    rw [if_pos (by omega)] at e2
    rw [u_X12_leave, if_pos rfl, if_neg (show ¬ (60 : Int32) ≤ nI j from nI_ge (b := 60) (by omega) (by decide)), e1, Option.bind_some, show (100 : Int32) = nI 100 from rfl, e2, Option.bind_some, if_neg (nI_pos (by omega)), if_neg (by decide), if_neg (nI_nlt (Nat.le_refl (dT a b)) (by omega)), nI_1]
    exact e
theorem pu_leave {h0 : Hp} (hX : FX h0) (hM : FM h0) : PU_leave h0 := by
  intro x1 x2 x3
  rcases cell_or x1 with q | ⟨a, ha, rfl⟩
  · refine ⟨1, (-1, h0), 1, (-1, h0), ?_, ?_, rfl⟩
    · rw [F_X11_leave, x_isFree_out hX q, Option.bind_some, if_pos rfl]
    · rw [F_X12_leave, m_areFree_out hM (Or.inl q), Option.bind_some, if_pos rfl]
  rcases cell_or x2 with q | ⟨b, hb, rfl⟩
  · refine ⟨1, (-1, h0), 1, (-1, h0), ?_, ?_, rfl⟩
    · rw [F_X11_leave, x_isFree hX ha, Option.bind_some, if_neg ne10, x_isFree_out hX q, Option.bind_some, if_pos rfl]
    · rw [F_X12_leave, m_areFree_out hM (Or.inr q), Option.bind_some, if_pos rfl]
  have hd := dT_le a ha b hb
  by_cases c : x3 = 0 ∨ x3 = 1
  · obtain ⟨g1, e1, k1, hL⟩ := x_look (n := 100) hX (by decide)
    have hM1 := hM.keep k1
    obtain ⟨g2, e2, k2, r2⟩ := m_copies (n := 400) (by decide) hM1
    obtain ⟨g3, e3, k3, r3, q3, -⟩ := m_fill (t := 0) (nI a) (hi g2 263 61 + 0) (b1 := 267) (n := 399) (Or.inl rfl) (hM1.kS k2) r2 (by decide)
    have e4 := m_first (h := g3) (M := 100) (n := 399) ha hb (by decide) q3 (by decide)
    rw [if_pos (by omega)] at e4
    obtain ⟨g5, e5⟩ := m_leaveW ha hb x3 59 1 399 g3 (by decide) rfl (by decide) ((hM1.kS k2).kS k3) r3
    have e6 := x_few (s := 0) (M := 100) (n := 100) hL ha hb (by decide) (by decide) (by decide) 0
    rw [if_pos (by omega)] at e6
    have i1 : F_X11_isNoughtOrOne 100 h0 x3 = some (1, h0) := by
      unfold F_X11_isNoughtOrOne
      rcases c with rfl | rfl
      · rw [if_pos rfl]
      · rw [if_neg (by decide), if_pos rfl]
    have i2 : F_X12_in 400 g1 x3 0 1 = some (1, g1) := by
      unfold F_X12_in
      rcases c with rfl | rfl
      · rw [if_neg (by decide), if_neg (by decide)]
      · rw [if_neg (by decide), if_neg (by decide)]
    refine ⟨100, (if x3 = 0 then 0 else nI (dT a b), g1), 400, (if x3 = 0 then 0 else nI (dT a b), g5), ?_, ?_, rfl⟩
    · rw [F_X11_leave, x_isFree hX ha, Option.bind_some, if_neg ne10, x_isFree hX hb, Option.bind_some, if_neg ne10, i1, Option.bind_some, if_neg ne10, e1, Option.bind_some, x_best hL ha hb (by decide), Option.bind_some, if_neg (show ¬ (0 : Int32) = -1 by decide)]
      by_cases c0 : x3 = 0
      · rw [if_pos c0, if_pos c0]
      · rw [if_neg c0, if_neg c0, hL.2.2.2.2.1, show (0 : Int32) + (0, g1).1 = nI 0 from rfl, show (100 : Int32) = nI 100 from rfl]
        show (F_X10_fewest 100 g1 (nI a) (nI b) (nI 0) 0 (nI 100)).bind _ = _
        rw [e6, Option.bind_some]
    · rw [F_X12_leave, m_areFree hM1 ha hb, Option.bind_some, if_neg ne10, i2, Option.bind_some, if_neg ne10, e2, Option.bind_some, u_X12_leave, if_pos rfl, if_neg (by decide), e3, Option.bind_some, show (100 : Int32) = nI 100 from rfl, e4, Option.bind_some, if_neg (nI_pos (by omega)), if_pos (by decide)]
      exact e5
  · have c0 : ¬ x3 = 0 := fun q => c (Or.inl q)
    have c1 : ¬ x3 = 1 := fun q => c (Or.inr q)
    refine ⟨1, (-1, h0), 1, (-1, h0), ?_, ?_, rfl⟩
    · rw [F_X11_leave, x_isFree hX ha, Option.bind_some, if_neg ne10, x_isFree hX hb, Option.bind_some, if_neg ne10, x01_out c0 c1, Option.bind_some, if_pos rfl]
    · rw [F_X12_leave, m_areFree hM ha hb, Option.bind_some, if_neg ne10, in01_out c0 c1, Option.bind_some, if_pos rfl]
theorem m_bits0W {h : Hp} (s : Int32) : ∀ (m j n : Nat), j + m = 25 → m < n → W_X12_bits n 4 h 0 s (nI j) = some (s, h) := by
  intro m
  induction m with
  | zero =>
    intro j n hj hn
    obtain ⟨n, rfl⟩ : ∃ n', n = n' + 1 := ⟨n - 1, by omega⟩
    have e : j = 25 := by omega
    subst e
    rw [u_X12_bits, if_pos rfl, if_pos (show (25 : Int32) ≤ nI 25 from nI_le (Nat.le_refl _) (by decide))]
  | succ m ih =>
    intro j n hj hn
    obtain ⟨n, rfl⟩ : ∃ n', n = n' + 1 := ⟨n - 1, by omega⟩
    rw [u_X12_bits, if_pos rfl, if_neg (show ¬ (25 : Int32) ≤ nI j from nI_ge (b := 25) (by omega) (by decide)), sar0, Int32.add_zero, nI_1]
    exact ih (j + 1) n (by omega) (by omega)
theorem m_bits0 {h : Hp} {n : Nat} (hn : 26 ≤ n) : F_X12_bits n h 0 = some (0, h) := m_bits0W 0 25 0 n rfl (by omega)
theorem m_tunesByW {h : Hp} (hF : FM h) (x l : Int32) : ∀ (m j n : Nat), j + m = 16 → m < n → W_X12_tunesBy n 7 h x l 0 (nI j) = some (0, h) := by
  intro m
  induction m with
  | zero =>
    intro j n hj hn
    obtain ⟨n, rfl⟩ : ∃ n', n = n' + 1 := ⟨n - 1, by omega⟩
    have e : j = 16 := by omega
    subst e
    rw [u_X12_tunesBy, if_pos rfl, m_cells hF, Option.bind_some, if_pos (show (16 : Int32) ≤ nI 16 from nI_le (Nat.le_refl _) (by decide))]
  | succ m ih =>
    intro j n hj hn
    obtain ⟨n, rfl⟩ : ∃ n', n = n' + 1 := ⟨n - 1, by omega⟩
    rw [u_X12_tunesBy, if_pos rfl, m_cells hF, Option.bind_some, if_neg (show ¬ (16 : Int32) ≤ nI j from nI_ge (b := 16) (by omega) (by decide)), if_pos (ixN (by omega) (by decide)), nI_clamp (by omega), hF.2.2.1 j (by omega), if_pos rfl, nI_1]
    exact ih (j + 1) n (by omega) (by omega)
theorem m_withoutW {a b N : Nat} (ha : a < 16) (hb : b < 16) (hN : N < 101) : ∀ (m j n : Nat) (h : Hp), j + m = 16 → m + 222 ≤ n → FM h → RZ 0 h → ∃ h', W_X12_isWayWithout n 7 h (nI a) (nI b) (nI N) 0 (nI j) = some (if dT a b ≤ N then 1 else 0, h') ∧ FM h' := by
  intro m
  induction m with
  | zero =>
    intro j n h hj hn hF hR
    obtain ⟨n, rfl⟩ : ∃ n', n = n' + 1 := ⟨n - 1, by omega⟩
    have e : j = 16 := by omega
    subst e
    have hd := dT_le a ha b hb
    obtain ⟨g, e1, k1, r1, q1, -⟩ := m_fill (t := 0) (nI a) (hi h 263 61) (b1 := 267) (n := n) (Or.inl rfl) hF hR (by omega)
    have e2 := m_first (h := g) (M := N) (n := n) ha hb hN q1 (by omega)
    refine ⟨g, ?_, hF.kS k1⟩
    rw [u_X12_isWayWithout, if_pos rfl, m_cells hF, Option.bind_some, if_pos (show (16 : Int32) ≤ nI 16 from nI_le (Nat.le_refl _) (by decide)), e1, Option.bind_some, e2, Option.bind_some]
    by_cases c : dT a b ≤ N
    · rw [if_pos c, if_pos c, if_neg (nI_pos (by omega))]
    · rw [if_neg c, if_neg c, if_pos (show (-2 : Int32) < 0 by decide)]
  | succ m ih =>
    intro j n h hj hn hF hR
    obtain ⟨n, rfl⟩ : ∃ n', n = n' + 1 := ⟨n - 1, by omega⟩
    rw [u_X12_isWayWithout, if_pos rfl, m_cells hF, Option.bind_some, if_neg (show ¬ (16 : Int32) ≤ nI j from nI_ge (b := 16) (by omega) (by decide)), sar0, if_neg ne01, nI_1]
    exact ih (j + 1) n h (by omega) (by omega) hF hR
theorem m_mown {a b N : Nat} {h : Hp} (ha : a < 16) (hb : b < 16) (hN : N < 101) (hF : FM h) : ∃ h', F_X12_fewestMown 300 h (nI a) (nI b) (nI N) = some (if dT a b ≤ N then 0 else -2, h') := by
  obtain ⟨g1, e1, k1, r1⟩ := m_copies (n := 300) (by decide) hF
  have hF1 := hF.kS k1
  obtain ⟨g2, e2, k2, r2⟩ := m_copies (n := 299) (by decide) hF1
  obtain ⟨g3, e3, hF3⟩ := m_withoutW ha hb hN 16 0 299 g2 rfl (by decide) (hF1.kS k2) r2
  refine ⟨g3, ?_⟩
  have t1 : F_X12_tunesBy 299 g1 0 = some (0, g1) := m_tunesByW hF1 0 0 16 0 299 rfl (by decide)
  unfold F_X12_fewestMown
  rw [e1, Option.bind_some, m_tune hF1 r1 (by decide), Option.bind_some, m_bits0 (by decide), Option.bind_some, u_X12_fewestMown, if_pos rfl, if_neg (show ¬ (1 : Int32) <<< ((0 : Int32) &&& 31) ≤ 0 by decide), t1, Option.bind_some, if_pos (show (-2 : Int32) < 0 by decide), F_X12_isWayWithout, e2, Option.bind_some, show W_X12_isWayWithout 299 7 g2 (nI a) (nI b) (nI N) 0 0 = _ from e3, Option.bind_some]
  by_cases c : dT a b ≤ N
  · rw [if_pos c, if_pos c, if_neg ne10, u_X12_fewestMown, if_pos rfl, if_pos (show (1 : Int32) <<< ((0 : Int32) &&& 31) ≤ 0 + 1 by decide)]
  · rw [if_neg c, if_neg c, if_pos rfl, u_X12_fewestMown, if_pos rfl, if_pos (show (1 : Int32) <<< ((0 : Int32) &&& 31) ≤ 0 + 1 by decide)]
theorem pu_mows {h0 : Hp} (hX : FX h0) (hM : FM h0) : PU_mows h0 := by
  intro x1 x2 x3 x4
  rcases cell_or x1 with q | ⟨a, ha, rfl⟩
  · refine ⟨1, (-1, h0), 1, (-1, h0), ?_, ?_, rfl⟩
    · rw [F_X11_mows, x_isFree_out hX q, Option.bind_some, if_pos rfl]
    · rw [F_X12_mows, m_areFree_out hM (Or.inl q), Option.bind_some, if_pos rfl]
  rcases cell_or x2 with q | ⟨b, hb, rfl⟩
  · refine ⟨1, (-1, h0), 1, (-1, h0), ?_, ?_, rfl⟩
    · rw [F_X11_mows, x_isFree hX ha, Option.bind_some, if_neg ne10, x_isFree_out hX q, Option.bind_some, if_pos rfl]
    · rw [F_X12_mows, m_areFree_out hM (Or.inr q), Option.bind_some, if_pos rfl]
  rcases span_or x3 with q | ⟨N, hN, rfl⟩
  · refine ⟨1, (-1, h0), 1, (-1, h0), ?_, ?_, rfl⟩
    · rw [F_X11_mows, x_isFree hX ha, Option.bind_some, if_neg ne10, x_isFree hX hb, Option.bind_some, if_neg ne10, x_isSpan_out q, Option.bind_some, if_pos rfl]
    · rw [F_X12_mows, m_areFree hM ha hb, Option.bind_some, if_neg ne10, m_isLong_out q, Option.bind_some, if_pos rfl]
  have hd := dT_le a ha b hb
  by_cases c : x4 = 0 ∨ x4 = 1
  · obtain ⟨g1, e1, k1, hL⟩ := x_look (n := 100) hX (by decide)
    have hM1 := hM.keep k1
    obtain ⟨g2, e2⟩ := m_mown ha hb hN hM1
    have e6 := x_few (s := 0) (M := N) (n := 100) hL ha hb (by decide) (by omega) (by decide) 0
    have i1 : F_X11_isNoughtOrOne 100 h0 x4 = some (1, h0) := by
      unfold F_X11_isNoughtOrOne
      rcases c with rfl | rfl
      · rw [if_pos rfl]
      · rw [if_neg (by decide), if_pos rfl]
    have i2 : F_X12_in 300 g1 x4 0 1 = some (1, g1) := by
      unfold F_X12_in
      rcases c with rfl | rfl
      · rw [if_neg (by decide), if_neg (by decide)]
      · rw [if_neg (by decide), if_neg (by decide)]
    refine ⟨100, (if dT a b ≤ N then 0 else -2, g1), 300, (if dT a b ≤ N then 0 else -2, g2), ?_, ?_, rfl⟩
    · rw [F_X11_mows, x_isFree hX ha, Option.bind_some, if_neg ne10, x_isFree hX hb, Option.bind_some, if_neg ne10, x_isSpan hN, Option.bind_some, if_neg ne10, i1, Option.bind_some, if_neg ne10, e1, Option.bind_some, hL.2.2.2.2.2, F_X10_fewestMown, hL.2.2.1]
      show ((F_X10_fewest 100 g1 (nI a) (nI b) (nI 0) 0 (nI N)).bind _).bind _ = _
      rw [e6, Option.bind_some]
      by_cases cd : dT a b ≤ N
      · rw [if_pos cd, if_pos cd, if_neg (ne_m1 (by omega)), u_X10_fewestMown, if_pos rfl, bit0, Option.bind_some, if_pos (Int32.le_refl 0), Option.bind_some, if_neg (show ¬ (0 : Int32) = -1 by decide)]
        by_cases c0 : x4 = 0
        · rw [if_pos c0, bit0, Option.bind_some]
        · rw [if_neg c0]
      · rw [if_neg cd, if_neg cd, if_pos rfl, Option.bind_some, if_pos rfl]
    · rw [F_X12_mows, m_areFree hM1 ha hb, Option.bind_some, if_neg ne10, m_isLong hN, Option.bind_some, if_neg ne10, i2, Option.bind_some, if_neg ne10, e2, Option.bind_some]
      by_cases cd : dT a b ≤ N
      · rw [if_pos cd, if_neg (show ¬ (0 : Int32) < 0 by decide)]
        by_cases c1 : x4 = 1
        · rw [if_pos c1]
        · rw [if_neg c1, m_bits0 (by decide), Option.bind_some]
      · rw [if_neg cd, if_pos (show (-2 : Int32) < 0 by decide)]
  · have c0 : ¬ x4 = 0 := fun q => c (Or.inl q)
    have c1 : ¬ x4 = 1 := fun q => c (Or.inr q)
    refine ⟨1, (-1, h0), 1, (-1, h0), ?_, ?_, rfl⟩
    · rw [F_X11_mows, x_isFree hX ha, Option.bind_some, if_neg ne10, x_isFree hX hb, Option.bind_some, if_neg ne10, x_isSpan hN, Option.bind_some, if_neg ne10, x01_out c0 c1, Option.bind_some, if_pos rfl]
    · rw [F_X12_mows, m_areFree hM ha hb, Option.bind_some, if_neg ne10, m_isLong hN, Option.bind_some, if_neg ne10, in01_out c0 c1, Option.bind_some, if_pos rfl]
end WM
