/-! part at the fresh state: the class's side; rows of small numbers in one number, six bits each -/
def dg (x i : Nat) : Nat := Nat.land (Nat.shiftRight x (Nat.mul 6 i)) 63
def st6 (x i v : Nat) : Nat := Nat.xor x (Nat.shiftLeft (Nat.xor (dg x i) v) (Nat.mul 6 i))
theorem dg_bit (x i t : Nat) : (dg x i).testBit t = (x.testBit (6 * i + t) && decide (t < 6)) := by
  show ((x >>> (6 * i)) &&& (2 ^ 6 - 1)).testBit t = _
  rw [Nat.testBit_and, Nat.testBit_shiftRight, Nat.testBit_two_pow_sub_one]
theorem big_bit {v t : Nat} (hv : v < 64) (ht : 6 ≤ t) : v.testBit t = false := Nat.testBit_lt_two_pow (Nat.lt_of_lt_of_le hv (Nat.pow_le_pow_right (by decide) ht : 2 ^ 6 ≤ 2 ^ t))
theorem st_bit (x i v p : Nat) : (st6 x i v).testBit p = (x.testBit p ^^ (decide (6 * i ≤ p) && ((dg x i).testBit (p - 6 * i) ^^ v.testBit (p - 6 * i)))) := by
  show (x ^^^ ((dg x i ^^^ v) <<< (6 * i))).testBit p = _
  rw [Nat.testBit_xor, Nat.testBit_shiftLeft, Nat.testBit_xor]
theorem dg_st {x i v : Nat} (hv : v < 64) (j : Nat) : dg (st6 x i v) j = if j = i then v else dg x j := by
  apply Nat.eq_of_testBit_eq
  intro t
  rw [dg_bit, st_bit]
  by_cases ht : t < 6
  · by_cases hj : j = i
    · subst hj
      rw [if_pos rfl, dg_bit, show 6 * j + t - 6 * j = t by omega]
      simp only [ht, decide_true, Bool.and_true, show 6 * j ≤ 6 * j + t from Nat.le_add_right _ _, Bool.true_and]
      cases x.testBit (6 * j + t) <;> cases v.testBit t <;> rfl
    · rw [if_neg hj, dg_bit x j]
      by_cases hp : 6 * i ≤ 6 * j + t
      · have h6 : 6 ≤ 6 * j + t - 6 * i := by omega
        rw [dg_bit x i, big_bit hv h6]
        simp only [ht, hp, decide_true, Bool.and_true, Bool.true_and, show ¬ (6 * j + t - 6 * i < 6) by omega, decide_false, Bool.and_false, Bool.xor_false]
      · simp only [hp, decide_false, Bool.false_and, Bool.xor_false]
  · by_cases hj : j = i
    · rw [if_pos hj, big_bit (t := t) hv (by omega)]
      simp only [ht, decide_false, Bool.and_false]
    · rw [if_neg hj, dg_bit x j]
      simp only [ht, decide_false, Bool.and_false]
theorem dg0 (i : Nat) : dg 0 i = 0 := by
  show (0 >>> (6 * i)) &&& 63 = 0
  rw [Nat.zero_shiftRight, Nat.zero_and]
def fd (z : Nat × Nat × Nat) (x y : Nat) : Nat × Nat × Nat := if dg z.1 x = 0 then (if z.2.2 < 50 then (st6 z.1 x (y + 1), st6 z.2.1 z.2.2 x, z.2.2 + 1) else z) else z
def en (A : Nat) (z : Nat × Nat × Nat) (c : Nat) : Nat × Nat × Nat := if dg A c = 0 then fd z (2 * c + 1) (2 * c) else fd z (2 * (dg A c - 1) + 1) (2 * c)
def nb (c a j : Nat) : Bool := decide (j < 16) && decide (dT c j = 1) && !decide (j = a)
def ex (A c a : Nat) : Nat → Nat → Nat × Nat × Nat → Nat × Nat × Nat
  | 0, _, z => if dg A c = 0 then z else fd z (2 * c) (2 * c + 1)
  | m + 1, j, z => ex A c a m (j + 1) (if nb c a j = true then (if dg A j = c + 1 then z else fd z (2 * j) (2 * c + 1)) else z)
def sr (A a b : Nat) : Nat → Nat → Nat × Nat × Nat → Nat × Nat × Nat × Nat
  | 0, _, z => (2, z)
  | m + 1, i, z => if z.2.2 ≤ i then (0, z) else (if dg z.2.1 i = 2 * b then (1, z) else (if dg z.2.1 i % 2 = 0 then sr A a b m (i + 1) (en A z (dg z.2.1 i / 2)) else sr A a b m (i + 1) (ex A (dg z.2.1 i / 2) a 25 0 z)))
def ly (F a b : Nat) : Nat → Nat → Nat → Nat
  | 0, _, A => A
  | m + 1, nd, A => if nd = 2 * a + 1 then A else (if dg F nd = 0 then A else (if nd % 2 = 0 then (if nd / 2 = b then ly F a b m (dg F nd - 1) A else (if (dg F nd - 1) / 2 = nd / 2 then ly F a b m (dg F nd - 1) (st6 A (nd / 2) 0) else ly F a b m (dg F nd - 1) (st6 A (nd / 2) ((dg F nd - 1) / 2 + 1)))) else ly F a b m (dg F nd - 1) A))
def fr (a b : Nat) : Nat → Nat → Nat → Nat
  | 0, _, f => f
  | m + 1, A, f => if (sr A a b 60 0 (fd (0, 0, 0) (2 * a + 1) (2 * a + 1))).1 = 0 then f else (if (sr A a b 60 0 (fd (0, 0, 0) (2 * a + 1) (2 * a + 1))).1 = 1 then fr a b m (ly (sr A a b 60 0 (fd (0, 0, 0) (2 * a + 1) (2 * a + 1))).2.1 a b 50 (2 * b) A) (f + 1) else 99)
theorem x_fill25 : ∀ (m j n : Nat) (h : Hp), j + m = 25 → m < n → (∀ k, k < j → hi h 208 k = -1) → ∃ h', W_J7_fill_25 n 5 h 208 (-1) (nI j) 25 = some h' ∧ (∀ k, k < 25 → hi h' 208 k = -1) ∧ (∀ a k, a ≠ 208 → hi h' a k = hi h a k) := by
  intro m
  induction m with
  | zero =>
    intro j n h hj hn h0
    obtain ⟨n, rfl⟩ : ∃ n', n = n' + 1 := ⟨n - 1, by omega⟩
    have e : j = 25 := by omega
    subst e
    refine ⟨h, ?_, h0, fun _ _ _ => rfl⟩
    rw [u_J7_fill_25, if_pos rfl, if_pos (show (25 : Int32) ≤ nI 25 from nI_le (Nat.le_refl _) (by decide))]
  | succ m ih =>
    intro j n h hj hn h0
    obtain ⟨n, rfl⟩ : ∃ n', n = n' + 1 := ⟨n - 1, by omega⟩
    obtain ⟨h', e, k1, k2⟩ := ih (j + 1) n (wrI h 208 j (-1)) (by omega) (by omega) (fun k hk => by
      by_cases hkj : k = j
      · subst hkj; exact hi_eq
      · rw [hi_nk hkj]; exact h0 k (by omega))
    refine ⟨h', ?_, k1, fun a k ha => (k2 a k ha).trans (hi_ne ha)⟩
    rw [u_J7_fill_25, if_pos rfl, if_neg (show ¬ (25 : Int32) ≤ nI j from nI_ge (b := 25) (by omega) (by decide)), if_pos (ixN (by omega) (by decide)), nI_clamp (by omega), nI_1]
    exact e
theorem x_fill50 : ∀ (m j n : Nat) (h : Hp), j + m = 50 → m < n → (∀ k, k < j → hi h 209 k = -1) → ∃ h', W_J7_fill_50 n 5 h 209 (-1) (nI j) 50 = some h' ∧ (∀ k, k < 50 → hi h' 209 k = -1) ∧ (∀ a k, a ≠ 209 → hi h' a k = hi h a k) := by
  intro m
  induction m with
  | zero =>
    intro j n h hj hn h0
    obtain ⟨n, rfl⟩ : ∃ n', n = n' + 1 := ⟨n - 1, by omega⟩
    have e : j = 50 := by omega
    subst e
    refine ⟨h, ?_, h0, fun _ _ _ => rfl⟩
    rw [u_J7_fill_50, if_pos rfl, if_pos (show (50 : Int32) ≤ nI 50 from nI_le (Nat.le_refl _) (by decide))]
  | succ m ih =>
    intro j n h hj hn h0
    obtain ⟨n, rfl⟩ : ∃ n', n = n' + 1 := ⟨n - 1, by omega⟩
    obtain ⟨h', e, k1, k2⟩ := ih (j + 1) n (wrI h 209 j (-1)) (by omega) (by omega) (fun k hk => by
      by_cases hkj : k = j
      · subst hkj; exact hi_eq
      · rw [hi_nk hkj]; exact h0 k (by omega))
    refine ⟨h', ?_, k1, fun a k ha => (k2 a k ha).trans (hi_ne ha)⟩
    rw [u_J7_fill_50, if_pos rfl, if_neg (show ¬ (50 : Int32) ≤ nI j from nI_ge (b := 50) (by omega) (by decide)), if_pos (ixN (by omega) (by decide)), nI_clamp (by omega), nI_1]
    exact e
/-- the cut's rows are these -/
def CR (h : Hp) (A : Nat) (z : Nat × Nat × Nat) : Prop := (∀ i, i < 25 → hi h 208 i = nI (dg A i) - 1) ∧ (∀ i, i < 50 → hi h 209 i = nI (dg z.1 i) - 1) ∧ (∀ i, i < z.2.2 → hi h 210 i = nI (dg z.2.1 i)) ∧ hi h 207 4 = nI z.2.2 ∧ (hi h 24 0 = 4 ∧ hi h 24 2 = 65535 ∧ hi h 24 3 = 4369) ∧ (∀ i, dg A i ≤ 16) ∧ (∀ i, dg z.1 i ≤ 32) ∧ (∀ i, i < z.2.2 → dg z.2.1 i < 32) ∧ z.2.2 ≤ 50
/-- what a new search needs of them -/
def CA (h : Hp) (A : Nat) : Prop := (∀ i, i < 25 → hi h 208 i = nI (dg A i) - 1) ∧ (hi h 24 0 = 4 ∧ hi h 24 2 = 65535 ∧ hi h 24 3 = 4369) ∧ ∀ i, dg A i ≤ 16
theorem CR.ca {h : Hp} {A : Nat} {z : Nat × Nat × Nat} (C : CR h A z) : CA h A := ⟨C.1, C.2.2.2.2.1, C.2.2.2.2.2.1⟩
theorem dec0 {d : Nat} (hd : d < 100) : nI d - 1 = (-1 : Int32) ↔ d = 0 := by
  constructor
  · intro q
    cases d with
    | zero => rfl
    | succ r => rw [nI_pred] at q; exact absurd q (ne_m1 (by omega))
  · intro q; rw [q]; decide
theorem x_find {h : Hp} {A : Nat} {z : Nat × Nat × Nat} (C : CR h A z) {x y n : Nat} (hx : x < 32) (hy : y < 32) : ∃ h', F_X1_find n h (nI x) (nI y) = some h' ∧ CR h' A (fd z x y) ∧ kM h h' := by
  obtain ⟨F, Q, q⟩ := z
  obtain ⟨c1, c2, c3, c4, c5, c6, c7, c8, c9⟩ := C
  have c4 : hi h 207 4 = nI q := c4
  have c9 : q ≤ 50 := c9
  unfold F_X1_find
  rw [if_neg (nI_pos (by omega)), if_neg (show ¬ (50 : Int32) ≤ nI x from nI_ge (b := 50) (by omega) (by decide)), if_pos (ixN (by omega) (by decide)), nI_clamp (by omega), c2 x (by omega)]
  have h7 : dg F x ≤ 32 := c7 x
  show ∃ h', (if nI (dg F x) - 1 = -1 then _ else some h) = some h' ∧ CR h' A (if dg F x = 0 then (if q < 50 then (st6 F x (y + 1), st6 Q q x, q + 1) else (F, Q, q)) else (F, Q, q)) ∧ kM h h'
  by_cases d0 : dg F x = 0
  · rw [if_pos ((dec0 (by omega)).mpr d0), if_pos d0, c4]
    by_cases dq : q < 50
    · rw [if_neg (show ¬ (50 : Int32) ≤ nI q from nI_ge (b := 50) dq (by decide)), if_pos (ixN (by omega) (by decide)), if_pos dq]
      have e1 : hi (wrI h 209 x (nI y)) 207 4 = nI q := (hi_ne (by decide)).trans c4
      have e2 : hi (wrI (wrI h 209 x (nI y)) 210 q (nI x)) 207 4 = nI q := (hi_ne (by decide)).trans e1
      rw [e1, if_pos (ixN dq (by decide)), nI_clamp (by omega), e2]
      refine ⟨_, rfl, ⟨fun i hi1 => ?_, fun i hi1 => ?_, fun i hi1 => ?_, ?_, ⟨?_, ?_, ?_⟩, c6, fun i => ?_, fun i hi1 => ?_, ?_⟩, kM.w (by decide) (kM.w (by decide) (kM.w (by decide) kM.rf))⟩
      · rw [hi_ne (by decide), hi_ne (by decide), hi_ne (by decide)]; exact c1 i hi1
      · rw [hi_ne (by decide), hi_ne (by decide)]
        show _ = nI (dg (st6 F x (y + 1)) i) - 1
        rw [dg_st (by omega)]
        by_cases c : i = x
        · rw [if_pos c, c, hi_eq, nI_pred]
        · rw [if_neg c, hi_nk c]; exact c2 i hi1
      · have hi1 : i < q + 1 := hi1
        rw [hi_ne (by decide)]
        show _ = nI (dg (st6 Q q x) i)
        rw [dg_st (by omega)]
        by_cases c : i = q
        · rw [if_pos c, c, hi_eq]
        · rw [if_neg c, hi_nk c, hi_ne (by decide)]; exact c3 i (by show i < q; omega)
      · rw [hi_eq, nI_1]
      · rw [hi_ne (by decide), hi_ne (by decide), hi_ne (by decide)]; exact c5.1
      · rw [hi_ne (by decide), hi_ne (by decide), hi_ne (by decide)]; exact c5.2.1
      · rw [hi_ne (by decide), hi_ne (by decide), hi_ne (by decide)]; exact c5.2.2
      · show dg (st6 F x (y + 1)) i ≤ 32
        rw [dg_st (by omega)]
        by_cases c : i = x
        · rw [if_pos c]; omega
        · rw [if_neg c]; exact c7 i
      · have hi1 : i < q + 1 := hi1
        show dg (st6 Q q x) i < 32
        rw [dg_st (by omega)]
        by_cases c : i = q
        · rw [if_pos c]; exact hx
        · rw [if_neg c]; exact c8 i (by show i < q; omega)
      · show q + 1 ≤ 50; omega
    · rw [if_pos (show (50 : Int32) ≤ nI q from nI_le (a := 50) (by omega) (by omega)), if_neg dq]
      exact ⟨h, rfl, ⟨c1, c2, c3, c4, c5, c6, c7, c8, c9⟩, kM.rf⟩
  · rw [if_neg (fun w => d0 ((dec0 (by omega)).mp w)), if_neg d0]
    exact ⟨h, rfl, ⟨c1, c2, c3, c4, c5, c6, c7, c8, c9⟩, kM.rf⟩
theorem two_n (c : Nat) : (2 : Int32) * nI c = nI (2 * c) := by rw [show (2 : Int32) = nI 2 from rfl, nI_mul]
theorem x_entry {h : Hp} {A : Nat} {z : Nat × Nat × Nat} (C : CR h A z) {c n : Nat} (hc : c < 16) : ∃ h', F_X1_leadOnFromEntry n h (nI c) = some h' ∧ CR h' A (en A z c) ∧ kM h h' := by
  have h6 := C.2.2.2.2.2.1 c
  unfold F_X1_leadOnFromEntry en
  rw [if_pos (ixN (by omega) (by decide)), nI_clamp (by omega), C.1 c (by omega)]
  by_cases d0 : dg A c = 0
  · rw [if_pos ((dec0 (by omega)).mpr d0), if_pos d0, two_n, nI_1]
    obtain ⟨h', e, k1, k2⟩ := x_find C (n := n) (x := 2 * c + 1) (y := 2 * c) (by omega) (by omega)
    exact ⟨h', by rw [e, Option.bind_some], k1, k2⟩
  · obtain ⟨r, hr⟩ : ∃ r, dg A c = r + 1 := ⟨dg A c - 1, by omega⟩
    rw [if_neg (fun w => d0 ((dec0 (by omega)).mp w)), if_neg d0, hr, nI_pred, two_n, two_n, nI_1, show r + 1 - 1 = r by omega]
    obtain ⟨h', e, k1, k2⟩ := x_find C (n := n) (x := 2 * r + 1) (y := 2 * c) (by omega) (by omega)
    exact ⟨h', by rw [e, Option.bind_some], k1, k2⟩
def mkE (c a : Nat) : Int32 := (GX ((1 : Int32) <<< (nI c &&& 31)) &&& ((65535 : Int32) &&& (((1 : Int32) <<< (nI a &&& 31)) ^^^ (-1)))) &&& (((1 : Int32) <<< (nI c &&& 31)) ^^^ (-1))
theorem f_E : ∀ c, c < 16 → ∀ a, a < 16 → ∀ j, j < 25 → decide (ubit (mkE c a) (nI j) = 0) = !nb c a j := by decide +kernel
theorem x_exitW {A c a : Nat} (hc : c < 16) (ha : a < 16) (x2 : Int32) : ∀ (m j n : Nat) (h : Hp) (z : Nat × Nat × Nat), CR h A z → j + m = 25 → m + 1 ≤ n → ∃ h', W_X1_leadOnFromExit n 22 h (nI c) x2 (mkE c a) (nI j) = some h' ∧ CR h' A (ex A c a m j z) ∧ kM h h' := by
  intro m
  induction m with
  | zero =>
    intro j n h z C hj hn
    obtain ⟨n, rfl⟩ : ∃ n', n = n' + 1 := ⟨n - 1, by omega⟩
    have e : j = 25 := by omega
    subst e
    have h6 := C.2.2.2.2.2.1 c
    rw [u_X1_leadOnFromExit, if_pos rfl, if_pos (show (25 : Int32) ≤ nI 25 from nI_le (Nat.le_refl _) (by decide)), if_pos (ixN (by omega) (by decide)), nI_clamp (by omega), C.1 c (by omega), ex]
    by_cases d0 : dg A c = 0
    · rw [if_pos ((dec0 (by omega)).mpr d0), if_pos d0]
      exact ⟨h, rfl, C, kM.rf⟩
    · rw [if_neg (fun w => d0 ((dec0 (by omega)).mp w)), if_neg d0, two_n, nI_1]
      obtain ⟨h', e, k1, k2⟩ := x_find C (n := n) (x := 2 * c) (y := 2 * c + 1) (by omega) (by omega)
      exact ⟨h', by rw [e, Option.bind_some], k1, k2⟩
  | succ m ih =>
    intro j n h z C hj hn
    obtain ⟨n, rfl⟩ : ∃ n', n = n' + 1 := ⟨n - 1, by omega⟩
    have hf := f_E c hc a ha j (by omega)
    rw [u_X1_leadOnFromExit, if_pos rfl, if_neg (show ¬ (25 : Int32) ≤ nI j from nI_ge (b := 25) (by omega) (by decide)), ex]
    cases hb : nb c a j with
    | false =>
      rw [hb] at hf
      rw [if_pos (of_decide_eq_true hf), if_neg (by decide), nI_1]
      exact ih (j + 1) n h z C (by omega) (by omega)
    | true =>
      rw [hb] at hf
      have hj16 : j < 16 := by
        simp only [nb, Bool.and_eq_true, decide_eq_true_eq] at hb
        exact hb.1.1
      have h6 := C.2.2.2.2.2.1 j
      rw [if_neg (of_decide_eq_false hf), if_pos rfl, if_pos (ixN (by omega) (by decide)), nI_clamp (by omega), C.1 j (by omega), nI_1]
      have hiff : nI (dg A j) - 1 = nI c ↔ dg A j = c + 1 := by
        constructor
        · intro w
          rcases Nat.eq_zero_or_pos (dg A j) with q | q
          · rw [q] at w
            exact absurd w.symm (by rw [show nI 0 - 1 = (-1 : Int32) by decide]; exact ne_m1 (by omega))
          · obtain ⟨r, hr⟩ : ∃ r, dg A j = r + 1 := ⟨dg A j - 1, by omega⟩
            rw [hr, nI_pred] at w
            rw [hr, (nI_eq (by omega) (by omega)).mp w]
        · intro w; rw [w, nI_pred]
      by_cases d1 : dg A j = c + 1
      · rw [if_pos (hiff.mpr d1), if_pos d1]
        exact ih (j + 1) n h z C (by omega) (by omega)
      · rw [if_neg (fun w => d1 (hiff.mp w)), if_neg d1, two_n, two_n, nI_1]
        obtain ⟨g, e, k1, k2⟩ := x_find C (n := n) (x := 2 * j) (y := 2 * c + 1) (by omega) (by omega)
        obtain ⟨h', e2, k3, k4⟩ := ih (j + 1) n g _ k1 (by omega) (by omega)
        exact ⟨h', by rw [e, Option.bind_some]; exact e2, k3, k2.tr k4⟩
theorem x_exit {h : Hp} {A : Nat} {z : Nat × Nat × Nat} (C : CR h A z) {c a n : Nat} (hc : c < 16) (ha : a < 16) (hn : 26 ≤ n) : ∃ h', F_X1_leadOnFromExit n h (nI c) ((65535 : Int32) &&& (((1 : Int32) <<< (nI a &&& 31)) ^^^ (-1))) = some h' ∧ CR h' A (ex A c a 25 0 z) ∧ kM h h' := by
  unfold F_X1_leadOnFromExit
  rw [x_grown C.2.2.2.2.1.1 C.2.2.2.2.1.2.1 C.2.2.2.2.1.2.2, Option.bind_some]
  exact x_exitW hc ha _ 25 0 n h z C rfl (by omega)
theorem x_searchW {A a b : Nat} (ha : a < 16) (hb : b < 16) : ∀ (m i n : Nat) (h : Hp) (z : Nat × Nat × Nat), CR h A z → (sr A a b m i z).1 ≠ 2 → i ≤ 50 → m + 30 ≤ n → ∃ h', W_X1_search n 30 h 65535 (nI a) (nI b) (nI i) = some (nI (sr A a b m i z).1, h') ∧ CR h' A (sr A a b m i z).2 ∧ kM h h' := by
  intro m
  induction m with
  | zero => intro i n h z C hs hi50 hn; exact absurd rfl hs
  | succ m ih =>
    intro i n h z C hs hi50 hn
    obtain ⟨n, rfl⟩ : ∃ n', n = n' + 1 := ⟨n - 1, by omega⟩
    have c9 := C.2.2.2.2.2.2.2.2
    rw [sr] at hs ⊢
    rw [u_X1_search, if_pos rfl, C.2.2.2.1]
    by_cases d1 : z.2.2 ≤ i
    · rw [if_pos d1] at hs ⊢
      rw [if_pos (nI_le d1 (by omega))]
      exact ⟨h, rfl, C, kM.rf⟩
    · rw [if_neg d1] at hs ⊢
      have hq := C.2.2.2.2.2.2.2.1 i (by omega)
      rw [if_neg (nI_ge (by omega) (by omega)), if_neg (show ¬ (50 : Int32) ≤ nI i from nI_ge (b := 50) (by omega) (by decide)), if_pos (ixN (by omega) (by decide)), if_pos (ixN (by omega) (by decide)), nI_clamp (by omega), C.2.2.1 i (by omega), two_n]
      by_cases d2 : dg z.2.1 i = 2 * b
      · rw [if_pos d2] at hs ⊢
        rw [if_pos (by rw [d2])]
        exact ⟨h, rfl, C, kM.rf⟩
      · rw [if_neg d2] at hs ⊢
        have ea : nI (dg z.2.1 i) &&& 1 = nI (dg z.2.1 i % 2) := by
          rw [show (1 : Int32) = nI 1 from rfl, nI_and, Nat.and_one_is_mod]
        have eb : nI (dg z.2.1 i) >>> ((1 : Int32) &&& 31) = nI (dg z.2.1 i / 2) := by
          rw [show (1 : Int32) = nI 1 from rfl, nI_shr (by omega) (by decide)]
          rfl
        rw [if_neg (fun w => d2 ((nI_eq (by omega) (by omega)).mp w)), if_pos (ixN (by omega) (by decide)), ea, eb]
        by_cases d3 : dg z.2.1 i % 2 = 0
        · rw [if_pos d3] at hs ⊢
          obtain ⟨g, e, k1, k2⟩ := x_entry C (n := n) (c := dg z.2.1 i / 2) (by omega)
          obtain ⟨h', e2, k3, k4⟩ := ih (i + 1) n g _ k1 hs (by omega) (by omega)
          exact ⟨h', by rw [if_pos (by rw [d3]; rfl), e, Option.bind_some, nI_1]; exact e2, k3, k2.tr k4⟩
        · rw [if_neg d3] at hs ⊢
          obtain ⟨g, e, k1, k2⟩ := x_exit C (n := n) (c := dg z.2.1 i / 2) (a := a) (by omega) ha (by omega)
          obtain ⟨h', e2, k3, k4⟩ := ih (i + 1) n g _ k1 hs (by omega) (by omega)
          exact ⟨h', by rw [if_neg (show ¬ nI (dg z.2.1 i % 2) = (0 : Int32) from fun w => d3 ((nI_eq (b := 0) (by omega) (by decide)).mp w)), e, Option.bind_some, nI_1]; exact e2, k3, k2.tr k4⟩
theorem x_search {A a b n : Nat} {h : Hp} (C : CA h A) (ha : a < 16) (hb : b < 16) (hn : 100 ≤ n) (hs : (sr A a b 60 0 (fd (0, 0, 0) (2 * a + 1) (2 * a + 1))).1 ≠ 2) : ∃ h', F_X1_search n h 65535 (nI a) (nI b) = some (nI (sr A a b 60 0 (fd (0, 0, 0) (2 * a + 1) (2 * a + 1))).1, h') ∧ CR h' A (sr A a b 60 0 (fd (0, 0, 0) (2 * a + 1) (2 * a + 1))).2 ∧ kM h h' := by
  obtain ⟨c1, c5, c6⟩ := C
  obtain ⟨g, e, f1, f2⟩ := x_fill50 50 0 n h rfl (by omega) (fun k hk => absurd hk (by omega))
  have C1 : CR (wrI g 207 4 0) A (0, 0, 0) := by
    refine ⟨fun i hi1 => ?_, fun i hi1 => ?_, fun i hi1 => absurd hi1 (Nat.not_lt_zero _), hi_eq, ⟨?_, ?_, ?_⟩, c6, fun i => ?_, fun i hi1 => absurd hi1 (Nat.not_lt_zero _), by decide⟩
    · rw [hi_ne (by decide), f2 _ _ (by decide)]; exact c1 i hi1
    · rw [hi_ne (by decide), f1 i hi1]
      show _ = nI (dg 0 i) - 1
      rw [dg0]; decide
    · rw [hi_ne (by decide), f2 _ _ (by decide)]; exact c5.1
    · rw [hi_ne (by decide), f2 _ _ (by decide)]; exact c5.2.1
    · rw [hi_ne (by decide), f2 _ _ (by decide)]; exact c5.2.2
    · show dg 0 i ≤ 32
      rw [dg0]; decide
  have kg : kM h (wrI g 207 4 0) := fun x k hx => (hi_ne (by omega)).trans (f2 x k (by omega))
  obtain ⟨g2, e2, k1, k2⟩ := x_find C1 (n := n) (x := 2 * a + 1) (y := 2 * a + 1) (by omega) (by omega)
  obtain ⟨h', e3, k3, k4⟩ := x_searchW ha hb 60 0 n g2 _ k1 hs (by decide) (by omega)
  refine ⟨h', ?_, k3, (kg.tr k2).tr k4⟩
  unfold F_X1_search
  rw [F_J7_fill_50, show W_J7_fill_50 n 5 h 209 (-1) 0 50 = _ from e, Option.bind_some, two_n, nI_1, e2, Option.bind_some]
  exact e3
theorem x_layW {a b : Nat} (ha : a < 16) (hb : b < 16) : ∀ (m t nd n A : Nat) (h : Hp) (z : Nat × Nat × Nat), CR h A z → t + m = 50 → nd < 32 → m < n → ∃ h', W_X1_layWay n 7 h (nI a) (nI b) (nI nd) (nI t) = some h' ∧ CR h' (ly z.1 a b m nd A) z ∧ kM h h' := by
  intro m
  induction m with
  | zero =>
    intro t nd n A h z C ht hnd hn
    obtain ⟨n, rfl⟩ : ∃ n', n = n' + 1 := ⟨n - 1, by omega⟩
    have e : t = 50 := by omega
    subst e
    rw [u_X1_layWay, if_pos rfl, if_pos (show (50 : Int32) ≤ nI 50 from nI_le (Nat.le_refl _) (by decide)), ly]
    exact ⟨h, rfl, C, kM.rf⟩
  | succ m ih =>
    intro t nd n A h z C ht hnd hn
    obtain ⟨n, rfl⟩ : ∃ n', n = n' + 1 := ⟨n - 1, by omega⟩
    have h7 := C.2.2.2.2.2.2.1 nd
    rw [u_X1_layWay, if_pos rfl, if_neg (show ¬ (50 : Int32) ≤ nI t from nI_ge (b := 50) (by omega) (by decide)), two_n, nI_1, ly]
    by_cases d1 : nd = 2 * a + 1
    · rw [if_pos (by rw [d1]), if_pos d1]
      exact ⟨h, rfl, C, kM.rf⟩
    rw [if_neg (fun w => d1 ((nI_eq (by omega) (by omega)).mp w)), if_neg d1, if_pos (ixN (by omega) (by decide)), nI_clamp (by omega), C.2.1 nd (by omega)]
    by_cases d2 : dg z.1 nd = 0
    · rw [if_pos d2, d2, if_neg (by decide)]
      exact ⟨h, rfl, C, kM.rf⟩
    obtain ⟨r, hr⟩ : ∃ r, dg z.1 nd = r + 1 := ⟨dg z.1 nd - 1, by omega⟩
    have ea : nI nd &&& 1 = nI (nd % 2) := by
      rw [show (1 : Int32) = nI 1 from rfl, nI_and, Nat.and_one_is_mod]
    have eb : ∀ w, w < 1000 → nI w >>> ((1 : Int32) &&& 31) = nI (w / 2) := fun w hw => by
      rw [show (1 : Int32) = nI 1 from rfl, nI_shr (by omega) (by decide)]
      rfl
    rw [if_neg d2, hr, nI_pred, if_pos (nI_pos' (by omega)), ea, eb nd (by omega), eb r (by omega), show r + 1 - 1 = r by omega, nI_1]
    by_cases d3 : nd % 2 = 0
    · rw [if_pos (by rw [d3]; rfl), if_pos d3]
      by_cases d4 : nd / 2 = b
      · rw [if_pos (by rw [d4]), if_pos d4]
        exact ih (t + 1) r n A h z C (by omega) (by omega) (by omega)
      · rw [if_neg (fun w => d4 ((nI_eq (by omega) (by omega)).mp w)), if_neg d4]
        have upd : ∀ v, v ≤ 16 → ∀ w : Int32, w = nI v - 1 → CR (wrI h 208 (nd / 2) w) (st6 A (nd / 2) v) z := fun v hv w hw => by
          obtain ⟨c1, c2, c3, c4, c5, c6, c7, c8, c9⟩ := C
          refine ⟨fun i hi1 => ?_, fun i hi1 => (hi_ne (by decide)).trans (c2 i hi1), fun i hi1 => (hi_ne (by decide)).trans (c3 i hi1), (hi_ne (by decide)).trans c4, ⟨(hi_ne (by decide)).trans c5.1, (hi_ne (by decide)).trans c5.2.1, (hi_ne (by decide)).trans c5.2.2⟩, fun i => ?_, c7, c8, c9⟩
          · rw [dg_st (by omega)]
            by_cases c : i = nd / 2
            · rw [if_pos c, c, hi_eq]; exact hw
            · rw [if_neg c, hi_nk c]; exact c1 i hi1
          · rw [dg_st (by omega)]
            by_cases c : i = nd / 2
            · rw [if_pos c]; exact hv
            · rw [if_neg c]; exact c6 i
        by_cases d5 : r / 2 = nd / 2
        · rw [if_pos (by rw [d5]), if_pos d5, if_pos (ixN (by omega) (by decide)), nI_clamp (by omega)]
          obtain ⟨h', e, k1, k2⟩ := ih (t + 1) r n _ _ z (upd 0 (by decide) (-1) (by decide)) (by omega) (by omega) (by omega)
          exact ⟨h', e, k1, (kM.w (by decide) kM.rf).tr k2⟩
        · rw [if_neg (fun w => d5 ((nI_eq (by omega) (by omega)).mp w)), if_neg d5, if_pos (ixN (by omega) (by decide)), nI_clamp (by omega)]
          obtain ⟨h', e, k1, k2⟩ := ih (t + 1) r n _ _ z (upd (r / 2 + 1) (by omega) (nI (r / 2)) (nI_pred _).symm) (by omega) (by omega) (by omega)
          exact ⟨h', e, k1, (kM.w (by decide) kM.rf).tr k2⟩
    · rw [if_neg (show ¬ nI (nd % 2) = (0 : Int32) from fun w => d3 ((nI_eq (b := 0) (by omega) (by decide)).mp w)), if_neg d3]
      exact ih (t + 1) r n A h z C (by omega) (by omega) (by omega)
theorem x_frW {a b : Nat} (ha : a < 16) (hb : b < 16) : ∀ (m t n A f : Nat) (h : Hp), CA h A → t + m = 4 → fr a b m A f ≠ 99 → m + 110 ≤ n → ∃ h', W_X1_fewestRopes n 14 h 65535 (nI a) (nI b) (nI f) (nI t) = some (nI (fr a b m A f), h') ∧ kM h h' := by
  intro m
  induction m with
  | zero =>
    intro t n A f h C ht hs hn
    obtain ⟨n, rfl⟩ : ∃ n', n = n' + 1 := ⟨n - 1, by omega⟩
    have e : t = 4 := by omega
    subst e
    rw [u_X1_fewestRopes, if_pos rfl, if_pos (show (4 : Int32) ≤ nI 4 from nI_le (Nat.le_refl _) (by decide)), fr]
    exact ⟨h, rfl, kM.rf⟩
  | succ m ih =>
    intro t n A f h C ht hs hn
    obtain ⟨n, rfl⟩ : ∃ n', n = n' + 1 := ⟨n - 1, by omega⟩
    rw [fr] at hs ⊢
    rw [u_X1_fewestRopes, if_pos rfl, if_neg (show ¬ (4 : Int32) ≤ nI t from nI_ge (b := 4) (by omega) (by decide))]
    by_cases d0 : (sr A a b 60 0 (fd (0, 0, 0) (2 * a + 1) (2 * a + 1))).1 = 0
    · rw [if_pos d0] at hs ⊢
      obtain ⟨g, e, k1, k2⟩ := x_search C (n := n) ha hb (by omega) (by rw [d0]; decide)
      rw [d0] at e
      exact ⟨g, by rw [e, Option.bind_some, if_pos (show nI 0 = (0 : Int32) from rfl)], k2⟩
    · rw [if_neg d0] at hs ⊢
      by_cases d1 : (sr A a b 60 0 (fd (0, 0, 0) (2 * a + 1) (2 * a + 1))).1 = 1
      · rw [if_pos d1] at hs ⊢
        obtain ⟨g, e, k1, k2⟩ := x_search C (n := n) ha hb (by omega) (by rw [d1]; decide)
        rw [d1] at e
        obtain ⟨g2, e2, k3, k4⟩ := x_layW ha hb 50 0 (2 * b) n A g _ k1 rfl (by omega) (by omega)
        obtain ⟨h', e3, k5⟩ := ih (t + 1) n _ (f + 1) g2 k3.ca (by omega) hs (by omega)
        refine ⟨h', ?_, (k2.tr k4).tr k5⟩
        rw [e, Option.bind_some, if_neg (show ¬ nI 1 = (0 : Int32) by decide), F_X1_layWay, two_n, show W_X1_layWay n 7 g (nI a) (nI b) (nI (2 * b)) 0 = _ from e2, Option.bind_some, nI_1, nI_1]
        exact e3
      · rw [if_neg d1] at hs
        exact absurd rfl hs
theorem x_ropes {a b n : Nat} {h : Hp} (ha : a < 16) (hb : b < 16) (hX : hi h 24 0 = 4 ∧ hi h 24 2 = 65535 ∧ hi h 24 3 = 4369) (hs : fr a b 4 0 0 ≠ 99) (hn : 120 ≤ n) : ∃ h', F_X1_fewestRopes n h 65535 (nI a) (nI b) = some (nI (fr a b 4 0 0), h') ∧ kM h h' := by
  obtain ⟨g, e, f1, f2⟩ := x_fill25 25 0 n h rfl (by omega) (fun k hk => absurd hk (by omega))
  have C : CA g 0 := by
    refine ⟨fun i hi1 => ?_, ⟨(f2 _ _ (by decide)).trans hX.1, (f2 _ _ (by decide)).trans hX.2.1, (f2 _ _ (by decide)).trans hX.2.2⟩, fun i => by rw [dg0]; decide⟩
    rw [f1 i hi1, dg0]; decide
  obtain ⟨h', e2, k2⟩ := x_frW ha hb 4 0 n 0 0 g C rfl hs (by omega)
  refine ⟨h', ?_, fun x k hx => (k2 x k hx).trans (f2 x k (by omega))⟩
  unfold F_X1_fewestRopes
  rw [F_J7_fill_25, show W_J7_fill_25 n 5 h 208 (-1) 0 25 = _ from e, Option.bind_some]
  exact e2
