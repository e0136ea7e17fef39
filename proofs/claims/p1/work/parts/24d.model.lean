/-! the model at the fresh state: its helpers, over any cells that are fresh -/
theorem nI_mul (a b : Nat) : nI a * nI b = nI (a * b) := (Int32.ofNat_mul a b).symm
theorem m_copiesW : ∀ (m j n : Nat) (h : Hp), j + m = 63 → m < n → FM h → ∃ h', W_X12_copies n 2 h (nI j) = some h' ∧ kS h h' ∧ (∀ k, j ≤ k → k < 63 → hi h' 263 k = 0) ∧ ∀ k, k < j → hi h' 263 k = hi h 263 k := by
  intro m
  induction m with
  | zero =>
    intro j n h hj hn hF
    obtain ⟨n, rfl⟩ : ∃ n', n = n' + 1 := ⟨n - 1, by omega⟩
    have e : j = 63 := by omega
    subst e
    refine ⟨wrI (wrI h 226 55 (hi h 249 0)) 226 56 0, ?_, kS.w (by unfold scr; omega) (kS.w (by unfold scr; omega) kS.rf), fun k h1 h2 => absurd h2 (by omega), fun k hk => ?_⟩
    · rw [u_X12_copies]
      rw [if_pos rfl, if_pos (show (63 : Int32) ≤ nI 63 from nI_le (Nat.le_refl _) (by decide)), hF.1.1, if_pos ix02, ck0]
    · rw [hi_ne (by decide), hi_ne (by decide)]
  | succ m ih =>
    intro j n h hj hn hF
    obtain ⟨n, rfl⟩ : ∃ n', n = n' + 1 := ⟨n - 1, by omega⟩
    obtain ⟨h', e, k1, k2, k3⟩ := ih (j + 1) n (wrI h 263 j (hi h 262 j)) (by omega) (by omega) (hF.kS (kS.w (Or.inl rfl) kS.rf))
    refine ⟨h', ?_, (kS.w (Or.inl rfl) kS.rf).tr k1, fun k hk1 hk2 => ?_, fun k hk => ?_⟩
    · rw [u_X12_copies]
      rw [if_pos rfl, if_neg (show ¬ (63 : Int32) ≤ nI j from nI_ge (b := 63) (by omega) (by decide)), if_pos (ixN (by omega) (by decide)), if_pos (ixN (by omega) (by decide)), nI_clamp (by omega), nI_1]
      exact e
    · rcases Nat.eq_or_lt_of_le hk1 with rfl | q
      · rw [k3 j (by omega), hi_eq]; exact hF.2.2.1 j hk2
      · exact k2 k q hk2
    · rw [k3 k (by omega), hi_nk (by omega)]
theorem m_copies {n : Nat} {h : Hp} (hn : 64 ≤ n) (hF : FM h) : ∃ h', F_X12_copies n h = some h' ∧ kS h h' ∧ RZ 0 h' := by
  obtain ⟨h', e, k1, k2, -⟩ := m_copiesW 63 0 n h rfl (by omega) hF
  exact ⟨h', e, k1, fun k hk => k2 k (Nat.zero_le _) (by omega), k2 61 (Nat.zero_le _) (by decide)⟩
section M1
variable {h : Hp} {t : Int32}
theorem m_isLoud {n j : Nat} (hR : RZ t h) (hj : j < 61) (x : Int32) : F_X12_isLoud n h (nI j) x = some (0, h) := by
  unfold F_X12_isLoud
  rw [if_pos (ixN (by omega) (by decide)), nI_clamp (by omega), hR.1 j hj, if_pos (Int32.le_refl 0)]
theorem m_loudW (hF : FM h) (hR : RZ t h) (x s : Int32) : ∀ (m j n : Nat), j + m = 16 → m < n → W_X12_loudBits n 4 h x s (nI j) = some (s, h) := by
  intro m
  induction m with
  | zero =>
    intro j n hj hn
    obtain ⟨n, rfl⟩ : ∃ n', n = n' + 1 := ⟨n - 1, by omega⟩
    have e : j = 16 := by omega
    subst e
    rw [u_X12_loudBits]
    rw [if_pos rfl, m_cells hF, Option.bind_some, if_pos (show (16 : Int32) ≤ nI 16 from nI_le (Nat.le_refl _) (by decide))]
  | succ m ih =>
    intro j n hj hn
    obtain ⟨n, rfl⟩ : ∃ n', n = n' + 1 := ⟨n - 1, by omega⟩
    rw [u_X12_loudBits]
    rw [if_pos rfl, m_cells hF, Option.bind_some, if_neg (show ¬ (16 : Int32) ≤ nI j from nI_ge (b := 16) (by omega) (by decide)), m_isLoud hR (by omega), Option.bind_some, if_pos rfl, nI_1]
    exact ih (j + 1) n (by omega) (by omega)
theorem m_loud {n : Nat} (hF : FM h) (hR : RZ t h) (hn : 17 ≤ n) (x : Int32) : F_X12_loudBits n h x = some (0, h) := m_loudW hF hR x 0 16 0 n rfl (by omega)
theorem m_tuneW (hF : FM h) (hR : RZ t h) (s : Int32) : ∀ (m j n : Nat), j + m = 16 → m < n → W_X12_tuneBits n 4 h s (nI j) = some (s, h) := by
  intro m
  induction m with
  | zero =>
    intro j n hj hn
    obtain ⟨n, rfl⟩ : ∃ n', n = n' + 1 := ⟨n - 1, by omega⟩
    have e : j = 16 := by omega
    subst e
    rw [u_X12_tuneBits]
    rw [if_pos rfl, m_cells hF, Option.bind_some, if_pos (show (16 : Int32) ≤ nI 16 from nI_le (Nat.le_refl _) (by decide))]
  | succ m ih =>
    intro j n hj hn
    obtain ⟨n, rfl⟩ : ∃ n', n = n' + 1 := ⟨n - 1, by omega⟩
    rw [u_X12_tuneBits]
    rw [if_pos rfl, m_cells hF, Option.bind_some, if_neg (show ¬ (16 : Int32) ≤ nI j from nI_ge (b := 16) (by omega) (by decide)), if_pos (ixN (by omega) (by decide)), nI_clamp (by omega), hR.1 j (by omega), if_pos (Int32.le_refl 0), nI_1]
    exact ih (j + 1) n (by omega) (by omega)
theorem m_tune {n : Nat} (hF : FM h) (hR : RZ t h) (hn : 17 ≤ n) : F_X12_tuneBits n h = some (0, h) := m_tuneW hF hR 0 16 0 n rfl (by omega)
theorem m_isRoped {n : Nat} (hR : RZ t h) (x : Int32) : F_X12_isRoped n h x = some (0, h) := by
  unfold F_X12_isRoped
  rw [hR.1 50 (by decide), sar0, if_neg (by decide)]
theorem m_free {n : Nat} (hF : FM h) (hR : RZ t h) : F_X12_freeBits n h = some (65535, h) := by
  unfold F_X12_freeBits
  rw [m_cells hF, Option.bind_some, hR.1 50 (by decide)]
  exact congrArg (fun z => some (z, h)) (show (((1 : Int32) <<< ((16 : Int32) &&& 31)) - 1) &&& ((0 : Int32) ^^^ (-1)) = 65535 by decide)
theorem m_safe {n : Nat} (hF : FM h) (hR : RZ t h) (hn : 17 ≤ n) (x : Int32) : F_X12_safeBits n h x = some (65535, h) := by
  unfold F_X12_safeBits
  rw [m_free hF hR, Option.bind_some, m_loud hF hR hn, Option.bind_some]
  exact congrArg (fun z => some (z, h)) (show (65535 : Int32) &&& ((0 : Int32) ^^^ (-1)) = 65535 by decide)
theorem m_goerBits {n : Nat} (hF : FM h) (hn : 1 ≤ n) : F_X12_goerBits n h = some (0, h) := by
  obtain ⟨n, rfl⟩ : ∃ n', n = n' + 1 := ⟨n - 1, by omega⟩
  unfold F_X12_goerBits
  rw [u_X12_goerBits]
  rw [if_pos rfl, hF.1.1, if_pos ix02, ck0, hF.1.2.2.2, if_pos (Int32.le_refl 0)]
theorem m_whoAt {n : Nat} (hF : FM h) (hn : 1 ≤ n) (x : Int32) : F_X12_whoAt n h x = some (0, h) := by
  obtain ⟨n, rfl⟩ : ∃ n', n = n' + 1 := ⟨n - 1, by omega⟩
  unfold F_X12_whoAt
  rw [u_X12_whoAt]
  rw [if_pos rfl, hF.1.1, if_pos ix02, ck0, hF.1.2.2.2, if_pos (Int32.le_refl 0)]
end M1
/-- these cells and those beside them, as the model reckons it -/
def sb (j k : Nat) : Int32 := (1 : Int32) <<< (sideT (5 * j + k) &&& 31)
def NBs (x s : Int32) (j : Nat) : Int32 := if ((x >>> (nI j &&& 31)) &&& (1 : Int32)) = 0 then s else ((((s ||| sb j 0) ||| sb j 1) ||| sb j 2) ||| sb j 3) ||| sb j 4
def NBf (x : Int32) : Nat → Nat → Int32 → Int32
  | 0, _, s => s
  | m + 1, j, s => NBf x m (j + 1) (NBs x s j)
def NB (x : Int32) : Int32 := NBf x 16 0 0
section M2
variable {h : Hp} {t : Int32}
theorem m_near26 {n j k : Nat} (hF : FM h) (hj : j < 16) (hk : k < 5) (x s : Int32) : W_X12_nearBits (n + 1) 26 h x s (nI j) (nI k) = W_X12_nearBits n 26 h x (s ||| sb j k) (nI j) (nI (k + 1)) := by
  have e : (5 : Int32) * nI j + nI k = nI (5 * j + k) := by
    rw [show (5 : Int32) = nI 5 from rfl, nI_mul, nI_add]
  rw [u_X12_nearBits, if_neg (by decide), if_pos rfl, if_neg (show ¬ (5 : Int32) ≤ nI k from nI_ge (b := 5) hk (by decide)), e, if_pos (ixN (by omega) (by decide)), nI_clamp (by omega), hF.2.2.2.1 (5 * j + k) (by omega), nI_1]
  rfl
theorem m_near5 {n j : Nat} (x s : Int32) : W_X12_nearBits (n + 1) 26 h x s (nI j) (nI 5) = W_X12_nearBits n 4 h x s (nI (j + 1)) 0 := by
  rw [u_X12_nearBits, if_neg (by decide), if_pos rfl, if_pos (show (5 : Int32) ≤ nI 5 from nI_le (Nat.le_refl _) (by decide)), nI_1]
theorem m_nearW (hF : FM h) (x : Int32) : ∀ (m j n : Nat) (s : Int32), j + m = 16 → 7 * m + 1 ≤ n → W_X12_nearBits n 4 h x s (nI j) 0 = some (NBf x m j s, h) := by
  intro m
  induction m with
  | zero =>
    intro j n s hj hn
    obtain ⟨n, rfl⟩ : ∃ n', n = n' + 1 := ⟨n - 1, by omega⟩
    have e : j = 16 := by omega
    subst e
    rw [u_X12_nearBits, if_pos rfl, m_cells hF, Option.bind_some, if_pos (show (16 : Int32) ≤ nI 16 from nI_le (Nat.le_refl _) (by decide))]
    rfl
  | succ m ih =>
    intro j n s hj hn
    obtain ⟨n, rfl⟩ : ∃ n', n = n' + 1 := ⟨n - 1, by omega⟩
    have hj' : j < 16 := by omega
    rw [u_X12_nearBits, if_pos rfl, m_cells hF, Option.bind_some, if_neg (show ¬ (16 : Int32) ≤ nI j from nI_ge (b := 16) hj' (by decide))]
    show _ = some (NBf x m (j + 1) (NBs x s j), h)
    by_cases hb : ((x >>> (nI j &&& 31)) &&& (1 : Int32)) = 0
    · rw [if_pos hb, nI_1, ih (j + 1) n s (by omega) (by omega)]
      unfold NBs
      rw [if_pos hb]
    · rw [if_neg hb]
      obtain ⟨n, rfl⟩ : ∃ n', n = n' + 6 := ⟨n - 6, by omega⟩
      have e0 := m_near26 (n := n + 5) hF hj' (show 0 < 5 by decide) x s
      rw [show nI 0 = 0 from rfl] at e0
      rw [e0, m_near26 hF hj' (show 1 < 5 by decide), m_near26 hF hj' (show 2 < 5 by decide), m_near26 hF hj' (show 3 < 5 by decide), m_near26 hF hj' (show 4 < 5 by decide), m_near5, ih (j + 1) n _ (by omega) (by omega)]
      unfold NBs
      rw [if_neg hb]
theorem m_near {n : Nat} (hF : FM h) (hn : 113 ≤ n) (x : Int32) : F_X12_nearBits n h x = some (NB x, h) := m_nearW hF x 16 0 n 0 rfl (by omega)
end M2
/-- the cells that can be reached from a cell, beat by beat -/
def RB (x : Int32) : Nat → Int32
  | 0 => (1 : Int32) <<< (x &&& 31)
  | k + 1 => NB (RB x k) &&& 65535
theorem m_fillW {t : Int32} (x y : Int32) {b1 : Nat} (hb : b1 = 267 ∨ b1 = 268) : ∀ (m j n : Nat) (h : Hp), FM h → RZ t h → 1 ≤ j → j + m = 101 → m + 114 ≤ n → (∀ i, i < j → hi h b1 i = RB x i) → ∃ h', W_X12_fillsReach n 9 h b1 x y (nI j) = some h' ∧ kS h h' ∧ RZ t h' ∧ (∀ i, i < 101 → hi h' b1 i = RB x i) ∧ ∀ a k, a ≠ b1 → hi h' a k = hi h a k := by
  intro m
  induction m with
  | zero =>
    intro j n h hF hR h1 hj hn hi0
    obtain ⟨n, rfl⟩ : ∃ n', n = n' + 1 := ⟨n - 1, by omega⟩
    have e : j = 101 := by omega
    subst e
    refine ⟨h, ?_, kS.rf, hR, hi0, fun _ _ _ => rfl⟩
    rw [u_X12_fillsReach, if_pos rfl, if_pos (show (100 : Int32) < nI 101 from nI_lt (a := 100) (by decide) (by decide))]
  | succ m ih =>
    intro j n h hF hR h1 hj hn hi0
    obtain ⟨n, rfl⟩ : ∃ n', n = n' + 1 := ⟨n - 1, by omega⟩
    obtain ⟨i, rfl⟩ : ∃ i, j = i + 1 := ⟨j - 1, by omega⟩
    have hbs : scr b1 (i + 1) := by unfold scr; rcases hb with q | q <;> rw [q] <;> omega
    have hb3 : (263 : Nat) ≠ b1 := by rcases hb with q | q <;> rw [q] <;> decide
    have hR' : RZ t (wrI h b1 (i + 1) (NB (RB x i) &&& 65535)) := ⟨fun k hk => (hi_ne hb3).trans (hR.1 k hk), (hi_ne hb3).trans hR.2⟩
    obtain ⟨h', e, k1, k2, k3, k4⟩ := ih (i + 1 + 1) n (wrI h b1 (i + 1) (NB (RB x i) &&& 65535)) (hF.kS (kS.w hbs kS.rf)) hR' (by omega) (by omega) (by omega) (fun q hq => by
      by_cases hqi : q = i + 1
      · subst hqi; exact hi_eq
      · rw [hi_nk hqi]; exact hi0 q (by omega))
    refine ⟨h', ?_, (kS.w hbs kS.rf).tr k1, k2, k3, fun a k ha => (k4 a k ha).trans (hi_ne ha)⟩
    rw [u_X12_fillsReach, if_pos rfl, if_neg (show ¬ (100 : Int32) < nI (i + 1) from nI_nlt (a := 100) (by omega) (by decide)), nI_pred, if_pos (ixN (by omega) (by decide)), nI_clamp (by omega), hi0 i (by omega), m_near hF (by omega), Option.bind_some, m_safe hF hR (by omega), Option.bind_some, if_pos (ixN (by omega) (by decide)), nI_clamp (by omega), nI_1]
    exact e
theorem m_fill {t : Int32} (x y : Int32) {b1 n : Nat} {h : Hp} (hb : b1 = 267 ∨ b1 = 268) (hF : FM h) (hR : RZ t h) (hn : 220 ≤ n) : ∃ h', F_X12_fillsReach n h b1 x y = some h' ∧ kS h h' ∧ RZ t h' ∧ (∀ i, i < 101 → hi h' b1 i = RB x i) ∧ ∀ a k, a ≠ b1 → hi h' a k = hi h a k := by
  have hbs : scr b1 0 := by unfold scr; rcases hb with q | q <;> rw [q] <;> omega
  have hb3 : (263 : Nat) ≠ b1 := by rcases hb with q | q <;> rw [q] <;> decide
  obtain ⟨h', e, k1, k2, k3, k4⟩ := m_fillW x y hb 100 1 n (wrI h b1 0 ((1 : Int32) <<< (x &&& 31))) (hF.kS (kS.w hbs kS.rf)) ⟨fun k hk => (hi_ne hb3).trans (hR.1 k hk), (hi_ne hb3).trans hR.2⟩ (by omega) rfl (by omega) (fun i hi => by
    rw [show i = 0 by omega]; exact hi_eq)
  exact ⟨h', e, (kS.w hbs kS.rf).tr k1, k2, k3, fun a k ha => (k4 a k ha).trans (hi_ne ha)⟩
