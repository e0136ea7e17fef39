/-! the cells on a way, at the fresh state -/
def bcE (x : Int32) : Int32 := match F_J6_bitCount_0f7a4 0 hE x with
  | some q => q.1
  | none => 0
theorem bc_eq (n : Nat) (h : Hp) (x : Int32) : F_J6_bitCount_0f7a4 n h x = some (bcE x, h) := rfl
def LOWx (x : Int32) : Int32 := bcE ((x &&& (-x)) - 1)
theorem low_eq (n : Nat) (h : Hp) (x : Int32) : F_X11_lowest n h x = some (LOWx x, h) := by
  unfold F_X11_lowest
  rw [bc_eq, Option.bind_some]
  rfl
/-- one step nearer, to the lowest such cell -/
def wS (c b : Nat) : Nat := if b / 4 < c / 4 then c - 4 else if b % 4 < c % 4 then c - 1 else if c % 4 < b % 4 then c + 1 else if c / 4 < b / 4 then c + 4 else c
def wT (a b : Nat) : Nat → Nat
  | 0 => a
  | k + 1 => wS (wT a b k) b
def AH (y : Int32) : Nat → Int32
  | 0 => (1 : Int32) <<< (y &&& 31)
  | j + 1 => GX (AH y j &&& 65535)
def BK (a b d : Nat) : Nat → Int32
  | 0 => (1 : Int32) <<< (nI b &&& 31)
  | j + 1 => NB (BK a b d j) &&& RB (nI a) (d - (j + 1))
theorem w_16 : ∀ a, a < 16 → ∀ b, b < 16 → ∀ k, k < 7 → wT a b k < 16 := by decide +kernel
theorem f_W : ∀ a, a < 16 → ∀ b, b < 16 → ∀ k, k < 6 → k < dT a b → LOWx ((GX ((1 : Int32) <<< (nI (wT a b k) &&& 31)) &&& 65535) &&& AH (nI b) (dT a b - (k + 1))) = nI (wT a b (k + 1)) := by decide +kernel
def bitB (s : Int32) (j : Nat) : Bool := decide (((s >>> (nI j &&& 31)) &&& (1 : Int32)) = 0)
def lowB (s : Int32) : Nat → Nat → Bool
  | 0, j => !bitB s j
  | m + 1, j => bitB s j && lowB s m (j + 1)
theorem f_L : ∀ a, a < 16 → ∀ b, b < 16 → ∀ k, k < 6 → k < dT a b → lowB (NB ((1 : Int32) <<< (nI (wT a b k) &&& 31)) &&& BK a b (dT a b) (dT a b - (k + 1))) (wT a b (k + 1)) 0 = true := by decide +kernel
theorem m_lowW {h : Hp} {s : Int32} : ∀ (m j n : Nat), lowB s m j = true → m < n → W_X12_lowestOf n 2 h s (nI j) = some (nI (j + m), h) := by
  intro m
  induction m with
  | zero =>
    intro j n hl hn
    obtain ⟨n, rfl⟩ : ∃ n', n = n' + 1 := ⟨n - 1, by omega⟩
    have hb : ¬ ((s >>> (nI j &&& 31)) &&& (1 : Int32)) = 0 := by
      intro q
      simp only [lowB, bitB, q, decide_true, Bool.not_true] at hl
      cases hl
    rw [u_X12_lowestOf, if_pos rfl, if_neg hb]
    rfl
  | succ m ih =>
    intro j n hl hn
    obtain ⟨n, rfl⟩ : ∃ n', n = n' + 1 := ⟨n - 1, by omega⟩
    simp only [lowB, bitB, Bool.and_eq_true, decide_eq_true_eq] at hl
    rw [u_X12_lowestOf, if_pos rfl, if_pos hl.1, nI_1, ih (j + 1) n hl.2 (by omega), show j + 1 + m = j + (m + 1) by omega]
theorem m1_eq (r : Nat) : nI r + (-1) = nI r - 1 := by
  cases r with
  | zero => decide
  | succ r => rw [pk_m1, nI_pred]
section WAY
theorem LK.w6 {h : Hp} {i : Nat} {v : Int32} (hL : LK h) : LK (wrI h 206 i v) := by
  obtain ⟨⟨a, b, c⟩, d, e, f, g, k⟩ := hL
  exact ⟨⟨(hi_ne (by decide)).trans a, (hi_ne (by decide)).trans b, (hi_ne (by decide)).trans c⟩, (hi_ne (by decide)).trans d, (hi_ne (by decide)).trans e, fun q hq => (hi_ne (by decide)).trans (f q hq), (hi_ne (by decide)).trans g, (hi_ne (by decide)).trans k⟩
theorem x_backW {d : Nat} (hd : d ≤ 6) (y : Int32) : ∀ (r n : Nat) (h : Hp), r ≤ d → r + 2 ≤ n → LK h → (∀ i, r < i → i ≤ d → hi h 206 i = AH y (d - i)) → ∃ h', W_X10_lookBack n 12 h y (nI d) (AH y (d - r)) (nI r) = some h' ∧ LK h' ∧ kM h h' ∧ ∀ i, i ≤ d → hi h' 206 i = AH y (d - i) := by
  intro r
  induction r with
  | zero =>
    intro n h hr hn hL hi0
    obtain ⟨n, rfl⟩ : ∃ n', n = n' + 2 := ⟨n - 2, by omega⟩
    have hL' : LK (wrI h 206 0 (AH y (d - 0))) := hL.w6
    refine ⟨wrI h 206 0 (AH y (d - 0)), ?_, hL', kM.w (by decide) kM.rf, fun i hi1 => ?_⟩
    · rw [u_X10_lookBack, if_pos rfl, if_neg (nI_pos (by decide)), if_pos (ixN (by decide) (by decide)), nI_clamp (by decide), hL'.2.2.1, show (0 : Int32) + nI 0 = nI 0 by decide, x_quiet hL' (by decide), Option.bind_some, x_grown hL'.1.1 hL'.1.2.1 hL'.1.2.2, Option.bind_some, u_X10_lookBack, if_pos rfl, if_pos (by decide)]
    · by_cases c : i = 0
      · subst c; exact hi_eq
      · rw [hi_nk c]; exact hi0 i (by omega) hi1
  | succ r ih =>
    intro n h hr hn hL hi0
    obtain ⟨n, rfl⟩ : ∃ n', n = n' + 1 := ⟨n - 1, by omega⟩
    have hL' : LK (wrI h 206 (r + 1) (AH y (d - (r + 1)))) := hL.w6
    obtain ⟨h', e, k1, k2, k3⟩ := ih n (wrI h 206 (r + 1) (AH y (d - (r + 1)))) (by omega) (by omega) hL' (fun i h1 h2 => by
      by_cases c : i = r + 1
      · subst c; exact hi_eq
      · rw [hi_nk c]; exact hi0 i (by omega) h2)
    refine ⟨h', ?_, k1, (kM.w (by decide) kM.rf).tr k2, k3⟩
    rw [u_X10_lookBack, if_pos rfl, if_neg (nI_pos (by omega)), if_pos (ixN (by omega) (by decide)), nI_clamp (by omega), hL'.2.2.1, show (0 : Int32) + nI (r + 1) = nI (r + 1) by rw [show (0 : Int32) = nI 0 from rfl, nI_add, Nat.zero_add], x_quiet hL' (by omega), Option.bind_some, x_grown hL'.1.1 hL'.1.2.1 hL'.1.2.2, Option.bind_some, pk_m1]
    rw [show d - r = d - (r + 1) + 1 by omega] at e
    exact e
theorem x_onwayW {a b i : Nat} {h : Hp} (ha : a < 16) (hb : b < 16) (hi0 : i ≤ dT a b) (hL : LK h) (hr : ∀ k, k ≤ dT a b → hi h 206 k = AH (nI b) (dT a b - k)) (x y : Int32) : ∀ (m k n : Nat), k + m = i → m < n → W_X10_cellOnWay n 12 h x y (nI (dT a b)) (nI i) (nI (wT a b k)) (nI (k + 1)) = some (nI (wT a b i), h) := by
  have hd := dT_le a ha b hb
  intro m
  induction m with
  | zero =>
    intro k n hk hn
    obtain ⟨n, rfl⟩ : ∃ n', n = n' + 1 := ⟨n - 1, by omega⟩
    have e : k = i := by omega
    subst e
    rw [u_X10_cellOnWay, if_pos rfl, if_pos (nI_lt (by omega) (by omega))]
  | succ m ih =>
    intro k n hk hn
    obtain ⟨n, rfl⟩ : ∃ n', n = n' + 1 := ⟨n - 1, by omega⟩
    rw [u_X10_cellOnWay, if_pos rfl, if_neg (nI_nlt (by omega) (by omega)), if_neg (nI_nlt (by omega) (by omega)), if_neg (show ¬ (100 : Int32) < nI (k + 1) from nI_nlt (a := 100) (by omega) (by decide)), hL.2.2.1, show (0 : Int32) + nI (k + 1) = nI (k + 1) by rw [show (0 : Int32) = nI 0 from rfl, nI_add, Nat.zero_add], x_onw hL (by omega), Option.bind_some, if_pos (ixN (by omega) (by decide)), nI_clamp (by omega), hr (k + 1) (by omega), low_eq, Option.bind_some, f_W a ha b hb k (by omega) (by omega), nI_1]
    exact ih (k + 1) n (by omega) (by omega)
theorem x_onway {a b i n : Nat} {h : Hp} (ha : a < 16) (hb : b < 16) (hi0 : i ≤ dT a b) (hL : LK h) (hn : 10 ≤ n) : ∃ h', F_X10_cellOnWay n h (nI a) (nI b) (nI (dT a b)) (nI i) = some (nI (wT a b i), h') ∧ kM h h' := by
  have hd := dT_le a ha b hb
  obtain ⟨h', e, k1, k2, k3⟩ := x_backW hd (nI b) (dT a b) n h (Nat.le_refl _) (by omega) hL (fun i h1 h2 => absurd h2 (by omega))
  refine ⟨h', ?_, k2⟩
  rw [Nat.sub_self] at e
  unfold F_X10_cellOnWay F_X10_lookBack
  rw [if_neg (show ¬ (100 : Int32) < nI (dT a b) from nI_nlt (a := 100) (by omega) (by decide)), show W_X10_lookBack n 12 h (nI b) (nI (dT a b)) ((1 : Int32) <<< (nI b &&& 31)) (nI (dT a b)) = _ from e, Option.bind_some]
  exact x_onwayW ha hb hi0 k1 k3 (nI a) (nI b) i 0 n (by omega) (by omega)
theorem m_back1 {a b : Nat} (ha : a < 16) (hb : b < 16) (x y l4 : Int32) : ∀ (r n : Nat) (h : Hp), r ≤ dT a b → r + 121 ≤ n → FM h → (∀ i, i < 101 → hi h 267 i = RB (nI a) i) → (∀ i, r ≤ i → i ≤ dT a b → hi h 269 i = BK a b (dT a b) (dT a b - i)) → ∃ (h' : Hp) (n' : Nat), W_X12_cellBehind n 14 h x y (nI (dT a b)) l4 (nI r - 1) 0 = W_X12_cellBehind n' 59 h' x y (nI (dT a b)) l4 x 1 ∧ n ≤ n' + r + 1 ∧ FM h' ∧ ∀ i, i ≤ dT a b → hi h' 269 i = BK a b (dT a b) (dT a b - i) := by
  have hd := dT_le a ha b hb
  intro r
  induction r with
  | zero =>
    intro n h hr hn hF h7 h9
    obtain ⟨n, rfl⟩ : ∃ n', n = n' + 1 := ⟨n - 1, by omega⟩
    refine ⟨h, n, ?_, by omega, hF, fun i hi1 => h9 i (Nat.zero_le _) hi1⟩
    rw [u_X12_cellBehind, if_pos rfl, if_pos (by decide)]
  | succ r ih =>
    intro n h hr hn hF h7 h9
    obtain ⟨n, rfl⟩ : ∃ n', n = n' + 1 := ⟨n - 1, by omega⟩
    have hbk : NB (BK a b (dT a b) (dT a b - (r + 1))) &&& RB (nI a) r = BK a b (dT a b) (dT a b - r) := by
      rw [show dT a b - r = dT a b - (r + 1) + 1 by omega, BK, show dT a b - (dT a b - (r + 1) + 1) = r by omega]
    obtain ⟨h', n', e, k1, k2, k3⟩ := ih n (wrI h 269 r (BK a b (dT a b) (dT a b - r))) (by omega) (by omega) (hF.kS (kS.w (by unfold scr; omega) kS.rf)) (fun i hi1 => (hi_ne (by decide)).trans (h7 i hi1)) (fun i h1 h2 => by
      by_cases c : i = r
      · subst c; exact hi_eq
      · rw [hi_nk c]; exact h9 i (by omega) h2)
    refine ⟨h', n', ?_, by omega, k2, k3⟩
    rw [u_X12_cellBehind, if_pos rfl, nI_pred, if_neg (nI_pos (by omega)), nI_1, if_pos (ixN (by omega) (by decide)), nI_clamp (by omega), h9 (r + 1) (Nat.le_refl _) hr, m_near hF (by omega), Option.bind_some, if_pos (ixN (by omega) (by decide)), if_pos (ixN (by omega) (by decide)), nI_clamp (by omega), h7 r (by omega), hbk, m1_eq]
    exact e
theorem m_behW {a b i : Nat} {h : Hp} (ha : a < 16) (hb : b < 16) (hi0 : i ≤ dT a b) (hF : FM h) (h9 : ∀ k, k ≤ dT a b → hi h 269 k = BK a b (dT a b) (dT a b - k)) (x y : Int32) : ∀ (m k n : Nat), k + m = i → m + 114 ≤ n → W_X12_cellBehind n 59 h x y (nI (dT a b)) (nI i) (nI (wT a b k)) (nI (k + 1)) = some (nI (wT a b i), h) := by
  have hd := dT_le a ha b hb
  intro m
  induction m with
  | zero =>
    intro k n hk hn
    obtain ⟨n, rfl⟩ : ∃ n', n = n' + 1 := ⟨n - 1, by omega⟩
    have e : k = i := by omega
    subst e
    rw [u_X12_cellBehind, if_neg (by decide), if_pos rfl, if_pos (nI_lt (by omega) (by omega))]
  | succ m ih =>
    intro k n hk hn
    obtain ⟨n, rfl⟩ : ∃ n', n = n' + 1 := ⟨n - 1, by omega⟩
    have hw := w_16 a ha b hb (k + 1) (by omega)
    have e1 : F_X12_lowestOf n h (NB ((1 : Int32) <<< (nI (wT a b k) &&& 31)) &&& BK a b (dT a b) (dT a b - (k + 1))) = some (nI (0 + wT a b (k + 1)), h) := m_lowW (wT a b (k + 1)) 0 n (f_L a ha b hb k (by omega) (by omega)) (by omega)
    rw [Nat.zero_add] at e1
    rw [u_X12_cellBehind, if_neg (by decide), if_pos rfl, if_neg (nI_nlt (by omega) (by omega)), m_near hF (by omega), Option.bind_some, if_pos (ixN (by omega) (by decide)), nI_clamp (by omega), h9 (k + 1) (by omega), e1, Option.bind_some, nI_1]
    exact ih (k + 1) n (by omega) (by omega)
theorem m_beh {a b i n : Nat} {h : Hp} (ha : a < 16) (hb : b < 16) (hi0 : i ≤ dT a b) (hF : FM h) (h7 : ∀ i, i < 101 → hi h 267 i = RB (nI a) i) (hn : 250 ≤ n) : ∃ h', F_X12_cellBehind n h (nI a) (nI b) (nI (dT a b)) (nI i) = some (nI (wT a b i), h') := by
  have hd := dT_le a ha b hb
  obtain ⟨h', n', e, k1, k2, k3⟩ := m_back1 ha hb (nI a) (nI b) (nI i) (dT a b) n (wrI h 269 (dT a b) ((1 : Int32) <<< (nI b &&& 31))) (Nat.le_refl _) (by omega) (hF.kS (kS.w (by unfold scr; omega) kS.rf)) (fun i hi1 => (hi_ne (by decide)).trans (h7 i hi1)) (fun i h1 h2 => by
    have c : i = dT a b := by omega
    rw [c, Nat.sub_self]
    exact hi_eq)
  refine ⟨h', ?_⟩
  unfold F_X12_cellBehind
  rw [if_pos (ixN (by omega) (by decide)), nI_clamp (by omega), e]
  exact m_behW ha hb hi0 k2 k3 (nI a) (nI b) i 0 n' (by omega) (by omega)
theorem pu_way {h0 : Hp} (hX : FX h0) (hM : FM h0) : PU_way h0 := by
  intro x1 x2 x3
  rcases cell_or x1 with q | ⟨a, ha, rfl⟩
  · refine ⟨1, (-1, h0), 1, (-1, h0), ?_, ?_, rfl⟩
    · rw [F_X11_way, x_isFree_out hX q, Option.bind_some, if_pos rfl]
    · rw [F_X12_way, m_areFree_out hM (Or.inl q), Option.bind_some, if_pos rfl]
  rcases cell_or x2 with q | ⟨b, hb, rfl⟩
  · refine ⟨1, (-1, h0), 1, (-1, h0), ?_, ?_, rfl⟩
    · rw [F_X11_way, x_isFree hX ha, Option.bind_some, if_neg ne10, x_isFree_out hX q, Option.bind_some, if_pos rfl]
    · rw [F_X12_way, m_areFree_out hM (Or.inr q), Option.bind_some, if_pos rfl]
  have hd := dT_le a ha b hb
  obtain ⟨g1, e1, k1, hL⟩ := x_look (n := 100) hX (by decide)
  have hM1 := hM.keep k1
  have e6 := x_few (s := 0) (M := 100) (n := 100) hL ha hb (by decide) (by decide) (by decide) 0
  rw [if_pos (by omega)] at e6
  have hxw : F_X10_fewest 100 g1 (nI a) (nI b) (hi g1 30 0) 0 100 = some (nI (dT a b), g1) := by
    rw [hL.2.2.2.2.1]
    exact e6
  by_cases cn : x3 = -1
  · subst cn
    obtain ⟨g2, e2, k2, r2⟩ := m_copies (n := 400) (by decide) hM1
    obtain ⟨g3, e3, k3, r3, q3, -⟩ := m_fill (t := 0) (nI a) (hi g2 263 61) (b1 := 267) (n := 400) (Or.inl rfl) (hM1.kS k2) r2 (by decide)
    have e4 := m_first (h := g3) (M := 100) (n := 400) ha hb (by decide) q3 (by decide)
    rw [if_pos (by omega)] at e4
    refine ⟨100, (nI (dT a b), g1), 400, (nI (dT a b), g3), ?_, ?_, rfl⟩
    · rw [F_X11_way, x_isFree hX ha, Option.bind_some, if_neg ne10, x_isFree hX hb, Option.bind_some, if_neg ne10, e1, Option.bind_some, hxw, Option.bind_some, if_neg (ne_m1 (by omega)), if_pos rfl]
    · rw [F_X12_way, m_areFree hM1 ha hb, Option.bind_some, if_neg ne10, if_pos (Int32.le_refl _), e2, Option.bind_some, e3, Option.bind_some, show (100 : Int32) = nI 100 from rfl, e4, Option.bind_some, if_neg (nI_pos (by omega)), if_pos rfl]
  by_cases c0 : x3 < 0
  · have cm : ¬ (-1 : Int32) ≤ x3 := by
      intro q
      have t1 := Int32.le_iff_toInt_le.mp q
      have t2 := Int32.lt_iff_toInt_lt.mp c0
      have t3 : (-1 : Int32).toInt = -1 := by decide
      have t4 : (0 : Int32).toInt = 0 := by decide
      exact cn (Int32.toInt_inj.mp (by omega))
    refine ⟨100, (-1, g1), 1, (-1, g1), ?_, ?_, rfl⟩
    · rw [F_X11_way, x_isFree hX ha, Option.bind_some, if_neg ne10, x_isFree hX hb, Option.bind_some, if_neg ne10, e1, Option.bind_some, hxw, Option.bind_some, if_neg (ne_m1 (by omega)), if_neg cn, if_pos c0]
    · rw [F_X12_way, m_areFree hM1 ha hb, Option.bind_some, if_neg ne10, if_neg cm]
  obtain ⟨i, hi31, rfl⟩ := nI_of c0
  have cp : (-1 : Int32) ≤ nI i := by
    rw [Int32.le_iff_toInt_le, nI_toInt hi31]
    have t3 : (-1 : Int32).toInt = -1 := by decide
    omega
  by_cases ci : i ≤ dT a b
  · obtain ⟨g7, e7, k7⟩ := x_onway (n := 100) ha hb ci hL (by decide)
    have hM7 := hM1.keep k7
    obtain ⟨g2, e2, k2, r2⟩ := m_copies (n := 400) (by decide) hM7
    obtain ⟨g3, e3, k3, r3, q3, -⟩ := m_fill (t := 0) (nI a) (hi g2 263 61) (b1 := 267) (n := 400) (Or.inl rfl) (hM7.kS k2) r2 (by decide)
    have e4 := m_first (h := g3) (M := 100) (n := 400) ha hb (by decide) q3 (by decide)
    rw [if_pos (by omega)] at e4
    obtain ⟨g5, e5⟩ := m_beh (n := 400) ha hb ci ((hM7.kS k2).kS k3) q3 (by decide)
    refine ⟨100, (nI (wT a b i), g7), 400, (nI (wT a b i), g5), ?_, ?_, rfl⟩
    · rw [F_X11_way, x_isFree hX ha, Option.bind_some, if_neg ne10, x_isFree hX hb, Option.bind_some, if_neg ne10, e1, Option.bind_some, hxw, Option.bind_some, if_neg (ne_m1 (by omega)), if_neg cn, if_neg c0, if_pos (show nI i ≤ nI (dT a b) from nI_le ci (by omega)), e7, Option.bind_some]
    · rw [F_X12_way, m_areFree hM7 ha hb, Option.bind_some, if_neg ne10, if_pos cp, e2, Option.bind_some, e3, Option.bind_some, show (100 : Int32) = nI 100 from rfl, e4, Option.bind_some, if_neg (nI_pos (by omega)), if_neg cn, if_pos (show nI i ≤ nI (dT a b) from nI_le ci (by omega)), e5, Option.bind_some]
  · obtain ⟨g2, e2, k2, r2⟩ := m_copies (n := 400) (by decide) hM1
    obtain ⟨g3, e3, k3, r3, q3, -⟩ := m_fill (t := 0) (nI a) (hi g2 263 61) (b1 := 267) (n := 400) (Or.inl rfl) (hM1.kS k2) r2 (by decide)
    have e4 := m_first (h := g3) (M := 100) (n := 400) ha hb (by decide) q3 (by decide)
    rw [if_pos (by omega)] at e4
    refine ⟨100, (-1, g1), 400, (-1, g3), ?_, ?_, rfl⟩
    · rw [F_X11_way, x_isFree hX ha, Option.bind_some, if_neg ne10, x_isFree hX hb, Option.bind_some, if_neg ne10, e1, Option.bind_some, hxw, Option.bind_some, if_neg (ne_m1 (by omega)), if_neg cn, if_neg c0, if_neg (show ¬ nI i ≤ nI (dT a b) from nI_ge (by omega) hi31)]
    · rw [F_X12_way, m_areFree hM1 ha hb, Option.bind_some, if_neg ne10, if_pos cp, e2, Option.bind_some, e3, Option.bind_some, show (100 : Int32) = nI 100 from rfl, e4, Option.bind_some, if_neg (nI_pos (by omega)), if_neg cn, if_neg (show ¬ nI i ≤ nI (dT a b) from nI_ge (by omega) hi31)]
end WAY
