/-! far and centre at the fresh state -/
def FO (y may : Int32) : Nat → Int32 → Nat → Int32
  | 0, _, _ => -2
  | m + 1, s, k => if ((s >>> (y &&& 31)) &&& (1 : Int32)) = 1 then nI k else FO y may m (NB s &&& may) (k + 1)
def FV (x y : Int32) : Int32 := FO y (((65535 : Int32) ||| ((1 : Int32) <<< (x &&& 31))) ||| ((1 : Int32) <<< (y &&& 31))) 25 ((1 : Int32) <<< (x &&& 31)) 0
def SX (y op : Int32) : Nat → Int32 → Nat → Int32
  | 0, _, _ => -1
  | m + 1, s, k => if ubit s y = 0 then SX y op m (s ||| (GX s &&& op)) (k + 1) else nI k
def SV (x y : Int32) : Int32 := SX y (((65535 : Int32) &&& ((0 : Int32) ^^^ (-1))) ||| ((1 : Int32) <<< (y &&& 31))) 26 ((1 : Int32) <<< (x &&& 31)) 0
theorem v_far : ∀ a, a < 16 → ∀ b, b < 16 → FV (nI a) (nI b) = nI (dT a b) ∧ SV (nI a) (nI b) = nI (dT a b) := by decide +kernel
section FA
variable {h : Hp} {t : Int32}
theorem m_farW (hF : FM h) (x y may : Int32) : ∀ (m k n : Nat) (s : Int32), k + m = 25 → m + 114 ≤ n → W_X12_farOf n 21 h x y may s (nI k) = some (FO y may m s k, h) := by
  intro m
  induction m with
  | zero =>
    intro k n s hk hn
    obtain ⟨n, rfl⟩ : ∃ n', n = n' + 1 := ⟨n - 1, by omega⟩
    have e : k = 25 := by omega
    subst e
    rw [u_X12_farOf, if_pos rfl, if_pos (show (25 : Int32) ≤ nI 25 from nI_le (Nat.le_refl _) (by decide))]
    rfl
  | succ m ih =>
    intro k n s hk hn
    obtain ⟨n, rfl⟩ : ∃ n', n = n' + 1 := ⟨n - 1, by omega⟩
    rw [u_X12_farOf, if_pos rfl, if_neg (show ¬ (25 : Int32) ≤ nI k from nI_ge (b := 25) (by omega) (by decide)), FO]
    by_cases c : ((s >>> (y &&& 31)) &&& (1 : Int32)) = 1
    · rw [if_pos c, if_pos c]
    · rw [if_neg c, if_neg c, m_near hF (by omega), Option.bind_some, nI_1]
      exact ih (k + 1) n _ (by omega) (by omega)
theorem m_farOf {n : Nat} (hF : FM h) (hR : RZ t h) (hn : 140 ≤ n) (x y : Int32) : F_X12_farOf n h x y = some (FV x y, h) := by
  unfold F_X12_farOf
  rw [m_free hF hR, Option.bind_some]
  exact m_farW hF x y _ 25 0 n _ rfl (by omega)
theorem x_stepsW (h0 : hi h 24 0 = 4) (h2 : hi h 24 2 = 65535) (h3 : hi h 24 3 = 4369) (x y op : Int32) : ∀ (m k n : Nat) (s : Int32), k + m = 26 → m < n → W_X3_steps n 8 h 24 x y op s (nI k) = some (SX y op m s k, h) := by
  intro m
  induction m with
  | zero =>
    intro k n s hk hn
    obtain ⟨n, rfl⟩ : ∃ n', n = n' + 1 := ⟨n - 1, by omega⟩
    have e : k = 26 := by omega
    subst e
    rw [u_X3_steps, if_pos rfl, if_pos (show (25 : Int32) < nI 26 from nI_lt (a := 25) (by decide) (by decide))]
    rfl
  | succ m ih =>
    intro k n s hk hn
    obtain ⟨n, rfl⟩ : ∃ n', n = n' + 1 := ⟨n - 1, by omega⟩
    rw [u_X3_steps, if_pos rfl, if_neg (show ¬ (25 : Int32) < nI k from nI_nlt (a := 25) (by omega) (by decide)), SX]
    by_cases c : ubit s y = 0
    · rw [if_pos c, if_pos c, x_grown h0 h2 h3, Option.bind_some, nI_1]
      exact ih (k + 1) n _ (by omega) (by omega)
    · rw [if_neg c, if_neg c]
end FA
theorem pu_far {h0 : Hp} (hX : FX h0) (hM : FM h0) : PU_far h0 := by
  intro x1 x2
  rcases cell_or x1 with q | ⟨a, ha, rfl⟩
  · refine ⟨1, (-1, h0), 1, (-1, h0), ?_, ?_, rfl⟩
    · rw [F_X11_far, x_has_out hX q, Option.bind_some, if_pos rfl]
    · rw [F_X12_far, m_isCell_out hM q, Option.bind_some, if_pos rfl]
  rcases cell_or x2 with q | ⟨b, hb, rfl⟩
  · refine ⟨1, (-1, h0), 1, (-1, h0), ?_, ?_, rfl⟩
    · rw [F_X11_far, x_has hX ha, Option.bind_some, if_neg ne10, x_has_out hX q, Option.bind_some, if_pos rfl]
    · rw [F_X12_far, m_isCell hM ha, Option.bind_some, if_neg ne10, m_isCell_out hM q, Option.bind_some, if_pos rfl]
  have hd := dT_le a ha b hb
  obtain ⟨v1, v2⟩ := v_far a ha b hb
  obtain ⟨g, e, k1, r1⟩ := m_copies (n := 200) (by decide) hM
  refine ⟨100, (nI (dT a b), h0), 200, (nI (dT a b), g), ?_, ?_, rfl⟩
  · have e1 : F_X3_steps 100 h0 24 (nI a) (nI b) (((65535 : Int32) &&& ((0 : Int32) ^^^ (-1))) ||| ((1 : Int32) <<< (nI b &&& 31))) = some (SV (nI a) (nI b), h0) := x_stepsW hX.1.1 hX.1.2.2.1 hX.1.2.2.2 _ _ _ 26 0 100 _ rfl (by decide)
    rw [v2] at e1
    rw [F_X11_far, x_has hX ha, Option.bind_some, if_neg ne10, x_has hX hb, Option.bind_some, if_neg ne10, hX.1.2.2.1, hX.2.1.2.2.1, e1, Option.bind_some, if_neg (ne_m1 (by omega))]
  · rw [F_X12_far, m_isCell hM ha, Option.bind_some, if_neg ne10, m_isCell hM hb, Option.bind_some, if_neg ne10, e, Option.bind_some, m_farOf (hM.kS k1) r1 (by decide), Option.bind_some, v1]
/-- the farthest of the cells up to j -/
def fm (a : Nat) : Nat → Nat → Nat
  | 0, s => s
  | m + 1, s => fm a m (if dT a (16 - (m + 1)) ≤ s then s else dT a (16 - (m + 1)))
section CE
variable {h : Hp} {t : Int32}
theorem m_ffW (hF : FM h) (hR : RZ t h) {a : Nat} (ha : a < 16) : ∀ (m j n s : Nat), j + m = 16 → m + 142 ≤ n → s < 7 → W_X12_farthestFrom n 4 h (nI a) (nI s) (nI j) = some (nI (fm a m s), h) := by
  intro m
  induction m with
  | zero =>
    intro j n s hj hn hs
    obtain ⟨n, rfl⟩ : ∃ n', n = n' + 1 := ⟨n - 1, by omega⟩
    have e : j = 16 := by omega
    subst e
    rw [u_X12_farthestFrom, if_pos rfl, m_cells hF, Option.bind_some, if_pos (show (16 : Int32) ≤ nI 16 from nI_le (Nat.le_refl _) (by decide))]
    rfl
  | succ m ih =>
    intro j n s hj hn hs
    obtain ⟨n, rfl⟩ : ∃ n', n = n' + 1 := ⟨n - 1, by omega⟩
    have hj' : j < 16 := by omega
    have hd := dT_le a ha j hj'
    have e16 : 16 - (m + 1) = j := by omega
    rw [u_X12_farthestFrom, if_pos rfl, m_cells hF, Option.bind_some, if_neg (show ¬ (16 : Int32) ≤ nI j from nI_ge (b := 16) hj' (by decide)), m_isRoped hR, Option.bind_some, if_pos rfl, m_farOf hF hR (by omega), Option.bind_some, (v_far a ha j hj').1, if_pos (show (0 : Int32) ≤ nI (dT a j) from nI_pos' (by omega)), fm, e16]
    by_cases c : dT a j ≤ s
    · rw [if_pos (show nI (dT a j) ≤ nI s from nI_le c (by omega)), if_pos c, nI_1]
      exact ih (j + 1) n s (by omega) (by omega) hs
    · rw [if_neg (show ¬ nI (dT a j) ≤ nI s from nI_ge (by omega) (by omega)), if_neg c, nI_1]
      exact ih (j + 1) n (dT a j) (by omega) (by omega) (by omega)
/-- which cell is the nearest to its farthest so far, and how far that is -/
def cm : Nat → Option (Nat × Nat) → Option (Nat × Nat)
  | 0, z => z
  | m + 1, none => cm m (some (16 - (m + 1), fm (16 - (m + 1)) 16 0))
  | m + 1, some q => cm m (if fm (16 - (m + 1)) 16 0 < q.2 then some (16 - (m + 1), fm (16 - (m + 1)) 16 0) else some q)
theorem cm_v : cm 16 none = some (5, 4) := by decide +kernel
theorem fm_le : ∀ a, a < 16 → fm a 16 0 ≤ 6 := by decide +kernel
def o1 (z : Option (Nat × Nat)) : Int32 := match z with
  | none => -2
  | some q => nI q.1
def o2 (z : Option (Nat × Nat)) : Int32 := match z with
  | none => -2
  | some q => nI q.2
theorem m_centreW (hF : FM h) (hR : RZ t h) (w : Int32) : ∀ (m j n : Nat) (z : Option (Nat × Nat)), j + m = 16 → m + 160 ≤ n → (∀ q, z = some q → q.1 < 16 ∧ q.2 ≤ 6) → W_X12_centre n 24 h w (o1 z) (o2 z) (nI j) = some (if w = 0 then o1 (cm m z) else o2 (cm m z), h) := by
  intro m
  induction m with
  | zero =>
    intro j n z hj hn hz
    obtain ⟨n, rfl⟩ : ∃ n', n = n' + 1 := ⟨n - 1, by omega⟩
    have e : j = 16 := by omega
    subst e
    rw [u_X12_centre, if_pos rfl, m_cells hF, Option.bind_some, if_pos (show (16 : Int32) ≤ nI 16 from nI_le (Nat.le_refl _) (by decide))]
    by_cases c : w = 0
    · rw [if_pos c, if_pos c]; rfl
    · rw [if_neg c, if_neg c]; rfl
  | succ m ih =>
    intro j n z hj hn hz
    obtain ⟨n, rfl⟩ : ∃ n', n = n' + 1 := ⟨n - 1, by omega⟩
    have hj' : j < 16 := by omega
    have e16 : 16 - (m + 1) = j := by omega
    have hf := fm_le j hj'
    have e1 : F_X12_farthestFrom n h (nI j) = some (nI (fm j 16 0), h) := m_ffW hF hR hj' 16 0 n 0 rfl (by omega) (by decide)
    rw [u_X12_centre, if_pos rfl, m_cells hF, Option.bind_some, if_neg (show ¬ (16 : Int32) ≤ nI j from nI_ge (b := 16) hj' (by decide)), m_isRoped hR, Option.bind_some, if_pos rfl, e1, Option.bind_some, if_neg (show ¬ (25 : Int32) < nI (fm j 16 0) from nI_nlt (a := 25) (by omega) (by decide)), nI_1]
    cases z with
    | none =>
      rw [if_pos (show o1 none < 0 by decide), cm, e16]
      exact ih (j + 1) n (some (j, fm j 16 0)) (by omega) (by omega) (fun q hq => by cases hq; exact ⟨hj', hf⟩)
    | some q =>
      obtain ⟨hq1, hq2⟩ := hz q rfl
      rw [if_neg (show ¬ o1 (some q) < 0 from nI_pos (by omega)), cm, e16]
      by_cases c : fm j 16 0 < q.2
      · rw [if_pos (show nI (fm j 16 0) < o2 (some q) from nI_lt c (by omega)), if_pos c]
        exact ih (j + 1) n (some (j, fm j 16 0)) (by omega) (by omega) (fun q hq => by cases hq; exact ⟨hj', hf⟩)
      · rw [if_neg (show ¬ nI (fm j 16 0) < o2 (some q) from nI_nlt (by omega) (by omega)), if_neg c]
        exact ih (j + 1) n (some q) (by omega) (by omega) hz
end CE
theorem xc_heap {h : Hp} : ∀ (n hd : Nat) (a : Nat) (l1 l2 l3 l4 : Int32) (q : Int32 × Hp), W_X3_farthest n hd h a l1 l2 l3 l4 = some q → q.2 = h := by
  intro n
  induction n with
  | zero => intro hd a l1 l2 l3 l4 q e; cases e
  | succ n ih =>
    intro hd a l1 l2 l3 l4 q e
    rw [u_X3_farthest] at e
    obtain ⟨-, e⟩ := ck_some e
    by_cases c1 : (25 : Int32) ≤ l4
    · rw [if_pos c1] at e; cases e; rfl
    rw [if_neg c1] at e
    by_cases c2 : (l2 &&& (l3 ^^^ (-1))) = 0
    · rw [if_pos c2] at e; cases e; rfl
    rw [if_neg c2] at e
    obtain ⟨q1, e1, e⟩ := Option.bind_eq_some_iff.mp e
    have hq : q1.2 = h := by unfold F_X3_grown at e1; cases e1; rfl
    rw [hq] at e
    exact ih _ _ _ _ _ _ _ e
theorem xcc_heap {h : Hp} : ∀ (n hd : Nat) (l1 l2 l3 l4 l5 : Int32) (q : Int32 × Hp), W_X11_centre n hd h l1 l2 l3 l4 l5 = some q → q.2 = h := by
  intro n
  induction n with
  | zero => intro hd l1 l2 l3 l4 l5 q e; cases e
  | succ n ih =>
    intro hd l1 l2 l3 l4 l5 q e
    rw [u_X11_centre] at e
    obtain ⟨-, e⟩ := ck_some e
    by_cases c1 : (25 : Int32) ≤ l5
    · rw [if_pos c1] at e
      by_cases c0 : l1 = 0
      · rw [if_pos c0] at e; cases e; rfl
      · rw [if_neg c0] at e; cases e; rfl
    rw [if_neg c1] at e
    by_cases c2 : ubit l2 l5 = 0
    · rw [if_pos c2] at e; exact ih _ _ _ _ _ _ _ e
    rw [if_neg c2] at e
    obtain ⟨q1, e1, e⟩ := Option.bind_eq_some_iff.mp e
    have hq : q1.2 = h := xc_heap _ _ _ _ _ _ _ _ e1
    rw [hq] at e
    by_cases c3 : l3 = -2
    · rw [if_pos c3] at e; exact ih _ _ _ _ _ _ _ e
    rw [if_neg c3] at e
    by_cases c4 : l4 ≤ q1.1
    · rw [if_pos c4] at e; exact ih _ _ _ _ _ _ _ e
    · rw [if_neg c4] at e; exact ih _ _ _ _ _ _ _ e
theorem xc_v : (F_X11_centre 100 hk_F 0).map (fun q => q.1) = some 5 ∧ (F_X11_centre 100 hk_F 1).map (fun q => q.1) = some 4 := by decide +kernel
theorem pu_centre : PU_centre hk_F := by
  intro x1
  by_cases c : x1 = 0 ∨ x1 = 1
  · have hx : ∃ q, F_X11_centre 100 hk_F x1 = some q ∧ q.1 = (if x1 = 0 then 5 else 4) ∧ q.2 = hk_F := by
      have i1 : F_X11_isNoughtOrOne 100 hk_F x1 = some (1, hk_F) := by
        unfold F_X11_isNoughtOrOne
        rcases c with rfl | rfl
        · rw [if_pos rfl]
        · rw [if_neg (by decide), if_pos rfl]
      have hv : (F_X11_centre 100 hk_F x1).map (fun q => q.1) = some (if x1 = 0 then 5 else 4) := by
        rcases c with rfl | rfl
        · rw [if_pos rfl]; exact xc_v.1
        · rw [if_neg (by decide)]; exact xc_v.2
      obtain ⟨q, e, hq⟩ := Option.map_eq_some_iff.mp hv
      refine ⟨q, e, hq, ?_⟩
      rw [F_X11_centre, i1, Option.bind_some, if_neg ne10] at e
      exact xcc_heap _ _ _ _ _ _ _ _ e
    obtain ⟨⟨v, g⟩, e, hq, hg⟩ := hx
    have hv : v = (if x1 = 0 then 5 else 4) := hq
    have hg : g = hk_F := hg
    subst hg
    obtain ⟨g, e2, k1, r1⟩ := m_copies (n := 300) (by decide) fmF
    have i2 : F_X12_in 300 hk_F x1 0 1 = some (1, hk_F) := by
      unfold F_X12_in
      rcases c with rfl | rfl
      · rw [if_neg (by decide), if_neg (by decide)]
      · rw [if_neg (by decide), if_neg (by decide)]
    have e3 := m_centreW (fmF.kS k1) r1 x1 16 0 300 none rfl (by decide) (fun q hq => by cases hq)
    rw [cm_v] at e3
    refine ⟨100, (v, hk_F), 300, (if x1 = 0 then 5 else 4, g), e, ?_, hv⟩
    rw [F_X12_centre, i2, Option.bind_some, if_neg ne10, e2, Option.bind_some]
    exact e3
  · have c0 : ¬ x1 = 0 := fun q => c (Or.inl q)
    have c1 : ¬ x1 = 1 := fun q => c (Or.inr q)
    refine ⟨1, (-1, hk_F), 1, (-1, hk_F), ?_, ?_, rfl⟩
    · rw [F_X11_centre, x01_out c0 c1, Option.bind_some, if_pos rfl]
    · rw [F_X12_centre, in01_out c0 c1, Option.bind_some, if_pos rfl]
