/-! part at the fresh state: the model's side, reckoned in numbers -/
theorem nI_and (a b : Nat) : nI a &&& nI b = nI (a &&& b) := by
  apply Int32.toBitVec_inj.mp
  rw [Int32.toBitVec_and]
  show BitVec.ofNat 32 a &&& BitVec.ofNat 32 b = BitVec.ofNat 32 (a &&& b)
  apply BitVec.eq_of_getLsbD_eq
  intro i hi
  simp [BitVec.getLsbD_and, BitVec.getLsbD_ofNat, hi]
theorem nI_or (a b : Nat) : nI a ||| nI b = nI (a ||| b) := by
  apply Int32.toBitVec_inj.mp
  rw [Int32.toBitVec_or]
  show BitVec.ofNat 32 a ||| BitVec.ofNat 32 b = BitVec.ofNat 32 (a ||| b)
  apply BitVec.eq_of_getLsbD_eq
  intro i hi
  simp [BitVec.getLsbD_or, BitVec.getLsbD_ofNat, hi]
theorem shk : ∀ n, n < 32 → ((nI n &&& 31).toBitVec.smod 32).toNat = n := by decide +kernel
theorem nI_shr {u j : Nat} (hu : u < 2 ^ 31) (hj : j < 32) : nI u >>> (nI j &&& 31) = nI (u >>> j) := by
  rw [pk_shrN hu (nI j &&& 31) j (shk j hj), Nat.shiftRight_eq_div_pow]
/-- bit j of a number, as the code asks for it -/
theorem nI_bit {u j : Nat} (hu : u < 2 ^ 31) (hj : j < 32) : (nI u >>> (nI j &&& 31)) &&& (1 : Int32) = nI (Nat.land (Nat.shiftRight u j) 1) := by
  rw [nI_shr hu hj, show (1 : Int32) = nI 1 from rfl, nI_and]
  rfl
theorem bit01 (x : Nat) : Nat.land x 1 = 0 ∨ Nat.land x 1 = 1 := by
  have h : Nat.land x 1 = x % 2 := Nat.and_one_is_mod x
  omega
def MJ (j : Nat) : Nat := ([19, 39, 78, 140, 305, 626, 1252, 2248, 4880, 10016, 20032, 35968, 12544, 29184, 58368, 51200] : List Nat).getD j 0
def sbN (j k : Nat) : Nat := 2 ^ (sideT (5 * j + k)).toNatClampNeg
theorem sb_N : ∀ j, j < 16 → ∀ k, k < 5 → sb j k = nI (sbN j k) := by decide +kernel
theorem MJ_N : ∀ j, j < 16 → (((sbN j 0 ||| sbN j 1) ||| sbN j 2) ||| sbN j 3) ||| sbN j 4 = MJ j := by decide +kernel
def NBg (u : Nat) : Nat → Nat → Nat → Nat
  | 0, _, v => v
  | m + 1, j, v => NBg u m (j + 1) (Nat.lor v (Nat.mul (Nat.land (Nat.shiftRight u j) 1) (MJ j)))
def NBn (u : Nat) : Nat := (Nat.lor (Nat.lor (Nat.lor (Nat.lor (Nat.lor (Nat.lor (Nat.lor (Nat.lor (Nat.lor (Nat.lor (Nat.lor (Nat.lor (Nat.lor (Nat.lor (Nat.lor (Nat.lor 0 (Nat.mul (Nat.land (Nat.shiftRight u 0) 1) 19)) (Nat.mul (Nat.land (Nat.shiftRight u 1) 1) 39)) (Nat.mul (Nat.land (Nat.shiftRight u 2) 1) 78)) (Nat.mul (Nat.land (Nat.shiftRight u 3) 1) 140)) (Nat.mul (Nat.land (Nat.shiftRight u 4) 1) 305)) (Nat.mul (Nat.land (Nat.shiftRight u 5) 1) 626)) (Nat.mul (Nat.land (Nat.shiftRight u 6) 1) 1252)) (Nat.mul (Nat.land (Nat.shiftRight u 7) 1) 2248)) (Nat.mul (Nat.land (Nat.shiftRight u 8) 1) 4880)) (Nat.mul (Nat.land (Nat.shiftRight u 9) 1) 10016)) (Nat.mul (Nat.land (Nat.shiftRight u 10) 1) 20032)) (Nat.mul (Nat.land (Nat.shiftRight u 11) 1) 35968)) (Nat.mul (Nat.land (Nat.shiftRight u 12) 1) 12544)) (Nat.mul (Nat.land (Nat.shiftRight u 13) 1) 29184)) (Nat.mul (Nat.land (Nat.shiftRight u 14) 1) 58368)) (Nat.mul (Nat.land (Nat.shiftRight u 15) 1) 51200))
theorem NBn_g (u : Nat) : NBn u = NBg u 16 0 0 := rfl
theorem NBs_N {u : Nat} (hu : u < 65536) (v : Nat) {j : Nat} (hj : j < 16) : NBs (nI u) (nI v) j = nI (Nat.lor v (Nat.mul (Nat.land (Nat.shiftRight u j) 1) (MJ j))) := by
  unfold NBs
  rw [nI_bit (by omega) (by omega)]
  rcases bit01 (Nat.shiftRight u j) with e | e
  · rw [e, if_pos (show nI 0 = (0 : Int32) from rfl)]
    show nI v = nI (v ||| (0 * MJ j))
    rw [Nat.zero_mul, Nat.or_zero]
  · rw [e, if_neg (show ¬ nI 1 = (0 : Int32) by decide), sb_N j hj 0 (by decide), sb_N j hj 1 (by decide), sb_N j hj 2 (by decide), sb_N j hj 3 (by decide), sb_N j hj 4 (by decide), nI_or, nI_or, nI_or, nI_or, nI_or]
    show _ = nI (v ||| (1 * MJ j))
    rw [Nat.one_mul, ← MJ_N j hj]
    simp only [Nat.or_assoc]
theorem NBf_N {u : Nat} (hu : u < 65536) : ∀ (m j v : Nat), j + m = 16 → NBf (nI u) m j (nI v) = nI (NBg u m j v) := by
  intro m
  induction m with
  | zero => intro j v _; rfl
  | succ m ih =>
    intro j v hj
    rw [NBf, NBs_N hu v (by omega)]
    exact ih (j + 1) _ (by omega)
theorem NB_N {u : Nat} (hu : u < 65536) : NB (nI u) = nI (NBn u) := NBf_N hu 16 0 0 rfl
/-- whether a set of cells o, roped off besides, parts: 1, not: 0; 2: not seen in so many steps -/
def PT (b o : Nat) : Nat → Nat → Nat → Nat
  | 0, _, _ => 2
  | m + 1, s, w => bif Nat.beq s w then Nat.sub 1 (Nat.land (Nat.shiftRight s b) 1) else PT b o m (Nat.land (Nat.land (NBn s) 65535) (Nat.xor o 4294967295)) s
theorem m_ptW {h : Hp} {t : Int32} (hF : FM h) (hR : RZ t h) {b o : Nat} (hb : b < 16) (x : Int32) : ∀ (m s w n : Nat), s < 65536 → w < 65536 → PT b o m s w ≠ 2 → m + 114 ≤ n → W_X12_isParted n 8 h x (nI b) (nI o) (nI s) (nI w) = some (nI (PT b o m s w), h) := by
  intro m
  induction m with
  | zero => intro s w n hs hw hp hn; exact absurd rfl hp
  | succ m ih =>
    intro s w n hs hw hp hn
    obtain ⟨n, rfl⟩ : ∃ n', n = n' + 1 := ⟨n - 1, by omega⟩
    by_cases c : s = w
    · have e : PT b o (m + 1) s w = Nat.sub 1 (Nat.land (Nat.shiftRight s b) 1) := by
        rw [PT, show Nat.beq s w = true from Nat.beq_eq ▸ c]
        rfl
      rw [e, u_X12_isParted, if_pos rfl, if_pos (by rw [c]), nI_bit (by omega) (by omega)]
      rcases bit01 (Nat.shiftRight s b) with q | q
      · rw [q, if_pos (show nI 0 = (0 : Int32) from rfl)]; rfl
      · rw [q, if_neg (show ¬ nI 1 = (0 : Int32) by decide)]; rfl
    · have e : PT b o (m + 1) s w = PT b o m (Nat.land (Nat.land (NBn s) 65535) (Nat.xor o 4294967295)) s := by
        rw [PT, show Nat.beq s w = false from by
          cases hq : Nat.beq s w with
          | false => rfl
          | true => exact absurd (Nat.eq_of_beq_eq_true hq) c]
        rfl
      rw [e] at hp ⊢
      have hlt : Nat.land (Nat.land (NBn s) 65535) (Nat.xor o 4294967295) < 65536 := by
        have h1 : (NBn s &&& 65535) &&& (o ^^^ 4294967295) ≤ NBn s &&& 65535 := Nat.and_le_left
        have h2 : NBn s &&& 65535 ≤ 65535 := Nat.and_le_right
        exact Nat.lt_of_le_of_lt (Nat.le_trans h1 h2) (by decide)
      have hne : ¬ nI s = nI w := fun q => c ((nI_eq (by omega) (by omega)).mp q)
      have hstep : ((NB (nI s) &&& (65535 : Int32)) &&& (nI o ^^^ (-1))) = nI (Nat.land (Nat.land (NBn s) 65535) (Nat.xor o 4294967295)) := by
        rw [NB_N hs, show (65535 : Int32) = nI 65535 from rfl, nI_and, show (-1 : Int32) = nI 4294967295 by decide, nI_xor, nI_and]
        rfl
      rw [u_X12_isParted, if_pos rfl, if_neg hne, m_near hF (by omega), Option.bind_some, m_free hF hR, Option.bind_some]
      show W_X12_isParted n 8 h x (nI b) (nI o) ((NB (nI s) &&& (65535 : Int32)) &&& (nI o ^^^ (-1))) (nI s) = _
      rw [hstep]
      exact ih _ s n hlt hs hp (by omega)
theorem one_sh : ∀ i, i < 16 → (1 : Int32) <<< (nI i &&& 31) = nI (2 ^ i) ∧ 2 ^ i < 65536 := by decide +kernel
def PV (a b o : Nat) : Nat := PT b o 20 (2 ^ a) 0
theorem m_pt {h : Hp} {t : Int32} (hF : FM h) (hR : RZ t h) {a b o n : Nat} (ha : a < 16) (hb : b < 16) (hp : PV a b o ≠ 2) (hn : 140 ≤ n) : F_X12_isParted n h (nI a) (nI b) (nI o) = some (nI (PV a b o), h) := by
  unfold F_X12_isParted
  rw [(one_sh a ha).1]
  exact m_ptW hF hR hb (nI a) 20 (2 ^ a) 0 n (one_sh a ha).2 (by decide) hp (by omega)
/-- the model's search for the fewest ropes; 99: not seen in so many steps -/
def PP (a b : Nat) : Nat → Nat → Nat → Nat → Nat → Nat → Nat
  | 0, _, _, _, _, _ => 99
  | m + 1, hd, w, i, j, k =>
    if hd = 50 then (if 16 ≤ i then w else (if i = a ∨ i = b then PP a b m 50 w (i + 1) 0 0 else (if PV a b (2 ^ i) = 0 then PP a b m 91 w i 0 0 else (if PV a b (2 ^ i) = 1 then 1 else 99))))
    else if hd = 91 then (if i ≤ j then PP a b m 50 w (i + 1) 0 0 else (if j = a ∨ j = b then PP a b m 91 w i (j + 1) 0 else (if w ≤ 2 then PP a b m 140 w i j 0 else (if PV a b (2 ^ i ||| 2 ^ j) = 0 then PP a b m 140 w i j 0 else (if PV a b (2 ^ i ||| 2 ^ j) = 1 then PP a b m 140 2 i j 0 else 99)))))
    else (if j ≤ k then PP a b m 91 w i (j + 1) 0 else (if w ≤ 3 then PP a b m 91 w i (j + 1) 0 else (if k = a ∨ k = b then PP a b m 140 w i j (k + 1) else (if PV a b ((2 ^ i ||| 2 ^ j) ||| 2 ^ k) = 0 then PP a b m 140 w i j (k + 1) else (if PV a b ((2 ^ i ||| 2 ^ j) ||| 2 ^ k) = 1 then PP a b m 140 3 i j (k + 1) else 99)))))
theorem m_other {h : Hp} {t : Int32} (hR : RZ t h) {a b i n : Nat} (ha : a < 16) (hb : b < 16) (hi : i < 16) : F_X12_isOther n h (nI i) (nI a) (nI b) = some (if i = a ∨ i = b then 0 else 1, h) := by
  unfold F_X12_isOther
  by_cases c1 : i = a
  · rw [if_pos (by rw [c1]), if_pos (Or.inl c1)]
  · rw [if_neg (fun q => c1 ((nI_eq (by omega) (by omega)).mp q))]
    by_cases c2 : i = b
    · rw [if_pos (by rw [c2]), if_pos (Or.inr c2)]
    · rw [if_neg (fun q => c2 ((nI_eq (by omega) (by omega)).mp q)), m_isRoped hR, Option.bind_some, if_pos rfl, if_neg (fun q => q.elim c1 c2)]
theorem m_PP {h : Hp} {t : Int32} (hF : FM h) (hR : RZ t h) {a b : Nat} (ha : a < 16) (hb : b < 16) : ∀ (m hd w i j k n : Nat), (hd = 50 ∧ i ≤ 16) ∨ (hd = 91 ∧ i < 16 ∧ j ≤ i) ∨ (hd = 140 ∧ i < 16 ∧ j < i ∧ k ≤ j) → w ≤ 4 → PP a b m hd w i j k ≠ 99 → m + 142 ≤ n → W_X12_part n hd h (nI a) (nI b) (nI w) (nI i) (nI j) (nI k) = some (nI (PP a b m hd w i j k), h) := by
  intro m
  induction m with
  | zero => intro hd w i j k n _ _ hp _; exact absurd rfl hp
  | succ m ih =>
    intro hd w i j k n hb3 hw hp hn
    obtain ⟨n, rfl⟩ : ∃ n', n = n' + 1 := ⟨n - 1, by omega⟩
    rw [PP] at hp ⊢
    rcases hb3 with ⟨rfl, hi⟩ | ⟨rfl, hi, hj⟩ | ⟨rfl, hi, hj, hk⟩
    · rw [if_pos rfl] at hp ⊢
      rw [u_X12_part, if_pos rfl, m_cells hF, Option.bind_some]
      by_cases c1 : 16 ≤ i
      · rw [if_pos c1] at hp ⊢
        rw [if_pos (show (16 : Int32) ≤ nI i from nI_le c1 (by omega))]
      · rw [if_neg c1] at hp ⊢
        rw [if_neg (show ¬ (16 : Int32) ≤ nI i from nI_ge (b := 16) (by omega) (by decide)), m_other hR ha hb (by omega), Option.bind_some]
        by_cases c2 : i = a ∨ i = b
        · rw [if_pos c2] at hp ⊢
          rw [if_pos c2, if_pos rfl, nI_1]
          exact ih 50 w (i + 1) 0 0 n (Or.inl ⟨rfl, by omega⟩) hw hp (by omega)
        · rw [if_neg c2] at hp ⊢
          rw [if_neg c2, if_neg ne10, (one_sh i (by omega)).1]
          by_cases c3 : PV a b (2 ^ i) = 0
          · rw [if_pos c3] at hp ⊢
            rw [m_pt hF hR ha hb (by rw [c3]; decide) (by omega), Option.bind_some, c3, if_pos (show nI 0 = (0 : Int32) from rfl)]
            exact ih 91 w i 0 0 n (Or.inr (Or.inl ⟨rfl, by omega, by omega⟩)) hw hp (by omega)
          · rw [if_neg c3] at hp ⊢
            by_cases c4 : PV a b (2 ^ i) = 1
            · rw [if_pos c4] at hp ⊢
              rw [m_pt hF hR ha hb (by rw [c4]; decide) (by omega), Option.bind_some, c4, if_neg (show ¬ nI 1 = (0 : Int32) by decide)]
              rfl
            · rw [if_neg c4] at hp
              exact absurd rfl hp
    · rw [if_neg (by decide), if_pos rfl] at hp ⊢
      rw [u_X12_part, if_neg (by decide), if_pos rfl]
      by_cases c1 : i ≤ j
      · rw [if_pos c1] at hp ⊢
        rw [if_pos (nI_le c1 (by omega)), nI_1]
        exact ih 50 w (i + 1) 0 0 n (Or.inl ⟨rfl, by omega⟩) hw hp (by omega)
      · rw [if_neg c1] at hp ⊢
        rw [if_neg (nI_ge (by omega) (by omega)), m_other hR ha hb (by omega), Option.bind_some]
        by_cases c2 : j = a ∨ j = b
        · rw [if_pos c2] at hp ⊢
          rw [if_pos c2, if_pos rfl, nI_1]
          exact ih 91 w i (j + 1) 0 n (Or.inr (Or.inl ⟨rfl, by omega, by omega⟩)) hw hp (by omega)
        · rw [if_neg c2] at hp ⊢
          rw [if_neg c2, if_neg ne10]
          by_cases c5 : w ≤ 2
          · rw [if_pos c5] at hp ⊢
            rw [if_pos (show nI w ≤ (2 : Int32) from nI_le (b := 2) c5 (by decide))]
            exact ih 140 w i j 0 n (Or.inr (Or.inr ⟨rfl, by omega, by omega, by omega⟩)) hw hp (by omega)
          · rw [if_neg c5] at hp ⊢
            rw [if_neg (show ¬ nI w ≤ (2 : Int32) from nI_ge (a := 2) (by omega) (by omega)), (one_sh i (by omega)).1, (one_sh j (by omega)).1, nI_or]
            by_cases c3 : PV a b (2 ^ i ||| 2 ^ j) = 0
            · rw [if_pos c3] at hp ⊢
              rw [m_pt hF hR ha hb (by rw [c3]; decide) (by omega), Option.bind_some, c3, if_pos (show nI 0 = (0 : Int32) from rfl)]
              exact ih 140 w i j 0 n (Or.inr (Or.inr ⟨rfl, by omega, by omega, by omega⟩)) hw hp (by omega)
            · rw [if_neg c3] at hp ⊢
              by_cases c4 : PV a b (2 ^ i ||| 2 ^ j) = 1
              · rw [if_pos c4] at hp ⊢
                rw [m_pt hF hR ha hb (by rw [c4]; decide) (by omega), Option.bind_some, c4, if_neg (show ¬ nI 1 = (0 : Int32) by decide)]
                exact ih 140 2 i j 0 n (Or.inr (Or.inr ⟨rfl, by omega, by omega, by omega⟩)) (by decide) hp (by omega)
              · rw [if_neg c4] at hp
                exact absurd rfl hp
    · rw [if_neg (by decide), if_neg (by decide)] at hp ⊢
      rw [u_X12_part, if_neg (by decide), if_neg (by decide), if_pos rfl]
      by_cases c1 : j ≤ k
      · rw [if_pos c1] at hp ⊢
        rw [if_pos (nI_le c1 (by omega)), nI_1]
        exact ih 91 w i (j + 1) 0 n (Or.inr (Or.inl ⟨rfl, by omega, by omega⟩)) hw hp (by omega)
      · rw [if_neg c1] at hp ⊢
        rw [if_neg (nI_ge (by omega) (by omega))]
        by_cases c5 : w ≤ 3
        · rw [if_pos c5] at hp ⊢
          rw [if_pos (show nI w ≤ (3 : Int32) from nI_le (b := 3) c5 (by decide)), nI_1]
          exact ih 91 w i (j + 1) 0 n (Or.inr (Or.inl ⟨rfl, by omega, by omega⟩)) hw hp (by omega)
        · rw [if_neg c5] at hp ⊢
          rw [if_neg (show ¬ nI w ≤ (3 : Int32) from nI_ge (a := 3) (by omega) (by omega)), m_other hR ha hb (by omega), Option.bind_some]
          by_cases c2 : k = a ∨ k = b
          · rw [if_pos c2] at hp ⊢
            rw [if_pos c2, if_pos rfl, nI_1]
            exact ih 140 w i j (k + 1) n (Or.inr (Or.inr ⟨rfl, by omega, by omega, by omega⟩)) hw hp (by omega)
          · rw [if_neg c2] at hp ⊢
            rw [if_neg c2, if_neg ne10, (one_sh i (by omega)).1, (one_sh j (by omega)).1, (one_sh k (by omega)).1, nI_or, nI_or]
            by_cases c3 : PV a b ((2 ^ i ||| 2 ^ j) ||| 2 ^ k) = 0
            · rw [if_pos c3] at hp ⊢
              rw [m_pt hF hR ha hb (by rw [c3]; decide) (by omega), Option.bind_some, c3, if_pos (show nI 0 = (0 : Int32) from rfl), nI_1]
              exact ih 140 w i j (k + 1) n (Or.inr (Or.inr ⟨rfl, by omega, by omega, by omega⟩)) hw hp (by omega)
            · rw [if_neg c3] at hp ⊢
              by_cases c4 : PV a b ((2 ^ i ||| 2 ^ j) ||| 2 ^ k) = 1
              · rw [if_pos c4] at hp ⊢
                rw [m_pt hF hR ha hb (by rw [c4]; decide) (by omega), Option.bind_some, c4, if_neg (show ¬ nI 1 = (0 : Int32) by decide), nI_1]
                exact ih 140 3 i j (k + 1) n (Or.inr (Or.inr ⟨rfl, by omega, by omega, by omega⟩)) (by decide) hp (by omega)
              · rw [if_neg c4] at hp
                exact absurd rfl hp
/-- how many cells lie beside one -/
def dg4 (a : Nat) : Nat := (if a % 4 = 0 then 0 else 1) + (if a % 4 = 3 then 0 else 1) + (if a / 4 = 0 then 0 else 1) + (if a / 4 = 3 then 0 else 1)
def pT (a b : Nat) : Nat := if dg4 a ≤ dg4 b then dg4 a else dg4 b
