theorem Ok.leV {α : Type} {a b : Int32} {x y : Int} {A B : Option α} {P : α → Prop} (ha : a.toInt = x) (hb : b.toInt = y) (h1 : x ≤ y → Ok A P) (h2 : y < x → Ok B P) : Ok (if a ≤ b then A else B) P := by
  subst ha hb
  exact Ok.le h1 h2
theorem Ok.ltV {α : Type} {a b : Int32} {x y : Int} {A B : Option α} {P : α → Prop} (ha : a.toInt = x) (hb : b.toInt = y) (h1 : x < y → Ok A P) (h2 : y ≤ x → Ok B P) : Ok (if a < b then A else B) P := by
  subst ha hb
  exact Ok.lt h1 h2
theorem Ok.eqV {α : Type} {a b : Int32} {x y : Int} {A B : Option α} {P : α → Prop} (ha : a.toInt = x) (hb : b.toInt = y) (h1 : x = y → Ok A P) (h2 : x ≠ y → Ok B P) : Ok (if a = b then A else B) P := by
  subst ha hb
  exact Ok.eq h1 h2
theorem adV (a b : Int32) {x y : Int} (ha : a.toInt = x) (hb : b.toInt = y) : -2147483648 ≤ x + y → x + y ≤ 2147483647 → (a + b).toInt = x + y := by
  subst ha hb
  exact adT a b
theorem adG {a b c : Int32} (e : a + b = c) {x y : Int} (ha : a.toInt = x) (hb : b.toInt = y) : -2147483648 ≤ x + y → x + y ≤ 2147483647 → c.toInt = x + y := by
  subst ha hb e
  exact adT a b
theorem sbG {a b c : Int32} (e : a - b = c) {x y : Int} (ha : a.toInt = x) (hb : b.toInt = y) : -2147483648 ≤ x - y → x - y ≤ 2147483647 → c.toInt = x - y := by
  subst ha hb e
  exact sbT a b
theorem sbV (a b : Int32) {x y : Int} (ha : a.toInt = x) (hb : b.toInt = y) : -2147483648 ≤ x - y → x - y ≤ 2147483647 → (a - b).toInt = x - y := by
  subst ha hb
  exact sbT a b
/-! the class's methods come to their end: helps -/
theorem boT (x : Int32) : 0 ≤ (vp_nar .boolean x).toInt ∧ (vp_nar .boolean x).toInt ≤ 1 := by
  have e : vp_nar .boolean x = x &&& 1 := rfl
  rw [e]
  exact and_rg x 1 1 (by decide) (by decide)
theorem shr3T (x : Int32) : (x >>> ((3 : Int32) &&& 31)).toInt = x.toInt / 8 := by
  have e : ((3 : Int32) &&& 31) = 3 := by decide
  rw [e]
  show (Int32.toBitVec (x >>> 3)).toInt = _
  rw [Int32.toBitVec_shiftRight]
  have e2 : (BitVec.smod (Int32.toBitVec 3) 32) = 3#32 := by decide
  rw [e2]
  show (BitVec.sshiftRight x.toBitVec (3#32).toNat).toInt = _
  rw [BitVec.toInt_sshiftRight]
  show x.toInt >>> 3 = _
  rw [Int.shiftRight_eq_div_pow]
  rfl
theorem clampT {N : Int32} (hN : 0 ≤ N.toInt) (x : Int32) : 0 ≤ (if 0 < (if N < x then N else x) then (if N < x then N else x) else 0 : Int32).toInt ∧ (if 0 < (if N < x then N else x) then (if N < x then N else x) else 0 : Int32).toInt ≤ N.toInt := by
  have e0 : (0 : Int32).toInt = 0 := by decide
  have hm : (if N < x then N else x).toInt ≤ N.toInt := by
    by_cases k : N < x
    · rw [if_pos k]; exact Int.le_refl _
    · rw [if_neg k]
      exact Int.not_lt.mp (fun q => k (Int32.lt_iff_toInt_lt.mpr q))
  generalize (if N < x then N else x) = y at hm
  by_cases k : 0 < y
  · rw [if_pos k]
    have := Int32.lt_iff_toInt_lt.mp k
    omega
  · rw [if_neg k]
    omega
theorem miT {N : Int32} (x : Int32) : (if N < x then N else x).toInt ≤ N.toInt := by
  by_cases k : N < x
  · rw [if_pos k]; exact Int.le_refl _
  · rw [if_neg k]
    exact Int.not_lt.mp (fun q => k (Int32.lt_iff_toInt_lt.mpr q))
theorem rmT (x : Int32) (n : Int32) (N : Int) (hN : n.toInt = N) (h1 : 1 < N) (h0 : 0 ≤ x.toInt) : (x - x / n * n).toInt = x.toInt % N := by
  have hd : (x / n).toInt = x.toInt / N := by
    have e1 : (-1 : Int32).toInt = -1 := by decide
    have hne : n ≠ -1 := fun q => by rw [q] at hN; omega
    rw [Int32.toInt_div_of_ne_right _ _ hne, hN, Int.tdiv_eq_ediv_of_nonneg h0]
  have hr := rgT x
  have hm : (x / n * n).toInt = x.toInt / N * N := by
    rw [Int32.toInt_mul, hd, hN]
    have h2 := Int.ediv_mul_le x.toInt (b := N) (by omega)
    have h3 : 0 ≤ x.toInt / N * N := Int.mul_nonneg (Int.ediv_nonneg h0 (by omega)) (by omega)
    exact bmT (by omega) (by omega)
  rw [Int32.toInt_sub, hm]
  have h4 := Int.emod_add_mul_ediv x.toInt N
  have h5 : x.toInt / N * N = N * (x.toInt / N) := Int.mul_comm _ _
  have h6 := Int.emod_nonneg x.toInt (b := N) (by omega)
  have h7 := Int.emod_lt_of_pos x.toInt (b := N) (by omega)
  have h8 : 0 ≤ N * (x.toInt / N) := Int.mul_nonneg (by omega) (Int.ediv_nonneg h0 (by omega))
  rw [show x.toInt - x.toInt / N * N = x.toInt % N by omega]
  exact bmT (by omega) (by omega)
theorem rmI (x n : Int32) (N : Int) (hN : n.toInt = N) (h1 : 1 < N) : 0 ≤ x.toInt → (x - x / n * n).toInt = x.toInt % N := fun h0 => rmT x n N hN h1 h0
theorem rmA (x y : Int32) : (x - x / y * y).toInt = x.toInt.tmod y.toInt := by
  rw [Int32.toInt_sub, Int32.toInt_mul, Int32.toInt_div, Int.bmod_mul_bmod, Int.sub_bmod_bmod]
  have h1 := Int.tmod_add_tdiv_mul x.toInt y.toInt
  rw [show x.toInt - x.toInt.tdiv y.toInt * y.toInt = x.toInt.tmod y.toInt by omega]
  have h2 := rgT x
  have h3 : (x.toInt.tmod y.toInt).natAbs ≤ x.toInt.natAbs := by
    rw [Int.natAbs_tmod]
    exact Nat.mod_le _ _
  have h4 : 0 ≤ x.toInt → 0 ≤ x.toInt.tmod y.toInt := fun q => Int.tmod_nonneg _ q
  have h5 : x.toInt ≤ 0 → x.toInt.tmod y.toInt ≤ 0 := fun q => by
    have := Int.tmod_nonneg y.toInt (show 0 ≤ -x.toInt by omega)
    rw [Int.neg_tmod] at this
    omega
  exact bmT (by omega) (by omega)
theorem rm40 (x : Int32) (h0 : 0 ≤ x.toInt) : 0 ≤ (x - x / 40 * 40).toInt ∧ (x - x / 40 * 40).toInt ≤ 39 := by
  rw [rmT x 40 40 (by decide) (by decide) h0]
  omega
theorem lit_m15 : (-15 : Int32).toInt = -15 := by decide
theorem lit_m14 : (-14 : Int32).toInt = -14 := by decide
theorem lit_m13 : (-13 : Int32).toInt = -13 := by decide
theorem lit_m12 : (-12 : Int32).toInt = -12 := by decide
theorem lit_m11 : (-11 : Int32).toInt = -11 := by decide
theorem lit_m10 : (-10 : Int32).toInt = -10 := by decide
theorem lit_m9 : (-9 : Int32).toInt = -9 := by decide
theorem lit_m2 : (-2 : Int32).toInt = -2 := by decide
theorem lit_m1 : (-1 : Int32).toInt = -1 := by decide
theorem lit_0 : (0 : Int32).toInt = 0 := by decide
theorem lit_1 : (1 : Int32).toInt = 1 := by decide
theorem lit_2 : (2 : Int32).toInt = 2 := by decide
theorem lit_3 : (3 : Int32).toInt = 3 := by decide
theorem lit_4 : (4 : Int32).toInt = 4 := by decide
theorem lit_5 : (5 : Int32).toInt = 5 := by decide
theorem lit_6 : (6 : Int32).toInt = 6 := by decide
theorem lit_7 : (7 : Int32).toInt = 7 := by decide
theorem lit_8 : (8 : Int32).toInt = 8 := by decide
theorem lit_9 : (9 : Int32).toInt = 9 := by decide
theorem lit_10 : (10 : Int32).toInt = 10 := by decide
theorem lit_11 : (11 : Int32).toInt = 11 := by decide
theorem lit_12 : (12 : Int32).toInt = 12 := by decide
theorem lit_13 : (13 : Int32).toInt = 13 := by decide
theorem lit_14 : (14 : Int32).toInt = 14 := by decide
theorem lit_15 : (15 : Int32).toInt = 15 := by decide
theorem lit_16 : (16 : Int32).toInt = 16 := by decide
theorem lit_17 : (17 : Int32).toInt = 17 := by decide
theorem lit_18 : (18 : Int32).toInt = 18 := by decide
theorem lit_19 : (19 : Int32).toInt = 19 := by decide
theorem lit_20 : (20 : Int32).toInt = 20 := by decide
theorem lit_22 : (22 : Int32).toInt = 22 := by decide
theorem lit_25 : (25 : Int32).toInt = 25 := by decide
theorem lit_30 : (30 : Int32).toInt = 30 := by decide
theorem lit_32 : (32 : Int32).toInt = 32 := by decide
theorem lit_40 : (40 : Int32).toInt = 40 := by decide
theorem lit_41 : (41 : Int32).toInt = 41 := by decide
theorem lit_42 : (42 : Int32).toInt = 42 := by decide
theorem lit_43 : (43 : Int32).toInt = 43 := by decide
theorem lit_44 : (44 : Int32).toInt = 44 := by decide
theorem lit_45 : (45 : Int32).toInt = 45 := by decide
theorem lit_46 : (46 : Int32).toInt = 46 := by decide
theorem lit_47 : (47 : Int32).toInt = 47 := by decide
theorem lit_48 : (48 : Int32).toInt = 48 := by decide
theorem lit_49 : (49 : Int32).toInt = 49 := by decide
theorem lit_50 : (50 : Int32).toInt = 50 := by decide
theorem lit_51 : (51 : Int32).toInt = 51 := by decide
theorem lit_52 : (52 : Int32).toInt = 52 := by decide
theorem lit_53 : (53 : Int32).toInt = 53 := by decide
theorem lit_54 : (54 : Int32).toInt = 54 := by decide
theorem lit_55 : (55 : Int32).toInt = 55 := by decide
theorem lit_56 : (56 : Int32).toInt = 56 := by decide
theorem lit_57 : (57 : Int32).toInt = 57 := by decide
theorem lit_58 : (58 : Int32).toInt = 58 := by decide
theorem lit_59 : (59 : Int32).toInt = 59 := by decide
theorem lit_60 : (60 : Int32).toInt = 60 := by decide
theorem lit_61 : (61 : Int32).toInt = 61 := by decide
theorem lit_97 : (97 : Int32).toInt = 97 := by decide
theorem lit_100 : (100 : Int32).toInt = 100 := by decide
theorem lit_122 : (122 : Int32).toInt = 122 := by decide
theorem lit_256 : (256 : Int32).toInt = 256 := by decide
theorem lit_400 : (400 : Int32).toInt = 400 := by decide
theorem lit_401 : (401 : Int32).toInt = 401 := by decide
theorem lit_404 : (404 : Int32).toInt = 404 := by decide
theorem lit_2000 : (2000 : Int32).toInt = 2000 := by decide
