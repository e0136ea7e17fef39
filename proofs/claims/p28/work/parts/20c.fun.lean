def F_X1_leadOnFromEntry (n : Nat) (h : Hp) (x1 : Int32) : Option Hp := (if ixOK x1 25 = true then (if ((hi h 208 (Int32.toNatClampNeg x1)) : Int32) = ((-1) : Int32) then ((F_X1_find n h ((2 * x1) + 1) (2 * x1)).bind (fun q5 => some q5)) else ((F_X1_find n h ((2 * (hi h 208 (Int32.toNatClampNeg x1))) + 1) (2 * x1)).bind (fun q3 => some q3))) else none)
set_option maxRecDepth 100000 in
set_option maxHeartbeats 4000000 in
theorem s_X1_leadOnFromEntry (d : Nat) {n : Nat} {h : Hp} {x1 : Int32} {q0 : Hp} (hF : F_X1_leadOnFromEntry n h x1 = some q0) (hG : G h)  : Kc mX1_leadOnFromEntry (d + 1) [.ref 207, .int x1] h (fun r1 h1 => r1 = none ∧ h1 = q0 ∧ G q0) := by
  obtain ⟨h', rfl⟩ : ∃ z, z = q0 := ⟨_, rfl⟩
  unfold F_X1_leadOnFromEntry at hF
  refine Kc.of [some (.ref 207), some (.int x1), none] ok_X1_leadOnFromEntry rfl (Nat.le_of_ble_eq_true rfl) ?_
  refine v_aload_n (i := 0) dX1_leadOnFromEntry_0 rfl rfl ?_
  refine g_X1_9 (q := 208) rfl sh_207 (by exact ltG hG (by decide)) (by exact rG hG r0_207_1) dX1_leadOnFromEntry_1 ?_
  refine v_iload_n (i := 1) dX1_leadOnFromEntry_4 rfl rfl ?_
  obtain ⟨k1, hF⟩ := ck_some hF
  refine v_iaload sh_208 (by exact ltG hG (by decide)) (ixO k1) dX1_leadOnFromEntry_5 ?_
  refine v_istore_n (i := 2) dX1_leadOnFromEntry_6 rfl (by decide) (nlT rfl) ?_
  simp only [List.set_cons_zero, List.set_cons_succ]
  refine v_aload_n (i := 0) dX1_leadOnFromEntry_7 rfl rfl ?_
  refine v_iload_n (i := 2) dX1_leadOnFromEntry_8 rfl rfl ?_
  refine v_iconst (v := (-1)) dX1_leadOnFromEntry_9 (by decide) ?_
  refine v_icmp_ne 21 dX1_leadOnFromEntry_10 (by decide) (fun c2 => ?_) (fun c2 => ?_)
  · rw [if_neg c2] at hF
    refine v_iconst (v := 2) dX1_leadOnFromEntry_21 (by decide) ?_
    refine v_iload_n (i := 2) dX1_leadOnFromEntry_22 rfl rfl ?_
    refine v_imul dX1_leadOnFromEntry_23 ?_
    refine v_iconst (v := 1) dX1_leadOnFromEntry_24 (by decide) ?_
    refine v_iadd dX1_leadOnFromEntry_25 ?_
    refine v_iconst (v := 2) dX1_leadOnFromEntry_26 (by decide) ?_
    refine v_iload_n (i := 1) dX1_leadOnFromEntry_27 rfl rfl ?_
    refine v_imul dX1_leadOnFromEntry_28 ?_
    obtain ⟨q3, q3_e, hF⟩ := Option.bind_eq_some_iff.mp hF
    refine c_X1_43 rfl sh_207 (by exact ltG hG (by decide)) (Nat.le_of_ble_eq_true rfl) dX1_leadOnFromEntry_29 (s_X1_find _ q3_e hG) (fun r1 h1 hq => ?_)
    obtain ⟨rfl, hq, hG⟩ := hq
    replace hq := hq.symm
    subst hq
    simp only [Option.toList, List.nil_append]
    refine v_return rfl dX1_leadOnFromEntry_32 ?_
    obtain rfl := Option.some.inj hF
    exact ⟨rfl, rfl, hG⟩
  · rw [if_pos c2] at hF
    refine v_iconst (v := 2) dX1_leadOnFromEntry_13 (by decide) ?_
    refine v_iload_n (i := 1) dX1_leadOnFromEntry_14 rfl rfl ?_
    refine v_imul dX1_leadOnFromEntry_15 ?_
    refine v_iconst (v := 1) dX1_leadOnFromEntry_16 (by decide) ?_
    refine v_iadd dX1_leadOnFromEntry_17 ?_
    refine v_goto 26 dX1_leadOnFromEntry_18 (by decide) ?_
    refine v_iconst (v := 2) dX1_leadOnFromEntry_26 (by decide) ?_
    refine v_iload_n (i := 1) dX1_leadOnFromEntry_27 rfl rfl ?_
    refine v_imul dX1_leadOnFromEntry_28 ?_
    obtain ⟨q5, q5_e, hF⟩ := Option.bind_eq_some_iff.mp hF
    refine c_X1_43 rfl sh_207 (by exact ltG hG (by decide)) (Nat.le_of_ble_eq_true rfl) dX1_leadOnFromEntry_29 (s_X1_find _ q5_e hG) (fun r1 h1 hq => ?_)
    obtain ⟨rfl, hq, hG⟩ := hq
    replace hq := hq.symm
    subst hq
    simp only [Option.toList, List.nil_append]
    refine v_return rfl dX1_leadOnFromEntry_32 ?_
    obtain rfl := Option.some.inj hF
    exact ⟨rfl, rfl, hG⟩
def F_X2_clear (n : Nat) (h : Hp) : Option Hp := some (wrI h 201 2 0)
set_option maxRecDepth 100000 in
set_option maxHeartbeats 4000000 in
theorem s_X2_clear (d : Nat) {n : Nat} {h : Hp}  {q0 : Hp} (hF : F_X2_clear n h  = some q0) (hG : G h)  : Kc mX2_clear (d) [.ref 201] h (fun r1 h1 => r1 = none ∧ h1 = q0 ∧ G q0) := by
  obtain ⟨h', rfl⟩ : ∃ z, z = q0 := ⟨_, rfl⟩
  unfold F_X2_clear at hF
  refine Kc.of [some (.ref 201)] ok_X2_clear rfl (Nat.le_of_ble_eq_true rfl) ?_
  refine v_aload_n (i := 0) dX2_clear_0 rfl rfl ?_
  refine v_iconst (v := 0) dX2_clear_1 (by decide) ?_
  refine p_X2_19 rfl sh_201 (by exact ltG hG (by decide)) dX2_clear_2 ?_
  refine v_return rfl dX2_clear_5 ?_
  obtain rfl := Option.some.inj hF
  exact ⟨rfl, rfl, hG⟩
def W_X2_firstTune : Nat → Nat → Hp → Int32 → Int32 → Int32 → Int32 → Option (Int32 × Hp)
  | 0 => fun _ _ _ _ _ _ => none
  | n + 1 => fun hd h l0 l1 l2 l3 => (if hd = 9 then (if (6 : Int32) < (l3 : Int32) then some ((-2), h) else (if ((l1 + l3) : Int32) ≤ (l2 : Int32) then W_X2_firstTune n 9 h  l0 (l1 + l3) l2 (l3 + 1) else some ((((10 * l3) + l2) - l1), h))) else none)
set_option maxRecDepth 100000 in
set_option maxHeartbeats 4000000 in
theorem sw_X2_firstTune (d : Nat)  (n : Nat) : (∀ (l0 : Int32) (l1 : Int32) (l2 : Int32) (l3 : Int32) (h : Hp), ∀ (r : Int32) (h' : Hp), W_X2_firstTune n 9 h  l0 l1 l2 l3 = some (r, h') → G h → V mX2_firstTune (d + 2) 9 [some (.int l0), some (.int l1), some (.int l2), some (.int l3)] [] h (fun r1 h1 => r1 = some (.int r) ∧ h1 = h' ∧ G h')) := by
  induction n with
  | zero => exact by intros; contradiction
  | succ n ih =>
    have s_X2_firstTune_IH_9 := ih
    intro l0 l1 l2 l3 h r h' hF hG
    unfold W_X2_firstTune at hF
    rw [if_pos rfl] at hF
    refine v_iload_n (i := 3) dX2_firstTune_9 rfl rfl ?_
    refine v_bipush (v := 6) dX2_firstTune_10 (by decide) ?_
    refine v_icmp_gt 41 dX2_firstTune_12 (by decide) (fun c1 => ?_) (fun c1 => ?_)
    · rw [if_pos c1] at hF
      refine v_bipush (v := (-2)) dX2_firstTune_41 (by decide) ?_
      refine v_ireturn rfl dX2_firstTune_43 ?_
      obtain ⟨rfl, rfl⟩ := Prod.mk.inj (Option.some.inj hF)
      exact ⟨rfl, rfl, hG⟩
    · rw [if_neg c1] at hF
      refine v_iload_n (i := 2) dX2_firstTune_15 rfl rfl ?_
      refine v_iload_n (i := 1) dX2_firstTune_16 rfl rfl ?_
      refine v_iload_n (i := 3) dX2_firstTune_17 rfl rfl ?_
      refine v_iadd dX2_firstTune_18 ?_
      refine v_icmp_ge 31 dX2_firstTune_19 (by decide) (fun c2 => ?_) (fun c2 => ?_)
      · rw [if_pos c2] at hF
        refine v_iload_n (i := 1) dX2_firstTune_31 rfl rfl ?_
        refine v_iload_n (i := 3) dX2_firstTune_32 rfl rfl ?_
        refine v_iadd dX2_firstTune_33 ?_
        refine v_istore_n (i := 1) dX2_firstTune_34 rfl (by decide) (nlT rfl) ?_
        simp only [List.set_cons_zero, List.set_cons_succ]
        refine v_iinc (i := 3) (v := (l3 + 1)) dX2_firstTune_35 rfl rfl (by decide) (nlT rfl) ?_
        simp only [List.set_cons_zero, List.set_cons_succ]
        refine v_goto 9 dX2_firstTune_38 (by decide) ?_
        refine V.weak (la2 := [some (.int l0), some (.int (l1 + l3)), some (.int l2), some (.int (l3 + 1))]) (by simp [wk]) ?_
        exact (s_X2_firstTune_IH_9) _ _ _ _ _ _ _ hF hG
      · rw [if_neg c2] at hF
        refine v_bipush (v := 10) dX2_firstTune_22 (by decide) ?_
        refine v_iload_n (i := 3) dX2_firstTune_24 rfl rfl ?_
        refine v_imul dX2_firstTune_25 ?_
        refine v_iload_n (i := 2) dX2_firstTune_26 rfl rfl ?_
        refine v_iadd dX2_firstTune_27 ?_
        refine v_iload_n (i := 1) dX2_firstTune_28 rfl rfl ?_
        refine v_isub dX2_firstTune_29 ?_
        refine v_ireturn rfl dX2_firstTune_30 ?_
        obtain ⟨rfl, rfl⟩ := Prod.mk.inj (Option.some.inj hF)
        exact ⟨rfl, rfl, hG⟩
def F_X2_firstTune (n : Nat) (h : Hp) (x1 : Int32) : Option (Int32 × Hp) := ((F_X11_lowest n h x1).bind (fun q3 => W_X2_firstTune n 9 q3.2  x1 0 q3.1 2))
set_option maxRecDepth 100000 in
set_option maxHeartbeats 4000000 in
theorem s_X2_firstTune (d : Nat) {n : Nat} {h : Hp} {x1 : Int32} {q0 : (Int32 × Hp)} (hF : F_X2_firstTune n h x1 = some q0) (hG : G h)  : Kc mX2_firstTune (d + 2) [.int x1] h (fun r1 h1 => r1 = some (.int q0.1) ∧ h1 = q0.2 ∧ G q0.2) := by
  obtain ⟨r, h'⟩ := q0
  have s_X2_firstTune_IH_9 := sw_X2_firstTune d   n
  unfold F_X2_firstTune at hF
  refine Kc.of [some (.int x1), none, none, none] ok_X2_firstTune rfl (Nat.le_of_ble_eq_true rfl) ?_
  refine v_iconst (v := 0) dX2_firstTune_0 (by decide) ?_
  refine v_istore_n (i := 1) dX2_firstTune_1 rfl (by decide) (nlT rfl) ?_
  simp only [List.set_cons_zero, List.set_cons_succ]
  refine v_iload_n (i := 0) dX2_firstTune_2 rfl rfl ?_
  obtain ⟨q3, q3_e, hF⟩ := Option.bind_eq_some_iff.mp hF
  refine c_X2_28 rfl (Nat.le_of_ble_eq_true rfl) dX2_firstTune_3 (s_X11_lowest _ q3_e hG) (fun r1 h1 hq => ?_)
  obtain ⟨rfl, hq, hG⟩ := hq
  replace hq := hq.symm
  subst hq
  show V _ _ _ _ (_ :: _) _ _
  refine v_istore_n (i := 2) dX2_firstTune_6 rfl (by decide) (nlT rfl) ?_
  simp only [List.set_cons_zero, List.set_cons_succ]
  refine v_iconst (v := 2) dX2_firstTune_7 (by decide) ?_
  refine v_istore_n (i := 3) dX2_firstTune_8 rfl (by decide) (nlT rfl) ?_
  simp only [List.set_cons_zero, List.set_cons_succ]
  refine V.weak (la2 := [some (.int x1), some (.int 0), some (.int q3.1), some (.int 2)]) (by simp [wk]) ?_
  exact (s_X2_firstTune_IH_9) _ _ _ _ _ _ _ hF hG
def F_X2_keep (n : Nat) (h : Hp) (x1 : Int32) (x2 : Int32) : Option (Int32 × Hp) := (if (20 : Int32) ≤ ((hi h 201 2) : Int32) then some ((-1), h) else (if (x1 : Int32) < 0 then some ((-1), h) else (if (x1 : Int32) < (60 : Int32) then (if ixOK (hi h 201 2) 20 = true then (if ixOK (hi (wrI h 202 (Int32.toNatClampNeg (hi h 201 2)) (x1 : Int32).toInt8.toInt32) 201 2) 20 = true then some (((hi (wrI (wrI (wrI h 202 (Int32.toNatClampNeg (hi h 201 2)) (x1 : Int32).toInt8.toInt32) 203 (Int32.toNatClampNeg (hi (wrI h 202 (Int32.toNatClampNeg (hi h 201 2)) (x1 : Int32).toInt8.toInt32) 201 2)) x2) 201 2 ((hi (wrI (wrI h 202 (Int32.toNatClampNeg (hi h 201 2)) (x1 : Int32).toInt8.toInt32) 203 (Int32.toNatClampNeg (hi (wrI h 202 (Int32.toNatClampNeg (hi h 201 2)) (x1 : Int32).toInt8.toInt32) 201 2)) x2) 201 2) + 1)) 201 2) - 1), (wrI (wrI (wrI h 202 (Int32.toNatClampNeg (hi h 201 2)) (x1 : Int32).toInt8.toInt32) 203 (Int32.toNatClampNeg (hi (wrI h 202 (Int32.toNatClampNeg (hi h 201 2)) (x1 : Int32).toInt8.toInt32) 201 2)) x2) 201 2 ((hi (wrI (wrI h 202 (Int32.toNatClampNeg (hi h 201 2)) (x1 : Int32).toInt8.toInt32) 203 (Int32.toNatClampNeg (hi (wrI h 202 (Int32.toNatClampNeg (hi h 201 2)) (x1 : Int32).toInt8.toInt32) 201 2)) x2) 201 2) + 1))) else none) else none) else some ((-1), h))))
set_option maxRecDepth 100000 in
set_option maxHeartbeats 4000000 in
theorem s_X2_keep (d : Nat) {n : Nat} {h : Hp} {x1 : Int32} {x2 : Int32} {q0 : (Int32 × Hp)} (hF : F_X2_keep n h x1 x2 = some q0) (hG : G h)  : Kc mX2_keep (d) [.ref 201, .int x1, .int x2] h (fun r1 h1 => r1 = some (.int q0.1) ∧ h1 = q0.2 ∧ G q0.2) := by
  obtain ⟨r, h'⟩ := q0
  unfold F_X2_keep at hF
  refine Kc.of [some (.ref 201), some (.int x1), some (.int x2)] ok_X2_keep rfl (Nat.le_of_ble_eq_true rfl) ?_
  refine v_aload_n (i := 0) dX2_keep_0 rfl rfl ?_
  refine g_X2_19 rfl sh_201 (by exact ltG hG (by decide)) dX2_keep_1 ?_
  refine v_bipush (v := 20) dX2_keep_4 (by decide) ?_
  refine v_icmp_ge 19 dX2_keep_6 (by decide) (fun c1 => ?_) (fun c1 => ?_)
  · rw [if_pos c1] at hF
    refine v_iconst (v := (-1)) dX2_keep_19 (by decide) ?_
    refine v_ireturn rfl dX2_keep_20 ?_
    obtain ⟨rfl, rfl⟩ := Prod.mk.inj (Option.some.inj hF)
    exact ⟨rfl, rfl, hG⟩
  · rw [if_neg c1] at hF
    refine v_iload_n (i := 1) dX2_keep_9 rfl rfl ?_
    refine v_if_lt 19 dX2_keep_10 (by decide) (fun c2 => ?_) (fun c2 => ?_)
    · rw [if_pos c2] at hF
      refine v_iconst (v := (-1)) dX2_keep_19 (by decide) ?_
      refine v_ireturn rfl dX2_keep_20 ?_
      obtain ⟨rfl, rfl⟩ := Prod.mk.inj (Option.some.inj hF)
      exact ⟨rfl, rfl, hG⟩
    · rw [if_neg c2] at hF
      refine v_iload_n (i := 1) dX2_keep_13 rfl rfl ?_
      refine v_bipush (v := 60) dX2_keep_14 (by decide) ?_
      refine v_icmp_lt 21 dX2_keep_16 (by decide) (fun c3 => ?_) (fun c3 => ?_)
      · rw [if_pos c3] at hF
        refine v_aload_n (i := 0) dX2_keep_21 rfl rfl ?_
        refine g_X2_9 (q := 202) rfl sh_201 (by exact ltG hG (by decide)) (by exact rG hG r0_201_0) dX2_keep_22 ?_
        refine v_aload_n (i := 0) dX2_keep_25 rfl rfl ?_
        refine g_X2_19 rfl sh_201 (by exact ltG hG (by decide)) dX2_keep_26 ?_
        refine v_iload_n (i := 1) dX2_keep_29 rfl rfl ?_
        refine v_i2b dX2_keep_30 ?_
        obtain ⟨k4, hF⟩ := ck_some hF
        refine v_bastore sh_202 (by exact ltG hG (by decide)) (ixO k4) dX2_keep_31 ?_
        refine v_aload_n (i := 0) dX2_keep_32 rfl rfl ?_
        refine g_X2_15 (q := 203) rfl sh_201 (by exact ltG hG (by decide)) (by exact rG hG r0_201_1) dX2_keep_33 ?_
        refine v_aload_n (i := 0) dX2_keep_36 rfl rfl ?_
        refine g_X2_19 rfl sh_201 (by exact ltG hG (by decide)) dX2_keep_37 ?_
        refine v_iload_n (i := 2) dX2_keep_40 rfl rfl ?_
        obtain ⟨k5, hF⟩ := ck_some hF
        refine v_zastore sh_203 (by exact ltG hG (by decide)) (ixO k5) dX2_keep_41 ?_
        refine v_aload_n (i := 0) dX2_keep_42 rfl rfl ?_
        refine v_dup dX2_keep_43 rfl ?_
        refine g_X2_19 rfl sh_201 (by exact ltG hG (by decide)) dX2_keep_44 ?_
        refine v_iconst (v := 1) dX2_keep_47 (by decide) ?_
        refine v_iadd dX2_keep_48 ?_
        refine p_X2_19 rfl sh_201 (by exact ltG hG (by decide)) dX2_keep_49 ?_
        refine v_aload_n (i := 0) dX2_keep_52 rfl rfl ?_
        refine g_X2_19 rfl sh_201 (by exact ltG hG (by decide)) dX2_keep_53 ?_
        refine v_iconst (v := 1) dX2_keep_56 (by decide) ?_
        refine v_isub dX2_keep_57 ?_
        refine v_ireturn rfl dX2_keep_58 ?_
        obtain ⟨rfl, rfl⟩ := Prod.mk.inj (Option.some.inj hF)
        exact ⟨rfl, rfl, hG⟩
      · rw [if_neg c3] at hF
        refine v_iconst (v := (-1)) dX2_keep_19 (by decide) ?_
        refine v_ireturn rfl dX2_keep_20 ?_
        obtain ⟨rfl, rfl⟩ := Prod.mk.inj (Option.some.inj hF)
        exact ⟨rfl, rfl, hG⟩
def F_X2_knows (n : Nat) (h : Hp) (x1 : Int32) : Option (Int32 × Hp) := (if (x1 : Int32) < 0 then some (0, h) else (if ((hi h 201 2) : Int32) < (x1 : Int32) then some (0, h) else some (1, h)))
set_option maxRecDepth 100000 in
set_option maxHeartbeats 4000000 in
theorem s_X2_knows (d : Nat) {n : Nat} {h : Hp} {x1 : Int32} {q0 : (Int32 × Hp)} (hF : F_X2_knows n h x1 = some q0) (hG : G h)  : Kc mX2_knows (d) [.ref 201, .int x1] h (fun r1 h1 => r1 = some (.int q0.1) ∧ h1 = q0.2 ∧ G q0.2) := by
  obtain ⟨r, h'⟩ := q0
  unfold F_X2_knows at hF
  refine Kc.of [some (.ref 201), some (.int x1)] ok_X2_knows rfl (Nat.le_of_ble_eq_true rfl) ?_
  refine v_iload_n (i := 1) dX2_knows_0 rfl rfl ?_
  refine v_if_lt 16 dX2_knows_1 (by decide) (fun c1 => ?_) (fun c1 => ?_)
  · rw [if_pos c1] at hF
    refine v_iconst (v := 0) dX2_knows_16 (by decide) ?_
    refine v_zreturn rfl (by decide) dX2_knows_17 ?_
    obtain ⟨rfl, rfl⟩ := Prod.mk.inj (Option.some.inj hF)
    exact ⟨rfl, rfl, hG⟩
  · rw [if_neg c1] at hF
    refine v_iload_n (i := 1) dX2_knows_4 rfl rfl ?_
    refine v_aload_n (i := 0) dX2_knows_5 rfl rfl ?_
    refine g_X2_19 rfl sh_201 (by exact ltG hG (by decide)) dX2_knows_6 ?_
    refine v_icmp_gt 16 dX2_knows_9 (by decide) (fun c2 => ?_) (fun c2 => ?_)
    · rw [if_pos c2] at hF
      refine v_iconst (v := 0) dX2_knows_16 (by decide) ?_
      refine v_zreturn rfl (by decide) dX2_knows_17 ?_
      obtain ⟨rfl, rfl⟩ := Prod.mk.inj (Option.some.inj hF)
      exact ⟨rfl, rfl, hG⟩
    · rw [if_neg c2] at hF
      refine v_iconst (v := 1) dX2_knows_12 (by decide) ?_
      refine v_goto 17 dX2_knows_13 (by decide) ?_
      refine v_zreturn rfl (by decide) dX2_knows_17 ?_
      obtain ⟨rfl, rfl⟩ := Prod.mk.inj (Option.some.inj hF)
      exact ⟨rfl, rfl, hG⟩
def W_X2_soundingAt : Nat → Nat → Hp → Int32 → Int32 → Int32 → Int32 → Option (Int32 × Hp)
  | 0 => fun _ _ _ _ _ _ => none
  | n + 1 => fun hd h l0 l1 l2 l3 => (if hd = 6 then (if (6 : Int32) < (l3 : Int32) then some (l1, h) else (if l3 = 0 then none else W_X2_soundingAt n 6 h  l0 ((l1 : Int32) ||| (((1 : Int32) <<< (((l2 + (l0 - l0 / l3 * l3)) : Int32) &&& 31)) : Int32)) (l2 + l3) (l3 + 1))) else none)
set_option maxRecDepth 100000 in
set_option maxHeartbeats 4000000 in
theorem sw_X2_soundingAt (d : Nat)  (n : Nat) : (∀ (l0 : Int32) (l1 : Int32) (l2 : Int32) (l3 : Int32) (h : Hp), ∀ (r : Int32) (h' : Hp), W_X2_soundingAt n 6 h  l0 l1 l2 l3 = some (r, h') → G h → V mX2_soundingAt (d) 6 [some (.int l0), some (.int l1), some (.int l2), some (.int l3)] [] h (fun r1 h1 => r1 = some (.int r) ∧ h1 = h' ∧ G h')) := by
  induction n with
  | zero => exact by intros; contradiction
  | succ n ih =>
    have s_X2_soundingAt_IH_6 := ih
    intro l0 l1 l2 l3 h r h' hF hG
    unfold W_X2_soundingAt at hF
    rw [if_pos rfl] at hF
    refine v_iload_n (i := 3) dX2_soundingAt_6 rfl rfl ?_
    refine v_bipush (v := 6) dX2_soundingAt_7 (by decide) ?_
    refine v_icmp_gt 32 dX2_soundingAt_9 (by decide) (fun c1 => ?_) (fun c1 => ?_)
    · rw [if_pos c1] at hF
      refine v_iload_n (i := 1) dX2_soundingAt_32 rfl rfl ?_
      refine v_ireturn rfl dX2_soundingAt_33 ?_
      obtain ⟨rfl, rfl⟩ := Prod.mk.inj (Option.some.inj hF)
      exact ⟨rfl, rfl, hG⟩
    · rw [if_neg c1] at hF
      refine v_iload_n (i := 1) dX2_soundingAt_12 rfl rfl ?_
      refine v_iconst (v := 1) dX2_soundingAt_13 (by decide) ?_
      refine v_iload_n (i := 2) dX2_soundingAt_14 rfl rfl ?_
      refine v_iload_n (i := 0) dX2_soundingAt_15 rfl rfl ?_
      refine v_iload_n (i := 3) dX2_soundingAt_16 rfl rfl ?_
      obtain ⟨k2, hF⟩ := ck_none hF
      refine v_irem dX2_soundingAt_17 k2 ?_
      refine v_iadd dX2_soundingAt_18 ?_
      refine v_ishl dX2_soundingAt_19 ?_
      refine v_ior dX2_soundingAt_20 ?_
      refine v_istore_n (i := 1) dX2_soundingAt_21 rfl (by decide) (nlT rfl) ?_
      simp only [List.set_cons_zero, List.set_cons_succ]
      refine v_iload_n (i := 2) dX2_soundingAt_22 rfl rfl ?_
      refine v_iload_n (i := 3) dX2_soundingAt_23 rfl rfl ?_
      refine v_iadd dX2_soundingAt_24 ?_
      refine v_istore_n (i := 2) dX2_soundingAt_25 rfl (by decide) (nlT rfl) ?_
      simp only [List.set_cons_zero, List.set_cons_succ]
      refine v_iinc (i := 3) (v := (l3 + 1)) dX2_soundingAt_26 rfl rfl (by decide) (nlT rfl) ?_
      simp only [List.set_cons_zero, List.set_cons_succ]
      refine v_goto 6 dX2_soundingAt_29 (by decide) ?_
      refine V.weak (la2 := [some (.int l0), some (.int ((l1 : Int32) ||| (((1 : Int32) <<< (((l2 + (l0 - l0 / l3 * l3)) : Int32) &&& 31)) : Int32))), some (.int (l2 + l3)), some (.int (l3 + 1))]) (by simp [wk]) ?_
      exact (s_X2_soundingAt_IH_6) _ _ _ _ _ _ _ hF hG
def F_X2_soundingAt (n : Nat) (h : Hp) (x1 : Int32) : Option (Int32 × Hp) := W_X2_soundingAt n 6 h  x1 0 0 2
set_option maxRecDepth 100000 in
set_option maxHeartbeats 4000000 in
theorem s_X2_soundingAt (d : Nat) {n : Nat} {h : Hp} {x1 : Int32} {q0 : (Int32 × Hp)} (hF : F_X2_soundingAt n h x1 = some q0) (hG : G h)  : Kc mX2_soundingAt (d) [.int x1] h (fun r1 h1 => r1 = some (.int q0.1) ∧ h1 = q0.2 ∧ G q0.2) := by
  obtain ⟨r, h'⟩ := q0
  have s_X2_soundingAt_IH_6 := sw_X2_soundingAt d   n
  unfold F_X2_soundingAt at hF
  refine Kc.of [some (.int x1), none, none, none] ok_X2_soundingAt rfl (Nat.le_of_ble_eq_true rfl) ?_
  refine v_iconst (v := 0) dX2_soundingAt_0 (by decide) ?_
  refine v_istore_n (i := 1) dX2_soundingAt_1 rfl (by decide) (nlT rfl) ?_
  simp only [List.set_cons_zero, List.set_cons_succ]
  refine v_iconst (v := 0) dX2_soundingAt_2 (by decide) ?_
  refine v_istore_n (i := 2) dX2_soundingAt_3 rfl (by decide) (nlT rfl) ?_
  simp only [List.set_cons_zero, List.set_cons_succ]
  refine v_iconst (v := 2) dX2_soundingAt_4 (by decide) ?_
  refine v_istore_n (i := 3) dX2_soundingAt_5 rfl (by decide) (nlT rfl) ?_
  simp only [List.set_cons_zero, List.set_cons_succ]
  refine V.weak (la2 := [some (.int x1), some (.int 0), some (.int 0), some (.int 2)]) (by simp [wk]) ?_
  exact (s_X2_soundingAt_IH_6) _ _ _ _ _ _ _ hF hG
def F_X3_become (n : Nat) (h : Hp) (a : Nat) (b1 : Nat) : Option Hp := some (wrI (wrI (wrI (wrI h a 0 (hi h b1 0)) a 1 (hi (wrI h a 0 (hi h b1 0)) b1 1)) a 2 (hi (wrI (wrI h a 0 (hi h b1 0)) a 1 (hi (wrI h a 0 (hi h b1 0)) b1 1)) b1 2)) a 3 (hi (wrI (wrI (wrI h a 0 (hi h b1 0)) a 1 (hi (wrI h a 0 (hi h b1 0)) b1 1)) a 2 (hi (wrI (wrI h a 0 (hi h b1 0)) a 1 (hi (wrI h a 0 (hi h b1 0)) b1 1)) b1 2)) b1 3))
set_option maxRecDepth 100000 in
set_option maxHeartbeats 4000000 in
theorem s_X3_become (d : Nat) {n : Nat} {h : Hp} {a : Nat} {b1 : Nat} {q0 : Hp} (hF : F_X3_become n h a b1 = some q0) (hG : G h) (hs : IsFd a) (ht1 : IsFd b1) : Kc mX3_become (d) [.ref a, .ref b1] h (fun r1 h1 => r1 = none ∧ h1 = q0 ∧ G q0) := by
  obtain ⟨s0, s4⟩ := id hs
  obtain ⟨t10, t14⟩ := id ht1
  obtain ⟨h', rfl⟩ : ∃ z, z = q0 := ⟨_, rfl⟩
  unfold F_X3_become at hF
  refine Kc.of [some (.ref a), some (.ref b1)] ok_X3_become rfl (Nat.le_of_ble_eq_true rfl) ?_
  refine v_aload_n (i := 0) dX3_become_0 rfl rfl ?_
  refine v_aload_n (i := 1) dX3_become_1 rfl rfl ?_
  refine g_X3_9 rfl t10 (by exact ltG hG (by omega)) dX3_become_2 ?_
  refine p_X3_9 rfl s0 (by exact ltG hG (by omega)) dX3_become_5 ?_
  refine v_aload_n (i := 0) dX3_become_8 rfl rfl ?_
  refine v_aload_n (i := 1) dX3_become_9 rfl rfl ?_
  refine g_X3_15 rfl t10 (by exact ltG hG (by omega)) dX3_become_10 ?_
  refine p_X3_15 rfl s0 (by exact ltG hG (by omega)) dX3_become_13 ?_
  refine v_aload_n (i := 0) dX3_become_16 rfl rfl ?_
  refine v_aload_n (i := 1) dX3_become_17 rfl rfl ?_
  refine g_X3_18 rfl t10 (by exact ltG hG (by omega)) dX3_become_18 ?_
  refine p_X3_18 rfl s0 (by exact ltG hG (by omega)) dX3_become_21 ?_
  refine v_aload_n (i := 0) dX3_become_24 rfl rfl ?_
  refine v_aload_n (i := 1) dX3_become_25 rfl rfl ?_
  refine g_X3_21 rfl t10 (by exact ltG hG (by omega)) dX3_become_26 ?_
  refine p_X3_21 rfl s0 (by exact ltG hG (by omega)) dX3_become_29 ?_
  refine v_return rfl dX3_become_32 ?_
  obtain rfl := Option.some.inj hF
  exact ⟨rfl, rfl, hG⟩
def F_X3_grown (n : Nat) (h : Hp) (a : Nat) (x1 : Int32) : Option (Int32 × Hp) := some (((((((((((x1 : Int32) ||| (((((x1 : Int32) <<< ((1 : Int32) &&& 31)) : Int32) &&& ((((hi h a 3) : Int32) ^^^ ((-1) : Int32)) : Int32)) : Int32)) : Int32) ||| ((((((x1 : Int32) &&& ((((hi h a 3) : Int32) ^^^ ((-1) : Int32)) : Int32)) : Int32).toUInt32 >>> ((1 : Int32).toUInt32 &&& Int32.toUInt32 31)).toInt32) : Int32)) : Int32) ||| (((x1 : Int32) <<< (((hi h a 0) : Int32) &&& 31)) : Int32)) : Int32) ||| ((((x1 : Int32).toUInt32 >>> (((hi h a 0) : Int32).toUInt32 &&& Int32.toUInt32 31)).toInt32) : Int32)) : Int32) &&& ((hi h a 2) : Int32)), h)
set_option maxRecDepth 100000 in
set_option maxHeartbeats 4000000 in
theorem s_X3_grown (d : Nat) {n : Nat} {h : Hp} {a : Nat} {x1 : Int32} {q0 : (Int32 × Hp)} (hF : F_X3_grown n h a x1 = some q0) (hG : G h) (hs : IsFd a) : Kc mX3_grown (d) [.ref a, .int x1] h (fun r1 h1 => r1 = some (.int q0.1) ∧ h1 = q0.2 ∧ G q0.2) := by
  obtain ⟨s0, s4⟩ := id hs
  obtain ⟨r, h'⟩ := q0
  unfold F_X3_grown at hF
  refine Kc.of [some (.ref a), some (.int x1), none, none] ok_X3_grown rfl (Nat.le_of_ble_eq_true rfl) ?_
  refine v_iload_n (i := 1) dX3_grown_0 rfl rfl ?_
  refine v_iconst (v := 1) dX3_grown_1 (by decide) ?_
  refine v_ishl dX3_grown_2 ?_
  refine v_aload_n (i := 0) dX3_grown_3 rfl rfl ?_
  refine g_X3_21 rfl s0 (by exact ltG hG (by omega)) dX3_grown_4 ?_
  refine v_iconst (v := (-1)) dX3_grown_7 (by decide) ?_
  refine v_ixor dX3_grown_8 ?_
  refine v_iand dX3_grown_9 ?_
  refine v_istore_n (i := 2) dX3_grown_10 rfl (by decide) (nlT rfl) ?_
  simp only [List.set_cons_zero, List.set_cons_succ]
  refine v_iload_n (i := 1) dX3_grown_11 rfl rfl ?_
  refine v_aload_n (i := 0) dX3_grown_12 rfl rfl ?_
  refine g_X3_21 rfl s0 (by exact ltG hG (by omega)) dX3_grown_13 ?_
  refine v_iconst (v := (-1)) dX3_grown_16 (by decide) ?_
  refine v_ixor dX3_grown_17 ?_
  refine v_iand dX3_grown_18 ?_
  refine v_iconst (v := 1) dX3_grown_19 (by decide) ?_
  refine v_iushr dX3_grown_20 ?_
  refine v_istore_n (i := 3) dX3_grown_21 rfl (by decide) (nlT rfl) ?_
  simp only [List.set_cons_zero, List.set_cons_succ]
  refine v_iload_n (i := 1) dX3_grown_22 rfl rfl ?_
  refine v_iload_n (i := 2) dX3_grown_23 rfl rfl ?_
  refine v_ior dX3_grown_24 ?_
  refine v_iload_n (i := 3) dX3_grown_25 rfl rfl ?_
  refine v_ior dX3_grown_26 ?_
  refine v_iload_n (i := 1) dX3_grown_27 rfl rfl ?_
  refine v_aload_n (i := 0) dX3_grown_28 rfl rfl ?_
  refine g_X3_9 rfl s0 (by exact ltG hG (by omega)) dX3_grown_29 ?_
  refine v_ishl dX3_grown_32 ?_
  refine v_ior dX3_grown_33 ?_
  refine v_iload_n (i := 1) dX3_grown_34 rfl rfl ?_
  refine v_aload_n (i := 0) dX3_grown_35 rfl rfl ?_
  refine g_X3_9 rfl s0 (by exact ltG hG (by omega)) dX3_grown_36 ?_
  refine v_iushr dX3_grown_39 ?_
  refine v_ior dX3_grown_40 ?_
  refine v_aload_n (i := 0) dX3_grown_41 rfl rfl ?_
  refine g_X3_18 rfl s0 (by exact ltG hG (by omega)) dX3_grown_42 ?_
  refine v_iand dX3_grown_45 ?_
  refine v_ireturn rfl dX3_grown_46 ?_
  obtain ⟨rfl, rfl⟩ := Prod.mk.inj (Option.some.inj hF)
  exact ⟨rfl, rfl, hG⟩
def F_X3_has (n : Nat) (h : Hp) (a : Nat) (x1 : Int32) : Option (Int32 × Hp) := (if (x1 : Int32) < 0 then some (0, h) else (if (((hi h a 0) * (hi h a 1)) : Int32) ≤ (x1 : Int32) then some (0, h) else some (1, h)))
set_option maxRecDepth 100000 in
set_option maxHeartbeats 4000000 in
theorem s_X3_has (d : Nat) {n : Nat} {h : Hp} {a : Nat} {x1 : Int32} {q0 : (Int32 × Hp)} (hF : F_X3_has n h a x1 = some q0) (hG : G h) (hs : IsFd a) : Kc mX3_has (d) [.ref a, .int x1] h (fun r1 h1 => r1 = some (.int q0.1) ∧ h1 = q0.2 ∧ G q0.2) := by
  obtain ⟨s0, s4⟩ := id hs
  obtain ⟨r, h'⟩ := q0
  unfold F_X3_has at hF
  refine Kc.of [some (.ref a), some (.int x1)] ok_X3_has rfl (Nat.le_of_ble_eq_true rfl) ?_
  refine v_iload_n (i := 1) dX3_has_0 rfl rfl ?_
  refine v_if_lt 21 dX3_has_1 (by decide) (fun c1 => ?_) (fun c1 => ?_)
  · rw [if_pos c1] at hF
    refine v_iconst (v := 0) dX3_has_21 (by decide) ?_
    refine v_zreturn rfl (by decide) dX3_has_22 ?_
    obtain ⟨rfl, rfl⟩ := Prod.mk.inj (Option.some.inj hF)
    exact ⟨rfl, rfl, hG⟩
  · rw [if_neg c1] at hF
    refine v_iload_n (i := 1) dX3_has_4 rfl rfl ?_
    refine v_aload_n (i := 0) dX3_has_5 rfl rfl ?_
    refine g_X3_9 rfl s0 (by exact ltG hG (by omega)) dX3_has_6 ?_
    refine v_aload_n (i := 0) dX3_has_9 rfl rfl ?_
    refine g_X3_15 rfl s0 (by exact ltG hG (by omega)) dX3_has_10 ?_
    refine v_imul dX3_has_13 ?_
    refine v_icmp_ge 21 dX3_has_14 (by decide) (fun c2 => ?_) (fun c2 => ?_)
    · rw [if_pos c2] at hF
      refine v_iconst (v := 0) dX3_has_21 (by decide) ?_
      refine v_zreturn rfl (by decide) dX3_has_22 ?_
      obtain ⟨rfl, rfl⟩ := Prod.mk.inj (Option.some.inj hF)
      exact ⟨rfl, rfl, hG⟩
    · rw [if_neg c2] at hF
      refine v_iconst (v := 1) dX3_has_17 (by decide) ?_
      refine v_goto 22 dX3_has_18 (by decide) ?_
      refine v_zreturn rfl (by decide) dX3_has_22 ?_
      obtain ⟨rfl, rfl⟩ := Prod.mk.inj (Option.some.inj hF)
      exact ⟨rfl, rfl, hG⟩
def W_X3_lay : Nat → Nat → Hp → Nat → Int32 → Int32 → Int32 → Option Hp
  | 0 => fun _ _ _ _ _ _ => none
  | n + 1 => fun hd h a l1 l2 l3 => (if hd = 17 then (if ((hi h a 1) : Int32) ≤ (l3 : Int32) then some (wrI h a 2 (((1 : Int32) <<< ((((hi h a 0) * (hi h a 1)) : Int32) &&& 31)) - 1)) else W_X3_lay n 17 (wrI h a 3 (((hi h a 3) : Int32) ||| (((1 : Int32) <<< ((((hi h a 0) * l3) : Int32) &&& 31)) : Int32))) a l1 l2 (l3 + 1)) else none)
set_option maxRecDepth 100000 in
set_option maxHeartbeats 4000000 in
theorem sw_X3_lay (d : Nat) (a : Nat) (hs : IsFd a) (n : Nat) : (∀ (l1 : Int32) (l2 : Int32) (l3 : Int32) (h : Hp), ∀ (h' : Hp), W_X3_lay n 17 h a l1 l2 l3 = some h' → G h → V mX3_lay (d) 17 [some (.ref a), some (.int l1), some (.int l2), some (.int l3)] [] h (fun r1 h1 => r1 = none ∧ h1 = h' ∧ G h')) := by
  obtain ⟨s0, s4⟩ := id hs
  induction n with
  | zero => exact by intros; contradiction
  | succ n ih =>
    have s_X3_lay_IH_17 := ih
    intro l1 l2 l3 h h' hF hG
    unfold W_X3_lay at hF
    rw [if_pos rfl] at hF
    refine v_iload_n (i := 3) dX3_lay_17 rfl rfl ?_
    refine v_aload_n (i := 0) dX3_lay_18 rfl rfl ?_
    refine g_X3_15 rfl s0 (by exact ltG hG (by omega)) dX3_lay_19 ?_
    refine v_icmp_ge 48 dX3_lay_22 (by decide) (fun c1 => ?_) (fun c1 => ?_)
    · rw [if_pos c1] at hF
      refine v_aload_n (i := 0) dX3_lay_48 rfl rfl ?_
      refine v_iconst (v := 1) dX3_lay_49 (by decide) ?_
      refine v_aload_n (i := 0) dX3_lay_50 rfl rfl ?_
      refine g_X3_9 rfl s0 (by exact ltG hG (by omega)) dX3_lay_51 ?_
      refine v_aload_n (i := 0) dX3_lay_54 rfl rfl ?_
      refine g_X3_15 rfl s0 (by exact ltG hG (by omega)) dX3_lay_55 ?_
      refine v_imul dX3_lay_58 ?_
      refine v_ishl dX3_lay_59 ?_
      refine v_iconst (v := 1) dX3_lay_60 (by decide) ?_
      refine v_isub dX3_lay_61 ?_
      refine p_X3_18 rfl s0 (by exact ltG hG (by omega)) dX3_lay_62 ?_
      refine v_return rfl dX3_lay_65 ?_
      obtain rfl := Option.some.inj hF
      exact ⟨rfl, rfl, hG⟩
    · rw [if_neg c1] at hF
      refine v_aload_n (i := 0) dX3_lay_25 rfl rfl ?_
      refine v_dup dX3_lay_26 rfl ?_
      refine g_X3_21 rfl s0 (by exact ltG hG (by omega)) dX3_lay_27 ?_
      refine v_iconst (v := 1) dX3_lay_30 (by decide) ?_
      refine v_aload_n (i := 0) dX3_lay_31 rfl rfl ?_
      refine g_X3_9 rfl s0 (by exact ltG hG (by omega)) dX3_lay_32 ?_
      refine v_iload_n (i := 3) dX3_lay_35 rfl rfl ?_
      refine v_imul dX3_lay_36 ?_
      refine v_ishl dX3_lay_37 ?_
      refine v_ior dX3_lay_38 ?_
      refine p_X3_21 rfl s0 (by exact ltG hG (by omega)) dX3_lay_39 ?_
      refine v_iinc (i := 3) (v := (l3 + 1)) dX3_lay_42 rfl rfl (by decide) (nlT rfl) ?_
      simp only [List.set_cons_zero, List.set_cons_succ]
      refine v_goto 17 dX3_lay_45 (by decide) ?_
      refine V.weak (la2 := [some (.ref a), some (.int l1), some (.int l2), some (.int (l3 + 1))]) (by simp [wk]) ?_
      exact (s_X3_lay_IH_17) _ _ _ _ _ hF hG
def F_X3_lay (n : Nat) (h : Hp) (a : Nat) (x1 : Int32) (x2 : Int32) : Option Hp := W_X3_lay n 17 (wrI (wrI (wrI h a 0 x1) a 1 x2) a 3 0) a x1 x2 0
set_option maxRecDepth 100000 in
set_option maxHeartbeats 4000000 in
theorem s_X3_lay (d : Nat) {n : Nat} {h : Hp} {a : Nat} {x1 : Int32} {x2 : Int32} {q0 : Hp} (hF : F_X3_lay n h a x1 x2 = some q0) (hG : G h) (hs : IsFd a) : Kc mX3_lay (d) [.ref a, .int x1, .int x2] h (fun r1 h1 => r1 = none ∧ h1 = q0 ∧ G q0) := by
  obtain ⟨s0, s4⟩ := id hs
  obtain ⟨h', rfl⟩ : ∃ z, z = q0 := ⟨_, rfl⟩
  have s_X3_lay_IH_17 := sw_X3_lay d a hs n
  unfold F_X3_lay at hF
  refine Kc.of [some (.ref a), some (.int x1), some (.int x2), none] ok_X3_lay rfl (Nat.le_of_ble_eq_true rfl) ?_
  refine v_aload_n (i := 0) dX3_lay_0 rfl rfl ?_
  refine v_iload_n (i := 1) dX3_lay_1 rfl rfl ?_
  refine p_X3_9 rfl s0 (by exact ltG hG (by omega)) dX3_lay_2 ?_
  refine v_aload_n (i := 0) dX3_lay_5 rfl rfl ?_
  refine v_iload_n (i := 2) dX3_lay_6 rfl rfl ?_
  refine p_X3_15 rfl s0 (by exact ltG hG (by omega)) dX3_lay_7 ?_
  refine v_aload_n (i := 0) dX3_lay_10 rfl rfl ?_
  refine v_iconst (v := 0) dX3_lay_11 (by decide) ?_
  refine p_X3_21 rfl s0 (by exact ltG hG (by omega)) dX3_lay_12 ?_
  refine v_iconst (v := 0) dX3_lay_15 (by decide) ?_
  refine v_istore_n (i := 3) dX3_lay_16 rfl (by decide) (nlT rfl) ?_
  simp only [List.set_cons_zero, List.set_cons_succ]
  refine V.weak (la2 := [some (.ref a), some (.int x1), some (.int x2), some (.int 0)]) (by simp [wk]) ?_
  exact (s_X3_lay_IH_17) _ _ _ _ _ hF hG
def F_X3_leftOf (n : Nat) (h : Hp) (a : Nat) (x1 : Int32) : Option (Int32 × Hp) := (if ((hi h a 0) : Int32) ≤ 0 then some (0, h) else (if (hi h a 0) = 0 then none else some ((x1 - x1 / (hi h a 0) * (hi h a 0)), h)))
set_option maxRecDepth 100000 in
set_option maxHeartbeats 4000000 in
theorem s_X3_leftOf (d : Nat) {n : Nat} {h : Hp} {a : Nat} {x1 : Int32} {q0 : (Int32 × Hp)} (hF : F_X3_leftOf n h a x1 = some q0) (hG : G h) (hs : IsFd a) : Kc mX3_leftOf (d) [.ref a, .int x1] h (fun r1 h1 => r1 = some (.int q0.1) ∧ h1 = q0.2 ∧ G q0.2) := by
  obtain ⟨s0, s4⟩ := id hs
  obtain ⟨r, h'⟩ := q0
  unfold F_X3_leftOf at hF
  refine Kc.of [some (.ref a), some (.int x1)] ok_X3_leftOf rfl (Nat.le_of_ble_eq_true rfl) ?_
  refine v_aload_n (i := 0) dX3_leftOf_0 rfl rfl ?_
  refine g_X3_9 rfl s0 (by exact ltG hG (by omega)) dX3_leftOf_1 ?_
  refine v_if_le 16 dX3_leftOf_4 (by decide) (fun c1 => ?_) (fun c1 => ?_)
  · rw [if_pos c1] at hF
    refine v_iconst (v := 0) dX3_leftOf_16 (by decide) ?_
    refine v_ireturn rfl dX3_leftOf_17 ?_
    obtain ⟨rfl, rfl⟩ := Prod.mk.inj (Option.some.inj hF)
    exact ⟨rfl, rfl, hG⟩
  · rw [if_neg c1] at hF
    refine v_iload_n (i := 1) dX3_leftOf_7 rfl rfl ?_
    refine v_aload_n (i := 0) dX3_leftOf_8 rfl rfl ?_
    refine g_X3_9 rfl s0 (by exact ltG hG (by omega)) dX3_leftOf_9 ?_
    obtain ⟨k2, hF⟩ := ck_none hF
    refine v_irem dX3_leftOf_12 k2 ?_
    refine v_goto 17 dX3_leftOf_13 (by decide) ?_
    refine v_ireturn rfl dX3_leftOf_17 ?_
    obtain ⟨rfl, rfl⟩ := Prod.mk.inj (Option.some.inj hF)
    exact ⟨rfl, rfl, hG⟩
def F_X3_quietOnTheRight (n : Nat) (h : Hp) (a : Nat) (x1 : Int32) : Option (Int32 × Hp) := some (((x1 : Int32) &&& (((((((((hi h a 2) : Int32) &&& ((((hi h a 3) : Int32) ^^^ ((-1) : Int32)) : Int32)) : Int32) &&& (((x1 : Int32) ^^^ ((-1) : Int32)) : Int32)) : Int32).toUInt32 >>> ((1 : Int32).toUInt32 &&& Int32.toUInt32 31)).toInt32) : Int32)), h)
set_option maxRecDepth 100000 in
set_option maxHeartbeats 4000000 in
theorem s_X3_quietOnTheRight (d : Nat) {n : Nat} {h : Hp} {a : Nat} {x1 : Int32} {q0 : (Int32 × Hp)} (hF : F_X3_quietOnTheRight n h a x1 = some q0) (hG : G h) (hs : IsFd a) : Kc mX3_quietOnTheRight (d) [.ref a, .int x1] h (fun r1 h1 => r1 = some (.int q0.1) ∧ h1 = q0.2 ∧ G q0.2) := by
  obtain ⟨s0, s4⟩ := id hs
  obtain ⟨r, h'⟩ := q0
  unfold F_X3_quietOnTheRight at hF
  refine Kc.of [some (.ref a), some (.int x1), none] ok_X3_quietOnTheRight rfl (Nat.le_of_ble_eq_true rfl) ?_
  refine v_aload_n (i := 0) dX3_quietOnTheRight_0 rfl rfl ?_
  refine g_X3_18 rfl s0 (by exact ltG hG (by omega)) dX3_quietOnTheRight_1 ?_
  refine v_aload_n (i := 0) dX3_quietOnTheRight_4 rfl rfl ?_
  refine g_X3_21 rfl s0 (by exact ltG hG (by omega)) dX3_quietOnTheRight_5 ?_
  refine v_iconst (v := (-1)) dX3_quietOnTheRight_8 (by decide) ?_
  refine v_ixor dX3_quietOnTheRight_9 ?_
  refine v_iand dX3_quietOnTheRight_10 ?_
  refine v_iload_n (i := 1) dX3_quietOnTheRight_11 rfl rfl ?_
  refine v_iconst (v := (-1)) dX3_quietOnTheRight_12 (by decide) ?_
  refine v_ixor dX3_quietOnTheRight_13 ?_
  refine v_iand dX3_quietOnTheRight_14 ?_
  refine v_istore_n (i := 2) dX3_quietOnTheRight_15 rfl (by decide) (nlT rfl) ?_
  simp only [List.set_cons_zero, List.set_cons_succ]
  refine v_iload_n (i := 1) dX3_quietOnTheRight_16 rfl rfl ?_
  refine v_iload_n (i := 2) dX3_quietOnTheRight_17 rfl rfl ?_
  refine v_iconst (v := 1) dX3_quietOnTheRight_18 (by decide) ?_
  refine v_iushr dX3_quietOnTheRight_19 ?_
  refine v_iand dX3_quietOnTheRight_20 ?_
  refine v_ireturn rfl dX3_quietOnTheRight_21 ?_
  obtain ⟨rfl, rfl⟩ := Prod.mk.inj (Option.some.inj hF)
  exact ⟨rfl, rfl, hG⟩
def W_X3_steps : Nat → Nat → Hp → Nat → Int32 → Int32 → Int32 → Int32 → Int32 → Option (Int32 × Hp)
  | 0 => fun _ _ _ _ _ _ _ _ => none
  | n + 1 => fun hd h a l1 l2 l3 l4 l5 => (if hd = 8 then (if (25 : Int32) < (l5 : Int32) then some ((-1), h) else (if ((((((l4 : Int32).toUInt32 >>> ((l2 : Int32).toUInt32 &&& Int32.toUInt32 31)).toInt32) : Int32) &&& (1 : Int32)) : Int32) = 0 then ((F_X3_grown n h a l4).bind (fun q3 => W_X3_steps n 8 q3.2 a l1 l2 l3 ((l4 : Int32) ||| (((q3.1 : Int32) &&& (l3 : Int32)) : Int32)) (l5 + 1))) else some (l5, h))) else none)
set_option maxRecDepth 100000 in
set_option maxHeartbeats 4000000 in
theorem sw_X3_steps (d : Nat) (a : Nat) (hs : IsFd a) (n : Nat) : (∀ (l1 : Int32) (l2 : Int32) (l3 : Int32) (l4 : Int32) (l5 : Int32) (h : Hp), ∀ (r : Int32) (h' : Hp), W_X3_steps n 8 h a l1 l2 l3 l4 l5 = some (r, h') → G h → V mX3_steps (d + 1) 8 [some (.ref a), some (.int l1), some (.int l2), some (.int l3), some (.int l4), some (.int l5)] [] h (fun r1 h1 => r1 = some (.int r) ∧ h1 = h' ∧ G h')) := by
  obtain ⟨s0, s4⟩ := id hs
  induction n with
  | zero => exact by intros; contradiction
  | succ n ih =>
    have s_X3_steps_IH_8 := ih
    intro l1 l2 l3 l4 l5 h r h' hF hG
    unfold W_X3_steps at hF
    rw [if_pos rfl] at hF
    refine v_iload (i := 5) dX3_steps_8 rfl ?_
    refine v_bipush (v := 25) dX3_steps_10 (by decide) ?_
    refine v_icmp_gt 46 dX3_steps_12 (by decide) (fun c1 => ?_) (fun c1 => ?_)
    · rw [if_pos c1] at hF
      refine v_iconst (v := (-1)) dX3_steps_46 (by decide) ?_
      refine v_ireturn rfl dX3_steps_47 ?_
      obtain ⟨rfl, rfl⟩ := Prod.mk.inj (Option.some.inj hF)
      exact ⟨rfl, rfl, hG⟩
    · rw [if_neg c1] at hF
      refine v_iload (i := 4) dX3_steps_15 rfl ?_
      refine v_iload_n (i := 2) dX3_steps_17 rfl rfl ?_
      refine v_iushr dX3_steps_18 ?_
      refine v_iconst (v := 1) dX3_steps_19 (by decide) ?_
      refine v_iand dX3_steps_20 ?_
      refine v_if_eq 27 dX3_steps_21 (by decide) (fun c2 => ?_) (fun c2 => ?_)
      · rw [if_pos c2] at hF
        refine v_iload (i := 4) dX3_steps_27 rfl ?_
        refine v_aload_n (i := 0) dX3_steps_29 rfl rfl ?_
        refine v_iload (i := 4) dX3_steps_30 rfl ?_
        obtain ⟨q3, q3_e, hF⟩ := Option.bind_eq_some_iff.mp hF
        refine c_X3_31 rfl s0 (by exact ltG hG (by omega)) (Nat.le_of_ble_eq_true rfl) dX3_steps_32 (s_X3_grown _ q3_e hG (by first | assumption | exact sc_30 | exact sc_34 | exact sc_10 | exact fd_24 | exact fd_4 | exact lw_25 | exact lw_5 | exact bd_23 | exact bd_3 | exact ⟨by first | assumption | rfl, by first | decide | omega⟩)) (fun r1 h1 hq => ?_)
        obtain ⟨rfl, hq, hG⟩ := hq
        replace hq := hq.symm
        subst hq
        show V _ _ _ _ (_ :: _) _ _
        refine v_iload_n (i := 3) dX3_steps_35 rfl rfl ?_
        refine v_iand dX3_steps_36 ?_
        refine v_ior dX3_steps_37 ?_
        refine v_istore (i := 4) dX3_steps_38 (by decide) (nlT rfl) ?_
        simp only [List.set_cons_zero, List.set_cons_succ]
        refine v_iinc (i := 5) (v := (l5 + 1)) dX3_steps_40 rfl rfl (by decide) (nlT rfl) ?_
        simp only [List.set_cons_zero, List.set_cons_succ]
        refine v_goto 8 dX3_steps_43 (by decide) ?_
        refine V.weak (la2 := [some (.ref a), some (.int l1), some (.int l2), some (.int l3), some (.int ((l4 : Int32) ||| (((q3.1 : Int32) &&& (l3 : Int32)) : Int32))), some (.int (l5 + 1))]) (by simp [wk]) ?_
        exact (s_X3_steps_IH_8) _ _ _ _ _ _ _ _ hF hG
      · rw [if_neg c2] at hF
        refine v_iload (i := 5) dX3_steps_24 rfl ?_
        refine v_ireturn rfl dX3_steps_26 ?_
        obtain ⟨rfl, rfl⟩ := Prod.mk.inj (Option.some.inj hF)
        exact ⟨rfl, rfl, hG⟩
def F_X3_steps (n : Nat) (h : Hp) (a : Nat) (x1 : Int32) (x2 : Int32) (x3 : Int32) : Option (Int32 × Hp) := W_X3_steps n 8 h a x1 x2 x3 ((1 : Int32) <<< ((x1 : Int32) &&& 31)) 0
set_option maxRecDepth 100000 in
set_option maxHeartbeats 4000000 in
theorem s_X3_steps (d : Nat) {n : Nat} {h : Hp} {a : Nat} {x1 : Int32} {x2 : Int32} {x3 : Int32} {q0 : (Int32 × Hp)} (hF : F_X3_steps n h a x1 x2 x3 = some q0) (hG : G h) (hs : IsFd a) : Kc mX3_steps (d + 1) [.ref a, .int x1, .int x2, .int x3] h (fun r1 h1 => r1 = some (.int q0.1) ∧ h1 = q0.2 ∧ G q0.2) := by
  obtain ⟨s0, s4⟩ := id hs
  obtain ⟨r, h'⟩ := q0
  have s_X3_steps_IH_8 := sw_X3_steps d a hs n
  unfold F_X3_steps at hF
  refine Kc.of [some (.ref a), some (.int x1), some (.int x2), some (.int x3), none, none] ok_X3_steps rfl (Nat.le_of_ble_eq_true rfl) ?_
  refine v_iconst (v := 1) dX3_steps_0 (by decide) ?_
  refine v_iload_n (i := 1) dX3_steps_1 rfl rfl ?_
  refine v_ishl dX3_steps_2 ?_
  refine v_istore (i := 4) dX3_steps_3 (by decide) (nlT rfl) ?_
  simp only [List.set_cons_zero, List.set_cons_succ]
  refine v_iconst (v := 0) dX3_steps_5 (by decide) ?_
  refine v_istore (i := 5) dX3_steps_6 (by decide) (nlT rfl) ?_
  simp only [List.set_cons_zero, List.set_cons_succ]
  refine V.weak (la2 := [some (.ref a), some (.int x1), some (.int x2), some (.int x3), some (.int ((1 : Int32) <<< ((x1 : Int32) &&& 31))), some (.int 0)]) (by simp [wk]) ?_
  exact (s_X3_steps_IH_8) _ _ _ _ _ _ _ _ hF hG
def F_X3_topOf (n : Nat) (h : Hp) (a : Nat) (x1 : Int32) : Option (Int32 × Hp) := (if ((hi h a 0) : Int32) ≤ 0 then some (0, h) else (if (hi h a 0) = 0 then none else some ((x1 / (hi h a 0)), h)))
set_option maxRecDepth 100000 in
set_option maxHeartbeats 4000000 in
theorem s_X3_topOf (d : Nat) {n : Nat} {h : Hp} {a : Nat} {x1 : Int32} {q0 : (Int32 × Hp)} (hF : F_X3_topOf n h a x1 = some q0) (hG : G h) (hs : IsFd a) : Kc mX3_topOf (d) [.ref a, .int x1] h (fun r1 h1 => r1 = some (.int q0.1) ∧ h1 = q0.2 ∧ G q0.2) := by
  obtain ⟨s0, s4⟩ := id hs
  obtain ⟨r, h'⟩ := q0
  unfold F_X3_topOf at hF
  refine Kc.of [some (.ref a), some (.int x1)] ok_X3_topOf rfl (Nat.le_of_ble_eq_true rfl) ?_
  refine v_aload_n (i := 0) dX3_topOf_0 rfl rfl ?_
  refine g_X3_9 rfl s0 (by exact ltG hG (by omega)) dX3_topOf_1 ?_
  refine v_if_le 16 dX3_topOf_4 (by decide) (fun c1 => ?_) (fun c1 => ?_)
  · rw [if_pos c1] at hF
    refine v_iconst (v := 0) dX3_topOf_16 (by decide) ?_
    refine v_ireturn rfl dX3_topOf_17 ?_
    obtain ⟨rfl, rfl⟩ := Prod.mk.inj (Option.some.inj hF)
    exact ⟨rfl, rfl, hG⟩
  · rw [if_neg c1] at hF
    refine v_iload_n (i := 1) dX3_topOf_7 rfl rfl ?_
    refine v_aload_n (i := 0) dX3_topOf_8 rfl rfl ?_
    refine g_X3_9 rfl s0 (by exact ltG hG (by omega)) dX3_topOf_9 ?_
    obtain ⟨k2, hF⟩ := ck_none hF
    refine v_idiv dX3_topOf_12 k2 ?_
    refine v_goto 17 dX3_topOf_13 (by decide) ?_
    refine v_ireturn rfl dX3_topOf_17 ?_
    obtain ⟨rfl, rfl⟩ := Prod.mk.inj (Option.some.inj hF)
    exact ⟨rfl, rfl, hG⟩
def F_X4_add (n : Nat) (h : Hp) (a : Nat) (x1 : Int32) : Option Hp := (if (404 : Int32) ≤ ((hi h a 3) : Int32) then some h else (if ixOK (hi h a 3) 404 = true then some (wrI (wrI h (a + 1) (Int32.toNatClampNeg (hi h a 3)) x1) a 3 ((hi (wrI h (a + 1) (Int32.toNatClampNeg (hi h a 3)) x1) a 3) + 1)) else none))
set_option maxRecDepth 100000 in
set_option maxHeartbeats 4000000 in
theorem s_X4_add (d : Nat) {n : Nat} {h : Hp} {a : Nat} {x1 : Int32} {q0 : Hp} (hF : F_X4_add n h a x1 = some q0) (hG : G h) (hs : IsLw a) : Kc mX4_add (d) [.ref a, .int x1] h (fun r1 h1 => r1 = none ∧ h1 = q0 ∧ G q0) := by
  obtain ⟨s0, s1, s2, s3, s4, s5, s6, s7⟩ := id hs
  obtain ⟨h', rfl⟩ : ∃ z, z = q0 := ⟨_, rfl⟩
  unfold F_X4_add at hF
  refine Kc.of [some (.ref a), some (.int x1)] ok_X4_add rfl (Nat.le_of_ble_eq_true rfl) ?_
  refine v_aload_n (i := 0) dX4_add_0 rfl rfl ?_
  refine g_X4_21 rfl s0 (by exact ltG hG (by omega)) dX4_add_1 ?_
  refine v_sipush (v := 404) dX4_add_4 (by decide) ?_
  refine v_icmp_ge 30 dX4_add_7 (by decide) (fun c1 => ?_) (fun c1 => ?_)
  · rw [if_pos c1] at hF
    refine v_return rfl dX4_add_30 ?_
    obtain rfl := Option.some.inj hF
    exact ⟨rfl, rfl, hG⟩
  · rw [if_neg c1] at hF
    refine v_aload_n (i := 0) dX4_add_10 rfl rfl ?_
    refine g_X4_11 (q := (a + 1)) rfl s0 (by exact ltG hG (by omega)) (by exact rG hG s5) dX4_add_11 ?_
    refine v_aload_n (i := 0) dX4_add_14 rfl rfl ?_
    refine g_X4_21 rfl s0 (by exact ltG hG (by omega)) dX4_add_15 ?_
    refine v_iload_n (i := 1) dX4_add_18 rfl rfl ?_
    obtain ⟨k2, hF⟩ := ck_some hF
    refine v_iastore s1 (by exact ltG hG (by omega)) (ixO k2) dX4_add_19 ?_
    refine v_aload_n (i := 0) dX4_add_20 rfl rfl ?_
    refine v_dup dX4_add_21 rfl ?_
    refine g_X4_21 rfl s0 (by exact ltG hG (by omega)) dX4_add_22 ?_
    refine v_iconst (v := 1) dX4_add_25 (by decide) ?_
    refine v_iadd dX4_add_26 ?_
    refine p_X4_21 rfl s0 (by exact ltG hG (by omega)) dX4_add_27 ?_
    refine v_return rfl dX4_add_30 ?_
    obtain rfl := Option.some.inj hF
    exact ⟨rfl, rfl, hG⟩
def F_X4_addLess (n : Nat) (h : Hp) (a : Nat) : Option (Int32 × Hp) := ((F_X4_add n h a (-14)).bind (fun q1 => ((F_X4_add n q1 a 0).bind (fun q3 => some (((hi q3 a 3) - 1), q3)))))
set_option maxRecDepth 100000 in
set_option maxHeartbeats 4000000 in
theorem s_X4_addLess (d : Nat) {n : Nat} {h : Hp} {a : Nat} {q0 : (Int32 × Hp)} (hF : F_X4_addLess n h a = some q0) (hG : G h) (hs : IsLw a) : Kc mX4_addLess (d + 1) [.ref a] h (fun r1 h1 => r1 = some (.int q0.1) ∧ h1 = q0.2 ∧ G q0.2) := by
  obtain ⟨s0, s1, s2, s3, s4, s5, s6, s7⟩ := id hs
  obtain ⟨r, h'⟩ := q0
  unfold F_X4_addLess at hF
  refine Kc.of [some (.ref a)] ok_X4_addLess rfl (Nat.le_of_ble_eq_true rfl) ?_
  refine v_aload_n (i := 0) dX4_addLess_0 rfl rfl ?_
  refine v_bipush (v := (-14)) dX4_addLess_1 (by decide) ?_
  obtain ⟨q1, q1_e, hF⟩ := Option.bind_eq_some_iff.mp hF
  refine c_X4_29 rfl s0 (by exact ltG hG (by omega)) (Nat.le_of_ble_eq_true rfl) dX4_addLess_3 (s_X4_add _ q1_e hG (by first | assumption | exact sc_30 | exact sc_34 | exact sc_10 | exact fd_24 | exact fd_4 | exact lw_25 | exact lw_5 | exact bd_23 | exact bd_3 | exact ⟨by first | assumption | rfl, by first | decide | omega⟩)) (fun r1 h1 hq => ?_)
  obtain ⟨rfl, hq, hG⟩ := hq
  replace hq := hq.symm
  subst hq
  simp only [Option.toList, List.nil_append]
  refine v_aload_n (i := 0) dX4_addLess_6 rfl rfl ?_
  refine v_iconst (v := 0) dX4_addLess_7 (by decide) ?_
  obtain ⟨q3, q3_e, hF⟩ := Option.bind_eq_some_iff.mp hF
  refine c_X4_29 rfl s0 (by exact ltG hG (by omega)) (Nat.le_of_ble_eq_true rfl) dX4_addLess_8 (s_X4_add _ q3_e hG (by first | assumption | exact sc_30 | exact sc_34 | exact sc_10 | exact fd_24 | exact fd_4 | exact lw_25 | exact lw_5 | exact bd_23 | exact bd_3 | exact ⟨by first | assumption | rfl, by first | decide | omega⟩)) (fun r1 h1 hq => ?_)
  obtain ⟨rfl, hq, hG⟩ := hq
  replace hq := hq.symm
  subst hq
  simp only [Option.toList, List.nil_append]
  refine v_aload_n (i := 0) dX4_addLess_11 rfl rfl ?_
  refine g_X4_21 rfl s0 (by exact ltG hG (by omega)) dX4_addLess_12 ?_
  refine v_iconst (v := 1) dX4_addLess_15 (by decide) ?_
  refine v_isub dX4_addLess_16 ?_
  refine v_ireturn rfl dX4_addLess_17 ?_
  obtain ⟨rfl, rfl⟩ := Prod.mk.inj (Option.some.inj hF)
  exact ⟨rfl, rfl, hG⟩
def F_X4_become (n : Nat) (h : Hp) (a : Nat) (b1 : Nat) : Option Hp := some (wrA (wrA (wrI h a 3 (hi h b1 3)) (a + 1) (cpF (wrI h a 3 (hi h b1 3)) (b1 + 1) (a + 1) 404)) (a + 2) (cpF (wrA (wrI h a 3 (hi h b1 3)) (a + 1) (cpF (wrI h a 3 (hi h b1 3)) (b1 + 1) (a + 1) 404)) (b1 + 2) (a + 2) 4))
set_option maxRecDepth 100000 in
set_option maxHeartbeats 4000000 in
theorem s_X4_become (d : Nat) {n : Nat} {h : Hp} {a : Nat} {b1 : Nat} {q0 : Hp} (hF : F_X4_become n h a b1 = some q0) (hG : G h) (hs : IsLw a) (ht1 : IsLw b1) : Kc mX4_become (d + 1) [.ref a, .ref b1] h (fun r1 h1 => r1 = none ∧ h1 = q0 ∧ G q0) := by
  obtain ⟨s0, s1, s2, s3, s4, s5, s6, s7⟩ := id hs
  obtain ⟨t10, t11, t12, t13, t14, t15, t16, t17⟩ := id ht1
  obtain ⟨h', rfl⟩ : ∃ z, z = q0 := ⟨_, rfl⟩
  unfold F_X4_become at hF
  refine Kc.of [some (.ref a), some (.ref b1)] ok_X4_become rfl (Nat.le_of_ble_eq_true rfl) ?_
  refine v_aload_n (i := 0) dX4_become_0 rfl rfl ?_
  refine v_aload_n (i := 1) dX4_become_1 rfl rfl ?_
  refine g_X4_21 rfl t10 (by exact ltG hG (by omega)) dX4_become_2 ?_
  refine p_X4_21 rfl s0 (by exact ltG hG (by omega)) dX4_become_5 ?_
  refine v_aload_n (i := 1) dX4_become_8 rfl rfl ?_
  refine g_X4_11 (q := (b1 + 1)) rfl t10 (by exact ltG hG (by omega)) (by exact rG hG t15) dX4_become_9 ?_
  refine v_iconst (v := 0) dX4_become_12 (by decide) ?_
  refine v_aload_n (i := 0) dX4_become_13 rfl rfl ?_
  refine g_X4_11 (q := (a + 1)) rfl s0 (by exact ltG hG (by omega)) (by exact rG hG s5) dX4_become_14 ?_
  refine v_iconst (v := 0) dX4_become_17 (by decide) ?_
  refine v_sipush (v := 404) dX4_become_18 (by decide) ?_
  refine v_copy (N := 404) 0 (fun _ => rfl) (Or.inl rfl) t11 s1 (by exact ltG hG (by omega)) (by exact ltG hG (by omega)) (by decide) (by decide) (by decide) (by decide) ml_X4_32 ac_nat ac_st in_Sys (Nat.le_of_ble_eq_true rfl) dX4_become_21 ?_
  refine v_aload_n (i := 1) dX4_become_24 rfl rfl ?_
  refine g_X4_15 (q := (b1 + 2)) rfl t10 (by exact ltG hG (by omega)) (by exact rG hG t16) dX4_become_25 ?_
  refine v_iconst (v := 0) dX4_become_28 (by decide) ?_
  refine v_aload_n (i := 0) dX4_become_29 rfl rfl ?_
  refine g_X4_15 (q := (a + 2)) rfl s0 (by exact ltG hG (by omega)) (by exact rG hG s6) dX4_become_30 ?_
  refine v_iconst (v := 0) dX4_become_33 (by decide) ?_
  refine v_iconst (v := 4) dX4_become_34 (by decide) ?_
  refine v_copy (N := 4) 0 (fun _ => rfl) (Or.inl rfl) t12 s2 (by exact ltG hG (by omega)) (by exact ltG hG (by omega)) (by decide) (by decide) (by decide) (by decide) ml_X4_32 ac_nat ac_st in_Sys (Nat.le_of_ble_eq_true rfl) dX4_become_35 ?_
  refine v_return rfl dX4_become_38 ?_
  obtain rfl := Option.some.inj hF
  exact ⟨rfl, rfl, hG⟩
def F_X4_begin (n : Nat) (h : Hp) (a : Nat) (x1 : Int32) : Option Hp := (if (x1 : Int32) < 0 then some h else (if (4 : Int32) ≤ (x1 : Int32) then some h else (if ixOK x1 4 = true then some (wrI h (a + 2) (Int32.toNatClampNeg x1) (hi h a 3)) else none)))
set_option maxRecDepth 100000 in
set_option maxHeartbeats 4000000 in
theorem s_X4_begin (d : Nat) {n : Nat} {h : Hp} {a : Nat} {x1 : Int32} {q0 : Hp} (hF : F_X4_begin n h a x1 = some q0) (hG : G h) (hs : IsLw a) : Kc mX4_begin (d) [.ref a, .int x1] h (fun r1 h1 => r1 = none ∧ h1 = q0 ∧ G q0) := by
  obtain ⟨s0, s1, s2, s3, s4, s5, s6, s7⟩ := id hs
  obtain ⟨h', rfl⟩ : ∃ z, z = q0 := ⟨_, rfl⟩
  unfold F_X4_begin at hF
  refine Kc.of [some (.ref a), some (.int x1)] ok_X4_begin rfl (Nat.le_of_ble_eq_true rfl) ?_
  refine v_iload_n (i := 1) dX4_begin_0 rfl rfl ?_
  refine v_if_lt 19 dX4_begin_1 (by decide) (fun c1 => ?_) (fun c1 => ?_)
  · rw [if_pos c1] at hF
    refine v_return rfl dX4_begin_19 ?_
    obtain rfl := Option.some.inj hF
    exact ⟨rfl, rfl, hG⟩
  · rw [if_neg c1] at hF
    refine v_iload_n (i := 1) dX4_begin_4 rfl rfl ?_
    refine v_iconst (v := 4) dX4_begin_5 (by decide) ?_
    refine v_icmp_ge 19 dX4_begin_6 (by decide) (fun c2 => ?_) (fun c2 => ?_)
    · rw [if_pos c2] at hF
      refine v_return rfl dX4_begin_19 ?_
      obtain rfl := Option.some.inj hF
      exact ⟨rfl, rfl, hG⟩
    · rw [if_neg c2] at hF
      refine v_aload_n (i := 0) dX4_begin_9 rfl rfl ?_
      refine g_X4_15 (q := (a + 2)) rfl s0 (by exact ltG hG (by omega)) (by exact rG hG s6) dX4_begin_10 ?_
      refine v_iload_n (i := 1) dX4_begin_13 rfl rfl ?_
      refine v_aload_n (i := 0) dX4_begin_14 rfl rfl ?_
      refine g_X4_21 rfl s0 (by exact ltG hG (by omega)) dX4_begin_15 ?_
      obtain ⟨k3, hF⟩ := ck_some hF
      refine v_iastore s2 (by exact ltG hG (by omega)) (ixO k3) dX4_begin_18 ?_
      refine v_return rfl dX4_begin_19 ?_
      obtain rfl := Option.some.inj hF
      exact ⟨rfl, rfl, hG⟩
def F_X4_clear (n : Nat) (h : Hp) (a : Nat) : Option Hp := ((F_X4_begin n (wrI h a 3 0) a 0).bind (fun q1 => ((F_X4_begin n q1 a 2).bind (fun q3 => ((F_X4_add n q3 a 0).bind (fun q5 => ((F_X4_add n q5 a (-15)).bind (fun q7 => ((F_X4_begin n q7 a 1).bind (fun q9 => ((F_X4_begin n q9 a 3).bind (fun q11 => ((F_X4_add n q11 a 1).bind (fun q13 => ((F_X4_add n q13 a (-15)).bind (fun q15 => some q15))))))))))))))))
set_option maxRecDepth 100000 in
set_option maxHeartbeats 4000000 in
theorem s_X4_clear (d : Nat) {n : Nat} {h : Hp} {a : Nat} {q0 : Hp} (hF : F_X4_clear n h a = some q0) (hG : G h) (hs : IsLw a) : Kc mX4_clear (d + 1) [.ref a] h (fun r1 h1 => r1 = none ∧ h1 = q0 ∧ G q0) := by
  obtain ⟨s0, s1, s2, s3, s4, s5, s6, s7⟩ := id hs
  obtain ⟨h', rfl⟩ : ∃ z, z = q0 := ⟨_, rfl⟩
  unfold F_X4_clear at hF
  refine Kc.of [some (.ref a)] ok_X4_clear rfl (Nat.le_of_ble_eq_true rfl) ?_
  refine v_aload_n (i := 0) dX4_clear_0 rfl rfl ?_
  refine v_iconst (v := 0) dX4_clear_1 (by decide) ?_
  refine p_X4_21 rfl s0 (by exact ltG hG (by omega)) dX4_clear_2 ?_
  refine v_aload_n (i := 0) dX4_clear_5 rfl rfl ?_
  refine v_iconst (v := 0) dX4_clear_6 (by decide) ?_
  obtain ⟨q1, q1_e, hF⟩ := Option.bind_eq_some_iff.mp hF
  refine c_X4_25 rfl s0 (by exact ltG hG (by omega)) (Nat.le_of_ble_eq_true rfl) dX4_clear_7 (s_X4_begin _ q1_e hG (by first | assumption | exact sc_30 | exact sc_34 | exact sc_10 | exact fd_24 | exact fd_4 | exact lw_25 | exact lw_5 | exact bd_23 | exact bd_3 | exact ⟨by first | assumption | rfl, by first | decide | omega⟩)) (fun r1 h1 hq => ?_)
  obtain ⟨rfl, hq, hG⟩ := hq
  replace hq := hq.symm
  subst hq
  simp only [Option.toList, List.nil_append]
  refine v_aload_n (i := 0) dX4_clear_10 rfl rfl ?_
  refine v_iconst (v := 2) dX4_clear_11 (by decide) ?_
  obtain ⟨q3, q3_e, hF⟩ := Option.bind_eq_some_iff.mp hF
  refine c_X4_25 rfl s0 (by exact ltG hG (by omega)) (Nat.le_of_ble_eq_true rfl) dX4_clear_12 (s_X4_begin _ q3_e hG (by first | assumption | exact sc_30 | exact sc_34 | exact sc_10 | exact fd_24 | exact fd_4 | exact lw_25 | exact lw_5 | exact bd_23 | exact bd_3 | exact ⟨by first | assumption | rfl, by first | decide | omega⟩)) (fun r1 h1 hq => ?_)
  obtain ⟨rfl, hq, hG⟩ := hq
  replace hq := hq.symm
  subst hq
  simp only [Option.toList, List.nil_append]
  refine v_aload_n (i := 0) dX4_clear_15 rfl rfl ?_
  refine v_iconst (v := 0) dX4_clear_16 (by decide) ?_
  obtain ⟨q5, q5_e, hF⟩ := Option.bind_eq_some_iff.mp hF
  refine c_X4_29 rfl s0 (by exact ltG hG (by omega)) (Nat.le_of_ble_eq_true rfl) dX4_clear_17 (s_X4_add _ q5_e hG (by first | assumption | exact sc_30 | exact sc_34 | exact sc_10 | exact fd_24 | exact fd_4 | exact lw_25 | exact lw_5 | exact bd_23 | exact bd_3 | exact ⟨by first | assumption | rfl, by first | decide | omega⟩)) (fun r1 h1 hq => ?_)
  obtain ⟨rfl, hq, hG⟩ := hq
  replace hq := hq.symm
  subst hq
  simp only [Option.toList, List.nil_append]
  refine v_aload_n (i := 0) dX4_clear_20 rfl rfl ?_
  refine v_bipush (v := (-15)) dX4_clear_21 (by decide) ?_
  obtain ⟨q7, q7_e, hF⟩ := Option.bind_eq_some_iff.mp hF
  refine c_X4_29 rfl s0 (by exact ltG hG (by omega)) (Nat.le_of_ble_eq_true rfl) dX4_clear_23 (s_X4_add _ q7_e hG (by first | assumption | exact sc_30 | exact sc_34 | exact sc_10 | exact fd_24 | exact fd_4 | exact lw_25 | exact lw_5 | exact bd_23 | exact bd_3 | exact ⟨by first | assumption | rfl, by first | decide | omega⟩)) (fun r1 h1 hq => ?_)
  obtain ⟨rfl, hq, hG⟩ := hq
  replace hq := hq.symm
  subst hq
  simp only [Option.toList, List.nil_append]
  refine v_aload_n (i := 0) dX4_clear_26 rfl rfl ?_
  refine v_iconst (v := 1) dX4_clear_27 (by decide) ?_
  obtain ⟨q9, q9_e, hF⟩ := Option.bind_eq_some_iff.mp hF
  refine c_X4_25 rfl s0 (by exact ltG hG (by omega)) (Nat.le_of_ble_eq_true rfl) dX4_clear_28 (s_X4_begin _ q9_e hG (by first | assumption | exact sc_30 | exact sc_34 | exact sc_10 | exact fd_24 | exact fd_4 | exact lw_25 | exact lw_5 | exact bd_23 | exact bd_3 | exact ⟨by first | assumption | rfl, by first | decide | omega⟩)) (fun r1 h1 hq => ?_)
  obtain ⟨rfl, hq, hG⟩ := hq
  replace hq := hq.symm
  subst hq
  simp only [Option.toList, List.nil_append]
  refine v_aload_n (i := 0) dX4_clear_31 rfl rfl ?_
  refine v_iconst (v := 3) dX4_clear_32 (by decide) ?_
  obtain ⟨q11, q11_e, hF⟩ := Option.bind_eq_some_iff.mp hF
  refine c_X4_25 rfl s0 (by exact ltG hG (by omega)) (Nat.le_of_ble_eq_true rfl) dX4_clear_33 (s_X4_begin _ q11_e hG (by first | assumption | exact sc_30 | exact sc_34 | exact sc_10 | exact fd_24 | exact fd_4 | exact lw_25 | exact lw_5 | exact bd_23 | exact bd_3 | exact ⟨by first | assumption | rfl, by first | decide | omega⟩)) (fun r1 h1 hq => ?_)
  obtain ⟨rfl, hq, hG⟩ := hq
  replace hq := hq.symm
  subst hq
  simp only [Option.toList, List.nil_append]
  refine v_aload_n (i := 0) dX4_clear_36 rfl rfl ?_
  refine v_iconst (v := 1) dX4_clear_37 (by decide) ?_
  obtain ⟨q13, q13_e, hF⟩ := Option.bind_eq_some_iff.mp hF
  refine c_X4_29 rfl s0 (by exact ltG hG (by omega)) (Nat.le_of_ble_eq_true rfl) dX4_clear_38 (s_X4_add _ q13_e hG (by first | assumption | exact sc_30 | exact sc_34 | exact sc_10 | exact fd_24 | exact fd_4 | exact lw_25 | exact lw_5 | exact bd_23 | exact bd_3 | exact ⟨by first | assumption | rfl, by first | decide | omega⟩)) (fun r1 h1 hq => ?_)
  obtain ⟨rfl, hq, hG⟩ := hq
  replace hq := hq.symm
  subst hq
  simp only [Option.toList, List.nil_append]
  refine v_aload_n (i := 0) dX4_clear_41 rfl rfl ?_
  refine v_bipush (v := (-15)) dX4_clear_42 (by decide) ?_
  obtain ⟨q15, q15_e, hF⟩ := Option.bind_eq_some_iff.mp hF
  refine c_X4_29 rfl s0 (by exact ltG hG (by omega)) (Nat.le_of_ble_eq_true rfl) dX4_clear_44 (s_X4_add _ q15_e hG (by first | assumption | exact sc_30 | exact sc_34 | exact sc_10 | exact fd_24 | exact fd_4 | exact lw_25 | exact lw_5 | exact bd_23 | exact bd_3 | exact ⟨by first | assumption | rfl, by first | decide | omega⟩)) (fun r1 h1 hq => ?_)
  obtain ⟨rfl, hq, hG⟩ := hq
  replace hq := hq.symm
  subst hq
  simp only [Option.toList, List.nil_append]
  refine v_return rfl dX4_clear_47 ?_
  obtain rfl := Option.some.inj hF
  exact ⟨rfl, rfl, hG⟩
def F_X4_elseHere (n : Nat) (h : Hp) (a : Nat) (x1 : Int32) : Option Hp := (if (x1 : Int32) < 0 then some h else (if (404 : Int32) ≤ (x1 : Int32) then some h else (if ixOK x1 404 = true then some (wrI h (a + 1) (Int32.toNatClampNeg x1) (hi h a 3)) else none)))
set_option maxRecDepth 100000 in
set_option maxHeartbeats 4000000 in
theorem s_X4_elseHere (d : Nat) {n : Nat} {h : Hp} {a : Nat} {x1 : Int32} {q0 : Hp} (hF : F_X4_elseHere n h a x1 = some q0) (hG : G h) (hs : IsLw a) : Kc mX4_elseHere (d) [.ref a, .int x1] h (fun r1 h1 => r1 = none ∧ h1 = q0 ∧ G q0) := by
  obtain ⟨s0, s1, s2, s3, s4, s5, s6, s7⟩ := id hs
  obtain ⟨h', rfl⟩ : ∃ z, z = q0 := ⟨_, rfl⟩
  unfold F_X4_elseHere at hF
  refine Kc.of [some (.ref a), some (.int x1)] ok_X4_elseHere rfl (Nat.le_of_ble_eq_true rfl) ?_
  refine v_iload_n (i := 1) dX4_elseHere_0 rfl rfl ?_
  refine v_if_lt 21 dX4_elseHere_1 (by decide) (fun c1 => ?_) (fun c1 => ?_)
  · rw [if_pos c1] at hF
    refine v_return rfl dX4_elseHere_21 ?_
    obtain rfl := Option.some.inj hF
    exact ⟨rfl, rfl, hG⟩
  · rw [if_neg c1] at hF
    refine v_iload_n (i := 1) dX4_elseHere_4 rfl rfl ?_
    refine v_sipush (v := 404) dX4_elseHere_5 (by decide) ?_
    refine v_icmp_ge 21 dX4_elseHere_8 (by decide) (fun c2 => ?_) (fun c2 => ?_)
    · rw [if_pos c2] at hF
      refine v_return rfl dX4_elseHere_21 ?_
      obtain rfl := Option.some.inj hF
      exact ⟨rfl, rfl, hG⟩
    · rw [if_neg c2] at hF
      refine v_aload_n (i := 0) dX4_elseHere_11 rfl rfl ?_
      refine g_X4_11 (q := (a + 1)) rfl s0 (by exact ltG hG (by omega)) (by exact rG hG s5) dX4_elseHere_12 ?_
      refine v_iload_n (i := 1) dX4_elseHere_15 rfl rfl ?_
      refine v_aload_n (i := 0) dX4_elseHere_16 rfl rfl ?_
      refine g_X4_21 rfl s0 (by exact ltG hG (by omega)) dX4_elseHere_17 ?_
      obtain ⟨k3, hF⟩ := ck_some hF
      refine v_iastore s1 (by exact ltG hG (by omega)) (ixO k3) dX4_elseHere_20 ?_
      refine v_return rfl dX4_elseHere_21 ?_
      obtain rfl := Option.some.inj hF
      exact ⟨rfl, rfl, hG⟩
def F_X4_elseOf (n : Nat) (h : Hp) (a : Nat) (x1 : Int32) : Option (Int32 × Hp) := (if (x1 : Int32) < 0 then some ((hi h a 3), h) else (if ((hi h a 3) : Int32) ≤ (x1 : Int32) then some ((hi h a 3), h) else (if ixOK x1 404 = true then some ((hi h (a + 1) (Int32.toNatClampNeg x1)), h) else none)))
set_option maxRecDepth 100000 in
set_option maxHeartbeats 4000000 in
theorem s_X4_elseOf (d : Nat) {n : Nat} {h : Hp} {a : Nat} {x1 : Int32} {q0 : (Int32 × Hp)} (hF : F_X4_elseOf n h a x1 = some q0) (hG : G h) (hs : IsLw a) : Kc mX4_elseOf (d) [.ref a, .int x1] h (fun r1 h1 => r1 = some (.int q0.1) ∧ h1 = q0.2 ∧ G q0.2) := by
  obtain ⟨s0, s1, s2, s3, s4, s5, s6, s7⟩ := id hs
  obtain ⟨r, h'⟩ := q0
  unfold F_X4_elseOf at hF
  refine Kc.of [some (.ref a), some (.int x1)] ok_X4_elseOf rfl (Nat.le_of_ble_eq_true rfl) ?_
  refine v_iload_n (i := 1) dX4_elseOf_0 rfl rfl ?_
  refine v_if_lt 21 dX4_elseOf_1 (by decide) (fun c1 => ?_) (fun c1 => ?_)
  · rw [if_pos c1] at hF
    refine v_aload_n (i := 0) dX4_elseOf_21 rfl rfl ?_
    refine g_X4_21 rfl s0 (by exact ltG hG (by omega)) dX4_elseOf_22 ?_
    refine v_ireturn rfl dX4_elseOf_25 ?_
    obtain ⟨rfl, rfl⟩ := Prod.mk.inj (Option.some.inj hF)
    exact ⟨rfl, rfl, hG⟩
  · rw [if_neg c1] at hF
    refine v_iload_n (i := 1) dX4_elseOf_4 rfl rfl ?_
    refine v_aload_n (i := 0) dX4_elseOf_5 rfl rfl ?_
    refine g_X4_21 rfl s0 (by exact ltG hG (by omega)) dX4_elseOf_6 ?_
    refine v_icmp_ge 21 dX4_elseOf_9 (by decide) (fun c2 => ?_) (fun c2 => ?_)
    · rw [if_pos c2] at hF
      refine v_aload_n (i := 0) dX4_elseOf_21 rfl rfl ?_
      refine g_X4_21 rfl s0 (by exact ltG hG (by omega)) dX4_elseOf_22 ?_
      refine v_ireturn rfl dX4_elseOf_25 ?_
      obtain ⟨rfl, rfl⟩ := Prod.mk.inj (Option.some.inj hF)
      exact ⟨rfl, rfl, hG⟩
    · rw [if_neg c2] at hF
      refine v_aload_n (i := 0) dX4_elseOf_12 rfl rfl ?_
      refine g_X4_11 (q := (a + 1)) rfl s0 (by exact ltG hG (by omega)) (by exact rG hG s5) dX4_elseOf_13 ?_
      refine v_iload_n (i := 1) dX4_elseOf_16 rfl rfl ?_
      obtain ⟨k3, hF⟩ := ck_some hF
      refine v_iaload s1 (by exact ltG hG (by omega)) (ixO k3) dX4_elseOf_17 ?_
      refine v_goto 25 dX4_elseOf_18 (by decide) ?_
      refine v_ireturn rfl dX4_elseOf_25 ?_
      obtain ⟨rfl, rfl⟩ := Prod.mk.inj (Option.some.inj hF)
      exact ⟨rfl, rfl, hG⟩
def F_X4_reckon (n : Nat) (h : Hp) (x1 : Int32) (x2 : Int32) (x3 : Int32) : Option (Int32 × Hp) := (if x1 = (-13) then (if (x3 : Int32) = 0 then some (0, h) else (if x3 = 0 then none else some ((x2 / x3), h))) else (if x1 = (-12) then some ((x2 * x3), h) else (if x1 = (-11) then some ((x2 - x3), h) else (if x1 = (-10) then some ((x2 + x3), h) else some (0, h)))))
set_option maxRecDepth 100000 in
set_option maxHeartbeats 4000000 in
theorem s_X4_reckon (d : Nat) {n : Nat} {h : Hp} {x1 : Int32} {x2 : Int32} {x3 : Int32} {q0 : (Int32 × Hp)} (hF : F_X4_reckon n h x1 x2 x3 = some q0) (hG : G h)  : Kc mX4_reckon (d) [.int x1, .int x2, .int x3] h (fun r1 h1 => r1 = some (.int q0.1) ∧ h1 = q0.2 ∧ G q0.2) := by
  obtain ⟨r, h'⟩ := q0
  unfold F_X4_reckon at hF
  refine Kc.of [some (.int x1), some (.int x2), some (.int x3)] ok_X4_reckon rfl (Nat.le_of_ble_eq_true rfl) ?_
  refine v_iload_n (i := 0) dX4_reckon_0 rfl rfl ?_
  by_cases c1 : x1 = (-13)
  · rw [if_pos c1] at hF
    refine v_tableIn (off := 43) 44 dX4_reckon_1 (by rw [c1]; decide) (by rw [c1]; decide) (by rw [c1]; decide +kernel) (by decide) ?_
    refine v_iload_n (i := 2) dX4_reckon_44 rfl rfl ?_
    refine v_if_ne 52 dX4_reckon_45 (by decide) (fun c2 => ?_) (fun c2 => ?_)
    · rw [if_neg c2] at hF
      refine v_iload_n (i := 1) dX4_reckon_52 rfl rfl ?_
      refine v_iload_n (i := 2) dX4_reckon_53 rfl rfl ?_
      obtain ⟨k3, hF⟩ := ck_none hF
      refine v_idiv dX4_reckon_54 k3 ?_
      refine v_ireturn rfl dX4_reckon_55 ?_
      obtain ⟨rfl, rfl⟩ := Prod.mk.inj (Option.some.inj hF)
      exact ⟨rfl, rfl, hG⟩
    · rw [if_pos c2] at hF
      refine v_iconst (v := 0) dX4_reckon_48 (by decide) ?_
      refine v_goto 55 dX4_reckon_49 (by decide) ?_
      refine v_ireturn rfl dX4_reckon_55 ?_
      obtain ⟨rfl, rfl⟩ := Prod.mk.inj (Option.some.inj hF)
      exact ⟨rfl, rfl, hG⟩
  rw [if_neg c1] at hF
  by_cases c4 : x1 = (-12)
  · rw [if_pos c4] at hF
    refine v_tableIn (off := 39) 40 dX4_reckon_1 (by rw [c4]; decide) (by rw [c4]; decide) (by rw [c4]; decide +kernel) (by decide) ?_
    refine v_iload_n (i := 1) dX4_reckon_40 rfl rfl ?_
    refine v_iload_n (i := 2) dX4_reckon_41 rfl rfl ?_
    refine v_imul dX4_reckon_42 ?_
    refine v_ireturn rfl dX4_reckon_43 ?_
    obtain ⟨rfl, rfl⟩ := Prod.mk.inj (Option.some.inj hF)
    exact ⟨rfl, rfl, hG⟩
  rw [if_neg c4] at hF
  by_cases c5 : x1 = (-11)
  · rw [if_pos c5] at hF
    refine v_tableIn (off := 35) 36 dX4_reckon_1 (by rw [c5]; decide) (by rw [c5]; decide) (by rw [c5]; decide +kernel) (by decide) ?_
    refine v_iload_n (i := 1) dX4_reckon_36 rfl rfl ?_
    refine v_iload_n (i := 2) dX4_reckon_37 rfl rfl ?_
    refine v_isub dX4_reckon_38 ?_
    refine v_ireturn rfl dX4_reckon_39 ?_
    obtain ⟨rfl, rfl⟩ := Prod.mk.inj (Option.some.inj hF)
    exact ⟨rfl, rfl, hG⟩
  rw [if_neg c5] at hF
  by_cases c6 : x1 = (-10)
  · rw [if_pos c6] at hF
    refine v_tableIn (off := 31) 32 dX4_reckon_1 (by rw [c6]; decide) (by rw [c6]; decide) (by rw [c6]; decide +kernel) (by decide) ?_
    refine v_iload_n (i := 1) dX4_reckon_32 rfl rfl ?_
    refine v_iload_n (i := 2) dX4_reckon_33 rfl rfl ?_
    refine v_iadd dX4_reckon_34 ?_
    refine v_ireturn rfl dX4_reckon_35 ?_
    obtain ⟨rfl, rfl⟩ := Prod.mk.inj (Option.some.inj hF)
    exact ⟨rfl, rfl, hG⟩
  rw [if_neg c6] at hF
  have e_c1 : ¬ (x1 : Int32).toInt = (-13) := fun q => c1 (Int32.toInt_inj.mp (q.trans (by decide)))
  have e_c4 : ¬ (x1 : Int32).toInt = (-12) := fun q => c4 (Int32.toInt_inj.mp (q.trans (by decide)))
  have e_c5 : ¬ (x1 : Int32).toInt = (-11) := fun q => c5 (Int32.toInt_inj.mp (q.trans (by decide)))
  have e_c6 : ¬ (x1 : Int32).toInt = (-10) := fun q => c6 (Int32.toInt_inj.mp (q.trans (by decide)))
  refine v_tableOut 56 dX4_reckon_1 (by omega) (by decide) ?_
  refine v_iconst (v := 0) dX4_reckon_56 (by decide) ?_
  refine v_ireturn rfl dX4_reckon_57 ?_
  obtain ⟨rfl, rfl⟩ := Prod.mk.inj (Option.some.inj hF)
  exact ⟨rfl, rfl, hG⟩
def W_X4_value : Nat → Nat → Hp → Nat → Nat → Int32 → Int32 → Int32 → Int32 → Option (Int32 × Hp)
  | 0 => fun _ _ _ _ _ _ _ _ => none
  | n + 1 => fun hd h a b2 l1 l3 l4 l5 => (if hd = 29 then (if (404 : Int32) ≤ (l5 : Int32) then some (0, h) else (if (l4 : Int32) < 0 then some (0, h) else (if ((hi h a 3) : Int32) ≤ (l4 : Int32) then some (0, h) else (if ixOK l4 404 = true then (if ((hi h (a + 1) (Int32.toNatClampNeg l4)) : Int32) < ((-9) : Int32) then (if ((hi h (a + 1) (Int32.toNatClampNeg l4)) : Int32) = ((-15) : Int32) then (if (l3 : Int32) = (1 : Int32) then some ((hi h (a + 3) 0), h) else some (0, h)) else (if (2 : Int32) ≤ (l3 : Int32) then (if ixOK ((l3 + (-1)) - 1) 16 = true then (if ixOK (l3 + (-1)) 16 = true then (if ((hi h (a + 1) (Int32.toNatClampNeg l4)) : Int32) = ((-14) : Int32) then (if ((hi h (a + 3) (Int32.toNatClampNeg (l3 + (-1)))) : Int32) ≤ ((hi h (a + 3) (Int32.toNatClampNeg ((l3 + (-1)) - 1))) : Int32) then ((F_X4_elseOf n h a (l4 + 1)).bind (fun q20 => W_X4_value n 29 q20.2 a b2 l1 ((l3 + (-1)) + (-1)) q20.1 (l5 + 1))) else W_X4_value n 29 h a b2 l1 ((l3 + (-1)) + (-1)) ((l4 + 1) + 1) (l5 + 1)) else (if ((hi h (a + 1) (Int32.toNatClampNeg l4)) : Int32) = ((-13) : Int32) then (if ((hi h (a + 3) (Int32.toNatClampNeg (l3 + (-1)))) : Int32) = 0 then some (0, h) else ((F_X4_reckon n h (hi h (a + 1) (Int32.toNatClampNeg l4)) (hi h (a + 3) (Int32.toNatClampNeg ((l3 + (-1)) - 1))) (hi h (a + 3) (Int32.toNatClampNeg (l3 + (-1))))).bind (fun q16 => (if ixOK ((l3 + (-1)) - 1) 16 = true then W_X4_value n 29 (wrI q16.2 (a + 3) (Int32.toNatClampNeg ((l3 + (-1)) - 1)) q16.1) a b2 l1 (l3 + (-1)) (l4 + 1) (l5 + 1) else none)))) else ((F_X4_reckon n h (hi h (a + 1) (Int32.toNatClampNeg l4)) (hi h (a + 3) (Int32.toNatClampNeg ((l3 + (-1)) - 1))) (hi h (a + 3) (Int32.toNatClampNeg (l3 + (-1))))).bind (fun q12 => (if ixOK ((l3 + (-1)) - 1) 16 = true then W_X4_value n 29 (wrI q12.2 (a + 3) (Int32.toNatClampNeg ((l3 + (-1)) - 1)) q12.1) a b2 l1 (l3 + (-1)) (l4 + 1) (l5 + 1) else none))))) else none) else none) else some (0, h))) else (if (16 : Int32) ≤ (l3 : Int32) then some (0, h) else (if (((-1) - (hi h (a + 1) (Int32.toNatClampNeg l4))) : Int32) < (9 : Int32) then (if ((hi h (a + 1) (Int32.toNatClampNeg l4)) : Int32) < 0 then (if ixOK ((-1) - (hi h (a + 1) (Int32.toNatClampNeg l4))) 9 = true then (if ixOK l3 16 = true then W_X4_value n 29 (wrI h (a + 3) (Int32.toNatClampNeg l3) (hi h b2 (Int32.toNatClampNeg ((-1) - (hi h (a + 1) (Int32.toNatClampNeg l4)))))) a b2 l1 (l3 + 1) (l4 + 1) (l5 + 1) else none) else none) else (if ixOK l3 16 = true then W_X4_value n 29 (wrI h (a + 3) (Int32.toNatClampNeg l3) (hi h (a + 1) (Int32.toNatClampNeg l4))) a b2 l1 (l3 + 1) (l4 + 1) (l5 + 1) else none)) else some (0, h)))) else none)))) else none)
set_option maxRecDepth 100000 in
set_option maxHeartbeats 4000000 in
theorem sw_X4_value (d : Nat) (a : Nat) (b2 : Nat) (hs : IsLw a) (ht2 : ArI 9 b2) (n : Nat) : (∀ (l1 : Int32) (l3 : Int32) (l4 : Int32) (l5 : Int32) (h : Hp), ∀ (r : Int32) (h' : Hp), W_X4_value n 29 h a b2 l1 l3 l4 l5 = some (r, h') → G h → V mX4_value (d + 1) 29 [some (.ref a), some (.int l1), some (.ref b2), some (.int l3), some (.int l4), some (.int l5), none, none, none] [] h (fun r1 h1 => r1 = some (.int r) ∧ h1 = h' ∧ G h')) := by
  obtain ⟨s0, s1, s2, s3, s4, s5, s6, s7⟩ := id hs
  obtain ⟨t20, t24⟩ := id ht2
  induction n with
  | zero => exact by intros; contradiction
  | succ n ih =>
    have s_X4_value_IH_29 := ih
    intro l1 l3 l4 l5 h r h' hF hG
    unfold W_X4_value at hF
    rw [if_pos rfl] at hF
    refine v_iload (i := 5) dX4_value_29 rfl ?_
    refine v_sipush (v := 404) dX4_value_31 (by decide) ?_
    refine v_icmp_ge 238 dX4_value_34 (by decide) (fun c1 => ?_) (fun c1 => ?_)
    · rw [if_pos c1] at hF
      refine v_iconst (v := 0) dX4_value_238 (by decide) ?_
      refine v_ireturn rfl dX4_value_239 ?_
      obtain ⟨rfl, rfl⟩ := Prod.mk.inj (Option.some.inj hF)
      exact ⟨rfl, rfl, hG⟩
    · rw [if_neg c1] at hF
      refine v_iload (i := 4) dX4_value_37 rfl ?_
      refine v_if_lt 238 dX4_value_39 (by decide) (fun c2 => ?_) (fun c2 => ?_)
      · rw [if_pos c2] at hF
        refine v_iconst (v := 0) dX4_value_238 (by decide) ?_
        refine v_ireturn rfl dX4_value_239 ?_
        obtain ⟨rfl, rfl⟩ := Prod.mk.inj (Option.some.inj hF)
        exact ⟨rfl, rfl, hG⟩
      · rw [if_neg c2] at hF
        refine v_iload (i := 4) dX4_value_42 rfl ?_
        refine v_aload_n (i := 0) dX4_value_44 rfl rfl ?_
        refine g_X4_21 rfl s0 (by exact ltG hG (by omega)) dX4_value_45 ?_
        refine v_icmp_ge 238 dX4_value_48 (by decide) (fun c3 => ?_) (fun c3 => ?_)
        · rw [if_pos c3] at hF
          refine v_iconst (v := 0) dX4_value_238 (by decide) ?_
          refine v_ireturn rfl dX4_value_239 ?_
          obtain ⟨rfl, rfl⟩ := Prod.mk.inj (Option.some.inj hF)
          exact ⟨rfl, rfl, hG⟩
        · rw [if_neg c3] at hF
          refine v_aload_n (i := 0) dX4_value_51 rfl rfl ?_
          refine g_X4_11 (q := (a + 1)) rfl s0 (by exact ltG hG (by omega)) (by exact rG hG s5) dX4_value_52 ?_
          refine v_iload (i := 4) dX4_value_55 rfl ?_
          obtain ⟨k4, hF⟩ := ck_some hF
          refine v_iaload s1 (by exact ltG hG (by omega)) (ixO k4) dX4_value_57 ?_
          refine v_istore (i := 6) dX4_value_58 (by decide) (nlT rfl) ?_
          simp only [List.set_cons_zero, List.set_cons_succ]
          refine v_iinc (i := 4) (v := (l4 + 1)) dX4_value_60 rfl rfl (by decide) (nlT rfl) ?_
          simp only [List.set_cons_zero, List.set_cons_succ]
          refine v_iload (i := 6) dX4_value_63 rfl ?_
          refine v_bipush (v := (-9)) dX4_value_65 (by decide) ?_
          refine v_icmp_lt 115 dX4_value_67 (by decide) (fun c5 => ?_) (fun c5 => ?_)
          · rw [if_pos c5] at hF
            refine v_iload (i := 6) dX4_value_115 rfl ?_
            refine v_bipush (v := (-15)) dX4_value_117 (by decide) ?_
            refine v_icmp_ne 138 dX4_value_119 (by decide) (fun c6 => ?_) (fun c6 => ?_)
            · rw [if_neg c6] at hF
              refine v_iload_n (i := 3) dX4_value_138 rfl rfl ?_
              refine v_iconst (v := 2) dX4_value_139 (by decide) ?_
              refine v_icmp_ge 145 dX4_value_140 (by decide) (fun c7 => ?_) (fun c7 => ?_)
              · rw [if_pos c7] at hF
                refine v_iinc (i := 3) (v := (l3 + (-1))) dX4_value_145 rfl rfl (by decide) (nlT rfl) ?_
                simp only [List.set_cons_zero, List.set_cons_succ]
                refine v_aload_n (i := 0) dX4_value_148 rfl rfl ?_
                refine g_X4_18 (q := (a + 3)) rfl s0 (by exact ltG hG (by omega)) (by exact rG hG s7) dX4_value_149 ?_
                refine v_iload_n (i := 3) dX4_value_152 rfl rfl ?_
                refine v_iconst (v := 1) dX4_value_153 (by decide) ?_
                refine v_isub dX4_value_154 ?_
                obtain ⟨k8, hF⟩ := ck_some hF
                refine v_iaload s3 (by exact ltG hG (by omega)) (ixO k8) dX4_value_155 ?_
                refine v_istore (i := 7) dX4_value_156 (by decide) (nlT rfl) ?_
                simp only [List.set_cons_zero, List.set_cons_succ]
                refine v_aload_n (i := 0) dX4_value_158 rfl rfl ?_
                refine g_X4_18 (q := (a + 3)) rfl s0 (by exact ltG hG (by omega)) (by exact rG hG s7) dX4_value_159 ?_
                refine v_iload_n (i := 3) dX4_value_162 rfl rfl ?_
                obtain ⟨k9, hF⟩ := ck_some hF
                refine v_iaload s3 (by exact ltG hG (by omega)) (ixO k9) dX4_value_163 ?_
                refine v_istore (i := 8) dX4_value_164 (by decide) (nlT rfl) ?_
                simp only [List.set_cons_zero, List.set_cons_succ]
                refine v_iload (i := 6) dX4_value_166 rfl ?_
                refine v_bipush (v := (-14)) dX4_value_168 (by decide) ?_
                refine v_icmp_ne 201 dX4_value_170 (by decide) (fun c10 => ?_) (fun c10 => ?_)
                · rw [if_neg c10] at hF
                  refine v_iload (i := 6) dX4_value_201 rfl ?_
                  refine v_bipush (v := (-13)) dX4_value_203 (by decide) ?_
                  refine v_icmp_ne 215 dX4_value_205 (by decide) (fun c11 => ?_) (fun c11 => ?_)
                  · rw [if_neg c11] at hF
                    refine v_aload_n (i := 0) dX4_value_215 rfl rfl ?_
                    refine g_X4_18 (q := (a + 3)) rfl s0 (by exact ltG hG (by omega)) (by exact rG hG s7) dX4_value_216 ?_
                    refine v_iload_n (i := 3) dX4_value_219 rfl rfl ?_
                    refine v_iconst (v := 1) dX4_value_220 (by decide) ?_
                    refine v_isub dX4_value_221 ?_
                    refine v_iload (i := 6) dX4_value_222 rfl ?_
                    refine v_iload (i := 7) dX4_value_224 rfl ?_
                    refine v_iload (i := 8) dX4_value_226 rfl ?_
                    obtain ⟨q12, q12_e, hF⟩ := Option.bind_eq_some_iff.mp hF
                    refine c_X4_42 rfl (Nat.le_of_ble_eq_true rfl) dX4_value_228 (s_X4_reckon _ q12_e hG) (fun r1 h1 hq => ?_)
                    obtain ⟨rfl, hq, hG⟩ := hq
                    replace hq := hq.symm
                    subst hq
                    show V _ _ _ _ (_ :: _) _ _
                    obtain ⟨k14, hF⟩ := ck_some hF
                    refine v_iastore s3 (by exact ltG hG (by omega)) (ixO k14) dX4_value_231 ?_
                    refine v_iinc (i := 5) (v := (l5 + 1)) dX4_value_232 rfl rfl (by decide) (nlT rfl) ?_
                    simp only [List.set_cons_zero, List.set_cons_succ]
                    refine v_goto 29 dX4_value_235 (by decide) ?_
                    refine V.weak (la2 := [some (.ref a), some (.int l1), some (.ref b2), some (.int (l3 + (-1))), some (.int (l4 + 1)), some (.int (l5 + 1)), none, none, none]) (by simp [wk]) ?_
                    exact (s_X4_value_IH_29) _ _ _ _ _ _ _ hF hG
                  · rw [if_pos c11] at hF
                    refine v_iload (i := 8) dX4_value_208 rfl ?_
                    refine v_if_ne 215 dX4_value_210 (by decide) (fun c15 => ?_) (fun c15 => ?_)
                    · rw [if_neg c15] at hF
                      refine v_aload_n (i := 0) dX4_value_215 rfl rfl ?_
                      refine g_X4_18 (q := (a + 3)) rfl s0 (by exact ltG hG (by omega)) (by exact rG hG s7) dX4_value_216 ?_
                      refine v_iload_n (i := 3) dX4_value_219 rfl rfl ?_
                      refine v_iconst (v := 1) dX4_value_220 (by decide) ?_
                      refine v_isub dX4_value_221 ?_
                      refine v_iload (i := 6) dX4_value_222 rfl ?_
                      refine v_iload (i := 7) dX4_value_224 rfl ?_
                      refine v_iload (i := 8) dX4_value_226 rfl ?_
                      obtain ⟨q16, q16_e, hF⟩ := Option.bind_eq_some_iff.mp hF
                      refine c_X4_42 rfl (Nat.le_of_ble_eq_true rfl) dX4_value_228 (s_X4_reckon _ q16_e hG) (fun r1 h1 hq => ?_)
                      obtain ⟨rfl, hq, hG⟩ := hq
                      replace hq := hq.symm
                      subst hq
                      show V _ _ _ _ (_ :: _) _ _
                      obtain ⟨k18, hF⟩ := ck_some hF
                      refine v_iastore s3 (by exact ltG hG (by omega)) (ixO k18) dX4_value_231 ?_
                      refine v_iinc (i := 5) (v := (l5 + 1)) dX4_value_232 rfl rfl (by decide) (nlT rfl) ?_
                      simp only [List.set_cons_zero, List.set_cons_succ]
                      refine v_goto 29 dX4_value_235 (by decide) ?_
                      refine V.weak (la2 := [some (.ref a), some (.int l1), some (.ref b2), some (.int (l3 + (-1))), some (.int (l4 + 1)), some (.int (l5 + 1)), none, none, none]) (by simp [wk]) ?_
                      exact (s_X4_value_IH_29) _ _ _ _ _ _ _ hF hG
                    · rw [if_pos c15] at hF
                      refine v_iconst (v := 0) dX4_value_213 (by decide) ?_
                      refine v_ireturn rfl dX4_value_214 ?_
                      obtain ⟨rfl, rfl⟩ := Prod.mk.inj (Option.some.inj hF)
                      exact ⟨rfl, rfl, hG⟩
                · rw [if_pos c10] at hF
                  refine v_iinc (i := 3) (v := ((l3 + (-1)) + (-1))) dX4_value_173 rfl rfl (by decide) (nlT rfl) ?_
                  simp only [List.set_cons_zero, List.set_cons_succ]
                  refine v_iload (i := 7) dX4_value_176 rfl ?_
                  refine v_iload (i := 8) dX4_value_178 rfl ?_
                  refine v_icmp_ge 190 dX4_value_180 (by decide) (fun c19 => ?_) (fun c19 => ?_)
                  · rw [if_pos c19] at hF
                    refine v_aload_n (i := 0) dX4_value_190 rfl rfl ?_
                    refine v_iload (i := 4) dX4_value_191 rfl ?_
                    obtain ⟨q20, q20_e, hF⟩ := Option.bind_eq_some_iff.mp hF
                    refine c_X4_38 rfl s0 (by exact ltG hG (by omega)) (Nat.le_of_ble_eq_true rfl) dX4_value_193 (s_X4_elseOf _ q20_e hG (by first | assumption | exact sc_30 | exact sc_34 | exact sc_10 | exact fd_24 | exact fd_4 | exact lw_25 | exact lw_5 | exact bd_23 | exact bd_3 | exact ⟨by first | assumption | rfl, by first | decide | omega⟩)) (fun r1 h1 hq => ?_)
                    obtain ⟨rfl, hq, hG⟩ := hq
                    replace hq := hq.symm
                    subst hq
                    show V _ _ _ _ (_ :: _) _ _
                    refine v_istore (i := 4) dX4_value_196 (by decide) (nlT rfl) ?_
                    simp only [List.set_cons_zero, List.set_cons_succ]
                    refine v_goto 232 dX4_value_198 (by decide) ?_
                    refine v_iinc (i := 5) (v := (l5 + 1)) dX4_value_232 rfl rfl (by decide) (nlT rfl) ?_
                    simp only [List.set_cons_zero, List.set_cons_succ]
                    refine v_goto 29 dX4_value_235 (by decide) ?_
                    refine V.weak (la2 := [some (.ref a), some (.int l1), some (.ref b2), some (.int ((l3 + (-1)) + (-1))), some (.int q20.1), some (.int (l5 + 1)), none, none, none]) (by simp [wk]) ?_
                    exact (s_X4_value_IH_29) _ _ _ _ _ _ _ hF hG
                  · rw [if_neg c19] at hF
                    refine v_iload (i := 4) dX4_value_183 rfl ?_
                    refine v_iconst (v := 1) dX4_value_185 (by decide) ?_
                    refine v_iadd dX4_value_186 ?_
                    refine v_goto 196 dX4_value_187 (by decide) ?_
                    refine v_istore (i := 4) dX4_value_196 (by decide) (nlT rfl) ?_
                    simp only [List.set_cons_zero, List.set_cons_succ]
                    refine v_goto 232 dX4_value_198 (by decide) ?_
                    refine v_iinc (i := 5) (v := (l5 + 1)) dX4_value_232 rfl rfl (by decide) (nlT rfl) ?_
                    simp only [List.set_cons_zero, List.set_cons_succ]
                    refine v_goto 29 dX4_value_235 (by decide) ?_
                    refine V.weak (la2 := [some (.ref a), some (.int l1), some (.ref b2), some (.int ((l3 + (-1)) + (-1))), some (.int ((l4 + 1) + 1)), some (.int (l5 + 1)), none, none, none]) (by simp [wk]) ?_
                    exact (s_X4_value_IH_29) _ _ _ _ _ _ _ hF hG
              · rw [if_neg c7] at hF
                refine v_iconst (v := 0) dX4_value_143 (by decide) ?_
                refine v_ireturn rfl dX4_value_144 ?_
                obtain ⟨rfl, rfl⟩ := Prod.mk.inj (Option.some.inj hF)
                exact ⟨rfl, rfl, hG⟩
            · rw [if_pos c6] at hF
              refine v_iload_n (i := 3) dX4_value_122 rfl rfl ?_
              refine v_iconst (v := 1) dX4_value_123 (by decide) ?_
              refine v_icmp_ne 136 dX4_value_124 (by decide) (fun c22 => ?_) (fun c22 => ?_)
              · rw [if_neg c22] at hF
                refine v_iconst (v := 0) dX4_value_136 (by decide) ?_
                refine v_ireturn rfl dX4_value_137 ?_
                obtain ⟨rfl, rfl⟩ := Prod.mk.inj (Option.some.inj hF)
                exact ⟨rfl, rfl, hG⟩
              · rw [if_pos c22] at hF
                refine v_aload_n (i := 0) dX4_value_127 rfl rfl ?_
                refine g_X4_18 (q := (a + 3)) rfl s0 (by exact ltG hG (by omega)) (by exact rG hG s7) dX4_value_128 ?_
                refine v_iconst (v := 0) dX4_value_131 (by decide) ?_
                refine v_iaload s3 (by exact ltG hG (by omega)) (ixK 0 (by decide)) dX4_value_132 ?_
                refine v_goto 137 dX4_value_133 (by decide) ?_
                refine v_ireturn rfl dX4_value_137 ?_
                obtain ⟨rfl, rfl⟩ := Prod.mk.inj (Option.some.inj hF)
                exact ⟨rfl, rfl, hG⟩
          · rw [if_neg c5] at hF
            refine v_iload_n (i := 3) dX4_value_70 rfl rfl ?_
            refine v_bipush (v := 16) dX4_value_71 (by decide) ?_
            refine v_icmp_ge 85 dX4_value_73 (by decide) (fun c23 => ?_) (fun c23 => ?_)
            · rw [if_pos c23] at hF
              refine v_iconst (v := 0) dX4_value_85 (by decide) ?_
              refine v_ireturn rfl dX4_value_86 ?_
              obtain ⟨rfl, rfl⟩ := Prod.mk.inj (Option.some.inj hF)
              exact ⟨rfl, rfl, hG⟩
            · rw [if_neg c23] at hF
              refine v_iconst (v := (-1)) dX4_value_76 (by decide) ?_
              refine v_iload (i := 6) dX4_value_77 rfl ?_
              refine v_isub dX4_value_79 ?_
              refine v_aload_n (i := 2) dX4_value_80 rfl rfl ?_
              refine v_alen (v := 9) t20 (by exact ltG hG (by omega)) 0 (fun _ => rfl) rfl dX4_value_81 ?_
              refine v_icmp_lt 87 dX4_value_82 (by decide) (fun c24 => ?_) (fun c24 => ?_)
              · rw [if_pos c24] at hF
                refine v_aload_n (i := 0) dX4_value_87 rfl rfl ?_
                refine g_X4_18 (q := (a + 3)) rfl s0 (by exact ltG hG (by omega)) (by exact rG hG s7) dX4_value_88 ?_
                refine v_iload_n (i := 3) dX4_value_91 rfl rfl ?_
                refine v_iload (i := 6) dX4_value_92 rfl ?_
                refine v_if_lt 102 dX4_value_94 (by decide) (fun c25 => ?_) (fun c25 => ?_)
                · rw [if_pos c25] at hF
                  refine v_aload_n (i := 2) dX4_value_102 rfl rfl ?_
                  refine v_iconst (v := (-1)) dX4_value_103 (by decide) ?_
                  refine v_iload (i := 6) dX4_value_104 rfl ?_
                  refine v_isub dX4_value_106 ?_
                  obtain ⟨k26, hF⟩ := ck_some hF
                  refine v_iaload t20 (by exact ltG hG (by omega)) (ixO k26) dX4_value_107 ?_
                  obtain ⟨k27, hF⟩ := ck_some hF
                  refine v_iastore s3 (by exact ltG hG (by omega)) (ixO k27) dX4_value_108 ?_
                  refine v_iinc (i := 3) (v := (l3 + 1)) dX4_value_109 rfl rfl (by decide) (nlT rfl) ?_
                  simp only [List.set_cons_zero, List.set_cons_succ]
                  refine v_goto 232 dX4_value_112 (by decide) ?_
                  refine v_iinc (i := 5) (v := (l5 + 1)) dX4_value_232 rfl rfl (by decide) (nlT rfl) ?_
                  simp only [List.set_cons_zero, List.set_cons_succ]
                  refine v_goto 29 dX4_value_235 (by decide) ?_
                  refine V.weak (la2 := [some (.ref a), some (.int l1), some (.ref b2), some (.int (l3 + 1)), some (.int (l4 + 1)), some (.int (l5 + 1)), none, none, none]) (by simp [wk]) ?_
                  exact (s_X4_value_IH_29) _ _ _ _ _ _ _ hF hG
                · rw [if_neg c25] at hF
                  refine v_iload (i := 6) dX4_value_97 rfl ?_
                  refine v_goto 108 dX4_value_99 (by decide) ?_
                  obtain ⟨k28, hF⟩ := ck_some hF
                  refine v_iastore s3 (by exact ltG hG (by omega)) (ixO k28) dX4_value_108 ?_
                  refine v_iinc (i := 3) (v := (l3 + 1)) dX4_value_109 rfl rfl (by decide) (nlT rfl) ?_
                  simp only [List.set_cons_zero, List.set_cons_succ]
                  refine v_goto 232 dX4_value_112 (by decide) ?_
                  refine v_iinc (i := 5) (v := (l5 + 1)) dX4_value_232 rfl rfl (by decide) (nlT rfl) ?_
                  simp only [List.set_cons_zero, List.set_cons_succ]
                  refine v_goto 29 dX4_value_235 (by decide) ?_
                  refine V.weak (la2 := [some (.ref a), some (.int l1), some (.ref b2), some (.int (l3 + 1)), some (.int (l4 + 1)), some (.int (l5 + 1)), none, none, none]) (by simp [wk]) ?_
                  exact (s_X4_value_IH_29) _ _ _ _ _ _ _ hF hG
              · rw [if_neg c24] at hF
                refine v_iconst (v := 0) dX4_value_85 (by decide) ?_
                refine v_ireturn rfl dX4_value_86 ?_
                obtain ⟨rfl, rfl⟩ := Prod.mk.inj (Option.some.inj hF)
                exact ⟨rfl, rfl, hG⟩
def F_X4_value (n : Nat) (h : Hp) (a : Nat) (x1 : Int32) (b2 : Nat) : Option (Int32 × Hp) := (if (x1 : Int32) < 0 then W_X4_value n 29 h a b2 x1 0 (hi h a 3) 0 else (if (4 : Int32) ≤ (x1 : Int32) then W_X4_value n 29 h a b2 x1 0 (hi h a 3) 0 else (if ixOK x1 4 = true then W_X4_value n 29 h a b2 x1 0 (hi h (a + 2) (Int32.toNatClampNeg x1)) 0 else none)))
set_option maxRecDepth 100000 in
set_option maxHeartbeats 4000000 in
theorem s_X4_value (d : Nat) {n : Nat} {h : Hp} {a : Nat} {x1 : Int32} {b2 : Nat} {q0 : (Int32 × Hp)} (hF : F_X4_value n h a x1 b2 = some q0) (hG : G h) (hs : IsLw a) (ht2 : ArI 9 b2) : Kc mX4_value (d + 1) [.ref a, .int x1, .ref b2] h (fun r1 h1 => r1 = some (.int q0.1) ∧ h1 = q0.2 ∧ G q0.2) := by
  obtain ⟨s0, s1, s2, s3, s4, s5, s6, s7⟩ := id hs
  obtain ⟨t20, t24⟩ := id ht2
  obtain ⟨r, h'⟩ := q0
  have s_X4_value_IH_29 := sw_X4_value d a b2 hs ht2 n
  unfold F_X4_value at hF
  refine Kc.of [some (.ref a), some (.int x1), some (.ref b2), none, none, none, none, none, none] ok_X4_value rfl (Nat.le_of_ble_eq_true rfl) ?_
  refine v_iconst (v := 0) dX4_value_0 (by decide) ?_
  refine v_istore_n (i := 3) dX4_value_1 rfl (by decide) (nlT rfl) ?_
  simp only [List.set_cons_zero, List.set_cons_succ]
  refine v_iload_n (i := 1) dX4_value_2 rfl rfl ?_
  refine v_if_lt 20 dX4_value_3 (by decide) (fun c29 => ?_) (fun c29 => ?_)
  · rw [if_pos c29] at hF
    refine v_aload_n (i := 0) dX4_value_20 rfl rfl ?_
    refine g_X4_21 rfl s0 (by exact ltG hG (by omega)) dX4_value_21 ?_
    refine v_istore (i := 4) dX4_value_24 (by decide) (nlT rfl) ?_
    simp only [List.set_cons_zero, List.set_cons_succ]
    refine v_iconst (v := 0) dX4_value_26 (by decide) ?_
    refine v_istore (i := 5) dX4_value_27 (by decide) (nlT rfl) ?_
    simp only [List.set_cons_zero, List.set_cons_succ]
    refine V.weak (la2 := [some (.ref a), some (.int x1), some (.ref b2), some (.int 0), some (.int (hi h a 3)), some (.int 0), none, none, none]) (by simp [wk]) ?_
    exact (s_X4_value_IH_29) _ _ _ _ _ _ _ hF hG
  · rw [if_neg c29] at hF
    refine v_iload_n (i := 1) dX4_value_6 rfl rfl ?_
    refine v_iconst (v := 4) dX4_value_7 (by decide) ?_
    refine v_icmp_ge 20 dX4_value_8 (by decide) (fun c30 => ?_) (fun c30 => ?_)
    · rw [if_pos c30] at hF
      refine v_aload_n (i := 0) dX4_value_20 rfl rfl ?_
      refine g_X4_21 rfl s0 (by exact ltG hG (by omega)) dX4_value_21 ?_
      refine v_istore (i := 4) dX4_value_24 (by decide) (nlT rfl) ?_
      simp only [List.set_cons_zero, List.set_cons_succ]
      refine v_iconst (v := 0) dX4_value_26 (by decide) ?_
      refine v_istore (i := 5) dX4_value_27 (by decide) (nlT rfl) ?_
      simp only [List.set_cons_zero, List.set_cons_succ]
      refine V.weak (la2 := [some (.ref a), some (.int x1), some (.ref b2), some (.int 0), some (.int (hi h a 3)), some (.int 0), none, none, none]) (by simp [wk]) ?_
      exact (s_X4_value_IH_29) _ _ _ _ _ _ _ hF hG
    · rw [if_neg c30] at hF
      refine v_aload_n (i := 0) dX4_value_11 rfl rfl ?_
      refine g_X4_15 (q := (a + 2)) rfl s0 (by exact ltG hG (by omega)) (by exact rG hG s6) dX4_value_12 ?_
      refine v_iload_n (i := 1) dX4_value_15 rfl rfl ?_
      obtain ⟨k31, hF⟩ := ck_some hF
      refine v_iaload s2 (by exact ltG hG (by omega)) (ixO k31) dX4_value_16 ?_
      refine v_goto 24 dX4_value_17 (by decide) ?_
      refine v_istore (i := 4) dX4_value_24 (by decide) (nlT rfl) ?_
      simp only [List.set_cons_zero, List.set_cons_succ]
      refine v_iconst (v := 0) dX4_value_26 (by decide) ?_
      refine v_istore (i := 5) dX4_value_27 (by decide) (nlT rfl) ?_
      simp only [List.set_cons_zero, List.set_cons_succ]
      refine V.weak (la2 := [some (.ref a), some (.int x1), some (.ref b2), some (.int 0), some (.int (hi h (a + 2) (Int32.toNatClampNeg x1))), some (.int 0), none, none, none]) (by simp [wk]) ?_
      exact (s_X4_value_IH_29) _ _ _ _ _ _ _ hF hG
def F_X5_distance (n : Nat) (h : Hp) (x1 : Int32) (x2 : Int32) : Option (Int32 × Hp) := ((F_X3_leftOf n h 24 x1).bind (fun q1 => ((F_X3_leftOf n q1.2 24 x2).bind (fun q3 => ((F_X3_topOf n q3.2 24 x1).bind (fun q5 => ((F_X3_topOf n q5.2 24 x2).bind (fun q7 => some (((if 0 ≤ (q1.1 - q3.1) then (q1.1 - q3.1) else 0 - (q1.1 - q3.1)) + (if 0 ≤ (q5.1 - q7.1) then (q5.1 - q7.1) else 0 - (q5.1 - q7.1))), q7.2)))))))))
set_option maxRecDepth 100000 in
set_option maxHeartbeats 4000000 in
theorem s_X5_distance (d : Nat) {n : Nat} {h : Hp} {x1 : Int32} {x2 : Int32} {q0 : (Int32 × Hp)} (hF : F_X5_distance n h x1 x2 = some q0) (hG : G h)  : Kc mX5_distance (d + 1) [.ref 211, .int x1, .int x2] h (fun r1 h1 => r1 = some (.int q0.1) ∧ h1 = q0.2 ∧ G q0.2) := by
  obtain ⟨r, h'⟩ := q0
  unfold F_X5_distance at hF
  refine Kc.of [some (.ref 211), some (.int x1), some (.int x2)] ok_X5_distance rfl (Nat.le_of_ble_eq_true rfl) ?_
  refine v_aload_n (i := 0) dX5_distance_0 rfl rfl ?_
  refine g_X5_22 (q := 24) rfl sh_211 (by exact ltG hG (by decide)) (by exact rG hG r0_211_0) dX5_distance_1 ?_
  refine v_iload_n (i := 1) dX5_distance_4 rfl rfl ?_
  obtain ⟨q1, q1_e, hF⟩ := Option.bind_eq_some_iff.mp hF
  refine c_X5_58 rfl sh_24 (by exact ltG hG (by decide)) (Nat.le_of_ble_eq_true rfl) dX5_distance_5 (s_X3_leftOf _ q1_e hG (by first | assumption | exact sc_30 | exact sc_34 | exact sc_10 | exact fd_24 | exact fd_4 | exact lw_25 | exact lw_5 | exact bd_23 | exact bd_3 | exact ⟨by first | assumption | rfl, by first | decide | omega⟩)) (fun r1 h1 hq => ?_)
  obtain ⟨rfl, hq, hG⟩ := hq
  replace hq := hq.symm
  subst hq
  show V _ _ _ _ (_ :: _) _ _
  refine v_aload_n (i := 0) dX5_distance_8 rfl rfl ?_
  refine g_X5_22 (q := 24) rfl sh_211 (by exact ltG hG (by decide)) (by exact rG hG r0_211_0) dX5_distance_9 ?_
  refine v_iload_n (i := 2) dX5_distance_12 rfl rfl ?_
  obtain ⟨q3, q3_e, hF⟩ := Option.bind_eq_some_iff.mp hF
  refine c_X5_58 rfl sh_24 (by exact ltG hG (by decide)) (Nat.le_of_ble_eq_true rfl) dX5_distance_13 (s_X3_leftOf _ q3_e hG (by first | assumption | exact sc_30 | exact sc_34 | exact sc_10 | exact fd_24 | exact fd_4 | exact lw_25 | exact lw_5 | exact bd_23 | exact bd_3 | exact ⟨by first | assumption | rfl, by first | decide | omega⟩)) (fun r1 h1 hq => ?_)
  obtain ⟨rfl, hq, hG⟩ := hq
  replace hq := hq.symm
  subst hq
  show V _ _ _ _ (_ :: _) _ _
  refine v_isub dX5_distance_16 ?_
  refine v_abs ml_X5_63 sm_J9_abs_0f7a4 in_J9 cw_J9_abs_0f7a4 (Nat.le_of_ble_eq_true rfl) dX5_distance_17 ?_
  refine v_aload_n (i := 0) dX5_distance_20 rfl rfl ?_
  refine g_X5_22 (q := 24) rfl sh_211 (by exact ltG hG (by decide)) (by exact rG hG r0_211_0) dX5_distance_21 ?_
  refine v_iload_n (i := 1) dX5_distance_24 rfl rfl ?_
  obtain ⟨q5, q5_e, hF⟩ := Option.bind_eq_some_iff.mp hF
  refine c_X5_68 rfl sh_24 (by exact ltG hG (by decide)) (Nat.le_of_ble_eq_true rfl) dX5_distance_25 (s_X3_topOf _ q5_e hG (by first | assumption | exact sc_30 | exact sc_34 | exact sc_10 | exact fd_24 | exact fd_4 | exact lw_25 | exact lw_5 | exact bd_23 | exact bd_3 | exact ⟨by first | assumption | rfl, by first | decide | omega⟩)) (fun r1 h1 hq => ?_)
  obtain ⟨rfl, hq, hG⟩ := hq
  replace hq := hq.symm
  subst hq
  show V _ _ _ _ (_ :: _) _ _
  refine v_aload_n (i := 0) dX5_distance_28 rfl rfl ?_
  refine g_X5_22 (q := 24) rfl sh_211 (by exact ltG hG (by decide)) (by exact rG hG r0_211_0) dX5_distance_29 ?_
  refine v_iload_n (i := 2) dX5_distance_32 rfl rfl ?_
  obtain ⟨q7, q7_e, hF⟩ := Option.bind_eq_some_iff.mp hF
  refine c_X5_68 rfl sh_24 (by exact ltG hG (by decide)) (Nat.le_of_ble_eq_true rfl) dX5_distance_33 (s_X3_topOf _ q7_e hG (by first | assumption | exact sc_30 | exact sc_34 | exact sc_10 | exact fd_24 | exact fd_4 | exact lw_25 | exact lw_5 | exact bd_23 | exact bd_3 | exact ⟨by first | assumption | rfl, by first | decide | omega⟩)) (fun r1 h1 hq => ?_)
  obtain ⟨rfl, hq, hG⟩ := hq
  replace hq := hq.symm
  subst hq
  show V _ _ _ _ (_ :: _) _ _
  refine v_isub dX5_distance_36 ?_
  refine v_abs ml_X5_63 sm_J9_abs_0f7a4 in_J9 cw_J9_abs_0f7a4 (Nat.le_of_ble_eq_true rfl) dX5_distance_37 ?_
  refine v_iadd dX5_distance_40 ?_
  refine v_ireturn rfl dX5_distance_41 ?_
  obtain ⟨rfl, rfl⟩ := Prod.mk.inj (Option.some.inj hF)
  exact ⟨rfl, rfl, hG⟩
def F_X5_keepIfLess (n : Nat) (h : Hp) (x1 : Int32) : Option Hp := (if ((hi h 211 3) : Int32) = ((-1) : Int32) then some (wrA (wrI h 211 3 x1) 213 (cpF (wrI h 211 3 x1) 212 213 5)) else (if ((hi h 211 3) : Int32) ≤ (x1 : Int32) then some h else some (wrA (wrI h 211 3 x1) 213 (cpF (wrI h 211 3 x1) 212 213 5))))
set_option maxRecDepth 100000 in
set_option maxHeartbeats 4000000 in
theorem s_X5_keepIfLess (d : Nat) {n : Nat} {h : Hp} {x1 : Int32} {q0 : Hp} (hF : F_X5_keepIfLess n h x1 = some q0) (hG : G h)  : Kc mX5_keepIfLess (d + 1) [.ref 211, .int x1] h (fun r1 h1 => r1 = none ∧ h1 = q0 ∧ G q0) := by
  obtain ⟨h', rfl⟩ : ∃ z, z = q0 := ⟨_, rfl⟩
  unfold F_X5_keepIfLess at hF
  refine Kc.of [some (.ref 211), some (.int x1)] ok_X5_keepIfLess rfl (Nat.le_of_ble_eq_true rfl) ?_
  refine v_aload_n (i := 0) dX5_keepIfLess_0 rfl rfl ?_
  refine g_X5_18 rfl sh_211 (by exact ltG hG (by decide)) dX5_keepIfLess_1 ?_
  refine v_iconst (v := (-1)) dX5_keepIfLess_4 (by decide) ?_
  refine v_icmp_eq 16 dX5_keepIfLess_5 (by decide) (fun c1 => ?_) (fun c1 => ?_)
  · rw [if_pos c1] at hF
    refine v_aload_n (i := 0) dX5_keepIfLess_16 rfl rfl ?_
    refine v_iload_n (i := 1) dX5_keepIfLess_17 rfl rfl ?_
    refine p_X5_18 rfl sh_211 (by exact ltG hG (by decide)) dX5_keepIfLess_18 ?_
    refine v_aload_n (i := 0) dX5_keepIfLess_21 rfl rfl ?_
    refine g_X5_9 (q := 212) rfl sh_211 (by exact ltG hG (by decide)) (by exact rG hG r0_211_1) dX5_keepIfLess_22 ?_
    refine v_iconst (v := 0) dX5_keepIfLess_25 (by decide) ?_
    refine v_aload_n (i := 0) dX5_keepIfLess_26 rfl rfl ?_
    refine g_X5_15 (q := 213) rfl sh_211 (by exact ltG hG (by decide)) (by exact rG hG r0_211_2) dX5_keepIfLess_27 ?_
    refine v_iconst (v := 0) dX5_keepIfLess_30 (by decide) ?_
    refine v_iconst (v := 5) dX5_keepIfLess_31 (by decide) ?_
    refine v_copy (N := 5) 0 (fun _ => rfl) (Or.inl rfl) sh_212 sh_213 (by exact ltG hG (by decide)) (by exact ltG hG (by decide)) (by decide) (by decide) (by decide) (by decide) ml_X5_52 ac_nat ac_st in_Sys (Nat.le_of_ble_eq_true rfl) dX5_keepIfLess_32 ?_
    refine v_return rfl dX5_keepIfLess_35 ?_
    obtain rfl := Option.some.inj hF
    exact ⟨rfl, rfl, hG⟩
  · rw [if_neg c1] at hF
    refine v_iload_n (i := 1) dX5_keepIfLess_8 rfl rfl ?_
    refine v_aload_n (i := 0) dX5_keepIfLess_9 rfl rfl ?_
    refine g_X5_18 rfl sh_211 (by exact ltG hG (by decide)) dX5_keepIfLess_10 ?_
    refine v_icmp_ge 35 dX5_keepIfLess_13 (by decide) (fun c2 => ?_) (fun c2 => ?_)
    · rw [if_pos c2] at hF
      refine v_return rfl dX5_keepIfLess_35 ?_
      obtain rfl := Option.some.inj hF
      exact ⟨rfl, rfl, hG⟩
    · rw [if_neg c2] at hF
      refine v_aload_n (i := 0) dX5_keepIfLess_16 rfl rfl ?_
      refine v_iload_n (i := 1) dX5_keepIfLess_17 rfl rfl ?_
      refine p_X5_18 rfl sh_211 (by exact ltG hG (by decide)) dX5_keepIfLess_18 ?_
      refine v_aload_n (i := 0) dX5_keepIfLess_21 rfl rfl ?_
      refine g_X5_9 (q := 212) rfl sh_211 (by exact ltG hG (by decide)) (by exact rG hG r0_211_1) dX5_keepIfLess_22 ?_
      refine v_iconst (v := 0) dX5_keepIfLess_25 (by decide) ?_
      refine v_aload_n (i := 0) dX5_keepIfLess_26 rfl rfl ?_
      refine g_X5_15 (q := 213) rfl sh_211 (by exact ltG hG (by decide)) (by exact rG hG r0_211_2) dX5_keepIfLess_27 ?_
      refine v_iconst (v := 0) dX5_keepIfLess_30 (by decide) ?_
      refine v_iconst (v := 5) dX5_keepIfLess_31 (by decide) ?_
      refine v_copy (N := 5) 0 (fun _ => rfl) (Or.inl rfl) sh_212 sh_213 (by exact ltG hG (by decide)) (by exact ltG hG (by decide)) (by decide) (by decide) (by decide) (by decide) ml_X5_52 ac_nat ac_st in_Sys (Nat.le_of_ble_eq_true rfl) dX5_keepIfLess_32 ?_
      refine v_return rfl dX5_keepIfLess_35 ?_
      obtain rfl := Option.some.inj hF
      exact ⟨rfl, rfl, hG⟩
def F_X6_clear (n : Nat) (h : Hp) : Option Hp := some (wrI h 38 2 0)
set_option maxRecDepth 100000 in
set_option maxHeartbeats 4000000 in
theorem s_X6_clear (d : Nat) {n : Nat} {h : Hp}  {q0 : Hp} (hF : F_X6_clear n h  = some q0) (hG : G h)  : Kc mX6_clear (d) [.ref 38] h (fun r1 h1 => r1 = none ∧ h1 = q0 ∧ G q0) := by
  obtain ⟨h', rfl⟩ : ∃ z, z = q0 := ⟨_, rfl⟩
  unfold F_X6_clear at hF
  refine Kc.of [some (.ref 38)] ok_X6_clear rfl (Nat.le_of_ble_eq_true rfl) ?_
  refine v_aload_n (i := 0) dX6_clear_0 rfl rfl ?_
  refine v_iconst (v := 0) dX6_clear_1 (by decide) ?_
  refine p_X6_21 rfl sh_38 (by exact ltG hG (by decide)) dX6_clear_2 ?_
  refine v_return rfl dX6_clear_5 ?_
  obtain rfl := Option.some.inj hF
  exact ⟨rfl, rfl, hG⟩
def F_X7_blame (n : Nat) (h : Hp) (x1 : Int32) (x2 : Int32) : Option Hp := (if ((hi h 2 6) : Int32) = 0 then some (wrI (wrI h 2 6 x1) 2 7 x2) else some h)
set_option maxRecDepth 100000 in
set_option maxHeartbeats 4000000 in
theorem s_X7_blame (d : Nat) {n : Nat} {h : Hp} {x1 : Int32} {x2 : Int32} {q0 : Hp} (hF : F_X7_blame n h x1 x2 = some q0) (hG : G h)  : Kc mX7_blame (d) [.ref 2, .int x1, .int x2] h (fun r1 h1 => r1 = none ∧ h1 = q0 ∧ G q0) := by
  obtain ⟨h', rfl⟩ : ∃ z, z = q0 := ⟨_, rfl⟩
  unfold F_X7_blame at hF
  refine Kc.of [some (.ref 2), some (.int x1), some (.int x2)] ok_X7_blame rfl (Nat.le_of_ble_eq_true rfl) ?_
  refine v_aload_n (i := 0) dX7_blame_0 rfl rfl ?_
  refine g_X7_35 rfl sh_2 (by exact ltG hG (by decide)) dX7_blame_1 ?_
  refine v_if_ne 17 dX7_blame_4 (by decide) (fun c1 => ?_) (fun c1 => ?_)
  · rw [if_neg c1] at hF
    refine v_return rfl dX7_blame_17 ?_
    obtain rfl := Option.some.inj hF
    exact ⟨rfl, rfl, hG⟩
  · rw [if_pos c1] at hF
    refine v_aload_n (i := 0) dX7_blame_7 rfl rfl ?_
    refine v_iload_n (i := 1) dX7_blame_8 rfl rfl ?_
    refine p_X7_35 rfl sh_2 (by exact ltG hG (by decide)) dX7_blame_9 ?_
    refine v_aload_n (i := 0) dX7_blame_12 rfl rfl ?_
    refine v_iload_n (i := 2) dX7_blame_13 rfl rfl ?_
    refine p_X7_38 rfl sh_2 (by exact ltG hG (by decide)) dX7_blame_14 ?_
    refine v_return rfl dX7_blame_17 ?_
    obtain rfl := Option.some.inj hF
    exact ⟨rfl, rfl, hG⟩
def F_X7_cellOf (n : Nat) (h : Hp) (x1 : Int32) : Option (Int32 × Hp) := some ((((hi h 4 0) * (x1 / 5)) + (x1 - x1 / 5 * 5)), h)
set_option maxRecDepth 100000 in
set_option maxHeartbeats 4000000 in
theorem s_X7_cellOf (d : Nat) {n : Nat} {h : Hp} {x1 : Int32} {q0 : (Int32 × Hp)} (hF : F_X7_cellOf n h x1 = some q0) (hG : G h)  : Kc mX7_cellOf (d) [.ref 2, .int x1] h (fun r1 h1 => r1 = some (.int q0.1) ∧ h1 = q0.2 ∧ G q0.2) := by
  obtain ⟨r, h'⟩ := q0
  unfold F_X7_cellOf at hF
  refine Kc.of [some (.ref 2), some (.int x1)] ok_X7_cellOf rfl (Nat.le_of_ble_eq_true rfl) ?_
  refine v_aload_n (i := 0) dX7_cellOf_0 rfl rfl ?_
  refine g_X7_12 (q := 3) rfl sh_2 (by exact ltG hG (by decide)) (by exact rG hG r0_2_0) dX7_cellOf_1 ?_
  refine g_X7_153 (q := 4) rfl sh_3 (by exact ltG hG (by decide)) (by exact rG hG r0_3_0) dX7_cellOf_4 ?_
  refine g_X7_208 rfl sh_4 (by exact ltG hG (by decide)) dX7_cellOf_7 ?_
  refine v_iload_n (i := 1) dX7_cellOf_10 rfl rfl ?_
  refine v_iconst (v := 5) dX7_cellOf_11 (by decide) ?_
  refine v_idiv dX7_cellOf_12 (by decide) ?_
  refine v_imul dX7_cellOf_13 ?_
  refine v_iload_n (i := 1) dX7_cellOf_14 rfl rfl ?_
  refine v_iconst (v := 5) dX7_cellOf_15 (by decide) ?_
  refine v_irem dX7_cellOf_16 (by decide) ?_
  refine v_iadd dX7_cellOf_17 ?_
  refine v_ireturn rfl dX7_cellOf_18 ?_
  obtain ⟨rfl, rfl⟩ := Prod.mk.inj (Option.some.inj hF)
  exact ⟨rfl, rfl, hG⟩
def F_X7_onLawn (n : Nat) (h : Hp) (x1 : Int32) : Option (Int32 × Hp) := (if ((hi h 4 0) : Int32) ≤ ((x1 - x1 / 5 * 5) : Int32) then some (0, h) else (if ((hi h 4 1) : Int32) ≤ ((x1 / 5) : Int32) then some (0, h) else some (1, h)))
set_option maxRecDepth 100000 in
set_option maxHeartbeats 4000000 in
theorem s_X7_onLawn (d : Nat) {n : Nat} {h : Hp} {x1 : Int32} {q0 : (Int32 × Hp)} (hF : F_X7_onLawn n h x1 = some q0) (hG : G h)  : Kc mX7_onLawn (d) [.ref 2, .int x1] h (fun r1 h1 => r1 = some (.int q0.1) ∧ h1 = q0.2 ∧ G q0.2) := by
  obtain ⟨r, h'⟩ := q0
  unfold F_X7_onLawn at hF
  refine Kc.of [some (.ref 2), some (.int x1)] ok_X7_onLawn rfl (Nat.le_of_ble_eq_true rfl) ?_
  refine v_iload_n (i := 1) dX7_onLawn_0 rfl rfl ?_
  refine v_iconst (v := 5) dX7_onLawn_1 (by decide) ?_
  refine v_irem dX7_onLawn_2 (by decide) ?_
  refine v_aload_n (i := 0) dX7_onLawn_3 rfl rfl ?_
  refine g_X7_12 (q := 3) rfl sh_2 (by exact ltG hG (by decide)) (by exact rG hG r0_2_0) dX7_onLawn_4 ?_
  refine g_X7_153 (q := 4) rfl sh_3 (by exact ltG hG (by decide)) (by exact rG hG r0_3_0) dX7_onLawn_7 ?_
  refine g_X7_208 rfl sh_4 (by exact ltG hG (by decide)) dX7_onLawn_10 ?_
  refine v_icmp_ge 36 dX7_onLawn_13 (by decide) (fun c1 => ?_) (fun c1 => ?_)
  · rw [if_pos c1] at hF
    refine v_iconst (v := 0) dX7_onLawn_36 (by decide) ?_
    refine v_zreturn rfl (by decide) dX7_onLawn_37 ?_
    obtain ⟨rfl, rfl⟩ := Prod.mk.inj (Option.some.inj hF)
    exact ⟨rfl, rfl, hG⟩
  · rw [if_neg c1] at hF
    refine v_iload_n (i := 1) dX7_onLawn_16 rfl rfl ?_
    refine v_iconst (v := 5) dX7_onLawn_17 (by decide) ?_
    refine v_idiv dX7_onLawn_18 (by decide) ?_
    refine v_aload_n (i := 0) dX7_onLawn_19 rfl rfl ?_
    refine g_X7_12 (q := 3) rfl sh_2 (by exact ltG hG (by decide)) (by exact rG hG r0_2_0) dX7_onLawn_20 ?_
    refine g_X7_153 (q := 4) rfl sh_3 (by exact ltG hG (by decide)) (by exact rG hG r0_3_0) dX7_onLawn_23 ?_
    refine g_X7_211 rfl sh_4 (by exact ltG hG (by decide)) dX7_onLawn_26 ?_
    refine v_icmp_ge 36 dX7_onLawn_29 (by decide) (fun c2 => ?_) (fun c2 => ?_)
    · rw [if_pos c2] at hF
      refine v_iconst (v := 0) dX7_onLawn_36 (by decide) ?_
      refine v_zreturn rfl (by decide) dX7_onLawn_37 ?_
      obtain ⟨rfl, rfl⟩ := Prod.mk.inj (Option.some.inj hF)
      exact ⟨rfl, rfl, hG⟩
    · rw [if_neg c2] at hF
      refine v_iconst (v := 1) dX7_onLawn_32 (by decide) ?_
      refine v_goto 37 dX7_onLawn_33 (by decide) ?_
      refine v_zreturn rfl (by decide) dX7_onLawn_37 ?_
      obtain ⟨rfl, rfl⟩ := Prod.mk.inj (Option.some.inj hF)
      exact ⟨rfl, rfl, hG⟩
def F_X7_stop (n : Nat) (h : Hp) (x1 : Int32) : Option Hp := (if ((hi h 2 5) : Int32) = 0 then some (wrI h 2 5 x1) else some h)
set_option maxRecDepth 100000 in
set_option maxHeartbeats 4000000 in
theorem s_X7_stop (d : Nat) {n : Nat} {h : Hp} {x1 : Int32} {q0 : Hp} (hF : F_X7_stop n h x1 = some q0) (hG : G h)  : Kc mX7_stop (d) [.ref 2, .int x1] h (fun r1 h1 => r1 = none ∧ h1 = q0 ∧ G q0) := by
  obtain ⟨h', rfl⟩ : ∃ z, z = q0 := ⟨_, rfl⟩
  unfold F_X7_stop at hF
  refine Kc.of [some (.ref 2), some (.int x1)] ok_X7_stop rfl (Nat.le_of_ble_eq_true rfl) ?_
  refine v_aload_n (i := 0) dX7_stop_0 rfl rfl ?_
  refine g_X7_32 rfl sh_2 (by exact ltG hG (by decide)) dX7_stop_1 ?_
  refine v_if_ne 12 dX7_stop_4 (by decide) (fun c1 => ?_) (fun c1 => ?_)
  · rw [if_neg c1] at hF
    refine v_return rfl dX7_stop_12 ?_
    obtain rfl := Option.some.inj hF
    exact ⟨rfl, rfl, hG⟩
  · rw [if_pos c1] at hF
    refine v_aload_n (i := 0) dX7_stop_7 rfl rfl ?_
    refine v_iload_n (i := 1) dX7_stop_8 rfl rfl ?_
    refine p_X7_32 rfl sh_2 (by exact ltG hG (by decide)) dX7_stop_9 ?_
    refine v_return rfl dX7_stop_12 ?_
    obtain rfl := Option.some.inj hF
    exact ⟨rfl, rfl, hG⟩
def F_X8_become (n : Nat) (h : Hp) (a : Nat) (b1 : Nat) : Option Hp := some (wrA (wrA (wrA (wrI (wrI (wrI (wrI h a 0 (hi h b1 0)) a 1 (hi (wrI h a 0 (hi h b1 0)) b1 1)) a 2 (hi (wrI (wrI h a 0 (hi h b1 0)) a 1 (hi (wrI h a 0 (hi h b1 0)) b1 1)) b1 2)) a 3 (hi (wrI (wrI (wrI h a 0 (hi h b1 0)) a 1 (hi (wrI h a 0 (hi h b1 0)) b1 1)) a 2 (hi (wrI (wrI h a 0 (hi h b1 0)) a 1 (hi (wrI h a 0 (hi h b1 0)) b1 1)) b1 2)) b1 3)) (a + 1) (cpF (wrI (wrI (wrI (wrI h a 0 (hi h b1 0)) a 1 (hi (wrI h a 0 (hi h b1 0)) b1 1)) a 2 (hi (wrI (wrI h a 0 (hi h b1 0)) a 1 (hi (wrI h a 0 (hi h b1 0)) b1 1)) b1 2)) a 3 (hi (wrI (wrI (wrI h a 0 (hi h b1 0)) a 1 (hi (wrI h a 0 (hi h b1 0)) b1 1)) a 2 (hi (wrI (wrI h a 0 (hi h b1 0)) a 1 (hi (wrI h a 0 (hi h b1 0)) b1 1)) b1 2)) b1 3)) (b1 + 1) (a + 1) 25)) (a + 2) (cpF (wrA (wrI (wrI (wrI (wrI h a 0 (hi h b1 0)) a 1 (hi (wrI h a 0 (hi h b1 0)) b1 1)) a 2 (hi (wrI (wrI h a 0 (hi h b1 0)) a 1 (hi (wrI h a 0 (hi h b1 0)) b1 1)) b1 2)) a 3 (hi (wrI (wrI (wrI h a 0 (hi h b1 0)) a 1 (hi (wrI h a 0 (hi h b1 0)) b1 1)) a 2 (hi (wrI (wrI h a 0 (hi h b1 0)) a 1 (hi (wrI h a 0 (hi h b1 0)) b1 1)) b1 2)) b1 3)) (a + 1) (cpF (wrI (wrI (wrI (wrI h a 0 (hi h b1 0)) a 1 (hi (wrI h a 0 (hi h b1 0)) b1 1)) a 2 (hi (wrI (wrI h a 0 (hi h b1 0)) a 1 (hi (wrI h a 0 (hi h b1 0)) b1 1)) b1 2)) a 3 (hi (wrI (wrI (wrI h a 0 (hi h b1 0)) a 1 (hi (wrI h a 0 (hi h b1 0)) b1 1)) a 2 (hi (wrI (wrI h a 0 (hi h b1 0)) a 1 (hi (wrI h a 0 (hi h b1 0)) b1 1)) b1 2)) b1 3)) (b1 + 1) (a + 1) 25)) (b1 + 2) (a + 2) 5)) (a + 3) (cpF (wrA (wrA (wrI (wrI (wrI (wrI h a 0 (hi h b1 0)) a 1 (hi (wrI h a 0 (hi h b1 0)) b1 1)) a 2 (hi (wrI (wrI h a 0 (hi h b1 0)) a 1 (hi (wrI h a 0 (hi h b1 0)) b1 1)) b1 2)) a 3 (hi (wrI (wrI (wrI h a 0 (hi h b1 0)) a 1 (hi (wrI h a 0 (hi h b1 0)) b1 1)) a 2 (hi (wrI (wrI h a 0 (hi h b1 0)) a 1 (hi (wrI h a 0 (hi h b1 0)) b1 1)) b1 2)) b1 3)) (a + 1) (cpF (wrI (wrI (wrI (wrI h a 0 (hi h b1 0)) a 1 (hi (wrI h a 0 (hi h b1 0)) b1 1)) a 2 (hi (wrI (wrI h a 0 (hi h b1 0)) a 1 (hi (wrI h a 0 (hi h b1 0)) b1 1)) b1 2)) a 3 (hi (wrI (wrI (wrI h a 0 (hi h b1 0)) a 1 (hi (wrI h a 0 (hi h b1 0)) b1 1)) a 2 (hi (wrI (wrI h a 0 (hi h b1 0)) a 1 (hi (wrI h a 0 (hi h b1 0)) b1 1)) b1 2)) b1 3)) (b1 + 1) (a + 1) 25)) (a + 2) (cpF (wrA (wrI (wrI (wrI (wrI h a 0 (hi h b1 0)) a 1 (hi (wrI h a 0 (hi h b1 0)) b1 1)) a 2 (hi (wrI (wrI h a 0 (hi h b1 0)) a 1 (hi (wrI h a 0 (hi h b1 0)) b1 1)) b1 2)) a 3 (hi (wrI (wrI (wrI h a 0 (hi h b1 0)) a 1 (hi (wrI h a 0 (hi h b1 0)) b1 1)) a 2 (hi (wrI (wrI h a 0 (hi h b1 0)) a 1 (hi (wrI h a 0 (hi h b1 0)) b1 1)) b1 2)) b1 3)) (a + 1) (cpF (wrI (wrI (wrI (wrI h a 0 (hi h b1 0)) a 1 (hi (wrI h a 0 (hi h b1 0)) b1 1)) a 2 (hi (wrI (wrI h a 0 (hi h b1 0)) a 1 (hi (wrI h a 0 (hi h b1 0)) b1 1)) b1 2)) a 3 (hi (wrI (wrI (wrI h a 0 (hi h b1 0)) a 1 (hi (wrI h a 0 (hi h b1 0)) b1 1)) a 2 (hi (wrI (wrI h a 0 (hi h b1 0)) a 1 (hi (wrI h a 0 (hi h b1 0)) b1 1)) b1 2)) b1 3)) (b1 + 1) (a + 1) 25)) (b1 + 2) (a + 2) 5)) (b1 + 3) (a + 3) 5))
set_option maxRecDepth 100000 in
set_option maxHeartbeats 4000000 in
theorem s_X8_become (d : Nat) {n : Nat} {h : Hp} {a : Nat} {b1 : Nat} {q0 : Hp} (hF : F_X8_become n h a b1 = some q0) (hG : G h) (hs : Sc a) (ht1 : Sc b1) : Kc mX8_become (d + 1) [.ref a, .ref b1] h (fun r1 h1 => r1 = none ∧ h1 = q0 ∧ G q0) := by
  obtain ⟨s0, s1, s2, s3, s4, s5, s6, s7⟩ := id hs
  obtain ⟨t10, t11, t12, t13, t14, t15, t16, t17⟩ := id ht1
  obtain ⟨h', rfl⟩ : ∃ z, z = q0 := ⟨_, rfl⟩
  unfold F_X8_become at hF
  refine Kc.of [some (.ref a), some (.ref b1)] ok_X8_become rfl (Nat.le_of_ble_eq_true rfl) ?_
  refine v_aload_n (i := 0) dX8_become_0 rfl rfl ?_
  refine v_aload_n (i := 1) dX8_become_1 rfl rfl ?_
  refine g_X8_9 rfl t10 (by exact ltG hG (by omega)) dX8_become_2 ?_
  refine p_X8_9 rfl s0 (by exact ltG hG (by omega)) dX8_become_5 ?_
  refine v_aload_n (i := 0) dX8_become_8 rfl rfl ?_
  refine v_aload_n (i := 1) dX8_become_9 rfl rfl ?_
  refine g_X8_15 rfl t10 (by exact ltG hG (by omega)) dX8_become_10 ?_
  refine p_X8_15 rfl s0 (by exact ltG hG (by omega)) dX8_become_13 ?_
  refine v_aload_n (i := 0) dX8_become_16 rfl rfl ?_
  refine v_aload_n (i := 1) dX8_become_17 rfl rfl ?_
  refine g_X8_18 rfl t10 (by exact ltG hG (by omega)) dX8_become_18 ?_
  refine p_X8_18 rfl s0 (by exact ltG hG (by omega)) dX8_become_21 ?_
  refine v_aload_n (i := 0) dX8_become_24 rfl rfl ?_
  refine v_aload_n (i := 1) dX8_become_25 rfl rfl ?_
  refine g_X8_21 rfl t10 (by exact ltG hG (by omega)) dX8_become_26 ?_
  refine p_X8_21 rfl s0 (by exact ltG hG (by omega)) dX8_become_29 ?_
  refine v_aload_n (i := 1) dX8_become_32 rfl rfl ?_
  refine g_X8_24 (q := (b1 + 1)) rfl t10 (by exact ltG hG (by omega)) (by exact rG hG t15) dX8_become_33 ?_
  refine v_iconst (v := 0) dX8_become_36 (by decide) ?_
  refine v_aload_n (i := 0) dX8_become_37 rfl rfl ?_
  refine g_X8_24 (q := (a + 1)) rfl s0 (by exact ltG hG (by omega)) (by exact rG hG s5) dX8_become_38 ?_
  refine v_iconst (v := 0) dX8_become_41 (by decide) ?_
  refine v_bipush (v := 25) dX8_become_42 (by decide) ?_
  refine v_copy (N := 25) 1 (fun _ => rfl) (Or.inr rfl) t11 s1 (by exact ltG hG (by omega)) (by exact ltG hG (by omega)) (by decide) (by decide) (by decide) (by decide) ml_X8_41 ac_nat ac_st in_Sys (Nat.le_of_ble_eq_true rfl) dX8_become_44 ?_
  refine v_aload_n (i := 1) dX8_become_47 rfl rfl ?_
  refine g_X8_28 (q := (b1 + 2)) rfl t10 (by exact ltG hG (by omega)) (by exact rG hG t16) dX8_become_48 ?_
  refine v_iconst (v := 0) dX8_become_51 (by decide) ?_
  refine v_aload_n (i := 0) dX8_become_52 rfl rfl ?_
  refine g_X8_28 (q := (a + 2)) rfl s0 (by exact ltG hG (by omega)) (by exact rG hG s6) dX8_become_53 ?_
  refine v_iconst (v := 0) dX8_become_56 (by decide) ?_
  refine v_iconst (v := 5) dX8_become_57 (by decide) ?_
  refine v_copy (N := 5) 0 (fun _ => rfl) (Or.inl rfl) t12 s2 (by exact ltG hG (by omega)) (by exact ltG hG (by omega)) (by decide) (by decide) (by decide) (by decide) ml_X8_41 ac_nat ac_st in_Sys (Nat.le_of_ble_eq_true rfl) dX8_become_58 ?_
  refine v_aload_n (i := 1) dX8_become_61 rfl rfl ?_
  refine g_X8_32 (q := (b1 + 3)) rfl t10 (by exact ltG hG (by omega)) (by exact rG hG t17) dX8_become_62 ?_
  refine v_iconst (v := 0) dX8_become_65 (by decide) ?_
  refine v_aload_n (i := 0) dX8_become_66 rfl rfl ?_
  refine g_X8_32 (q := (a + 3)) rfl s0 (by exact ltG hG (by omega)) (by exact rG hG s7) dX8_become_67 ?_
  refine v_iconst (v := 0) dX8_become_70 (by decide) ?_
  refine v_iconst (v := 5) dX8_become_71 (by decide) ?_
  refine v_copy (N := 5) 0 (fun _ => rfl) (Or.inl rfl) t13 s3 (by exact ltG hG (by omega)) (by exact ltG hG (by omega)) (by decide) (by decide) (by decide) (by decide) ml_X8_41 ac_nat ac_st in_Sys (Nat.le_of_ble_eq_true rfl) dX8_become_72 ?_
  refine v_return rfl dX8_become_75 ?_
  obtain rfl := Option.some.inj hF
  exact ⟨rfl, rfl, hG⟩
def F_X8_clear (n : Nat) (h : Hp) (a : Nat) : Option Hp := ((F_J7_fill_5 n (wrI (wrI (wrI (wrI h a 0 0) a 1 0) a 2 0) a 3 0) (a + 3) 0).bind (fun q1 => some q1))
set_option maxRecDepth 100000 in
set_option maxHeartbeats 4000000 in
theorem s_X8_clear (d : Nat) {n : Nat} {h : Hp} {a : Nat} {q0 : Hp} (hF : F_X8_clear n h a = some q0) (hG : G h) (hs : Sc a) : Kc mX8_clear (d + 1) [.ref a] h (fun r1 h1 => r1 = none ∧ h1 = q0 ∧ G q0) := by
  obtain ⟨s0, s1, s2, s3, s4, s5, s6, s7⟩ := id hs
  obtain ⟨h', rfl⟩ : ∃ z, z = q0 := ⟨_, rfl⟩
  unfold F_X8_clear at hF
  refine Kc.of [some (.ref a)] ok_X8_clear rfl (Nat.le_of_ble_eq_true rfl) ?_
  refine v_aload_n (i := 0) dX8_clear_0 rfl rfl ?_
  refine v_iconst (v := 0) dX8_clear_1 (by decide) ?_
  refine p_X8_9 rfl s0 (by exact ltG hG (by omega)) dX8_clear_2 ?_
  refine v_aload_n (i := 0) dX8_clear_5 rfl rfl ?_
  refine v_iconst (v := 0) dX8_clear_6 (by decide) ?_
  refine p_X8_15 rfl s0 (by exact ltG hG (by omega)) dX8_clear_7 ?_
  refine v_aload_n (i := 0) dX8_clear_10 rfl rfl ?_
  refine v_iconst (v := 0) dX8_clear_11 (by decide) ?_
  refine p_X8_18 rfl s0 (by exact ltG hG (by omega)) dX8_clear_12 ?_
  refine v_aload_n (i := 0) dX8_clear_15 rfl rfl ?_
  refine v_iconst (v := 0) dX8_clear_16 (by decide) ?_
  refine p_X8_21 rfl s0 (by exact ltG hG (by omega)) dX8_clear_17 ?_
  refine v_aload_n (i := 0) dX8_clear_20 rfl rfl ?_
  refine g_X8_32 (q := (a + 3)) rfl s0 (by exact ltG hG (by omega)) (by exact rG hG s7) dX8_clear_21 ?_
  refine v_iconst (v := 0) dX8_clear_24 (by decide) ?_
  obtain ⟨q1, q1_e, hF⟩ := Option.bind_eq_some_iff.mp hF
  refine c_X8_35 rfl (Nat.le_of_ble_eq_true rfl) dX8_clear_25 (s_J7_fill_5 _ q1_e hG (by first | assumption | exact sc_30 | exact sc_34 | exact sc_10 | exact fd_24 | exact fd_4 | exact lw_25 | exact lw_5 | exact bd_23 | exact bd_3 | exact ⟨by first | assumption | rfl, by first | decide | omega⟩)) (fun r1 h1 hq => ?_)
  obtain ⟨rfl, hq, hG⟩ := hq
  replace hq := hq.symm
  subst hq
  simp only [Option.toList, List.nil_append]
  refine v_return rfl dX8_clear_28 ?_
  obtain rfl := Option.some.inj hF
  exact ⟨rfl, rfl, hG⟩
def W_X8_goersIn : Nat → Nat → Hp → Nat → Int32 → Int32 → Int32 → Int32 → Option (Int32 × Hp)
  | 0 => fun _ _ _ _ _ _ _ => none
  | n + 1 => fun hd h a l1 l2 l3 l4 => (if hd = 5 then (if (l2 : Int32) ≤ (l4 : Int32) then some (l3, h) else (if (5 : Int32) ≤ (l4 : Int32) then some (l3, h) else (if ixOK l4 5 = true then (if ((hi h (a + 2) (Int32.toNatClampNeg l4)) : Int32) = (l1 : Int32) then W_X8_goersIn n 5 h a l1 l2 ((l3 : Int32) ||| (((1 : Int32) <<< ((l4 : Int32) &&& 31)) : Int32)) (l4 + 1) else W_X8_goersIn n 5 h a l1 l2 l3 (l4 + 1)) else none))) else none)
set_option maxRecDepth 100000 in
set_option maxHeartbeats 4000000 in
theorem sw_X8_goersIn (d : Nat) (a : Nat) (hs : Sc a) (n : Nat) : (∀ (l1 : Int32) (l2 : Int32) (l3 : Int32) (l4 : Int32) (h : Hp), ∀ (r : Int32) (h' : Hp), W_X8_goersIn n 5 h a l1 l2 l3 l4 = some (r, h') → G h → V mX8_goersIn (d) 5 [some (.ref a), some (.int l1), some (.int l2), some (.int l3), some (.int l4)] [] h (fun r1 h1 => r1 = some (.int r) ∧ h1 = h' ∧ G h')) := by
  obtain ⟨s0, s1, s2, s3, s4, s5, s6, s7⟩ := id hs
  induction n with
  | zero => exact by intros; contradiction
  | succ n ih =>
    have s_X8_goersIn_IH_5 := ih
    intro l1 l2 l3 l4 h r h' hF hG
    unfold W_X8_goersIn at hF
    rw [if_pos rfl] at hF
    refine v_iload (i := 4) dX8_goersIn_5 rfl ?_
    refine v_iload_n (i := 2) dX8_goersIn_7 rfl rfl ?_
    refine v_icmp_ge 41 dX8_goersIn_8 (by decide) (fun c1 => ?_) (fun c1 => ?_)
    · rw [if_pos c1] at hF
      refine v_iload_n (i := 3) dX8_goersIn_41 rfl rfl ?_
      refine v_ireturn rfl dX8_goersIn_42 ?_
      obtain ⟨rfl, rfl⟩ := Prod.mk.inj (Option.some.inj hF)
      exact ⟨rfl, rfl, hG⟩
    · rw [if_neg c1] at hF
      refine v_iload (i := 4) dX8_goersIn_11 rfl ?_
      refine v_iconst (v := 5) dX8_goersIn_13 (by decide) ?_
      refine v_icmp_ge 41 dX8_goersIn_14 (by decide) (fun c2 => ?_) (fun c2 => ?_)
      · rw [if_pos c2] at hF
        refine v_iload_n (i := 3) dX8_goersIn_41 rfl rfl ?_
        refine v_ireturn rfl dX8_goersIn_42 ?_
        obtain ⟨rfl, rfl⟩ := Prod.mk.inj (Option.some.inj hF)
        exact ⟨rfl, rfl, hG⟩
      · rw [if_neg c2] at hF
        refine v_aload_n (i := 0) dX8_goersIn_17 rfl rfl ?_
        refine g_X8_28 (q := (a + 2)) rfl s0 (by exact ltG hG (by omega)) (by exact rG hG s6) dX8_goersIn_18 ?_
        refine v_iload (i := 4) dX8_goersIn_21 rfl ?_
        obtain ⟨k3, hF⟩ := ck_some hF
        refine v_iaload s2 (by exact ltG hG (by omega)) (ixO k3) dX8_goersIn_23 ?_
        refine v_iload_n (i := 1) dX8_goersIn_24 rfl rfl ?_
        refine v_icmp_ne 35 dX8_goersIn_25 (by decide) (fun c4 => ?_) (fun c4 => ?_)
        · rw [if_neg c4] at hF
          refine v_iinc (i := 4) (v := (l4 + 1)) dX8_goersIn_35 rfl rfl (by decide) (nlT rfl) ?_
          simp only [List.set_cons_zero, List.set_cons_succ]
          refine v_goto 5 dX8_goersIn_38 (by decide) ?_
          refine V.weak (la2 := [some (.ref a), some (.int l1), some (.int l2), some (.int l3), some (.int (l4 + 1))]) (by simp [wk]) ?_
          exact (s_X8_goersIn_IH_5) _ _ _ _ _ _ _ hF hG
        · rw [if_pos c4] at hF
          refine v_iload_n (i := 3) dX8_goersIn_28 rfl rfl ?_
          refine v_iconst (v := 1) dX8_goersIn_29 (by decide) ?_
          refine v_iload (i := 4) dX8_goersIn_30 rfl ?_
          refine v_ishl dX8_goersIn_32 ?_
          refine v_ior dX8_goersIn_33 ?_
          refine v_istore_n (i := 3) dX8_goersIn_34 rfl (by decide) (nlT rfl) ?_
          simp only [List.set_cons_zero, List.set_cons_succ]
          refine v_iinc (i := 4) (v := (l4 + 1)) dX8_goersIn_35 rfl rfl (by decide) (nlT rfl) ?_
          simp only [List.set_cons_zero, List.set_cons_succ]
          refine v_goto 5 dX8_goersIn_38 (by decide) ?_
          refine V.weak (la2 := [some (.ref a), some (.int l1), some (.int l2), some (.int ((l3 : Int32) ||| (((1 : Int32) <<< ((l4 : Int32) &&& 31)) : Int32))), some (.int (l4 + 1))]) (by simp [wk]) ?_
          exact (s_X8_goersIn_IH_5) _ _ _ _ _ _ _ hF hG
def F_X8_goersIn (n : Nat) (h : Hp) (a : Nat) (x1 : Int32) (x2 : Int32) : Option (Int32 × Hp) := W_X8_goersIn n 5 h a x1 x2 0 0
set_option maxRecDepth 100000 in
set_option maxHeartbeats 4000000 in
theorem s_X8_goersIn (d : Nat) {n : Nat} {h : Hp} {a : Nat} {x1 : Int32} {x2 : Int32} {q0 : (Int32 × Hp)} (hF : F_X8_goersIn n h a x1 x2 = some q0) (hG : G h) (hs : Sc a) : Kc mX8_goersIn (d) [.ref a, .int x1, .int x2] h (fun r1 h1 => r1 = some (.int q0.1) ∧ h1 = q0.2 ∧ G q0.2) := by
  obtain ⟨s0, s1, s2, s3, s4, s5, s6, s7⟩ := id hs
  obtain ⟨r, h'⟩ := q0
  have s_X8_goersIn_IH_5 := sw_X8_goersIn d a hs n
  unfold F_X8_goersIn at hF
  refine Kc.of [some (.ref a), some (.int x1), some (.int x2), none, none] ok_X8_goersIn rfl (Nat.le_of_ble_eq_true rfl) ?_
  refine v_iconst (v := 0) dX8_goersIn_0 (by decide) ?_
  refine v_istore_n (i := 3) dX8_goersIn_1 rfl (by decide) (nlT rfl) ?_
  simp only [List.set_cons_zero, List.set_cons_succ]
  refine v_iconst (v := 0) dX8_goersIn_2 (by decide) ?_
  refine v_istore (i := 4) dX8_goersIn_3 (by decide) (nlT rfl) ?_
  simp only [List.set_cons_zero, List.set_cons_succ]
  refine V.weak (la2 := [some (.ref a), some (.int x1), some (.int x2), some (.int 0), some (.int 0)]) (by simp [wk]) ?_
  exact (s_X8_goersIn_IH_5) _ _ _ _ _ _ _ hF hG
def F_X8_hush (n : Nat) (h : Hp) (a : Nat) (x1 : Int32) : Option Hp := some (wrI h a 3 (((hi h a 3) : Int32) &&& (((((1 : Int32) <<< ((x1 : Int32) &&& 31)) : Int32) ^^^ ((-1) : Int32)) : Int32)))
set_option maxRecDepth 100000 in
set_option maxHeartbeats 4000000 in
theorem s_X8_hush (d : Nat) {n : Nat} {h : Hp} {a : Nat} {x1 : Int32} {q0 : Hp} (hF : F_X8_hush n h a x1 = some q0) (hG : G h) (hs : Sc a) : Kc mX8_hush (d) [.ref a, .int x1] h (fun r1 h1 => r1 = none ∧ h1 = q0 ∧ G q0) := by
  obtain ⟨s0, s1, s2, s3, s4, s5, s6, s7⟩ := id hs
  obtain ⟨h', rfl⟩ : ∃ z, z = q0 := ⟨_, rfl⟩
  unfold F_X8_hush at hF
  refine Kc.of [some (.ref a), some (.int x1)] ok_X8_hush rfl (Nat.le_of_ble_eq_true rfl) ?_
  refine v_aload_n (i := 0) dX8_hush_0 rfl rfl ?_
  refine v_dup dX8_hush_1 rfl ?_
  refine g_X8_21 rfl s0 (by exact ltG hG (by omega)) dX8_hush_2 ?_
  refine v_iconst (v := 1) dX8_hush_5 (by decide) ?_
  refine v_iload_n (i := 1) dX8_hush_6 rfl rfl ?_
  refine v_ishl dX8_hush_7 ?_
  refine v_iconst (v := (-1)) dX8_hush_8 (by decide) ?_
  refine v_ixor dX8_hush_9 ?_
  refine v_iand dX8_hush_10 ?_
  refine p_X8_21 rfl s0 (by exact ltG hG (by omega)) dX8_hush_11 ?_
  refine v_return rfl dX8_hush_14 ?_
  obtain rfl := Option.some.inj hF
  exact ⟨rfl, rfl, hG⟩
def F_X8_isRoped (n : Nat) (h : Hp) (a : Nat) (x1 : Int32) : Option (Int32 × Hp) := (if (((((((hi h a 2) : Int32).toUInt32 >>> ((x1 : Int32).toUInt32 &&& Int32.toUInt32 31)).toInt32) : Int32) &&& (1 : Int32)) : Int32) = 0 then some (0, h) else some (1, h))
set_option maxRecDepth 100000 in
set_option maxHeartbeats 4000000 in
theorem s_X8_isRoped (d : Nat) {n : Nat} {h : Hp} {a : Nat} {x1 : Int32} {q0 : (Int32 × Hp)} (hF : F_X8_isRoped n h a x1 = some q0) (hG : G h) (hs : Sc a) : Kc mX8_isRoped (d) [.ref a, .int x1] h (fun r1 h1 => r1 = some (.int q0.1) ∧ h1 = q0.2 ∧ G q0.2) := by
  obtain ⟨s0, s1, s2, s3, s4, s5, s6, s7⟩ := id hs
  obtain ⟨r, h'⟩ := q0
  unfold F_X8_isRoped at hF
  refine Kc.of [some (.ref a), some (.int x1)] ok_X8_isRoped rfl (Nat.le_of_ble_eq_true rfl) ?_
  refine v_aload_n (i := 0) dX8_isRoped_0 rfl rfl ?_
  refine g_X8_18 rfl s0 (by exact ltG hG (by omega)) dX8_isRoped_1 ?_
  refine v_iload_n (i := 1) dX8_isRoped_4 rfl rfl ?_
  refine v_iushr dX8_isRoped_5 ?_
  refine v_iconst (v := 1) dX8_isRoped_6 (by decide) ?_
  refine v_iand dX8_isRoped_7 ?_
  refine v_if_eq 15 dX8_isRoped_8 (by decide) (fun c1 => ?_) (fun c1 => ?_)
  · rw [if_pos c1] at hF
    refine v_iconst (v := 0) dX8_isRoped_15 (by decide) ?_
    refine v_zreturn rfl (by decide) dX8_isRoped_16 ?_
    obtain ⟨rfl, rfl⟩ := Prod.mk.inj (Option.some.inj hF)
    exact ⟨rfl, rfl, hG⟩
  · rw [if_neg c1] at hF
    refine v_iconst (v := 1) dX8_isRoped_11 (by decide) ?_
    refine v_goto 16 dX8_isRoped_12 (by decide) ?_
    refine v_zreturn rfl (by decide) dX8_isRoped_16 ?_
    obtain ⟨rfl, rfl⟩ := Prod.mk.inj (Option.some.inj hF)
    exact ⟨rfl, rfl, hG⟩
def F_X8_isTuned (n : Nat) (h : Hp) (a : Nat) (x1 : Int32) : Option (Int32 × Hp) := (if (x1 : Int32) < 0 then some (0, h) else (if (25 : Int32) ≤ (x1 : Int32) then some (0, h) else (if (((((((hi h a 3) : Int32).toUInt32 >>> ((x1 : Int32).toUInt32 &&& Int32.toUInt32 31)).toInt32) : Int32) &&& (1 : Int32)) : Int32) = 0 then some (0, h) else some (1, h))))
set_option maxRecDepth 100000 in
set_option maxHeartbeats 4000000 in
theorem s_X8_isTuned (d : Nat) {n : Nat} {h : Hp} {a : Nat} {x1 : Int32} {q0 : (Int32 × Hp)} (hF : F_X8_isTuned n h a x1 = some q0) (hG : G h) (hs : Sc a) : Kc mX8_isTuned (d) [.ref a, .int x1] h (fun r1 h1 => r1 = some (.int q0.1) ∧ h1 = q0.2 ∧ G q0.2) := by
  obtain ⟨s0, s1, s2, s3, s4, s5, s6, s7⟩ := id hs
  obtain ⟨r, h'⟩ := q0
  unfold F_X8_isTuned at hF
  refine Kc.of [some (.ref a), some (.int x1)] ok_X8_isTuned rfl (Nat.le_of_ble_eq_true rfl) ?_
  refine v_iload_n (i := 1) dX8_isTuned_0 rfl rfl ?_
  refine v_if_lt 25 dX8_isTuned_1 (by decide) (fun c1 => ?_) (fun c1 => ?_)
  · rw [if_pos c1] at hF
    refine v_iconst (v := 0) dX8_isTuned_25 (by decide) ?_
    refine v_zreturn rfl (by decide) dX8_isTuned_26 ?_
    obtain ⟨rfl, rfl⟩ := Prod.mk.inj (Option.some.inj hF)
    exact ⟨rfl, rfl, hG⟩
  · rw [if_neg c1] at hF
    refine v_iload_n (i := 1) dX8_isTuned_4 rfl rfl ?_
    refine v_bipush (v := 25) dX8_isTuned_5 (by decide) ?_
    refine v_icmp_ge 25 dX8_isTuned_7 (by decide) (fun c2 => ?_) (fun c2 => ?_)
    · rw [if_pos c2] at hF
      refine v_iconst (v := 0) dX8_isTuned_25 (by decide) ?_
      refine v_zreturn rfl (by decide) dX8_isTuned_26 ?_
      obtain ⟨rfl, rfl⟩ := Prod.mk.inj (Option.some.inj hF)
      exact ⟨rfl, rfl, hG⟩
    · rw [if_neg c2] at hF
      refine v_aload_n (i := 0) dX8_isTuned_10 rfl rfl ?_
      refine g_X8_21 rfl s0 (by exact ltG hG (by omega)) dX8_isTuned_11 ?_
      refine v_iload_n (i := 1) dX8_isTuned_14 rfl rfl ?_
      refine v_iushr dX8_isTuned_15 ?_
      refine v_iconst (v := 1) dX8_isTuned_16 (by decide) ?_
      refine v_iand dX8_isTuned_17 ?_
      refine v_if_eq 25 dX8_isTuned_18 (by decide) (fun c3 => ?_) (fun c3 => ?_)
      · rw [if_pos c3] at hF
        refine v_iconst (v := 0) dX8_isTuned_25 (by decide) ?_
        refine v_zreturn rfl (by decide) dX8_isTuned_26 ?_
        obtain ⟨rfl, rfl⟩ := Prod.mk.inj (Option.some.inj hF)
        exact ⟨rfl, rfl, hG⟩
      · rw [if_neg c3] at hF
        refine v_iconst (v := 1) dX8_isTuned_21 (by decide) ?_
        refine v_goto 26 dX8_isTuned_22 (by decide) ?_
        refine v_zreturn rfl (by decide) dX8_isTuned_26 ?_
        obtain ⟨rfl, rfl⟩ := Prod.mk.inj (Option.some.inj hF)
        exact ⟨rfl, rfl, hG⟩
def F_X8_offsetOf (n : Nat) (h : Hp) (a : Nat) (x1 : Int32) : Option (Int32 × Hp) := ((F_X8_isTuned n h a x1).bind (fun q1 => (if (q1.1 : Int32) = 0 then some (0, q1.2) else (if ixOK x1 25 = true then some ((((vp_nar .byte (hi q1.2 (a + 1) (Int32.toNatClampNeg x1))) : Int32) &&& (7 : Int32)), q1.2) else none))))
set_option maxRecDepth 100000 in
set_option maxHeartbeats 4000000 in
theorem s_X8_offsetOf (d : Nat) {n : Nat} {h : Hp} {a : Nat} {x1 : Int32} {q0 : (Int32 × Hp)} (hF : F_X8_offsetOf n h a x1 = some q0) (hG : G h) (hs : Sc a) : Kc mX8_offsetOf (d + 1) [.ref a, .int x1] h (fun r1 h1 => r1 = some (.int q0.1) ∧ h1 = q0.2 ∧ G q0.2) := by
  obtain ⟨s0, s1, s2, s3, s4, s5, s6, s7⟩ := id hs
  obtain ⟨r, h'⟩ := q0
  unfold F_X8_offsetOf at hF
  refine Kc.of [some (.ref a), some (.int x1)] ok_X8_offsetOf rfl (Nat.le_of_ble_eq_true rfl) ?_
  refine v_aload_n (i := 0) dX8_offsetOf_0 rfl rfl ?_
  refine v_iload_n (i := 1) dX8_offsetOf_1 rfl rfl ?_
  obtain ⟨q1, q1_e, hF⟩ := Option.bind_eq_some_iff.mp hF
  refine c_X8_47 rfl s0 (by exact ltG hG (by omega)) (Nat.le_of_ble_eq_true rfl) dX8_offsetOf_2 (s_X8_isTuned _ q1_e hG (by first | assumption | exact sc_30 | exact sc_34 | exact sc_10 | exact fd_24 | exact fd_4 | exact lw_25 | exact lw_5 | exact bd_23 | exact bd_3 | exact ⟨by first | assumption | rfl, by first | decide | omega⟩)) (fun r1 h1 hq => ?_)
  obtain ⟨rfl, hq, hG⟩ := hq
  replace hq := hq.symm
  subst hq
  show V _ _ _ _ (_ :: _) _ _
  refine v_if_eq 20 dX8_offsetOf_5 (by decide) (fun c3 => ?_) (fun c3 => ?_)
  · rw [if_pos c3] at hF
    refine v_iconst (v := 0) dX8_offsetOf_20 (by decide) ?_
    refine v_ireturn rfl dX8_offsetOf_21 ?_
    obtain ⟨rfl, rfl⟩ := Prod.mk.inj (Option.some.inj hF)
    exact ⟨rfl, rfl, hG⟩
  · rw [if_neg c3] at hF
    refine v_aload_n (i := 0) dX8_offsetOf_8 rfl rfl ?_
    refine g_X8_24 (q := (a + 1)) rfl s0 (by exact ltG hG (by omega)) (by exact rG hG s5) dX8_offsetOf_9 ?_
    refine v_iload_n (i := 1) dX8_offsetOf_12 rfl rfl ?_
    obtain ⟨k4, hF⟩ := ck_some hF
    refine v_baload s1 (by exact ltG hG (by omega)) (ixO k4) dX8_offsetOf_13 ?_
    refine v_bipush (v := 7) dX8_offsetOf_14 (by decide) ?_
    refine v_iand dX8_offsetOf_16 ?_
    refine v_goto 21 dX8_offsetOf_17 (by decide) ?_
    refine v_ireturn rfl dX8_offsetOf_21 ?_
    obtain ⟨rfl, rfl⟩ := Prod.mk.inj (Option.some.inj hF)
    exact ⟨rfl, rfl, hG⟩
def F_X8_soundIn (n : Nat) (h : Hp) (a : Nat) (x1 : Int32) (x2 : Int32) (x3 : Int32) : Option Hp := (if (x1 : Int32) < 0 then some h else (if (25 : Int32) ≤ (x1 : Int32) then some h else (if ixOK x1 25 = true then some (wrI (wrI h (a + 1) (Int32.toNatClampNeg x1) (((8 * x2) + x3) : Int32).toInt8.toInt32) a 3 (((hi (wrI h (a + 1) (Int32.toNatClampNeg x1) (((8 * x2) + x3) : Int32).toInt8.toInt32) a 3) : Int32) ||| (((1 : Int32) <<< ((x1 : Int32) &&& 31)) : Int32))) else none)))
set_option maxRecDepth 100000 in
set_option maxHeartbeats 4000000 in
theorem s_X8_soundIn (d : Nat) {n : Nat} {h : Hp} {a : Nat} {x1 : Int32} {x2 : Int32} {x3 : Int32} {q0 : Hp} (hF : F_X8_soundIn n h a x1 x2 x3 = some q0) (hG : G h) (hs : Sc a) : Kc mX8_soundIn (d) [.ref a, .int x1, .int x2, .int x3] h (fun r1 h1 => r1 = none ∧ h1 = q0 ∧ G q0) := by
  obtain ⟨s0, s1, s2, s3, s4, s5, s6, s7⟩ := id hs
  obtain ⟨h', rfl⟩ : ∃ z, z = q0 := ⟨_, rfl⟩
  unfold F_X8_soundIn at hF
  refine Kc.of [some (.ref a), some (.int x1), some (.int x2), some (.int x3)] ok_X8_soundIn rfl (Nat.le_of_ble_eq_true rfl) ?_
  refine v_iload_n (i := 1) dX8_soundIn_0 rfl rfl ?_
  refine v_if_lt 35 dX8_soundIn_1 (by decide) (fun c1 => ?_) (fun c1 => ?_)
  · rw [if_pos c1] at hF
    refine v_return rfl dX8_soundIn_35 ?_
    obtain rfl := Option.some.inj hF
    exact ⟨rfl, rfl, hG⟩
  · rw [if_neg c1] at hF
    refine v_iload_n (i := 1) dX8_soundIn_4 rfl rfl ?_
    refine v_bipush (v := 25) dX8_soundIn_5 (by decide) ?_
    refine v_icmp_ge 35 dX8_soundIn_7 (by decide) (fun c2 => ?_) (fun c2 => ?_)
    · rw [if_pos c2] at hF
      refine v_return rfl dX8_soundIn_35 ?_
      obtain rfl := Option.some.inj hF
      exact ⟨rfl, rfl, hG⟩
    · rw [if_neg c2] at hF
      refine v_aload_n (i := 0) dX8_soundIn_10 rfl rfl ?_
      refine g_X8_24 (q := (a + 1)) rfl s0 (by exact ltG hG (by omega)) (by exact rG hG s5) dX8_soundIn_11 ?_
      refine v_iload_n (i := 1) dX8_soundIn_14 rfl rfl ?_
      refine v_bipush (v := 8) dX8_soundIn_15 (by decide) ?_
      refine v_iload_n (i := 2) dX8_soundIn_17 rfl rfl ?_
      refine v_imul dX8_soundIn_18 ?_
      refine v_iload_n (i := 3) dX8_soundIn_19 rfl rfl ?_
      refine v_iadd dX8_soundIn_20 ?_
      refine v_i2b dX8_soundIn_21 ?_
      obtain ⟨k3, hF⟩ := ck_some hF
      refine v_bastore s1 (by exact ltG hG (by omega)) (ixO k3) dX8_soundIn_22 ?_
      refine v_aload_n (i := 0) dX8_soundIn_23 rfl rfl ?_
      refine v_dup dX8_soundIn_24 rfl ?_
      refine g_X8_21 rfl s0 (by exact ltG hG (by omega)) dX8_soundIn_25 ?_
      refine v_iconst (v := 1) dX8_soundIn_28 (by decide) ?_
      refine v_iload_n (i := 1) dX8_soundIn_29 rfl rfl ?_
      refine v_ishl dX8_soundIn_30 ?_
      refine v_ior dX8_soundIn_31 ?_
      refine p_X8_21 rfl s0 (by exact ltG hG (by omega)) dX8_soundIn_32 ?_
      refine v_return rfl dX8_soundIn_35 ?_
      obtain rfl := Option.some.inj hF
      exact ⟨rfl, rfl, hG⟩
def W_X8_stoodOn : Nat → Nat → Hp → Nat → Int32 → Int32 → Int32 → Option (Int32 × Hp)
  | 0 => fun _ _ _ _ _ _ => none
  | n + 1 => fun hd h a l1 l2 l3 => (if hd = 4 then (if (l1 : Int32) ≤ (l3 : Int32) then some (l2, h) else (if (5 : Int32) ≤ (l3 : Int32) then some (l2, h) else (if ixOK l3 5 = true then W_X8_stoodOn n 4 h a l1 ((l2 : Int32) ||| (((1 : Int32) <<< (((hi h (a + 2) (Int32.toNatClampNeg l3)) : Int32) &&& 31)) : Int32)) (l3 + 1) else none))) else none)
set_option maxRecDepth 100000 in
set_option maxHeartbeats 4000000 in
theorem sw_X8_stoodOn (d : Nat) (a : Nat) (hs : Sc a) (n : Nat) : (∀ (l1 : Int32) (l2 : Int32) (l3 : Int32) (h : Hp), ∀ (r : Int32) (h' : Hp), W_X8_stoodOn n 4 h a l1 l2 l3 = some (r, h') → G h → V mX8_stoodOn (d) 4 [some (.ref a), some (.int l1), some (.int l2), some (.int l3)] [] h (fun r1 h1 => r1 = some (.int r) ∧ h1 = h' ∧ G h')) := by
  obtain ⟨s0, s1, s2, s3, s4, s5, s6, s7⟩ := id hs
  induction n with
  | zero => exact by intros; contradiction
  | succ n ih =>
    have s_X8_stoodOn_IH_4 := ih
    intro l1 l2 l3 h r h' hF hG
    unfold W_X8_stoodOn at hF
    rw [if_pos rfl] at hF
    refine v_iload_n (i := 3) dX8_stoodOn_4 rfl rfl ?_
    refine v_iload_n (i := 1) dX8_stoodOn_5 rfl rfl ?_
    refine v_icmp_ge 31 dX8_stoodOn_6 (by decide) (fun c1 => ?_) (fun c1 => ?_)
    · rw [if_pos c1] at hF
      refine v_iload_n (i := 2) dX8_stoodOn_31 rfl rfl ?_
      refine v_ireturn rfl dX8_stoodOn_32 ?_
      obtain ⟨rfl, rfl⟩ := Prod.mk.inj (Option.some.inj hF)
      exact ⟨rfl, rfl, hG⟩
    · rw [if_neg c1] at hF
      refine v_iload_n (i := 3) dX8_stoodOn_9 rfl rfl ?_
      refine v_iconst (v := 5) dX8_stoodOn_10 (by decide) ?_
      refine v_icmp_ge 31 dX8_stoodOn_11 (by decide) (fun c2 => ?_) (fun c2 => ?_)
      · rw [if_pos c2] at hF
        refine v_iload_n (i := 2) dX8_stoodOn_31 rfl rfl ?_
        refine v_ireturn rfl dX8_stoodOn_32 ?_
        obtain ⟨rfl, rfl⟩ := Prod.mk.inj (Option.some.inj hF)
        exact ⟨rfl, rfl, hG⟩
      · rw [if_neg c2] at hF
        refine v_iload_n (i := 2) dX8_stoodOn_14 rfl rfl ?_
        refine v_iconst (v := 1) dX8_stoodOn_15 (by decide) ?_
        refine v_aload_n (i := 0) dX8_stoodOn_16 rfl rfl ?_
        refine g_X8_28 (q := (a + 2)) rfl s0 (by exact ltG hG (by omega)) (by exact rG hG s6) dX8_stoodOn_17 ?_
        refine v_iload_n (i := 3) dX8_stoodOn_20 rfl rfl ?_
        obtain ⟨k3, hF⟩ := ck_some hF
        refine v_iaload s2 (by exact ltG hG (by omega)) (ixO k3) dX8_stoodOn_21 ?_
        refine v_ishl dX8_stoodOn_22 ?_
        refine v_ior dX8_stoodOn_23 ?_
        refine v_istore_n (i := 2) dX8_stoodOn_24 rfl (by decide) (nlT rfl) ?_
        simp only [List.set_cons_zero, List.set_cons_succ]
        refine v_iinc (i := 3) (v := (l3 + 1)) dX8_stoodOn_25 rfl rfl (by decide) (nlT rfl) ?_
        simp only [List.set_cons_zero, List.set_cons_succ]
        refine v_goto 4 dX8_stoodOn_28 (by decide) ?_
        refine V.weak (la2 := [some (.ref a), some (.int l1), some (.int ((l2 : Int32) ||| (((1 : Int32) <<< (((hi h (a + 2) (Int32.toNatClampNeg l3)) : Int32) &&& 31)) : Int32))), some (.int (l3 + 1))]) (by simp [wk]) ?_
        exact (s_X8_stoodOn_IH_4) _ _ _ _ _ _ hF hG
def F_X8_stoodOn (n : Nat) (h : Hp) (a : Nat) (x1 : Int32) : Option (Int32 × Hp) := W_X8_stoodOn n 4 h a x1 0 0
set_option maxRecDepth 100000 in
set_option maxHeartbeats 4000000 in
theorem s_X8_stoodOn (d : Nat) {n : Nat} {h : Hp} {a : Nat} {x1 : Int32} {q0 : (Int32 × Hp)} (hF : F_X8_stoodOn n h a x1 = some q0) (hG : G h) (hs : Sc a) : Kc mX8_stoodOn (d) [.ref a, .int x1] h (fun r1 h1 => r1 = some (.int q0.1) ∧ h1 = q0.2 ∧ G q0.2) := by
  obtain ⟨s0, s1, s2, s3, s4, s5, s6, s7⟩ := id hs
  obtain ⟨r, h'⟩ := q0
  have s_X8_stoodOn_IH_4 := sw_X8_stoodOn d a hs n
  unfold F_X8_stoodOn at hF
  refine Kc.of [some (.ref a), some (.int x1), none, none] ok_X8_stoodOn rfl (Nat.le_of_ble_eq_true rfl) ?_
  refine v_iconst (v := 0) dX8_stoodOn_0 (by decide) ?_
  refine v_istore_n (i := 2) dX8_stoodOn_1 rfl (by decide) (nlT rfl) ?_
  simp only [List.set_cons_zero, List.set_cons_succ]
  refine v_iconst (v := 0) dX8_stoodOn_2 (by decide) ?_
  refine v_istore_n (i := 3) dX8_stoodOn_3 rfl (by decide) (nlT rfl) ?_
  simp only [List.set_cons_zero, List.set_cons_succ]
  refine V.weak (la2 := [some (.ref a), some (.int x1), some (.int 0), some (.int 0)]) (by simp [wk]) ?_
  exact (s_X8_stoodOn_IH_4) _ _ _ _ _ _ hF hG
def F_X9_isBlank (n : Nat) (h : Hp) (x1 : Int32) : Option (Int32 × Hp) := (if (x1 : Int32) = (9 : Int32) then some (1, h) else (if (x1 : Int32) = (10 : Int32) then some (1, h) else (if (x1 : Int32) = (13 : Int32) then some (1, h) else (if (x1 : Int32) = (32 : Int32) then some (1, h) else some (0, h)))))
set_option maxRecDepth 100000 in
set_option maxHeartbeats 4000000 in
theorem s_X9_isBlank (d : Nat) {n : Nat} {h : Hp} {x1 : Int32} {q0 : (Int32 × Hp)} (hF : F_X9_isBlank n h x1 = some q0) (hG : G h)  : Kc mX9_isBlank (d) [.int x1] h (fun r1 h1 => r1 = some (.int q0.1) ∧ h1 = q0.2 ∧ G q0.2) := by
  obtain ⟨r, h'⟩ := q0
  unfold F_X9_isBlank at hF
  refine Kc.of [some (.int x1)] ok_X9_isBlank rfl (Nat.le_of_ble_eq_true rfl) ?_
  refine v_iload_n (i := 0) dX9_isBlank_0 rfl rfl ?_
  refine v_bipush (v := 9) dX9_isBlank_1 (by decide) ?_
  refine v_icmp_eq 24 dX9_isBlank_3 (by decide) (fun c1 => ?_) (fun c1 => ?_)
  · rw [if_pos c1] at hF
    refine v_iconst (v := 1) dX9_isBlank_24 (by decide) ?_
    refine v_goto 29 dX9_isBlank_25 (by decide) ?_
    refine v_zreturn rfl (by decide) dX9_isBlank_29 ?_
    obtain ⟨rfl, rfl⟩ := Prod.mk.inj (Option.some.inj hF)
    exact ⟨rfl, rfl, hG⟩
  · rw [if_neg c1] at hF
    refine v_iload_n (i := 0) dX9_isBlank_6 rfl rfl ?_
    refine v_bipush (v := 10) dX9_isBlank_7 (by decide) ?_
    refine v_icmp_eq 24 dX9_isBlank_9 (by decide) (fun c2 => ?_) (fun c2 => ?_)
    · rw [if_pos c2] at hF
      refine v_iconst (v := 1) dX9_isBlank_24 (by decide) ?_
      refine v_goto 29 dX9_isBlank_25 (by decide) ?_
      refine v_zreturn rfl (by decide) dX9_isBlank_29 ?_
      obtain ⟨rfl, rfl⟩ := Prod.mk.inj (Option.some.inj hF)
      exact ⟨rfl, rfl, hG⟩
    · rw [if_neg c2] at hF
      refine v_iload_n (i := 0) dX9_isBlank_12 rfl rfl ?_
      refine v_bipush (v := 13) dX9_isBlank_13 (by decide) ?_
      refine v_icmp_eq 24 dX9_isBlank_15 (by decide) (fun c3 => ?_) (fun c3 => ?_)
      · rw [if_pos c3] at hF
        refine v_iconst (v := 1) dX9_isBlank_24 (by decide) ?_
        refine v_goto 29 dX9_isBlank_25 (by decide) ?_
        refine v_zreturn rfl (by decide) dX9_isBlank_29 ?_
        obtain ⟨rfl, rfl⟩ := Prod.mk.inj (Option.some.inj hF)
        exact ⟨rfl, rfl, hG⟩
      · rw [if_neg c3] at hF
        refine v_iload_n (i := 0) dX9_isBlank_18 rfl rfl ?_
        refine v_bipush (v := 32) dX9_isBlank_19 (by decide) ?_
        refine v_icmp_ne 28 dX9_isBlank_21 (by decide) (fun c4 => ?_) (fun c4 => ?_)
        · rw [if_neg c4] at hF
          refine v_iconst (v := 0) dX9_isBlank_28 (by decide) ?_
          refine v_zreturn rfl (by decide) dX9_isBlank_29 ?_
          obtain ⟨rfl, rfl⟩ := Prod.mk.inj (Option.some.inj hF)
          exact ⟨rfl, rfl, hG⟩
        · rw [if_pos c4] at hF
          refine v_iconst (v := 1) dX9_isBlank_24 (by decide) ?_
          refine v_goto 29 dX9_isBlank_25 (by decide) ?_
          refine v_zreturn rfl (by decide) dX9_isBlank_29 ?_
          obtain ⟨rfl, rfl⟩ := Prod.mk.inj (Option.some.inj hF)
          exact ⟨rfl, rfl, hG⟩
def F_X9_isDigit (n : Nat) (h : Hp) (x1 : Int32) : Option (Int32 × Hp) := (if (x1 : Int32) < (48 : Int32) then some (0, h) else (if (57 : Int32) < (x1 : Int32) then some (0, h) else some (1, h)))
set_option maxRecDepth 100000 in
set_option maxHeartbeats 4000000 in
theorem s_X9_isDigit (d : Nat) {n : Nat} {h : Hp} {x1 : Int32} {q0 : (Int32 × Hp)} (hF : F_X9_isDigit n h x1 = some q0) (hG : G h)  : Kc mX9_isDigit (d) [.int x1] h (fun r1 h1 => r1 = some (.int q0.1) ∧ h1 = q0.2 ∧ G q0.2) := by
  obtain ⟨r, h'⟩ := q0
  unfold F_X9_isDigit at hF
  refine Kc.of [some (.int x1)] ok_X9_isDigit rfl (Nat.le_of_ble_eq_true rfl) ?_
  refine v_iload_n (i := 0) dX9_isDigit_0 rfl rfl ?_
  refine v_bipush (v := 48) dX9_isDigit_1 (by decide) ?_
  refine v_icmp_lt 16 dX9_isDigit_3 (by decide) (fun c1 => ?_) (fun c1 => ?_)
  · rw [if_pos c1] at hF
    refine v_iconst (v := 0) dX9_isDigit_16 (by decide) ?_
    refine v_zreturn rfl (by decide) dX9_isDigit_17 ?_
    obtain ⟨rfl, rfl⟩ := Prod.mk.inj (Option.some.inj hF)
    exact ⟨rfl, rfl, hG⟩
  · rw [if_neg c1] at hF
    refine v_iload_n (i := 0) dX9_isDigit_6 rfl rfl ?_
    refine v_bipush (v := 57) dX9_isDigit_7 (by decide) ?_
    refine v_icmp_gt 16 dX9_isDigit_9 (by decide) (fun c2 => ?_) (fun c2 => ?_)
    · rw [if_pos c2] at hF
      refine v_iconst (v := 0) dX9_isDigit_16 (by decide) ?_
      refine v_zreturn rfl (by decide) dX9_isDigit_17 ?_
      obtain ⟨rfl, rfl⟩ := Prod.mk.inj (Option.some.inj hF)
      exact ⟨rfl, rfl, hG⟩
    · rw [if_neg c2] at hF
      refine v_iconst (v := 1) dX9_isDigit_12 (by decide) ?_
      refine v_goto 17 dX9_isDigit_13 (by decide) ?_
      refine v_zreturn rfl (by decide) dX9_isDigit_17 ?_
      obtain ⟨rfl, rfl⟩ := Prod.mk.inj (Option.some.inj hF)
      exact ⟨rfl, rfl, hG⟩
def F_X9_isLetter (n : Nat) (h : Hp) (x1 : Int32) : Option (Int32 × Hp) := (if (x1 : Int32) < (97 : Int32) then some (0, h) else (if (122 : Int32) < (x1 : Int32) then some (0, h) else some (1, h)))
set_option maxRecDepth 100000 in
set_option maxHeartbeats 4000000 in
theorem s_X9_isLetter (d : Nat) {n : Nat} {h : Hp} {x1 : Int32} {q0 : (Int32 × Hp)} (hF : F_X9_isLetter n h x1 = some q0) (hG : G h)  : Kc mX9_isLetter (d) [.int x1] h (fun r1 h1 => r1 = some (.int q0.1) ∧ h1 = q0.2 ∧ G q0.2) := by
  obtain ⟨r, h'⟩ := q0
  unfold F_X9_isLetter at hF
  refine Kc.of [some (.int x1)] ok_X9_isLetter rfl (Nat.le_of_ble_eq_true rfl) ?_
  refine v_iload_n (i := 0) dX9_isLetter_0 rfl rfl ?_
  refine v_bipush (v := 97) dX9_isLetter_1 (by decide) ?_
  refine v_icmp_lt 16 dX9_isLetter_3 (by decide) (fun c1 => ?_) (fun c1 => ?_)
  · rw [if_pos c1] at hF
    refine v_iconst (v := 0) dX9_isLetter_16 (by decide) ?_
    refine v_zreturn rfl (by decide) dX9_isLetter_17 ?_
    obtain ⟨rfl, rfl⟩ := Prod.mk.inj (Option.some.inj hF)
    exact ⟨rfl, rfl, hG⟩
  · rw [if_neg c1] at hF
    refine v_iload_n (i := 0) dX9_isLetter_6 rfl rfl ?_
    refine v_bipush (v := 122) dX9_isLetter_7 (by decide) ?_
    refine v_icmp_gt 16 dX9_isLetter_9 (by decide) (fun c2 => ?_) (fun c2 => ?_)
    · rw [if_pos c2] at hF
      refine v_iconst (v := 0) dX9_isLetter_16 (by decide) ?_
      refine v_zreturn rfl (by decide) dX9_isLetter_17 ?_
      obtain ⟨rfl, rfl⟩ := Prod.mk.inj (Option.some.inj hF)
      exact ⟨rfl, rfl, hG⟩
    · rw [if_neg c2] at hF
      refine v_iconst (v := 1) dX9_isLetter_12 (by decide) ?_
      refine v_goto 17 dX9_isLetter_13 (by decide) ?_
      refine v_zreturn rfl (by decide) dX9_isLetter_17 ?_
      obtain ⟨rfl, rfl⟩ := Prod.mk.inj (Option.some.inj hF)
      exact ⟨rfl, rfl, hG⟩
def F_X9_isSign (n : Nat) (h : Hp) (x1 : Int32) : Option (Int32 × Hp) := (if x1 = 40 then some (1, h) else (if x1 = 41 then some (1, h) else (if x1 = 42 then some (1, h) else (if x1 = 43 then some (1, h) else (if x1 = 44 then some (0, h) else (if x1 = 45 then some (1, h) else (if x1 = 46 then some (0, h) else (if x1 = 47 then some (1, h) else (if x1 = 48 then some (0, h) else (if x1 = 49 then some (0, h) else (if x1 = 50 then some (0, h) else (if x1 = 51 then some (0, h) else (if x1 = 52 then some (0, h) else (if x1 = 53 then some (0, h) else (if x1 = 54 then some (0, h) else (if x1 = 55 then some (0, h) else (if x1 = 56 then some (0, h) else (if x1 = 57 then some (0, h) else (if x1 = 58 then some (0, h) else (if x1 = 59 then some (1, h) else (if x1 = 60 then some (1, h) else (if x1 = 61 then some (1, h) else some (0, h)))))))))))))))))))))))
set_option maxRecDepth 100000 in
set_option maxHeartbeats 4000000 in
theorem s_X9_isSign (d : Nat) {n : Nat} {h : Hp} {x1 : Int32} {q0 : (Int32 × Hp)} (hF : F_X9_isSign n h x1 = some q0) (hG : G h)  : Kc mX9_isSign (d) [.int x1] h (fun r1 h1 => r1 = some (.int q0.1) ∧ h1 = q0.2 ∧ G q0.2) := by
  obtain ⟨r, h'⟩ := q0
  unfold F_X9_isSign at hF
  refine Kc.of [some (.int x1)] ok_X9_isSign rfl (Nat.le_of_ble_eq_true rfl) ?_
  refine v_iload_n (i := 0) dX9_isSign_0 rfl rfl ?_
  by_cases c1 : x1 = 40
  · rw [if_pos c1] at hF
    refine v_tableIn (off := 103) 104 dX9_isSign_1 (by rw [c1]; decide) (by rw [c1]; decide) (by rw [c1]; decide +kernel) (by decide) ?_
    refine v_iconst (v := 1) dX9_isSign_104 (by decide) ?_
    refine v_zreturn rfl (by decide) dX9_isSign_105 ?_
    obtain ⟨rfl, rfl⟩ := Prod.mk.inj (Option.some.inj hF)
    exact ⟨rfl, rfl, hG⟩
  rw [if_neg c1] at hF
  by_cases c2 : x1 = 41
  · rw [if_pos c2] at hF
    refine v_tableIn (off := 103) 104 dX9_isSign_1 (by rw [c2]; decide) (by rw [c2]; decide) (by rw [c2]; decide +kernel) (by decide) ?_
    refine v_iconst (v := 1) dX9_isSign_104 (by decide) ?_
    refine v_zreturn rfl (by decide) dX9_isSign_105 ?_
    obtain ⟨rfl, rfl⟩ := Prod.mk.inj (Option.some.inj hF)
    exact ⟨rfl, rfl, hG⟩
  rw [if_neg c2] at hF
  by_cases c3 : x1 = 42
  · rw [if_pos c3] at hF
    refine v_tableIn (off := 103) 104 dX9_isSign_1 (by rw [c3]; decide) (by rw [c3]; decide) (by rw [c3]; decide +kernel) (by decide) ?_
    refine v_iconst (v := 1) dX9_isSign_104 (by decide) ?_
    refine v_zreturn rfl (by decide) dX9_isSign_105 ?_
    obtain ⟨rfl, rfl⟩ := Prod.mk.inj (Option.some.inj hF)
    exact ⟨rfl, rfl, hG⟩
  rw [if_neg c3] at hF
  by_cases c4 : x1 = 43
  · rw [if_pos c4] at hF
    refine v_tableIn (off := 103) 104 dX9_isSign_1 (by rw [c4]; decide) (by rw [c4]; decide) (by rw [c4]; decide +kernel) (by decide) ?_
    refine v_iconst (v := 1) dX9_isSign_104 (by decide) ?_
    refine v_zreturn rfl (by decide) dX9_isSign_105 ?_
    obtain ⟨rfl, rfl⟩ := Prod.mk.inj (Option.some.inj hF)
    exact ⟨rfl, rfl, hG⟩
  rw [if_neg c4] at hF
  by_cases c5 : x1 = 44
  · rw [if_pos c5] at hF
    refine v_tableIn (off := 105) 106 dX9_isSign_1 (by rw [c5]; decide) (by rw [c5]; decide) (by rw [c5]; decide +kernel) (by decide) ?_
    refine v_iconst (v := 0) dX9_isSign_106 (by decide) ?_
    refine v_zreturn rfl (by decide) dX9_isSign_107 ?_
    obtain ⟨rfl, rfl⟩ := Prod.mk.inj (Option.some.inj hF)
    exact ⟨rfl, rfl, hG⟩
  rw [if_neg c5] at hF
  by_cases c6 : x1 = 45
  · rw [if_pos c6] at hF
    refine v_tableIn (off := 103) 104 dX9_isSign_1 (by rw [c6]; decide) (by rw [c6]; decide) (by rw [c6]; decide +kernel) (by decide) ?_
    refine v_iconst (v := 1) dX9_isSign_104 (by decide) ?_
    refine v_zreturn rfl (by decide) dX9_isSign_105 ?_
    obtain ⟨rfl, rfl⟩ := Prod.mk.inj (Option.some.inj hF)
    exact ⟨rfl, rfl, hG⟩
  rw [if_neg c6] at hF
  by_cases c7 : x1 = 46
  · rw [if_pos c7] at hF
    refine v_tableIn (off := 105) 106 dX9_isSign_1 (by rw [c7]; decide) (by rw [c7]; decide) (by rw [c7]; decide +kernel) (by decide) ?_
    refine v_iconst (v := 0) dX9_isSign_106 (by decide) ?_
    refine v_zreturn rfl (by decide) dX9_isSign_107 ?_
    obtain ⟨rfl, rfl⟩ := Prod.mk.inj (Option.some.inj hF)
    exact ⟨rfl, rfl, hG⟩
  rw [if_neg c7] at hF
  by_cases c8 : x1 = 47
  · rw [if_pos c8] at hF
    refine v_tableIn (off := 103) 104 dX9_isSign_1 (by rw [c8]; decide) (by rw [c8]; decide) (by rw [c8]; decide +kernel) (by decide) ?_
    refine v_iconst (v := 1) dX9_isSign_104 (by decide) ?_
    refine v_zreturn rfl (by decide) dX9_isSign_105 ?_
    obtain ⟨rfl, rfl⟩ := Prod.mk.inj (Option.some.inj hF)
    exact ⟨rfl, rfl, hG⟩
  rw [if_neg c8] at hF
  by_cases c9 : x1 = 48
  · rw [if_pos c9] at hF
    refine v_tableIn (off := 105) 106 dX9_isSign_1 (by rw [c9]; decide) (by rw [c9]; decide) (by rw [c9]; decide +kernel) (by decide) ?_
    refine v_iconst (v := 0) dX9_isSign_106 (by decide) ?_
    refine v_zreturn rfl (by decide) dX9_isSign_107 ?_
    obtain ⟨rfl, rfl⟩ := Prod.mk.inj (Option.some.inj hF)
    exact ⟨rfl, rfl, hG⟩
  rw [if_neg c9] at hF
  by_cases c10 : x1 = 49
  · rw [if_pos c10] at hF
    refine v_tableIn (off := 105) 106 dX9_isSign_1 (by rw [c10]; decide) (by rw [c10]; decide) (by rw [c10]; decide +kernel) (by decide) ?_
    refine v_iconst (v := 0) dX9_isSign_106 (by decide) ?_
    refine v_zreturn rfl (by decide) dX9_isSign_107 ?_
    obtain ⟨rfl, rfl⟩ := Prod.mk.inj (Option.some.inj hF)
    exact ⟨rfl, rfl, hG⟩
  rw [if_neg c10] at hF
  by_cases c11 : x1 = 50
  · rw [if_pos c11] at hF
    refine v_tableIn (off := 105) 106 dX9_isSign_1 (by rw [c11]; decide) (by rw [c11]; decide) (by rw [c11]; decide +kernel) (by decide) ?_
    refine v_iconst (v := 0) dX9_isSign_106 (by decide) ?_
    refine v_zreturn rfl (by decide) dX9_isSign_107 ?_
    obtain ⟨rfl, rfl⟩ := Prod.mk.inj (Option.some.inj hF)
    exact ⟨rfl, rfl, hG⟩
  rw [if_neg c11] at hF
  by_cases c12 : x1 = 51
  · rw [if_pos c12] at hF
    refine v_tableIn (off := 105) 106 dX9_isSign_1 (by rw [c12]; decide) (by rw [c12]; decide) (by rw [c12]; decide +kernel) (by decide) ?_
    refine v_iconst (v := 0) dX9_isSign_106 (by decide) ?_
    refine v_zreturn rfl (by decide) dX9_isSign_107 ?_
    obtain ⟨rfl, rfl⟩ := Prod.mk.inj (Option.some.inj hF)
    exact ⟨rfl, rfl, hG⟩
  rw [if_neg c12] at hF
  by_cases c13 : x1 = 52
  · rw [if_pos c13] at hF
    refine v_tableIn (off := 105) 106 dX9_isSign_1 (by rw [c13]; decide) (by rw [c13]; decide) (by rw [c13]; decide +kernel) (by decide) ?_
    refine v_iconst (v := 0) dX9_isSign_106 (by decide) ?_
    refine v_zreturn rfl (by decide) dX9_isSign_107 ?_
    obtain ⟨rfl, rfl⟩ := Prod.mk.inj (Option.some.inj hF)
    exact ⟨rfl, rfl, hG⟩
  rw [if_neg c13] at hF
  by_cases c14 : x1 = 53
  · rw [if_pos c14] at hF
    refine v_tableIn (off := 105) 106 dX9_isSign_1 (by rw [c14]; decide) (by rw [c14]; decide) (by rw [c14]; decide +kernel) (by decide) ?_
    refine v_iconst (v := 0) dX9_isSign_106 (by decide) ?_
    refine v_zreturn rfl (by decide) dX9_isSign_107 ?_
    obtain ⟨rfl, rfl⟩ := Prod.mk.inj (Option.some.inj hF)
    exact ⟨rfl, rfl, hG⟩
  rw [if_neg c14] at hF
  by_cases c15 : x1 = 54
  · rw [if_pos c15] at hF
    refine v_tableIn (off := 105) 106 dX9_isSign_1 (by rw [c15]; decide) (by rw [c15]; decide) (by rw [c15]; decide +kernel) (by decide) ?_
    refine v_iconst (v := 0) dX9_isSign_106 (by decide) ?_
    refine v_zreturn rfl (by decide) dX9_isSign_107 ?_
    obtain ⟨rfl, rfl⟩ := Prod.mk.inj (Option.some.inj hF)
    exact ⟨rfl, rfl, hG⟩
  rw [if_neg c15] at hF
  by_cases c16 : x1 = 55
  · rw [if_pos c16] at hF
    refine v_tableIn (off := 105) 106 dX9_isSign_1 (by rw [c16]; decide) (by rw [c16]; decide) (by rw [c16]; decide +kernel) (by decide) ?_
    refine v_iconst (v := 0) dX9_isSign_106 (by decide) ?_
    refine v_zreturn rfl (by decide) dX9_isSign_107 ?_
    obtain ⟨rfl, rfl⟩ := Prod.mk.inj (Option.some.inj hF)
    exact ⟨rfl, rfl, hG⟩
  rw [if_neg c16] at hF
  by_cases c17 : x1 = 56
  · rw [if_pos c17] at hF
    refine v_tableIn (off := 105) 106 dX9_isSign_1 (by rw [c17]; decide) (by rw [c17]; decide) (by rw [c17]; decide +kernel) (by decide) ?_
    refine v_iconst (v := 0) dX9_isSign_106 (by decide) ?_
    refine v_zreturn rfl (by decide) dX9_isSign_107 ?_
    obtain ⟨rfl, rfl⟩ := Prod.mk.inj (Option.some.inj hF)
    exact ⟨rfl, rfl, hG⟩
  rw [if_neg c17] at hF
  by_cases c18 : x1 = 57
  · rw [if_pos c18] at hF
    refine v_tableIn (off := 105) 106 dX9_isSign_1 (by rw [c18]; decide) (by rw [c18]; decide) (by rw [c18]; decide +kernel) (by decide) ?_
    refine v_iconst (v := 0) dX9_isSign_106 (by decide) ?_
    refine v_zreturn rfl (by decide) dX9_isSign_107 ?_
    obtain ⟨rfl, rfl⟩ := Prod.mk.inj (Option.some.inj hF)
    exact ⟨rfl, rfl, hG⟩
  rw [if_neg c18] at hF
  by_cases c19 : x1 = 58
  · rw [if_pos c19] at hF
    refine v_tableIn (off := 105) 106 dX9_isSign_1 (by rw [c19]; decide) (by rw [c19]; decide) (by rw [c19]; decide +kernel) (by decide) ?_
    refine v_iconst (v := 0) dX9_isSign_106 (by decide) ?_
    refine v_zreturn rfl (by decide) dX9_isSign_107 ?_
    obtain ⟨rfl, rfl⟩ := Prod.mk.inj (Option.some.inj hF)
    exact ⟨rfl, rfl, hG⟩
  rw [if_neg c19] at hF
  by_cases c20 : x1 = 59
  · rw [if_pos c20] at hF
    refine v_tableIn (off := 103) 104 dX9_isSign_1 (by rw [c20]; decide) (by rw [c20]; decide) (by rw [c20]; decide +kernel) (by decide) ?_
    refine v_iconst (v := 1) dX9_isSign_104 (by decide) ?_
    refine v_zreturn rfl (by decide) dX9_isSign_105 ?_
    obtain ⟨rfl, rfl⟩ := Prod.mk.inj (Option.some.inj hF)
    exact ⟨rfl, rfl, hG⟩
  rw [if_neg c20] at hF
  by_cases c21 : x1 = 60
  · rw [if_pos c21] at hF
    refine v_tableIn (off := 103) 104 dX9_isSign_1 (by rw [c21]; decide) (by rw [c21]; decide) (by rw [c21]; decide +kernel) (by decide) ?_
    refine v_iconst (v := 1) dX9_isSign_104 (by decide) ?_
    refine v_zreturn rfl (by decide) dX9_isSign_105 ?_
    obtain ⟨rfl, rfl⟩ := Prod.mk.inj (Option.some.inj hF)
    exact ⟨rfl, rfl, hG⟩
  rw [if_neg c21] at hF
  by_cases c22 : x1 = 61
  · rw [if_pos c22] at hF
    refine v_tableIn (off := 103) 104 dX9_isSign_1 (by rw [c22]; decide) (by rw [c22]; decide) (by rw [c22]; decide +kernel) (by decide) ?_
    refine v_iconst (v := 1) dX9_isSign_104 (by decide) ?_
    refine v_zreturn rfl (by decide) dX9_isSign_105 ?_
    obtain ⟨rfl, rfl⟩ := Prod.mk.inj (Option.some.inj hF)
    exact ⟨rfl, rfl, hG⟩
  rw [if_neg c22] at hF
  have e_c1 : ¬ (x1 : Int32).toInt = 40 := fun q => c1 (Int32.toInt_inj.mp (q.trans (by decide)))
  have e_c2 : ¬ (x1 : Int32).toInt = 41 := fun q => c2 (Int32.toInt_inj.mp (q.trans (by decide)))
  have e_c3 : ¬ (x1 : Int32).toInt = 42 := fun q => c3 (Int32.toInt_inj.mp (q.trans (by decide)))
  have e_c4 : ¬ (x1 : Int32).toInt = 43 := fun q => c4 (Int32.toInt_inj.mp (q.trans (by decide)))
  have e_c5 : ¬ (x1 : Int32).toInt = 44 := fun q => c5 (Int32.toInt_inj.mp (q.trans (by decide)))
  have e_c6 : ¬ (x1 : Int32).toInt = 45 := fun q => c6 (Int32.toInt_inj.mp (q.trans (by decide)))
  have e_c7 : ¬ (x1 : Int32).toInt = 46 := fun q => c7 (Int32.toInt_inj.mp (q.trans (by decide)))
  have e_c8 : ¬ (x1 : Int32).toInt = 47 := fun q => c8 (Int32.toInt_inj.mp (q.trans (by decide)))
  have e_c9 : ¬ (x1 : Int32).toInt = 48 := fun q => c9 (Int32.toInt_inj.mp (q.trans (by decide)))
  have e_c10 : ¬ (x1 : Int32).toInt = 49 := fun q => c10 (Int32.toInt_inj.mp (q.trans (by decide)))
  have e_c11 : ¬ (x1 : Int32).toInt = 50 := fun q => c11 (Int32.toInt_inj.mp (q.trans (by decide)))
  have e_c12 : ¬ (x1 : Int32).toInt = 51 := fun q => c12 (Int32.toInt_inj.mp (q.trans (by decide)))
  have e_c13 : ¬ (x1 : Int32).toInt = 52 := fun q => c13 (Int32.toInt_inj.mp (q.trans (by decide)))
  have e_c14 : ¬ (x1 : Int32).toInt = 53 := fun q => c14 (Int32.toInt_inj.mp (q.trans (by decide)))
  have e_c15 : ¬ (x1 : Int32).toInt = 54 := fun q => c15 (Int32.toInt_inj.mp (q.trans (by decide)))
  have e_c16 : ¬ (x1 : Int32).toInt = 55 := fun q => c16 (Int32.toInt_inj.mp (q.trans (by decide)))
  have e_c17 : ¬ (x1 : Int32).toInt = 56 := fun q => c17 (Int32.toInt_inj.mp (q.trans (by decide)))
  have e_c18 : ¬ (x1 : Int32).toInt = 57 := fun q => c18 (Int32.toInt_inj.mp (q.trans (by decide)))
  have e_c19 : ¬ (x1 : Int32).toInt = 58 := fun q => c19 (Int32.toInt_inj.mp (q.trans (by decide)))
  have e_c20 : ¬ (x1 : Int32).toInt = 59 := fun q => c20 (Int32.toInt_inj.mp (q.trans (by decide)))
  have e_c21 : ¬ (x1 : Int32).toInt = 60 := fun q => c21 (Int32.toInt_inj.mp (q.trans (by decide)))
  have e_c22 : ¬ (x1 : Int32).toInt = 61 := fun q => c22 (Int32.toInt_inj.mp (q.trans (by decide)))
  refine v_tableOut 106 dX9_isSign_1 (by omega) (by decide) ?_
  refine v_iconst (v := 0) dX9_isSign_106 (by decide) ?_
  refine v_zreturn rfl (by decide) dX9_isSign_107 ?_
  obtain ⟨rfl, rfl⟩ := Prod.mk.inj (Option.some.inj hF)
  exact ⟨rfl, rfl, hG⟩
def F_X9_kindOf (n : Nat) (h : Hp) (x1 : Int32) : Option (Int32 × Hp) := (if (x1 : Int32) < 0 then some (32, h) else (if ((hi h 18 5) : Int32) ≤ (x1 : Int32) then some (32, h) else (if ixOK x1 401 = true then some ((vp_nar .byte (hi h 20 (Int32.toNatClampNeg x1))), h) else none)))
set_option maxRecDepth 100000 in
set_option maxHeartbeats 4000000 in
theorem s_X9_kindOf (d : Nat) {n : Nat} {h : Hp} {x1 : Int32} {q0 : (Int32 × Hp)} (hF : F_X9_kindOf n h x1 = some q0) (hG : G h)  : Kc mX9_kindOf (d) [.ref 18, .int x1] h (fun r1 h1 => r1 = some (.int q0.1) ∧ h1 = q0.2 ∧ G q0.2) := by
  obtain ⟨r, h'⟩ := q0
  unfold F_X9_kindOf at hF
  refine Kc.of [some (.ref 18), some (.int x1)] ok_X9_kindOf rfl (Nat.le_of_ble_eq_true rfl) ?_
  refine v_iload_n (i := 1) dX9_kindOf_0 rfl rfl ?_
  refine v_if_lt 21 dX9_kindOf_1 (by decide) (fun c1 => ?_) (fun c1 => ?_)
  · rw [if_pos c1] at hF
    refine v_bipush (v := 32) dX9_kindOf_21 (by decide) ?_
    refine v_ireturn rfl dX9_kindOf_23 ?_
    obtain ⟨rfl, rfl⟩ := Prod.mk.inj (Option.some.inj hF)
    exact ⟨rfl, rfl, hG⟩
  · rw [if_neg c1] at hF
    refine v_iload_n (i := 1) dX9_kindOf_4 rfl rfl ?_
    refine v_aload_n (i := 0) dX9_kindOf_5 rfl rfl ?_
    refine g_X9_26 rfl sh_18 (by exact ltG hG (by decide)) dX9_kindOf_6 ?_
    refine v_icmp_ge 21 dX9_kindOf_9 (by decide) (fun c2 => ?_) (fun c2 => ?_)
    · rw [if_pos c2] at hF
      refine v_bipush (v := 32) dX9_kindOf_21 (by decide) ?_
      refine v_ireturn rfl dX9_kindOf_23 ?_
      obtain ⟨rfl, rfl⟩ := Prod.mk.inj (Option.some.inj hF)
      exact ⟨rfl, rfl, hG⟩
    · rw [if_neg c2] at hF
      refine v_aload_n (i := 0) dX9_kindOf_12 rfl rfl ?_
      refine g_X9_15 (q := 20) rfl sh_18 (by exact ltG hG (by decide)) (by exact rG hG r0_18_2) dX9_kindOf_13 ?_
      refine v_iload_n (i := 1) dX9_kindOf_16 rfl rfl ?_
      obtain ⟨k3, hF⟩ := ck_some hF
      refine v_baload sh_20 (by exact ltG hG (by decide)) (ixO k3) dX9_kindOf_17 ?_
      refine v_goto 23 dX9_kindOf_18 (by decide) ?_
      refine v_ireturn rfl dX9_kindOf_23 ?_
      obtain ⟨rfl, rfl⟩ := Prod.mk.inj (Option.some.inj hF)
      exact ⟨rfl, rfl, hG⟩
def W_X9_kindOfLetters : Nat → Nat → Hp → Int64 → Int32 → Option (Int32 × Hp)
  | 0 => fun _ _ _ _ => none
  | n + 1 => fun hd h l1 l3 => (if hd = 2 then (if (22 : Int32) ≤ (l3 : Int32) then some (31, h) else (if ixOK l3 22 = true then (if ((lg_cmp (hl h 19 (Int32.toNatClampNeg l3)) l1) : Int32) = 0 then some (l3, h) else W_X9_kindOfLetters n 2 h  l1 (l3 + 1)) else none)) else none)
set_option maxRecDepth 100000 in
set_option maxHeartbeats 4000000 in
theorem sw_X9_kindOfLetters (d : Nat)  (n : Nat) : (∀ (l1 : Int64) (l3 : Int32) (h : Hp), ∀ (r : Int32) (h' : Hp), W_X9_kindOfLetters n 2 h  l1 l3 = some (r, h') → G h → V mX9_kindOfLetters (d) 2 [some (.ref 18), some (.long l1), none, some (.int l3)] [] h (fun r1 h1 => r1 = some (.int r) ∧ h1 = h' ∧ G h')) := by
  induction n with
  | zero => exact by intros; contradiction
  | succ n ih =>
    have s_X9_kindOfLetters_IH_2 := ih
    intro l1 l3 h r h' hF hG
    unfold W_X9_kindOfLetters at hF
    rw [if_pos rfl] at hF
    refine v_iload_n (i := 3) dX9_kindOfLetters_2 rfl rfl ?_
    refine v_bipush (v := 22) dX9_kindOfLetters_3 (by decide) ?_
    refine v_icmp_ge 27 dX9_kindOfLetters_5 (by decide) (fun c1 => ?_) (fun c1 => ?_)
    · rw [if_pos c1] at hF
      refine v_bipush (v := 31) dX9_kindOfLetters_27 (by decide) ?_
      refine v_ireturn rfl dX9_kindOfLetters_29 ?_
      obtain ⟨rfl, rfl⟩ := Prod.mk.inj (Option.some.inj hF)
      exact ⟨rfl, rfl, hG⟩
    · rw [if_neg c1] at hF
      refine v_aload_n (i := 0) dX9_kindOfLetters_8 rfl rfl ?_
      refine g_X9_11 (q := 19) rfl sh_18 (by exact ltG hG (by decide)) (by exact rG hG r0_18_1) dX9_kindOfLetters_9 ?_
      refine v_iload_n (i := 3) dX9_kindOfLetters_12 rfl rfl ?_
      obtain ⟨k2, hF⟩ := ck_some hF
      refine v_laload sh_19 (by exact ltG hG (by decide)) (ixO k2) dX9_kindOfLetters_13 ?_
      refine v_lload_n (i := 1) dX9_kindOfLetters_14 rfl rfl ?_
      refine v_lcmp dX9_kindOfLetters_15 ?_
      refine v_if_ne 21 dX9_kindOfLetters_16 (by decide) (fun c3 => ?_) (fun c3 => ?_)
      · rw [if_neg c3] at hF
        refine v_iinc (i := 3) (v := (l3 + 1)) dX9_kindOfLetters_21 rfl rfl (by decide) (nlT rfl) ?_
        simp only [List.set_cons_zero, List.set_cons_succ]
        refine v_goto 2 dX9_kindOfLetters_24 (by decide) ?_
        refine V.weak (la2 := [some (.ref 18), some (.long l1), none, some (.int (l3 + 1))]) (by simp [wk]) ?_
        exact (s_X9_kindOfLetters_IH_2) _ _ _ _ _ hF hG
      · rw [if_pos c3] at hF
        refine v_iload_n (i := 3) dX9_kindOfLetters_19 rfl rfl ?_
        refine v_ireturn rfl dX9_kindOfLetters_20 ?_
        obtain ⟨rfl, rfl⟩ := Prod.mk.inj (Option.some.inj hF)
        exact ⟨rfl, rfl, hG⟩
def F_X9_kindOfLetters (n : Nat) (h : Hp) (x1 : Int64) : Option (Int32 × Hp) := W_X9_kindOfLetters n 2 h  x1 0
set_option maxRecDepth 100000 in
set_option maxHeartbeats 4000000 in
theorem s_X9_kindOfLetters (d : Nat) {n : Nat} {h : Hp} {x1 : Int64} {q0 : (Int32 × Hp)} (hF : F_X9_kindOfLetters n h x1 = some q0) (hG : G h)  : Kc mX9_kindOfLetters (d) [.ref 18, .long x1] h (fun r1 h1 => r1 = some (.int q0.1) ∧ h1 = q0.2 ∧ G q0.2) := by
  obtain ⟨r, h'⟩ := q0
  have s_X9_kindOfLetters_IH_2 := sw_X9_kindOfLetters d   n
  unfold F_X9_kindOfLetters at hF
  refine Kc.of [some (.ref 18), some (.long x1), none, none] ok_X9_kindOfLetters rfl (Nat.le_of_ble_eq_true rfl) ?_
  refine v_iconst (v := 0) dX9_kindOfLetters_0 (by decide) ?_
  refine v_istore_n (i := 3) dX9_kindOfLetters_1 rfl (by decide) (nlT rfl) ?_
  simp only [List.set_cons_zero, List.set_cons_succ]
  refine V.weak (la2 := [some (.ref 18), some (.long x1), none, some (.int 0)]) (by simp [wk]) ?_
  exact (s_X9_kindOfLetters_IH_2) _ _ _ _ _ hF hG
def F_X9_placeOf (n : Nat) (h : Hp) (x1 : Int32) : Option (Int32 × Hp) := (if (x1 : Int32) < 0 then some ((hi h 18 6), h) else (if ((hi h 18 5) : Int32) ≤ (x1 : Int32) then some ((hi h 18 6), h) else (if ixOK x1 401 = true then some ((vp_nar .short (hi h 21 (Int32.toNatClampNeg x1))), h) else none)))
set_option maxRecDepth 100000 in
set_option maxHeartbeats 4000000 in
theorem s_X9_placeOf (d : Nat) {n : Nat} {h : Hp} {x1 : Int32} {q0 : (Int32 × Hp)} (hF : F_X9_placeOf n h x1 = some q0) (hG : G h)  : Kc mX9_placeOf (d) [.ref 18, .int x1] h (fun r1 h1 => r1 = some (.int q0.1) ∧ h1 = q0.2 ∧ G q0.2) := by
  obtain ⟨r, h'⟩ := q0
  unfold F_X9_placeOf at hF
  refine Kc.of [some (.ref 18), some (.int x1)] ok_X9_placeOf rfl (Nat.le_of_ble_eq_true rfl) ?_
  refine v_iload_n (i := 1) dX9_placeOf_0 rfl rfl ?_
  refine v_if_lt 21 dX9_placeOf_1 (by decide) (fun c1 => ?_) (fun c1 => ?_)
  · rw [if_pos c1] at hF
    refine v_aload_n (i := 0) dX9_placeOf_21 rfl rfl ?_
    refine g_X9_30 rfl sh_18 (by exact ltG hG (by decide)) dX9_placeOf_22 ?_
    refine v_ireturn rfl dX9_placeOf_25 ?_
    obtain ⟨rfl, rfl⟩ := Prod.mk.inj (Option.some.inj hF)
    exact ⟨rfl, rfl, hG⟩
  · rw [if_neg c1] at hF
    refine v_iload_n (i := 1) dX9_placeOf_4 rfl rfl ?_
    refine v_aload_n (i := 0) dX9_placeOf_5 rfl rfl ?_
    refine g_X9_26 rfl sh_18 (by exact ltG hG (by decide)) dX9_placeOf_6 ?_
    refine v_icmp_ge 21 dX9_placeOf_9 (by decide) (fun c2 => ?_) (fun c2 => ?_)
    · rw [if_pos c2] at hF
      refine v_aload_n (i := 0) dX9_placeOf_21 rfl rfl ?_
      refine g_X9_30 rfl sh_18 (by exact ltG hG (by decide)) dX9_placeOf_22 ?_
      refine v_ireturn rfl dX9_placeOf_25 ?_
      obtain ⟨rfl, rfl⟩ := Prod.mk.inj (Option.some.inj hF)
      exact ⟨rfl, rfl, hG⟩
    · rw [if_neg c2] at hF
      refine v_aload_n (i := 0) dX9_placeOf_12 rfl rfl ?_
      refine g_X9_19 (q := 21) rfl sh_18 (by exact ltG hG (by decide)) (by exact rG hG r0_18_3) dX9_placeOf_13 ?_
      refine v_iload_n (i := 1) dX9_placeOf_16 rfl rfl ?_
      obtain ⟨k3, hF⟩ := ck_some hF
      refine v_saload sh_21 (by exact ltG hG (by decide)) (ixO k3) dX9_placeOf_17 ?_
      refine v_goto 25 dX9_placeOf_18 (by decide) ?_
      refine v_ireturn rfl dX9_placeOf_25 ?_
      obtain ⟨rfl, rfl⟩ := Prod.mk.inj (Option.some.inj hF)
      exact ⟨rfl, rfl, hG⟩
def F_X9_signAt (n : Nat) (h : Hp) (x1 : Int32) : Option (Int32 × Hp) := (if (x1 : Int32) < 0 then some (0, h) else (if ((hi h 18 6) : Int32) ≤ (x1 : Int32) then some (0, h) else (if (2000 : Int32) ≤ (x1 : Int32) then some (0, h) else (if ixOK x1 2000 = true then some ((((vp_nar .byte (hi h 1 (Int32.toNatClampNeg x1))) : Int32) &&& (255 : Int32)), h) else none))))
set_option maxRecDepth 100000 in
set_option maxHeartbeats 4000000 in
theorem s_X9_signAt (d : Nat) {n : Nat} {h : Hp} {x1 : Int32} {q0 : (Int32 × Hp)} (hF : F_X9_signAt n h x1 = some q0) (hG : G h)  : Kc mX9_signAt (d) [.ref 18, .int x1] h (fun r1 h1 => r1 = some (.int q0.1) ∧ h1 = q0.2 ∧ G q0.2) := by
  obtain ⟨r, h'⟩ := q0
  unfold F_X9_signAt at hF
  refine Kc.of [some (.ref 18), some (.int x1)] ok_X9_signAt rfl (Nat.le_of_ble_eq_true rfl) ?_
  refine v_iload_n (i := 1) dX9_signAt_0 rfl rfl ?_
  refine v_if_lt 34 dX9_signAt_1 (by decide) (fun c1 => ?_) (fun c1 => ?_)
  · rw [if_pos c1] at hF
    refine v_iconst (v := 0) dX9_signAt_34 (by decide) ?_
    refine v_ireturn rfl dX9_signAt_35 ?_
    obtain ⟨rfl, rfl⟩ := Prod.mk.inj (Option.some.inj hF)
    exact ⟨rfl, rfl, hG⟩
  · rw [if_neg c1] at hF
    refine v_iload_n (i := 1) dX9_signAt_4 rfl rfl ?_
    refine v_aload_n (i := 0) dX9_signAt_5 rfl rfl ?_
    refine g_X9_30 rfl sh_18 (by exact ltG hG (by decide)) dX9_signAt_6 ?_
    refine v_icmp_ge 34 dX9_signAt_9 (by decide) (fun c2 => ?_) (fun c2 => ?_)
    · rw [if_pos c2] at hF
      refine v_iconst (v := 0) dX9_signAt_34 (by decide) ?_
      refine v_ireturn rfl dX9_signAt_35 ?_
      obtain ⟨rfl, rfl⟩ := Prod.mk.inj (Option.some.inj hF)
      exact ⟨rfl, rfl, hG⟩
    · rw [if_neg c2] at hF
      refine v_iload_n (i := 1) dX9_signAt_12 rfl rfl ?_
      refine v_aload_n (i := 0) dX9_signAt_13 rfl rfl ?_
      refine g_X9_33 (q := 1) rfl sh_18 (by exact ltG hG (by decide)) (by exact rG hG r0_18_0) dX9_signAt_14 ?_
      refine v_alen (v := 2000) sh_1 (by exact ltG hG (by decide)) 1 (fun _ => rfl) rfl dX9_signAt_17 ?_
      refine v_icmp_ge 34 dX9_signAt_18 (by decide) (fun c3 => ?_) (fun c3 => ?_)
      · rw [if_pos c3] at hF
        refine v_iconst (v := 0) dX9_signAt_34 (by decide) ?_
        refine v_ireturn rfl dX9_signAt_35 ?_
        obtain ⟨rfl, rfl⟩ := Prod.mk.inj (Option.some.inj hF)
        exact ⟨rfl, rfl, hG⟩
      · rw [if_neg c3] at hF
        refine v_aload_n (i := 0) dX9_signAt_21 rfl rfl ?_
        refine g_X9_33 (q := 1) rfl sh_18 (by exact ltG hG (by decide)) (by exact rG hG r0_18_0) dX9_signAt_22 ?_
        refine v_iload_n (i := 1) dX9_signAt_25 rfl rfl ?_
        obtain ⟨k4, hF⟩ := ck_some hF
        refine v_baload sh_1 (by exact ltG hG (by decide)) (ixO k4) dX9_signAt_26 ?_
        refine v_sipush (v := 255) dX9_signAt_27 (by decide) ?_
        refine v_iand dX9_signAt_30 ?_
        refine v_goto 35 dX9_signAt_31 (by decide) ?_
        refine v_ireturn rfl dX9_signAt_35 ?_
        obtain ⟨rfl, rfl⟩ := Prod.mk.inj (Option.some.inj hF)
        exact ⟨rfl, rfl, hG⟩
def F_X9_valueOf (n : Nat) (h : Hp) (x1 : Int32) : Option (Int64 × Hp) := (if (x1 : Int32) < 0 then some (0, h) else (if ((hi h 18 5) : Int32) ≤ (x1 : Int32) then some (0, h) else (if ixOK x1 401 = true then some ((hl h 22 (Int32.toNatClampNeg x1)), h) else none)))
set_option maxRecDepth 100000 in
set_option maxHeartbeats 4000000 in
theorem s_X9_valueOf (d : Nat) {n : Nat} {h : Hp} {x1 : Int32} {q0 : (Int64 × Hp)} (hF : F_X9_valueOf n h x1 = some q0) (hG : G h)  : Kc mX9_valueOf (d) [.ref 18, .int x1] h (fun r1 h1 => r1 = some (.long q0.1) ∧ h1 = q0.2 ∧ G q0.2) := by
  obtain ⟨r, h'⟩ := q0
  unfold F_X9_valueOf at hF
  refine Kc.of [some (.ref 18), some (.int x1)] ok_X9_valueOf rfl (Nat.le_of_ble_eq_true rfl) ?_
  refine v_iload_n (i := 1) dX9_valueOf_0 rfl rfl ?_
  refine v_if_lt 21 dX9_valueOf_1 (by decide) (fun c1 => ?_) (fun c1 => ?_)
  · rw [if_pos c1] at hF
    refine v_lconst (v := 0) dX9_valueOf_21 (by decide) ?_
    refine v_lreturn rfl dX9_valueOf_22 ?_
    obtain ⟨rfl, rfl⟩ := Prod.mk.inj (Option.some.inj hF)
    exact ⟨rfl, rfl, hG⟩
  · rw [if_neg c1] at hF
    refine v_iload_n (i := 1) dX9_valueOf_4 rfl rfl ?_
    refine v_aload_n (i := 0) dX9_valueOf_5 rfl rfl ?_
    refine g_X9_26 rfl sh_18 (by exact ltG hG (by decide)) dX9_valueOf_6 ?_
    refine v_icmp_ge 21 dX9_valueOf_9 (by decide) (fun c2 => ?_) (fun c2 => ?_)
    · rw [if_pos c2] at hF
      refine v_lconst (v := 0) dX9_valueOf_21 (by decide) ?_
      refine v_lreturn rfl dX9_valueOf_22 ?_
      obtain ⟨rfl, rfl⟩ := Prod.mk.inj (Option.some.inj hF)
      exact ⟨rfl, rfl, hG⟩
    · rw [if_neg c2] at hF
      refine v_aload_n (i := 0) dX9_valueOf_12 rfl rfl ?_
      refine g_X9_23 (q := 22) rfl sh_18 (by exact ltG hG (by decide)) (by exact rG hG r0_18_4) dX9_valueOf_13 ?_
      refine v_iload_n (i := 1) dX9_valueOf_16 rfl rfl ?_
      obtain ⟨k3, hF⟩ := ck_some hF
      refine v_laload sh_22 (by exact ltG hG (by decide)) (ixO k3) dX9_valueOf_17 ?_
      refine v_goto 22 dX9_valueOf_18 (by decide) ?_
      refine v_lreturn rfl dX9_valueOf_22 ?_
      obtain ⟨rfl, rfl⟩ := Prod.mk.inj (Option.some.inj hF)
      exact ⟨rfl, rfl, hG⟩
def F_X9_withLetter (n : Nat) (h : Hp) (x1 : Int64) (x2 : Int32) : Option (Int64 × Hp) := some (((x1 * 32) + (((x2 - 97) + 1) : Int32).toInt64), h)
set_option maxRecDepth 100000 in
set_option maxHeartbeats 4000000 in
theorem s_X9_withLetter (d : Nat) {n : Nat} {h : Hp} {x1 : Int64} {x2 : Int32} {q0 : (Int64 × Hp)} (hF : F_X9_withLetter n h x1 x2 = some q0) (hG : G h)  : Kc mX9_withLetter (d) [.long x1, .int x2] h (fun r1 h1 => r1 = some (.long q0.1) ∧ h1 = q0.2 ∧ G q0.2) := by
  obtain ⟨r, h'⟩ := q0
  unfold F_X9_withLetter at hF
  refine Kc.of [some (.long x1), none, some (.int x2)] ok_X9_withLetter rfl (Nat.le_of_ble_eq_true rfl) ?_
  refine v_lload_n (i := 0) dX9_withLetter_0 rfl rfl ?_
  refine v_ldc2 (32) kl_X9_51 dX9_withLetter_1 ?_
  refine v_lmul dX9_withLetter_4 ?_
  refine v_iload_n (i := 2) dX9_withLetter_5 rfl rfl ?_
  refine v_bipush (v := 97) dX9_withLetter_6 (by decide) ?_
  refine v_isub dX9_withLetter_8 ?_
  refine v_iconst (v := 1) dX9_withLetter_9 (by decide) ?_
  refine v_iadd dX9_withLetter_10 ?_
  refine v_i2l dX9_withLetter_11 ?_
  refine v_ladd dX9_withLetter_12 ?_
  refine v_lreturn rfl dX9_withLetter_13 ?_
  obtain ⟨rfl, rfl⟩ := Prod.mk.inj (Option.some.inj hF)
  exact ⟨rfl, rfl, hG⟩
def F_X0_become (n : Nat) (h : Hp) (a : Nat) (b1 : Nat) : Option Hp := ((F_X3_become n h (a + 1) (b1 + 1)).bind (fun q1 => ((F_X4_become n q1 (a + 2) (b1 + 2)).bind (fun q3 => some (wrI (wrI (wrI q3 a 2 (hi q3 b1 2)) a 3 (hi (wrI q3 a 2 (hi q3 b1 2)) b1 3)) a 4 (hi (wrI (wrI q3 a 2 (hi q3 b1 2)) a 3 (hi (wrI q3 a 2 (hi q3 b1 2)) b1 3)) b1 4))))))
set_option maxRecDepth 100000 in
set_option maxHeartbeats 4000000 in
theorem s_X0_become (d : Nat) {n : Nat} {h : Hp} {a : Nat} {b1 : Nat} {q0 : Hp} (hF : F_X0_become n h a b1 = some q0) (hG : G h) (hs : IsBd a) (ht1 : IsBd b1) : Kc mX0_become (d + 2) [.ref a, .ref b1] h (fun r1 h1 => r1 = none ∧ h1 = q0 ∧ G q0) := by
  obtain ⟨s0, sF, sL, s3, s4, s5, s6, s7⟩ := id hs
  obtain ⟨sf0, sf4⟩ := id sF
  obtain ⟨sl0, sl1, sl2, sl3, sl4, sl5, sl6, sl7⟩ := id sL
  obtain ⟨t10, t1F, t1L, t13, t14, t15, t16, t17⟩ := id ht1
  obtain ⟨t1f0, t1f4⟩ := id t1F
  obtain ⟨t1l0, t1l1, t1l2, t1l3, t1l4, t1l5, t1l6, t1l7⟩ := id t1L
  obtain ⟨h', rfl⟩ : ∃ z, z = q0 := ⟨_, rfl⟩
  unfold F_X0_become at hF
  refine Kc.of [some (.ref a), some (.ref b1)] ok_X0_become rfl (Nat.le_of_ble_eq_true rfl) ?_
  refine v_aload_n (i := 0) dX0_become_0 rfl rfl ?_
  refine g_X0_12 (q := (a + 1)) rfl s0 (by exact ltG hG (by omega)) (by exact rG hG s5) dX0_become_1 ?_
  refine v_aload_n (i := 1) dX0_become_4 rfl rfl ?_
  refine g_X0_12 (q := (b1 + 1)) rfl t10 (by exact ltG hG (by omega)) (by exact rG hG t15) dX0_become_5 ?_
  obtain ⟨q1, q1_e, hF⟩ := Option.bind_eq_some_iff.mp hF
  refine c_X0_46 rfl sf0 (by exact ltG hG (by omega)) (Nat.le_of_ble_eq_true rfl) dX0_become_8 (s_X3_become _ q1_e hG (by first | assumption | exact sc_30 | exact sc_34 | exact sc_10 | exact fd_24 | exact fd_4 | exact lw_25 | exact lw_5 | exact bd_23 | exact bd_3 | exact ⟨by first | assumption | rfl, by first | decide | omega⟩) (by first | assumption | exact sc_30 | exact sc_34 | exact sc_10 | exact fd_24 | exact fd_4 | exact lw_25 | exact lw_5 | exact bd_23 | exact bd_3 | exact ⟨by first | assumption | rfl, by first | decide | omega⟩)) (fun r1 h1 hq => ?_)
  obtain ⟨rfl, hq, hG⟩ := hq
  replace hq := hq.symm
  subst hq
  simp only [Option.toList, List.nil_append]
  refine v_aload_n (i := 0) dX0_become_11 rfl rfl ?_
  refine g_X0_21 (q := (a + 2)) rfl s0 (by exact ltG hG (by omega)) (by exact rG hG s6) dX0_become_12 ?_
  refine v_aload_n (i := 1) dX0_become_15 rfl rfl ?_
  refine g_X0_21 (q := (b1 + 2)) rfl t10 (by exact ltG hG (by omega)) (by exact rG hG t16) dX0_become_16 ?_
  obtain ⟨q3, q3_e, hF⟩ := Option.bind_eq_some_iff.mp hF
  refine c_X0_50 rfl sl0 (by exact ltG hG (by omega)) (Nat.le_of_ble_eq_true rfl) dX0_become_19 (s_X4_become _ q3_e hG (by first | assumption | exact sc_30 | exact sc_34 | exact sc_10 | exact fd_24 | exact fd_4 | exact lw_25 | exact lw_5 | exact bd_23 | exact bd_3 | exact ⟨by first | assumption | rfl, by first | decide | omega⟩) (by first | assumption | exact sc_30 | exact sc_34 | exact sc_10 | exact fd_24 | exact fd_4 | exact lw_25 | exact lw_5 | exact bd_23 | exact bd_3 | exact ⟨by first | assumption | rfl, by first | decide | omega⟩)) (fun r1 h1 hq => ?_)
  obtain ⟨rfl, hq, hG⟩ := hq
  replace hq := hq.symm
  subst hq
  simp only [Option.toList, List.nil_append]
  refine v_aload_n (i := 0) dX0_become_22 rfl rfl ?_
  refine v_aload_n (i := 1) dX0_become_23 rfl rfl ?_
  refine g_X0_25 rfl t10 (by exact ltG hG (by omega)) dX0_become_24 ?_
  refine p_X0_25 rfl s0 (by exact ltG hG (by omega)) dX0_become_27 ?_
  refine v_aload_n (i := 0) dX0_become_30 rfl rfl ?_
  refine v_aload_n (i := 1) dX0_become_31 rfl rfl ?_
  refine g_X0_29 rfl t10 (by exact ltG hG (by omega)) dX0_become_32 ?_
  refine p_X0_29 rfl s0 (by exact ltG hG (by omega)) dX0_become_35 ?_
  refine v_aload_n (i := 0) dX0_become_38 rfl rfl ?_
  refine v_aload_n (i := 1) dX0_become_39 rfl rfl ?_
  refine g_X0_32 rfl t10 (by exact ltG hG (by omega)) dX0_become_40 ?_
  refine p_X0_32 rfl s0 (by exact ltG hG (by omega)) dX0_become_43 ?_
  refine v_return rfl dX0_become_46 ?_
  obtain rfl := Option.some.inj hF
  exact ⟨rfl, rfl, hG⟩
