def F_X7_readLawn (n : Nat) (h : Hp) : Option Hp := ((F_X7_take n h 9).bind (fun q1 => ((F_X7_takeNumber n q1.2 2 5).bind (fun q3 => ((F_X7_takeNumber n q3.2 2 5).bind (fun q5 => ((F_X3_lay n q5.2 4 q3.1 q5.1).bind (fun q7 => some q7))))))))
set_option maxRecDepth 100000 in
set_option maxHeartbeats 4000000 in
theorem s_X7_readLawn (d : Nat) {n : Nat} {h : Hp}  {q0 : Hp} (hF : F_X7_readLawn n h  = some q0) (hG : G h)  : Kc mX7_readLawn (d + 3) [.ref 2] h (fun r1 h1 => r1 = none ∧ h1 = q0 ∧ G q0) := by
  obtain ⟨h', rfl⟩ : ∃ z, z = q0 := ⟨_, rfl⟩
  unfold F_X7_readLawn at hF
  refine Kc.of [some (.ref 2), none] ok_X7_readLawn rfl (Nat.le_of_ble_eq_true rfl) ?_
  refine v_aload_n (i := 0) dX7_readLawn_0 rfl rfl ?_
  refine v_bipush (v := 9) dX7_readLawn_1 (by decide) ?_
  obtain ⟨q1, q1_e, hF⟩ := Option.bind_eq_some_iff.mp hF
  refine c_X7_120 rfl sh_2 (by exact ltG hG (by decide)) (Nat.le_of_ble_eq_true rfl) dX7_readLawn_3 (s_X7_take _ q1_e hG) (fun r1 h1 hq => ?_)
  obtain ⟨rfl, hq, hG⟩ := hq
  replace hq := hq.symm
  subst hq
  show V _ _ _ _ (_ :: _) _ _
  refine v_pop dX7_readLawn_6 rfl ?_
  refine v_aload_n (i := 0) dX7_readLawn_7 rfl rfl ?_
  refine v_iconst (v := 2) dX7_readLawn_8 (by decide) ?_
  refine v_iconst (v := 5) dX7_readLawn_9 (by decide) ?_
  obtain ⟨q3, q3_e, hF⟩ := Option.bind_eq_some_iff.mp hF
  refine c_X7_124 rfl sh_2 (by exact ltG hG (by decide)) (Nat.le_of_ble_eq_true rfl) dX7_readLawn_10 (s_X7_takeNumber _ q3_e hG) (fun r1 h1 hq => ?_)
  obtain ⟨rfl, hq, hG⟩ := hq
  replace hq := hq.symm
  subst hq
  show V _ _ _ _ (_ :: _) _ _
  refine v_istore_n (i := 1) dX7_readLawn_13 rfl (by decide) (nlT rfl) ?_
  simp only [List.set_cons_zero, List.set_cons_succ]
  refine v_aload_n (i := 0) dX7_readLawn_14 rfl rfl ?_
  refine g_X7_12 (q := 3) rfl sh_2 (by exact ltG hG (by decide)) (by exact rG hG r0_2_0) dX7_readLawn_15 ?_
  refine g_X7_153 (q := 4) rfl sh_3 (by exact ltG hG (by decide)) (by exact rG hG r0_3_0) dX7_readLawn_18 ?_
  refine v_iload_n (i := 1) dX7_readLawn_21 rfl rfl ?_
  refine v_aload_n (i := 0) dX7_readLawn_22 rfl rfl ?_
  refine v_iconst (v := 2) dX7_readLawn_23 (by decide) ?_
  refine v_iconst (v := 5) dX7_readLawn_24 (by decide) ?_
  obtain ⟨q5, q5_e, hF⟩ := Option.bind_eq_some_iff.mp hF
  refine c_X7_124 rfl sh_2 (by exact ltG hG (by decide)) (Nat.le_of_ble_eq_true rfl) dX7_readLawn_25 (s_X7_takeNumber _ q5_e hG) (fun r1 h1 hq => ?_)
  obtain ⟨rfl, hq, hG⟩ := hq
  replace hq := hq.symm
  subst hq
  show V _ _ _ _ (_ :: _) _ _
  obtain ⟨q7, q7_e, hF⟩ := Option.bind_eq_some_iff.mp hF
  refine c_X7_157 rfl sh_4 (by exact ltG hG (by decide)) (Nat.le_of_ble_eq_true rfl) dX7_readLawn_28 (s_X3_lay _ q7_e hG (by first | assumption | exact sc_30 | exact sc_34 | exact sc_10 | exact fd_24 | exact fd_4 | exact lw_25 | exact lw_5 | exact bd_23 | exact bd_3 | exact ⟨by first | assumption | rfl, by first | decide | omega⟩)) (fun r1 h1 hq => ?_)
  obtain ⟨rfl, hq, hG⟩ := hq
  replace hq := hq.symm
  subst hq
  simp only [Option.toList, List.nil_append]
  refine v_return rfl dX7_readLawn_31 ?_
  obtain rfl := Option.some.inj hF
  exact ⟨rfl, rfl, hG⟩
def F_X7_readRope (n : Nat) (h : Hp) : Option Hp := (if ((hi h 2 14) : Int32) < (8 : Int32) then ((F_X7_take n (wrI h 2 14 ((hi h 2 14) + 1)) 12).bind (fun q2 => ((F_X7_takeSpot n q2.2).bind (fun q4 => some (wrI q4.2 2 12 (((hi q2.2 2 12) : Int32) ||| (((1 : Int32) <<< ((q4.1 : Int32) &&& 31)) : Int32))))))) else ((F_X7_stop n h 2).bind (fun q6 => ((F_X7_take n (wrI q6 2 14 ((hi q6 2 14) + 1)) 12).bind (fun q8 => ((F_X7_takeSpot n q8.2).bind (fun q10 => some (wrI q10.2 2 12 (((hi q8.2 2 12) : Int32) ||| (((1 : Int32) <<< ((q10.1 : Int32) &&& 31)) : Int32))))))))))
set_option maxRecDepth 100000 in
set_option maxHeartbeats 4000000 in
theorem s_X7_readRope (d : Nat) {n : Nat} {h : Hp}  {q0 : Hp} (hF : F_X7_readRope n h  = some q0) (hG : G h)  : Kc mX7_readRope (d + 4) [.ref 2] h (fun r1 h1 => r1 = none ∧ h1 = q0 ∧ G q0) := by
  obtain ⟨h', rfl⟩ : ∃ z, z = q0 := ⟨_, rfl⟩
  unfold F_X7_readRope at hF
  refine Kc.of [some (.ref 2)] ok_X7_readRope rfl (Nat.le_of_ble_eq_true rfl) ?_
  refine v_aload_n (i := 0) dX7_readRope_0 rfl rfl ?_
  refine g_X7_61 rfl sh_2 (by exact ltG hG (by decide)) dX7_readRope_1 ?_
  refine v_bipush (v := 8) dX7_readRope_4 (by decide) ?_
  refine v_icmp_lt 14 dX7_readRope_6 (by decide) (fun c1 => ?_) (fun c1 => ?_)
  · rw [if_pos c1] at hF
    refine v_aload_n (i := 0) dX7_readRope_14 rfl rfl ?_
    refine v_dup dX7_readRope_15 rfl ?_
    refine g_X7_61 rfl sh_2 (by exact ltG hG (by decide)) dX7_readRope_16 ?_
    refine v_iconst (v := 1) dX7_readRope_19 (by decide) ?_
    refine v_iadd dX7_readRope_20 ?_
    refine p_X7_61 rfl sh_2 (by exact ltG hG (by decide)) dX7_readRope_21 ?_
    refine v_aload_n (i := 0) dX7_readRope_24 rfl rfl ?_
    refine v_bipush (v := 12) dX7_readRope_25 (by decide) ?_
    obtain ⟨q2, q2_e, hF⟩ := Option.bind_eq_some_iff.mp hF
    refine c_X7_120 rfl sh_2 (by exact ltG hG (by decide)) (Nat.le_of_ble_eq_true rfl) dX7_readRope_27 (s_X7_take _ q2_e hG) (fun r1 h1 hq => ?_)
    obtain ⟨rfl, hq, hG⟩ := hq
    replace hq := hq.symm
    subst hq
    show V _ _ _ _ (_ :: _) _ _
    refine v_pop dX7_readRope_30 rfl ?_
    refine v_aload_n (i := 0) dX7_readRope_31 rfl rfl ?_
    refine v_dup dX7_readRope_32 rfl ?_
    refine g_X7_55 rfl sh_2 (by exact ltG hG (by decide)) dX7_readRope_33 ?_
    refine v_iconst (v := 1) dX7_readRope_36 (by decide) ?_
    refine v_aload_n (i := 0) dX7_readRope_37 rfl rfl ?_
    obtain ⟨q4, q4_e, hF⟩ := Option.bind_eq_some_iff.mp hF
    refine c_X7_162 rfl sh_2 (by exact ltG hG (by decide)) (Nat.le_of_ble_eq_true rfl) dX7_readRope_38 (s_X7_takeSpot _ q4_e hG) (fun r1 h1 hq => ?_)
    obtain ⟨rfl, hq, hG⟩ := hq
    replace hq := hq.symm
    subst hq
    show V _ _ _ _ (_ :: _) _ _
    refine v_ishl dX7_readRope_41 ?_
    refine v_ior dX7_readRope_42 ?_
    refine p_X7_55 rfl sh_2 (by exact ltG hG (by decide)) dX7_readRope_43 ?_
    refine v_return rfl dX7_readRope_46 ?_
    obtain rfl := Option.some.inj hF
    exact ⟨rfl, rfl, hG⟩
  · rw [if_neg c1] at hF
    refine v_aload_n (i := 0) dX7_readRope_9 rfl rfl ?_
    refine v_iconst (v := 2) dX7_readRope_10 (by decide) ?_
    obtain ⟨q6, q6_e, hF⟩ := Option.bind_eq_some_iff.mp hF
    refine c_X7_105 rfl sh_2 (by exact ltG hG (by decide)) (Nat.le_of_ble_eq_true rfl) dX7_readRope_11 (s_X7_stop _ q6_e hG) (fun r1 h1 hq => ?_)
    obtain ⟨rfl, hq, hG⟩ := hq
    replace hq := hq.symm
    subst hq
    simp only [Option.toList, List.nil_append]
    refine v_aload_n (i := 0) dX7_readRope_14 rfl rfl ?_
    refine v_dup dX7_readRope_15 rfl ?_
    refine g_X7_61 rfl sh_2 (by exact ltG hG (by decide)) dX7_readRope_16 ?_
    refine v_iconst (v := 1) dX7_readRope_19 (by decide) ?_
    refine v_iadd dX7_readRope_20 ?_
    refine p_X7_61 rfl sh_2 (by exact ltG hG (by decide)) dX7_readRope_21 ?_
    refine v_aload_n (i := 0) dX7_readRope_24 rfl rfl ?_
    refine v_bipush (v := 12) dX7_readRope_25 (by decide) ?_
    obtain ⟨q8, q8_e, hF⟩ := Option.bind_eq_some_iff.mp hF
    refine c_X7_120 rfl sh_2 (by exact ltG hG (by decide)) (Nat.le_of_ble_eq_true rfl) dX7_readRope_27 (s_X7_take _ q8_e hG) (fun r1 h1 hq => ?_)
    obtain ⟨rfl, hq, hG⟩ := hq
    replace hq := hq.symm
    subst hq
    show V _ _ _ _ (_ :: _) _ _
    refine v_pop dX7_readRope_30 rfl ?_
    refine v_aload_n (i := 0) dX7_readRope_31 rfl rfl ?_
    refine v_dup dX7_readRope_32 rfl ?_
    refine g_X7_55 rfl sh_2 (by exact ltG hG (by decide)) dX7_readRope_33 ?_
    refine v_iconst (v := 1) dX7_readRope_36 (by decide) ?_
    refine v_aload_n (i := 0) dX7_readRope_37 rfl rfl ?_
    obtain ⟨q10, q10_e, hF⟩ := Option.bind_eq_some_iff.mp hF
    refine c_X7_162 rfl sh_2 (by exact ltG hG (by decide)) (Nat.le_of_ble_eq_true rfl) dX7_readRope_38 (s_X7_takeSpot _ q10_e hG) (fun r1 h1 hq => ?_)
    obtain ⟨rfl, hq, hG⟩ := hq
    replace hq := hq.symm
    subst hq
    show V _ _ _ _ (_ :: _) _ _
    refine v_ishl dX7_readRope_41 ?_
    refine v_ior dX7_readRope_42 ?_
    refine p_X7_55 rfl sh_2 (by exact ltG hG (by decide)) dX7_readRope_43 ?_
    refine v_return rfl dX7_readRope_46 ?_
    obtain rfl := Option.some.inj hF
    exact ⟨rfl, rfl, hG⟩
def F_X7_readTune (n : Nat) (h : Hp) : Option Hp := (if ((hi h 2 13) : Int32) < (8 : Int32) then ((F_X7_take n (wrI h 2 13 ((hi h 2 13) + 1)) 10).bind (fun q2 => ((F_X7_takeSpot n q2.2).bind (fun q4 => ((F_X7_takeNumber n q4.2 2 6).bind (fun q6 => ((F_X7_takeNumber n q6.2 0 (q6.1 - 1)).bind (fun q8 => (if (q4.1 : Int32) < 0 then some q8.2 else (if (25 : Int32) ≤ (q4.1 : Int32) then some q8.2 else (if ixOK q4.1 25 = true then (if ixOK q4.1 25 = true then some (wrI (wrI q8.2 16 (Int32.toNatClampNeg q4.1) q6.1) 17 (Int32.toNatClampNeg q4.1) q8.1) else none) else none))))))))))) else ((F_X7_stop n h 2).bind (fun q14 => ((F_X7_take n (wrI q14 2 13 ((hi q14 2 13) + 1)) 10).bind (fun q16 => ((F_X7_takeSpot n q16.2).bind (fun q18 => ((F_X7_takeNumber n q18.2 2 6).bind (fun q20 => ((F_X7_takeNumber n q20.2 0 (q20.1 - 1)).bind (fun q22 => (if (q18.1 : Int32) < 0 then some q22.2 else (if (25 : Int32) ≤ (q18.1 : Int32) then some q22.2 else (if ixOK q18.1 25 = true then (if ixOK q18.1 25 = true then some (wrI (wrI q22.2 16 (Int32.toNatClampNeg q18.1) q20.1) 17 (Int32.toNatClampNeg q18.1) q22.1) else none) else none))))))))))))))
set_option maxRecDepth 100000 in
set_option maxHeartbeats 4000000 in
theorem s_X7_readTune (d : Nat) {n : Nat} {h : Hp}  {q0 : Hp} (hF : F_X7_readTune n h  = some q0) (hG : G h)  : Kc mX7_readTune (d + 4) [.ref 2] h (fun r1 h1 => r1 = none ∧ h1 = q0 ∧ G q0) := by
  obtain ⟨h', rfl⟩ : ∃ z, z = q0 := ⟨_, rfl⟩
  unfold F_X7_readTune at hF
  refine Kc.of [some (.ref 2), none, none, none] ok_X7_readTune rfl (Nat.le_of_ble_eq_true rfl) ?_
  refine v_aload_n (i := 0) dX7_readTune_0 rfl rfl ?_
  refine g_X7_58 rfl sh_2 (by exact ltG hG (by decide)) dX7_readTune_1 ?_
  refine v_bipush (v := 8) dX7_readTune_4 (by decide) ?_
  refine v_icmp_lt 14 dX7_readTune_6 (by decide) (fun c1 => ?_) (fun c1 => ?_)
  · rw [if_pos c1] at hF
    refine v_aload_n (i := 0) dX7_readTune_14 rfl rfl ?_
    refine v_dup dX7_readTune_15 rfl ?_
    refine g_X7_58 rfl sh_2 (by exact ltG hG (by decide)) dX7_readTune_16 ?_
    refine v_iconst (v := 1) dX7_readTune_19 (by decide) ?_
    refine v_iadd dX7_readTune_20 ?_
    refine p_X7_58 rfl sh_2 (by exact ltG hG (by decide)) dX7_readTune_21 ?_
    refine v_aload_n (i := 0) dX7_readTune_24 rfl rfl ?_
    refine v_bipush (v := 10) dX7_readTune_25 (by decide) ?_
    obtain ⟨q2, q2_e, hF⟩ := Option.bind_eq_some_iff.mp hF
    refine c_X7_120 rfl sh_2 (by exact ltG hG (by decide)) (Nat.le_of_ble_eq_true rfl) dX7_readTune_27 (s_X7_take _ q2_e hG) (fun r1 h1 hq => ?_)
    obtain ⟨rfl, hq, hG⟩ := hq
    replace hq := hq.symm
    subst hq
    show V _ _ _ _ (_ :: _) _ _
    refine v_pop dX7_readTune_30 rfl ?_
    refine v_aload_n (i := 0) dX7_readTune_31 rfl rfl ?_
    obtain ⟨q4, q4_e, hF⟩ := Option.bind_eq_some_iff.mp hF
    refine c_X7_162 rfl sh_2 (by exact ltG hG (by decide)) (Nat.le_of_ble_eq_true rfl) dX7_readTune_32 (s_X7_takeSpot _ q4_e hG) (fun r1 h1 hq => ?_)
    obtain ⟨rfl, hq, hG⟩ := hq
    replace hq := hq.symm
    subst hq
    show V _ _ _ _ (_ :: _) _ _
    refine v_istore_n (i := 1) dX7_readTune_35 rfl (by decide) (nlT rfl) ?_
    simp only [List.set_cons_zero, List.set_cons_succ]
    refine v_aload_n (i := 0) dX7_readTune_36 rfl rfl ?_
    refine v_iconst (v := 2) dX7_readTune_37 (by decide) ?_
    refine v_bipush (v := 6) dX7_readTune_38 (by decide) ?_
    obtain ⟨q6, q6_e, hF⟩ := Option.bind_eq_some_iff.mp hF
    refine c_X7_124 rfl sh_2 (by exact ltG hG (by decide)) (Nat.le_of_ble_eq_true rfl) dX7_readTune_40 (s_X7_takeNumber _ q6_e hG) (fun r1 h1 hq => ?_)
    obtain ⟨rfl, hq, hG⟩ := hq
    replace hq := hq.symm
    subst hq
    show V _ _ _ _ (_ :: _) _ _
    refine v_istore_n (i := 2) dX7_readTune_43 rfl (by decide) (nlT rfl) ?_
    simp only [List.set_cons_zero, List.set_cons_succ]
    refine v_aload_n (i := 0) dX7_readTune_44 rfl rfl ?_
    refine v_iconst (v := 0) dX7_readTune_45 (by decide) ?_
    refine v_iload_n (i := 2) dX7_readTune_46 rfl rfl ?_
    refine v_iconst (v := 1) dX7_readTune_47 (by decide) ?_
    refine v_isub dX7_readTune_48 ?_
    obtain ⟨q8, q8_e, hF⟩ := Option.bind_eq_some_iff.mp hF
    refine c_X7_124 rfl sh_2 (by exact ltG hG (by decide)) (Nat.le_of_ble_eq_true rfl) dX7_readTune_49 (s_X7_takeNumber _ q8_e hG) (fun r1 h1 hq => ?_)
    obtain ⟨rfl, hq, hG⟩ := hq
    replace hq := hq.symm
    subst hq
    show V _ _ _ _ (_ :: _) _ _
    refine v_istore_n (i := 3) dX7_readTune_52 rfl (by decide) (nlT rfl) ?_
    simp only [List.set_cons_zero, List.set_cons_succ]
    refine v_iload_n (i := 1) dX7_readTune_53 rfl rfl ?_
    refine v_if_lt 77 dX7_readTune_54 (by decide) (fun c10 => ?_) (fun c10 => ?_)
    · rw [if_pos c10] at hF
      refine v_return rfl dX7_readTune_77 ?_
      obtain rfl := Option.some.inj hF
      exact ⟨rfl, rfl, hG⟩
    · rw [if_neg c10] at hF
      refine v_iload_n (i := 1) dX7_readTune_57 rfl rfl ?_
      refine v_bipush (v := 25) dX7_readTune_58 (by decide) ?_
      refine v_icmp_ge 77 dX7_readTune_60 (by decide) (fun c11 => ?_) (fun c11 => ?_)
      · rw [if_pos c11] at hF
        refine v_return rfl dX7_readTune_77 ?_
        obtain rfl := Option.some.inj hF
        exact ⟨rfl, rfl, hG⟩
      · rw [if_neg c11] at hF
        refine v_aload_n (i := 0) dX7_readTune_63 rfl rfl ?_
        refine g_X7_49 (q := 16) rfl sh_2 (by exact ltG hG (by decide)) (by exact rG hG r0_2_10) dX7_readTune_64 ?_
        refine v_iload_n (i := 1) dX7_readTune_67 rfl rfl ?_
        refine v_iload_n (i := 2) dX7_readTune_68 rfl rfl ?_
        obtain ⟨k12, hF⟩ := ck_some hF
        refine v_iastore sh_16 (by exact ltG hG (by decide)) (ixO k12) dX7_readTune_69 ?_
        refine v_aload_n (i := 0) dX7_readTune_70 rfl rfl ?_
        refine g_X7_52 (q := 17) rfl sh_2 (by exact ltG hG (by decide)) (by exact rG hG r0_2_11) dX7_readTune_71 ?_
        refine v_iload_n (i := 1) dX7_readTune_74 rfl rfl ?_
        refine v_iload_n (i := 3) dX7_readTune_75 rfl rfl ?_
        obtain ⟨k13, hF⟩ := ck_some hF
        refine v_iastore sh_17 (by exact ltG hG (by decide)) (ixO k13) dX7_readTune_76 ?_
        refine v_return rfl dX7_readTune_77 ?_
        obtain rfl := Option.some.inj hF
        exact ⟨rfl, rfl, hG⟩
  · rw [if_neg c1] at hF
    refine v_aload_n (i := 0) dX7_readTune_9 rfl rfl ?_
    refine v_iconst (v := 2) dX7_readTune_10 (by decide) ?_
    obtain ⟨q14, q14_e, hF⟩ := Option.bind_eq_some_iff.mp hF
    refine c_X7_105 rfl sh_2 (by exact ltG hG (by decide)) (Nat.le_of_ble_eq_true rfl) dX7_readTune_11 (s_X7_stop _ q14_e hG) (fun r1 h1 hq => ?_)
    obtain ⟨rfl, hq, hG⟩ := hq
    replace hq := hq.symm
    subst hq
    simp only [Option.toList, List.nil_append]
    refine v_aload_n (i := 0) dX7_readTune_14 rfl rfl ?_
    refine v_dup dX7_readTune_15 rfl ?_
    refine g_X7_58 rfl sh_2 (by exact ltG hG (by decide)) dX7_readTune_16 ?_
    refine v_iconst (v := 1) dX7_readTune_19 (by decide) ?_
    refine v_iadd dX7_readTune_20 ?_
    refine p_X7_58 rfl sh_2 (by exact ltG hG (by decide)) dX7_readTune_21 ?_
    refine v_aload_n (i := 0) dX7_readTune_24 rfl rfl ?_
    refine v_bipush (v := 10) dX7_readTune_25 (by decide) ?_
    obtain ⟨q16, q16_e, hF⟩ := Option.bind_eq_some_iff.mp hF
    refine c_X7_120 rfl sh_2 (by exact ltG hG (by decide)) (Nat.le_of_ble_eq_true rfl) dX7_readTune_27 (s_X7_take _ q16_e hG) (fun r1 h1 hq => ?_)
    obtain ⟨rfl, hq, hG⟩ := hq
    replace hq := hq.symm
    subst hq
    show V _ _ _ _ (_ :: _) _ _
    refine v_pop dX7_readTune_30 rfl ?_
    refine v_aload_n (i := 0) dX7_readTune_31 rfl rfl ?_
    obtain ⟨q18, q18_e, hF⟩ := Option.bind_eq_some_iff.mp hF
    refine c_X7_162 rfl sh_2 (by exact ltG hG (by decide)) (Nat.le_of_ble_eq_true rfl) dX7_readTune_32 (s_X7_takeSpot _ q18_e hG) (fun r1 h1 hq => ?_)
    obtain ⟨rfl, hq, hG⟩ := hq
    replace hq := hq.symm
    subst hq
    show V _ _ _ _ (_ :: _) _ _
    refine v_istore_n (i := 1) dX7_readTune_35 rfl (by decide) (nlT rfl) ?_
    simp only [List.set_cons_zero, List.set_cons_succ]
    refine v_aload_n (i := 0) dX7_readTune_36 rfl rfl ?_
    refine v_iconst (v := 2) dX7_readTune_37 (by decide) ?_
    refine v_bipush (v := 6) dX7_readTune_38 (by decide) ?_
    obtain ⟨q20, q20_e, hF⟩ := Option.bind_eq_some_iff.mp hF
    refine c_X7_124 rfl sh_2 (by exact ltG hG (by decide)) (Nat.le_of_ble_eq_true rfl) dX7_readTune_40 (s_X7_takeNumber _ q20_e hG) (fun r1 h1 hq => ?_)
    obtain ⟨rfl, hq, hG⟩ := hq
    replace hq := hq.symm
    subst hq
    show V _ _ _ _ (_ :: _) _ _
    refine v_istore_n (i := 2) dX7_readTune_43 rfl (by decide) (nlT rfl) ?_
    simp only [List.set_cons_zero, List.set_cons_succ]
    refine v_aload_n (i := 0) dX7_readTune_44 rfl rfl ?_
    refine v_iconst (v := 0) dX7_readTune_45 (by decide) ?_
    refine v_iload_n (i := 2) dX7_readTune_46 rfl rfl ?_
    refine v_iconst (v := 1) dX7_readTune_47 (by decide) ?_
    refine v_isub dX7_readTune_48 ?_
    obtain ⟨q22, q22_e, hF⟩ := Option.bind_eq_some_iff.mp hF
    refine c_X7_124 rfl sh_2 (by exact ltG hG (by decide)) (Nat.le_of_ble_eq_true rfl) dX7_readTune_49 (s_X7_takeNumber _ q22_e hG) (fun r1 h1 hq => ?_)
    obtain ⟨rfl, hq, hG⟩ := hq
    replace hq := hq.symm
    subst hq
    show V _ _ _ _ (_ :: _) _ _
    refine v_istore_n (i := 3) dX7_readTune_52 rfl (by decide) (nlT rfl) ?_
    simp only [List.set_cons_zero, List.set_cons_succ]
    refine v_iload_n (i := 1) dX7_readTune_53 rfl rfl ?_
    refine v_if_lt 77 dX7_readTune_54 (by decide) (fun c24 => ?_) (fun c24 => ?_)
    · rw [if_pos c24] at hF
      refine v_return rfl dX7_readTune_77 ?_
      obtain rfl := Option.some.inj hF
      exact ⟨rfl, rfl, hG⟩
    · rw [if_neg c24] at hF
      refine v_iload_n (i := 1) dX7_readTune_57 rfl rfl ?_
      refine v_bipush (v := 25) dX7_readTune_58 (by decide) ?_
      refine v_icmp_ge 77 dX7_readTune_60 (by decide) (fun c25 => ?_) (fun c25 => ?_)
      · rw [if_pos c25] at hF
        refine v_return rfl dX7_readTune_77 ?_
        obtain rfl := Option.some.inj hF
        exact ⟨rfl, rfl, hG⟩
      · rw [if_neg c25] at hF
        refine v_aload_n (i := 0) dX7_readTune_63 rfl rfl ?_
        refine g_X7_49 (q := 16) rfl sh_2 (by exact ltG hG (by decide)) (by exact rG hG r0_2_10) dX7_readTune_64 ?_
        refine v_iload_n (i := 1) dX7_readTune_67 rfl rfl ?_
        refine v_iload_n (i := 2) dX7_readTune_68 rfl rfl ?_
        obtain ⟨k26, hF⟩ := ck_some hF
        refine v_iastore sh_16 (by exact ltG hG (by decide)) (ixO k26) dX7_readTune_69 ?_
        refine v_aload_n (i := 0) dX7_readTune_70 rfl rfl ?_
        refine g_X7_52 (q := 17) rfl sh_2 (by exact ltG hG (by decide)) (by exact rG hG r0_2_11) dX7_readTune_71 ?_
        refine v_iload_n (i := 1) dX7_readTune_74 rfl rfl ?_
        refine v_iload_n (i := 3) dX7_readTune_75 rfl rfl ?_
        obtain ⟨k27, hF⟩ := ck_some hF
        refine v_iastore sh_17 (by exact ltG hG (by decide)) (ixO k27) dX7_readTune_76 ?_
        refine v_return rfl dX7_readTune_77 ?_
        obtain rfl := Option.some.inj hF
        exact ⟨rfl, rfl, hG⟩
def W_X8_allTunesDivide : Nat → Nat → Hp → Nat → Int32 → Int32 → Int32 → Option (Int32 × Hp)
  | 0 => fun _ _ _ _ _ _ => none
  | n + 1 => fun hd h a l1 l2 l3 => (if hd = 7 then (if (25 : Int32) ≤ (l2 : Int32) then some (1, h) else (if (l3 : Int32) = 0 then some (1, h) else ((F_X11_lowest n h l3).bind (fun q3 => ((F_X8_beatOf n q3.2 a q3.1).bind (fun q5 => (if (q5.1 : Int32) ≤ 0 then W_X8_allTunesDivide n 7 q5.2 a l1 (l2 + 1) ((l3 : Int32) &&& ((l3 - 1) : Int32)) else (if q5.1 = 0 then none else (if ((l1 - l1 / q5.1 * q5.1) : Int32) = 0 then W_X8_allTunesDivide n 7 q5.2 a l1 (l2 + 1) ((l3 : Int32) &&& ((l3 - 1) : Int32)) else some (0, q5.2)))))))))) else none)
set_option maxRecDepth 100000 in
set_option maxHeartbeats 4000000 in
theorem sw_X8_allTunesDivide (d : Nat) (a : Nat) (hs : Sc a) (n : Nat) : (∀ (l1 : Int32) (l2 : Int32) (l3 : Int32) (h : Hp), ∀ (r : Int32) (h' : Hp), W_X8_allTunesDivide n 7 h a l1 l2 l3 = some (r, h') → G h → V mX8_allTunesDivide (d + 2) 7 [some (.ref a), some (.int l1), some (.int l2), some (.int l3), none] [] h (fun r1 h1 => r1 = some (.int r) ∧ h1 = h' ∧ G h')) := by
  obtain ⟨s0, s1, s2, s3, s4, s5, s6, s7⟩ := id hs
  induction n with
  | zero => exact by intros; contradiction
  | succ n ih =>
    have s_X8_allTunesDivide_IH_7 := ih
    intro l1 l2 l3 h r h' hF hG
    unfold W_X8_allTunesDivide at hF
    rw [if_pos rfl] at hF
    refine v_iload_n (i := 2) dX8_allTunesDivide_7 rfl rfl ?_
    refine v_bipush (v := 25) dX8_allTunesDivide_8 (by decide) ?_
    refine v_icmp_ge 53 dX8_allTunesDivide_10 (by decide) (fun c1 => ?_) (fun c1 => ?_)
    · rw [if_pos c1] at hF
      refine v_iconst (v := 1) dX8_allTunesDivide_53 (by decide) ?_
      refine v_zreturn rfl (by decide) dX8_allTunesDivide_54 ?_
      obtain ⟨rfl, rfl⟩ := Prod.mk.inj (Option.some.inj hF)
      exact ⟨rfl, rfl, hG⟩
    · rw [if_neg c1] at hF
      refine v_iload_n (i := 3) dX8_allTunesDivide_13 rfl rfl ?_
      refine v_if_eq 53 dX8_allTunesDivide_14 (by decide) (fun c2 => ?_) (fun c2 => ?_)
      · rw [if_pos c2] at hF
        refine v_iconst (v := 1) dX8_allTunesDivide_53 (by decide) ?_
        refine v_zreturn rfl (by decide) dX8_allTunesDivide_54 ?_
        obtain ⟨rfl, rfl⟩ := Prod.mk.inj (Option.some.inj hF)
        exact ⟨rfl, rfl, hG⟩
      · rw [if_neg c2] at hF
        refine v_aload_n (i := 0) dX8_allTunesDivide_17 rfl rfl ?_
        refine v_iload_n (i := 3) dX8_allTunesDivide_18 rfl rfl ?_
        obtain ⟨q3, q3_e, hF⟩ := Option.bind_eq_some_iff.mp hF
        refine c_X8_62 rfl (Nat.le_of_ble_eq_true rfl) dX8_allTunesDivide_19 (s_X11_lowest _ q3_e hG) (fun r1 h1 hq => ?_)
        obtain ⟨rfl, hq, hG⟩ := hq
        replace hq := hq.symm
        subst hq
        show V _ _ _ _ (_ :: _) _ _
        obtain ⟨q5, q5_e, hF⟩ := Option.bind_eq_some_iff.mp hF
        refine c_X8_51 rfl s0 (by exact ltG hG (by omega)) (Nat.le_of_ble_eq_true rfl) dX8_allTunesDivide_22 (s_X8_beatOf _ q5_e hG (by first | assumption | exact sc_30 | exact sc_34 | exact sc_10 | exact fd_24 | exact fd_4 | exact lw_25 | exact lw_5 | exact bd_23 | exact bd_3 | exact ⟨by first | assumption | rfl, by first | decide | omega⟩)) (fun r1 h1 hq => ?_)
        obtain ⟨rfl, hq, hG⟩ := hq
        replace hq := hq.symm
        subst hq
        show V _ _ _ _ (_ :: _) _ _
        refine v_istore (i := 4) dX8_allTunesDivide_25 (by decide) (nlT rfl) ?_
        simp only [List.set_cons_zero, List.set_cons_succ]
        refine v_iload (i := 4) dX8_allTunesDivide_27 rfl ?_
        refine v_if_le 41 dX8_allTunesDivide_29 (by decide) (fun c7 => ?_) (fun c7 => ?_)
        · rw [if_pos c7] at hF
          refine v_iinc (i := 2) (v := (l2 + 1)) dX8_allTunesDivide_41 rfl rfl (by decide) (nlT rfl) ?_
          simp only [List.set_cons_zero, List.set_cons_succ]
          refine v_iload_n (i := 3) dX8_allTunesDivide_44 rfl rfl ?_
          refine v_iload_n (i := 3) dX8_allTunesDivide_45 rfl rfl ?_
          refine v_iconst (v := 1) dX8_allTunesDivide_46 (by decide) ?_
          refine v_isub dX8_allTunesDivide_47 ?_
          refine v_iand dX8_allTunesDivide_48 ?_
          refine v_istore_n (i := 3) dX8_allTunesDivide_49 rfl (by decide) (nlT rfl) ?_
          simp only [List.set_cons_zero, List.set_cons_succ]
          refine v_goto 7 dX8_allTunesDivide_50 (by decide) ?_
          refine V.weak (la2 := [some (.ref a), some (.int l1), some (.int (l2 + 1)), some (.int ((l3 : Int32) &&& ((l3 - 1) : Int32))), none]) (by simp [wk]) ?_
          exact (s_X8_allTunesDivide_IH_7) _ _ _ _ _ _ hF hG
        · rw [if_neg c7] at hF
          refine v_iload_n (i := 1) dX8_allTunesDivide_32 rfl rfl ?_
          refine v_iload (i := 4) dX8_allTunesDivide_33 rfl ?_
          obtain ⟨k8, hF⟩ := ck_none hF
          refine v_irem dX8_allTunesDivide_35 k8 ?_
          refine v_if_eq 41 dX8_allTunesDivide_36 (by decide) (fun c9 => ?_) (fun c9 => ?_)
          · rw [if_pos c9] at hF
            refine v_iinc (i := 2) (v := (l2 + 1)) dX8_allTunesDivide_41 rfl rfl (by decide) (nlT rfl) ?_
            simp only [List.set_cons_zero, List.set_cons_succ]
            refine v_iload_n (i := 3) dX8_allTunesDivide_44 rfl rfl ?_
            refine v_iload_n (i := 3) dX8_allTunesDivide_45 rfl rfl ?_
            refine v_iconst (v := 1) dX8_allTunesDivide_46 (by decide) ?_
            refine v_isub dX8_allTunesDivide_47 ?_
            refine v_iand dX8_allTunesDivide_48 ?_
            refine v_istore_n (i := 3) dX8_allTunesDivide_49 rfl (by decide) (nlT rfl) ?_
            simp only [List.set_cons_zero, List.set_cons_succ]
            refine v_goto 7 dX8_allTunesDivide_50 (by decide) ?_
            refine V.weak (la2 := [some (.ref a), some (.int l1), some (.int (l2 + 1)), some (.int ((l3 : Int32) &&& ((l3 - 1) : Int32))), none]) (by simp [wk]) ?_
            exact (s_X8_allTunesDivide_IH_7) _ _ _ _ _ _ hF hG
          · rw [if_neg c9] at hF
            refine v_iconst (v := 0) dX8_allTunesDivide_39 (by decide) ?_
            refine v_zreturn rfl (by decide) dX8_allTunesDivide_40 ?_
            obtain ⟨rfl, rfl⟩ := Prod.mk.inj (Option.some.inj hF)
            exact ⟨rfl, rfl, hG⟩
def F_X8_allTunesDivide (n : Nat) (h : Hp) (a : Nat) (x1 : Int32) : Option (Int32 × Hp) := W_X8_allTunesDivide n 7 h a x1 0 (hi h a 3)
set_option maxRecDepth 100000 in
set_option maxHeartbeats 4000000 in
theorem s_X8_allTunesDivide (d : Nat) {n : Nat} {h : Hp} {a : Nat} {x1 : Int32} {q0 : (Int32 × Hp)} (hF : F_X8_allTunesDivide n h a x1 = some q0) (hG : G h) (hs : Sc a) : Kc mX8_allTunesDivide (d + 2) [.ref a, .int x1] h (fun r1 h1 => r1 = some (.int q0.1) ∧ h1 = q0.2 ∧ G q0.2) := by
  obtain ⟨s0, s1, s2, s3, s4, s5, s6, s7⟩ := id hs
  obtain ⟨r, h'⟩ := q0
  have s_X8_allTunesDivide_IH_7 := sw_X8_allTunesDivide d a hs n
  unfold F_X8_allTunesDivide at hF
  refine Kc.of [some (.ref a), some (.int x1), none, none, none] ok_X8_allTunesDivide rfl (Nat.le_of_ble_eq_true rfl) ?_
  refine v_iconst (v := 0) dX8_allTunesDivide_0 (by decide) ?_
  refine v_istore_n (i := 2) dX8_allTunesDivide_1 rfl (by decide) (nlT rfl) ?_
  simp only [List.set_cons_zero, List.set_cons_succ]
  refine v_aload_n (i := 0) dX8_allTunesDivide_2 rfl rfl ?_
  refine g_X8_21 rfl s0 (by exact ltG hG (by omega)) dX8_allTunesDivide_3 ?_
  refine v_istore_n (i := 3) dX8_allTunesDivide_6 rfl (by decide) (nlT rfl) ?_
  simp only [List.set_cons_zero, List.set_cons_succ]
  refine V.weak (la2 := [some (.ref a), some (.int x1), some (.int 0), some (.int (hi h a 3)), none]) (by simp [wk]) ?_
  exact (s_X8_allTunesDivide_IH_7) _ _ _ _ _ _ hF hG
def W_X8_loudAt : Nat → Nat → Hp → Nat → Int32 → Int32 → Int32 → Int32 → Option (Int32 × Hp)
  | 0 => fun _ _ _ _ _ _ _ => none
  | n + 1 => fun hd h a l1 l2 l3 l4 => (if hd = 10 then (if (25 : Int32) ≤ (l3 : Int32) then some (l2, h) else (if (l4 : Int32) = 0 then some (l2, h) else ((F_X11_lowest n h l4).bind (fun q3 => ((F_X8_soundsAt n q3.2 a q3.1 l1).bind (fun q5 => (if (q5.1 : Int32) = 0 then W_X8_loudAt n 10 q5.2 a l1 l2 (l3 + 1) ((l4 : Int32) &&& ((l4 - 1) : Int32)) else W_X8_loudAt n 10 q5.2 a l1 ((l2 : Int32) ||| (((l4 : Int32) &&& ((-l4) : Int32)) : Int32)) (l3 + 1) ((l4 : Int32) &&& ((l4 - 1) : Int32))))))))) else none)
set_option maxRecDepth 100000 in
set_option maxHeartbeats 4000000 in
theorem sw_X8_loudAt (d : Nat) (a : Nat) (hs : Sc a) (n : Nat) : (∀ (l1 : Int32) (l2 : Int32) (l3 : Int32) (l4 : Int32) (h : Hp), ∀ (r : Int32) (h' : Hp), W_X8_loudAt n 10 h a l1 l2 l3 l4 = some (r, h') → G h → V mX8_loudAt (d + 3) 10 [some (.ref a), some (.int l1), some (.int l2), some (.int l3), some (.int l4)] [] h (fun r1 h1 => r1 = some (.int r) ∧ h1 = h' ∧ G h')) := by
  obtain ⟨s0, s1, s2, s3, s4, s5, s6, s7⟩ := id hs
  induction n with
  | zero => exact by intros; contradiction
  | succ n ih =>
    have s_X8_loudAt_IH_10 := ih
    intro l1 l2 l3 l4 h r h' hF hG
    unfold W_X8_loudAt at hF
    rw [if_pos rfl] at hF
    refine v_iload_n (i := 3) dX8_loudAt_10 rfl rfl ?_
    refine v_bipush (v := 25) dX8_loudAt_11 (by decide) ?_
    refine v_icmp_ge 58 dX8_loudAt_13 (by decide) (fun c1 => ?_) (fun c1 => ?_)
    · rw [if_pos c1] at hF
      refine v_iload_n (i := 2) dX8_loudAt_58 rfl rfl ?_
      refine v_ireturn rfl dX8_loudAt_59 ?_
      obtain ⟨rfl, rfl⟩ := Prod.mk.inj (Option.some.inj hF)
      exact ⟨rfl, rfl, hG⟩
    · rw [if_neg c1] at hF
      refine v_iload (i := 4) dX8_loudAt_16 rfl ?_
      refine v_if_eq 58 dX8_loudAt_18 (by decide) (fun c2 => ?_) (fun c2 => ?_)
      · rw [if_pos c2] at hF
        refine v_iload_n (i := 2) dX8_loudAt_58 rfl rfl ?_
        refine v_ireturn rfl dX8_loudAt_59 ?_
        obtain ⟨rfl, rfl⟩ := Prod.mk.inj (Option.some.inj hF)
        exact ⟨rfl, rfl, hG⟩
      · rw [if_neg c2] at hF
        refine v_aload_n (i := 0) dX8_loudAt_21 rfl rfl ?_
        refine v_iload (i := 4) dX8_loudAt_22 rfl ?_
        obtain ⟨q3, q3_e, hF⟩ := Option.bind_eq_some_iff.mp hF
        refine c_X8_62 rfl (Nat.le_of_ble_eq_true rfl) dX8_loudAt_24 (s_X11_lowest _ q3_e hG) (fun r1 h1 hq => ?_)
        obtain ⟨rfl, hq, hG⟩ := hq
        replace hq := hq.symm
        subst hq
        show V _ _ _ _ (_ :: _) _ _
        refine v_iload_n (i := 1) dX8_loudAt_27 rfl rfl ?_
        obtain ⟨q5, q5_e, hF⟩ := Option.bind_eq_some_iff.mp hF
        refine c_X8_65 rfl s0 (by exact ltG hG (by omega)) (Nat.le_of_ble_eq_true rfl) dX8_loudAt_28 (s_X8_soundsAt _ q5_e hG (by first | assumption | exact sc_30 | exact sc_34 | exact sc_10 | exact fd_24 | exact fd_4 | exact lw_25 | exact lw_5 | exact bd_23 | exact bd_3 | exact ⟨by first | assumption | rfl, by first | decide | omega⟩)) (fun r1 h1 hq => ?_)
        obtain ⟨rfl, hq, hG⟩ := hq
        replace hq := hq.symm
        subst hq
        show V _ _ _ _ (_ :: _) _ _
        refine v_if_eq 43 dX8_loudAt_31 (by decide) (fun c7 => ?_) (fun c7 => ?_)
        · rw [if_pos c7] at hF
          refine v_iinc (i := 3) (v := (l3 + 1)) dX8_loudAt_43 rfl rfl (by decide) (nlT rfl) ?_
          simp only [List.set_cons_zero, List.set_cons_succ]
          refine v_iload (i := 4) dX8_loudAt_46 rfl ?_
          refine v_iload (i := 4) dX8_loudAt_48 rfl ?_
          refine v_iconst (v := 1) dX8_loudAt_50 (by decide) ?_
          refine v_isub dX8_loudAt_51 ?_
          refine v_iand dX8_loudAt_52 ?_
          refine v_istore (i := 4) dX8_loudAt_53 (by decide) (nlT rfl) ?_
          simp only [List.set_cons_zero, List.set_cons_succ]
          refine v_goto 10 dX8_loudAt_55 (by decide) ?_
          refine V.weak (la2 := [some (.ref a), some (.int l1), some (.int l2), some (.int (l3 + 1)), some (.int ((l4 : Int32) &&& ((l4 - 1) : Int32)))]) (by simp [wk]) ?_
          exact (s_X8_loudAt_IH_10) _ _ _ _ _ _ _ hF hG
        · rw [if_neg c7] at hF
          refine v_iload_n (i := 2) dX8_loudAt_34 rfl rfl ?_
          refine v_iload (i := 4) dX8_loudAt_35 rfl ?_
          refine v_iload (i := 4) dX8_loudAt_37 rfl ?_
          refine v_ineg dX8_loudAt_39 ?_
          refine v_iand dX8_loudAt_40 ?_
          refine v_ior dX8_loudAt_41 ?_
          refine v_istore_n (i := 2) dX8_loudAt_42 rfl (by decide) (nlT rfl) ?_
          simp only [List.set_cons_zero, List.set_cons_succ]
          refine v_iinc (i := 3) (v := (l3 + 1)) dX8_loudAt_43 rfl rfl (by decide) (nlT rfl) ?_
          simp only [List.set_cons_zero, List.set_cons_succ]
          refine v_iload (i := 4) dX8_loudAt_46 rfl ?_
          refine v_iload (i := 4) dX8_loudAt_48 rfl ?_
          refine v_iconst (v := 1) dX8_loudAt_50 (by decide) ?_
          refine v_isub dX8_loudAt_51 ?_
          refine v_iand dX8_loudAt_52 ?_
          refine v_istore (i := 4) dX8_loudAt_53 (by decide) (nlT rfl) ?_
          simp only [List.set_cons_zero, List.set_cons_succ]
          refine v_goto 10 dX8_loudAt_55 (by decide) ?_
          refine V.weak (la2 := [some (.ref a), some (.int l1), some (.int ((l2 : Int32) ||| (((l4 : Int32) &&& ((-l4) : Int32)) : Int32))), some (.int (l3 + 1)), some (.int ((l4 : Int32) &&& ((l4 - 1) : Int32)))]) (by simp [wk]) ?_
          exact (s_X8_loudAt_IH_10) _ _ _ _ _ _ _ hF hG
def F_X8_loudAt (n : Nat) (h : Hp) (a : Nat) (x1 : Int32) : Option (Int32 × Hp) := W_X8_loudAt n 10 h a x1 0 0 (hi h a 3)
set_option maxRecDepth 100000 in
set_option maxHeartbeats 4000000 in
theorem s_X8_loudAt (d : Nat) {n : Nat} {h : Hp} {a : Nat} {x1 : Int32} {q0 : (Int32 × Hp)} (hF : F_X8_loudAt n h a x1 = some q0) (hG : G h) (hs : Sc a) : Kc mX8_loudAt (d + 3) [.ref a, .int x1] h (fun r1 h1 => r1 = some (.int q0.1) ∧ h1 = q0.2 ∧ G q0.2) := by
  obtain ⟨s0, s1, s2, s3, s4, s5, s6, s7⟩ := id hs
  obtain ⟨r, h'⟩ := q0
  have s_X8_loudAt_IH_10 := sw_X8_loudAt d a hs n
  unfold F_X8_loudAt at hF
  refine Kc.of [some (.ref a), some (.int x1), none, none, none] ok_X8_loudAt rfl (Nat.le_of_ble_eq_true rfl) ?_
  refine v_iconst (v := 0) dX8_loudAt_0 (by decide) ?_
  refine v_istore_n (i := 2) dX8_loudAt_1 rfl (by decide) (nlT rfl) ?_
  simp only [List.set_cons_zero, List.set_cons_succ]
  refine v_iconst (v := 0) dX8_loudAt_2 (by decide) ?_
  refine v_istore_n (i := 3) dX8_loudAt_3 rfl (by decide) (nlT rfl) ?_
  simp only [List.set_cons_zero, List.set_cons_succ]
  refine v_aload_n (i := 0) dX8_loudAt_4 rfl rfl ?_
  refine g_X8_21 rfl s0 (by exact ltG hG (by omega)) dX8_loudAt_5 ?_
  refine v_istore (i := 4) dX8_loudAt_8 (by decide) (nlT rfl) ?_
  simp only [List.set_cons_zero, List.set_cons_succ]
  refine V.weak (la2 := [some (.ref a), some (.int x1), some (.int 0), some (.int 0), some (.int (hi h a 3))]) (by simp [wk]) ?_
  exact (s_X8_loudAt_IH_10) _ _ _ _ _ _ _ hF hG
def F_X9_keep (n : Nat) (h : Hp) (x1 : Int32) : Option (Int32 × Hp) := ((F_X9_signAt n h x1).bind (fun q1 => ((F_X9_isLetter n q1.2 q1.1).bind (fun q3 => (if (q3.1 : Int32) = 0 then ((F_X9_isDigit n q3.2 q1.1).bind (fun q6 => (if (q6.1 : Int32) = 0 then ((F_X9_isSign n q6.2 q1.1).bind (fun q9 => (if (q9.1 : Int32) = 0 then (if (401 : Int32) ≤ ((hi q9.2 18 5) : Int32) then some ((x1 + 1), q9.2) else (if ixOK (hi q9.2 18 5) 401 = true then (if ixOK (hi (wrI q9.2 20 (Int32.toNatClampNeg (hi q9.2 18 5)) (33 : Int32).toInt8.toInt32) 18 5) 401 = true then (if ixOK (hi (wrI (wrI q9.2 20 (Int32.toNatClampNeg (hi q9.2 18 5)) (33 : Int32).toInt8.toInt32) 21 (Int32.toNatClampNeg (hi (wrI q9.2 20 (Int32.toNatClampNeg (hi q9.2 18 5)) (33 : Int32).toInt8.toInt32) 18 5)) (x1 : Int32).toInt16.toInt32) 18 5) 401 = true then some ((x1 + 1), (wrI (wrL (wrI (wrI q9.2 20 (Int32.toNatClampNeg (hi q9.2 18 5)) (33 : Int32).toInt8.toInt32) 21 (Int32.toNatClampNeg (hi (wrI q9.2 20 (Int32.toNatClampNeg (hi q9.2 18 5)) (33 : Int32).toInt8.toInt32) 18 5)) (x1 : Int32).toInt16.toInt32) 22 (Int32.toNatClampNeg (hi (wrI (wrI q9.2 20 (Int32.toNatClampNeg (hi q9.2 18 5)) (33 : Int32).toInt8.toInt32) 21 (Int32.toNatClampNeg (hi (wrI q9.2 20 (Int32.toNatClampNeg (hi q9.2 18 5)) (33 : Int32).toInt8.toInt32) 18 5)) (x1 : Int32).toInt16.toInt32) 18 5)) 0) 18 5 ((hi (wrL (wrI (wrI q9.2 20 (Int32.toNatClampNeg (hi q9.2 18 5)) (33 : Int32).toInt8.toInt32) 21 (Int32.toNatClampNeg (hi (wrI q9.2 20 (Int32.toNatClampNeg (hi q9.2 18 5)) (33 : Int32).toInt8.toInt32) 18 5)) (x1 : Int32).toInt16.toInt32) 22 (Int32.toNatClampNeg (hi (wrI (wrI q9.2 20 (Int32.toNatClampNeg (hi q9.2 18 5)) (33 : Int32).toInt8.toInt32) 21 (Int32.toNatClampNeg (hi (wrI q9.2 20 (Int32.toNatClampNeg (hi q9.2 18 5)) (33 : Int32).toInt8.toInt32) 18 5)) (x1 : Int32).toInt16.toInt32) 18 5)) 0) 18 5) + 1))) else none) else none) else none)) else (if (401 : Int32) ≤ ((hi q9.2 18 5) : Int32) then some ((x1 + 1), q9.2) else (if ixOK (hi q9.2 18 5) 401 = true then (if ixOK (hi (wrI q9.2 20 (Int32.toNatClampNeg (hi q9.2 18 5)) (q1.1 : Int32).toInt8.toInt32) 18 5) 401 = true then (if ixOK (hi (wrI (wrI q9.2 20 (Int32.toNatClampNeg (hi q9.2 18 5)) (q1.1 : Int32).toInt8.toInt32) 21 (Int32.toNatClampNeg (hi (wrI q9.2 20 (Int32.toNatClampNeg (hi q9.2 18 5)) (q1.1 : Int32).toInt8.toInt32) 18 5)) (x1 : Int32).toInt16.toInt32) 18 5) 401 = true then some ((x1 + 1), (wrI (wrL (wrI (wrI q9.2 20 (Int32.toNatClampNeg (hi q9.2 18 5)) (q1.1 : Int32).toInt8.toInt32) 21 (Int32.toNatClampNeg (hi (wrI q9.2 20 (Int32.toNatClampNeg (hi q9.2 18 5)) (q1.1 : Int32).toInt8.toInt32) 18 5)) (x1 : Int32).toInt16.toInt32) 22 (Int32.toNatClampNeg (hi (wrI (wrI q9.2 20 (Int32.toNatClampNeg (hi q9.2 18 5)) (q1.1 : Int32).toInt8.toInt32) 21 (Int32.toNatClampNeg (hi (wrI q9.2 20 (Int32.toNatClampNeg (hi q9.2 18 5)) (q1.1 : Int32).toInt8.toInt32) 18 5)) (x1 : Int32).toInt16.toInt32) 18 5)) 0) 18 5 ((hi (wrL (wrI (wrI q9.2 20 (Int32.toNatClampNeg (hi q9.2 18 5)) (q1.1 : Int32).toInt8.toInt32) 21 (Int32.toNatClampNeg (hi (wrI q9.2 20 (Int32.toNatClampNeg (hi q9.2 18 5)) (q1.1 : Int32).toInt8.toInt32) 18 5)) (x1 : Int32).toInt16.toInt32) 22 (Int32.toNatClampNeg (hi (wrI (wrI q9.2 20 (Int32.toNatClampNeg (hi q9.2 18 5)) (q1.1 : Int32).toInt8.toInt32) 21 (Int32.toNatClampNeg (hi (wrI q9.2 20 (Int32.toNatClampNeg (hi q9.2 18 5)) (q1.1 : Int32).toInt8.toInt32) 18 5)) (x1 : Int32).toInt16.toInt32) 18 5)) 0) 18 5) + 1))) else none) else none) else none))))) else ((F_X9_behindDigits n q6.2 x1).bind (fun q20 => ((F_X9_numberOf n q20.2 x1 q20.1).bind (fun q22 => (if ((q20.1 - x1) : Int32) ≤ (4 : Int32) then (if (401 : Int32) ≤ ((hi q22.2 18 5) : Int32) then some (q20.1, q22.2) else (if ixOK (hi q22.2 18 5) 401 = true then (if ixOK (hi (wrI q22.2 20 (Int32.toNatClampNeg (hi q22.2 18 5)) (30 : Int32).toInt8.toInt32) 18 5) 401 = true then (if ixOK (hi (wrI (wrI q22.2 20 (Int32.toNatClampNeg (hi q22.2 18 5)) (30 : Int32).toInt8.toInt32) 21 (Int32.toNatClampNeg (hi (wrI q22.2 20 (Int32.toNatClampNeg (hi q22.2 18 5)) (30 : Int32).toInt8.toInt32) 18 5)) (x1 : Int32).toInt16.toInt32) 18 5) 401 = true then some (q20.1, (wrI (wrL (wrI (wrI q22.2 20 (Int32.toNatClampNeg (hi q22.2 18 5)) (30 : Int32).toInt8.toInt32) 21 (Int32.toNatClampNeg (hi (wrI q22.2 20 (Int32.toNatClampNeg (hi q22.2 18 5)) (30 : Int32).toInt8.toInt32) 18 5)) (x1 : Int32).toInt16.toInt32) 22 (Int32.toNatClampNeg (hi (wrI (wrI q22.2 20 (Int32.toNatClampNeg (hi q22.2 18 5)) (30 : Int32).toInt8.toInt32) 21 (Int32.toNatClampNeg (hi (wrI q22.2 20 (Int32.toNatClampNeg (hi q22.2 18 5)) (30 : Int32).toInt8.toInt32) 18 5)) (x1 : Int32).toInt16.toInt32) 18 5)) (q22.1 : Int32).toInt64) 18 5 ((hi (wrL (wrI (wrI q22.2 20 (Int32.toNatClampNeg (hi q22.2 18 5)) (30 : Int32).toInt8.toInt32) 21 (Int32.toNatClampNeg (hi (wrI q22.2 20 (Int32.toNatClampNeg (hi q22.2 18 5)) (30 : Int32).toInt8.toInt32) 18 5)) (x1 : Int32).toInt16.toInt32) 22 (Int32.toNatClampNeg (hi (wrI (wrI q22.2 20 (Int32.toNatClampNeg (hi q22.2 18 5)) (30 : Int32).toInt8.toInt32) 21 (Int32.toNatClampNeg (hi (wrI q22.2 20 (Int32.toNatClampNeg (hi q22.2 18 5)) (30 : Int32).toInt8.toInt32) 18 5)) (x1 : Int32).toInt16.toInt32) 18 5)) (q22.1 : Int32).toInt64) 18 5) + 1))) else none) else none) else none)) else (if (401 : Int32) ≤ ((hi q22.2 18 5) : Int32) then some (q20.1, q22.2) else (if ixOK (hi q22.2 18 5) 401 = true then (if ixOK (hi (wrI q22.2 20 (Int32.toNatClampNeg (hi q22.2 18 5)) (33 : Int32).toInt8.toInt32) 18 5) 401 = true then (if ixOK (hi (wrI (wrI q22.2 20 (Int32.toNatClampNeg (hi q22.2 18 5)) (33 : Int32).toInt8.toInt32) 21 (Int32.toNatClampNeg (hi (wrI q22.2 20 (Int32.toNatClampNeg (hi q22.2 18 5)) (33 : Int32).toInt8.toInt32) 18 5)) (x1 : Int32).toInt16.toInt32) 18 5) 401 = true then some (q20.1, (wrI (wrL (wrI (wrI q22.2 20 (Int32.toNatClampNeg (hi q22.2 18 5)) (33 : Int32).toInt8.toInt32) 21 (Int32.toNatClampNeg (hi (wrI q22.2 20 (Int32.toNatClampNeg (hi q22.2 18 5)) (33 : Int32).toInt8.toInt32) 18 5)) (x1 : Int32).toInt16.toInt32) 22 (Int32.toNatClampNeg (hi (wrI (wrI q22.2 20 (Int32.toNatClampNeg (hi q22.2 18 5)) (33 : Int32).toInt8.toInt32) 21 (Int32.toNatClampNeg (hi (wrI q22.2 20 (Int32.toNatClampNeg (hi q22.2 18 5)) (33 : Int32).toInt8.toInt32) 18 5)) (x1 : Int32).toInt16.toInt32) 18 5)) (q22.1 : Int32).toInt64) 18 5 ((hi (wrL (wrI (wrI q22.2 20 (Int32.toNatClampNeg (hi q22.2 18 5)) (33 : Int32).toInt8.toInt32) 21 (Int32.toNatClampNeg (hi (wrI q22.2 20 (Int32.toNatClampNeg (hi q22.2 18 5)) (33 : Int32).toInt8.toInt32) 18 5)) (x1 : Int32).toInt16.toInt32) 22 (Int32.toNatClampNeg (hi (wrI (wrI q22.2 20 (Int32.toNatClampNeg (hi q22.2 18 5)) (33 : Int32).toInt8.toInt32) 21 (Int32.toNatClampNeg (hi (wrI q22.2 20 (Int32.toNatClampNeg (hi q22.2 18 5)) (33 : Int32).toInt8.toInt32) 18 5)) (x1 : Int32).toInt16.toInt32) 18 5)) (q22.1 : Int32).toInt64) 18 5) + 1))) else none) else none) else none)))))))))) else ((F_X9_behindLetters n q3.2 x1).bind (fun q33 => ((F_X9_lettersOf n q33.2 x1 q33.1).bind (fun q35 => (if ((q33.1 - x1) : Int32) ≤ (8 : Int32) then ((F_X9_kindOfLetters n q35.2 q35.1).bind (fun q38 => (if (401 : Int32) ≤ ((hi q38.2 18 5) : Int32) then some (q33.1, q38.2) else (if ixOK (hi q38.2 18 5) 401 = true then (if ixOK (hi (wrI q38.2 20 (Int32.toNatClampNeg (hi q38.2 18 5)) (q38.1 : Int32).toInt8.toInt32) 18 5) 401 = true then (if ixOK (hi (wrI (wrI q38.2 20 (Int32.toNatClampNeg (hi q38.2 18 5)) (q38.1 : Int32).toInt8.toInt32) 21 (Int32.toNatClampNeg (hi (wrI q38.2 20 (Int32.toNatClampNeg (hi q38.2 18 5)) (q38.1 : Int32).toInt8.toInt32) 18 5)) (x1 : Int32).toInt16.toInt32) 18 5) 401 = true then some (q33.1, (wrI (wrL (wrI (wrI q38.2 20 (Int32.toNatClampNeg (hi q38.2 18 5)) (q38.1 : Int32).toInt8.toInt32) 21 (Int32.toNatClampNeg (hi (wrI q38.2 20 (Int32.toNatClampNeg (hi q38.2 18 5)) (q38.1 : Int32).toInt8.toInt32) 18 5)) (x1 : Int32).toInt16.toInt32) 22 (Int32.toNatClampNeg (hi (wrI (wrI q38.2 20 (Int32.toNatClampNeg (hi q38.2 18 5)) (q38.1 : Int32).toInt8.toInt32) 21 (Int32.toNatClampNeg (hi (wrI q38.2 20 (Int32.toNatClampNeg (hi q38.2 18 5)) (q38.1 : Int32).toInt8.toInt32) 18 5)) (x1 : Int32).toInt16.toInt32) 18 5)) q35.1) 18 5 ((hi (wrL (wrI (wrI q38.2 20 (Int32.toNatClampNeg (hi q38.2 18 5)) (q38.1 : Int32).toInt8.toInt32) 21 (Int32.toNatClampNeg (hi (wrI q38.2 20 (Int32.toNatClampNeg (hi q38.2 18 5)) (q38.1 : Int32).toInt8.toInt32) 18 5)) (x1 : Int32).toInt16.toInt32) 22 (Int32.toNatClampNeg (hi (wrI (wrI q38.2 20 (Int32.toNatClampNeg (hi q38.2 18 5)) (q38.1 : Int32).toInt8.toInt32) 21 (Int32.toNatClampNeg (hi (wrI q38.2 20 (Int32.toNatClampNeg (hi q38.2 18 5)) (q38.1 : Int32).toInt8.toInt32) 18 5)) (x1 : Int32).toInt16.toInt32) 18 5)) q35.1) 18 5) + 1))) else none) else none) else none)))) else (if (401 : Int32) ≤ ((hi q35.2 18 5) : Int32) then some (q33.1, q35.2) else (if ixOK (hi q35.2 18 5) 401 = true then (if ixOK (hi (wrI q35.2 20 (Int32.toNatClampNeg (hi q35.2 18 5)) (33 : Int32).toInt8.toInt32) 18 5) 401 = true then (if ixOK (hi (wrI (wrI q35.2 20 (Int32.toNatClampNeg (hi q35.2 18 5)) (33 : Int32).toInt8.toInt32) 21 (Int32.toNatClampNeg (hi (wrI q35.2 20 (Int32.toNatClampNeg (hi q35.2 18 5)) (33 : Int32).toInt8.toInt32) 18 5)) (x1 : Int32).toInt16.toInt32) 18 5) 401 = true then some (q33.1, (wrI (wrL (wrI (wrI q35.2 20 (Int32.toNatClampNeg (hi q35.2 18 5)) (33 : Int32).toInt8.toInt32) 21 (Int32.toNatClampNeg (hi (wrI q35.2 20 (Int32.toNatClampNeg (hi q35.2 18 5)) (33 : Int32).toInt8.toInt32) 18 5)) (x1 : Int32).toInt16.toInt32) 22 (Int32.toNatClampNeg (hi (wrI (wrI q35.2 20 (Int32.toNatClampNeg (hi q35.2 18 5)) (33 : Int32).toInt8.toInt32) 21 (Int32.toNatClampNeg (hi (wrI q35.2 20 (Int32.toNatClampNeg (hi q35.2 18 5)) (33 : Int32).toInt8.toInt32) 18 5)) (x1 : Int32).toInt16.toInt32) 18 5)) q35.1) 18 5 ((hi (wrL (wrI (wrI q35.2 20 (Int32.toNatClampNeg (hi q35.2 18 5)) (33 : Int32).toInt8.toInt32) 21 (Int32.toNatClampNeg (hi (wrI q35.2 20 (Int32.toNatClampNeg (hi q35.2 18 5)) (33 : Int32).toInt8.toInt32) 18 5)) (x1 : Int32).toInt16.toInt32) 22 (Int32.toNatClampNeg (hi (wrI (wrI q35.2 20 (Int32.toNatClampNeg (hi q35.2 18 5)) (33 : Int32).toInt8.toInt32) 21 (Int32.toNatClampNeg (hi (wrI q35.2 20 (Int32.toNatClampNeg (hi q35.2 18 5)) (33 : Int32).toInt8.toInt32) 18 5)) (x1 : Int32).toInt16.toInt32) 18 5)) q35.1) 18 5) + 1))) else none) else none) else none))))))))))))
set_option maxRecDepth 100000 in
set_option maxHeartbeats 4000000 in
theorem s_X9_keep (d : Nat) {n : Nat} {h : Hp} {x1 : Int32} {q0 : (Int32 × Hp)} (hF : F_X9_keep n h x1 = some q0) (hG : G h)  : Kc mX9_keep (d + 2) [.ref 18, .int x1] h (fun r1 h1 => r1 = some (.int q0.1) ∧ h1 = q0.2 ∧ G q0.2) := by
  obtain ⟨r, h'⟩ := q0
  unfold F_X9_keep at hF
  refine Kc.of [some (.ref 18), some (.int x1), none, none, none, none, none] ok_X9_keep rfl (Nat.le_of_ble_eq_true rfl) ?_
  refine v_iload_n (i := 1) dX9_keep_0 rfl rfl ?_
  refine v_iconst (v := 1) dX9_keep_1 (by decide) ?_
  refine v_iadd dX9_keep_2 ?_
  refine v_istore_n (i := 2) dX9_keep_3 rfl (by decide) (nlT rfl) ?_
  simp only [List.set_cons_zero, List.set_cons_succ]
  refine v_bipush (v := 33) dX9_keep_4 (by decide) ?_
  refine v_istore_n (i := 3) dX9_keep_6 rfl (by decide) (nlT rfl) ?_
  simp only [List.set_cons_zero, List.set_cons_succ]
  refine v_lconst (v := 0) dX9_keep_7 (by decide) ?_
  refine v_lstore (i := 4) dX9_keep_8 (by decide) (nlT rfl) ?_
  simp only [List.set_cons_zero, List.set_cons_succ]
  refine v_aload_n (i := 0) dX9_keep_10 rfl rfl ?_
  refine v_iload_n (i := 1) dX9_keep_11 rfl rfl ?_
  obtain ⟨q1, q1_e, hF⟩ := Option.bind_eq_some_iff.mp hF
  refine c_X9_69 rfl sh_18 (by exact ltG hG (by decide)) (Nat.le_of_ble_eq_true rfl) dX9_keep_12 (s_X9_signAt _ q1_e hG) (fun r1 h1 hq => ?_)
  obtain ⟨rfl, hq, hG⟩ := hq
  replace hq := hq.symm
  subst hq
  show V _ _ _ _ (_ :: _) _ _
  refine v_istore (i := 6) dX9_keep_15 (by decide) (nlT rfl) ?_
  simp only [List.set_cons_zero, List.set_cons_succ]
  refine v_iload (i := 6) dX9_keep_17 rfl ?_
  obtain ⟨q3, q3_e, hF⟩ := Option.bind_eq_some_iff.mp hF
  refine c_X9_72 rfl (Nat.le_of_ble_eq_true rfl) dX9_keep_19 (s_X9_isLetter _ q3_e hG) (fun r1 h1 hq => ?_)
  obtain ⟨rfl, hq, hG⟩ := hq
  replace hq := hq.symm
  subst hq
  show V _ _ _ _ (_ :: _) _ _
  refine v_if_eq 62 dX9_keep_22 (by decide) (fun c5 => ?_) (fun c5 => ?_)
  · rw [if_pos c5] at hF
    refine v_iload (i := 6) dX9_keep_62 rfl ?_
    obtain ⟨q6, q6_e, hF⟩ := Option.bind_eq_some_iff.mp hF
    refine c_X9_87 rfl (Nat.le_of_ble_eq_true rfl) dX9_keep_64 (s_X9_isDigit _ q6_e hG) (fun r1 h1 hq => ?_)
    obtain ⟨rfl, hq, hG⟩ := hq
    replace hq := hq.symm
    subst hq
    show V _ _ _ _ (_ :: _) _ _
    refine v_if_eq 103 dX9_keep_67 (by decide) (fun c8 => ?_) (fun c8 => ?_)
    · rw [if_pos c8] at hF
      refine v_iload (i := 6) dX9_keep_103 rfl ?_
      obtain ⟨q9, q9_e, hF⟩ := Option.bind_eq_some_iff.mp hF
      refine c_X9_96 rfl (Nat.le_of_ble_eq_true rfl) dX9_keep_105 (s_X9_isSign _ q9_e hG) (fun r1 h1 hq => ?_)
      obtain ⟨rfl, hq, hG⟩ := hq
      replace hq := hq.symm
      subst hq
      show V _ _ _ _ (_ :: _) _ _
      refine v_if_eq 114 dX9_keep_108 (by decide) (fun c11 => ?_) (fun c11 => ?_)
      · rw [if_pos c11] at hF
        refine v_aload_n (i := 0) dX9_keep_114 rfl rfl ?_
        refine g_X9_26 rfl sh_18 (by exact ltG hG (by decide)) dX9_keep_115 ?_
        refine v_sipush (v := 401) dX9_keep_118 (by decide) ?_
        refine v_icmp_ge 167 dX9_keep_121 (by decide) (fun c12 => ?_) (fun c12 => ?_)
        · rw [if_pos c12] at hF
          refine v_iload_n (i := 2) dX9_keep_167 rfl rfl ?_
          refine v_ireturn rfl dX9_keep_168 ?_
          obtain ⟨rfl, rfl⟩ := Prod.mk.inj (Option.some.inj hF)
          exact ⟨rfl, rfl, hG⟩
        · rw [if_neg c12] at hF
          refine v_aload_n (i := 0) dX9_keep_124 rfl rfl ?_
          refine g_X9_15 (q := 20) rfl sh_18 (by exact ltG hG (by decide)) (by exact rG hG r0_18_2) dX9_keep_125 ?_
          refine v_aload_n (i := 0) dX9_keep_128 rfl rfl ?_
          refine g_X9_26 rfl sh_18 (by exact ltG hG (by decide)) dX9_keep_129 ?_
          refine v_iload_n (i := 3) dX9_keep_132 rfl rfl ?_
          refine v_i2b dX9_keep_133 ?_
          obtain ⟨k13, hF⟩ := ck_some hF
          refine v_bastore sh_20 (by exact ltG hG (by decide)) (ixO k13) dX9_keep_134 ?_
          refine v_aload_n (i := 0) dX9_keep_135 rfl rfl ?_
          refine g_X9_19 (q := 21) rfl sh_18 (by exact ltG hG (by decide)) (by exact rG hG r0_18_3) dX9_keep_136 ?_
          refine v_aload_n (i := 0) dX9_keep_139 rfl rfl ?_
          refine g_X9_26 rfl sh_18 (by exact ltG hG (by decide)) dX9_keep_140 ?_
          refine v_iload_n (i := 1) dX9_keep_143 rfl rfl ?_
          refine v_i2s dX9_keep_144 ?_
          obtain ⟨k14, hF⟩ := ck_some hF
          refine v_sastore sh_21 (by exact ltG hG (by decide)) (ixO k14) dX9_keep_145 ?_
          refine v_aload_n (i := 0) dX9_keep_146 rfl rfl ?_
          refine g_X9_23 (q := 22) rfl sh_18 (by exact ltG hG (by decide)) (by exact rG hG r0_18_4) dX9_keep_147 ?_
          refine v_aload_n (i := 0) dX9_keep_150 rfl rfl ?_
          refine g_X9_26 rfl sh_18 (by exact ltG hG (by decide)) dX9_keep_151 ?_
          refine v_lload (i := 4) dX9_keep_154 rfl ?_
          obtain ⟨k15, hF⟩ := ck_some hF
          refine v_lastore sh_22 (by exact ltG hG (by decide)) (ixO k15) dX9_keep_156 ?_
          refine v_aload_n (i := 0) dX9_keep_157 rfl rfl ?_
          refine v_dup dX9_keep_158 rfl ?_
          refine g_X9_26 rfl sh_18 (by exact ltG hG (by decide)) dX9_keep_159 ?_
          refine v_iconst (v := 1) dX9_keep_162 (by decide) ?_
          refine v_iadd dX9_keep_163 ?_
          refine p_X9_26 rfl sh_18 (by exact ltG hG (by decide)) dX9_keep_164 ?_
          refine v_iload_n (i := 2) dX9_keep_167 rfl rfl ?_
          refine v_ireturn rfl dX9_keep_168 ?_
          obtain ⟨rfl, rfl⟩ := Prod.mk.inj (Option.some.inj hF)
          exact ⟨rfl, rfl, hG⟩
      · rw [if_neg c11] at hF
        refine v_iload (i := 6) dX9_keep_111 rfl ?_
        refine v_istore_n (i := 3) dX9_keep_113 rfl (by decide) (nlT rfl) ?_
        simp only [List.set_cons_zero, List.set_cons_succ]
        refine v_aload_n (i := 0) dX9_keep_114 rfl rfl ?_
        refine g_X9_26 rfl sh_18 (by exact ltG hG (by decide)) dX9_keep_115 ?_
        refine v_sipush (v := 401) dX9_keep_118 (by decide) ?_
        refine v_icmp_ge 167 dX9_keep_121 (by decide) (fun c16 => ?_) (fun c16 => ?_)
        · rw [if_pos c16] at hF
          refine v_iload_n (i := 2) dX9_keep_167 rfl rfl ?_
          refine v_ireturn rfl dX9_keep_168 ?_
          obtain ⟨rfl, rfl⟩ := Prod.mk.inj (Option.some.inj hF)
          exact ⟨rfl, rfl, hG⟩
        · rw [if_neg c16] at hF
          refine v_aload_n (i := 0) dX9_keep_124 rfl rfl ?_
          refine g_X9_15 (q := 20) rfl sh_18 (by exact ltG hG (by decide)) (by exact rG hG r0_18_2) dX9_keep_125 ?_
          refine v_aload_n (i := 0) dX9_keep_128 rfl rfl ?_
          refine g_X9_26 rfl sh_18 (by exact ltG hG (by decide)) dX9_keep_129 ?_
          refine v_iload_n (i := 3) dX9_keep_132 rfl rfl ?_
          refine v_i2b dX9_keep_133 ?_
          obtain ⟨k17, hF⟩ := ck_some hF
          refine v_bastore sh_20 (by exact ltG hG (by decide)) (ixO k17) dX9_keep_134 ?_
          refine v_aload_n (i := 0) dX9_keep_135 rfl rfl ?_
          refine g_X9_19 (q := 21) rfl sh_18 (by exact ltG hG (by decide)) (by exact rG hG r0_18_3) dX9_keep_136 ?_
          refine v_aload_n (i := 0) dX9_keep_139 rfl rfl ?_
          refine g_X9_26 rfl sh_18 (by exact ltG hG (by decide)) dX9_keep_140 ?_
          refine v_iload_n (i := 1) dX9_keep_143 rfl rfl ?_
          refine v_i2s dX9_keep_144 ?_
          obtain ⟨k18, hF⟩ := ck_some hF
          refine v_sastore sh_21 (by exact ltG hG (by decide)) (ixO k18) dX9_keep_145 ?_
          refine v_aload_n (i := 0) dX9_keep_146 rfl rfl ?_
          refine g_X9_23 (q := 22) rfl sh_18 (by exact ltG hG (by decide)) (by exact rG hG r0_18_4) dX9_keep_147 ?_
          refine v_aload_n (i := 0) dX9_keep_150 rfl rfl ?_
          refine g_X9_26 rfl sh_18 (by exact ltG hG (by decide)) dX9_keep_151 ?_
          refine v_lload (i := 4) dX9_keep_154 rfl ?_
          obtain ⟨k19, hF⟩ := ck_some hF
          refine v_lastore sh_22 (by exact ltG hG (by decide)) (ixO k19) dX9_keep_156 ?_
          refine v_aload_n (i := 0) dX9_keep_157 rfl rfl ?_
          refine v_dup dX9_keep_158 rfl ?_
          refine g_X9_26 rfl sh_18 (by exact ltG hG (by decide)) dX9_keep_159 ?_
          refine v_iconst (v := 1) dX9_keep_162 (by decide) ?_
          refine v_iadd dX9_keep_163 ?_
          refine p_X9_26 rfl sh_18 (by exact ltG hG (by decide)) dX9_keep_164 ?_
          refine v_iload_n (i := 2) dX9_keep_167 rfl rfl ?_
          refine v_ireturn rfl dX9_keep_168 ?_
          obtain ⟨rfl, rfl⟩ := Prod.mk.inj (Option.some.inj hF)
          exact ⟨rfl, rfl, hG⟩
    · rw [if_neg c8] at hF
      refine v_aload_n (i := 0) dX9_keep_70 rfl rfl ?_
      refine v_iload_n (i := 1) dX9_keep_71 rfl rfl ?_
      obtain ⟨q20, q20_e, hF⟩ := Option.bind_eq_some_iff.mp hF
      refine c_X9_90 rfl sh_18 (by exact ltG hG (by decide)) (Nat.le_of_ble_eq_true rfl) dX9_keep_72 (s_X9_behindDigits _ q20_e hG) (fun r1 h1 hq => ?_)
      obtain ⟨rfl, hq, hG⟩ := hq
      replace hq := hq.symm
      subst hq
      show V _ _ _ _ (_ :: _) _ _
      refine v_istore_n (i := 2) dX9_keep_75 rfl (by decide) (nlT rfl) ?_
      simp only [List.set_cons_zero, List.set_cons_succ]
      refine v_aload_n (i := 0) dX9_keep_76 rfl rfl ?_
      refine v_iload_n (i := 1) dX9_keep_77 rfl rfl ?_
      refine v_iload_n (i := 2) dX9_keep_78 rfl rfl ?_
      obtain ⟨q22, q22_e, hF⟩ := Option.bind_eq_some_iff.mp hF
      refine c_X9_93 rfl sh_18 (by exact ltG hG (by decide)) (Nat.le_of_ble_eq_true rfl) dX9_keep_79 (s_X9_numberOf _ q22_e hG) (fun r1 h1 hq => ?_)
      obtain ⟨rfl, hq, hG⟩ := hq
      replace hq := hq.symm
      subst hq
      show V _ _ _ _ (_ :: _) _ _
      refine v_i2l dX9_keep_82 ?_
      refine v_lstore (i := 4) dX9_keep_83 (by decide) (nlT rfl) ?_
      simp only [List.set_cons_zero, List.set_cons_succ]
      refine v_iload_n (i := 2) dX9_keep_85 rfl rfl ?_
      refine v_iload_n (i := 1) dX9_keep_86 rfl rfl ?_
      refine v_isub dX9_keep_87 ?_
      refine v_iconst (v := 4) dX9_keep_88 (by decide) ?_
      refine v_icmp_le 97 dX9_keep_89 (by decide) (fun c24 => ?_) (fun c24 => ?_)
      · rw [if_pos c24] at hF
        refine v_bipush (v := 30) dX9_keep_97 (by decide) ?_
        refine v_istore_n (i := 3) dX9_keep_99 rfl (by decide) (nlT rfl) ?_
        simp only [List.set_cons_zero, List.set_cons_succ]
        refine v_goto 114 dX9_keep_100 (by decide) ?_
        refine v_aload_n (i := 0) dX9_keep_114 rfl rfl ?_
        refine g_X9_26 rfl sh_18 (by exact ltG hG (by decide)) dX9_keep_115 ?_
        refine v_sipush (v := 401) dX9_keep_118 (by decide) ?_
        refine v_icmp_ge 167 dX9_keep_121 (by decide) (fun c25 => ?_) (fun c25 => ?_)
        · rw [if_pos c25] at hF
          refine v_iload_n (i := 2) dX9_keep_167 rfl rfl ?_
          refine v_ireturn rfl dX9_keep_168 ?_
          obtain ⟨rfl, rfl⟩ := Prod.mk.inj (Option.some.inj hF)
          exact ⟨rfl, rfl, hG⟩
        · rw [if_neg c25] at hF
          refine v_aload_n (i := 0) dX9_keep_124 rfl rfl ?_
          refine g_X9_15 (q := 20) rfl sh_18 (by exact ltG hG (by decide)) (by exact rG hG r0_18_2) dX9_keep_125 ?_
          refine v_aload_n (i := 0) dX9_keep_128 rfl rfl ?_
          refine g_X9_26 rfl sh_18 (by exact ltG hG (by decide)) dX9_keep_129 ?_
          refine v_iload_n (i := 3) dX9_keep_132 rfl rfl ?_
          refine v_i2b dX9_keep_133 ?_
          obtain ⟨k26, hF⟩ := ck_some hF
          refine v_bastore sh_20 (by exact ltG hG (by decide)) (ixO k26) dX9_keep_134 ?_
          refine v_aload_n (i := 0) dX9_keep_135 rfl rfl ?_
          refine g_X9_19 (q := 21) rfl sh_18 (by exact ltG hG (by decide)) (by exact rG hG r0_18_3) dX9_keep_136 ?_
          refine v_aload_n (i := 0) dX9_keep_139 rfl rfl ?_
          refine g_X9_26 rfl sh_18 (by exact ltG hG (by decide)) dX9_keep_140 ?_
          refine v_iload_n (i := 1) dX9_keep_143 rfl rfl ?_
          refine v_i2s dX9_keep_144 ?_
          obtain ⟨k27, hF⟩ := ck_some hF
          refine v_sastore sh_21 (by exact ltG hG (by decide)) (ixO k27) dX9_keep_145 ?_
          refine v_aload_n (i := 0) dX9_keep_146 rfl rfl ?_
          refine g_X9_23 (q := 22) rfl sh_18 (by exact ltG hG (by decide)) (by exact rG hG r0_18_4) dX9_keep_147 ?_
          refine v_aload_n (i := 0) dX9_keep_150 rfl rfl ?_
          refine g_X9_26 rfl sh_18 (by exact ltG hG (by decide)) dX9_keep_151 ?_
          refine v_lload (i := 4) dX9_keep_154 rfl ?_
          obtain ⟨k28, hF⟩ := ck_some hF
          refine v_lastore sh_22 (by exact ltG hG (by decide)) (ixO k28) dX9_keep_156 ?_
          refine v_aload_n (i := 0) dX9_keep_157 rfl rfl ?_
          refine v_dup dX9_keep_158 rfl ?_
          refine g_X9_26 rfl sh_18 (by exact ltG hG (by decide)) dX9_keep_159 ?_
          refine v_iconst (v := 1) dX9_keep_162 (by decide) ?_
          refine v_iadd dX9_keep_163 ?_
          refine p_X9_26 rfl sh_18 (by exact ltG hG (by decide)) dX9_keep_164 ?_
          refine v_iload_n (i := 2) dX9_keep_167 rfl rfl ?_
          refine v_ireturn rfl dX9_keep_168 ?_
          obtain ⟨rfl, rfl⟩ := Prod.mk.inj (Option.some.inj hF)
          exact ⟨rfl, rfl, hG⟩
      · rw [if_neg c24] at hF
        refine v_bipush (v := 33) dX9_keep_92 (by decide) ?_
        refine v_goto 99 dX9_keep_94 (by decide) ?_
        refine v_istore_n (i := 3) dX9_keep_99 rfl (by decide) (nlT rfl) ?_
        simp only [List.set_cons_zero, List.set_cons_succ]
        refine v_goto 114 dX9_keep_100 (by decide) ?_
        refine v_aload_n (i := 0) dX9_keep_114 rfl rfl ?_
        refine g_X9_26 rfl sh_18 (by exact ltG hG (by decide)) dX9_keep_115 ?_
        refine v_sipush (v := 401) dX9_keep_118 (by decide) ?_
        refine v_icmp_ge 167 dX9_keep_121 (by decide) (fun c29 => ?_) (fun c29 => ?_)
        · rw [if_pos c29] at hF
          refine v_iload_n (i := 2) dX9_keep_167 rfl rfl ?_
          refine v_ireturn rfl dX9_keep_168 ?_
          obtain ⟨rfl, rfl⟩ := Prod.mk.inj (Option.some.inj hF)
          exact ⟨rfl, rfl, hG⟩
        · rw [if_neg c29] at hF
          refine v_aload_n (i := 0) dX9_keep_124 rfl rfl ?_
          refine g_X9_15 (q := 20) rfl sh_18 (by exact ltG hG (by decide)) (by exact rG hG r0_18_2) dX9_keep_125 ?_
          refine v_aload_n (i := 0) dX9_keep_128 rfl rfl ?_
          refine g_X9_26 rfl sh_18 (by exact ltG hG (by decide)) dX9_keep_129 ?_
          refine v_iload_n (i := 3) dX9_keep_132 rfl rfl ?_
          refine v_i2b dX9_keep_133 ?_
          obtain ⟨k30, hF⟩ := ck_some hF
          refine v_bastore sh_20 (by exact ltG hG (by decide)) (ixO k30) dX9_keep_134 ?_
          refine v_aload_n (i := 0) dX9_keep_135 rfl rfl ?_
          refine g_X9_19 (q := 21) rfl sh_18 (by exact ltG hG (by decide)) (by exact rG hG r0_18_3) dX9_keep_136 ?_
          refine v_aload_n (i := 0) dX9_keep_139 rfl rfl ?_
          refine g_X9_26 rfl sh_18 (by exact ltG hG (by decide)) dX9_keep_140 ?_
          refine v_iload_n (i := 1) dX9_keep_143 rfl rfl ?_
          refine v_i2s dX9_keep_144 ?_
          obtain ⟨k31, hF⟩ := ck_some hF
          refine v_sastore sh_21 (by exact ltG hG (by decide)) (ixO k31) dX9_keep_145 ?_
          refine v_aload_n (i := 0) dX9_keep_146 rfl rfl ?_
          refine g_X9_23 (q := 22) rfl sh_18 (by exact ltG hG (by decide)) (by exact rG hG r0_18_4) dX9_keep_147 ?_
          refine v_aload_n (i := 0) dX9_keep_150 rfl rfl ?_
          refine g_X9_26 rfl sh_18 (by exact ltG hG (by decide)) dX9_keep_151 ?_
          refine v_lload (i := 4) dX9_keep_154 rfl ?_
          obtain ⟨k32, hF⟩ := ck_some hF
          refine v_lastore sh_22 (by exact ltG hG (by decide)) (ixO k32) dX9_keep_156 ?_
          refine v_aload_n (i := 0) dX9_keep_157 rfl rfl ?_
          refine v_dup dX9_keep_158 rfl ?_
          refine g_X9_26 rfl sh_18 (by exact ltG hG (by decide)) dX9_keep_159 ?_
          refine v_iconst (v := 1) dX9_keep_162 (by decide) ?_
          refine v_iadd dX9_keep_163 ?_
          refine p_X9_26 rfl sh_18 (by exact ltG hG (by decide)) dX9_keep_164 ?_
          refine v_iload_n (i := 2) dX9_keep_167 rfl rfl ?_
          refine v_ireturn rfl dX9_keep_168 ?_
          obtain ⟨rfl, rfl⟩ := Prod.mk.inj (Option.some.inj hF)
          exact ⟨rfl, rfl, hG⟩
  · rw [if_neg c5] at hF
    refine v_aload_n (i := 0) dX9_keep_25 rfl rfl ?_
    refine v_iload_n (i := 1) dX9_keep_26 rfl rfl ?_
    obtain ⟨q33, q33_e, hF⟩ := Option.bind_eq_some_iff.mp hF
    refine c_X9_76 rfl sh_18 (by exact ltG hG (by decide)) (Nat.le_of_ble_eq_true rfl) dX9_keep_27 (s_X9_behindLetters _ q33_e hG) (fun r1 h1 hq => ?_)
    obtain ⟨rfl, hq, hG⟩ := hq
    replace hq := hq.symm
    subst hq
    show V _ _ _ _ (_ :: _) _ _
    refine v_istore_n (i := 2) dX9_keep_30 rfl (by decide) (nlT rfl) ?_
    simp only [List.set_cons_zero, List.set_cons_succ]
    refine v_aload_n (i := 0) dX9_keep_31 rfl rfl ?_
    refine v_iload_n (i := 1) dX9_keep_32 rfl rfl ?_
    refine v_iload_n (i := 2) dX9_keep_33 rfl rfl ?_
    obtain ⟨q35, q35_e, hF⟩ := Option.bind_eq_some_iff.mp hF
    refine c_X9_79 rfl sh_18 (by exact ltG hG (by decide)) (Nat.le_of_ble_eq_true rfl) dX9_keep_34 (s_X9_lettersOf _ q35_e hG) (fun r1 h1 hq => ?_)
    obtain ⟨rfl, hq, hG⟩ := hq
    replace hq := hq.symm
    subst hq
    show V _ _ _ _ (_ :: _) _ _
    refine v_lstore (i := 4) dX9_keep_37 (by decide) (nlT rfl) ?_
    simp only [List.set_cons_zero, List.set_cons_succ]
    refine v_iload_n (i := 2) dX9_keep_39 rfl rfl ?_
    refine v_iload_n (i := 1) dX9_keep_40 rfl rfl ?_
    refine v_isub dX9_keep_41 ?_
    refine v_bipush (v := 8) dX9_keep_42 (by decide) ?_
    refine v_icmp_le 52 dX9_keep_44 (by decide) (fun c37 => ?_) (fun c37 => ?_)
    · rw [if_pos c37] at hF
      refine v_aload_n (i := 0) dX9_keep_52 rfl rfl ?_
      refine v_lload (i := 4) dX9_keep_53 rfl ?_
      obtain ⟨q38, q38_e, hF⟩ := Option.bind_eq_some_iff.mp hF
      refine c_X9_83 rfl sh_18 (by exact ltG hG (by decide)) (Nat.le_of_ble_eq_true rfl) dX9_keep_55 (s_X9_kindOfLetters _ q38_e hG) (fun r1 h1 hq => ?_)
      obtain ⟨rfl, hq, hG⟩ := hq
      replace hq := hq.symm
      subst hq
      show V _ _ _ _ (_ :: _) _ _
      refine v_istore_n (i := 3) dX9_keep_58 rfl (by decide) (nlT rfl) ?_
      simp only [List.set_cons_zero, List.set_cons_succ]
      refine v_goto 114 dX9_keep_59 (by decide) ?_
      refine v_aload_n (i := 0) dX9_keep_114 rfl rfl ?_
      refine g_X9_26 rfl sh_18 (by exact ltG hG (by decide)) dX9_keep_115 ?_
      refine v_sipush (v := 401) dX9_keep_118 (by decide) ?_
      refine v_icmp_ge 167 dX9_keep_121 (by decide) (fun c40 => ?_) (fun c40 => ?_)
      · rw [if_pos c40] at hF
        refine v_iload_n (i := 2) dX9_keep_167 rfl rfl ?_
        refine v_ireturn rfl dX9_keep_168 ?_
        obtain ⟨rfl, rfl⟩ := Prod.mk.inj (Option.some.inj hF)
        exact ⟨rfl, rfl, hG⟩
      · rw [if_neg c40] at hF
        refine v_aload_n (i := 0) dX9_keep_124 rfl rfl ?_
        refine g_X9_15 (q := 20) rfl sh_18 (by exact ltG hG (by decide)) (by exact rG hG r0_18_2) dX9_keep_125 ?_
        refine v_aload_n (i := 0) dX9_keep_128 rfl rfl ?_
        refine g_X9_26 rfl sh_18 (by exact ltG hG (by decide)) dX9_keep_129 ?_
        refine v_iload_n (i := 3) dX9_keep_132 rfl rfl ?_
        refine v_i2b dX9_keep_133 ?_
        obtain ⟨k41, hF⟩ := ck_some hF
        refine v_bastore sh_20 (by exact ltG hG (by decide)) (ixO k41) dX9_keep_134 ?_
        refine v_aload_n (i := 0) dX9_keep_135 rfl rfl ?_
        refine g_X9_19 (q := 21) rfl sh_18 (by exact ltG hG (by decide)) (by exact rG hG r0_18_3) dX9_keep_136 ?_
        refine v_aload_n (i := 0) dX9_keep_139 rfl rfl ?_
        refine g_X9_26 rfl sh_18 (by exact ltG hG (by decide)) dX9_keep_140 ?_
        refine v_iload_n (i := 1) dX9_keep_143 rfl rfl ?_
        refine v_i2s dX9_keep_144 ?_
        obtain ⟨k42, hF⟩ := ck_some hF
        refine v_sastore sh_21 (by exact ltG hG (by decide)) (ixO k42) dX9_keep_145 ?_
        refine v_aload_n (i := 0) dX9_keep_146 rfl rfl ?_
        refine g_X9_23 (q := 22) rfl sh_18 (by exact ltG hG (by decide)) (by exact rG hG r0_18_4) dX9_keep_147 ?_
        refine v_aload_n (i := 0) dX9_keep_150 rfl rfl ?_
        refine g_X9_26 rfl sh_18 (by exact ltG hG (by decide)) dX9_keep_151 ?_
        refine v_lload (i := 4) dX9_keep_154 rfl ?_
        obtain ⟨k43, hF⟩ := ck_some hF
        refine v_lastore sh_22 (by exact ltG hG (by decide)) (ixO k43) dX9_keep_156 ?_
        refine v_aload_n (i := 0) dX9_keep_157 rfl rfl ?_
        refine v_dup dX9_keep_158 rfl ?_
        refine g_X9_26 rfl sh_18 (by exact ltG hG (by decide)) dX9_keep_159 ?_
        refine v_iconst (v := 1) dX9_keep_162 (by decide) ?_
        refine v_iadd dX9_keep_163 ?_
        refine p_X9_26 rfl sh_18 (by exact ltG hG (by decide)) dX9_keep_164 ?_
        refine v_iload_n (i := 2) dX9_keep_167 rfl rfl ?_
        refine v_ireturn rfl dX9_keep_168 ?_
        obtain ⟨rfl, rfl⟩ := Prod.mk.inj (Option.some.inj hF)
        exact ⟨rfl, rfl, hG⟩
    · rw [if_neg c37] at hF
      refine v_bipush (v := 33) dX9_keep_47 (by decide) ?_
      refine v_goto 58 dX9_keep_49 (by decide) ?_
      refine v_istore_n (i := 3) dX9_keep_58 rfl (by decide) (nlT rfl) ?_
      simp only [List.set_cons_zero, List.set_cons_succ]
      refine v_goto 114 dX9_keep_59 (by decide) ?_
      refine v_aload_n (i := 0) dX9_keep_114 rfl rfl ?_
      refine g_X9_26 rfl sh_18 (by exact ltG hG (by decide)) dX9_keep_115 ?_
      refine v_sipush (v := 401) dX9_keep_118 (by decide) ?_
      refine v_icmp_ge 167 dX9_keep_121 (by decide) (fun c44 => ?_) (fun c44 => ?_)
      · rw [if_pos c44] at hF
        refine v_iload_n (i := 2) dX9_keep_167 rfl rfl ?_
        refine v_ireturn rfl dX9_keep_168 ?_
        obtain ⟨rfl, rfl⟩ := Prod.mk.inj (Option.some.inj hF)
        exact ⟨rfl, rfl, hG⟩
      · rw [if_neg c44] at hF
        refine v_aload_n (i := 0) dX9_keep_124 rfl rfl ?_
        refine g_X9_15 (q := 20) rfl sh_18 (by exact ltG hG (by decide)) (by exact rG hG r0_18_2) dX9_keep_125 ?_
        refine v_aload_n (i := 0) dX9_keep_128 rfl rfl ?_
        refine g_X9_26 rfl sh_18 (by exact ltG hG (by decide)) dX9_keep_129 ?_
        refine v_iload_n (i := 3) dX9_keep_132 rfl rfl ?_
        refine v_i2b dX9_keep_133 ?_
        obtain ⟨k45, hF⟩ := ck_some hF
        refine v_bastore sh_20 (by exact ltG hG (by decide)) (ixO k45) dX9_keep_134 ?_
        refine v_aload_n (i := 0) dX9_keep_135 rfl rfl ?_
        refine g_X9_19 (q := 21) rfl sh_18 (by exact ltG hG (by decide)) (by exact rG hG r0_18_3) dX9_keep_136 ?_
        refine v_aload_n (i := 0) dX9_keep_139 rfl rfl ?_
        refine g_X9_26 rfl sh_18 (by exact ltG hG (by decide)) dX9_keep_140 ?_
        refine v_iload_n (i := 1) dX9_keep_143 rfl rfl ?_
        refine v_i2s dX9_keep_144 ?_
        obtain ⟨k46, hF⟩ := ck_some hF
        refine v_sastore sh_21 (by exact ltG hG (by decide)) (ixO k46) dX9_keep_145 ?_
        refine v_aload_n (i := 0) dX9_keep_146 rfl rfl ?_
        refine g_X9_23 (q := 22) rfl sh_18 (by exact ltG hG (by decide)) (by exact rG hG r0_18_4) dX9_keep_147 ?_
        refine v_aload_n (i := 0) dX9_keep_150 rfl rfl ?_
        refine g_X9_26 rfl sh_18 (by exact ltG hG (by decide)) dX9_keep_151 ?_
        refine v_lload (i := 4) dX9_keep_154 rfl ?_
        obtain ⟨k47, hF⟩ := ck_some hF
        refine v_lastore sh_22 (by exact ltG hG (by decide)) (ixO k47) dX9_keep_156 ?_
        refine v_aload_n (i := 0) dX9_keep_157 rfl rfl ?_
        refine v_dup dX9_keep_158 rfl ?_
        refine g_X9_26 rfl sh_18 (by exact ltG hG (by decide)) dX9_keep_159 ?_
        refine v_iconst (v := 1) dX9_keep_162 (by decide) ?_
        refine v_iadd dX9_keep_163 ?_
        refine p_X9_26 rfl sh_18 (by exact ltG hG (by decide)) dX9_keep_164 ?_
        refine v_iload_n (i := 2) dX9_keep_167 rfl rfl ?_
        refine v_ireturn rfl dX9_keep_168 ?_
        obtain ⟨rfl, rfl⟩ := Prod.mk.inj (Option.some.inj hF)
        exact ⟨rfl, rfl, hG⟩
def W_X9_scan : Nat → Nat → Hp → Int32 → Int32 → Int32 → Option Hp
  | 0 => fun _ _ _ _ _ => none
  | n + 1 => fun hd h l1 l2 l3 => (if hd = 30 then (if (401 : Int32) ≤ (l3 : Int32) then some h else (if ((hi h 18 6) : Int32) ≤ (l2 : Int32) then some h else ((F_X9_keep n h l2).bind (fun q3 => ((F_X9_behindBlanks n q3.2 q3.1).bind (fun q5 => W_X9_scan n 30 q5.2  l1 q5.1 (l3 + 1))))))) else none)
set_option maxRecDepth 100000 in
set_option maxHeartbeats 4000000 in
theorem sw_X9_scan (d : Nat)  (n : Nat) : (∀ (l1 : Int32) (l2 : Int32) (l3 : Int32) (h : Hp), ∀ (h' : Hp), W_X9_scan n 30 h  l1 l2 l3 = some h' → G h → V mX9_scan (d + 3) 30 [some (.ref 18), some (.int l1), some (.int l2), some (.int l3)] [] h (fun r1 h1 => r1 = none ∧ h1 = h' ∧ G h')) := by
  induction n with
  | zero => exact by intros; contradiction
  | succ n ih =>
    have s_X9_scan_IH_30 := ih
    intro l1 l2 l3 h h' hF hG
    unfold W_X9_scan at hF
    rw [if_pos rfl] at hF
    refine v_iload_n (i := 3) dX9_scan_30 rfl rfl ?_
    refine v_sipush (v := 401) dX9_scan_31 (by decide) ?_
    refine v_icmp_ge 61 dX9_scan_34 (by decide) (fun c1 => ?_) (fun c1 => ?_)
    · rw [if_pos c1] at hF
      refine v_return rfl dX9_scan_61 ?_
      obtain rfl := Option.some.inj hF
      exact ⟨rfl, rfl, hG⟩
    · rw [if_neg c1] at hF
      refine v_iload_n (i := 2) dX9_scan_37 rfl rfl ?_
      refine v_aload_n (i := 0) dX9_scan_38 rfl rfl ?_
      refine g_X9_30 rfl sh_18 (by exact ltG hG (by decide)) dX9_scan_39 ?_
      refine v_icmp_ge 61 dX9_scan_42 (by decide) (fun c2 => ?_) (fun c2 => ?_)
      · rw [if_pos c2] at hF
        refine v_return rfl dX9_scan_61 ?_
        obtain rfl := Option.some.inj hF
        exact ⟨rfl, rfl, hG⟩
      · rw [if_neg c2] at hF
        refine v_aload_n (i := 0) dX9_scan_45 rfl rfl ?_
        refine v_aload_n (i := 0) dX9_scan_46 rfl rfl ?_
        refine v_iload_n (i := 2) dX9_scan_47 rfl rfl ?_
        obtain ⟨q3, q3_e, hF⟩ := Option.bind_eq_some_iff.mp hF
        refine c_X9_66 rfl sh_18 (by exact ltG hG (by decide)) (Nat.le_of_ble_eq_true rfl) dX9_scan_48 (s_X9_keep _ q3_e hG) (fun r1 h1 hq => ?_)
        obtain ⟨rfl, hq, hG⟩ := hq
        replace hq := hq.symm
        subst hq
        show V _ _ _ _ (_ :: _) _ _
        obtain ⟨q5, q5_e, hF⟩ := Option.bind_eq_some_iff.mp hF
        refine c_X9_62 rfl sh_18 (by exact ltG hG (by decide)) (Nat.le_of_ble_eq_true rfl) dX9_scan_51 (s_X9_behindBlanks _ q5_e hG) (fun r1 h1 hq => ?_)
        obtain ⟨rfl, hq, hG⟩ := hq
        replace hq := hq.symm
        subst hq
        show V _ _ _ _ (_ :: _) _ _
        refine v_istore_n (i := 2) dX9_scan_54 rfl (by decide) (nlT rfl) ?_
        simp only [List.set_cons_zero, List.set_cons_succ]
        refine v_iinc (i := 3) (v := (l3 + 1)) dX9_scan_55 rfl rfl (by decide) (nlT rfl) ?_
        simp only [List.set_cons_zero, List.set_cons_succ]
        refine v_goto 30 dX9_scan_58 (by decide) ?_
        refine V.weak (la2 := [some (.ref 18), some (.int l1), some (.int q5.1), some (.int (l3 + 1))]) (by simp [wk]) ?_
        exact (s_X9_scan_IH_30) _ _ _ _ _ hF hG
def F_X9_scan (n : Nat) (h : Hp) (x1 : Int32) : Option Hp := ((F_X9_behindBlanks n (wrI (wrI h 18 6 (if 0 < (if 2000 < x1 then 2000 else x1) then (if 2000 < x1 then 2000 else x1) else 0)) 18 5 0) 0).bind (fun q7 => W_X9_scan n 30 q7.2  x1 q7.1 0))
set_option maxRecDepth 100000 in
set_option maxHeartbeats 4000000 in
theorem s_X9_scan (d : Nat) {n : Nat} {h : Hp} {x1 : Int32} {q0 : Hp} (hF : F_X9_scan n h x1 = some q0) (hG : G h)  : Kc mX9_scan (d + 3) [.ref 18, .int x1] h (fun r1 h1 => r1 = none ∧ h1 = q0 ∧ G q0) := by
  obtain ⟨h', rfl⟩ : ∃ z, z = q0 := ⟨_, rfl⟩
  have s_X9_scan_IH_30 := sw_X9_scan d   n
  unfold F_X9_scan at hF
  refine Kc.of [some (.ref 18), some (.int x1), none, none] ok_X9_scan rfl (Nat.le_of_ble_eq_true rfl) ?_
  refine v_aload_n (i := 0) dX9_scan_0 rfl rfl ?_
  refine v_iconst (v := 0) dX9_scan_1 (by decide) ?_
  refine v_iload_n (i := 1) dX9_scan_2 rfl rfl ?_
  refine v_aload_n (i := 0) dX9_scan_3 rfl rfl ?_
  refine g_X9_33 (q := 1) rfl sh_18 (by exact ltG hG (by decide)) (by exact rG hG r0_18_0) dX9_scan_4 ?_
  refine v_alen (v := 2000) sh_1 (by exact ltG hG (by decide)) 1 (fun _ => rfl) rfl dX9_scan_7 ?_
  refine v_min ml_X9_53 sm_J9_min_7cf53 in_J9 cw_J9_min_7cf53 (Nat.le_of_ble_eq_true rfl) dX9_scan_8 ?_
  refine v_max ml_X9_59 sm_J9_max_7cf53 in_J9 cw_J9_max_7cf53 (Nat.le_of_ble_eq_true rfl) dX9_scan_11 ?_
  refine p_X9_30 rfl sh_18 (by exact ltG hG (by decide)) dX9_scan_14 ?_
  refine v_aload_n (i := 0) dX9_scan_17 rfl rfl ?_
  refine v_iconst (v := 0) dX9_scan_18 (by decide) ?_
  refine p_X9_26 rfl sh_18 (by exact ltG hG (by decide)) dX9_scan_19 ?_
  refine v_aload_n (i := 0) dX9_scan_22 rfl rfl ?_
  refine v_iconst (v := 0) dX9_scan_23 (by decide) ?_
  obtain ⟨q7, q7_e, hF⟩ := Option.bind_eq_some_iff.mp hF
  refine c_X9_62 rfl sh_18 (by exact ltG hG (by decide)) (Nat.le_of_ble_eq_true rfl) dX9_scan_24 (s_X9_behindBlanks _ q7_e hG) (fun r1 h1 hq => ?_)
  obtain ⟨rfl, hq, hG⟩ := hq
  replace hq := hq.symm
  subst hq
  show V _ _ _ _ (_ :: _) _ _
  refine v_istore_n (i := 2) dX9_scan_27 rfl (by decide) (nlT rfl) ?_
  simp only [List.set_cons_zero, List.set_cons_succ]
  refine v_iconst (v := 0) dX9_scan_28 (by decide) ?_
  refine v_istore_n (i := 3) dX9_scan_29 rfl (by decide) (nlT rfl) ?_
  simp only [List.set_cons_zero, List.set_cons_succ]
  refine V.weak (la2 := [some (.ref 18), some (.int x1), some (.int q7.1), some (.int 0)]) (by simp [wk]) ?_
  exact (s_X9_scan_IH_30) _ _ _ _ _ hF hG
def W_X0_soak : Nat → Nat → Hp → Nat → Nat → Int32 → Int32 → Int32 → Option Hp
  | 0 => fun _ _ _ _ _ _ _ => none
  | n + 1 => fun hd h a b1 l2 l3 l4 => (if hd = 3 then (if (l2 : Int32) ≤ (l4 : Int32) then some h else ((F_X0_canSpread n h a b1).bind (fun q2 => (if (q2.1 : Int32) = 0 then some q2.2 else ((F_X0_spread n (wrI q2.2 b1 0 ((hi q2.2 b1 0) + 1)) a b1 l3).bind (fun q5 => W_X0_soak n 3 q5 a b1 l2 l3 (l4 + 1))))))) else none)
set_option maxRecDepth 100000 in
set_option maxHeartbeats 4000000 in
theorem sw_X0_soak (d : Nat) (a : Nat) (b1 : Nat) (hs : IsBd a) (ht1 : Sc b1) (n : Nat) : (∀ (l2 : Int32) (l3 : Int32) (l4 : Int32) (h : Hp), ∀ (h' : Hp), W_X0_soak n 3 h a b1 l2 l3 l4 = some h' → G h → V mX0_soak (d + 4) 3 [some (.ref a), some (.ref b1), some (.int l2), some (.int l3), some (.int l4)] [] h (fun r1 h1 => r1 = none ∧ h1 = h' ∧ G h')) := by
  obtain ⟨s0, sF, sL, s3, s4, s5, s6, s7⟩ := id hs
  obtain ⟨sf0, sf4⟩ := id sF
  obtain ⟨sl0, sl1, sl2, sl3, sl4, sl5, sl6, sl7⟩ := id sL
  obtain ⟨t10, t11, t12, t13, t14, t15, t16, t17⟩ := id ht1
  induction n with
  | zero => exact by intros; contradiction
  | succ n ih =>
    have s_X0_soak_IH_3 := ih
    intro l2 l3 l4 h h' hF hG
    unfold W_X0_soak at hF
    rw [if_pos rfl] at hF
    refine v_iload (i := 4) dX0_soak_3 rfl ?_
    refine v_iload_n (i := 2) dX0_soak_5 rfl rfl ?_
    refine v_icmp_ge 39 dX0_soak_6 (by decide) (fun c1 => ?_) (fun c1 => ?_)
    · rw [if_pos c1] at hF
      refine v_return rfl dX0_soak_39 ?_
      obtain rfl := Option.some.inj hF
      exact ⟨rfl, rfl, hG⟩
    · rw [if_neg c1] at hF
      refine v_aload_n (i := 0) dX0_soak_9 rfl rfl ?_
      refine v_aload_n (i := 1) dX0_soak_10 rfl rfl ?_
      obtain ⟨q2, q2_e, hF⟩ := Option.bind_eq_some_iff.mp hF
      refine c_X0_131 rfl s0 (by exact ltG hG (by omega)) (Nat.le_of_ble_eq_true rfl) dX0_soak_11 (s_X0_canSpread _ q2_e hG (by first | assumption | exact sc_30 | exact sc_34 | exact sc_10 | exact fd_24 | exact fd_4 | exact lw_25 | exact lw_5 | exact bd_23 | exact bd_3 | exact ⟨by first | assumption | rfl, by first | decide | omega⟩) (by first | assumption | exact sc_30 | exact sc_34 | exact sc_10 | exact fd_24 | exact fd_4 | exact lw_25 | exact lw_5 | exact bd_23 | exact bd_3 | exact ⟨by first | assumption | rfl, by first | decide | omega⟩)) (fun r1 h1 hq => ?_)
      obtain ⟨rfl, hq, hG⟩ := hq
      replace hq := hq.symm
      subst hq
      show V _ _ _ _ (_ :: _) _ _
      refine v_if_eq 39 dX0_soak_14 (by decide) (fun c4 => ?_) (fun c4 => ?_)
      · rw [if_pos c4] at hF
        refine v_return rfl dX0_soak_39 ?_
        obtain rfl := Option.some.inj hF
        exact ⟨rfl, rfl, hG⟩
      · rw [if_neg c4] at hF
        refine v_aload_n (i := 1) dX0_soak_17 rfl rfl ?_
        refine v_dup dX0_soak_18 rfl ?_
        refine g_X0_60 rfl t10 (by exact ltG hG (by omega)) dX0_soak_19 ?_
        refine v_iconst (v := 1) dX0_soak_22 (by decide) ?_
        refine v_iadd dX0_soak_23 ?_
        refine p_X0_60 rfl t10 (by exact ltG hG (by omega)) dX0_soak_24 ?_
        refine v_aload_n (i := 0) dX0_soak_27 rfl rfl ?_
        refine v_aload_n (i := 1) dX0_soak_28 rfl rfl ?_
        refine v_iload_n (i := 3) dX0_soak_29 rfl rfl ?_
        obtain ⟨q5, q5_e, hF⟩ := Option.bind_eq_some_iff.mp hF
        refine c_X0_127 rfl s0 (by exact ltG hG (by omega)) (Nat.le_of_ble_eq_true rfl) dX0_soak_30 (s_X0_spread _ q5_e hG (by first | assumption | exact sc_30 | exact sc_34 | exact sc_10 | exact fd_24 | exact fd_4 | exact lw_25 | exact lw_5 | exact bd_23 | exact bd_3 | exact ⟨by first | assumption | rfl, by first | decide | omega⟩) (by first | assumption | exact sc_30 | exact sc_34 | exact sc_10 | exact fd_24 | exact fd_4 | exact lw_25 | exact lw_5 | exact bd_23 | exact bd_3 | exact ⟨by first | assumption | rfl, by first | decide | omega⟩)) (fun r1 h1 hq => ?_)
        obtain ⟨rfl, hq, hG⟩ := hq
        replace hq := hq.symm
        subst hq
        simp only [Option.toList, List.nil_append]
        refine v_iinc (i := 4) (v := (l4 + 1)) dX0_soak_33 rfl rfl (by decide) (nlT rfl) ?_
        simp only [List.set_cons_zero, List.set_cons_succ]
        refine v_goto 3 dX0_soak_36 (by decide) ?_
        refine V.weak (la2 := [some (.ref a), some (.ref b1), some (.int l2), some (.int l3), some (.int (l4 + 1))]) (by simp [wk]) ?_
        exact (s_X0_soak_IH_3) _ _ _ _ _ hF hG
def F_X0_soak (n : Nat) (h : Hp) (a : Nat) (b1 : Nat) (x2 : Int32) (x3 : Int32) : Option Hp := W_X0_soak n 3 h a b1 x2 x3 0
set_option maxRecDepth 100000 in
set_option maxHeartbeats 4000000 in
theorem s_X0_soak (d : Nat) {n : Nat} {h : Hp} {a : Nat} {b1 : Nat} {x2 : Int32} {x3 : Int32} {q0 : Hp} (hF : F_X0_soak n h a b1 x2 x3 = some q0) (hG : G h) (hs : IsBd a) (ht1 : Sc b1) : Kc mX0_soak (d + 4) [.ref a, .ref b1, .int x2, .int x3] h (fun r1 h1 => r1 = none ∧ h1 = q0 ∧ G q0) := by
  obtain ⟨s0, sF, sL, s3, s4, s5, s6, s7⟩ := id hs
  obtain ⟨sf0, sf4⟩ := id sF
  obtain ⟨sl0, sl1, sl2, sl3, sl4, sl5, sl6, sl7⟩ := id sL
  obtain ⟨t10, t11, t12, t13, t14, t15, t16, t17⟩ := id ht1
  obtain ⟨h', rfl⟩ : ∃ z, z = q0 := ⟨_, rfl⟩
  have s_X0_soak_IH_3 := sw_X0_soak d a b1 hs ht1 n
  unfold F_X0_soak at hF
  refine Kc.of [some (.ref a), some (.ref b1), some (.int x2), some (.int x3), none] ok_X0_soak rfl (Nat.le_of_ble_eq_true rfl) ?_
  refine v_iconst (v := 0) dX0_soak_0 (by decide) ?_
  refine v_istore (i := 4) dX0_soak_1 (by decide) (nlT rfl) ?_
  simp only [List.set_cons_zero, List.set_cons_succ]
  refine V.weak (la2 := [some (.ref a), some (.ref b1), some (.int x2), some (.int x3), some (.int 0)]) (by simp [wk]) ?_
  exact (s_X0_soak_IH_3) _ _ _ _ _ hF hG
def W_X0_walk : Nat → Nat → Hp → Nat → Nat → Int32 → Option Hp
  | 0 => fun _ _ _ _ _ => none
  | n + 1 => fun hd h a b1 l2 => (if hd = 2 then (if ((hi h a 2) : Int32) ≤ (l2 : Int32) then W_X0_walk n 46 (wrI h b1 0 ((hi h b1 0) + 1)) a b1 0 else (if (5 : Int32) ≤ (l2 : Int32) then W_X0_walk n 46 (wrI h b1 0 ((hi h b1 0) + 1)) a b1 0 else ((F_X0_whereTo n h a b1 0 l2).bind (fun q3 => (if ixOK l2 5 = true then W_X0_walk n 2 (wrI q3.2 (b1 + 2) (Int32.toNatClampNeg l2) q3.1) a b1 (l2 + 1) else none))))) else (if hd = 46 then (if ((hi h a 2) : Int32) ≤ (l2 : Int32) then some h else (if (5 : Int32) ≤ (l2 : Int32) then some h else (if ixOK l2 5 = true then ((F_X8_soundsAt n h b1 (hi h (b1 + 2) (Int32.toNatClampNeg l2)) (hi h b1 0)).bind (fun q9 => (if (q9.1 : Int32) = 0 then W_X0_walk n 46 q9.2 a b1 (l2 + 1) else ((F_X0_whereTo n q9.2 a b1 1 l2).bind (fun q12 => (if ixOK l2 5 = true then (if ixOK l2 5 = true then (if ixOK l2 5 = true then W_X0_walk n 46 (wrI (wrI q12.2 (b1 + 2) (Int32.toNatClampNeg l2) q12.1) (b1 + 3) (Int32.toNatClampNeg l2) ((hi (wrI q12.2 (b1 + 2) (Int32.toNatClampNeg l2) q12.1) (b1 + 3) (Int32.toNatClampNeg l2)) + 1)) a b1 (l2 + 1) else none) else none) else none)))))) else none))) else none))
set_option maxRecDepth 100000 in
set_option maxHeartbeats 4000000 in
theorem sw_X0_walk (d : Nat) (a : Nat) (b1 : Nat) (hs : IsBd a) (ht1 : Sc b1) (n : Nat) : (∀ (l2 : Int32) (h : Hp), ∀ (h' : Hp), W_X0_walk n 2 h a b1 l2 = some h' → G h → V mX0_walk (d + 4) 2 [some (.ref a), some (.ref b1), some (.int l2)] [] h (fun r1 h1 => r1 = none ∧ h1 = h' ∧ G h')) ∧ (∀ (l2 : Int32) (h : Hp), ∀ (h' : Hp), W_X0_walk n 46 h a b1 l2 = some h' → G h → V mX0_walk (d + 4) 46 [some (.ref a), some (.ref b1), some (.int l2)] [] h (fun r1 h1 => r1 = none ∧ h1 = h' ∧ G h')) := by
  obtain ⟨s0, sF, sL, s3, s4, s5, s6, s7⟩ := id hs
  obtain ⟨sf0, sf4⟩ := id sF
  obtain ⟨sl0, sl1, sl2, sl3, sl4, sl5, sl6, sl7⟩ := id sL
  obtain ⟨t10, t11, t12, t13, t14, t15, t16, t17⟩ := id ht1
  induction n with
  | zero => exact ⟨by intros; contradiction, by intros; contradiction⟩
  | succ n ih =>
    obtain ⟨s_X0_walk_IH_2, s_X0_walk_IH_46⟩ := ih
    refine ⟨?_, ?_⟩
    · intro l2 h h' hF hG
      unfold W_X0_walk at hF
      rw [if_pos rfl] at hF
      refine v_iload_n (i := 2) dX0_walk_2 rfl rfl ?_
      refine v_aload_n (i := 0) dX0_walk_3 rfl rfl ?_
      refine g_X0_25 rfl s0 (by exact ltG hG (by omega)) dX0_walk_4 ?_
      refine v_icmp_ge 34 dX0_walk_7 (by decide) (fun c1 => ?_) (fun c1 => ?_)
      · rw [if_pos c1] at hF
        refine v_aload_n (i := 1) dX0_walk_34 rfl rfl ?_
        refine v_dup dX0_walk_35 rfl ?_
        refine g_X0_60 rfl t10 (by exact ltG hG (by omega)) dX0_walk_36 ?_
        refine v_iconst (v := 1) dX0_walk_39 (by decide) ?_
        refine v_iadd dX0_walk_40 ?_
        refine p_X0_60 rfl t10 (by exact ltG hG (by omega)) dX0_walk_41 ?_
        refine v_iconst (v := 0) dX0_walk_44 (by decide) ?_
        refine v_istore_n (i := 2) dX0_walk_45 rfl (by decide) (nlT rfl) ?_
        simp only [List.set_cons_zero, List.set_cons_succ]
        refine V.weak (la2 := [some (.ref a), some (.ref b1), some (.int 0)]) (by simp [wk]) ?_
        exact (s_X0_walk_IH_46) _ _ _ hF hG
      · rw [if_neg c1] at hF
        refine v_iload_n (i := 2) dX0_walk_10 rfl rfl ?_
        refine v_iconst (v := 5) dX0_walk_11 (by decide) ?_
        refine v_icmp_ge 34 dX0_walk_12 (by decide) (fun c2 => ?_) (fun c2 => ?_)
        · rw [if_pos c2] at hF
          refine v_aload_n (i := 1) dX0_walk_34 rfl rfl ?_
          refine v_dup dX0_walk_35 rfl ?_
          refine g_X0_60 rfl t10 (by exact ltG hG (by omega)) dX0_walk_36 ?_
          refine v_iconst (v := 1) dX0_walk_39 (by decide) ?_
          refine v_iadd dX0_walk_40 ?_
          refine p_X0_60 rfl t10 (by exact ltG hG (by omega)) dX0_walk_41 ?_
          refine v_iconst (v := 0) dX0_walk_44 (by decide) ?_
          refine v_istore_n (i := 2) dX0_walk_45 rfl (by decide) (nlT rfl) ?_
          simp only [List.set_cons_zero, List.set_cons_succ]
          refine V.weak (la2 := [some (.ref a), some (.ref b1), some (.int 0)]) (by simp [wk]) ?_
          exact (s_X0_walk_IH_46) _ _ _ hF hG
        · rw [if_neg c2] at hF
          refine v_aload_n (i := 1) dX0_walk_15 rfl rfl ?_
          refine g_X0_103 (q := (b1 + 2)) rfl t10 (by exact ltG hG (by omega)) (by exact rG hG t16) dX0_walk_16 ?_
          refine v_iload_n (i := 2) dX0_walk_19 rfl rfl ?_
          refine v_aload_n (i := 0) dX0_walk_20 rfl rfl ?_
          refine v_aload_n (i := 1) dX0_walk_21 rfl rfl ?_
          refine v_iconst (v := 0) dX0_walk_22 (by decide) ?_
          refine v_iload_n (i := 2) dX0_walk_23 rfl rfl ?_
          obtain ⟨q3, q3_e, hF⟩ := Option.bind_eq_some_iff.mp hF
          refine c_X0_115 rfl s0 (by exact ltG hG (by omega)) (Nat.le_of_ble_eq_true rfl) dX0_walk_24 (s_X0_whereTo _ q3_e hG (by first | assumption | exact sc_30 | exact sc_34 | exact sc_10 | exact fd_24 | exact fd_4 | exact lw_25 | exact lw_5 | exact bd_23 | exact bd_3 | exact ⟨by first | assumption | rfl, by first | decide | omega⟩) (by first | assumption | exact sc_30 | exact sc_34 | exact sc_10 | exact fd_24 | exact fd_4 | exact lw_25 | exact lw_5 | exact bd_23 | exact bd_3 | exact ⟨by first | assumption | rfl, by first | decide | omega⟩)) (fun r1 h1 hq => ?_)
          obtain ⟨rfl, hq, hG⟩ := hq
          replace hq := hq.symm
          subst hq
          show V _ _ _ _ (_ :: _) _ _
          obtain ⟨k5, hF⟩ := ck_some hF
          refine v_iastore t12 (by exact ltG hG (by omega)) (ixO k5) dX0_walk_27 ?_
          refine v_iinc (i := 2) (v := (l2 + 1)) dX0_walk_28 rfl rfl (by decide) (nlT rfl) ?_
          simp only [List.set_cons_zero, List.set_cons_succ]
          refine v_goto 2 dX0_walk_31 (by decide) ?_
          refine V.weak (la2 := [some (.ref a), some (.ref b1), some (.int (l2 + 1))]) (by simp [wk]) ?_
          exact (s_X0_walk_IH_2) _ _ _ hF hG
    · intro l2 h h' hF hG
      unfold W_X0_walk at hF
      rw [if_neg (by decide)] at hF
      rw [if_pos rfl] at hF
      refine v_iload_n (i := 2) dX0_walk_46 rfl rfl ?_
      refine v_aload_n (i := 0) dX0_walk_47 rfl rfl ?_
      refine g_X0_25 rfl s0 (by exact ltG hG (by omega)) dX0_walk_48 ?_
      refine v_icmp_ge 105 dX0_walk_51 (by decide) (fun c6 => ?_) (fun c6 => ?_)
      · rw [if_pos c6] at hF
        refine v_return rfl dX0_walk_105 ?_
        obtain rfl := Option.some.inj hF
        exact ⟨rfl, rfl, hG⟩
      · rw [if_neg c6] at hF
        refine v_iload_n (i := 2) dX0_walk_54 rfl rfl ?_
        refine v_iconst (v := 5) dX0_walk_55 (by decide) ?_
        refine v_icmp_ge 105 dX0_walk_56 (by decide) (fun c7 => ?_) (fun c7 => ?_)
        · rw [if_pos c7] at hF
          refine v_return rfl dX0_walk_105 ?_
          obtain rfl := Option.some.inj hF
          exact ⟨rfl, rfl, hG⟩
        · rw [if_neg c7] at hF
          refine v_aload_n (i := 1) dX0_walk_59 rfl rfl ?_
          refine v_aload_n (i := 1) dX0_walk_60 rfl rfl ?_
          refine g_X0_103 (q := (b1 + 2)) rfl t10 (by exact ltG hG (by omega)) (by exact rG hG t16) dX0_walk_61 ?_
          refine v_iload_n (i := 2) dX0_walk_64 rfl rfl ?_
          obtain ⟨k8, hF⟩ := ck_some hF
          refine v_iaload t12 (by exact ltG hG (by omega)) (ixO k8) dX0_walk_65 ?_
          refine v_aload_n (i := 1) dX0_walk_66 rfl rfl ?_
          refine g_X0_60 rfl t10 (by exact ltG hG (by omega)) dX0_walk_67 ?_
          obtain ⟨q9, q9_e, hF⟩ := Option.bind_eq_some_iff.mp hF
          refine c_X0_119 rfl t10 (by exact ltG hG (by omega)) (Nat.le_of_ble_eq_true rfl) dX0_walk_70 (s_X8_soundsAt _ q9_e hG (by first | assumption | exact sc_30 | exact sc_34 | exact sc_10 | exact fd_24 | exact fd_4 | exact lw_25 | exact lw_5 | exact bd_23 | exact bd_3 | exact ⟨by first | assumption | rfl, by first | decide | omega⟩)) (fun r1 h1 hq => ?_)
          obtain ⟨rfl, hq, hG⟩ := hq
          replace hq := hq.symm
          subst hq
          show V _ _ _ _ (_ :: _) _ _
          refine v_if_eq 99 dX0_walk_73 (by decide) (fun c11 => ?_) (fun c11 => ?_)
          · rw [if_pos c11] at hF
            refine v_iinc (i := 2) (v := (l2 + 1)) dX0_walk_99 rfl rfl (by decide) (nlT rfl) ?_
            simp only [List.set_cons_zero, List.set_cons_succ]
            refine v_goto 46 dX0_walk_102 (by decide) ?_
            refine V.weak (la2 := [some (.ref a), some (.ref b1), some (.int (l2 + 1))]) (by simp [wk]) ?_
            exact (s_X0_walk_IH_46) _ _ _ hF hG
          · rw [if_neg c11] at hF
            refine v_aload_n (i := 1) dX0_walk_76 rfl rfl ?_
            refine g_X0_103 (q := (b1 + 2)) rfl t10 (by exact ltG hG (by omega)) (by exact rG hG t16) dX0_walk_77 ?_
            refine v_iload_n (i := 2) dX0_walk_80 rfl rfl ?_
            refine v_aload_n (i := 0) dX0_walk_81 rfl rfl ?_
            refine v_aload_n (i := 1) dX0_walk_82 rfl rfl ?_
            refine v_iconst (v := 1) dX0_walk_83 (by decide) ?_
            refine v_iload_n (i := 2) dX0_walk_84 rfl rfl ?_
            obtain ⟨q12, q12_e, hF⟩ := Option.bind_eq_some_iff.mp hF
            refine c_X0_115 rfl s0 (by exact ltG hG (by omega)) (Nat.le_of_ble_eq_true rfl) dX0_walk_85 (s_X0_whereTo _ q12_e hG (by first | assumption | exact sc_30 | exact sc_34 | exact sc_10 | exact fd_24 | exact fd_4 | exact lw_25 | exact lw_5 | exact bd_23 | exact bd_3 | exact ⟨by first | assumption | rfl, by first | decide | omega⟩) (by first | assumption | exact sc_30 | exact sc_34 | exact sc_10 | exact fd_24 | exact fd_4 | exact lw_25 | exact lw_5 | exact bd_23 | exact bd_3 | exact ⟨by first | assumption | rfl, by first | decide | omega⟩)) (fun r1 h1 hq => ?_)
            obtain ⟨rfl, hq, hG⟩ := hq
            replace hq := hq.symm
            subst hq
            show V _ _ _ _ (_ :: _) _ _
            obtain ⟨k14, hF⟩ := ck_some hF
            refine v_iastore t12 (by exact ltG hG (by omega)) (ixO k14) dX0_walk_88 ?_
            refine v_aload_n (i := 1) dX0_walk_89 rfl rfl ?_
            refine g_X0_106 (q := (b1 + 3)) rfl t10 (by exact ltG hG (by omega)) (by exact rG hG t17) dX0_walk_90 ?_
            refine v_iload_n (i := 2) dX0_walk_93 rfl rfl ?_
            refine v_dup2 dX0_walk_94 rfl rfl ?_
            obtain ⟨k15, hF⟩ := ck_some hF
            refine v_iaload t13 (by exact ltG hG (by omega)) (ixO k15) dX0_walk_95 ?_
            refine v_iconst (v := 1) dX0_walk_96 (by decide) ?_
            refine v_iadd dX0_walk_97 ?_
            obtain ⟨k16, hF⟩ := ck_some hF
            refine v_iastore t13 (by exact ltG hG (by omega)) (ixO k16) dX0_walk_98 ?_
            refine v_iinc (i := 2) (v := (l2 + 1)) dX0_walk_99 rfl rfl (by decide) (nlT rfl) ?_
            simp only [List.set_cons_zero, List.set_cons_succ]
            refine v_goto 46 dX0_walk_102 (by decide) ?_
            refine V.weak (la2 := [some (.ref a), some (.ref b1), some (.int (l2 + 1))]) (by simp [wk]) ?_
            exact (s_X0_walk_IH_46) _ _ _ hF hG
def F_X0_walk (n : Nat) (h : Hp) (a : Nat) (b1 : Nat) : Option Hp := W_X0_walk n 2 h a b1 0
set_option maxRecDepth 100000 in
set_option maxHeartbeats 4000000 in
theorem s_X0_walk (d : Nat) {n : Nat} {h : Hp} {a : Nat} {b1 : Nat} {q0 : Hp} (hF : F_X0_walk n h a b1 = some q0) (hG : G h) (hs : IsBd a) (ht1 : Sc b1) : Kc mX0_walk (d + 4) [.ref a, .ref b1] h (fun r1 h1 => r1 = none ∧ h1 = q0 ∧ G q0) := by
  obtain ⟨s0, sF, sL, s3, s4, s5, s6, s7⟩ := id hs
  obtain ⟨sf0, sf4⟩ := id sF
  obtain ⟨sl0, sl1, sl2, sl3, sl4, sl5, sl6, sl7⟩ := id sL
  obtain ⟨t10, t11, t12, t13, t14, t15, t16, t17⟩ := id ht1
  obtain ⟨h', rfl⟩ : ∃ z, z = q0 := ⟨_, rfl⟩
  obtain ⟨s_X0_walk_IH_2, s_X0_walk_IH_46⟩ := sw_X0_walk d a b1 hs ht1 n
  unfold F_X0_walk at hF
  refine Kc.of [some (.ref a), some (.ref b1), none] ok_X0_walk rfl (Nat.le_of_ble_eq_true rfl) ?_
  refine v_iconst (v := 0) dX0_walk_0 (by decide) ?_
  refine v_istore_n (i := 2) dX0_walk_1 rfl (by decide) (nlT rfl) ?_
  simp only [List.set_cons_zero, List.set_cons_succ]
  refine V.weak (la2 := [some (.ref a), some (.ref b1), some (.int 0)]) (by simp [wk]) ?_
  exact (s_X0_walk_IH_2) _ _ _ hF hG
def W_X11_chorus : Nat → Nat → Hp → Int32 → Int32 → Int32 → Int32 → Option (Int32 × Hp)
  | 0 => fun _ _ _ _ _ _ => none
  | n + 1 => fun hd h l1 l2 l3 l4 => (if hd = 16 then (if (60 : Int32) ≤ (l4 : Int32) then (if (l1 : Int32) = 0 then some (l3, h) else some (l2, h)) else ((F_X8_loudAt n h 30 ((hi h 30 0) + l4)).bind (fun q3 => ((F_J6_bitCount_0f7a4 n q3.2 q3.1).bind (fun q5 => (if (q5.1 : Int32) ≤ (l2 : Int32) then W_X11_chorus n 16 q5.2  l1 l2 l3 (l4 + 1) else W_X11_chorus n 16 q5.2  l1 q5.1 l4 (l4 + 1))))))) else none)
set_option maxRecDepth 100000 in
set_option maxHeartbeats 4000000 in
theorem sw_X11_chorus (d : Nat)  (n : Nat) : (∀ (l1 : Int32) (l2 : Int32) (l3 : Int32) (l4 : Int32) (h : Hp), ∀ (r : Int32) (h' : Hp), W_X11_chorus n 16 h  l1 l2 l3 l4 = some (r, h') → G h → V mX11_chorus (d + 4) 16 [some (.ref 0), some (.int l1), some (.int l2), some (.int l3), some (.int l4), none] [] h (fun r1 h1 => r1 = some (.int r) ∧ h1 = h' ∧ G h')) := by
  induction n with
  | zero => exact by intros; contradiction
  | succ n ih =>
    have s_X11_chorus_IH_16 := ih
    intro l1 l2 l3 l4 h r h' hF hG
    unfold W_X11_chorus at hF
    rw [if_pos rfl] at hF
    refine v_iload (i := 4) dX11_chorus_16 rfl ?_
    refine v_bipush (v := 60) dX11_chorus_18 (by decide) ?_
    refine v_icmp_ge 63 dX11_chorus_20 (by decide) (fun c1 => ?_) (fun c1 => ?_)
    · rw [if_pos c1] at hF
      refine v_iload_n (i := 1) dX11_chorus_63 rfl rfl ?_
      refine v_if_ne 71 dX11_chorus_64 (by decide) (fun c2 => ?_) (fun c2 => ?_)
      · rw [if_neg c2] at hF
        refine v_iload_n (i := 2) dX11_chorus_71 rfl rfl ?_
        refine v_ireturn rfl dX11_chorus_72 ?_
        obtain ⟨rfl, rfl⟩ := Prod.mk.inj (Option.some.inj hF)
        exact ⟨rfl, rfl, hG⟩
      · rw [if_pos c2] at hF
        refine v_iload_n (i := 3) dX11_chorus_67 rfl rfl ?_
        refine v_goto 72 dX11_chorus_68 (by decide) ?_
        refine v_ireturn rfl dX11_chorus_72 ?_
        obtain ⟨rfl, rfl⟩ := Prod.mk.inj (Option.some.inj hF)
        exact ⟨rfl, rfl, hG⟩
    · rw [if_neg c1] at hF
      refine v_aload_n (i := 0) dX11_chorus_23 rfl rfl ?_
      refine g_X11_44 (q := 30) rfl sh_0 (by exact ltG hG (by decide)) (by exact rG hG r0_0_6) dX11_chorus_24 ?_
      refine v_aload_n (i := 0) dX11_chorus_27 rfl rfl ?_
      refine g_X11_44 (q := 30) rfl sh_0 (by exact ltG hG (by decide)) (by exact rG hG r0_0_6) dX11_chorus_28 ?_
      refine g_X11_139 rfl sh_30 (by exact ltG hG (by decide)) dX11_chorus_31 ?_
      refine v_iload (i := 4) dX11_chorus_34 rfl ?_
      refine v_iadd dX11_chorus_36 ?_
      obtain ⟨q3, q3_e, hF⟩ := Option.bind_eq_some_iff.mp hF
      refine c_X11_201 rfl sh_30 (by exact ltG hG (by decide)) (Nat.le_of_ble_eq_true rfl) dX11_chorus_37 (s_X8_loudAt _ q3_e hG (by first | assumption | exact sc_30 | exact sc_34 | exact sc_10 | exact fd_24 | exact fd_4 | exact lw_25 | exact lw_5 | exact bd_23 | exact bd_3 | exact ⟨by first | assumption | rfl, by first | decide | omega⟩)) (fun r1 h1 hq => ?_)
      obtain ⟨rfl, hq, hG⟩ := hq
      replace hq := hq.symm
      subst hq
      show V _ _ _ _ (_ :: _) _ _
      obtain ⟨q5, q5_e, hF⟩ := Option.bind_eq_some_iff.mp hF
      refine c_X11_196 rfl (Nat.le_of_ble_eq_true rfl) dX11_chorus_40 (s_J6_bitCount_0f7a4 _ q5_e hG) (fun r1 h1 hq => ?_)
      obtain ⟨rfl, hq, hG⟩ := hq
      replace hq := hq.symm
      subst hq
      show V _ _ _ _ (_ :: _) _ _
      refine v_istore (i := 5) dX11_chorus_43 (by decide) (nlT rfl) ?_
      simp only [List.set_cons_zero, List.set_cons_succ]
      refine v_iload (i := 5) dX11_chorus_45 rfl ?_
      refine v_iload_n (i := 2) dX11_chorus_47 rfl rfl ?_
      refine v_icmp_le 57 dX11_chorus_48 (by decide) (fun c7 => ?_) (fun c7 => ?_)
      · rw [if_pos c7] at hF
        refine v_iinc (i := 4) (v := (l4 + 1)) dX11_chorus_57 rfl rfl (by decide) (nlT rfl) ?_
        simp only [List.set_cons_zero, List.set_cons_succ]
        refine v_goto 16 dX11_chorus_60 (by decide) ?_
        refine V.weak (la2 := [some (.ref 0), some (.int l1), some (.int l2), some (.int l3), some (.int (l4 + 1)), none]) (by simp [wk]) ?_
        exact (s_X11_chorus_IH_16) _ _ _ _ _ _ _ hF hG
      · rw [if_neg c7] at hF
        refine v_iload (i := 5) dX11_chorus_51 rfl ?_
        refine v_istore_n (i := 2) dX11_chorus_53 rfl (by decide) (nlT rfl) ?_
        simp only [List.set_cons_zero, List.set_cons_succ]
        refine v_iload (i := 4) dX11_chorus_54 rfl ?_
        refine v_istore_n (i := 3) dX11_chorus_56 rfl (by decide) (nlT rfl) ?_
        simp only [List.set_cons_zero, List.set_cons_succ]
        refine v_iinc (i := 4) (v := (l4 + 1)) dX11_chorus_57 rfl rfl (by decide) (nlT rfl) ?_
        simp only [List.set_cons_zero, List.set_cons_succ]
        refine v_goto 16 dX11_chorus_60 (by decide) ?_
        refine V.weak (la2 := [some (.ref 0), some (.int l1), some (.int q5.1), some (.int l4), some (.int (l4 + 1)), none]) (by simp [wk]) ?_
        exact (s_X11_chorus_IH_16) _ _ _ _ _ _ _ hF hG
def F_X11_chorus (n : Nat) (h : Hp) (x1 : Int32) : Option (Int32 × Hp) := ((F_X11_isNoughtOrOne n h x1).bind (fun q8 => (if (q8.1 : Int32) = 0 then some ((-1), q8.2) else W_X11_chorus n 16 q8.2  x1 (-1) 0 0)))
set_option maxRecDepth 100000 in
set_option maxHeartbeats 4000000 in
theorem s_X11_chorus (d : Nat) {n : Nat} {h : Hp} {x1 : Int32} {q0 : (Int32 × Hp)} (hF : F_X11_chorus n h x1 = some q0) (hG : G h)  : Kc mX11_chorus (d + 4) [.ref 0, .int x1] h (fun r1 h1 => r1 = some (.int q0.1) ∧ h1 = q0.2 ∧ G q0.2) := by
  obtain ⟨r, h'⟩ := q0
  have s_X11_chorus_IH_16 := sw_X11_chorus d   n
  unfold F_X11_chorus at hF
  refine Kc.of [some (.ref 0), some (.int x1), none, none, none, none] ok_X11_chorus rfl (Nat.le_of_ble_eq_true rfl) ?_
  refine v_iload_n (i := 1) dX11_chorus_0 rfl rfl ?_
  obtain ⟨q8, q8_e, hF⟩ := Option.bind_eq_some_iff.mp hF
  refine c_X11_237 rfl (Nat.le_of_ble_eq_true rfl) dX11_chorus_1 (s_X11_isNoughtOrOne _ q8_e hG) (fun r1 h1 hq => ?_)
  obtain ⟨rfl, hq, hG⟩ := hq
  replace hq := hq.symm
  subst hq
  show V _ _ _ _ (_ :: _) _ _
  refine v_if_ne 9 dX11_chorus_4 (by decide) (fun c10 => ?_) (fun c10 => ?_)
  · rw [if_neg c10] at hF
    refine v_iconst (v := (-1)) dX11_chorus_9 (by decide) ?_
    refine v_istore_n (i := 2) dX11_chorus_10 rfl (by decide) (nlT rfl) ?_
    simp only [List.set_cons_zero, List.set_cons_succ]
    refine v_iconst (v := 0) dX11_chorus_11 (by decide) ?_
    refine v_istore_n (i := 3) dX11_chorus_12 rfl (by decide) (nlT rfl) ?_
    simp only [List.set_cons_zero, List.set_cons_succ]
    refine v_iconst (v := 0) dX11_chorus_13 (by decide) ?_
    refine v_istore (i := 4) dX11_chorus_14 (by decide) (nlT rfl) ?_
    simp only [List.set_cons_zero, List.set_cons_succ]
    refine V.weak (la2 := [some (.ref 0), some (.int x1), some (.int (-1)), some (.int 0), some (.int 0), none]) (by simp [wk]) ?_
    exact (s_X11_chorus_IH_16) _ _ _ _ _ _ _ hF hG
  · rw [if_pos c10] at hF
    refine v_iconst (v := (-1)) dX11_chorus_7 (by decide) ?_
    refine v_ireturn rfl dX11_chorus_8 ?_
    obtain ⟨rfl, rfl⟩ := Prod.mk.inj (Option.some.inj hF)
    exact ⟨rfl, rfl, hG⟩
def F_X11_count (n : Nat) (h : Hp) (x1 : Int32) : Option (Int32 × Hp) := (if x1 = 0 then some ((hi h 24 0), h) else (if x1 = 1 then some ((hi h 24 1), h) else (if x1 = 2 then some ((hi h 23 2), h) else (if x1 = 3 then some ((hi h 30 0), h) else (if x1 = 4 then some ((hi h 30 1), h) else (if x1 = 5 then some ((hi h 30 3), h) else (if x1 = 6 then some ((hi h 30 2), h) else (if x1 = 7 then ((F_X8_stoodOn n h 30 (hi h 23 2)).bind (fun q9 => some (q9.1, q9.2))) else (if x1 = 8 then some ((hi h 0 1), h) else (if x1 = 9 then some ((hi h 38 2), h) else (if x1 = 10 then some ((hi h 201 2), h) else (if x1 = 11 then ((F_J6_bitCount_0f7a4 n h (hi h 0 10)).bind (fun q15 => some (q15.1, q15.2))) else (if x1 = 12 then ((F_X8_loudAt n h 30 (hi h 30 0)).bind (fun q18 => some (q18.1, q18.2))) else (if x1 = 13 then ((F_X11_movedInAll n h).bind (fun q21 => some (q21.1, q21.2))) else (if x1 = 14 then ((F_J6_bitCount_0f7a4 n h (hi h 30 3)).bind (fun q24 => some (q24.1, q24.2))) else (if x1 = 15 then ((F_X11_costsOfTunes n h).bind (fun q27 => some (q27.1, q27.2))) else (if x1 = 16 then ((F_X8_stoodOn n h 30 (hi h 23 2)).bind (fun q30 => some ((((hi h 24 2) : Int32) &&& ((((((((hi h 30 3) : Int32) ||| ((hi h 30 2) : Int32)) : Int32) ||| (q30.1 : Int32)) : Int32) ^^^ ((-1) : Int32)) : Int32)), q30.2))) else (if x1 = 17 then ((F_J6_bitCount_0f7a4 n h (hi h 30 2)).bind (fun q33 => some (q33.1, q33.2))) else (if x1 = 18 then ((F_X11_everMoved n h).bind (fun q36 => some (q36.1, q36.2))) else (if x1 = 19 then some ((hi h 23 3), h) else some ((-1), h)))))))))))))))))))))
set_option maxRecDepth 100000 in
set_option maxHeartbeats 4000000 in
theorem s_X11_count (d : Nat) {n : Nat} {h : Hp} {x1 : Int32} {q0 : (Int32 × Hp)} (hF : F_X11_count n h x1 = some q0) (hG : G h)  : Kc mX11_count (d + 5) [.ref 0, .int x1] h (fun r1 h1 => r1 = some (.int q0.1) ∧ h1 = q0.2 ∧ G q0.2) := by
  obtain ⟨r, h'⟩ := q0
  unfold F_X11_count at hF
  refine Kc.of [some (.ref 0), some (.int x1)] ok_X11_count rfl (Nat.le_of_ble_eq_true rfl) ?_
  refine v_iload_n (i := 1) dX11_count_0 rfl rfl ?_
  by_cases c1 : x1 = 0
  · rw [if_pos c1] at hF
    refine v_tableIn (off := 95) 96 dX11_count_1 (by rw [c1]; decide) (by rw [c1]; decide) (by rw [c1]; decide +kernel) (by decide) ?_
    refine v_aload_n (i := 0) dX11_count_96 rfl rfl ?_
    refine g_X11_40 (q := 24) rfl sh_0 (by exact ltG hG (by decide)) (by exact rG hG r0_0_5) dX11_count_97 ?_
    refine g_X11_174 rfl sh_24 (by exact ltG hG (by decide)) dX11_count_100 ?_
    refine v_ireturn rfl dX11_count_103 ?_
    obtain ⟨rfl, rfl⟩ := Prod.mk.inj (Option.some.inj hF)
    exact ⟨rfl, rfl, hG⟩
  rw [if_neg c1] at hF
  by_cases c2 : x1 = 1
  · rw [if_pos c2] at hF
    refine v_tableIn (off := 103) 104 dX11_count_1 (by rw [c2]; decide) (by rw [c2]; decide) (by rw [c2]; decide +kernel) (by decide) ?_
    refine v_aload_n (i := 0) dX11_count_104 rfl rfl ?_
    refine g_X11_40 (q := 24) rfl sh_0 (by exact ltG hG (by decide)) (by exact rG hG r0_0_5) dX11_count_105 ?_
    refine g_X11_177 rfl sh_24 (by exact ltG hG (by decide)) dX11_count_108 ?_
    refine v_ireturn rfl dX11_count_111 ?_
    obtain ⟨rfl, rfl⟩ := Prod.mk.inj (Option.some.inj hF)
    exact ⟨rfl, rfl, hG⟩
  rw [if_neg c2] at hF
  by_cases c3 : x1 = 2
  · rw [if_pos c3] at hF
    refine v_tableIn (off := 111) 112 dX11_count_1 (by rw [c3]; decide) (by rw [c3]; decide) (by rw [c3]; decide +kernel) (by decide) ?_
    refine v_aload_n (i := 0) dX11_count_112 rfl rfl ?_
    refine g_X11_32 (q := 23) rfl sh_0 (by exact ltG hG (by decide)) (by exact rG hG r0_0_4) dX11_count_113 ?_
    refine g_X11_149 rfl sh_23 (by exact ltG hG (by decide)) dX11_count_116 ?_
    refine v_ireturn rfl dX11_count_119 ?_
    obtain ⟨rfl, rfl⟩ := Prod.mk.inj (Option.some.inj hF)
    exact ⟨rfl, rfl, hG⟩
  rw [if_neg c3] at hF
  by_cases c4 : x1 = 3
  · rw [if_pos c4] at hF
    refine v_tableIn (off := 119) 120 dX11_count_1 (by rw [c4]; decide) (by rw [c4]; decide) (by rw [c4]; decide +kernel) (by decide) ?_
    refine v_aload_n (i := 0) dX11_count_120 rfl rfl ?_
    refine g_X11_44 (q := 30) rfl sh_0 (by exact ltG hG (by decide)) (by exact rG hG r0_0_6) dX11_count_121 ?_
    refine g_X11_139 rfl sh_30 (by exact ltG hG (by decide)) dX11_count_124 ?_
    refine v_ireturn rfl dX11_count_127 ?_
    obtain ⟨rfl, rfl⟩ := Prod.mk.inj (Option.some.inj hF)
    exact ⟨rfl, rfl, hG⟩
  rw [if_neg c4] at hF
  by_cases c5 : x1 = 4
  · rw [if_pos c5] at hF
    refine v_tableIn (off := 127) 128 dX11_count_1 (by rw [c5]; decide) (by rw [c5]; decide) (by rw [c5]; decide +kernel) (by decide) ?_
    refine v_aload_n (i := 0) dX11_count_128 rfl rfl ?_
    refine g_X11_44 (q := 30) rfl sh_0 (by exact ltG hG (by decide)) (by exact rG hG r0_0_6) dX11_count_129 ?_
    refine g_X11_180 rfl sh_30 (by exact ltG hG (by decide)) dX11_count_132 ?_
    refine v_ireturn rfl dX11_count_135 ?_
    obtain ⟨rfl, rfl⟩ := Prod.mk.inj (Option.some.inj hF)
    exact ⟨rfl, rfl, hG⟩
  rw [if_neg c5] at hF
  by_cases c6 : x1 = 5
  · rw [if_pos c6] at hF
    refine v_tableIn (off := 135) 136 dX11_count_1 (by rw [c6]; decide) (by rw [c6]; decide) (by rw [c6]; decide +kernel) (by decide) ?_
    refine v_aload_n (i := 0) dX11_count_136 rfl rfl ?_
    refine g_X11_44 (q := 30) rfl sh_0 (by exact ltG hG (by decide)) (by exact rG hG r0_0_6) dX11_count_137 ?_
    refine g_X11_183 rfl sh_30 (by exact ltG hG (by decide)) dX11_count_140 ?_
    refine v_ireturn rfl dX11_count_143 ?_
    obtain ⟨rfl, rfl⟩ := Prod.mk.inj (Option.some.inj hF)
    exact ⟨rfl, rfl, hG⟩
  rw [if_neg c6] at hF
  by_cases c7 : x1 = 6
  · rw [if_pos c7] at hF
    refine v_tableIn (off := 143) 144 dX11_count_1 (by rw [c7]; decide) (by rw [c7]; decide) (by rw [c7]; decide +kernel) (by decide) ?_
    refine v_aload_n (i := 0) dX11_count_144 rfl rfl ?_
    refine g_X11_44 (q := 30) rfl sh_0 (by exact ltG hG (by decide)) (by exact rG hG r0_0_6) dX11_count_145 ?_
    refine g_X11_186 rfl sh_30 (by exact ltG hG (by decide)) dX11_count_148 ?_
    refine v_ireturn rfl dX11_count_151 ?_
    obtain ⟨rfl, rfl⟩ := Prod.mk.inj (Option.some.inj hF)
    exact ⟨rfl, rfl, hG⟩
  rw [if_neg c7] at hF
  by_cases c8 : x1 = 7
  · rw [if_pos c8] at hF
    refine v_tableIn (off := 151) 152 dX11_count_1 (by rw [c8]; decide) (by rw [c8]; decide) (by rw [c8]; decide +kernel) (by decide) ?_
    refine v_aload_n (i := 0) dX11_count_152 rfl rfl ?_
    refine g_X11_44 (q := 30) rfl sh_0 (by exact ltG hG (by decide)) (by exact rG hG r0_0_6) dX11_count_153 ?_
    refine v_aload_n (i := 0) dX11_count_156 rfl rfl ?_
    refine g_X11_32 (q := 23) rfl sh_0 (by exact ltG hG (by decide)) (by exact rG hG r0_0_4) dX11_count_157 ?_
    refine g_X11_149 rfl sh_23 (by exact ltG hG (by decide)) dX11_count_160 ?_
    obtain ⟨q9, q9_e, hF⟩ := Option.bind_eq_some_iff.mp hF
    refine c_X11_189 rfl sh_30 (by exact ltG hG (by decide)) (Nat.le_of_ble_eq_true rfl) dX11_count_163 (s_X8_stoodOn _ q9_e hG (by first | assumption | exact sc_30 | exact sc_34 | exact sc_10 | exact fd_24 | exact fd_4 | exact lw_25 | exact lw_5 | exact bd_23 | exact bd_3 | exact ⟨by first | assumption | rfl, by first | decide | omega⟩)) (fun r1 h1 hq => ?_)
    obtain ⟨rfl, hq, hG⟩ := hq
    replace hq := hq.symm
    subst hq
    show V _ _ _ _ (_ :: _) _ _
    refine v_ireturn rfl dX11_count_166 ?_
    obtain ⟨rfl, rfl⟩ := Prod.mk.inj (Option.some.inj hF)
    exact ⟨rfl, rfl, hG⟩
  rw [if_neg c8] at hF
  by_cases c11 : x1 = 8
  · rw [if_pos c11] at hF
    refine v_tableIn (off := 166) 167 dX11_count_1 (by rw [c11]; decide) (by rw [c11]; decide) (by rw [c11]; decide +kernel) (by decide) ?_
    refine v_aload_n (i := 0) dX11_count_167 rfl rfl ?_
    refine g_X11_13 rfl sh_0 (by exact ltG hG (by decide)) dX11_count_168 ?_
    refine v_ireturn rfl dX11_count_171 ?_
    obtain ⟨rfl, rfl⟩ := Prod.mk.inj (Option.some.inj hF)
    exact ⟨rfl, rfl, hG⟩
  rw [if_neg c11] at hF
  by_cases c12 : x1 = 9
  · rw [if_pos c12] at hF
    refine v_tableIn (off := 171) 172 dX11_count_1 (by rw [c12]; decide) (by rw [c12]; decide) (by rw [c12]; decide +kernel) (by decide) ?_
    refine v_aload_n (i := 0) dX11_count_172 rfl rfl ?_
    refine g_X11_54 (q := 38) rfl sh_0 (by exact ltG hG (by decide)) (by exact rG hG r0_0_8) dX11_count_173 ?_
    refine g_X11_192 rfl sh_38 (by exact ltG hG (by decide)) dX11_count_176 ?_
    refine v_ireturn rfl dX11_count_179 ?_
    obtain ⟨rfl, rfl⟩ := Prod.mk.inj (Option.some.inj hF)
    exact ⟨rfl, rfl, hG⟩
  rw [if_neg c12] at hF
  by_cases c13 : x1 = 10
  · rw [if_pos c13] at hF
    refine v_tableIn (off := 179) 180 dX11_count_1 (by rw [c13]; decide) (by rw [c13]; decide) (by rw [c13]; decide +kernel) (by decide) ?_
    refine v_aload_n (i := 0) dX11_count_180 rfl rfl ?_
    refine g_X11_68 (q := 201) rfl sh_0 (by exact ltG hG (by decide)) (by exact rG hG r0_0_11) dX11_count_181 ?_
    refine g_X11_195 rfl sh_201 (by exact ltG hG (by decide)) dX11_count_184 ?_
    refine v_ireturn rfl dX11_count_187 ?_
    obtain ⟨rfl, rfl⟩ := Prod.mk.inj (Option.some.inj hF)
    exact ⟨rfl, rfl, hG⟩
  rw [if_neg c13] at hF
  by_cases c14 : x1 = 11
  · rw [if_pos c14] at hF
    refine v_tableIn (off := 187) 188 dX11_count_1 (by rw [c14]; decide) (by rw [c14]; decide) (by rw [c14]; decide +kernel) (by decide) ?_
    refine v_aload_n (i := 0) dX11_count_188 rfl rfl ?_
    refine g_X11_62 rfl sh_0 (by exact ltG hG (by decide)) dX11_count_189 ?_
    obtain ⟨q15, q15_e, hF⟩ := Option.bind_eq_some_iff.mp hF
    refine c_X11_196 rfl (Nat.le_of_ble_eq_true rfl) dX11_count_192 (s_J6_bitCount_0f7a4 _ q15_e hG) (fun r1 h1 hq => ?_)
    obtain ⟨rfl, hq, hG⟩ := hq
    replace hq := hq.symm
    subst hq
    show V _ _ _ _ (_ :: _) _ _
    refine v_ireturn rfl dX11_count_195 ?_
    obtain ⟨rfl, rfl⟩ := Prod.mk.inj (Option.some.inj hF)
    exact ⟨rfl, rfl, hG⟩
  rw [if_neg c14] at hF
  by_cases c17 : x1 = 12
  · rw [if_pos c17] at hF
    refine v_tableIn (off := 195) 196 dX11_count_1 (by rw [c17]; decide) (by rw [c17]; decide) (by rw [c17]; decide +kernel) (by decide) ?_
    refine v_aload_n (i := 0) dX11_count_196 rfl rfl ?_
    refine g_X11_44 (q := 30) rfl sh_0 (by exact ltG hG (by decide)) (by exact rG hG r0_0_6) dX11_count_197 ?_
    refine v_aload_n (i := 0) dX11_count_200 rfl rfl ?_
    refine g_X11_44 (q := 30) rfl sh_0 (by exact ltG hG (by decide)) (by exact rG hG r0_0_6) dX11_count_201 ?_
    refine g_X11_139 rfl sh_30 (by exact ltG hG (by decide)) dX11_count_204 ?_
    obtain ⟨q18, q18_e, hF⟩ := Option.bind_eq_some_iff.mp hF
    refine c_X11_201 rfl sh_30 (by exact ltG hG (by decide)) (Nat.le_of_ble_eq_true rfl) dX11_count_207 (s_X8_loudAt _ q18_e hG (by first | assumption | exact sc_30 | exact sc_34 | exact sc_10 | exact fd_24 | exact fd_4 | exact lw_25 | exact lw_5 | exact bd_23 | exact bd_3 | exact ⟨by first | assumption | rfl, by first | decide | omega⟩)) (fun r1 h1 hq => ?_)
    obtain ⟨rfl, hq, hG⟩ := hq
    replace hq := hq.symm
    subst hq
    show V _ _ _ _ (_ :: _) _ _
    refine v_ireturn rfl dX11_count_210 ?_
    obtain ⟨rfl, rfl⟩ := Prod.mk.inj (Option.some.inj hF)
    exact ⟨rfl, rfl, hG⟩
  rw [if_neg c17] at hF
  by_cases c20 : x1 = 13
  · rw [if_pos c20] at hF
    refine v_tableIn (off := 210) 211 dX11_count_1 (by rw [c20]; decide) (by rw [c20]; decide) (by rw [c20]; decide +kernel) (by decide) ?_
    refine v_aload_n (i := 0) dX11_count_211 rfl rfl ?_
    obtain ⟨q21, q21_e, hF⟩ := Option.bind_eq_some_iff.mp hF
    refine c_X11_204 rfl sh_0 (by exact ltG hG (by decide)) (Nat.le_of_ble_eq_true rfl) dX11_count_212 (s_X11_movedInAll _ q21_e hG) (fun r1 h1 hq => ?_)
    obtain ⟨rfl, hq, hG⟩ := hq
    replace hq := hq.symm
    subst hq
    show V _ _ _ _ (_ :: _) _ _
    refine v_ireturn rfl dX11_count_215 ?_
    obtain ⟨rfl, rfl⟩ := Prod.mk.inj (Option.some.inj hF)
    exact ⟨rfl, rfl, hG⟩
  rw [if_neg c20] at hF
  by_cases c23 : x1 = 14
  · rw [if_pos c23] at hF
    refine v_tableIn (off := 215) 216 dX11_count_1 (by rw [c23]; decide) (by rw [c23]; decide) (by rw [c23]; decide +kernel) (by decide) ?_
    refine v_aload_n (i := 0) dX11_count_216 rfl rfl ?_
    refine g_X11_44 (q := 30) rfl sh_0 (by exact ltG hG (by decide)) (by exact rG hG r0_0_6) dX11_count_217 ?_
    refine g_X11_183 rfl sh_30 (by exact ltG hG (by decide)) dX11_count_220 ?_
    obtain ⟨q24, q24_e, hF⟩ := Option.bind_eq_some_iff.mp hF
    refine c_X11_196 rfl (Nat.le_of_ble_eq_true rfl) dX11_count_223 (s_J6_bitCount_0f7a4 _ q24_e hG) (fun r1 h1 hq => ?_)
    obtain ⟨rfl, hq, hG⟩ := hq
    replace hq := hq.symm
    subst hq
    show V _ _ _ _ (_ :: _) _ _
    refine v_ireturn rfl dX11_count_226 ?_
    obtain ⟨rfl, rfl⟩ := Prod.mk.inj (Option.some.inj hF)
    exact ⟨rfl, rfl, hG⟩
  rw [if_neg c23] at hF
  by_cases c26 : x1 = 15
  · rw [if_pos c26] at hF
    refine v_tableIn (off := 226) 227 dX11_count_1 (by rw [c26]; decide) (by rw [c26]; decide) (by rw [c26]; decide +kernel) (by decide) ?_
    refine v_aload_n (i := 0) dX11_count_227 rfl rfl ?_
    obtain ⟨q27, q27_e, hF⟩ := Option.bind_eq_some_iff.mp hF
    refine c_X11_208 rfl sh_0 (by exact ltG hG (by decide)) (Nat.le_of_ble_eq_true rfl) dX11_count_228 (s_X11_costsOfTunes _ q27_e hG) (fun r1 h1 hq => ?_)
    obtain ⟨rfl, hq, hG⟩ := hq
    replace hq := hq.symm
    subst hq
    show V _ _ _ _ (_ :: _) _ _
    refine v_ireturn rfl dX11_count_231 ?_
    obtain ⟨rfl, rfl⟩ := Prod.mk.inj (Option.some.inj hF)
    exact ⟨rfl, rfl, hG⟩
  rw [if_neg c26] at hF
  by_cases c29 : x1 = 16
  · rw [if_pos c29] at hF
    refine v_tableIn (off := 231) 232 dX11_count_1 (by rw [c29]; decide) (by rw [c29]; decide) (by rw [c29]; decide +kernel) (by decide) ?_
    refine v_aload_n (i := 0) dX11_count_232 rfl rfl ?_
    refine g_X11_40 (q := 24) rfl sh_0 (by exact ltG hG (by decide)) (by exact rG hG r0_0_5) dX11_count_233 ?_
    refine g_X11_211 rfl sh_24 (by exact ltG hG (by decide)) dX11_count_236 ?_
    refine v_aload_n (i := 0) dX11_count_239 rfl rfl ?_
    refine g_X11_44 (q := 30) rfl sh_0 (by exact ltG hG (by decide)) (by exact rG hG r0_0_6) dX11_count_240 ?_
    refine g_X11_183 rfl sh_30 (by exact ltG hG (by decide)) dX11_count_243 ?_
    refine v_aload_n (i := 0) dX11_count_246 rfl rfl ?_
    refine g_X11_44 (q := 30) rfl sh_0 (by exact ltG hG (by decide)) (by exact rG hG r0_0_6) dX11_count_247 ?_
    refine g_X11_186 rfl sh_30 (by exact ltG hG (by decide)) dX11_count_250 ?_
    refine v_ior dX11_count_253 ?_
    refine v_aload_n (i := 0) dX11_count_254 rfl rfl ?_
    refine g_X11_44 (q := 30) rfl sh_0 (by exact ltG hG (by decide)) (by exact rG hG r0_0_6) dX11_count_255 ?_
    refine v_aload_n (i := 0) dX11_count_258 rfl rfl ?_
    refine g_X11_32 (q := 23) rfl sh_0 (by exact ltG hG (by decide)) (by exact rG hG r0_0_4) dX11_count_259 ?_
    refine g_X11_149 rfl sh_23 (by exact ltG hG (by decide)) dX11_count_262 ?_
    obtain ⟨q30, q30_e, hF⟩ := Option.bind_eq_some_iff.mp hF
    refine c_X11_189 rfl sh_30 (by exact ltG hG (by decide)) (Nat.le_of_ble_eq_true rfl) dX11_count_265 (s_X8_stoodOn _ q30_e hG (by first | assumption | exact sc_30 | exact sc_34 | exact sc_10 | exact fd_24 | exact fd_4 | exact lw_25 | exact lw_5 | exact bd_23 | exact bd_3 | exact ⟨by first | assumption | rfl, by first | decide | omega⟩)) (fun r1 h1 hq => ?_)
    obtain ⟨rfl, hq, hG⟩ := hq
    replace hq := hq.symm
    subst hq
    show V _ _ _ _ (_ :: _) _ _
    refine v_ior dX11_count_268 ?_
    refine v_iconst (v := (-1)) dX11_count_269 (by decide) ?_
    refine v_ixor dX11_count_270 ?_
    refine v_iand dX11_count_271 ?_
    refine v_ireturn rfl dX11_count_272 ?_
    obtain ⟨rfl, rfl⟩ := Prod.mk.inj (Option.some.inj hF)
    exact ⟨rfl, rfl, hG⟩
  rw [if_neg c29] at hF
  by_cases c32 : x1 = 17
  · rw [if_pos c32] at hF
    refine v_tableIn (off := 272) 273 dX11_count_1 (by rw [c32]; decide) (by rw [c32]; decide) (by rw [c32]; decide +kernel) (by decide) ?_
    refine v_aload_n (i := 0) dX11_count_273 rfl rfl ?_
    refine g_X11_44 (q := 30) rfl sh_0 (by exact ltG hG (by decide)) (by exact rG hG r0_0_6) dX11_count_274 ?_
    refine g_X11_186 rfl sh_30 (by exact ltG hG (by decide)) dX11_count_277 ?_
    obtain ⟨q33, q33_e, hF⟩ := Option.bind_eq_some_iff.mp hF
    refine c_X11_196 rfl (Nat.le_of_ble_eq_true rfl) dX11_count_280 (s_J6_bitCount_0f7a4 _ q33_e hG) (fun r1 h1 hq => ?_)
    obtain ⟨rfl, hq, hG⟩ := hq
    replace hq := hq.symm
    subst hq
    show V _ _ _ _ (_ :: _) _ _
    refine v_ireturn rfl dX11_count_283 ?_
    obtain ⟨rfl, rfl⟩ := Prod.mk.inj (Option.some.inj hF)
    exact ⟨rfl, rfl, hG⟩
  rw [if_neg c32] at hF
  by_cases c35 : x1 = 18
  · rw [if_pos c35] at hF
    refine v_tableIn (off := 283) 284 dX11_count_1 (by rw [c35]; decide) (by rw [c35]; decide) (by rw [c35]; decide +kernel) (by decide) ?_
    refine v_aload_n (i := 0) dX11_count_284 rfl rfl ?_
    obtain ⟨q36, q36_e, hF⟩ := Option.bind_eq_some_iff.mp hF
    refine c_X11_214 rfl sh_0 (by exact ltG hG (by decide)) (Nat.le_of_ble_eq_true rfl) dX11_count_285 (s_X11_everMoved _ q36_e hG) (fun r1 h1 hq => ?_)
    obtain ⟨rfl, hq, hG⟩ := hq
    replace hq := hq.symm
    subst hq
    show V _ _ _ _ (_ :: _) _ _
    refine v_ireturn rfl dX11_count_288 ?_
    obtain ⟨rfl, rfl⟩ := Prod.mk.inj (Option.some.inj hF)
    exact ⟨rfl, rfl, hG⟩
  rw [if_neg c35] at hF
  by_cases c38 : x1 = 19
  · rw [if_pos c38] at hF
    refine v_tableIn (off := 288) 289 dX11_count_1 (by rw [c38]; decide) (by rw [c38]; decide) (by rw [c38]; decide +kernel) (by decide) ?_
    refine v_aload_n (i := 0) dX11_count_289 rfl rfl ?_
    refine g_X11_32 (q := 23) rfl sh_0 (by exact ltG hG (by decide)) (by exact rG hG r0_0_4) dX11_count_290 ?_
    refine g_X11_217 rfl sh_23 (by exact ltG hG (by decide)) dX11_count_293 ?_
    refine v_ireturn rfl dX11_count_296 ?_
    obtain ⟨rfl, rfl⟩ := Prod.mk.inj (Option.some.inj hF)
    exact ⟨rfl, rfl, hG⟩
  rw [if_neg c38] at hF
  have e_c1 : ¬ (x1 : Int32).toInt = 0 := fun q => c1 (Int32.toInt_inj.mp (q.trans (by decide)))
  have e_c2 : ¬ (x1 : Int32).toInt = 1 := fun q => c2 (Int32.toInt_inj.mp (q.trans (by decide)))
  have e_c3 : ¬ (x1 : Int32).toInt = 2 := fun q => c3 (Int32.toInt_inj.mp (q.trans (by decide)))
  have e_c4 : ¬ (x1 : Int32).toInt = 3 := fun q => c4 (Int32.toInt_inj.mp (q.trans (by decide)))
  have e_c5 : ¬ (x1 : Int32).toInt = 4 := fun q => c5 (Int32.toInt_inj.mp (q.trans (by decide)))
  have e_c6 : ¬ (x1 : Int32).toInt = 5 := fun q => c6 (Int32.toInt_inj.mp (q.trans (by decide)))
  have e_c7 : ¬ (x1 : Int32).toInt = 6 := fun q => c7 (Int32.toInt_inj.mp (q.trans (by decide)))
  have e_c8 : ¬ (x1 : Int32).toInt = 7 := fun q => c8 (Int32.toInt_inj.mp (q.trans (by decide)))
  have e_c11 : ¬ (x1 : Int32).toInt = 8 := fun q => c11 (Int32.toInt_inj.mp (q.trans (by decide)))
  have e_c12 : ¬ (x1 : Int32).toInt = 9 := fun q => c12 (Int32.toInt_inj.mp (q.trans (by decide)))
  have e_c13 : ¬ (x1 : Int32).toInt = 10 := fun q => c13 (Int32.toInt_inj.mp (q.trans (by decide)))
  have e_c14 : ¬ (x1 : Int32).toInt = 11 := fun q => c14 (Int32.toInt_inj.mp (q.trans (by decide)))
  have e_c17 : ¬ (x1 : Int32).toInt = 12 := fun q => c17 (Int32.toInt_inj.mp (q.trans (by decide)))
  have e_c20 : ¬ (x1 : Int32).toInt = 13 := fun q => c20 (Int32.toInt_inj.mp (q.trans (by decide)))
  have e_c23 : ¬ (x1 : Int32).toInt = 14 := fun q => c23 (Int32.toInt_inj.mp (q.trans (by decide)))
  have e_c26 : ¬ (x1 : Int32).toInt = 15 := fun q => c26 (Int32.toInt_inj.mp (q.trans (by decide)))
  have e_c29 : ¬ (x1 : Int32).toInt = 16 := fun q => c29 (Int32.toInt_inj.mp (q.trans (by decide)))
  have e_c32 : ¬ (x1 : Int32).toInt = 17 := fun q => c32 (Int32.toInt_inj.mp (q.trans (by decide)))
  have e_c35 : ¬ (x1 : Int32).toInt = 18 := fun q => c35 (Int32.toInt_inj.mp (q.trans (by decide)))
  have e_c38 : ¬ (x1 : Int32).toInt = 19 := fun q => c38 (Int32.toInt_inj.mp (q.trans (by decide)))
  refine v_tableOut 297 dX11_count_1 (by omega) (by decide) ?_
  refine v_iconst (v := (-1)) dX11_count_297 (by decide) ?_
  refine v_ireturn rfl dX11_count_298 ?_
  obtain ⟨rfl, rfl⟩ := Prod.mk.inj (Option.some.inj hF)
  exact ⟨rfl, rfl, hG⟩
def F_X11_loud (n : Nat) (h : Hp) (x1 : Int32) : Option (Int32 × Hp) := ((F_X11_isSpan n h x1).bind (fun q1 => (if (q1.1 : Int32) = 0 then some ((-1), q1.2) else ((F_X8_loudAt n q1.2 30 ((hi q1.2 30 0) + x1)).bind (fun q4 => some (q4.1, q4.2))))))
set_option maxRecDepth 100000 in
set_option maxHeartbeats 4000000 in
theorem s_X11_loud (d : Nat) {n : Nat} {h : Hp} {x1 : Int32} {q0 : (Int32 × Hp)} (hF : F_X11_loud n h x1 = some q0) (hG : G h)  : Kc mX11_loud (d + 4) [.ref 0, .int x1] h (fun r1 h1 => r1 = some (.int q0.1) ∧ h1 = q0.2 ∧ G q0.2) := by
  obtain ⟨r, h'⟩ := q0
  unfold F_X11_loud at hF
  refine Kc.of [some (.ref 0), some (.int x1)] ok_X11_loud rfl (Nat.le_of_ble_eq_true rfl) ?_
  refine v_iload_n (i := 1) dX11_loud_0 rfl rfl ?_
  obtain ⟨q1, q1_e, hF⟩ := Option.bind_eq_some_iff.mp hF
  refine c_X11_226 rfl (Nat.le_of_ble_eq_true rfl) dX11_loud_1 (s_X11_isSpan _ q1_e hG) (fun r1 h1 hq => ?_)
  obtain ⟨rfl, hq, hG⟩ := hq
  replace hq := hq.symm
  subst hq
  show V _ _ _ _ (_ :: _) _ _
  refine v_if_eq 26 dX11_loud_4 (by decide) (fun c3 => ?_) (fun c3 => ?_)
  · rw [if_pos c3] at hF
    refine v_iconst (v := (-1)) dX11_loud_26 (by decide) ?_
    refine v_ireturn rfl dX11_loud_27 ?_
    obtain ⟨rfl, rfl⟩ := Prod.mk.inj (Option.some.inj hF)
    exact ⟨rfl, rfl, hG⟩
  · rw [if_neg c3] at hF
    refine v_aload_n (i := 0) dX11_loud_7 rfl rfl ?_
    refine g_X11_44 (q := 30) rfl sh_0 (by exact ltG hG (by decide)) (by exact rG hG r0_0_6) dX11_loud_8 ?_
    refine v_aload_n (i := 0) dX11_loud_11 rfl rfl ?_
    refine g_X11_44 (q := 30) rfl sh_0 (by exact ltG hG (by decide)) (by exact rG hG r0_0_6) dX11_loud_12 ?_
    refine g_X11_139 rfl sh_30 (by exact ltG hG (by decide)) dX11_loud_15 ?_
    refine v_iload_n (i := 1) dX11_loud_18 rfl rfl ?_
    refine v_iadd dX11_loud_19 ?_
    obtain ⟨q4, q4_e, hF⟩ := Option.bind_eq_some_iff.mp hF
    refine c_X11_201 rfl sh_30 (by exact ltG hG (by decide)) (Nat.le_of_ble_eq_true rfl) dX11_loud_20 (s_X8_loudAt _ q4_e hG (by first | assumption | exact sc_30 | exact sc_34 | exact sc_10 | exact fd_24 | exact fd_4 | exact lw_25 | exact lw_5 | exact bd_23 | exact bd_3 | exact ⟨by first | assumption | rfl, by first | decide | omega⟩)) (fun r1 h1 hq => ?_)
    obtain ⟨rfl, hq, hG⟩ := hq
    replace hq := hq.symm
    subst hq
    show V _ _ _ _ (_ :: _) _ _
    refine v_goto 27 dX11_loud_23 (by decide) ?_
    refine v_ireturn rfl dX11_loud_27 ?_
    obtain ⟨rfl, rfl⟩ := Prod.mk.inj (Option.some.inj hF)
    exact ⟨rfl, rfl, hG⟩
def W_X11_never : Nat → Nat → Hp → Int32 → Int32 → Int32 → Option (Int32 × Hp)
  | 0 => fun _ _ _ _ _ => none
  | n + 1 => fun hd h l1 l2 l3 => (if hd = 37 then (if (l1 : Int32) < (l3 : Int32) then some ((((hi h 24 2) : Int32) &&& (((l2 : Int32) ^^^ ((-1) : Int32)) : Int32)), h) else ((F_X0_walk n h 23 34).bind (fun q2 => ((F_X8_stoodOn n q2 34 (hi q2 23 2)).bind (fun q4 => W_X11_never n 37 q4.2  l1 ((l2 : Int32) ||| (q4.1 : Int32)) (l3 + 1)))))) else none)
set_option maxRecDepth 100000 in
set_option maxHeartbeats 4000000 in
theorem sw_X11_never (d : Nat)  (n : Nat) : (∀ (l1 : Int32) (l2 : Int32) (l3 : Int32) (h : Hp), ∀ (r : Int32) (h' : Hp), W_X11_never n 37 h  l1 l2 l3 = some (r, h') → G h → V mX11_never (d + 5) 37 [some (.ref 0), some (.int l1), some (.int l2), some (.int l3)] [] h (fun r1 h1 => r1 = some (.int r) ∧ h1 = h' ∧ G h')) := by
  induction n with
  | zero => exact by intros; contradiction
  | succ n ih =>
    have s_X11_never_IH_37 := ih
    intro l1 l2 l3 h r h' hF hG
    unfold W_X11_never at hF
    rw [if_pos rfl] at hF
    refine v_iload_n (i := 3) dX11_never_37 rfl rfl ?_
    refine v_iload_n (i := 1) dX11_never_38 rfl rfl ?_
    refine v_icmp_gt 76 dX11_never_39 (by decide) (fun c1 => ?_) (fun c1 => ?_)
    · rw [if_pos c1] at hF
      refine v_aload_n (i := 0) dX11_never_76 rfl rfl ?_
      refine g_X11_40 (q := 24) rfl sh_0 (by exact ltG hG (by decide)) (by exact rG hG r0_0_5) dX11_never_77 ?_
      refine g_X11_211 rfl sh_24 (by exact ltG hG (by decide)) dX11_never_80 ?_
      refine v_iload_n (i := 2) dX11_never_83 rfl rfl ?_
      refine v_iconst (v := (-1)) dX11_never_84 (by decide) ?_
      refine v_ixor dX11_never_85 ?_
      refine v_iand dX11_never_86 ?_
      refine v_ireturn rfl dX11_never_87 ?_
      obtain ⟨rfl, rfl⟩ := Prod.mk.inj (Option.some.inj hF)
      exact ⟨rfl, rfl, hG⟩
    · rw [if_neg c1] at hF
      refine v_aload_n (i := 0) dX11_never_42 rfl rfl ?_
      refine g_X11_32 (q := 23) rfl sh_0 (by exact ltG hG (by decide)) (by exact rG hG r0_0_4) dX11_never_43 ?_
      refine v_aload_n (i := 0) dX11_never_46 rfl rfl ?_
      refine g_X11_48 (q := 34) rfl sh_0 (by exact ltG hG (by decide)) (by exact rG hG r0_0_7) dX11_never_47 ?_
      obtain ⟨q2, q2_e, hF⟩ := Option.bind_eq_some_iff.mp hF
      refine c_X11_285 rfl sh_23 (by exact ltG hG (by decide)) (Nat.le_of_ble_eq_true rfl) dX11_never_50 (s_X0_walk _ q2_e hG (by first | assumption | exact sc_30 | exact sc_34 | exact sc_10 | exact fd_24 | exact fd_4 | exact lw_25 | exact lw_5 | exact bd_23 | exact bd_3 | exact ⟨by first | assumption | rfl, by first | decide | omega⟩) (by first | assumption | exact sc_30 | exact sc_34 | exact sc_10 | exact fd_24 | exact fd_4 | exact lw_25 | exact lw_5 | exact bd_23 | exact bd_3 | exact ⟨by first | assumption | rfl, by first | decide | omega⟩)) (fun r1 h1 hq => ?_)
      obtain ⟨rfl, hq, hG⟩ := hq
      replace hq := hq.symm
      subst hq
      simp only [Option.toList, List.nil_append]
      refine v_iload_n (i := 2) dX11_never_53 rfl rfl ?_
      refine v_aload_n (i := 0) dX11_never_54 rfl rfl ?_
      refine g_X11_48 (q := 34) rfl sh_0 (by exact ltG hG (by decide)) (by exact rG hG r0_0_7) dX11_never_55 ?_
      refine v_aload_n (i := 0) dX11_never_58 rfl rfl ?_
      refine g_X11_32 (q := 23) rfl sh_0 (by exact ltG hG (by decide)) (by exact rG hG r0_0_4) dX11_never_59 ?_
      refine g_X11_149 rfl sh_23 (by exact ltG hG (by decide)) dX11_never_62 ?_
      obtain ⟨q4, q4_e, hF⟩ := Option.bind_eq_some_iff.mp hF
      refine c_X11_189 rfl sh_34 (by exact ltG hG (by decide)) (Nat.le_of_ble_eq_true rfl) dX11_never_65 (s_X8_stoodOn _ q4_e hG (by first | assumption | exact sc_30 | exact sc_34 | exact sc_10 | exact fd_24 | exact fd_4 | exact lw_25 | exact lw_5 | exact bd_23 | exact bd_3 | exact ⟨by first | assumption | rfl, by first | decide | omega⟩)) (fun r1 h1 hq => ?_)
      obtain ⟨rfl, hq, hG⟩ := hq
      replace hq := hq.symm
      subst hq
      show V _ _ _ _ (_ :: _) _ _
      refine v_ior dX11_never_68 ?_
      refine v_istore_n (i := 2) dX11_never_69 rfl (by decide) (nlT rfl) ?_
      simp only [List.set_cons_zero, List.set_cons_succ]
      refine v_iinc (i := 3) (v := (l3 + 1)) dX11_never_70 rfl rfl (by decide) (nlT rfl) ?_
      simp only [List.set_cons_zero, List.set_cons_succ]
      refine v_goto 37 dX11_never_73 (by decide) ?_
      refine V.weak (la2 := [some (.ref 0), some (.int l1), some (.int ((l2 : Int32) ||| (q4.1 : Int32))), some (.int (l3 + 1))]) (by simp [wk]) ?_
      exact (s_X11_never_IH_37) _ _ _ _ _ _ hF hG
def F_X11_never (n : Nat) (h : Hp) (x1 : Int32) : Option (Int32 × Hp) := ((F_X11_isSpan n h x1).bind (fun q6 => (if (q6.1 : Int32) = 0 then some ((-1), q6.2) else ((F_X8_become n q6.2 34 30).bind (fun q9 => ((F_X8_stoodOn n q9 34 (hi q9 23 2)).bind (fun q11 => W_X11_never n 37 q11.2  x1 q11.1 1)))))))
set_option maxRecDepth 100000 in
set_option maxHeartbeats 4000000 in
theorem s_X11_never (d : Nat) {n : Nat} {h : Hp} {x1 : Int32} {q0 : (Int32 × Hp)} (hF : F_X11_never n h x1 = some q0) (hG : G h)  : Kc mX11_never (d + 5) [.ref 0, .int x1] h (fun r1 h1 => r1 = some (.int q0.1) ∧ h1 = q0.2 ∧ G q0.2) := by
  obtain ⟨r, h'⟩ := q0
  have s_X11_never_IH_37 := sw_X11_never d   n
  unfold F_X11_never at hF
  refine Kc.of [some (.ref 0), some (.int x1), none, none] ok_X11_never rfl (Nat.le_of_ble_eq_true rfl) ?_
  refine v_iload_n (i := 1) dX11_never_0 rfl rfl ?_
  obtain ⟨q6, q6_e, hF⟩ := Option.bind_eq_some_iff.mp hF
  refine c_X11_226 rfl (Nat.le_of_ble_eq_true rfl) dX11_never_1 (s_X11_isSpan _ q6_e hG) (fun r1 h1 hq => ?_)
  obtain ⟨rfl, hq, hG⟩ := hq
  replace hq := hq.symm
  subst hq
  show V _ _ _ _ (_ :: _) _ _
  refine v_if_ne 9 dX11_never_4 (by decide) (fun c8 => ?_) (fun c8 => ?_)
  · rw [if_neg c8] at hF
    refine v_aload_n (i := 0) dX11_never_9 rfl rfl ?_
    refine g_X11_48 (q := 34) rfl sh_0 (by exact ltG hG (by decide)) (by exact rG hG r0_0_7) dX11_never_10 ?_
    refine v_aload_n (i := 0) dX11_never_13 rfl rfl ?_
    refine g_X11_44 (q := 30) rfl sh_0 (by exact ltG hG (by decide)) (by exact rG hG r0_0_6) dX11_never_14 ?_
    obtain ⟨q9, q9_e, hF⟩ := Option.bind_eq_some_iff.mp hF
    refine c_X11_119 rfl sh_34 (by exact ltG hG (by decide)) (Nat.le_of_ble_eq_true rfl) dX11_never_17 (s_X8_become _ q9_e hG (by first | assumption | exact sc_30 | exact sc_34 | exact sc_10 | exact fd_24 | exact fd_4 | exact lw_25 | exact lw_5 | exact bd_23 | exact bd_3 | exact ⟨by first | assumption | rfl, by first | decide | omega⟩) (by first | assumption | exact sc_30 | exact sc_34 | exact sc_10 | exact fd_24 | exact fd_4 | exact lw_25 | exact lw_5 | exact bd_23 | exact bd_3 | exact ⟨by first | assumption | rfl, by first | decide | omega⟩)) (fun r1 h1 hq => ?_)
    obtain ⟨rfl, hq, hG⟩ := hq
    replace hq := hq.symm
    subst hq
    simp only [Option.toList, List.nil_append]
    refine v_aload_n (i := 0) dX11_never_20 rfl rfl ?_
    refine g_X11_48 (q := 34) rfl sh_0 (by exact ltG hG (by decide)) (by exact rG hG r0_0_7) dX11_never_21 ?_
    refine v_aload_n (i := 0) dX11_never_24 rfl rfl ?_
    refine g_X11_32 (q := 23) rfl sh_0 (by exact ltG hG (by decide)) (by exact rG hG r0_0_4) dX11_never_25 ?_
    refine g_X11_149 rfl sh_23 (by exact ltG hG (by decide)) dX11_never_28 ?_
    obtain ⟨q11, q11_e, hF⟩ := Option.bind_eq_some_iff.mp hF
    refine c_X11_189 rfl sh_34 (by exact ltG hG (by decide)) (Nat.le_of_ble_eq_true rfl) dX11_never_31 (s_X8_stoodOn _ q11_e hG (by first | assumption | exact sc_30 | exact sc_34 | exact sc_10 | exact fd_24 | exact fd_4 | exact lw_25 | exact lw_5 | exact bd_23 | exact bd_3 | exact ⟨by first | assumption | rfl, by first | decide | omega⟩)) (fun r1 h1 hq => ?_)
    obtain ⟨rfl, hq, hG⟩ := hq
    replace hq := hq.symm
    subst hq
    show V _ _ _ _ (_ :: _) _ _
    refine v_istore_n (i := 2) dX11_never_34 rfl (by decide) (nlT rfl) ?_
    simp only [List.set_cons_zero, List.set_cons_succ]
    refine v_iconst (v := 1) dX11_never_35 (by decide) ?_
    refine v_istore_n (i := 3) dX11_never_36 rfl (by decide) (nlT rfl) ?_
    simp only [List.set_cons_zero, List.set_cons_succ]
    refine V.weak (la2 := [some (.ref 0), some (.int x1), some (.int q11.1), some (.int 1)]) (by simp [wk]) ?_
    exact (s_X11_never_IH_37) _ _ _ _ _ _ hF hG
  · rw [if_pos c8] at hF
    refine v_iconst (v := (-1)) dX11_never_7 (by decide) ?_
    refine v_ireturn rfl dX11_never_8 ?_
    obtain ⟨rfl, rfl⟩ := Prod.mk.inj (Option.some.inj hF)
    exact ⟨rfl, rfl, hG⟩
def F_X11_part (n : Nat) (h : Hp) (x1 : Int32) (x2 : Int32) : Option (Int32 × Hp) := ((F_X11_isFree n h x1).bind (fun q1 => (if (q1.1 : Int32) = 0 then some ((-1), q1.2) else ((F_X11_isFree n q1.2 x2).bind (fun q4 => (if (q4.1 : Int32) = 0 then some ((-1), q4.2) else ((F_X3_grown n q4.2 24 ((1 : Int32) <<< ((x1 : Int32) &&& 31))).bind (fun q7 => (if ((((((q7.1 : Int32).toUInt32 >>> ((x2 : Int32).toUInt32 &&& Int32.toUInt32 31)).toInt32) : Int32) &&& (1 : Int32)) : Int32) = 0 then ((F_X1_fewestRopes n q7.2 (((hi q7.2 24 2) : Int32) &&& ((((hi q7.2 30 2) : Int32) ^^^ ((-1) : Int32)) : Int32)) x1 x2).bind (fun q10 => some (q10.1, q10.2))) else some ((-2), q7.2))))))))))
set_option maxRecDepth 100000 in
set_option maxHeartbeats 4000000 in
theorem s_X11_part (d : Nat) {n : Nat} {h : Hp} {x1 : Int32} {x2 : Int32} {q0 : (Int32 × Hp)} (hF : F_X11_part n h x1 x2 = some q0) (hG : G h)  : Kc mX11_part (d + 4) [.ref 0, .int x1, .int x2] h (fun r1 h1 => r1 = some (.int q0.1) ∧ h1 = q0.2 ∧ G q0.2) := by
  obtain ⟨r, h'⟩ := q0
  unfold F_X11_part at hF
  refine Kc.of [some (.ref 0), some (.int x1), some (.int x2)] ok_X11_part rfl (Nat.le_of_ble_eq_true rfl) ?_
  refine v_aload_n (i := 0) dX11_part_0 rfl rfl ?_
  refine v_iload_n (i := 1) dX11_part_1 rfl rfl ?_
  obtain ⟨q1, q1_e, hF⟩ := Option.bind_eq_some_iff.mp hF
  refine c_X11_243 rfl sh_0 (by exact ltG hG (by decide)) (Nat.le_of_ble_eq_true rfl) dX11_part_2 (s_X11_isFree _ q1_e hG) (fun r1 h1 hq => ?_)
  obtain ⟨rfl, hq, hG⟩ := hq
  replace hq := hq.symm
  subst hq
  show V _ _ _ _ (_ :: _) _ _
  refine v_if_eq 16 dX11_part_5 (by decide) (fun c3 => ?_) (fun c3 => ?_)
  · rw [if_pos c3] at hF
    refine v_iconst (v := (-1)) dX11_part_16 (by decide) ?_
    refine v_ireturn rfl dX11_part_17 ?_
    obtain ⟨rfl, rfl⟩ := Prod.mk.inj (Option.some.inj hF)
    exact ⟨rfl, rfl, hG⟩
  · rw [if_neg c3] at hF
    refine v_aload_n (i := 0) dX11_part_8 rfl rfl ?_
    refine v_iload_n (i := 2) dX11_part_9 rfl rfl ?_
    obtain ⟨q4, q4_e, hF⟩ := Option.bind_eq_some_iff.mp hF
    refine c_X11_243 rfl sh_0 (by exact ltG hG (by decide)) (Nat.le_of_ble_eq_true rfl) dX11_part_10 (s_X11_isFree _ q4_e hG) (fun r1 h1 hq => ?_)
    obtain ⟨rfl, hq, hG⟩ := hq
    replace hq := hq.symm
    subst hq
    show V _ _ _ _ (_ :: _) _ _
    refine v_if_ne 18 dX11_part_13 (by decide) (fun c6 => ?_) (fun c6 => ?_)
    · rw [if_neg c6] at hF
      refine v_aload_n (i := 0) dX11_part_18 rfl rfl ?_
      refine g_X11_40 (q := 24) rfl sh_0 (by exact ltG hG (by decide)) (by exact rG hG r0_0_5) dX11_part_19 ?_
      refine v_iconst (v := 1) dX11_part_22 (by decide) ?_
      refine v_iload_n (i := 1) dX11_part_23 rfl rfl ?_
      refine v_ishl dX11_part_24 ?_
      obtain ⟨q7, q7_e, hF⟩ := Option.bind_eq_some_iff.mp hF
      refine c_X11_272 rfl sh_24 (by exact ltG hG (by decide)) (Nat.le_of_ble_eq_true rfl) dX11_part_25 (s_X3_grown _ q7_e hG (by first | assumption | exact sc_30 | exact sc_34 | exact sc_10 | exact fd_24 | exact fd_4 | exact lw_25 | exact lw_5 | exact bd_23 | exact bd_3 | exact ⟨by first | assumption | rfl, by first | decide | omega⟩)) (fun r1 h1 hq => ?_)
      obtain ⟨rfl, hq, hG⟩ := hq
      replace hq := hq.symm
      subst hq
      show V _ _ _ _ (_ :: _) _ _
      refine v_iload_n (i := 2) dX11_part_28 rfl rfl ?_
      refine v_iushr dX11_part_29 ?_
      refine v_iconst (v := 1) dX11_part_30 (by decide) ?_
      refine v_iand dX11_part_31 ?_
      refine v_if_eq 38 dX11_part_32 (by decide) (fun c9 => ?_) (fun c9 => ?_)
      · rw [if_pos c9] at hF
        refine v_aload_n (i := 0) dX11_part_38 rfl rfl ?_
        refine g_X11_84 (q := 207) rfl sh_0 (by exact ltG hG (by decide)) (by exact rG hG r0_0_13) dX11_part_39 ?_
        refine v_aload_n (i := 0) dX11_part_42 rfl rfl ?_
        refine g_X11_40 (q := 24) rfl sh_0 (by exact ltG hG (by decide)) (by exact rG hG r0_0_5) dX11_part_43 ?_
        refine g_X11_211 rfl sh_24 (by exact ltG hG (by decide)) dX11_part_46 ?_
        refine v_aload_n (i := 0) dX11_part_49 rfl rfl ?_
        refine g_X11_44 (q := 30) rfl sh_0 (by exact ltG hG (by decide)) (by exact rG hG r0_0_6) dX11_part_50 ?_
        refine g_X11_186 rfl sh_30 (by exact ltG hG (by decide)) dX11_part_53 ?_
        refine v_iconst (v := (-1)) dX11_part_56 (by decide) ?_
        refine v_ixor dX11_part_57 ?_
        refine v_iand dX11_part_58 ?_
        refine v_iload_n (i := 1) dX11_part_59 rfl rfl ?_
        refine v_iload_n (i := 2) dX11_part_60 rfl rfl ?_
        obtain ⟨q10, q10_e, hF⟩ := Option.bind_eq_some_iff.mp hF
        refine c_X11_275 rfl sh_207 (by exact ltG hG (by decide)) (Nat.le_of_ble_eq_true rfl) dX11_part_61 (s_X1_fewestRopes _ q10_e hG) (fun r1 h1 hq => ?_)
        obtain ⟨rfl, hq, hG⟩ := hq
        replace hq := hq.symm
        subst hq
        show V _ _ _ _ (_ :: _) _ _
        refine v_ireturn rfl dX11_part_64 ?_
        obtain ⟨rfl, rfl⟩ := Prod.mk.inj (Option.some.inj hF)
        exact ⟨rfl, rfl, hG⟩
      · rw [if_neg c9] at hF
        refine v_bipush (v := (-2)) dX11_part_35 (by decide) ?_
        refine v_ireturn rfl dX11_part_37 ?_
        obtain ⟨rfl, rfl⟩ := Prod.mk.inj (Option.some.inj hF)
        exact ⟨rfl, rfl, hG⟩
    · rw [if_pos c6] at hF
      refine v_iconst (v := (-1)) dX11_part_16 (by decide) ?_
      refine v_ireturn rfl dX11_part_17 ?_
      obtain ⟨rfl, rfl⟩ := Prod.mk.inj (Option.some.inj hF)
      exact ⟨rfl, rfl, hG⟩
def W_X11_period : Nat → Nat → Hp → Int32 → Option (Int32 × Hp)
  | 0 => fun _ _ _ => none
  | n + 1 => fun hd h l1 => (if hd = 2 then (if (60 : Int32) ≤ (l1 : Int32) then some (60, h) else ((F_X8_allTunesDivide n h 30 l1).bind (fun q2 => (if (q2.1 : Int32) = 0 then W_X11_period n 2 q2.2  (l1 + 1) else some (l1, q2.2))))) else none)
set_option maxRecDepth 100000 in
set_option maxHeartbeats 4000000 in
theorem sw_X11_period (d : Nat)  (n : Nat) : (∀ (l1 : Int32) (h : Hp), ∀ (r : Int32) (h' : Hp), W_X11_period n 2 h  l1 = some (r, h') → G h → V mX11_period (d + 3) 2 [some (.ref 0), some (.int l1)] [] h (fun r1 h1 => r1 = some (.int r) ∧ h1 = h' ∧ G h')) := by
  induction n with
  | zero => exact by intros; contradiction
  | succ n ih =>
    have s_X11_period_IH_2 := ih
    intro l1 h r h' hF hG
    unfold W_X11_period at hF
    rw [if_pos rfl] at hF
    refine v_iload_n (i := 1) dX11_period_2 rfl rfl ?_
    refine v_bipush (v := 60) dX11_period_3 (by decide) ?_
    refine v_icmp_ge 27 dX11_period_5 (by decide) (fun c1 => ?_) (fun c1 => ?_)
    · rw [if_pos c1] at hF
      refine v_bipush (v := 60) dX11_period_27 (by decide) ?_
      refine v_ireturn rfl dX11_period_29 ?_
      obtain ⟨rfl, rfl⟩ := Prod.mk.inj (Option.some.inj hF)
      exact ⟨rfl, rfl, hG⟩
    · rw [if_neg c1] at hF
      refine v_aload_n (i := 0) dX11_period_8 rfl rfl ?_
      refine g_X11_44 (q := 30) rfl sh_0 (by exact ltG hG (by decide)) (by exact rG hG r0_0_6) dX11_period_9 ?_
      refine v_iload_n (i := 1) dX11_period_12 rfl rfl ?_
      obtain ⟨q2, q2_e, hF⟩ := Option.bind_eq_some_iff.mp hF
      refine c_X11_240 rfl sh_30 (by exact ltG hG (by decide)) (Nat.le_of_ble_eq_true rfl) dX11_period_13 (s_X8_allTunesDivide _ q2_e hG (by first | assumption | exact sc_30 | exact sc_34 | exact sc_10 | exact fd_24 | exact fd_4 | exact lw_25 | exact lw_5 | exact bd_23 | exact bd_3 | exact ⟨by first | assumption | rfl, by first | decide | omega⟩)) (fun r1 h1 hq => ?_)
      obtain ⟨rfl, hq, hG⟩ := hq
      replace hq := hq.symm
      subst hq
      show V _ _ _ _ (_ :: _) _ _
      refine v_if_eq 21 dX11_period_16 (by decide) (fun c4 => ?_) (fun c4 => ?_)
      · rw [if_pos c4] at hF
        refine v_iinc (i := 1) (v := (l1 + 1)) dX11_period_21 rfl rfl (by decide) (nlT rfl) ?_
        simp only [List.set_cons_zero, List.set_cons_succ]
        refine v_goto 2 dX11_period_24 (by decide) ?_
        refine V.weak (la2 := [some (.ref 0), some (.int (l1 + 1))]) (by simp [wk]) ?_
        exact (s_X11_period_IH_2) _ _ _ _ hF hG
      · rw [if_neg c4] at hF
        refine v_iload_n (i := 1) dX11_period_19 rfl rfl ?_
        refine v_ireturn rfl dX11_period_20 ?_
        obtain ⟨rfl, rfl⟩ := Prod.mk.inj (Option.some.inj hF)
        exact ⟨rfl, rfl, hG⟩
def F_X11_period (n : Nat) (h : Hp) : Option (Int32 × Hp) := W_X11_period n 2 h  1
set_option maxRecDepth 100000 in
set_option maxHeartbeats 4000000 in
theorem s_X11_period (d : Nat) {n : Nat} {h : Hp}  {q0 : (Int32 × Hp)} (hF : F_X11_period n h  = some q0) (hG : G h)  : Kc mX11_period (d + 3) [.ref 0] h (fun r1 h1 => r1 = some (.int q0.1) ∧ h1 = q0.2 ∧ G q0.2) := by
  obtain ⟨r, h'⟩ := q0
  have s_X11_period_IH_2 := sw_X11_period d   n
  unfold F_X11_period at hF
  refine Kc.of [some (.ref 0), none] ok_X11_period rfl (Nat.le_of_ble_eq_true rfl) ?_
  refine v_iconst (v := 1) dX11_period_0 (by decide) ?_
  refine v_istore_n (i := 1) dX11_period_1 rfl (by decide) (nlT rfl) ?_
  simp only [List.set_cons_zero, List.set_cons_succ]
  refine V.weak (la2 := [some (.ref 0), some (.int 1)]) (by simp [wk]) ?_
  exact (s_X11_period_IH_2) _ _ _ _ hF hG
def W_X11_returns : Nat → Nat → Hp → Int32 → Int32 → Option (Int32 × Hp)
  | 0 => fun _ _ _ _ => none
  | n + 1 => fun hd h l1 l2 => (if hd = 26 then (if (100 : Int32) < (l2 : Int32) then some ((-2), h) else ((F_X0_walk n h 23 34).bind (fun q2 => (if ixOK l1 5 = true then (if ixOK l1 5 = true then (if ((hi q2 36 (Int32.toNatClampNeg l1)) : Int32) = ((hi q2 32 (Int32.toNatClampNeg l1)) : Int32) then some (l2, q2) else W_X11_returns n 26 q2  l1 (l2 + 1)) else none) else none)))) else none)
set_option maxRecDepth 100000 in
set_option maxHeartbeats 4000000 in
theorem sw_X11_returns (d : Nat)  (n : Nat) : (∀ (l1 : Int32) (l2 : Int32) (h : Hp), ∀ (r : Int32) (h' : Hp), W_X11_returns n 26 h  l1 l2 = some (r, h') → G h → V mX11_returns (d + 5) 26 [some (.ref 0), some (.int l1), some (.int l2)] [] h (fun r1 h1 => r1 = some (.int r) ∧ h1 = h' ∧ G h')) := by
  induction n with
  | zero => exact by intros; contradiction
  | succ n ih =>
    have s_X11_returns_IH_26 := ih
    intro l1 l2 h r h' hF hG
    unfold W_X11_returns at hF
    rw [if_pos rfl] at hF
    refine v_iload_n (i := 2) dX11_returns_26 rfl rfl ?_
    refine v_bipush (v := 100) dX11_returns_27 (by decide) ?_
    refine v_icmp_gt 72 dX11_returns_29 (by decide) (fun c1 => ?_) (fun c1 => ?_)
    · rw [if_pos c1] at hF
      refine v_bipush (v := (-2)) dX11_returns_72 (by decide) ?_
      refine v_ireturn rfl dX11_returns_74 ?_
      obtain ⟨rfl, rfl⟩ := Prod.mk.inj (Option.some.inj hF)
      exact ⟨rfl, rfl, hG⟩
    · rw [if_neg c1] at hF
      refine v_aload_n (i := 0) dX11_returns_32 rfl rfl ?_
      refine g_X11_32 (q := 23) rfl sh_0 (by exact ltG hG (by decide)) (by exact rG hG r0_0_4) dX11_returns_33 ?_
      refine v_aload_n (i := 0) dX11_returns_36 rfl rfl ?_
      refine g_X11_48 (q := 34) rfl sh_0 (by exact ltG hG (by decide)) (by exact rG hG r0_0_7) dX11_returns_37 ?_
      obtain ⟨q2, q2_e, hF⟩ := Option.bind_eq_some_iff.mp hF
      refine c_X11_285 rfl sh_23 (by exact ltG hG (by decide)) (Nat.le_of_ble_eq_true rfl) dX11_returns_40 (s_X0_walk _ q2_e hG (by first | assumption | exact sc_30 | exact sc_34 | exact sc_10 | exact fd_24 | exact fd_4 | exact lw_25 | exact lw_5 | exact bd_23 | exact bd_3 | exact ⟨by first | assumption | rfl, by first | decide | omega⟩) (by first | assumption | exact sc_30 | exact sc_34 | exact sc_10 | exact fd_24 | exact fd_4 | exact lw_25 | exact lw_5 | exact bd_23 | exact bd_3 | exact ⟨by first | assumption | rfl, by first | decide | omega⟩)) (fun r1 h1 hq => ?_)
      obtain ⟨rfl, hq, hG⟩ := hq
      replace hq := hq.symm
      subst hq
      simp only [Option.toList, List.nil_append]
      refine v_aload_n (i := 0) dX11_returns_43 rfl rfl ?_
      refine g_X11_48 (q := 34) rfl sh_0 (by exact ltG hG (by decide)) (by exact rG hG r0_0_7) dX11_returns_44 ?_
      refine g_X11_163 (q := 36) rfl sh_34 (by exact ltG hG (by decide)) (by exact rG hG r0_34_5) dX11_returns_47 ?_
      refine v_iload_n (i := 1) dX11_returns_50 rfl rfl ?_
      obtain ⟨k4, hF⟩ := ck_some hF
      refine v_iaload sh_36 (by exact ltG hG (by decide)) (ixO k4) dX11_returns_51 ?_
      refine v_aload_n (i := 0) dX11_returns_52 rfl rfl ?_
      refine g_X11_44 (q := 30) rfl sh_0 (by exact ltG hG (by decide)) (by exact rG hG r0_0_6) dX11_returns_53 ?_
      refine g_X11_163 (q := 32) rfl sh_30 (by exact ltG hG (by decide)) (by exact rG hG r0_30_5) dX11_returns_56 ?_
      refine v_iload_n (i := 1) dX11_returns_59 rfl rfl ?_
      obtain ⟨k5, hF⟩ := ck_some hF
      refine v_iaload sh_32 (by exact ltG hG (by decide)) (ixO k5) dX11_returns_60 ?_
      refine v_icmp_ne 66 dX11_returns_61 (by decide) (fun c6 => ?_) (fun c6 => ?_)
      · rw [if_neg c6] at hF
        refine v_iinc (i := 2) (v := (l2 + 1)) dX11_returns_66 rfl rfl (by decide) (nlT rfl) ?_
        simp only [List.set_cons_zero, List.set_cons_succ]
        refine v_goto 26 dX11_returns_69 (by decide) ?_
        refine V.weak (la2 := [some (.ref 0), some (.int l1), some (.int (l2 + 1))]) (by simp [wk]) ?_
        exact (s_X11_returns_IH_26) _ _ _ _ _ hF hG
      · rw [if_pos c6] at hF
        refine v_iload_n (i := 2) dX11_returns_64 rfl rfl ?_
        refine v_ireturn rfl dX11_returns_65 ?_
        obtain ⟨rfl, rfl⟩ := Prod.mk.inj (Option.some.inj hF)
        exact ⟨rfl, rfl, hG⟩
def F_X11_returns (n : Nat) (h : Hp) (x1 : Int32) : Option (Int32 × Hp) := ((F_X0_hasGoer n h 23 x1).bind (fun q7 => (if (q7.1 : Int32) = 0 then some ((-1), q7.2) else ((F_X8_become n q7.2 34 30).bind (fun q10 => W_X11_returns n 26 q10  x1 1)))))
set_option maxRecDepth 100000 in
set_option maxHeartbeats 4000000 in
theorem s_X11_returns (d : Nat) {n : Nat} {h : Hp} {x1 : Int32} {q0 : (Int32 × Hp)} (hF : F_X11_returns n h x1 = some q0) (hG : G h)  : Kc mX11_returns (d + 5) [.ref 0, .int x1] h (fun r1 h1 => r1 = some (.int q0.1) ∧ h1 = q0.2 ∧ G q0.2) := by
  obtain ⟨r, h'⟩ := q0
  have s_X11_returns_IH_26 := sw_X11_returns d   n
  unfold F_X11_returns at hF
  refine Kc.of [some (.ref 0), some (.int x1), none] ok_X11_returns rfl (Nat.le_of_ble_eq_true rfl) ?_
  refine v_aload_n (i := 0) dX11_returns_0 rfl rfl ?_
  refine g_X11_32 (q := 23) rfl sh_0 (by exact ltG hG (by decide)) (by exact rG hG r0_0_4) dX11_returns_1 ?_
  refine v_iload_n (i := 1) dX11_returns_4 rfl rfl ?_
  obtain ⟨q7, q7_e, hF⟩ := Option.bind_eq_some_iff.mp hF
  refine c_X11_160 rfl sh_23 (by exact ltG hG (by decide)) (Nat.le_of_ble_eq_true rfl) dX11_returns_5 (s_X0_hasGoer _ q7_e hG (by first | assumption | exact sc_30 | exact sc_34 | exact sc_10 | exact fd_24 | exact fd_4 | exact lw_25 | exact lw_5 | exact bd_23 | exact bd_3 | exact ⟨by first | assumption | rfl, by first | decide | omega⟩)) (fun r1 h1 hq => ?_)
  obtain ⟨rfl, hq, hG⟩ := hq
  replace hq := hq.symm
  subst hq
  show V _ _ _ _ (_ :: _) _ _
  refine v_if_ne 13 dX11_returns_8 (by decide) (fun c9 => ?_) (fun c9 => ?_)
  · rw [if_neg c9] at hF
    refine v_aload_n (i := 0) dX11_returns_13 rfl rfl ?_
    refine g_X11_48 (q := 34) rfl sh_0 (by exact ltG hG (by decide)) (by exact rG hG r0_0_7) dX11_returns_14 ?_
    refine v_aload_n (i := 0) dX11_returns_17 rfl rfl ?_
    refine g_X11_44 (q := 30) rfl sh_0 (by exact ltG hG (by decide)) (by exact rG hG r0_0_6) dX11_returns_18 ?_
    obtain ⟨q10, q10_e, hF⟩ := Option.bind_eq_some_iff.mp hF
    refine c_X11_119 rfl sh_34 (by exact ltG hG (by decide)) (Nat.le_of_ble_eq_true rfl) dX11_returns_21 (s_X8_become _ q10_e hG (by first | assumption | exact sc_30 | exact sc_34 | exact sc_10 | exact fd_24 | exact fd_4 | exact lw_25 | exact lw_5 | exact bd_23 | exact bd_3 | exact ⟨by first | assumption | rfl, by first | decide | omega⟩) (by first | assumption | exact sc_30 | exact sc_34 | exact sc_10 | exact fd_24 | exact fd_4 | exact lw_25 | exact lw_5 | exact bd_23 | exact bd_3 | exact ⟨by first | assumption | rfl, by first | decide | omega⟩)) (fun r1 h1 hq => ?_)
    obtain ⟨rfl, hq, hG⟩ := hq
    replace hq := hq.symm
    subst hq
    simp only [Option.toList, List.nil_append]
    refine v_iconst (v := 1) dX11_returns_24 (by decide) ?_
    refine v_istore_n (i := 2) dX11_returns_25 rfl (by decide) (nlT rfl) ?_
    simp only [List.set_cons_zero, List.set_cons_succ]
    refine V.weak (la2 := [some (.ref 0), some (.int x1), some (.int 1)]) (by simp [wk]) ?_
    exact (s_X11_returns_IH_26) _ _ _ _ _ hF hG
  · rw [if_pos c9] at hF
    refine v_iconst (v := (-1)) dX11_returns_11 (by decide) ?_
    refine v_ireturn rfl dX11_returns_12 ?_
    obtain ⟨rfl, rfl⟩ := Prod.mk.inj (Option.some.inj hF)
    exact ⟨rfl, rfl, hG⟩
def W_X11_silence : Nat → Nat → Hp → Int32 → Int32 → Int32 → Int32 → Int32 → Option (Int32 × Hp)
  | 0 => fun _ _ _ _ _ _ _ => none
  | n + 1 => fun hd h l1 l2 l3 l4 l5 => (if hd = 20 then (if (60 : Int32) ≤ (l5 : Int32) then (if (l1 : Int32) = 0 then some (l2, h) else some (l3, h)) else ((F_X8_loudAt n h 30 ((hi h 30 0) + l5)).bind (fun q3 => (if (q3.1 : Int32) = 0 then (if ((l4 + 1) : Int32) ≤ (l2 : Int32) then W_X11_silence n 20 q3.2  l1 l2 l3 (l4 + 1) (l5 + 1) else W_X11_silence n 20 q3.2  l1 (l4 + 1) ((l5 + 1) - (l4 + 1)) (l4 + 1) (l5 + 1)) else (if (0 : Int32) ≤ (l2 : Int32) then W_X11_silence n 20 q3.2  l1 l2 l3 0 (l5 + 1) else W_X11_silence n 20 q3.2  l1 0 ((l5 + 1) - 0) 0 (l5 + 1)))))) else none)
set_option maxRecDepth 100000 in
set_option maxHeartbeats 4000000 in
theorem sw_X11_silence (d : Nat)  (n : Nat) : (∀ (l1 : Int32) (l2 : Int32) (l3 : Int32) (l4 : Int32) (l5 : Int32) (h : Hp), ∀ (r : Int32) (h' : Hp), W_X11_silence n 20 h  l1 l2 l3 l4 l5 = some (r, h') → G h → V mX11_silence (d + 4) 20 [some (.ref 0), some (.int l1), some (.int l2), some (.int l3), some (.int l4), some (.int l5)] [] h (fun r1 h1 => r1 = some (.int r) ∧ h1 = h' ∧ G h')) := by
  induction n with
  | zero => exact by intros; contradiction
  | succ n ih =>
    have s_X11_silence_IH_20 := ih
    intro l1 l2 l3 l4 l5 h r h' hF hG
    unfold W_X11_silence at hF
    rw [if_pos rfl] at hF
    refine v_iload (i := 5) dX11_silence_20 rfl ?_
    refine v_bipush (v := 60) dX11_silence_22 (by decide) ?_
    refine v_icmp_ge 80 dX11_silence_24 (by decide) (fun c1 => ?_) (fun c1 => ?_)
    · rw [if_pos c1] at hF
      refine v_iload_n (i := 1) dX11_silence_80 rfl rfl ?_
      refine v_if_ne 88 dX11_silence_81 (by decide) (fun c2 => ?_) (fun c2 => ?_)
      · rw [if_neg c2] at hF
        refine v_iload_n (i := 3) dX11_silence_88 rfl rfl ?_
        refine v_ireturn rfl dX11_silence_89 ?_
        obtain ⟨rfl, rfl⟩ := Prod.mk.inj (Option.some.inj hF)
        exact ⟨rfl, rfl, hG⟩
      · rw [if_pos c2] at hF
        refine v_iload_n (i := 2) dX11_silence_84 rfl rfl ?_
        refine v_goto 89 dX11_silence_85 (by decide) ?_
        refine v_ireturn rfl dX11_silence_89 ?_
        obtain ⟨rfl, rfl⟩ := Prod.mk.inj (Option.some.inj hF)
        exact ⟨rfl, rfl, hG⟩
    · rw [if_neg c1] at hF
      refine v_aload_n (i := 0) dX11_silence_27 rfl rfl ?_
      refine g_X11_44 (q := 30) rfl sh_0 (by exact ltG hG (by decide)) (by exact rG hG r0_0_6) dX11_silence_28 ?_
      refine v_aload_n (i := 0) dX11_silence_31 rfl rfl ?_
      refine g_X11_44 (q := 30) rfl sh_0 (by exact ltG hG (by decide)) (by exact rG hG r0_0_6) dX11_silence_32 ?_
      refine g_X11_139 rfl sh_30 (by exact ltG hG (by decide)) dX11_silence_35 ?_
      refine v_iload (i := 5) dX11_silence_38 rfl ?_
      refine v_iadd dX11_silence_40 ?_
      obtain ⟨q3, q3_e, hF⟩ := Option.bind_eq_some_iff.mp hF
      refine c_X11_201 rfl sh_30 (by exact ltG hG (by decide)) (Nat.le_of_ble_eq_true rfl) dX11_silence_41 (s_X8_loudAt _ q3_e hG (by first | assumption | exact sc_30 | exact sc_34 | exact sc_10 | exact fd_24 | exact fd_4 | exact lw_25 | exact lw_5 | exact bd_23 | exact bd_3 | exact ⟨by first | assumption | rfl, by first | decide | omega⟩)) (fun r1 h1 hq => ?_)
      obtain ⟨rfl, hq, hG⟩ := hq
      replace hq := hq.symm
      subst hq
      show V _ _ _ _ (_ :: _) _ _
      refine v_if_ne 54 dX11_silence_44 (by decide) (fun c5 => ?_) (fun c5 => ?_)
      · rw [if_neg c5] at hF
        refine v_iconst (v := 0) dX11_silence_54 (by decide) ?_
        refine v_istore (i := 4) dX11_silence_55 (by decide) (nlT rfl) ?_
        simp only [List.set_cons_zero, List.set_cons_succ]
        refine v_iload (i := 4) dX11_silence_57 rfl ?_
        refine v_iload_n (i := 2) dX11_silence_59 rfl rfl ?_
        refine v_icmp_le 74 dX11_silence_60 (by decide) (fun c6 => ?_) (fun c6 => ?_)
        · rw [if_pos c6] at hF
          refine v_iinc (i := 5) (v := (l5 + 1)) dX11_silence_74 rfl rfl (by decide) (nlT rfl) ?_
          simp only [List.set_cons_zero, List.set_cons_succ]
          refine v_goto 20 dX11_silence_77 (by decide) ?_
          refine V.weak (la2 := [some (.ref 0), some (.int l1), some (.int l2), some (.int l3), some (.int 0), some (.int (l5 + 1))]) (by simp [wk]) ?_
          exact (s_X11_silence_IH_20) _ _ _ _ _ _ _ _ hF hG
        · rw [if_neg c6] at hF
          refine v_iload (i := 4) dX11_silence_63 rfl ?_
          refine v_istore_n (i := 2) dX11_silence_65 rfl (by decide) (nlT rfl) ?_
          simp only [List.set_cons_zero, List.set_cons_succ]
          refine v_iload (i := 5) dX11_silence_66 rfl ?_
          refine v_iconst (v := 1) dX11_silence_68 (by decide) ?_
          refine v_iadd dX11_silence_69 ?_
          refine v_iload (i := 4) dX11_silence_70 rfl ?_
          refine v_isub dX11_silence_72 ?_
          refine v_istore_n (i := 3) dX11_silence_73 rfl (by decide) (nlT rfl) ?_
          simp only [List.set_cons_zero, List.set_cons_succ]
          refine v_iinc (i := 5) (v := (l5 + 1)) dX11_silence_74 rfl rfl (by decide) (nlT rfl) ?_
          simp only [List.set_cons_zero, List.set_cons_succ]
          refine v_goto 20 dX11_silence_77 (by decide) ?_
          refine V.weak (la2 := [some (.ref 0), some (.int l1), some (.int 0), some (.int ((l5 + 1) - 0)), some (.int 0), some (.int (l5 + 1))]) (by simp [wk]) ?_
          exact (s_X11_silence_IH_20) _ _ _ _ _ _ _ _ hF hG
      · rw [if_pos c5] at hF
        refine v_iload (i := 4) dX11_silence_47 rfl ?_
        refine v_iconst (v := 1) dX11_silence_49 (by decide) ?_
        refine v_iadd dX11_silence_50 ?_
        refine v_goto 55 dX11_silence_51 (by decide) ?_
        refine v_istore (i := 4) dX11_silence_55 (by decide) (nlT rfl) ?_
        simp only [List.set_cons_zero, List.set_cons_succ]
        refine v_iload (i := 4) dX11_silence_57 rfl ?_
        refine v_iload_n (i := 2) dX11_silence_59 rfl rfl ?_
        refine v_icmp_le 74 dX11_silence_60 (by decide) (fun c7 => ?_) (fun c7 => ?_)
        · rw [if_pos c7] at hF
          refine v_iinc (i := 5) (v := (l5 + 1)) dX11_silence_74 rfl rfl (by decide) (nlT rfl) ?_
          simp only [List.set_cons_zero, List.set_cons_succ]
          refine v_goto 20 dX11_silence_77 (by decide) ?_
          refine V.weak (la2 := [some (.ref 0), some (.int l1), some (.int l2), some (.int l3), some (.int (l4 + 1)), some (.int (l5 + 1))]) (by simp [wk]) ?_
          exact (s_X11_silence_IH_20) _ _ _ _ _ _ _ _ hF hG
        · rw [if_neg c7] at hF
          refine v_iload (i := 4) dX11_silence_63 rfl ?_
          refine v_istore_n (i := 2) dX11_silence_65 rfl (by decide) (nlT rfl) ?_
          simp only [List.set_cons_zero, List.set_cons_succ]
          refine v_iload (i := 5) dX11_silence_66 rfl ?_
          refine v_iconst (v := 1) dX11_silence_68 (by decide) ?_
          refine v_iadd dX11_silence_69 ?_
          refine v_iload (i := 4) dX11_silence_70 rfl ?_
          refine v_isub dX11_silence_72 ?_
          refine v_istore_n (i := 3) dX11_silence_73 rfl (by decide) (nlT rfl) ?_
          simp only [List.set_cons_zero, List.set_cons_succ]
          refine v_iinc (i := 5) (v := (l5 + 1)) dX11_silence_74 rfl rfl (by decide) (nlT rfl) ?_
          simp only [List.set_cons_zero, List.set_cons_succ]
          refine v_goto 20 dX11_silence_77 (by decide) ?_
          refine V.weak (la2 := [some (.ref 0), some (.int l1), some (.int (l4 + 1)), some (.int ((l5 + 1) - (l4 + 1))), some (.int (l4 + 1)), some (.int (l5 + 1))]) (by simp [wk]) ?_
          exact (s_X11_silence_IH_20) _ _ _ _ _ _ _ _ hF hG
def F_X11_silence (n : Nat) (h : Hp) (x1 : Int32) : Option (Int32 × Hp) := ((F_X11_isNoughtOrOne n h x1).bind (fun q8 => (if (q8.1 : Int32) = 0 then some ((-1), q8.2) else W_X11_silence n 20 q8.2  x1 0 (-2) 0 0)))
set_option maxRecDepth 100000 in
set_option maxHeartbeats 4000000 in
theorem s_X11_silence (d : Nat) {n : Nat} {h : Hp} {x1 : Int32} {q0 : (Int32 × Hp)} (hF : F_X11_silence n h x1 = some q0) (hG : G h)  : Kc mX11_silence (d + 4) [.ref 0, .int x1] h (fun r1 h1 => r1 = some (.int q0.1) ∧ h1 = q0.2 ∧ G q0.2) := by
  obtain ⟨r, h'⟩ := q0
  have s_X11_silence_IH_20 := sw_X11_silence d   n
  unfold F_X11_silence at hF
  refine Kc.of [some (.ref 0), some (.int x1), none, none, none, none] ok_X11_silence rfl (Nat.le_of_ble_eq_true rfl) ?_
  refine v_iload_n (i := 1) dX11_silence_0 rfl rfl ?_
  obtain ⟨q8, q8_e, hF⟩ := Option.bind_eq_some_iff.mp hF
  refine c_X11_237 rfl (Nat.le_of_ble_eq_true rfl) dX11_silence_1 (s_X11_isNoughtOrOne _ q8_e hG) (fun r1 h1 hq => ?_)
  obtain ⟨rfl, hq, hG⟩ := hq
  replace hq := hq.symm
  subst hq
  show V _ _ _ _ (_ :: _) _ _
  refine v_if_ne 9 dX11_silence_4 (by decide) (fun c10 => ?_) (fun c10 => ?_)
  · rw [if_neg c10] at hF
    refine v_iconst (v := 0) dX11_silence_9 (by decide) ?_
    refine v_istore_n (i := 2) dX11_silence_10 rfl (by decide) (nlT rfl) ?_
    simp only [List.set_cons_zero, List.set_cons_succ]
    refine v_bipush (v := (-2)) dX11_silence_11 (by decide) ?_
    refine v_istore_n (i := 3) dX11_silence_13 rfl (by decide) (nlT rfl) ?_
    simp only [List.set_cons_zero, List.set_cons_succ]
    refine v_iconst (v := 0) dX11_silence_14 (by decide) ?_
    refine v_istore (i := 4) dX11_silence_15 (by decide) (nlT rfl) ?_
    simp only [List.set_cons_zero, List.set_cons_succ]
    refine v_iconst (v := 0) dX11_silence_17 (by decide) ?_
    refine v_istore (i := 5) dX11_silence_18 (by decide) (nlT rfl) ?_
    simp only [List.set_cons_zero, List.set_cons_succ]
    refine V.weak (la2 := [some (.ref 0), some (.int x1), some (.int 0), some (.int (-2)), some (.int 0), some (.int 0)]) (by simp [wk]) ?_
    exact (s_X11_silence_IH_20) _ _ _ _ _ _ _ _ hF hG
  · rw [if_pos c10] at hF
    refine v_iconst (v := (-1)) dX11_silence_7 (by decide) ?_
    refine v_ireturn rfl dX11_silence_8 ?_
    obtain ⟨rfl, rfl⟩ := Prod.mk.inj (Option.some.inj hF)
    exact ⟨rfl, rfl, hG⟩
def W_X11_stood : Nat → Nat → Hp → Int32 → Int32 → Int32 → Int32 → Int32 → Option (Int32 × Hp)
  | 0 => fun _ _ _ _ _ _ _ => none
  | n + 1 => fun hd h l1 l2 l3 l4 l5 => (if hd = 65 then (if (l3 : Int32) < (l5 : Int32) then some (l4, h) else ((F_X0_walk n h 23 34).bind (fun q2 => (if ixOK l1 5 = true then (if ((hi q2 36 (Int32.toNatClampNeg l1)) : Int32) = (l2 : Int32) then W_X11_stood n 65 q2  l1 l2 l3 (l4 + 1) (l5 + 1) else W_X11_stood n 65 q2  l1 l2 l3 l4 (l5 + 1)) else none)))) else none)
set_option maxRecDepth 100000 in
set_option maxHeartbeats 4000000 in
theorem sw_X11_stood (d : Nat)  (n : Nat) : (∀ (l1 : Int32) (l2 : Int32) (l3 : Int32) (l4 : Int32) (l5 : Int32) (h : Hp), ∀ (r : Int32) (h' : Hp), W_X11_stood n 65 h  l1 l2 l3 l4 l5 = some (r, h') → G h → V mX11_stood (d + 5) 65 [some (.ref 0), some (.int l1), some (.int l2), some (.int l3), some (.int l4), some (.int l5)] [] h (fun r1 h1 => r1 = some (.int r) ∧ h1 = h' ∧ G h')) := by
  induction n with
  | zero => exact by intros; contradiction
  | succ n ih =>
    have s_X11_stood_IH_65 := ih
    intro l1 l2 l3 l4 l5 h r h' hF hG
    unfold W_X11_stood at hF
    rw [if_pos rfl] at hF
    refine v_iload (i := 5) dX11_stood_65 rfl ?_
    refine v_iload_n (i := 3) dX11_stood_67 rfl rfl ?_
    refine v_icmp_gt 104 dX11_stood_68 (by decide) (fun c1 => ?_) (fun c1 => ?_)
    · rw [if_pos c1] at hF
      refine v_iload (i := 4) dX11_stood_104 rfl ?_
      refine v_ireturn rfl dX11_stood_106 ?_
      obtain ⟨rfl, rfl⟩ := Prod.mk.inj (Option.some.inj hF)
      exact ⟨rfl, rfl, hG⟩
    · rw [if_neg c1] at hF
      refine v_aload_n (i := 0) dX11_stood_71 rfl rfl ?_
      refine g_X11_32 (q := 23) rfl sh_0 (by exact ltG hG (by decide)) (by exact rG hG r0_0_4) dX11_stood_72 ?_
      refine v_aload_n (i := 0) dX11_stood_75 rfl rfl ?_
      refine g_X11_48 (q := 34) rfl sh_0 (by exact ltG hG (by decide)) (by exact rG hG r0_0_7) dX11_stood_76 ?_
      obtain ⟨q2, q2_e, hF⟩ := Option.bind_eq_some_iff.mp hF
      refine c_X11_285 rfl sh_23 (by exact ltG hG (by decide)) (Nat.le_of_ble_eq_true rfl) dX11_stood_79 (s_X0_walk _ q2_e hG (by first | assumption | exact sc_30 | exact sc_34 | exact sc_10 | exact fd_24 | exact fd_4 | exact lw_25 | exact lw_5 | exact bd_23 | exact bd_3 | exact ⟨by first | assumption | rfl, by first | decide | omega⟩) (by first | assumption | exact sc_30 | exact sc_34 | exact sc_10 | exact fd_24 | exact fd_4 | exact lw_25 | exact lw_5 | exact bd_23 | exact bd_3 | exact ⟨by first | assumption | rfl, by first | decide | omega⟩)) (fun r1 h1 hq => ?_)
      obtain ⟨rfl, hq, hG⟩ := hq
      replace hq := hq.symm
      subst hq
      simp only [Option.toList, List.nil_append]
      refine v_aload_n (i := 0) dX11_stood_82 rfl rfl ?_
      refine g_X11_48 (q := 34) rfl sh_0 (by exact ltG hG (by decide)) (by exact rG hG r0_0_7) dX11_stood_83 ?_
      refine g_X11_163 (q := 36) rfl sh_34 (by exact ltG hG (by decide)) (by exact rG hG r0_34_5) dX11_stood_86 ?_
      refine v_iload_n (i := 1) dX11_stood_89 rfl rfl ?_
      obtain ⟨k4, hF⟩ := ck_some hF
      refine v_iaload sh_36 (by exact ltG hG (by decide)) (ixO k4) dX11_stood_90 ?_
      refine v_iload_n (i := 2) dX11_stood_91 rfl rfl ?_
      refine v_icmp_ne 98 dX11_stood_92 (by decide) (fun c5 => ?_) (fun c5 => ?_)
      · rw [if_neg c5] at hF
        refine v_iinc (i := 5) (v := (l5 + 1)) dX11_stood_98 rfl rfl (by decide) (nlT rfl) ?_
        simp only [List.set_cons_zero, List.set_cons_succ]
        refine v_goto 65 dX11_stood_101 (by decide) ?_
        refine V.weak (la2 := [some (.ref 0), some (.int l1), some (.int l2), some (.int l3), some (.int l4), some (.int (l5 + 1))]) (by simp [wk]) ?_
        exact (s_X11_stood_IH_65) _ _ _ _ _ _ _ _ hF hG
      · rw [if_pos c5] at hF
        refine v_iinc (i := 4) (v := (l4 + 1)) dX11_stood_95 rfl rfl (by decide) (nlT rfl) ?_
        simp only [List.set_cons_zero, List.set_cons_succ]
        refine v_iinc (i := 5) (v := (l5 + 1)) dX11_stood_98 rfl rfl (by decide) (nlT rfl) ?_
        simp only [List.set_cons_zero, List.set_cons_succ]
        refine v_goto 65 dX11_stood_101 (by decide) ?_
        refine V.weak (la2 := [some (.ref 0), some (.int l1), some (.int l2), some (.int l3), some (.int (l4 + 1)), some (.int (l5 + 1))]) (by simp [wk]) ?_
        exact (s_X11_stood_IH_65) _ _ _ _ _ _ _ _ hF hG
def F_X11_stood (n : Nat) (h : Hp) (x1 : Int32) (x2 : Int32) (x3 : Int32) : Option (Int32 × Hp) := ((F_X0_hasGoer n h 23 x1).bind (fun q6 => (if (q6.1 : Int32) = 0 then some ((-1), q6.2) else ((F_X3_has n q6.2 24 x2).bind (fun q9 => (if (q9.1 : Int32) = 0 then some ((-1), q9.2) else ((F_X11_isSpan n q9.2 x3).bind (fun q12 => (if (q12.1 : Int32) = 0 then some ((-1), q12.2) else ((F_X8_become n q12.2 34 30).bind (fun q15 => (if ixOK x1 5 = true then (if ((hi q15 36 (Int32.toNatClampNeg x1)) : Int32) = (x2 : Int32) then W_X11_stood n 65 q15  x1 x2 x3 1 1 else W_X11_stood n 65 q15  x1 x2 x3 0 1) else none))))))))))))
set_option maxRecDepth 100000 in
set_option maxHeartbeats 4000000 in
theorem s_X11_stood (d : Nat) {n : Nat} {h : Hp} {x1 : Int32} {x2 : Int32} {x3 : Int32} {q0 : (Int32 × Hp)} (hF : F_X11_stood n h x1 x2 x3 = some q0) (hG : G h)  : Kc mX11_stood (d + 5) [.ref 0, .int x1, .int x2, .int x3] h (fun r1 h1 => r1 = some (.int q0.1) ∧ h1 = q0.2 ∧ G q0.2) := by
  obtain ⟨r, h'⟩ := q0
  have s_X11_stood_IH_65 := sw_X11_stood d   n
  unfold F_X11_stood at hF
  refine Kc.of [some (.ref 0), some (.int x1), some (.int x2), some (.int x3), none, none] ok_X11_stood rfl (Nat.le_of_ble_eq_true rfl) ?_
  refine v_aload_n (i := 0) dX11_stood_0 rfl rfl ?_
  refine g_X11_32 (q := 23) rfl sh_0 (by exact ltG hG (by decide)) (by exact rG hG r0_0_4) dX11_stood_1 ?_
  refine v_iload_n (i := 1) dX11_stood_4 rfl rfl ?_
  obtain ⟨q6, q6_e, hF⟩ := Option.bind_eq_some_iff.mp hF
  refine c_X11_160 rfl sh_23 (by exact ltG hG (by decide)) (Nat.le_of_ble_eq_true rfl) dX11_stood_5 (s_X0_hasGoer _ q6_e hG (by first | assumption | exact sc_30 | exact sc_34 | exact sc_10 | exact fd_24 | exact fd_4 | exact lw_25 | exact lw_5 | exact bd_23 | exact bd_3 | exact ⟨by first | assumption | rfl, by first | decide | omega⟩)) (fun r1 h1 hq => ?_)
  obtain ⟨rfl, hq, hG⟩ := hq
  replace hq := hq.symm
  subst hq
  show V _ _ _ _ (_ :: _) _ _
  refine v_if_eq 29 dX11_stood_8 (by decide) (fun c8 => ?_) (fun c8 => ?_)
  · rw [if_pos c8] at hF
    refine v_iconst (v := (-1)) dX11_stood_29 (by decide) ?_
    refine v_ireturn rfl dX11_stood_30 ?_
    obtain ⟨rfl, rfl⟩ := Prod.mk.inj (Option.some.inj hF)
    exact ⟨rfl, rfl, hG⟩
  · rw [if_neg c8] at hF
    refine v_aload_n (i := 0) dX11_stood_11 rfl rfl ?_
    refine g_X11_40 (q := 24) rfl sh_0 (by exact ltG hG (by decide)) (by exact rG hG r0_0_5) dX11_stood_12 ?_
    refine v_iload_n (i := 2) dX11_stood_15 rfl rfl ?_
    obtain ⟨q9, q9_e, hF⟩ := Option.bind_eq_some_iff.mp hF
    refine c_X11_124 rfl sh_24 (by exact ltG hG (by decide)) (Nat.le_of_ble_eq_true rfl) dX11_stood_16 (s_X3_has _ q9_e hG (by first | assumption | exact sc_30 | exact sc_34 | exact sc_10 | exact fd_24 | exact fd_4 | exact lw_25 | exact lw_5 | exact bd_23 | exact bd_3 | exact ⟨by first | assumption | rfl, by first | decide | omega⟩)) (fun r1 h1 hq => ?_)
    obtain ⟨rfl, hq, hG⟩ := hq
    replace hq := hq.symm
    subst hq
    show V _ _ _ _ (_ :: _) _ _
    refine v_if_eq 29 dX11_stood_19 (by decide) (fun c11 => ?_) (fun c11 => ?_)
    · rw [if_pos c11] at hF
      refine v_iconst (v := (-1)) dX11_stood_29 (by decide) ?_
      refine v_ireturn rfl dX11_stood_30 ?_
      obtain ⟨rfl, rfl⟩ := Prod.mk.inj (Option.some.inj hF)
      exact ⟨rfl, rfl, hG⟩
    · rw [if_neg c11] at hF
      refine v_iload_n (i := 3) dX11_stood_22 rfl rfl ?_
      obtain ⟨q12, q12_e, hF⟩ := Option.bind_eq_some_iff.mp hF
      refine c_X11_226 rfl (Nat.le_of_ble_eq_true rfl) dX11_stood_23 (s_X11_isSpan _ q12_e hG) (fun r1 h1 hq => ?_)
      obtain ⟨rfl, hq, hG⟩ := hq
      replace hq := hq.symm
      subst hq
      show V _ _ _ _ (_ :: _) _ _
      refine v_if_ne 31 dX11_stood_26 (by decide) (fun c14 => ?_) (fun c14 => ?_)
      · rw [if_neg c14] at hF
        refine v_aload_n (i := 0) dX11_stood_31 rfl rfl ?_
        refine g_X11_48 (q := 34) rfl sh_0 (by exact ltG hG (by decide)) (by exact rG hG r0_0_7) dX11_stood_32 ?_
        refine v_aload_n (i := 0) dX11_stood_35 rfl rfl ?_
        refine g_X11_44 (q := 30) rfl sh_0 (by exact ltG hG (by decide)) (by exact rG hG r0_0_6) dX11_stood_36 ?_
        obtain ⟨q15, q15_e, hF⟩ := Option.bind_eq_some_iff.mp hF
        refine c_X11_119 rfl sh_34 (by exact ltG hG (by decide)) (Nat.le_of_ble_eq_true rfl) dX11_stood_39 (s_X8_become _ q15_e hG (by first | assumption | exact sc_30 | exact sc_34 | exact sc_10 | exact fd_24 | exact fd_4 | exact lw_25 | exact lw_5 | exact bd_23 | exact bd_3 | exact ⟨by first | assumption | rfl, by first | decide | omega⟩) (by first | assumption | exact sc_30 | exact sc_34 | exact sc_10 | exact fd_24 | exact fd_4 | exact lw_25 | exact lw_5 | exact bd_23 | exact bd_3 | exact ⟨by first | assumption | rfl, by first | decide | omega⟩)) (fun r1 h1 hq => ?_)
        obtain ⟨rfl, hq, hG⟩ := hq
        replace hq := hq.symm
        subst hq
        simp only [Option.toList, List.nil_append]
        refine v_aload_n (i := 0) dX11_stood_42 rfl rfl ?_
        refine g_X11_48 (q := 34) rfl sh_0 (by exact ltG hG (by decide)) (by exact rG hG r0_0_7) dX11_stood_43 ?_
        refine g_X11_163 (q := 36) rfl sh_34 (by exact ltG hG (by decide)) (by exact rG hG r0_34_5) dX11_stood_46 ?_
        refine v_iload_n (i := 1) dX11_stood_49 rfl rfl ?_
        obtain ⟨k17, hF⟩ := ck_some hF
        refine v_iaload sh_36 (by exact ltG hG (by decide)) (ixO k17) dX11_stood_50 ?_
        refine v_iload_n (i := 2) dX11_stood_51 rfl rfl ?_
        refine v_icmp_ne 59 dX11_stood_52 (by decide) (fun c18 => ?_) (fun c18 => ?_)
        · rw [if_neg c18] at hF
          refine v_iconst (v := 0) dX11_stood_59 (by decide) ?_
          refine v_istore (i := 4) dX11_stood_60 (by decide) (nlT rfl) ?_
          simp only [List.set_cons_zero, List.set_cons_succ]
          refine v_iconst (v := 1) dX11_stood_62 (by decide) ?_
          refine v_istore (i := 5) dX11_stood_63 (by decide) (nlT rfl) ?_
          simp only [List.set_cons_zero, List.set_cons_succ]
          refine V.weak (la2 := [some (.ref 0), some (.int x1), some (.int x2), some (.int x3), some (.int 0), some (.int 1)]) (by simp [wk]) ?_
          exact (s_X11_stood_IH_65) _ _ _ _ _ _ _ _ hF hG
        · rw [if_pos c18] at hF
          refine v_iconst (v := 1) dX11_stood_55 (by decide) ?_
          refine v_goto 60 dX11_stood_56 (by decide) ?_
          refine v_istore (i := 4) dX11_stood_60 (by decide) (nlT rfl) ?_
          simp only [List.set_cons_zero, List.set_cons_succ]
          refine v_iconst (v := 1) dX11_stood_62 (by decide) ?_
          refine v_istore (i := 5) dX11_stood_63 (by decide) (nlT rfl) ?_
          simp only [List.set_cons_zero, List.set_cons_succ]
          refine V.weak (la2 := [some (.ref 0), some (.int x1), some (.int x2), some (.int x3), some (.int 1), some (.int 1)]) (by simp [wk]) ?_
          exact (s_X11_stood_IH_65) _ _ _ _ _ _ _ _ hF hG
      · rw [if_pos c14] at hF
        refine v_iconst (v := (-1)) dX11_stood_29 (by decide) ?_
        refine v_ireturn rfl dX11_stood_30 ?_
        obtain ⟨rfl, rfl⟩ := Prod.mk.inj (Option.some.inj hF)
        exact ⟨rfl, rfl, hG⟩
def F_X11_tunesIn (n : Nat) (h : Hp) (x1 : Int32) : Option (Int32 × Hp) := ((F_X11_isSpan n h x1).bind (fun q1 => (if (q1.1 : Int32) = 0 then some ((-1), q1.2) else ((F_X8_become n q1.2 34 30).bind (fun q4 => ((F_X0_soak n q4 23 34 x1 (hi q4 23 4)).bind (fun q6 => some ((hi q6 34 3), q6))))))))
set_option maxRecDepth 100000 in
set_option maxHeartbeats 4000000 in
theorem s_X11_tunesIn (d : Nat) {n : Nat} {h : Hp} {x1 : Int32} {q0 : (Int32 × Hp)} (hF : F_X11_tunesIn n h x1 = some q0) (hG : G h)  : Kc mX11_tunesIn (d + 5) [.ref 0, .int x1] h (fun r1 h1 => r1 = some (.int q0.1) ∧ h1 = q0.2 ∧ G q0.2) := by
  obtain ⟨r, h'⟩ := q0
  unfold F_X11_tunesIn at hF
  refine Kc.of [some (.ref 0), some (.int x1)] ok_X11_tunesIn rfl (Nat.le_of_ble_eq_true rfl) ?_
  refine v_iload_n (i := 1) dX11_tunesIn_0 rfl rfl ?_
  obtain ⟨q1, q1_e, hF⟩ := Option.bind_eq_some_iff.mp hF
  refine c_X11_226 rfl (Nat.le_of_ble_eq_true rfl) dX11_tunesIn_1 (s_X11_isSpan _ q1_e hG) (fun r1 h1 hq => ?_)
  obtain ⟨rfl, hq, hG⟩ := hq
  replace hq := hq.symm
  subst hq
  show V _ _ _ _ (_ :: _) _ _
  refine v_if_ne 9 dX11_tunesIn_4 (by decide) (fun c3 => ?_) (fun c3 => ?_)
  · rw [if_neg c3] at hF
    refine v_aload_n (i := 0) dX11_tunesIn_9 rfl rfl ?_
    refine g_X11_48 (q := 34) rfl sh_0 (by exact ltG hG (by decide)) (by exact rG hG r0_0_7) dX11_tunesIn_10 ?_
    refine v_aload_n (i := 0) dX11_tunesIn_13 rfl rfl ?_
    refine g_X11_44 (q := 30) rfl sh_0 (by exact ltG hG (by decide)) (by exact rG hG r0_0_6) dX11_tunesIn_14 ?_
    obtain ⟨q4, q4_e, hF⟩ := Option.bind_eq_some_iff.mp hF
    refine c_X11_119 rfl sh_34 (by exact ltG hG (by decide)) (Nat.le_of_ble_eq_true rfl) dX11_tunesIn_17 (s_X8_become _ q4_e hG (by first | assumption | exact sc_30 | exact sc_34 | exact sc_10 | exact fd_24 | exact fd_4 | exact lw_25 | exact lw_5 | exact bd_23 | exact bd_3 | exact ⟨by first | assumption | rfl, by first | decide | omega⟩) (by first | assumption | exact sc_30 | exact sc_34 | exact sc_10 | exact fd_24 | exact fd_4 | exact lw_25 | exact lw_5 | exact bd_23 | exact bd_3 | exact ⟨by first | assumption | rfl, by first | decide | omega⟩)) (fun r1 h1 hq => ?_)
    obtain ⟨rfl, hq, hG⟩ := hq
    replace hq := hq.symm
    subst hq
    simp only [Option.toList, List.nil_append]
    refine v_aload_n (i := 0) dX11_tunesIn_20 rfl rfl ?_
    refine g_X11_32 (q := 23) rfl sh_0 (by exact ltG hG (by decide)) (by exact rG hG r0_0_4) dX11_tunesIn_21 ?_
    refine v_aload_n (i := 0) dX11_tunesIn_24 rfl rfl ?_
    refine g_X11_48 (q := 34) rfl sh_0 (by exact ltG hG (by decide)) (by exact rG hG r0_0_7) dX11_tunesIn_25 ?_
    refine v_iload_n (i := 1) dX11_tunesIn_28 rfl rfl ?_
    refine v_aload_n (i := 0) dX11_tunesIn_29 rfl rfl ?_
    refine g_X11_32 (q := 23) rfl sh_0 (by exact ltG hG (by decide)) (by exact rG hG r0_0_4) dX11_tunesIn_30 ?_
    refine g_X11_288 rfl sh_23 (by exact ltG hG (by decide)) dX11_tunesIn_33 ?_
    obtain ⟨q6, q6_e, hF⟩ := Option.bind_eq_some_iff.mp hF
    refine c_X11_291 rfl sh_23 (by exact ltG hG (by decide)) (Nat.le_of_ble_eq_true rfl) dX11_tunesIn_36 (s_X0_soak _ q6_e hG (by first | assumption | exact sc_30 | exact sc_34 | exact sc_10 | exact fd_24 | exact fd_4 | exact lw_25 | exact lw_5 | exact bd_23 | exact bd_3 | exact ⟨by first | assumption | rfl, by first | decide | omega⟩) (by first | assumption | exact sc_30 | exact sc_34 | exact sc_10 | exact fd_24 | exact fd_4 | exact lw_25 | exact lw_5 | exact bd_23 | exact bd_3 | exact ⟨by first | assumption | rfl, by first | decide | omega⟩)) (fun r1 h1 hq => ?_)
    obtain ⟨rfl, hq, hG⟩ := hq
    replace hq := hq.symm
    subst hq
    simp only [Option.toList, List.nil_append]
    refine v_aload_n (i := 0) dX11_tunesIn_39 rfl rfl ?_
    refine g_X11_48 (q := 34) rfl sh_0 (by exact ltG hG (by decide)) (by exact rG hG r0_0_7) dX11_tunesIn_40 ?_
    refine g_X11_183 rfl sh_34 (by exact ltG hG (by decide)) dX11_tunesIn_43 ?_
    refine v_ireturn rfl dX11_tunesIn_46 ?_
    obtain ⟨rfl, rfl⟩ := Prod.mk.inj (Option.some.inj hF)
    exact ⟨rfl, rfl, hG⟩
  · rw [if_pos c3] at hF
    refine v_iconst (v := (-1)) dX11_tunesIn_7 (by decide) ?_
    refine v_ireturn rfl dX11_tunesIn_8 ?_
    obtain ⟨rfl, rfl⟩ := Prod.mk.inj (Option.some.inj hF)
    exact ⟨rfl, rfl, hG⟩
def W_X11_year : Nat → Nat → Hp → Int32 → Int32 → Int32 → Int32 → Int32 → Option (Int32 × Hp)
  | 0 => fun _ _ _ _ _ _ _ => none
  | n + 1 => fun hd h l1 l2 l3 l4 l5 => (if hd = 37 then (if (l3 : Int32) ≤ (l5 : Int32) then some (l4, h) else ((F_X8_become n h 34 30).bind (fun q2 => ((F_X0_soak n q2 23 34 l2 ((hi q2 23 4) + l5)).bind (fun q4 => ((F_X8_isTuned n q4 34 l1).bind (fun q6 => (if (q6.1 : Int32) = 0 then W_X11_year n 37 q6.2  l1 l2 l3 l4 (l5 + 1) else W_X11_year n 37 q6.2  l1 l2 l3 (l4 + 1) (l5 + 1))))))))) else none)
set_option maxRecDepth 100000 in
set_option maxHeartbeats 4000000 in
theorem sw_X11_year (d : Nat)  (n : Nat) : (∀ (l1 : Int32) (l2 : Int32) (l3 : Int32) (l4 : Int32) (l5 : Int32) (h : Hp), ∀ (r : Int32) (h' : Hp), W_X11_year n 37 h  l1 l2 l3 l4 l5 = some (r, h') → G h → V mX11_year (d + 5) 37 [some (.ref 0), some (.int l1), some (.int l2), some (.int l3), some (.int l4), some (.int l5)] [] h (fun r1 h1 => r1 = some (.int r) ∧ h1 = h' ∧ G h')) := by
  induction n with
  | zero => exact by intros; contradiction
  | succ n ih =>
    have s_X11_year_IH_37 := ih
    intro l1 l2 l3 l4 l5 h r h' hF hG
    unfold W_X11_year at hF
    rw [if_pos rfl] at hF
    refine v_iload (i := 5) dX11_year_37 rfl ?_
    refine v_iload_n (i := 3) dX11_year_39 rfl rfl ?_
    refine v_icmp_ge 96 dX11_year_40 (by decide) (fun c1 => ?_) (fun c1 => ?_)
    · rw [if_pos c1] at hF
      refine v_iload (i := 4) dX11_year_96 rfl ?_
      refine v_ireturn rfl dX11_year_98 ?_
      obtain ⟨rfl, rfl⟩ := Prod.mk.inj (Option.some.inj hF)
      exact ⟨rfl, rfl, hG⟩
    · rw [if_neg c1] at hF
      refine v_aload_n (i := 0) dX11_year_43 rfl rfl ?_
      refine g_X11_48 (q := 34) rfl sh_0 (by exact ltG hG (by decide)) (by exact rG hG r0_0_7) dX11_year_44 ?_
      refine v_aload_n (i := 0) dX11_year_47 rfl rfl ?_
      refine g_X11_44 (q := 30) rfl sh_0 (by exact ltG hG (by decide)) (by exact rG hG r0_0_6) dX11_year_48 ?_
      obtain ⟨q2, q2_e, hF⟩ := Option.bind_eq_some_iff.mp hF
      refine c_X11_119 rfl sh_34 (by exact ltG hG (by decide)) (Nat.le_of_ble_eq_true rfl) dX11_year_51 (s_X8_become _ q2_e hG (by first | assumption | exact sc_30 | exact sc_34 | exact sc_10 | exact fd_24 | exact fd_4 | exact lw_25 | exact lw_5 | exact bd_23 | exact bd_3 | exact ⟨by first | assumption | rfl, by first | decide | omega⟩) (by first | assumption | exact sc_30 | exact sc_34 | exact sc_10 | exact fd_24 | exact fd_4 | exact lw_25 | exact lw_5 | exact bd_23 | exact bd_3 | exact ⟨by first | assumption | rfl, by first | decide | omega⟩)) (fun r1 h1 hq => ?_)
      obtain ⟨rfl, hq, hG⟩ := hq
      replace hq := hq.symm
      subst hq
      simp only [Option.toList, List.nil_append]
      refine v_aload_n (i := 0) dX11_year_54 rfl rfl ?_
      refine g_X11_32 (q := 23) rfl sh_0 (by exact ltG hG (by decide)) (by exact rG hG r0_0_4) dX11_year_55 ?_
      refine v_aload_n (i := 0) dX11_year_58 rfl rfl ?_
      refine g_X11_48 (q := 34) rfl sh_0 (by exact ltG hG (by decide)) (by exact rG hG r0_0_7) dX11_year_59 ?_
      refine v_iload_n (i := 2) dX11_year_62 rfl rfl ?_
      refine v_aload_n (i := 0) dX11_year_63 rfl rfl ?_
      refine g_X11_32 (q := 23) rfl sh_0 (by exact ltG hG (by decide)) (by exact rG hG r0_0_4) dX11_year_64 ?_
      refine g_X11_288 rfl sh_23 (by exact ltG hG (by decide)) dX11_year_67 ?_
      refine v_iload (i := 5) dX11_year_70 rfl ?_
      refine v_iadd dX11_year_72 ?_
      obtain ⟨q4, q4_e, hF⟩ := Option.bind_eq_some_iff.mp hF
      refine c_X11_291 rfl sh_23 (by exact ltG hG (by decide)) (Nat.le_of_ble_eq_true rfl) dX11_year_73 (s_X0_soak _ q4_e hG (by first | assumption | exact sc_30 | exact sc_34 | exact sc_10 | exact fd_24 | exact fd_4 | exact lw_25 | exact lw_5 | exact bd_23 | exact bd_3 | exact ⟨by first | assumption | rfl, by first | decide | omega⟩) (by first | assumption | exact sc_30 | exact sc_34 | exact sc_10 | exact fd_24 | exact fd_4 | exact lw_25 | exact lw_5 | exact bd_23 | exact bd_3 | exact ⟨by first | assumption | rfl, by first | decide | omega⟩)) (fun r1 h1 hq => ?_)
      obtain ⟨rfl, hq, hG⟩ := hq
      replace hq := hq.symm
      subst hq
      simp only [Option.toList, List.nil_append]
      refine v_aload_n (i := 0) dX11_year_76 rfl rfl ?_
      refine g_X11_48 (q := 34) rfl sh_0 (by exact ltG hG (by decide)) (by exact rG hG r0_0_7) dX11_year_77 ?_
      refine v_iload_n (i := 1) dX11_year_80 rfl rfl ?_
      obtain ⟨q6, q6_e, hF⟩ := Option.bind_eq_some_iff.mp hF
      refine c_X11_130 rfl sh_34 (by exact ltG hG (by decide)) (Nat.le_of_ble_eq_true rfl) dX11_year_81 (s_X8_isTuned _ q6_e hG (by first | assumption | exact sc_30 | exact sc_34 | exact sc_10 | exact fd_24 | exact fd_4 | exact lw_25 | exact lw_5 | exact bd_23 | exact bd_3 | exact ⟨by first | assumption | rfl, by first | decide | omega⟩)) (fun r1 h1 hq => ?_)
      obtain ⟨rfl, hq, hG⟩ := hq
      replace hq := hq.symm
      subst hq
      show V _ _ _ _ (_ :: _) _ _
      refine v_if_eq 90 dX11_year_84 (by decide) (fun c8 => ?_) (fun c8 => ?_)
      · rw [if_pos c8] at hF
        refine v_iinc (i := 5) (v := (l5 + 1)) dX11_year_90 rfl rfl (by decide) (nlT rfl) ?_
        simp only [List.set_cons_zero, List.set_cons_succ]
        refine v_goto 37 dX11_year_93 (by decide) ?_
        refine V.weak (la2 := [some (.ref 0), some (.int l1), some (.int l2), some (.int l3), some (.int l4), some (.int (l5 + 1))]) (by simp [wk]) ?_
        exact (s_X11_year_IH_37) _ _ _ _ _ _ _ _ hF hG
      · rw [if_neg c8] at hF
        refine v_iinc (i := 4) (v := (l4 + 1)) dX11_year_87 rfl rfl (by decide) (nlT rfl) ?_
        simp only [List.set_cons_zero, List.set_cons_succ]
        refine v_iinc (i := 5) (v := (l5 + 1)) dX11_year_90 rfl rfl (by decide) (nlT rfl) ?_
        simp only [List.set_cons_zero, List.set_cons_succ]
        refine v_goto 37 dX11_year_93 (by decide) ?_
        refine V.weak (la2 := [some (.ref 0), some (.int l1), some (.int l2), some (.int l3), some (.int (l4 + 1)), some (.int (l5 + 1))]) (by simp [wk]) ?_
        exact (s_X11_year_IH_37) _ _ _ _ _ _ _ _ hF hG
def F_X11_year (n : Nat) (h : Hp) (x1 : Int32) (x2 : Int32) (x3 : Int32) : Option (Int32 × Hp) := ((F_X3_has n h 24 x1).bind (fun q9 => (if (q9.1 : Int32) = 0 then some ((-1), q9.2) else ((F_X11_isSpan n q9.2 x2).bind (fun q12 => (if (q12.1 : Int32) = 0 then some ((-1), q12.2) else (if (x3 : Int32) < (1 : Int32) then some ((-1), q12.2) else (if (x3 : Int32) ≤ (20 : Int32) then W_X11_year n 37 q12.2  x1 x2 x3 0 0 else some ((-1), q12.2)))))))))
set_option maxRecDepth 100000 in
set_option maxHeartbeats 4000000 in
theorem s_X11_year (d : Nat) {n : Nat} {h : Hp} {x1 : Int32} {x2 : Int32} {x3 : Int32} {q0 : (Int32 × Hp)} (hF : F_X11_year n h x1 x2 x3 = some q0) (hG : G h)  : Kc mX11_year (d + 5) [.ref 0, .int x1, .int x2, .int x3] h (fun r1 h1 => r1 = some (.int q0.1) ∧ h1 = q0.2 ∧ G q0.2) := by
  obtain ⟨r, h'⟩ := q0
  have s_X11_year_IH_37 := sw_X11_year d   n
  unfold F_X11_year at hF
  refine Kc.of [some (.ref 0), some (.int x1), some (.int x2), some (.int x3), none, none] ok_X11_year rfl (Nat.le_of_ble_eq_true rfl) ?_
  refine v_aload_n (i := 0) dX11_year_0 rfl rfl ?_
  refine g_X11_40 (q := 24) rfl sh_0 (by exact ltG hG (by decide)) (by exact rG hG r0_0_5) dX11_year_1 ?_
  refine v_iload_n (i := 1) dX11_year_4 rfl rfl ?_
  obtain ⟨q9, q9_e, hF⟩ := Option.bind_eq_some_iff.mp hF
  refine c_X11_124 rfl sh_24 (by exact ltG hG (by decide)) (Nat.le_of_ble_eq_true rfl) dX11_year_5 (s_X3_has _ q9_e hG (by first | assumption | exact sc_30 | exact sc_34 | exact sc_10 | exact fd_24 | exact fd_4 | exact lw_25 | exact lw_5 | exact bd_23 | exact bd_3 | exact ⟨by first | assumption | rfl, by first | decide | omega⟩)) (fun r1 h1 hq => ?_)
  obtain ⟨rfl, hq, hG⟩ := hq
  replace hq := hq.symm
  subst hq
  show V _ _ _ _ (_ :: _) _ _
  refine v_if_eq 29 dX11_year_8 (by decide) (fun c11 => ?_) (fun c11 => ?_)
  · rw [if_pos c11] at hF
    refine v_iconst (v := (-1)) dX11_year_29 (by decide) ?_
    refine v_ireturn rfl dX11_year_30 ?_
    obtain ⟨rfl, rfl⟩ := Prod.mk.inj (Option.some.inj hF)
    exact ⟨rfl, rfl, hG⟩
  · rw [if_neg c11] at hF
    refine v_iload_n (i := 2) dX11_year_11 rfl rfl ?_
    obtain ⟨q12, q12_e, hF⟩ := Option.bind_eq_some_iff.mp hF
    refine c_X11_226 rfl (Nat.le_of_ble_eq_true rfl) dX11_year_12 (s_X11_isSpan _ q12_e hG) (fun r1 h1 hq => ?_)
    obtain ⟨rfl, hq, hG⟩ := hq
    replace hq := hq.symm
    subst hq
    show V _ _ _ _ (_ :: _) _ _
    refine v_if_eq 29 dX11_year_15 (by decide) (fun c14 => ?_) (fun c14 => ?_)
    · rw [if_pos c14] at hF
      refine v_iconst (v := (-1)) dX11_year_29 (by decide) ?_
      refine v_ireturn rfl dX11_year_30 ?_
      obtain ⟨rfl, rfl⟩ := Prod.mk.inj (Option.some.inj hF)
      exact ⟨rfl, rfl, hG⟩
    · rw [if_neg c14] at hF
      refine v_iload_n (i := 3) dX11_year_18 rfl rfl ?_
      refine v_iconst (v := 1) dX11_year_19 (by decide) ?_
      refine v_icmp_lt 29 dX11_year_20 (by decide) (fun c15 => ?_) (fun c15 => ?_)
      · rw [if_pos c15] at hF
        refine v_iconst (v := (-1)) dX11_year_29 (by decide) ?_
        refine v_ireturn rfl dX11_year_30 ?_
        obtain ⟨rfl, rfl⟩ := Prod.mk.inj (Option.some.inj hF)
        exact ⟨rfl, rfl, hG⟩
      · rw [if_neg c15] at hF
        refine v_iload_n (i := 3) dX11_year_23 rfl rfl ?_
        refine v_bipush (v := 20) dX11_year_24 (by decide) ?_
        refine v_icmp_le 31 dX11_year_26 (by decide) (fun c16 => ?_) (fun c16 => ?_)
        · rw [if_pos c16] at hF
          refine v_iconst (v := 0) dX11_year_31 (by decide) ?_
          refine v_istore (i := 4) dX11_year_32 (by decide) (nlT rfl) ?_
          simp only [List.set_cons_zero, List.set_cons_succ]
          refine v_iconst (v := 0) dX11_year_34 (by decide) ?_
          refine v_istore (i := 5) dX11_year_35 (by decide) (nlT rfl) ?_
          simp only [List.set_cons_zero, List.set_cons_succ]
          refine V.weak (la2 := [some (.ref 0), some (.int x1), some (.int x2), some (.int x3), some (.int 0), some (.int 0)]) (by simp [wk]) ?_
          exact (s_X11_year_IH_37) _ _ _ _ _ _ _ _ hF hG
        · rw [if_neg c16] at hF
          refine v_iconst (v := (-1)) dX11_year_29 (by decide) ?_
          refine v_ireturn rfl dX11_year_30 ?_
          obtain ⟨rfl, rfl⟩ := Prod.mk.inj (Option.some.inj hF)
          exact ⟨rfl, rfl, hG⟩
