def hk_9 : Hp := (wrR hk_T 2 3 (some 18))
theorem k_X7_init_2 (d : Nat) : Kc mX7_init (d + 9) [.ref 2, .ref 1] hk_1 (fun r h' => r = none ∧ h' = hk_9) := by
  refine Kc.of [some (.ref 2), some (.ref 1)] ok_X7_init rfl (Nat.le_of_ble_eq_true rfl) ?_
  refine v_aload_n (i := 0) dX7_init_0 rfl rfl ?_
  refine v_objInit ml_X7_3 oi_im oi_code (Nat.le_of_ble_eq_true rfl) dX7_init_1 ?_
  refine v_aload_n (i := 0) dX7_init_4 rfl rfl ?_
  refine n_X7_9 rfl (by decide +kernel) dX7_init_5 ?_
  refine v_atn (q := 3) (by decide +kernel) ?_
  refine v_dup dX7_init_8 rfl ?_
  refine c_X7_11 rfl (Nat.le_of_ble_eq_true rfl) dX7_init_9 (k_X0_init_3 _) (fun r1 h1 hq => ?_)
  obtain ⟨rfl, rfl⟩ := hq
  simp only [Option.toList, List.nil_append]
  refine p_X7_12 rfl sh_2 (by decide +kernel) rfl dX7_init_12 ?_
  refine v_aload_n (i := 0) dX7_init_15 rfl rfl ?_
  refine n_X7_18 rfl (by decide +kernel) dX7_init_16 ?_
  refine v_atn (q := 10) (by decide +kernel) ?_
  refine v_dup dX7_init_19 rfl ?_
  refine c_X7_20 rfl (Nat.le_of_ble_eq_true rfl) dX7_init_20 (k_X8_init _ (a := 10) (by decide +kernel) sc_10) (fun r1 h1 hq => ?_)
  obtain ⟨rfl, rfl⟩ := hq
  simp only [Option.toList, List.nil_append]
  refine p_X7_21 rfl sh_2 (by decide +kernel) rfl dX7_init_23 ?_
  refine v_aload_n (i := 0) dX7_init_26 rfl rfl ?_
  refine v_iconst (v := (-1)) dX7_init_27 (by decide) ?_
  refine p_X7_25 rfl sh_2 (by decide +kernel) dX7_init_28 ?_
  refine v_aload_n (i := 0) dX7_init_31 rfl rfl ?_
  refine v_iconst (v := 0) dX7_init_32 (by decide) ?_
  refine p_X7_29 rfl sh_2 (by decide +kernel) dX7_init_33 ?_
  refine v_aload_n (i := 0) dX7_init_36 rfl rfl ?_
  refine v_iconst (v := 0) dX7_init_37 (by decide) ?_
  refine p_X7_32 rfl sh_2 (by decide +kernel) dX7_init_38 ?_
  refine v_aload_n (i := 0) dX7_init_41 rfl rfl ?_
  refine v_iconst (v := 0) dX7_init_42 (by decide) ?_
  refine p_X7_35 rfl sh_2 (by decide +kernel) dX7_init_43 ?_
  refine v_aload_n (i := 0) dX7_init_46 rfl rfl ?_
  refine v_iconst (v := (-1)) dX7_init_47 (by decide) ?_
  refine p_X7_38 rfl sh_2 (by decide +kernel) dX7_init_48 ?_
  refine v_aload_n (i := 0) dX7_init_51 rfl rfl ?_
  refine v_iconst (v := 5) dX7_init_52 (by decide) ?_
  refine v_newarr (q := 14) (ty := .long) (N := 5) (by decide +kernel) rfl 4 (fun _ => rfl) sh_14 ac_long ⟨nofun, nofun⟩ (fun _ => nofun) (fun _ => nofun) (by decide) (by decide) (by decide) dX7_init_53 ?_
  refine p_X7_41 rfl sh_2 (by decide +kernel) rfl dX7_init_55 ?_
  refine v_aload_n (i := 0) dX7_init_58 rfl rfl ?_
  refine v_iconst (v := 5) dX7_init_59 (by decide) ?_
  refine v_newarr (q := 15) (ty := .int) (N := 5) (by decide +kernel) rfl 0 (fun _ => rfl) sh_15 ac_int ⟨nofun, nofun⟩ (fun _ => nofun) (fun _ => nofun) (by decide) (by decide) (by decide) dX7_init_60 ?_
  refine p_X7_45 rfl sh_2 (by decide +kernel) rfl dX7_init_62 ?_
  refine v_aload_n (i := 0) dX7_init_65 rfl rfl ?_
  refine v_bipush (v := 25) dX7_init_66 (by decide) ?_
  refine v_newarr (q := 16) (ty := .int) (N := 25) (by decide +kernel) rfl 0 (fun _ => rfl) sh_16 ac_int ⟨nofun, nofun⟩ (fun _ => nofun) (fun _ => nofun) (by decide) (by decide) (by decide) dX7_init_68 ?_
  refine p_X7_49 rfl sh_2 (by decide +kernel) rfl dX7_init_70 ?_
  refine v_aload_n (i := 0) dX7_init_73 rfl rfl ?_
  refine v_bipush (v := 25) dX7_init_74 (by decide) ?_
  refine v_newarr (q := 17) (ty := .int) (N := 25) (by decide +kernel) rfl 0 (fun _ => rfl) sh_17 ac_int ⟨nofun, nofun⟩ (fun _ => nofun) (fun _ => nofun) (by decide) (by decide) (by decide) dX7_init_76 ?_
  refine p_X7_52 rfl sh_2 (by decide +kernel) rfl dX7_init_78 ?_
  refine v_aload_n (i := 0) dX7_init_81 rfl rfl ?_
  refine v_iconst (v := 0) dX7_init_82 (by decide) ?_
  refine p_X7_55 rfl sh_2 (by decide +kernel) dX7_init_83 ?_
  refine v_aload_n (i := 0) dX7_init_86 rfl rfl ?_
  refine v_iconst (v := 0) dX7_init_87 (by decide) ?_
  refine p_X7_58 rfl sh_2 (by decide +kernel) dX7_init_88 ?_
  refine v_aload_n (i := 0) dX7_init_91 rfl rfl ?_
  refine v_iconst (v := 0) dX7_init_92 (by decide) ?_
  refine p_X7_61 rfl sh_2 (by decide +kernel) dX7_init_93 ?_
  refine v_aload_n (i := 0) dX7_init_96 rfl rfl ?_
  refine n_X7_64 rfl (by decide +kernel) dX7_init_97 ?_
  refine v_atn (q := 18) (by decide +kernel) ?_
  refine v_dup dX7_init_100 rfl ?_
  refine v_aload_n (i := 1) dX7_init_101 rfl rfl ?_
  refine c_X7_66 rfl (Nat.le_of_ble_eq_true rfl) dX7_init_102 (k_X9_init_18 _) (fun r1 h1 hq => ?_)
  obtain ⟨rfl, rfl⟩ := hq
  simp only [Option.toList, List.nil_append]
  refine p_X7_69 rfl sh_2 (by decide +kernel) rfl dX7_init_105 ?_
  refine v_return rfl dX7_init_108 ⟨rfl, rfl⟩
def hk_10 : Hp := (mkH (wrR hk_9 0 3 (some 2)))
def hk_11 : Hp := (mkH hk_10)
def hk_12 : Hp := (wrI (wrI (wrI (wrI hk_11 24 0 0) 24 1 0) 24 2 0) 24 3 0)
theorem k_X3_init_24 (d : Nat) : Kc mX3_init (d + 1) [.ref 24] hk_11 (fun r h' => r = none ∧ h' = hk_12) := by
  refine Kc.of [some (.ref 24)] ok_X3_init rfl (Nat.le_of_ble_eq_true rfl) ?_
  refine v_aload_n (i := 0) dX3_init_0 rfl rfl ?_
  refine v_objInit ml_X3_3 oi_im oi_code (Nat.le_of_ble_eq_true rfl) dX3_init_1 ?_
  refine v_aload_n (i := 0) dX3_init_4 rfl rfl ?_
  refine v_iconst (v := 0) dX3_init_5 (by decide) ?_
  refine p_X3_9 rfl sh_24 (by decide +kernel) dX3_init_6 ?_
  refine v_aload_n (i := 0) dX3_init_9 rfl rfl ?_
  refine v_iconst (v := 0) dX3_init_10 (by decide) ?_
  refine p_X3_15 rfl sh_24 (by decide +kernel) dX3_init_11 ?_
  refine v_aload_n (i := 0) dX3_init_14 rfl rfl ?_
  refine v_iconst (v := 0) dX3_init_15 (by decide) ?_
  refine p_X3_18 rfl sh_24 (by decide +kernel) dX3_init_16 ?_
  refine v_aload_n (i := 0) dX3_init_19 rfl rfl ?_
  refine v_iconst (v := 0) dX3_init_20 (by decide) ?_
  refine p_X3_21 rfl sh_24 (by decide +kernel) dX3_init_21 ?_
  refine v_return rfl dX3_init_24 ⟨rfl, rfl⟩
def hk_13 : Hp := (mkH (wrR hk_12 23 0 (some 24)))
def hk_14 : Hp := (wrI (wrR (mkH (wrR (mkH (wrR (mkH hk_13) 25 0 (some 26))) 25 1 (some 27))) 25 2 (some 28)) 25 3 0)
theorem k_X4_init_25 (d : Nat) : Kc mX4_init (d + 1) [.ref 25] hk_13 (fun r h' => r = none ∧ h' = hk_14) := by
  refine Kc.of [some (.ref 25)] ok_X4_init rfl (Nat.le_of_ble_eq_true rfl) ?_
  refine v_aload_n (i := 0) dX4_init_0 rfl rfl ?_
  refine v_objInit ml_X4_3 oi_im oi_code (Nat.le_of_ble_eq_true rfl) dX4_init_1 ?_
  refine v_aload_n (i := 0) dX4_init_4 rfl rfl ?_
  refine v_sipush (v := 404) dX4_init_5 (by decide) ?_
  refine v_newarr (q := 26) (ty := .int) (N := 404) (by decide +kernel) rfl 0 (fun _ => rfl) sh_26 ac_int ⟨nofun, nofun⟩ (fun _ => nofun) (fun _ => nofun) (by decide) (by decide) (by decide) dX4_init_8 ?_
  refine p_X4_11 rfl sh_25 (by decide +kernel) rfl dX4_init_10 ?_
  refine v_aload_n (i := 0) dX4_init_13 rfl rfl ?_
  refine v_iconst (v := 4) dX4_init_14 (by decide) ?_
  refine v_newarr (q := 27) (ty := .int) (N := 4) (by decide +kernel) rfl 0 (fun _ => rfl) sh_27 ac_int ⟨nofun, nofun⟩ (fun _ => nofun) (fun _ => nofun) (by decide) (by decide) (by decide) dX4_init_15 ?_
  refine p_X4_15 rfl sh_25 (by decide +kernel) rfl dX4_init_17 ?_
  refine v_aload_n (i := 0) dX4_init_20 rfl rfl ?_
  refine v_bipush (v := 16) dX4_init_21 (by decide) ?_
  refine v_newarr (q := 28) (ty := .int) (N := 16) (by decide +kernel) rfl 0 (fun _ => rfl) sh_28 ac_int ⟨nofun, nofun⟩ (fun _ => nofun) (fun _ => nofun) (by decide) (by decide) (by decide) dX4_init_23 ?_
  refine p_X4_18 rfl sh_25 (by decide +kernel) rfl dX4_init_25 ?_
  refine v_aload_n (i := 0) dX4_init_28 rfl rfl ?_
  refine v_iconst (v := 0) dX4_init_29 (by decide) ?_
  refine p_X4_21 rfl sh_25 (by decide +kernel) dX4_init_30 ?_
  refine v_return rfl dX4_init_33 ⟨rfl, rfl⟩
def hk_15 : Hp := (wrR (mkH (wrI (wrI (wrI (wrR hk_14 23 1 (some 25)) 23 2 0) 23 3 0) 23 4 0)) 23 5 (some 29))
theorem k_X0_init_23 (d : Nat) : Kc mX0_init (d + 2) [.ref 23] hk_10 (fun r h' => r = none ∧ h' = hk_15) := by
  refine Kc.of [some (.ref 23)] ok_X0_init rfl (Nat.le_of_ble_eq_true rfl) ?_
  refine v_aload_n (i := 0) dX0_init_0 rfl rfl ?_
  refine v_objInit ml_X0_3 oi_im oi_code (Nat.le_of_ble_eq_true rfl) dX0_init_1 ?_
  refine v_aload_n (i := 0) dX0_init_4 rfl rfl ?_
  refine n_X0_9 rfl (by decide +kernel) dX0_init_5 ?_
  refine v_atn (q := 24) (by decide +kernel) ?_
  refine v_dup dX0_init_8 rfl ?_
  refine c_X0_11 rfl (Nat.le_of_ble_eq_true rfl) dX0_init_9 (k_X3_init_24 _) (fun r1 h1 hq => ?_)
  obtain ⟨rfl, rfl⟩ := hq
  simp only [Option.toList, List.nil_append]
  refine p_X0_12 rfl sh_23 (by decide +kernel) rfl dX0_init_12 ?_
  refine v_aload_n (i := 0) dX0_init_15 rfl rfl ?_
  refine n_X0_18 rfl (by decide +kernel) dX0_init_16 ?_
  refine v_atn (q := 25) (by decide +kernel) ?_
  refine v_dup dX0_init_19 rfl ?_
  refine c_X0_20 rfl (Nat.le_of_ble_eq_true rfl) dX0_init_20 (k_X4_init_25 _) (fun r1 h1 hq => ?_)
  obtain ⟨rfl, rfl⟩ := hq
  simp only [Option.toList, List.nil_append]
  refine p_X0_21 rfl sh_23 (by decide +kernel) rfl dX0_init_23 ?_
  refine v_aload_n (i := 0) dX0_init_26 rfl rfl ?_
  refine v_iconst (v := 0) dX0_init_27 (by decide) ?_
  refine p_X0_25 rfl sh_23 (by decide +kernel) dX0_init_28 ?_
  refine v_aload_n (i := 0) dX0_init_31 rfl rfl ?_
  refine v_iconst (v := 0) dX0_init_32 (by decide) ?_
  refine p_X0_29 rfl sh_23 (by decide +kernel) dX0_init_33 ?_
  refine v_aload_n (i := 0) dX0_init_36 rfl rfl ?_
  refine v_iconst (v := 0) dX0_init_37 (by decide) ?_
  refine p_X0_32 rfl sh_23 (by decide +kernel) dX0_init_38 ?_
  refine v_aload_n (i := 0) dX0_init_41 rfl rfl ?_
  refine v_bipush (v := 9) dX0_init_42 (by decide) ?_
  refine v_newarr (q := 29) (ty := .int) (N := 9) (by decide +kernel) rfl 0 (fun _ => rfl) sh_29 ac_int ⟨nofun, nofun⟩ (fun _ => nofun) (fun _ => nofun) (by decide) (by decide) (by decide) dX0_init_44 ?_
  refine p_X0_35 rfl sh_23 (by decide +kernel) rfl dX0_init_46 ?_
  refine v_return rfl dX0_init_49 ⟨rfl, rfl⟩
def hk_16 : Hp := (mkH (wrR (K8 (mkH (wrR (K8 (mkH (wrR (wrR hk_15 0 4 (some 23)) 0 5 (some 24))) 30) 0 6 (some 30))) 34) 0 7 (some 34)))
def hk_17 : Hp := (K8 (mkH (wrR (K8 (mkH (wrR (K8 (mkH (wrR (K8 (mkH (wrR (K8 (mkH (wrR (K8 (mkH (wrR (K8 (mkH (wrR (K8 (mkH (wrR (K8 (mkH (wrR (K8 (mkH (wrR (K8 (mkH (wrI (wrI (wrR (mkH hk_16) 38 0 (some 39)) 38 1 0) 38 2 0)) 40) 39 0 (some 40))) 44) 39 1 (some 44))) 48) 39 2 (some 48))) 52) 39 3 (some 52))) 56) 39 4 (some 56))) 60) 39 5 (some 60))) 64) 39 6 (some 64))) 68) 39 7 (some 68))) 72) 39 8 (some 72))) 76) 39 9 (some 76))) 80)
def hk_18 : Hp := (K8 (mkH (wrR (K8 (mkH (wrR (K8 (mkH (wrR (K8 (mkH (wrR (K8 (mkH (wrR (K8 (mkH (wrR (K8 (mkH (wrR (K8 (mkH (wrR (K8 (mkH (wrR (K8 (mkH (wrR (K8 (mkH (wrR hk_17 39 10 (some 80))) 84) 39 11 (some 84))) 88) 39 12 (some 88))) 92) 39 13 (some 92))) 96) 39 14 (some 96))) 100) 39 15 (some 100))) 104) 39 16 (some 104))) 108) 39 17 (some 108))) 112) 39 18 (some 112))) 116) 39 19 (some 116))) 120) 39 20 (some 120))) 124)
def hk_19 : Hp := (K8 (mkH (wrR (K8 (mkH (wrR (K8 (mkH (wrR (K8 (mkH (wrR (K8 (mkH (wrR (K8 (mkH (wrR (K8 (mkH (wrR (K8 (mkH (wrR (K8 (mkH (wrR (K8 (mkH (wrR (K8 (mkH (wrR hk_18 39 21 (some 124))) 128) 39 22 (some 128))) 132) 39 23 (some 132))) 136) 39 24 (some 136))) 140) 39 25 (some 140))) 144) 39 26 (some 144))) 148) 39 27 (some 148))) 152) 39 28 (some 152))) 156) 39 29 (some 156))) 160) 39 30 (some 160))) 164) 39 31 (some 164))) 168)
def hk_20 : Hp := (wrR (K8 (mkH (wrR (K8 (mkH (wrR (K8 (mkH (wrR (K8 (mkH (wrR (K8 (mkH (wrR (K8 (mkH (wrR (K8 (mkH (wrR hk_19 39 32 (some 168))) 172) 39 33 (some 172))) 176) 39 34 (some 176))) 180) 39 35 (some 180))) 184) 39 36 (some 184))) 188) 39 37 (some 188))) 192) 39 38 (some 192))) 196) 39 39 (some 196))
theorem k_X6_init_38 (d : Nat) : Kc mX6_init (d + 2) [.ref 38] hk_16 (fun r h' => r = none ∧ h' = hk_20) := by
  refine Kc.of [some (.ref 38), none] ok_X6_init rfl (Nat.le_of_ble_eq_true rfl) ?_
  refine v_aload_n (i := 0) dX6_init_0 rfl rfl ?_
  refine v_objInit ml_X6_3 oi_im oi_code (Nat.le_of_ble_eq_true rfl) dX6_init_1 ?_
  refine v_aload_n (i := 0) dX6_init_4 rfl rfl ?_
  refine v_bipush (v := 40) dX6_init_5 (by decide) ?_
  refine v_anewarr (q := 39) (N := 40) (by decide +kernel) sh_39 cl_X6_9 (by decide) (by decide) (by decide) dX6_init_7 ?_
  refine p_X6_11 rfl sh_38 (by decide +kernel) rfl dX6_init_10 ?_
  refine v_aload_n (i := 0) dX6_init_13 rfl rfl ?_
  refine v_iconst (v := 0) dX6_init_14 (by decide) ?_
  refine p_X6_17 rfl sh_38 (by decide +kernel) dX6_init_15 ?_
  refine v_aload_n (i := 0) dX6_init_18 rfl rfl ?_
  refine v_iconst (v := 0) dX6_init_19 (by decide) ?_
  refine p_X6_21 rfl sh_38 (by decide +kernel) dX6_init_20 ?_
  refine v_iconst (v := 0) dX6_init_23 (by decide) ?_
  refine v_istore_n (i := 1) dX6_init_24 rfl (by decide) (nlT rfl) ?_
  simp only [List.set_cons_zero, List.set_cons_succ]
  refine v_iload_n (i := 1) dX6_init_25 rfl rfl ?_
  refine v_bipush (v := 40) dX6_init_26 (by decide) ?_
  refine v_icmp_ge 50 dX6_init_28 (by decide) (fun c => absurd c (by decide)) (fun _ => ?_)
  refine v_aload_n (i := 0) dX6_init_31 rfl rfl ?_
  refine g_X6_11 (q := 39) rfl sh_38 (by decide +kernel) (by decide +kernel) dX6_init_32 ?_
  refine v_iload_n (i := 1) dX6_init_35 rfl rfl ?_
  refine n_X6_9 rfl (by decide +kernel) dX6_init_36 ?_
  refine v_atn (q := 40) (by decide +kernel) ?_
  refine v_dup dX6_init_39 rfl ?_
  refine c_X6_24 rfl (Nat.le_of_ble_eq_true rfl) dX6_init_40 (k_X8_init _ (a := 40) (by decide +kernel) (scPast (j := 0) (by decide))) (fun r1 h1 hq => ?_)
  obtain ⟨rfl, rfl⟩ := hq
  simp only [Option.toList, List.nil_append]
  refine v_aastore sh_39 (by decide +kernel) sh_40 (by decide +kernel) (ixK 0 (by decide)) dX6_init_43 ?_
  refine v_iinc (i := 1) (v := 1) dX6_init_44 rfl (by decide) (by decide) (nlT rfl) ?_
  simp only [List.set_cons_zero, List.set_cons_succ]
  refine v_goto 25 dX6_init_47 (by decide) ?_
  refine v_iload_n (i := 1) dX6_init_25 rfl rfl ?_
  refine v_bipush (v := 40) dX6_init_26 (by decide) ?_
  refine v_icmp_ge 50 dX6_init_28 (by decide) (fun c => absurd c (by decide)) (fun _ => ?_)
  refine v_aload_n (i := 0) dX6_init_31 rfl rfl ?_
  refine g_X6_11 (q := 39) rfl sh_38 (by decide +kernel) (by decide +kernel) dX6_init_32 ?_
  refine v_iload_n (i := 1) dX6_init_35 rfl rfl ?_
  refine n_X6_9 rfl (by decide +kernel) dX6_init_36 ?_
  refine v_atn (q := 44) (by decide +kernel) ?_
  refine v_dup dX6_init_39 rfl ?_
  refine c_X6_24 rfl (Nat.le_of_ble_eq_true rfl) dX6_init_40 (k_X8_init _ (a := 44) (by decide +kernel) (scPast (j := 1) (by decide))) (fun r1 h1 hq => ?_)
  obtain ⟨rfl, rfl⟩ := hq
  simp only [Option.toList, List.nil_append]
  refine v_aastore sh_39 (by decide +kernel) sh_44 (by decide +kernel) (ixK 1 (by decide)) dX6_init_43 ?_
  refine v_iinc (i := 1) (v := 2) dX6_init_44 rfl (by decide) (by decide) (nlT rfl) ?_
  simp only [List.set_cons_zero, List.set_cons_succ]
  refine v_goto 25 dX6_init_47 (by decide) ?_
  refine v_iload_n (i := 1) dX6_init_25 rfl rfl ?_
  refine v_bipush (v := 40) dX6_init_26 (by decide) ?_
  refine v_icmp_ge 50 dX6_init_28 (by decide) (fun c => absurd c (by decide)) (fun _ => ?_)
  refine v_aload_n (i := 0) dX6_init_31 rfl rfl ?_
  refine g_X6_11 (q := 39) rfl sh_38 (by decide +kernel) (by decide +kernel) dX6_init_32 ?_
  refine v_iload_n (i := 1) dX6_init_35 rfl rfl ?_
  refine n_X6_9 rfl (by decide +kernel) dX6_init_36 ?_
  refine v_atn (q := 48) (by decide +kernel) ?_
  refine v_dup dX6_init_39 rfl ?_
  refine c_X6_24 rfl (Nat.le_of_ble_eq_true rfl) dX6_init_40 (k_X8_init _ (a := 48) (by decide +kernel) (scPast (j := 2) (by decide))) (fun r1 h1 hq => ?_)
  obtain ⟨rfl, rfl⟩ := hq
  simp only [Option.toList, List.nil_append]
  refine v_aastore sh_39 (by decide +kernel) sh_48 (by decide +kernel) (ixK 2 (by decide)) dX6_init_43 ?_
  refine v_iinc (i := 1) (v := 3) dX6_init_44 rfl (by decide) (by decide) (nlT rfl) ?_
  simp only [List.set_cons_zero, List.set_cons_succ]
  refine v_goto 25 dX6_init_47 (by decide) ?_
  refine v_iload_n (i := 1) dX6_init_25 rfl rfl ?_
  refine v_bipush (v := 40) dX6_init_26 (by decide) ?_
  refine v_icmp_ge 50 dX6_init_28 (by decide) (fun c => absurd c (by decide)) (fun _ => ?_)
  refine v_aload_n (i := 0) dX6_init_31 rfl rfl ?_
  refine g_X6_11 (q := 39) rfl sh_38 (by decide +kernel) (by decide +kernel) dX6_init_32 ?_
  refine v_iload_n (i := 1) dX6_init_35 rfl rfl ?_
  refine n_X6_9 rfl (by decide +kernel) dX6_init_36 ?_
  refine v_atn (q := 52) (by decide +kernel) ?_
  refine v_dup dX6_init_39 rfl ?_
  refine c_X6_24 rfl (Nat.le_of_ble_eq_true rfl) dX6_init_40 (k_X8_init _ (a := 52) (by decide +kernel) (scPast (j := 3) (by decide))) (fun r1 h1 hq => ?_)
  obtain ⟨rfl, rfl⟩ := hq
  simp only [Option.toList, List.nil_append]
  refine v_aastore sh_39 (by decide +kernel) sh_52 (by decide +kernel) (ixK 3 (by decide)) dX6_init_43 ?_
  refine v_iinc (i := 1) (v := 4) dX6_init_44 rfl (by decide) (by decide) (nlT rfl) ?_
  simp only [List.set_cons_zero, List.set_cons_succ]
  refine v_goto 25 dX6_init_47 (by decide) ?_
  refine v_iload_n (i := 1) dX6_init_25 rfl rfl ?_
  refine v_bipush (v := 40) dX6_init_26 (by decide) ?_
  refine v_icmp_ge 50 dX6_init_28 (by decide) (fun c => absurd c (by decide)) (fun _ => ?_)
  refine v_aload_n (i := 0) dX6_init_31 rfl rfl ?_
  refine g_X6_11 (q := 39) rfl sh_38 (by decide +kernel) (by decide +kernel) dX6_init_32 ?_
  refine v_iload_n (i := 1) dX6_init_35 rfl rfl ?_
  refine n_X6_9 rfl (by decide +kernel) dX6_init_36 ?_
  refine v_atn (q := 56) (by decide +kernel) ?_
  refine v_dup dX6_init_39 rfl ?_
  refine c_X6_24 rfl (Nat.le_of_ble_eq_true rfl) dX6_init_40 (k_X8_init _ (a := 56) (by decide +kernel) (scPast (j := 4) (by decide))) (fun r1 h1 hq => ?_)
  obtain ⟨rfl, rfl⟩ := hq
  simp only [Option.toList, List.nil_append]
  refine v_aastore sh_39 (by decide +kernel) sh_56 (by decide +kernel) (ixK 4 (by decide)) dX6_init_43 ?_
  refine v_iinc (i := 1) (v := 5) dX6_init_44 rfl (by decide) (by decide) (nlT rfl) ?_
  simp only [List.set_cons_zero, List.set_cons_succ]
  refine v_goto 25 dX6_init_47 (by decide) ?_
  refine v_iload_n (i := 1) dX6_init_25 rfl rfl ?_
  refine v_bipush (v := 40) dX6_init_26 (by decide) ?_
  refine v_icmp_ge 50 dX6_init_28 (by decide) (fun c => absurd c (by decide)) (fun _ => ?_)
  refine v_aload_n (i := 0) dX6_init_31 rfl rfl ?_
  refine g_X6_11 (q := 39) rfl sh_38 (by decide +kernel) (by decide +kernel) dX6_init_32 ?_
  refine v_iload_n (i := 1) dX6_init_35 rfl rfl ?_
  refine n_X6_9 rfl (by decide +kernel) dX6_init_36 ?_
  refine v_atn (q := 60) (by decide +kernel) ?_
  refine v_dup dX6_init_39 rfl ?_
  refine c_X6_24 rfl (Nat.le_of_ble_eq_true rfl) dX6_init_40 (k_X8_init _ (a := 60) (by decide +kernel) (scPast (j := 5) (by decide))) (fun r1 h1 hq => ?_)
  obtain ⟨rfl, rfl⟩ := hq
  simp only [Option.toList, List.nil_append]
  refine v_aastore sh_39 (by decide +kernel) sh_60 (by decide +kernel) (ixK 5 (by decide)) dX6_init_43 ?_
  refine v_iinc (i := 1) (v := 6) dX6_init_44 rfl (by decide) (by decide) (nlT rfl) ?_
  simp only [List.set_cons_zero, List.set_cons_succ]
  refine v_goto 25 dX6_init_47 (by decide) ?_
  refine v_iload_n (i := 1) dX6_init_25 rfl rfl ?_
  refine v_bipush (v := 40) dX6_init_26 (by decide) ?_
  refine v_icmp_ge 50 dX6_init_28 (by decide) (fun c => absurd c (by decide)) (fun _ => ?_)
  refine v_aload_n (i := 0) dX6_init_31 rfl rfl ?_
  refine g_X6_11 (q := 39) rfl sh_38 (by decide +kernel) (by decide +kernel) dX6_init_32 ?_
  refine v_iload_n (i := 1) dX6_init_35 rfl rfl ?_
  refine n_X6_9 rfl (by decide +kernel) dX6_init_36 ?_
  refine v_atn (q := 64) (by decide +kernel) ?_
  refine v_dup dX6_init_39 rfl ?_
  refine c_X6_24 rfl (Nat.le_of_ble_eq_true rfl) dX6_init_40 (k_X8_init _ (a := 64) (by decide +kernel) (scPast (j := 6) (by decide))) (fun r1 h1 hq => ?_)
  obtain ⟨rfl, rfl⟩ := hq
  simp only [Option.toList, List.nil_append]
  refine v_aastore sh_39 (by decide +kernel) sh_64 (by decide +kernel) (ixK 6 (by decide)) dX6_init_43 ?_
  refine v_iinc (i := 1) (v := 7) dX6_init_44 rfl (by decide) (by decide) (nlT rfl) ?_
  simp only [List.set_cons_zero, List.set_cons_succ]
  refine v_goto 25 dX6_init_47 (by decide) ?_
  refine v_iload_n (i := 1) dX6_init_25 rfl rfl ?_
  refine v_bipush (v := 40) dX6_init_26 (by decide) ?_
  refine v_icmp_ge 50 dX6_init_28 (by decide) (fun c => absurd c (by decide)) (fun _ => ?_)
  refine v_aload_n (i := 0) dX6_init_31 rfl rfl ?_
  refine g_X6_11 (q := 39) rfl sh_38 (by decide +kernel) (by decide +kernel) dX6_init_32 ?_
  refine v_iload_n (i := 1) dX6_init_35 rfl rfl ?_
  refine n_X6_9 rfl (by decide +kernel) dX6_init_36 ?_
  refine v_atn (q := 68) (by decide +kernel) ?_
  refine v_dup dX6_init_39 rfl ?_
  refine c_X6_24 rfl (Nat.le_of_ble_eq_true rfl) dX6_init_40 (k_X8_init _ (a := 68) (by decide +kernel) (scPast (j := 7) (by decide))) (fun r1 h1 hq => ?_)
  obtain ⟨rfl, rfl⟩ := hq
  simp only [Option.toList, List.nil_append]
  refine v_aastore sh_39 (by decide +kernel) sh_68 (by decide +kernel) (ixK 7 (by decide)) dX6_init_43 ?_
  refine v_iinc (i := 1) (v := 8) dX6_init_44 rfl (by decide) (by decide) (nlT rfl) ?_
  simp only [List.set_cons_zero, List.set_cons_succ]
  refine v_goto 25 dX6_init_47 (by decide) ?_
  refine v_iload_n (i := 1) dX6_init_25 rfl rfl ?_
  refine v_bipush (v := 40) dX6_init_26 (by decide) ?_
  refine v_icmp_ge 50 dX6_init_28 (by decide) (fun c => absurd c (by decide)) (fun _ => ?_)
  refine v_aload_n (i := 0) dX6_init_31 rfl rfl ?_
  refine g_X6_11 (q := 39) rfl sh_38 (by decide +kernel) (by decide +kernel) dX6_init_32 ?_
  refine v_iload_n (i := 1) dX6_init_35 rfl rfl ?_
  refine n_X6_9 rfl (by decide +kernel) dX6_init_36 ?_
  refine v_atn (q := 72) (by decide +kernel) ?_
  refine v_dup dX6_init_39 rfl ?_
  refine c_X6_24 rfl (Nat.le_of_ble_eq_true rfl) dX6_init_40 (k_X8_init _ (a := 72) (by decide +kernel) (scPast (j := 8) (by decide))) (fun r1 h1 hq => ?_)
  obtain ⟨rfl, rfl⟩ := hq
  simp only [Option.toList, List.nil_append]
  refine v_aastore sh_39 (by decide +kernel) sh_72 (by decide +kernel) (ixK 8 (by decide)) dX6_init_43 ?_
  refine v_iinc (i := 1) (v := 9) dX6_init_44 rfl (by decide) (by decide) (nlT rfl) ?_
  simp only [List.set_cons_zero, List.set_cons_succ]
  refine v_goto 25 dX6_init_47 (by decide) ?_
  refine v_iload_n (i := 1) dX6_init_25 rfl rfl ?_
  refine v_bipush (v := 40) dX6_init_26 (by decide) ?_
  refine v_icmp_ge 50 dX6_init_28 (by decide) (fun c => absurd c (by decide)) (fun _ => ?_)
  refine v_aload_n (i := 0) dX6_init_31 rfl rfl ?_
  refine g_X6_11 (q := 39) rfl sh_38 (by decide +kernel) (by decide +kernel) dX6_init_32 ?_
  refine v_iload_n (i := 1) dX6_init_35 rfl rfl ?_
  refine n_X6_9 rfl (by decide +kernel) dX6_init_36 ?_
  refine v_atn (q := 76) (by decide +kernel) ?_
  refine v_dup dX6_init_39 rfl ?_
  refine c_X6_24 rfl (Nat.le_of_ble_eq_true rfl) dX6_init_40 (k_X8_init _ (a := 76) (by decide +kernel) (scPast (j := 9) (by decide))) (fun r1 h1 hq => ?_)
  obtain ⟨rfl, rfl⟩ := hq
  simp only [Option.toList, List.nil_append]
  refine v_aastore sh_39 (by decide +kernel) sh_76 (by decide +kernel) (ixK 9 (by decide)) dX6_init_43 ?_
  refine v_iinc (i := 1) (v := 10) dX6_init_44 rfl (by decide) (by decide) (nlT rfl) ?_
  simp only [List.set_cons_zero, List.set_cons_succ]
  refine v_goto 25 dX6_init_47 (by decide) ?_
  refine v_iload_n (i := 1) dX6_init_25 rfl rfl ?_
  refine v_bipush (v := 40) dX6_init_26 (by decide) ?_
  refine v_icmp_ge 50 dX6_init_28 (by decide) (fun c => absurd c (by decide)) (fun _ => ?_)
  refine v_aload_n (i := 0) dX6_init_31 rfl rfl ?_
  refine g_X6_11 (q := 39) rfl sh_38 (by decide +kernel) (by decide +kernel) dX6_init_32 ?_
  refine v_iload_n (i := 1) dX6_init_35 rfl rfl ?_
  refine n_X6_9 rfl (by decide +kernel) dX6_init_36 ?_
  refine v_atn (q := 80) (by decide +kernel) ?_
  refine v_dup dX6_init_39 rfl ?_
  refine c_X6_24 rfl (Nat.le_of_ble_eq_true rfl) dX6_init_40 (k_X8_init _ (a := 80) (by decide +kernel) (scPast (j := 10) (by decide))) (fun r1 h1 hq => ?_)
  obtain ⟨rfl, rfl⟩ := hq
  simp only [Option.toList, List.nil_append]
  show V _ _ _ _ _ hk_17 _
  refine v_aastore sh_39 (by decide +kernel) sh_80 (by decide +kernel) (ixK 10 (by decide)) dX6_init_43 ?_
  refine v_iinc (i := 1) (v := 11) dX6_init_44 rfl (by decide) (by decide) (nlT rfl) ?_
  simp only [List.set_cons_zero, List.set_cons_succ]
  refine v_goto 25 dX6_init_47 (by decide) ?_
  refine v_iload_n (i := 1) dX6_init_25 rfl rfl ?_
  refine v_bipush (v := 40) dX6_init_26 (by decide) ?_
  refine v_icmp_ge 50 dX6_init_28 (by decide) (fun c => absurd c (by decide)) (fun _ => ?_)
  refine v_aload_n (i := 0) dX6_init_31 rfl rfl ?_
  refine g_X6_11 (q := 39) rfl sh_38 (by decide +kernel) (by decide +kernel) dX6_init_32 ?_
  refine v_iload_n (i := 1) dX6_init_35 rfl rfl ?_
  refine n_X6_9 rfl (by decide +kernel) dX6_init_36 ?_
  refine v_atn (q := 84) (by decide +kernel) ?_
  refine v_dup dX6_init_39 rfl ?_
  refine c_X6_24 rfl (Nat.le_of_ble_eq_true rfl) dX6_init_40 (k_X8_init _ (a := 84) (by decide +kernel) (scPast (j := 11) (by decide))) (fun r1 h1 hq => ?_)
  obtain ⟨rfl, rfl⟩ := hq
  simp only [Option.toList, List.nil_append]
  refine v_aastore sh_39 (by decide +kernel) sh_84 (by decide +kernel) (ixK 11 (by decide)) dX6_init_43 ?_
  refine v_iinc (i := 1) (v := 12) dX6_init_44 rfl (by decide) (by decide) (nlT rfl) ?_
  simp only [List.set_cons_zero, List.set_cons_succ]
  refine v_goto 25 dX6_init_47 (by decide) ?_
  refine v_iload_n (i := 1) dX6_init_25 rfl rfl ?_
  refine v_bipush (v := 40) dX6_init_26 (by decide) ?_
  refine v_icmp_ge 50 dX6_init_28 (by decide) (fun c => absurd c (by decide)) (fun _ => ?_)
  refine v_aload_n (i := 0) dX6_init_31 rfl rfl ?_
  refine g_X6_11 (q := 39) rfl sh_38 (by decide +kernel) (by decide +kernel) dX6_init_32 ?_
  refine v_iload_n (i := 1) dX6_init_35 rfl rfl ?_
  refine n_X6_9 rfl (by decide +kernel) dX6_init_36 ?_
  refine v_atn (q := 88) (by decide +kernel) ?_
  refine v_dup dX6_init_39 rfl ?_
  refine c_X6_24 rfl (Nat.le_of_ble_eq_true rfl) dX6_init_40 (k_X8_init _ (a := 88) (by decide +kernel) (scPast (j := 12) (by decide))) (fun r1 h1 hq => ?_)
  obtain ⟨rfl, rfl⟩ := hq
  simp only [Option.toList, List.nil_append]
  refine v_aastore sh_39 (by decide +kernel) sh_88 (by decide +kernel) (ixK 12 (by decide)) dX6_init_43 ?_
  refine v_iinc (i := 1) (v := 13) dX6_init_44 rfl (by decide) (by decide) (nlT rfl) ?_
  simp only [List.set_cons_zero, List.set_cons_succ]
  refine v_goto 25 dX6_init_47 (by decide) ?_
  refine v_iload_n (i := 1) dX6_init_25 rfl rfl ?_
  refine v_bipush (v := 40) dX6_init_26 (by decide) ?_
  refine v_icmp_ge 50 dX6_init_28 (by decide) (fun c => absurd c (by decide)) (fun _ => ?_)
  refine v_aload_n (i := 0) dX6_init_31 rfl rfl ?_
  refine g_X6_11 (q := 39) rfl sh_38 (by decide +kernel) (by decide +kernel) dX6_init_32 ?_
  refine v_iload_n (i := 1) dX6_init_35 rfl rfl ?_
  refine n_X6_9 rfl (by decide +kernel) dX6_init_36 ?_
  refine v_atn (q := 92) (by decide +kernel) ?_
  refine v_dup dX6_init_39 rfl ?_
  refine c_X6_24 rfl (Nat.le_of_ble_eq_true rfl) dX6_init_40 (k_X8_init _ (a := 92) (by decide +kernel) (scPast (j := 13) (by decide))) (fun r1 h1 hq => ?_)
  obtain ⟨rfl, rfl⟩ := hq
  simp only [Option.toList, List.nil_append]
  refine v_aastore sh_39 (by decide +kernel) sh_92 (by decide +kernel) (ixK 13 (by decide)) dX6_init_43 ?_
  refine v_iinc (i := 1) (v := 14) dX6_init_44 rfl (by decide) (by decide) (nlT rfl) ?_
  simp only [List.set_cons_zero, List.set_cons_succ]
  refine v_goto 25 dX6_init_47 (by decide) ?_
  refine v_iload_n (i := 1) dX6_init_25 rfl rfl ?_
  refine v_bipush (v := 40) dX6_init_26 (by decide) ?_
  refine v_icmp_ge 50 dX6_init_28 (by decide) (fun c => absurd c (by decide)) (fun _ => ?_)
  refine v_aload_n (i := 0) dX6_init_31 rfl rfl ?_
  refine g_X6_11 (q := 39) rfl sh_38 (by decide +kernel) (by decide +kernel) dX6_init_32 ?_
  refine v_iload_n (i := 1) dX6_init_35 rfl rfl ?_
  refine n_X6_9 rfl (by decide +kernel) dX6_init_36 ?_
  refine v_atn (q := 96) (by decide +kernel) ?_
  refine v_dup dX6_init_39 rfl ?_
  refine c_X6_24 rfl (Nat.le_of_ble_eq_true rfl) dX6_init_40 (k_X8_init _ (a := 96) (by decide +kernel) (scPast (j := 14) (by decide))) (fun r1 h1 hq => ?_)
  obtain ⟨rfl, rfl⟩ := hq
  simp only [Option.toList, List.nil_append]
  refine v_aastore sh_39 (by decide +kernel) sh_96 (by decide +kernel) (ixK 14 (by decide)) dX6_init_43 ?_
  refine v_iinc (i := 1) (v := 15) dX6_init_44 rfl (by decide) (by decide) (nlT rfl) ?_
  simp only [List.set_cons_zero, List.set_cons_succ]
  refine v_goto 25 dX6_init_47 (by decide) ?_
  refine v_iload_n (i := 1) dX6_init_25 rfl rfl ?_
  refine v_bipush (v := 40) dX6_init_26 (by decide) ?_
  refine v_icmp_ge 50 dX6_init_28 (by decide) (fun c => absurd c (by decide)) (fun _ => ?_)
  refine v_aload_n (i := 0) dX6_init_31 rfl rfl ?_
  refine g_X6_11 (q := 39) rfl sh_38 (by decide +kernel) (by decide +kernel) dX6_init_32 ?_
  refine v_iload_n (i := 1) dX6_init_35 rfl rfl ?_
  refine n_X6_9 rfl (by decide +kernel) dX6_init_36 ?_
  refine v_atn (q := 100) (by decide +kernel) ?_
  refine v_dup dX6_init_39 rfl ?_
  refine c_X6_24 rfl (Nat.le_of_ble_eq_true rfl) dX6_init_40 (k_X8_init _ (a := 100) (by decide +kernel) (scPast (j := 15) (by decide))) (fun r1 h1 hq => ?_)
  obtain ⟨rfl, rfl⟩ := hq
  simp only [Option.toList, List.nil_append]
  refine v_aastore sh_39 (by decide +kernel) sh_100 (by decide +kernel) (ixK 15 (by decide)) dX6_init_43 ?_
  refine v_iinc (i := 1) (v := 16) dX6_init_44 rfl (by decide) (by decide) (nlT rfl) ?_
  simp only [List.set_cons_zero, List.set_cons_succ]
  refine v_goto 25 dX6_init_47 (by decide) ?_
  refine v_iload_n (i := 1) dX6_init_25 rfl rfl ?_
  refine v_bipush (v := 40) dX6_init_26 (by decide) ?_
  refine v_icmp_ge 50 dX6_init_28 (by decide) (fun c => absurd c (by decide)) (fun _ => ?_)
  refine v_aload_n (i := 0) dX6_init_31 rfl rfl ?_
  refine g_X6_11 (q := 39) rfl sh_38 (by decide +kernel) (by decide +kernel) dX6_init_32 ?_
  refine v_iload_n (i := 1) dX6_init_35 rfl rfl ?_
  refine n_X6_9 rfl (by decide +kernel) dX6_init_36 ?_
  refine v_atn (q := 104) (by decide +kernel) ?_
  refine v_dup dX6_init_39 rfl ?_
  refine c_X6_24 rfl (Nat.le_of_ble_eq_true rfl) dX6_init_40 (k_X8_init _ (a := 104) (by decide +kernel) (scPast (j := 16) (by decide))) (fun r1 h1 hq => ?_)
  obtain ⟨rfl, rfl⟩ := hq
  simp only [Option.toList, List.nil_append]
  refine v_aastore sh_39 (by decide +kernel) sh_104 (by decide +kernel) (ixK 16 (by decide)) dX6_init_43 ?_
  refine v_iinc (i := 1) (v := 17) dX6_init_44 rfl (by decide) (by decide) (nlT rfl) ?_
  simp only [List.set_cons_zero, List.set_cons_succ]
  refine v_goto 25 dX6_init_47 (by decide) ?_
  refine v_iload_n (i := 1) dX6_init_25 rfl rfl ?_
  refine v_bipush (v := 40) dX6_init_26 (by decide) ?_
  refine v_icmp_ge 50 dX6_init_28 (by decide) (fun c => absurd c (by decide)) (fun _ => ?_)
  refine v_aload_n (i := 0) dX6_init_31 rfl rfl ?_
  refine g_X6_11 (q := 39) rfl sh_38 (by decide +kernel) (by decide +kernel) dX6_init_32 ?_
  refine v_iload_n (i := 1) dX6_init_35 rfl rfl ?_
  refine n_X6_9 rfl (by decide +kernel) dX6_init_36 ?_
  refine v_atn (q := 108) (by decide +kernel) ?_
  refine v_dup dX6_init_39 rfl ?_
  refine c_X6_24 rfl (Nat.le_of_ble_eq_true rfl) dX6_init_40 (k_X8_init _ (a := 108) (by decide +kernel) (scPast (j := 17) (by decide))) (fun r1 h1 hq => ?_)
  obtain ⟨rfl, rfl⟩ := hq
  simp only [Option.toList, List.nil_append]
  refine v_aastore sh_39 (by decide +kernel) sh_108 (by decide +kernel) (ixK 17 (by decide)) dX6_init_43 ?_
  refine v_iinc (i := 1) (v := 18) dX6_init_44 rfl (by decide) (by decide) (nlT rfl) ?_
  simp only [List.set_cons_zero, List.set_cons_succ]
  refine v_goto 25 dX6_init_47 (by decide) ?_
  refine v_iload_n (i := 1) dX6_init_25 rfl rfl ?_
  refine v_bipush (v := 40) dX6_init_26 (by decide) ?_
  refine v_icmp_ge 50 dX6_init_28 (by decide) (fun c => absurd c (by decide)) (fun _ => ?_)
  refine v_aload_n (i := 0) dX6_init_31 rfl rfl ?_
  refine g_X6_11 (q := 39) rfl sh_38 (by decide +kernel) (by decide +kernel) dX6_init_32 ?_
  refine v_iload_n (i := 1) dX6_init_35 rfl rfl ?_
  refine n_X6_9 rfl (by decide +kernel) dX6_init_36 ?_
  refine v_atn (q := 112) (by decide +kernel) ?_
  refine v_dup dX6_init_39 rfl ?_
  refine c_X6_24 rfl (Nat.le_of_ble_eq_true rfl) dX6_init_40 (k_X8_init _ (a := 112) (by decide +kernel) (scPast (j := 18) (by decide))) (fun r1 h1 hq => ?_)
  obtain ⟨rfl, rfl⟩ := hq
  simp only [Option.toList, List.nil_append]
  refine v_aastore sh_39 (by decide +kernel) sh_112 (by decide +kernel) (ixK 18 (by decide)) dX6_init_43 ?_
  refine v_iinc (i := 1) (v := 19) dX6_init_44 rfl (by decide) (by decide) (nlT rfl) ?_
  simp only [List.set_cons_zero, List.set_cons_succ]
  refine v_goto 25 dX6_init_47 (by decide) ?_
  refine v_iload_n (i := 1) dX6_init_25 rfl rfl ?_
  refine v_bipush (v := 40) dX6_init_26 (by decide) ?_
  refine v_icmp_ge 50 dX6_init_28 (by decide) (fun c => absurd c (by decide)) (fun _ => ?_)
  refine v_aload_n (i := 0) dX6_init_31 rfl rfl ?_
  refine g_X6_11 (q := 39) rfl sh_38 (by decide +kernel) (by decide +kernel) dX6_init_32 ?_
  refine v_iload_n (i := 1) dX6_init_35 rfl rfl ?_
  refine n_X6_9 rfl (by decide +kernel) dX6_init_36 ?_
  refine v_atn (q := 116) (by decide +kernel) ?_
  refine v_dup dX6_init_39 rfl ?_
  refine c_X6_24 rfl (Nat.le_of_ble_eq_true rfl) dX6_init_40 (k_X8_init _ (a := 116) (by decide +kernel) (scPast (j := 19) (by decide))) (fun r1 h1 hq => ?_)
  obtain ⟨rfl, rfl⟩ := hq
  simp only [Option.toList, List.nil_append]
  refine v_aastore sh_39 (by decide +kernel) sh_116 (by decide +kernel) (ixK 19 (by decide)) dX6_init_43 ?_
  refine v_iinc (i := 1) (v := 20) dX6_init_44 rfl (by decide) (by decide) (nlT rfl) ?_
  simp only [List.set_cons_zero, List.set_cons_succ]
  refine v_goto 25 dX6_init_47 (by decide) ?_
  refine v_iload_n (i := 1) dX6_init_25 rfl rfl ?_
  refine v_bipush (v := 40) dX6_init_26 (by decide) ?_
  refine v_icmp_ge 50 dX6_init_28 (by decide) (fun c => absurd c (by decide)) (fun _ => ?_)
  refine v_aload_n (i := 0) dX6_init_31 rfl rfl ?_
  refine g_X6_11 (q := 39) rfl sh_38 (by decide +kernel) (by decide +kernel) dX6_init_32 ?_
  refine v_iload_n (i := 1) dX6_init_35 rfl rfl ?_
  refine n_X6_9 rfl (by decide +kernel) dX6_init_36 ?_
  refine v_atn (q := 120) (by decide +kernel) ?_
  refine v_dup dX6_init_39 rfl ?_
  refine c_X6_24 rfl (Nat.le_of_ble_eq_true rfl) dX6_init_40 (k_X8_init _ (a := 120) (by decide +kernel) (scPast (j := 20) (by decide))) (fun r1 h1 hq => ?_)
  obtain ⟨rfl, rfl⟩ := hq
  simp only [Option.toList, List.nil_append]
  refine v_aastore sh_39 (by decide +kernel) sh_120 (by decide +kernel) (ixK 20 (by decide)) dX6_init_43 ?_
  refine v_iinc (i := 1) (v := 21) dX6_init_44 rfl (by decide) (by decide) (nlT rfl) ?_
  simp only [List.set_cons_zero, List.set_cons_succ]
  refine v_goto 25 dX6_init_47 (by decide) ?_
  refine v_iload_n (i := 1) dX6_init_25 rfl rfl ?_
  refine v_bipush (v := 40) dX6_init_26 (by decide) ?_
  refine v_icmp_ge 50 dX6_init_28 (by decide) (fun c => absurd c (by decide)) (fun _ => ?_)
  refine v_aload_n (i := 0) dX6_init_31 rfl rfl ?_
  refine g_X6_11 (q := 39) rfl sh_38 (by decide +kernel) (by decide +kernel) dX6_init_32 ?_
  refine v_iload_n (i := 1) dX6_init_35 rfl rfl ?_
  refine n_X6_9 rfl (by decide +kernel) dX6_init_36 ?_
  refine v_atn (q := 124) (by decide +kernel) ?_
  refine v_dup dX6_init_39 rfl ?_
  refine c_X6_24 rfl (Nat.le_of_ble_eq_true rfl) dX6_init_40 (k_X8_init _ (a := 124) (by decide +kernel) (scPast (j := 21) (by decide))) (fun r1 h1 hq => ?_)
  obtain ⟨rfl, rfl⟩ := hq
  simp only [Option.toList, List.nil_append]
  show V _ _ _ _ _ hk_18 _
  refine v_aastore sh_39 (by decide +kernel) sh_124 (by decide +kernel) (ixK 21 (by decide)) dX6_init_43 ?_
  refine v_iinc (i := 1) (v := 22) dX6_init_44 rfl (by decide) (by decide) (nlT rfl) ?_
  simp only [List.set_cons_zero, List.set_cons_succ]
  refine v_goto 25 dX6_init_47 (by decide) ?_
  refine v_iload_n (i := 1) dX6_init_25 rfl rfl ?_
  refine v_bipush (v := 40) dX6_init_26 (by decide) ?_
  refine v_icmp_ge 50 dX6_init_28 (by decide) (fun c => absurd c (by decide)) (fun _ => ?_)
  refine v_aload_n (i := 0) dX6_init_31 rfl rfl ?_
  refine g_X6_11 (q := 39) rfl sh_38 (by decide +kernel) (by decide +kernel) dX6_init_32 ?_
  refine v_iload_n (i := 1) dX6_init_35 rfl rfl ?_
  refine n_X6_9 rfl (by decide +kernel) dX6_init_36 ?_
  refine v_atn (q := 128) (by decide +kernel) ?_
  refine v_dup dX6_init_39 rfl ?_
  refine c_X6_24 rfl (Nat.le_of_ble_eq_true rfl) dX6_init_40 (k_X8_init _ (a := 128) (by decide +kernel) (scPast (j := 22) (by decide))) (fun r1 h1 hq => ?_)
  obtain ⟨rfl, rfl⟩ := hq
  simp only [Option.toList, List.nil_append]
  refine v_aastore sh_39 (by decide +kernel) sh_128 (by decide +kernel) (ixK 22 (by decide)) dX6_init_43 ?_
  refine v_iinc (i := 1) (v := 23) dX6_init_44 rfl (by decide) (by decide) (nlT rfl) ?_
  simp only [List.set_cons_zero, List.set_cons_succ]
  refine v_goto 25 dX6_init_47 (by decide) ?_
  refine v_iload_n (i := 1) dX6_init_25 rfl rfl ?_
  refine v_bipush (v := 40) dX6_init_26 (by decide) ?_
  refine v_icmp_ge 50 dX6_init_28 (by decide) (fun c => absurd c (by decide)) (fun _ => ?_)
  refine v_aload_n (i := 0) dX6_init_31 rfl rfl ?_
  refine g_X6_11 (q := 39) rfl sh_38 (by decide +kernel) (by decide +kernel) dX6_init_32 ?_
  refine v_iload_n (i := 1) dX6_init_35 rfl rfl ?_
  refine n_X6_9 rfl (by decide +kernel) dX6_init_36 ?_
  refine v_atn (q := 132) (by decide +kernel) ?_
  refine v_dup dX6_init_39 rfl ?_
  refine c_X6_24 rfl (Nat.le_of_ble_eq_true rfl) dX6_init_40 (k_X8_init _ (a := 132) (by decide +kernel) (scPast (j := 23) (by decide))) (fun r1 h1 hq => ?_)
  obtain ⟨rfl, rfl⟩ := hq
  simp only [Option.toList, List.nil_append]
  refine v_aastore sh_39 (by decide +kernel) sh_132 (by decide +kernel) (ixK 23 (by decide)) dX6_init_43 ?_
  refine v_iinc (i := 1) (v := 24) dX6_init_44 rfl (by decide) (by decide) (nlT rfl) ?_
  simp only [List.set_cons_zero, List.set_cons_succ]
  refine v_goto 25 dX6_init_47 (by decide) ?_
  refine v_iload_n (i := 1) dX6_init_25 rfl rfl ?_
  refine v_bipush (v := 40) dX6_init_26 (by decide) ?_
  refine v_icmp_ge 50 dX6_init_28 (by decide) (fun c => absurd c (by decide)) (fun _ => ?_)
  refine v_aload_n (i := 0) dX6_init_31 rfl rfl ?_
  refine g_X6_11 (q := 39) rfl sh_38 (by decide +kernel) (by decide +kernel) dX6_init_32 ?_
  refine v_iload_n (i := 1) dX6_init_35 rfl rfl ?_
  refine n_X6_9 rfl (by decide +kernel) dX6_init_36 ?_
  refine v_atn (q := 136) (by decide +kernel) ?_
  refine v_dup dX6_init_39 rfl ?_
  refine c_X6_24 rfl (Nat.le_of_ble_eq_true rfl) dX6_init_40 (k_X8_init _ (a := 136) (by decide +kernel) (scPast (j := 24) (by decide))) (fun r1 h1 hq => ?_)
  obtain ⟨rfl, rfl⟩ := hq
  simp only [Option.toList, List.nil_append]
  refine v_aastore sh_39 (by decide +kernel) sh_136 (by decide +kernel) (ixK 24 (by decide)) dX6_init_43 ?_
  refine v_iinc (i := 1) (v := 25) dX6_init_44 rfl (by decide) (by decide) (nlT rfl) ?_
  simp only [List.set_cons_zero, List.set_cons_succ]
  refine v_goto 25 dX6_init_47 (by decide) ?_
  refine v_iload_n (i := 1) dX6_init_25 rfl rfl ?_
  refine v_bipush (v := 40) dX6_init_26 (by decide) ?_
  refine v_icmp_ge 50 dX6_init_28 (by decide) (fun c => absurd c (by decide)) (fun _ => ?_)
  refine v_aload_n (i := 0) dX6_init_31 rfl rfl ?_
  refine g_X6_11 (q := 39) rfl sh_38 (by decide +kernel) (by decide +kernel) dX6_init_32 ?_
  refine v_iload_n (i := 1) dX6_init_35 rfl rfl ?_
  refine n_X6_9 rfl (by decide +kernel) dX6_init_36 ?_
  refine v_atn (q := 140) (by decide +kernel) ?_
  refine v_dup dX6_init_39 rfl ?_
  refine c_X6_24 rfl (Nat.le_of_ble_eq_true rfl) dX6_init_40 (k_X8_init _ (a := 140) (by decide +kernel) (scPast (j := 25) (by decide))) (fun r1 h1 hq => ?_)
  obtain ⟨rfl, rfl⟩ := hq
  simp only [Option.toList, List.nil_append]
  refine v_aastore sh_39 (by decide +kernel) sh_140 (by decide +kernel) (ixK 25 (by decide)) dX6_init_43 ?_
  refine v_iinc (i := 1) (v := 26) dX6_init_44 rfl (by decide) (by decide) (nlT rfl) ?_
  simp only [List.set_cons_zero, List.set_cons_succ]
  refine v_goto 25 dX6_init_47 (by decide) ?_
  refine v_iload_n (i := 1) dX6_init_25 rfl rfl ?_
  refine v_bipush (v := 40) dX6_init_26 (by decide) ?_
  refine v_icmp_ge 50 dX6_init_28 (by decide) (fun c => absurd c (by decide)) (fun _ => ?_)
  refine v_aload_n (i := 0) dX6_init_31 rfl rfl ?_
  refine g_X6_11 (q := 39) rfl sh_38 (by decide +kernel) (by decide +kernel) dX6_init_32 ?_
  refine v_iload_n (i := 1) dX6_init_35 rfl rfl ?_
  refine n_X6_9 rfl (by decide +kernel) dX6_init_36 ?_
  refine v_atn (q := 144) (by decide +kernel) ?_
  refine v_dup dX6_init_39 rfl ?_
  refine c_X6_24 rfl (Nat.le_of_ble_eq_true rfl) dX6_init_40 (k_X8_init _ (a := 144) (by decide +kernel) (scPast (j := 26) (by decide))) (fun r1 h1 hq => ?_)
  obtain ⟨rfl, rfl⟩ := hq
  simp only [Option.toList, List.nil_append]
  refine v_aastore sh_39 (by decide +kernel) sh_144 (by decide +kernel) (ixK 26 (by decide)) dX6_init_43 ?_
  refine v_iinc (i := 1) (v := 27) dX6_init_44 rfl (by decide) (by decide) (nlT rfl) ?_
  simp only [List.set_cons_zero, List.set_cons_succ]
  refine v_goto 25 dX6_init_47 (by decide) ?_
  refine v_iload_n (i := 1) dX6_init_25 rfl rfl ?_
  refine v_bipush (v := 40) dX6_init_26 (by decide) ?_
  refine v_icmp_ge 50 dX6_init_28 (by decide) (fun c => absurd c (by decide)) (fun _ => ?_)
  refine v_aload_n (i := 0) dX6_init_31 rfl rfl ?_
  refine g_X6_11 (q := 39) rfl sh_38 (by decide +kernel) (by decide +kernel) dX6_init_32 ?_
  refine v_iload_n (i := 1) dX6_init_35 rfl rfl ?_
  refine n_X6_9 rfl (by decide +kernel) dX6_init_36 ?_
  refine v_atn (q := 148) (by decide +kernel) ?_
  refine v_dup dX6_init_39 rfl ?_
  refine c_X6_24 rfl (Nat.le_of_ble_eq_true rfl) dX6_init_40 (k_X8_init _ (a := 148) (by decide +kernel) (scPast (j := 27) (by decide))) (fun r1 h1 hq => ?_)
  obtain ⟨rfl, rfl⟩ := hq
  simp only [Option.toList, List.nil_append]
  refine v_aastore sh_39 (by decide +kernel) sh_148 (by decide +kernel) (ixK 27 (by decide)) dX6_init_43 ?_
  refine v_iinc (i := 1) (v := 28) dX6_init_44 rfl (by decide) (by decide) (nlT rfl) ?_
  simp only [List.set_cons_zero, List.set_cons_succ]
  refine v_goto 25 dX6_init_47 (by decide) ?_
  refine v_iload_n (i := 1) dX6_init_25 rfl rfl ?_
  refine v_bipush (v := 40) dX6_init_26 (by decide) ?_
  refine v_icmp_ge 50 dX6_init_28 (by decide) (fun c => absurd c (by decide)) (fun _ => ?_)
  refine v_aload_n (i := 0) dX6_init_31 rfl rfl ?_
  refine g_X6_11 (q := 39) rfl sh_38 (by decide +kernel) (by decide +kernel) dX6_init_32 ?_
  refine v_iload_n (i := 1) dX6_init_35 rfl rfl ?_
  refine n_X6_9 rfl (by decide +kernel) dX6_init_36 ?_
  refine v_atn (q := 152) (by decide +kernel) ?_
  refine v_dup dX6_init_39 rfl ?_
  refine c_X6_24 rfl (Nat.le_of_ble_eq_true rfl) dX6_init_40 (k_X8_init _ (a := 152) (by decide +kernel) (scPast (j := 28) (by decide))) (fun r1 h1 hq => ?_)
  obtain ⟨rfl, rfl⟩ := hq
  simp only [Option.toList, List.nil_append]
  refine v_aastore sh_39 (by decide +kernel) sh_152 (by decide +kernel) (ixK 28 (by decide)) dX6_init_43 ?_
  refine v_iinc (i := 1) (v := 29) dX6_init_44 rfl (by decide) (by decide) (nlT rfl) ?_
  simp only [List.set_cons_zero, List.set_cons_succ]
  refine v_goto 25 dX6_init_47 (by decide) ?_
  refine v_iload_n (i := 1) dX6_init_25 rfl rfl ?_
  refine v_bipush (v := 40) dX6_init_26 (by decide) ?_
  refine v_icmp_ge 50 dX6_init_28 (by decide) (fun c => absurd c (by decide)) (fun _ => ?_)
  refine v_aload_n (i := 0) dX6_init_31 rfl rfl ?_
  refine g_X6_11 (q := 39) rfl sh_38 (by decide +kernel) (by decide +kernel) dX6_init_32 ?_
  refine v_iload_n (i := 1) dX6_init_35 rfl rfl ?_
  refine n_X6_9 rfl (by decide +kernel) dX6_init_36 ?_
  refine v_atn (q := 156) (by decide +kernel) ?_
  refine v_dup dX6_init_39 rfl ?_
  refine c_X6_24 rfl (Nat.le_of_ble_eq_true rfl) dX6_init_40 (k_X8_init _ (a := 156) (by decide +kernel) (scPast (j := 29) (by decide))) (fun r1 h1 hq => ?_)
  obtain ⟨rfl, rfl⟩ := hq
  simp only [Option.toList, List.nil_append]
  refine v_aastore sh_39 (by decide +kernel) sh_156 (by decide +kernel) (ixK 29 (by decide)) dX6_init_43 ?_
  refine v_iinc (i := 1) (v := 30) dX6_init_44 rfl (by decide) (by decide) (nlT rfl) ?_
  simp only [List.set_cons_zero, List.set_cons_succ]
  refine v_goto 25 dX6_init_47 (by decide) ?_
  refine v_iload_n (i := 1) dX6_init_25 rfl rfl ?_
  refine v_bipush (v := 40) dX6_init_26 (by decide) ?_
  refine v_icmp_ge 50 dX6_init_28 (by decide) (fun c => absurd c (by decide)) (fun _ => ?_)
  refine v_aload_n (i := 0) dX6_init_31 rfl rfl ?_
  refine g_X6_11 (q := 39) rfl sh_38 (by decide +kernel) (by decide +kernel) dX6_init_32 ?_
  refine v_iload_n (i := 1) dX6_init_35 rfl rfl ?_
  refine n_X6_9 rfl (by decide +kernel) dX6_init_36 ?_
  refine v_atn (q := 160) (by decide +kernel) ?_
  refine v_dup dX6_init_39 rfl ?_
  refine c_X6_24 rfl (Nat.le_of_ble_eq_true rfl) dX6_init_40 (k_X8_init _ (a := 160) (by decide +kernel) (scPast (j := 30) (by decide))) (fun r1 h1 hq => ?_)
  obtain ⟨rfl, rfl⟩ := hq
  simp only [Option.toList, List.nil_append]
  refine v_aastore sh_39 (by decide +kernel) sh_160 (by decide +kernel) (ixK 30 (by decide)) dX6_init_43 ?_
  refine v_iinc (i := 1) (v := 31) dX6_init_44 rfl (by decide) (by decide) (nlT rfl) ?_
  simp only [List.set_cons_zero, List.set_cons_succ]
  refine v_goto 25 dX6_init_47 (by decide) ?_
  refine v_iload_n (i := 1) dX6_init_25 rfl rfl ?_
  refine v_bipush (v := 40) dX6_init_26 (by decide) ?_
  refine v_icmp_ge 50 dX6_init_28 (by decide) (fun c => absurd c (by decide)) (fun _ => ?_)
  refine v_aload_n (i := 0) dX6_init_31 rfl rfl ?_
  refine g_X6_11 (q := 39) rfl sh_38 (by decide +kernel) (by decide +kernel) dX6_init_32 ?_
  refine v_iload_n (i := 1) dX6_init_35 rfl rfl ?_
  refine n_X6_9 rfl (by decide +kernel) dX6_init_36 ?_
  refine v_atn (q := 164) (by decide +kernel) ?_
  refine v_dup dX6_init_39 rfl ?_
  refine c_X6_24 rfl (Nat.le_of_ble_eq_true rfl) dX6_init_40 (k_X8_init _ (a := 164) (by decide +kernel) (scPast (j := 31) (by decide))) (fun r1 h1 hq => ?_)
  obtain ⟨rfl, rfl⟩ := hq
  simp only [Option.toList, List.nil_append]
  refine v_aastore sh_39 (by decide +kernel) sh_164 (by decide +kernel) (ixK 31 (by decide)) dX6_init_43 ?_
  refine v_iinc (i := 1) (v := 32) dX6_init_44 rfl (by decide) (by decide) (nlT rfl) ?_
  simp only [List.set_cons_zero, List.set_cons_succ]
  refine v_goto 25 dX6_init_47 (by decide) ?_
  refine v_iload_n (i := 1) dX6_init_25 rfl rfl ?_
  refine v_bipush (v := 40) dX6_init_26 (by decide) ?_
  refine v_icmp_ge 50 dX6_init_28 (by decide) (fun c => absurd c (by decide)) (fun _ => ?_)
  refine v_aload_n (i := 0) dX6_init_31 rfl rfl ?_
  refine g_X6_11 (q := 39) rfl sh_38 (by decide +kernel) (by decide +kernel) dX6_init_32 ?_
  refine v_iload_n (i := 1) dX6_init_35 rfl rfl ?_
  refine n_X6_9 rfl (by decide +kernel) dX6_init_36 ?_
  refine v_atn (q := 168) (by decide +kernel) ?_
  refine v_dup dX6_init_39 rfl ?_
  refine c_X6_24 rfl (Nat.le_of_ble_eq_true rfl) dX6_init_40 (k_X8_init _ (a := 168) (by decide +kernel) (scPast (j := 32) (by decide))) (fun r1 h1 hq => ?_)
  obtain ⟨rfl, rfl⟩ := hq
  simp only [Option.toList, List.nil_append]
  show V _ _ _ _ _ hk_19 _
  refine v_aastore sh_39 (by decide +kernel) sh_168 (by decide +kernel) (ixK 32 (by decide)) dX6_init_43 ?_
  refine v_iinc (i := 1) (v := 33) dX6_init_44 rfl (by decide) (by decide) (nlT rfl) ?_
  simp only [List.set_cons_zero, List.set_cons_succ]
  refine v_goto 25 dX6_init_47 (by decide) ?_
  refine v_iload_n (i := 1) dX6_init_25 rfl rfl ?_
  refine v_bipush (v := 40) dX6_init_26 (by decide) ?_
  refine v_icmp_ge 50 dX6_init_28 (by decide) (fun c => absurd c (by decide)) (fun _ => ?_)
  refine v_aload_n (i := 0) dX6_init_31 rfl rfl ?_
  refine g_X6_11 (q := 39) rfl sh_38 (by decide +kernel) (by decide +kernel) dX6_init_32 ?_
  refine v_iload_n (i := 1) dX6_init_35 rfl rfl ?_
  refine n_X6_9 rfl (by decide +kernel) dX6_init_36 ?_
  refine v_atn (q := 172) (by decide +kernel) ?_
  refine v_dup dX6_init_39 rfl ?_
  refine c_X6_24 rfl (Nat.le_of_ble_eq_true rfl) dX6_init_40 (k_X8_init _ (a := 172) (by decide +kernel) (scPast (j := 33) (by decide))) (fun r1 h1 hq => ?_)
  obtain ⟨rfl, rfl⟩ := hq
  simp only [Option.toList, List.nil_append]
  refine v_aastore sh_39 (by decide +kernel) sh_172 (by decide +kernel) (ixK 33 (by decide)) dX6_init_43 ?_
  refine v_iinc (i := 1) (v := 34) dX6_init_44 rfl (by decide) (by decide) (nlT rfl) ?_
  simp only [List.set_cons_zero, List.set_cons_succ]
  refine v_goto 25 dX6_init_47 (by decide) ?_
  refine v_iload_n (i := 1) dX6_init_25 rfl rfl ?_
  refine v_bipush (v := 40) dX6_init_26 (by decide) ?_
  refine v_icmp_ge 50 dX6_init_28 (by decide) (fun c => absurd c (by decide)) (fun _ => ?_)
  refine v_aload_n (i := 0) dX6_init_31 rfl rfl ?_
  refine g_X6_11 (q := 39) rfl sh_38 (by decide +kernel) (by decide +kernel) dX6_init_32 ?_
  refine v_iload_n (i := 1) dX6_init_35 rfl rfl ?_
  refine n_X6_9 rfl (by decide +kernel) dX6_init_36 ?_
  refine v_atn (q := 176) (by decide +kernel) ?_
  refine v_dup dX6_init_39 rfl ?_
  refine c_X6_24 rfl (Nat.le_of_ble_eq_true rfl) dX6_init_40 (k_X8_init _ (a := 176) (by decide +kernel) (scPast (j := 34) (by decide))) (fun r1 h1 hq => ?_)
  obtain ⟨rfl, rfl⟩ := hq
  simp only [Option.toList, List.nil_append]
  refine v_aastore sh_39 (by decide +kernel) sh_176 (by decide +kernel) (ixK 34 (by decide)) dX6_init_43 ?_
  refine v_iinc (i := 1) (v := 35) dX6_init_44 rfl (by decide) (by decide) (nlT rfl) ?_
  simp only [List.set_cons_zero, List.set_cons_succ]
  refine v_goto 25 dX6_init_47 (by decide) ?_
  refine v_iload_n (i := 1) dX6_init_25 rfl rfl ?_
  refine v_bipush (v := 40) dX6_init_26 (by decide) ?_
  refine v_icmp_ge 50 dX6_init_28 (by decide) (fun c => absurd c (by decide)) (fun _ => ?_)
  refine v_aload_n (i := 0) dX6_init_31 rfl rfl ?_
  refine g_X6_11 (q := 39) rfl sh_38 (by decide +kernel) (by decide +kernel) dX6_init_32 ?_
  refine v_iload_n (i := 1) dX6_init_35 rfl rfl ?_
  refine n_X6_9 rfl (by decide +kernel) dX6_init_36 ?_
  refine v_atn (q := 180) (by decide +kernel) ?_
  refine v_dup dX6_init_39 rfl ?_
  refine c_X6_24 rfl (Nat.le_of_ble_eq_true rfl) dX6_init_40 (k_X8_init _ (a := 180) (by decide +kernel) (scPast (j := 35) (by decide))) (fun r1 h1 hq => ?_)
  obtain ⟨rfl, rfl⟩ := hq
  simp only [Option.toList, List.nil_append]
  refine v_aastore sh_39 (by decide +kernel) sh_180 (by decide +kernel) (ixK 35 (by decide)) dX6_init_43 ?_
  refine v_iinc (i := 1) (v := 36) dX6_init_44 rfl (by decide) (by decide) (nlT rfl) ?_
  simp only [List.set_cons_zero, List.set_cons_succ]
  refine v_goto 25 dX6_init_47 (by decide) ?_
  refine v_iload_n (i := 1) dX6_init_25 rfl rfl ?_
  refine v_bipush (v := 40) dX6_init_26 (by decide) ?_
  refine v_icmp_ge 50 dX6_init_28 (by decide) (fun c => absurd c (by decide)) (fun _ => ?_)
  refine v_aload_n (i := 0) dX6_init_31 rfl rfl ?_
  refine g_X6_11 (q := 39) rfl sh_38 (by decide +kernel) (by decide +kernel) dX6_init_32 ?_
  refine v_iload_n (i := 1) dX6_init_35 rfl rfl ?_
  refine n_X6_9 rfl (by decide +kernel) dX6_init_36 ?_
  refine v_atn (q := 184) (by decide +kernel) ?_
  refine v_dup dX6_init_39 rfl ?_
  refine c_X6_24 rfl (Nat.le_of_ble_eq_true rfl) dX6_init_40 (k_X8_init _ (a := 184) (by decide +kernel) (scPast (j := 36) (by decide))) (fun r1 h1 hq => ?_)
  obtain ⟨rfl, rfl⟩ := hq
  simp only [Option.toList, List.nil_append]
  refine v_aastore sh_39 (by decide +kernel) sh_184 (by decide +kernel) (ixK 36 (by decide)) dX6_init_43 ?_
  refine v_iinc (i := 1) (v := 37) dX6_init_44 rfl (by decide) (by decide) (nlT rfl) ?_
  simp only [List.set_cons_zero, List.set_cons_succ]
  refine v_goto 25 dX6_init_47 (by decide) ?_
  refine v_iload_n (i := 1) dX6_init_25 rfl rfl ?_
  refine v_bipush (v := 40) dX6_init_26 (by decide) ?_
  refine v_icmp_ge 50 dX6_init_28 (by decide) (fun c => absurd c (by decide)) (fun _ => ?_)
  refine v_aload_n (i := 0) dX6_init_31 rfl rfl ?_
  refine g_X6_11 (q := 39) rfl sh_38 (by decide +kernel) (by decide +kernel) dX6_init_32 ?_
  refine v_iload_n (i := 1) dX6_init_35 rfl rfl ?_
  refine n_X6_9 rfl (by decide +kernel) dX6_init_36 ?_
  refine v_atn (q := 188) (by decide +kernel) ?_
  refine v_dup dX6_init_39 rfl ?_
  refine c_X6_24 rfl (Nat.le_of_ble_eq_true rfl) dX6_init_40 (k_X8_init _ (a := 188) (by decide +kernel) (scPast (j := 37) (by decide))) (fun r1 h1 hq => ?_)
  obtain ⟨rfl, rfl⟩ := hq
  simp only [Option.toList, List.nil_append]
  refine v_aastore sh_39 (by decide +kernel) sh_188 (by decide +kernel) (ixK 37 (by decide)) dX6_init_43 ?_
  refine v_iinc (i := 1) (v := 38) dX6_init_44 rfl (by decide) (by decide) (nlT rfl) ?_
  simp only [List.set_cons_zero, List.set_cons_succ]
  refine v_goto 25 dX6_init_47 (by decide) ?_
  refine v_iload_n (i := 1) dX6_init_25 rfl rfl ?_
  refine v_bipush (v := 40) dX6_init_26 (by decide) ?_
  refine v_icmp_ge 50 dX6_init_28 (by decide) (fun c => absurd c (by decide)) (fun _ => ?_)
  refine v_aload_n (i := 0) dX6_init_31 rfl rfl ?_
  refine g_X6_11 (q := 39) rfl sh_38 (by decide +kernel) (by decide +kernel) dX6_init_32 ?_
  refine v_iload_n (i := 1) dX6_init_35 rfl rfl ?_
  refine n_X6_9 rfl (by decide +kernel) dX6_init_36 ?_
  refine v_atn (q := 192) (by decide +kernel) ?_
  refine v_dup dX6_init_39 rfl ?_
  refine c_X6_24 rfl (Nat.le_of_ble_eq_true rfl) dX6_init_40 (k_X8_init _ (a := 192) (by decide +kernel) (scPast (j := 38) (by decide))) (fun r1 h1 hq => ?_)
  obtain ⟨rfl, rfl⟩ := hq
  simp only [Option.toList, List.nil_append]
  refine v_aastore sh_39 (by decide +kernel) sh_192 (by decide +kernel) (ixK 38 (by decide)) dX6_init_43 ?_
  refine v_iinc (i := 1) (v := 39) dX6_init_44 rfl (by decide) (by decide) (nlT rfl) ?_
  simp only [List.set_cons_zero, List.set_cons_succ]
  refine v_goto 25 dX6_init_47 (by decide) ?_
  refine v_iload_n (i := 1) dX6_init_25 rfl rfl ?_
  refine v_bipush (v := 40) dX6_init_26 (by decide) ?_
  refine v_icmp_ge 50 dX6_init_28 (by decide) (fun c => absurd c (by decide)) (fun _ => ?_)
  refine v_aload_n (i := 0) dX6_init_31 rfl rfl ?_
  refine g_X6_11 (q := 39) rfl sh_38 (by decide +kernel) (by decide +kernel) dX6_init_32 ?_
  refine v_iload_n (i := 1) dX6_init_35 rfl rfl ?_
  refine n_X6_9 rfl (by decide +kernel) dX6_init_36 ?_
  refine v_atn (q := 196) (by decide +kernel) ?_
  refine v_dup dX6_init_39 rfl ?_
  refine c_X6_24 rfl (Nat.le_of_ble_eq_true rfl) dX6_init_40 (k_X8_init _ (a := 196) (by decide +kernel) (scPast (j := 39) (by decide))) (fun r1 h1 hq => ?_)
  obtain ⟨rfl, rfl⟩ := hq
  simp only [Option.toList, List.nil_append]
  refine v_aastore sh_39 (by decide +kernel) sh_196 (by decide +kernel) (ixK 39 (by decide)) dX6_init_43 ?_
  refine v_iinc (i := 1) (v := 40) dX6_init_44 rfl (by decide) (by decide) (nlT rfl) ?_
  simp only [List.set_cons_zero, List.set_cons_succ]
  refine v_goto 25 dX6_init_47 (by decide) ?_
  refine v_iload_n (i := 1) dX6_init_25 rfl rfl ?_
  refine v_bipush (v := 40) dX6_init_26 (by decide) ?_
  refine v_icmp_ge 50 dX6_init_28 (by decide) (fun _ => ?_) (fun c => absurd (by decide) c)
  refine v_return rfl dX6_init_50 ⟨rfl, rfl⟩
def hk_21 : Hp := (mkH (wrI (wrR (mkH (wrR hk_20 0 8 (some 38))) 0 9 (some 200)) 0 10 0))
def hk_22 : Hp := (wrI (wrR (mkH (wrR (mkH hk_21) 201 0 (some 202))) 201 1 (some 203)) 201 2 0)
theorem k_X2_init_201 (d : Nat) : Kc mX2_init (d + 1) [.ref 201] hk_21 (fun r h' => r = none ∧ h' = hk_22) := by
  refine Kc.of [some (.ref 201)] ok_X2_init rfl (Nat.le_of_ble_eq_true rfl) ?_
  refine v_aload_n (i := 0) dX2_init_0 rfl rfl ?_
  refine v_objInit ml_X2_3 oi_im oi_code (Nat.le_of_ble_eq_true rfl) dX2_init_1 ?_
  refine v_aload_n (i := 0) dX2_init_4 rfl rfl ?_
  refine v_bipush (v := 20) dX2_init_5 (by decide) ?_
  refine v_newarr (q := 202) (ty := .byte) (N := 20) (by decide +kernel) rfl 1 (fun _ => rfl) sh_202 ac_byte ⟨nofun, nofun⟩ (fun _ => nofun) (fun _ => nofun) (by decide) (by decide) (by decide) dX2_init_7 ?_
  refine p_X2_9 rfl sh_201 (by decide +kernel) rfl dX2_init_9 ?_
  refine v_aload_n (i := 0) dX2_init_12 rfl rfl ?_
  refine v_bipush (v := 20) dX2_init_13 (by decide) ?_
  refine v_newarr (q := 203) (ty := .boolean) (N := 20) (by decide +kernel) rfl 2 (fun _ => rfl) sh_203 ac_boolean ⟨nofun, nofun⟩ (fun _ => nofun) (fun _ => nofun) (by decide) (by decide) (by decide) dX2_init_15 ?_
  refine p_X2_15 rfl sh_201 (by decide +kernel) rfl dX2_init_17 ?_
  refine v_aload_n (i := 0) dX2_init_20 rfl rfl ?_
  refine v_iconst (v := 0) dX2_init_21 (by decide) ?_
  refine p_X2_19 rfl sh_201 (by decide +kernel) dX2_init_22 ?_
  refine v_return rfl dX2_init_25 ⟨rfl, rfl⟩
def hk_23 : Hp := (mkH (wrR hk_22 0 11 (some 201)))
def hk_24 : Hp := (wrR (wrI (wrI (wrI (wrI (wrR (mkH (wrR (mkH hk_23) 204 1 (some 205))) 204 2 (some 206)) 204 3 0) 204 4 0) 204 5 (-1)) 204 6 (-1)) 204 0 (some 24))
theorem k_X10_init_204 (d : Nat) : Kc mX10_init (d + 1) [.ref 204, .ref 24] hk_23 (fun r h' => r = none ∧ h' = hk_24) := by
  refine Kc.of [some (.ref 204), some (.ref 24)] ok_X10_init rfl (Nat.le_of_ble_eq_true rfl) ?_
  refine v_aload_n (i := 0) dX10_init_0 rfl rfl ?_
  refine v_objInit ml_X10_3 oi_im oi_code (Nat.le_of_ble_eq_true rfl) dX10_init_1 ?_
  refine v_aload_n (i := 0) dX10_init_4 rfl rfl ?_
  refine v_bipush (v := 60) dX10_init_5 (by decide) ?_
  refine v_newarr (q := 205) (ty := .int) (N := 60) (by decide +kernel) rfl 0 (fun _ => rfl) sh_205 ac_int ⟨nofun, nofun⟩ (fun _ => nofun) (fun _ => nofun) (by decide) (by decide) (by decide) dX10_init_7 ?_
  refine p_X10_9 rfl sh_204 (by decide +kernel) rfl dX10_init_9 ?_
  refine v_aload_n (i := 0) dX10_init_12 rfl rfl ?_
  refine v_bipush (v := 101) dX10_init_13 (by decide) ?_
  refine v_newarr (q := 206) (ty := .int) (N := 101) (by decide +kernel) rfl 0 (fun _ => rfl) sh_206 ac_int ⟨nofun, nofun⟩ (fun _ => nofun) (fun _ => nofun) (by decide) (by decide) (by decide) dX10_init_15 ?_
  refine p_X10_15 rfl sh_204 (by decide +kernel) rfl dX10_init_17 ?_
  refine v_aload_n (i := 0) dX10_init_20 rfl rfl ?_
  refine v_iconst (v := 0) dX10_init_21 (by decide) ?_
  refine p_X10_18 rfl sh_204 (by decide +kernel) dX10_init_22 ?_
  refine v_aload_n (i := 0) dX10_init_25 rfl rfl ?_
  refine v_iconst (v := 0) dX10_init_26 (by decide) ?_
  refine p_X10_22 rfl sh_204 (by decide +kernel) dX10_init_27 ?_
  refine v_aload_n (i := 0) dX10_init_30 rfl rfl ?_
  refine v_iconst (v := (-1)) dX10_init_31 (by decide) ?_
  refine p_X10_25 rfl sh_204 (by decide +kernel) dX10_init_32 ?_
  refine v_aload_n (i := 0) dX10_init_35 rfl rfl ?_
  refine v_iconst (v := (-1)) dX10_init_36 (by decide) ?_
  refine p_X10_28 rfl sh_204 (by decide +kernel) dX10_init_37 ?_
  refine v_aload_n (i := 0) dX10_init_40 rfl rfl ?_
  refine v_aload_n (i := 1) dX10_init_41 rfl rfl ?_
  refine p_X10_31 rfl sh_204 (by decide +kernel) rfl dX10_init_42 ?_
  refine v_return rfl dX10_init_45 ⟨rfl, rfl⟩
def hk_25 : Hp := (mkH (wrR hk_24 0 12 (some 204)))
def hk_26 : Hp := (wrR (wrI (wrR (mkH (wrR (mkH (wrR (mkH hk_25) 207 1 (some 208))) 207 2 (some 209))) 207 3 (some 210)) 207 4 0) 207 0 (some 24))
theorem k_X1_init_207 (d : Nat) : Kc mX1_init (d + 1) [.ref 207, .ref 24] hk_25 (fun r h' => r = none ∧ h' = hk_26) := by
  refine Kc.of [some (.ref 207), some (.ref 24)] ok_X1_init rfl (Nat.le_of_ble_eq_true rfl) ?_
  refine v_aload_n (i := 0) dX1_init_0 rfl rfl ?_
  refine v_objInit ml_X1_3 oi_im oi_code (Nat.le_of_ble_eq_true rfl) dX1_init_1 ?_
  refine v_aload_n (i := 0) dX1_init_4 rfl rfl ?_
  refine v_bipush (v := 25) dX1_init_5 (by decide) ?_
  refine v_newarr (q := 208) (ty := .int) (N := 25) (by decide +kernel) rfl 0 (fun _ => rfl) sh_208 ac_int ⟨nofun, nofun⟩ (fun _ => nofun) (fun _ => nofun) (by decide) (by decide) (by decide) dX1_init_7 ?_
  refine p_X1_9 rfl sh_207 (by decide +kernel) rfl dX1_init_9 ?_
  refine v_aload_n (i := 0) dX1_init_12 rfl rfl ?_
  refine v_bipush (v := 50) dX1_init_13 (by decide) ?_
  refine v_newarr (q := 209) (ty := .int) (N := 50) (by decide +kernel) rfl 0 (fun _ => rfl) sh_209 ac_int ⟨nofun, nofun⟩ (fun _ => nofun) (fun _ => nofun) (by decide) (by decide) (by decide) dX1_init_15 ?_
  refine p_X1_15 rfl sh_207 (by decide +kernel) rfl dX1_init_17 ?_
  refine v_aload_n (i := 0) dX1_init_20 rfl rfl ?_
  refine v_bipush (v := 50) dX1_init_21 (by decide) ?_
  refine v_newarr (q := 210) (ty := .int) (N := 50) (by decide +kernel) rfl 0 (fun _ => rfl) sh_210 ac_int ⟨nofun, nofun⟩ (fun _ => nofun) (fun _ => nofun) (by decide) (by decide) (by decide) dX1_init_23 ?_
  refine p_X1_18 rfl sh_207 (by decide +kernel) rfl dX1_init_25 ?_
  refine v_aload_n (i := 0) dX1_init_28 rfl rfl ?_
  refine v_iconst (v := 0) dX1_init_29 (by decide) ?_
  refine p_X1_21 rfl sh_207 (by decide +kernel) dX1_init_30 ?_
  refine v_aload_n (i := 0) dX1_init_33 rfl rfl ?_
  refine v_aload_n (i := 1) dX1_init_34 rfl rfl ?_
  refine p_X1_25 rfl sh_207 (by decide +kernel) rfl dX1_init_35 ?_
  refine v_return rfl dX1_init_38 ⟨rfl, rfl⟩
def hk_27 : Hp := (mkH (wrR hk_26 0 13 (some 207)))
def hk_28 : Hp := (wrR (wrI (wrR (mkH (wrR (mkH hk_27) 211 1 (some 212))) 211 2 (some 213)) 211 3 0) 211 0 (some 24))
theorem k_X5_init_211 (d : Nat) : Kc mX5_init (d + 1) [.ref 211, .ref 24] hk_27 (fun r h' => r = none ∧ h' = hk_28) := by
  refine Kc.of [some (.ref 211), some (.ref 24)] ok_X5_init rfl (Nat.le_of_ble_eq_true rfl) ?_
  refine v_aload_n (i := 0) dX5_init_0 rfl rfl ?_
  refine v_objInit ml_X5_3 oi_im oi_code (Nat.le_of_ble_eq_true rfl) dX5_init_1 ?_
  refine v_aload_n (i := 0) dX5_init_4 rfl rfl ?_
  refine v_iconst (v := 5) dX5_init_5 (by decide) ?_
  refine v_newarr (q := 212) (ty := .int) (N := 5) (by decide +kernel) rfl 0 (fun _ => rfl) sh_212 ac_int ⟨nofun, nofun⟩ (fun _ => nofun) (fun _ => nofun) (by decide) (by decide) (by decide) dX5_init_6 ?_
  refine p_X5_9 rfl sh_211 (by decide +kernel) rfl dX5_init_8 ?_
  refine v_aload_n (i := 0) dX5_init_11 rfl rfl ?_
  refine v_iconst (v := 5) dX5_init_12 (by decide) ?_
  refine v_newarr (q := 213) (ty := .int) (N := 5) (by decide +kernel) rfl 0 (fun _ => rfl) sh_213 ac_int ⟨nofun, nofun⟩ (fun _ => nofun) (fun _ => nofun) (by decide) (by decide) (by decide) dX5_init_13 ?_
  refine p_X5_15 rfl sh_211 (by decide +kernel) rfl dX5_init_15 ?_
  refine v_aload_n (i := 0) dX5_init_18 rfl rfl ?_
  refine v_iconst (v := 0) dX5_init_19 (by decide) ?_
  refine p_X5_18 rfl sh_211 (by decide +kernel) dX5_init_20 ?_
  refine v_aload_n (i := 0) dX5_init_23 rfl rfl ?_
  refine v_aload_n (i := 1) dX5_init_24 rfl rfl ?_
  refine p_X5_22 rfl sh_211 (by decide +kernel) rfl dX5_init_25 ?_
  refine v_return rfl dX5_init_28 ⟨rfl, rfl⟩
def hk_29 : Hp := (wrR (K8 (mkH (wrR (K8 (mkH (wrR (K8 (mkH (wrR hk_28 0 14 (some 211))) 214) 200 0 (some 214))) 218) 200 1 (some 218))) 222) 200 2 (some 222))
