def hk_0 : Hp := mkH hE
def hk_1 : Hp := (mkH (wrI (wrI (wrR (mkH hk_0) 0 0 (some 1)) 0 1 0) 0 2 (-1)))
def hk_2 : Hp := (mkH hk_1)
def hk_3 : Hp := (mkH hk_2)
def hk_4 : Hp := (wrI (wrI (wrI (wrI hk_3 4 0 0) 4 1 0) 4 2 0) 4 3 0)
theorem k_X3_init_4 (d : Nat) : Kc mX3_init (d + 1) [.ref 4] hk_3 (fun r h' => r = none ∧ h' = hk_4) := by
  refine Kc.of [some (.ref 4)] ok_X3_init rfl (Nat.le_of_ble_eq_true rfl) ?_
  refine v_aload_n (i := 0) dX3_init_0 rfl rfl ?_
  refine v_objInit ml_X3_3 oi_im oi_code (Nat.le_of_ble_eq_true rfl) dX3_init_1 ?_
  refine v_aload_n (i := 0) dX3_init_4 rfl rfl ?_
  refine v_iconst (v := 0) dX3_init_5 (by decide) ?_
  refine p_X3_9 rfl sh_4 (by decide +kernel) dX3_init_6 ?_
  refine v_aload_n (i := 0) dX3_init_9 rfl rfl ?_
  refine v_iconst (v := 0) dX3_init_10 (by decide) ?_
  refine p_X3_15 rfl sh_4 (by decide +kernel) dX3_init_11 ?_
  refine v_aload_n (i := 0) dX3_init_14 rfl rfl ?_
  refine v_iconst (v := 0) dX3_init_15 (by decide) ?_
  refine p_X3_18 rfl sh_4 (by decide +kernel) dX3_init_16 ?_
  refine v_aload_n (i := 0) dX3_init_19 rfl rfl ?_
  refine v_iconst (v := 0) dX3_init_20 (by decide) ?_
  refine p_X3_21 rfl sh_4 (by decide +kernel) dX3_init_21 ?_
  refine v_return rfl dX3_init_24 ⟨rfl, rfl⟩
def hk_5 : Hp := (mkH (wrR hk_4 3 0 (some 4)))
def hk_6 : Hp := (wrI (wrR (mkH (wrR (mkH (wrR (mkH hk_5) 5 0 (some 6))) 5 1 (some 7))) 5 2 (some 8)) 5 3 0)
theorem k_X4_init_5 (d : Nat) : Kc mX4_init (d + 1) [.ref 5] hk_5 (fun r h' => r = none ∧ h' = hk_6) := by
  refine Kc.of [some (.ref 5)] ok_X4_init rfl (Nat.le_of_ble_eq_true rfl) ?_
  refine v_aload_n (i := 0) dX4_init_0 rfl rfl ?_
  refine v_objInit ml_X4_3 oi_im oi_code (Nat.le_of_ble_eq_true rfl) dX4_init_1 ?_
  refine v_aload_n (i := 0) dX4_init_4 rfl rfl ?_
  refine v_sipush (v := 404) dX4_init_5 (by decide) ?_
  refine v_newarr (q := 6) (ty := .int) (N := 404) (by decide +kernel) rfl 0 (fun _ => rfl) sh_6 ac_int ⟨nofun, nofun⟩ (fun _ => nofun) (fun _ => nofun) (by decide) (by decide) (by decide) dX4_init_8 ?_
  refine p_X4_11 rfl sh_5 (by decide +kernel) rfl dX4_init_10 ?_
  refine v_aload_n (i := 0) dX4_init_13 rfl rfl ?_
  refine v_iconst (v := 4) dX4_init_14 (by decide) ?_
  refine v_newarr (q := 7) (ty := .int) (N := 4) (by decide +kernel) rfl 0 (fun _ => rfl) sh_7 ac_int ⟨nofun, nofun⟩ (fun _ => nofun) (fun _ => nofun) (by decide) (by decide) (by decide) dX4_init_15 ?_
  refine p_X4_15 rfl sh_5 (by decide +kernel) rfl dX4_init_17 ?_
  refine v_aload_n (i := 0) dX4_init_20 rfl rfl ?_
  refine v_bipush (v := 16) dX4_init_21 (by decide) ?_
  refine v_newarr (q := 8) (ty := .int) (N := 16) (by decide +kernel) rfl 0 (fun _ => rfl) sh_8 ac_int ⟨nofun, nofun⟩ (fun _ => nofun) (fun _ => nofun) (by decide) (by decide) (by decide) dX4_init_23 ?_
  refine p_X4_18 rfl sh_5 (by decide +kernel) rfl dX4_init_25 ?_
  refine v_aload_n (i := 0) dX4_init_28 rfl rfl ?_
  refine v_iconst (v := 0) dX4_init_29 (by decide) ?_
  refine p_X4_21 rfl sh_5 (by decide +kernel) dX4_init_30 ?_
  refine v_return rfl dX4_init_33 ⟨rfl, rfl⟩
def hk_7 : Hp := (wrR (mkH (wrI (wrI (wrI (wrR hk_6 3 1 (some 5)) 3 2 0) 3 3 0) 3 4 0)) 3 5 (some 9))
theorem k_X0_init_3 (d : Nat) : Kc mX0_init (d + 2) [.ref 3] hk_2 (fun r h' => r = none ∧ h' = hk_7) := by
  refine Kc.of [some (.ref 3)] ok_X0_init rfl (Nat.le_of_ble_eq_true rfl) ?_
  refine v_aload_n (i := 0) dX0_init_0 rfl rfl ?_
  refine v_objInit ml_X0_3 oi_im oi_code (Nat.le_of_ble_eq_true rfl) dX0_init_1 ?_
  refine v_aload_n (i := 0) dX0_init_4 rfl rfl ?_
  refine n_X0_9 rfl (by decide +kernel) dX0_init_5 ?_
  refine v_atn (q := 4) (by decide +kernel) ?_
  refine v_dup dX0_init_8 rfl ?_
  refine c_X0_11 rfl (Nat.le_of_ble_eq_true rfl) dX0_init_9 (k_X3_init_4 _) (fun r1 h1 hq => ?_)
  obtain ⟨rfl, rfl⟩ := hq
  simp only [Option.toList, List.nil_append]
  refine p_X0_12 rfl sh_3 (by decide +kernel) rfl dX0_init_12 ?_
  refine v_aload_n (i := 0) dX0_init_15 rfl rfl ?_
  refine n_X0_18 rfl (by decide +kernel) dX0_init_16 ?_
  refine v_atn (q := 5) (by decide +kernel) ?_
  refine v_dup dX0_init_19 rfl ?_
  refine c_X0_20 rfl (Nat.le_of_ble_eq_true rfl) dX0_init_20 (k_X4_init_5 _) (fun r1 h1 hq => ?_)
  obtain ⟨rfl, rfl⟩ := hq
  simp only [Option.toList, List.nil_append]
  refine p_X0_21 rfl sh_3 (by decide +kernel) rfl dX0_init_23 ?_
  refine v_aload_n (i := 0) dX0_init_26 rfl rfl ?_
  refine v_iconst (v := 0) dX0_init_27 (by decide) ?_
  refine p_X0_25 rfl sh_3 (by decide +kernel) dX0_init_28 ?_
  refine v_aload_n (i := 0) dX0_init_31 rfl rfl ?_
  refine v_iconst (v := 0) dX0_init_32 (by decide) ?_
  refine p_X0_29 rfl sh_3 (by decide +kernel) dX0_init_33 ?_
  refine v_aload_n (i := 0) dX0_init_36 rfl rfl ?_
  refine v_iconst (v := 0) dX0_init_37 (by decide) ?_
  refine p_X0_32 rfl sh_3 (by decide +kernel) dX0_init_38 ?_
  refine v_aload_n (i := 0) dX0_init_41 rfl rfl ?_
  refine v_bipush (v := 9) dX0_init_42 (by decide) ?_
  refine v_newarr (q := 9) (ty := .int) (N := 9) (by decide +kernel) rfl 0 (fun _ => rfl) sh_9 ac_int ⟨nofun, nofun⟩ (fun _ => nofun) (fun _ => nofun) (by decide) (by decide) (by decide) dX0_init_44 ?_
  refine p_X0_35 rfl sh_3 (by decide +kernel) rfl dX0_init_46 ?_
  refine v_return rfl dX0_init_49 ⟨rfl, rfl⟩
def hk_8 : Hp := (mkH (wrI (wrI (wrI (wrR (mkH (wrR (mkH (wrR (mkH (wrR (mkH (wrI (wrI (wrI (wrI (wrI (wrR (K8 (mkH (wrR hk_7 2 0 (some 3))) 10) 2 1 (some 10)) 2 2 (-1)) 2 4 0) 2 5 0) 2 6 0) 2 7 (-1))) 2 8 (some 14))) 2 9 (some 15))) 2 10 (some 16))) 2 11 (some 17)) 2 12 0) 2 13 0) 2 14 0))
