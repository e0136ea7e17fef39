def hk_30 : Hp := hk_C
theorem k_X11_init_0 (d : Nat) : Kc mX11_init (d + 10) [.ref 0] hk_0 (fun r h' => r = none ∧ h' = hk_30) := by
  refine Kc.of [some (.ref 0), none] ok_X11_init rfl (Nat.le_of_ble_eq_true rfl) ?_
  refine v_aload_n (i := 0) dX11_init_0 rfl rfl ?_
  refine v_objInit ml_X11_1 oi_im oi_code (Nat.le_of_ble_eq_true rfl) dX11_init_1 ?_
  refine v_aload_n (i := 0) dX11_init_4 rfl rfl ?_
  refine v_sipush (v := 2000) dX11_init_5 (by decide) ?_
  refine v_newarr (q := 1) (ty := .byte) (N := 2000) (by decide +kernel) rfl 1 (fun _ => rfl) sh_1 ac_byte ⟨nofun, nofun⟩ (fun _ => nofun) (fun _ => nofun) (by decide) (by decide) (by decide) dX11_init_8 ?_
  refine p_X11_9 rfl sh_0 (by decide +kernel) rfl dX11_init_10 ?_
  refine v_aload_n (i := 0) dX11_init_13 rfl rfl ?_
  refine v_iconst (v := 0) dX11_init_14 (by decide) ?_
  refine p_X11_13 rfl sh_0 (by decide +kernel) dX11_init_15 ?_
  refine v_aload_n (i := 0) dX11_init_18 rfl rfl ?_
  refine v_iconst (v := (-1)) dX11_init_19 (by decide) ?_
  refine p_X11_17 rfl sh_0 (by decide +kernel) dX11_init_20 ?_
  refine v_aload_n (i := 0) dX11_init_23 rfl rfl ?_
  refine n_X11_20 rfl (by decide +kernel) dX11_init_24 ?_
  refine v_atn (q := 2) (by decide +kernel) ?_
  refine v_dup dX11_init_27 rfl ?_
  refine v_aload_n (i := 0) dX11_init_28 rfl rfl ?_
  refine g_X11_9 (q := 1) rfl sh_0 (by decide +kernel) (by decide +kernel) dX11_init_29 ?_
  refine c_X11_22 rfl (Nat.le_of_ble_eq_true rfl) dX11_init_32 (k_X7_init_2 _) (fun r1 h1 hq => ?_)
  obtain ⟨rfl, rfl⟩ := hq
  simp only [Option.toList, List.nil_append]
  refine p_X11_25 rfl sh_0 (by decide +kernel) rfl dX11_init_35 ?_
  refine v_aload_n (i := 0) dX11_init_38 rfl rfl ?_
  refine n_X11_29 rfl (by decide +kernel) dX11_init_39 ?_
  refine v_atn (q := 23) (by decide +kernel) ?_
  refine v_dup dX11_init_42 rfl ?_
  refine c_X11_31 rfl (Nat.le_of_ble_eq_true rfl) dX11_init_43 (k_X0_init_23 _) (fun r1 h1 hq => ?_)
  obtain ⟨rfl, rfl⟩ := hq
  simp only [Option.toList, List.nil_append]
  refine p_X11_32 rfl sh_0 (by decide +kernel) rfl dX11_init_46 ?_
  refine v_aload_n (i := 0) dX11_init_49 rfl rfl ?_
  refine v_aload_n (i := 0) dX11_init_50 rfl rfl ?_
  refine g_X11_32 (q := 23) rfl sh_0 (by decide +kernel) (by decide +kernel) dX11_init_51 ?_
  refine g_X11_36 (q := 24) rfl sh_23 (by decide +kernel) (by decide +kernel) dX11_init_54 ?_
  refine p_X11_40 rfl sh_0 (by decide +kernel) rfl dX11_init_57 ?_
  refine v_aload_n (i := 0) dX11_init_60 rfl rfl ?_
  refine n_X11_41 rfl (by decide +kernel) dX11_init_61 ?_
  refine v_atn (q := 30) (by decide +kernel) ?_
  refine v_dup dX11_init_64 rfl ?_
  refine c_X11_43 rfl (Nat.le_of_ble_eq_true rfl) dX11_init_65 (k_X8_init _ (a := 30) (by decide +kernel) sc_30) (fun r1 h1 hq => ?_)
  obtain ⟨rfl, rfl⟩ := hq
  simp only [Option.toList, List.nil_append]
  refine p_X11_44 rfl sh_0 (by decide +kernel) rfl dX11_init_68 ?_
  refine v_aload_n (i := 0) dX11_init_71 rfl rfl ?_
  refine n_X11_41 rfl (by decide +kernel) dX11_init_72 ?_
  refine v_atn (q := 34) (by decide +kernel) ?_
  refine v_dup dX11_init_75 rfl ?_
  refine c_X11_43 rfl (Nat.le_of_ble_eq_true rfl) dX11_init_76 (k_X8_init _ (a := 34) (by decide +kernel) sc_34) (fun r1 h1 hq => ?_)
  obtain ⟨rfl, rfl⟩ := hq
  simp only [Option.toList, List.nil_append]
  refine p_X11_48 rfl sh_0 (by decide +kernel) rfl dX11_init_79 ?_
  refine v_aload_n (i := 0) dX11_init_82 rfl rfl ?_
  refine n_X11_51 rfl (by decide +kernel) dX11_init_83 ?_
  refine v_atn (q := 38) (by decide +kernel) ?_
  refine v_dup dX11_init_86 rfl ?_
  refine c_X11_53 rfl (Nat.le_of_ble_eq_true rfl) dX11_init_87 (k_X6_init_38 _) (fun r1 h1 hq => ?_)
  obtain ⟨rfl, rfl⟩ := hq
  simp only [Option.toList, List.nil_append]
  refine p_X11_54 rfl sh_0 (by decide +kernel) rfl dX11_init_90 ?_
  refine v_aload_n (i := 0) dX11_init_93 rfl rfl ?_
  refine v_iconst (v := 3) dX11_init_94 (by decide) ?_
  refine v_anewarr (q := 200) (N := 3) (by decide +kernel) sh_200 cl_X11_41 (by decide) (by decide) (by decide) dX11_init_95 ?_
  refine p_X11_58 rfl sh_0 (by decide +kernel) rfl dX11_init_98 ?_
  refine v_aload_n (i := 0) dX11_init_101 rfl rfl ?_
  refine v_iconst (v := 0) dX11_init_102 (by decide) ?_
  refine p_X11_62 rfl sh_0 (by decide +kernel) dX11_init_103 ?_
  refine v_aload_n (i := 0) dX11_init_106 rfl rfl ?_
  refine n_X11_65 rfl (by decide +kernel) dX11_init_107 ?_
  refine v_atn (q := 201) (by decide +kernel) ?_
  refine v_dup dX11_init_110 rfl ?_
  refine c_X11_67 rfl (Nat.le_of_ble_eq_true rfl) dX11_init_111 (k_X2_init_201 _) (fun r1 h1 hq => ?_)
  obtain ⟨rfl, rfl⟩ := hq
  simp only [Option.toList, List.nil_append]
  refine p_X11_68 rfl sh_0 (by decide +kernel) rfl dX11_init_114 ?_
  refine v_aload_n (i := 0) dX11_init_117 rfl rfl ?_
  refine n_X11_72 rfl (by decide +kernel) dX11_init_118 ?_
  refine v_atn (q := 204) (by decide +kernel) ?_
  refine v_dup dX11_init_121 rfl ?_
  refine v_aload_n (i := 0) dX11_init_122 rfl rfl ?_
  refine g_X11_40 (q := 24) rfl sh_0 (by decide +kernel) (by decide +kernel) dX11_init_123 ?_
  refine c_X11_74 rfl (Nat.le_of_ble_eq_true rfl) dX11_init_126 (k_X10_init_204 _) (fun r1 h1 hq => ?_)
  obtain ⟨rfl, rfl⟩ := hq
  simp only [Option.toList, List.nil_append]
  refine p_X11_77 rfl sh_0 (by decide +kernel) rfl dX11_init_129 ?_
  refine v_aload_n (i := 0) dX11_init_132 rfl rfl ?_
  refine n_X11_81 rfl (by decide +kernel) dX11_init_133 ?_
  refine v_atn (q := 207) (by decide +kernel) ?_
  refine v_dup dX11_init_136 rfl ?_
  refine v_aload_n (i := 0) dX11_init_137 rfl rfl ?_
  refine g_X11_40 (q := 24) rfl sh_0 (by decide +kernel) (by decide +kernel) dX11_init_138 ?_
  refine c_X11_83 rfl (Nat.le_of_ble_eq_true rfl) dX11_init_141 (k_X1_init_207 _) (fun r1 h1 hq => ?_)
  obtain ⟨rfl, rfl⟩ := hq
  simp only [Option.toList, List.nil_append]
  refine p_X11_84 rfl sh_0 (by decide +kernel) rfl dX11_init_144 ?_
  refine v_aload_n (i := 0) dX11_init_147 rfl rfl ?_
  refine n_X11_88 rfl (by decide +kernel) dX11_init_148 ?_
  refine v_atn (q := 211) (by decide +kernel) ?_
  refine v_dup dX11_init_151 rfl ?_
  refine v_aload_n (i := 0) dX11_init_152 rfl rfl ?_
  refine g_X11_40 (q := 24) rfl sh_0 (by decide +kernel) (by decide +kernel) dX11_init_153 ?_
  refine c_X11_90 rfl (Nat.le_of_ble_eq_true rfl) dX11_init_156 (k_X5_init_211 _) (fun r1 h1 hq => ?_)
  obtain ⟨rfl, rfl⟩ := hq
  simp only [Option.toList, List.nil_append]
  refine p_X11_91 rfl sh_0 (by decide +kernel) rfl dX11_init_159 ?_
  refine v_iconst (v := 0) dX11_init_162 (by decide) ?_
  refine v_istore_n (i := 1) dX11_init_163 rfl (by decide) (nlT rfl) ?_
  simp only [List.set_cons_zero, List.set_cons_succ]
  refine v_iload_n (i := 1) dX11_init_164 rfl rfl ?_
  refine v_iconst (v := 3) dX11_init_165 (by decide) ?_
  refine v_icmp_ge 188 dX11_init_166 (by decide) (fun c => absurd c (by decide)) (fun _ => ?_)
  refine v_aload_n (i := 0) dX11_init_169 rfl rfl ?_
  refine g_X11_58 (q := 200) rfl sh_0 (by decide +kernel) (by decide +kernel) dX11_init_170 ?_
  refine v_iload_n (i := 1) dX11_init_173 rfl rfl ?_
  refine n_X11_41 rfl (by decide +kernel) dX11_init_174 ?_
  refine v_atn (q := 214) (by decide +kernel) ?_
  refine v_dup dX11_init_177 rfl ?_
  refine c_X11_43 rfl (Nat.le_of_ble_eq_true rfl) dX11_init_178 (k_X8_init _ (a := 214) (by decide +kernel) (scSlot (j := 0) (by decide))) (fun r1 h1 hq => ?_)
  obtain ⟨rfl, rfl⟩ := hq
  simp only [Option.toList, List.nil_append]
  refine v_aastore sh_200 (by decide +kernel) sh_214 (by decide +kernel) (ixK 0 (by decide)) dX11_init_181 ?_
  refine v_iinc (i := 1) (v := 1) dX11_init_182 rfl (by decide) (by decide) (nlT rfl) ?_
  simp only [List.set_cons_zero, List.set_cons_succ]
  refine v_goto 164 dX11_init_185 (by decide) ?_
  refine v_iload_n (i := 1) dX11_init_164 rfl rfl ?_
  refine v_iconst (v := 3) dX11_init_165 (by decide) ?_
  refine v_icmp_ge 188 dX11_init_166 (by decide) (fun c => absurd c (by decide)) (fun _ => ?_)
  refine v_aload_n (i := 0) dX11_init_169 rfl rfl ?_
  refine g_X11_58 (q := 200) rfl sh_0 (by decide +kernel) (by decide +kernel) dX11_init_170 ?_
  refine v_iload_n (i := 1) dX11_init_173 rfl rfl ?_
  refine n_X11_41 rfl (by decide +kernel) dX11_init_174 ?_
  refine v_atn (q := 218) (by decide +kernel) ?_
  refine v_dup dX11_init_177 rfl ?_
  refine c_X11_43 rfl (Nat.le_of_ble_eq_true rfl) dX11_init_178 (k_X8_init _ (a := 218) (by decide +kernel) (scSlot (j := 1) (by decide))) (fun r1 h1 hq => ?_)
  obtain ⟨rfl, rfl⟩ := hq
  simp only [Option.toList, List.nil_append]
  refine v_aastore sh_200 (by decide +kernel) sh_218 (by decide +kernel) (ixK 1 (by decide)) dX11_init_181 ?_
  refine v_iinc (i := 1) (v := 2) dX11_init_182 rfl (by decide) (by decide) (nlT rfl) ?_
  simp only [List.set_cons_zero, List.set_cons_succ]
  refine v_goto 164 dX11_init_185 (by decide) ?_
  refine v_iload_n (i := 1) dX11_init_164 rfl rfl ?_
  refine v_iconst (v := 3) dX11_init_165 (by decide) ?_
  refine v_icmp_ge 188 dX11_init_166 (by decide) (fun c => absurd c (by decide)) (fun _ => ?_)
  refine v_aload_n (i := 0) dX11_init_169 rfl rfl ?_
  refine g_X11_58 (q := 200) rfl sh_0 (by decide +kernel) (by decide +kernel) dX11_init_170 ?_
  refine v_iload_n (i := 1) dX11_init_173 rfl rfl ?_
  refine n_X11_41 rfl (by decide +kernel) dX11_init_174 ?_
  refine v_atn (q := 222) (by decide +kernel) ?_
  refine v_dup dX11_init_177 rfl ?_
  refine c_X11_43 rfl (Nat.le_of_ble_eq_true rfl) dX11_init_178 (k_X8_init _ (a := 222) (by decide +kernel) (scSlot (j := 2) (by decide))) (fun r1 h1 hq => ?_)
  obtain ⟨rfl, rfl⟩ := hq
  simp only [Option.toList, List.nil_append]
  refine v_aastore sh_200 (by decide +kernel) sh_222 (by decide +kernel) (ixK 2 (by decide)) dX11_init_181 ?_
  refine v_iinc (i := 1) (v := 3) dX11_init_182 rfl (by decide) (by decide) (nlT rfl) ?_
  simp only [List.set_cons_zero, List.set_cons_succ]
  refine v_goto 164 dX11_init_185 (by decide) ?_
  refine v_iload_n (i := 1) dX11_init_164 rfl rfl ?_
  refine v_iconst (v := 3) dX11_init_165 (by decide) ?_
  refine v_icmp_ge 188 dX11_init_166 (by decide) (fun _ => ?_) (fun c => absurd (by decide) c)
  refine v_aload_n (i := 0) dX11_init_188 rfl rfl ?_
  refine g_X11_32 (q := 23) rfl sh_0 (by decide +kernel) (by decide +kernel) dX11_init_189 ?_
  refine c_X11_95 rfl sh_23 (by decide +kernel) (Nat.le_of_ble_eq_true rfl) dX11_init_192 (k_X0_clear_23 _) (fun r1 h1 hq => ?_)
  obtain ⟨rfl, rfl⟩ := hq
  simp only [Option.toList, List.nil_append]
  refine v_return rfl dX11_init_195 ⟨rfl, rfl⟩
