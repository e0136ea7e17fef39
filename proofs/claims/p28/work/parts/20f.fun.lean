def W_X12_isBeyond : Nat → Nat → Hp → Int32 → Int32 → Option (Int32 × Hp)
  | 0 => fun _ _ _ _ => none
  | n + 1 => fun hd h l1 l2 => (if hd = 8 then (if ixOK (hi h 226 19) 2 = true then (if (((8 * (hi h 226 19)) + (hi h 237 (Int32.toNatClampNeg (hi h 226 19)))) : Int32) ≤ (l1 : Int32) then W_X12_isBeyond n 64 h  (8 * (hi h 226 19)) 0 else (if ixOK l1 16 = true then (if ixOK l1 16 = true then ((F_X12_isOff n h (hi h 238 (Int32.toNatClampNeg l1)) (hi h 239 (Int32.toNatClampNeg l1))).bind (fun q5 => (if (q5.1 : Int32) = 0 then W_X12_isBeyond n 8 q5.2  (l1 + 1) 0 else some (1, q5.2)))) else none) else none)) else none) else (if hd = 64 then (if ixOK (hi h 226 19) 2 = true then (if (((8 * (hi h 226 19)) + (hi h 245 (Int32.toNatClampNeg (hi h 226 19)))) : Int32) ≤ (l1 : Int32) then W_X12_isBeyond n 119 h  (5 * (hi h 226 19)) 0 else (if ixOK l1 16 = true then (if ixOK l1 16 = true then ((F_X12_isOff n h (hi h 246 (Int32.toNatClampNeg l1)) (hi h 247 (Int32.toNatClampNeg l1))).bind (fun q12 => (if (q12.1 : Int32) = 0 then W_X12_isBeyond n 64 q12.2  (l1 + 1) 0 else some (1, q12.2)))) else none) else none)) else none) else (if hd = 119 then (if ixOK (hi h 226 19) 2 = true then (if (((5 * (hi h 226 19)) + (hi h 242 (Int32.toNatClampNeg (hi h 226 19)))) : Int32) ≤ (l1 : Int32) then some (0, h) else (if ixOK l1 10 = true then (if ixOK l1 10 = true then ((F_X12_isOff n h (hi h 243 (Int32.toNatClampNeg l1)) (hi h 244 (Int32.toNatClampNeg l1))).bind (fun q19 => (if (q19.1 : Int32) = 0 then W_X12_isBeyond n 168 q19.2  l1 (8 * (hi q19.2 226 19)) else some (1, q19.2)))) else none) else none)) else none) else (if hd = 168 then (if ixOK (hi h 226 19) 2 = true then (if (((8 * (hi h 226 19)) + (hi h 245 (Int32.toNatClampNeg (hi h 226 19)))) : Int32) ≤ (l2 : Int32) then W_X12_isBeyond n 119 h  (l1 + 1) 0 else (if ixOK l2 16 = true then (if ixOK l1 10 = true then (if ((hi h 246 (Int32.toNatClampNeg l2)) : Int32) = ((hi h 243 (Int32.toNatClampNeg l1)) : Int32) then (if ixOK l2 16 = true then (if ixOK l1 10 = true then (if ((hi h 247 (Int32.toNatClampNeg l2)) : Int32) = ((hi h 244 (Int32.toNatClampNeg l1)) : Int32) then some (1, h) else W_X12_isBeyond n 168 h  l1 (l2 + 1)) else none) else none) else W_X12_isBeyond n 168 h  l1 (l2 + 1)) else none) else none)) else none) else none))))
set_option maxRecDepth 100000 in
set_option maxHeartbeats 4000000 in
theorem sw_X12_isBeyond (d : Nat)  (n : Nat) : (∀ (l1 : Int32) (h : Hp), ∀ (r : Int32) (h' : Hp), W_X12_isBeyond n 8 h  l1 0 = some (r, h') → G h → V mX12_isBeyond (d + 1) 8 [some (.ref 226), some (.int l1), none] [] h (fun r1 h1 => r1 = some (.int r) ∧ h1 = h' ∧ G h')) ∧ (∀ (l1 : Int32) (h : Hp), ∀ (r : Int32) (h' : Hp), W_X12_isBeyond n 64 h  l1 0 = some (r, h') → G h → V mX12_isBeyond (d + 1) 64 [some (.ref 226), some (.int l1), none] [] h (fun r1 h1 => r1 = some (.int r) ∧ h1 = h' ∧ G h')) ∧ (∀ (l1 : Int32) (h : Hp), ∀ (r : Int32) (h' : Hp), W_X12_isBeyond n 119 h  l1 0 = some (r, h') → G h → V mX12_isBeyond (d + 1) 119 [some (.ref 226), some (.int l1), none] [] h (fun r1 h1 => r1 = some (.int r) ∧ h1 = h' ∧ G h')) ∧ (∀ (l1 : Int32) (l2 : Int32) (h : Hp), ∀ (r : Int32) (h' : Hp), W_X12_isBeyond n 168 h  l1 l2 = some (r, h') → G h → V mX12_isBeyond (d + 1) 168 [some (.ref 226), some (.int l1), some (.int l2)] [] h (fun r1 h1 => r1 = some (.int r) ∧ h1 = h' ∧ G h')) := by
  induction n with
  | zero => exact ⟨by intros; contradiction, by intros; contradiction, by intros; contradiction, by intros; contradiction⟩
  | succ n ih =>
    obtain ⟨s_X12_isBeyond_IH_8, s_X12_isBeyond_IH_64, s_X12_isBeyond_IH_119, s_X12_isBeyond_IH_168⟩ := ih
    refine ⟨?_, ?_, ?_, ?_⟩
    · intro l1 h r h' hF hG
      unfold W_X12_isBeyond at hF
      rw [if_pos rfl] at hF
      refine v_iload_n (i := 1) dX12_isBeyond_8 rfl rfl ?_
      refine v_bipush (v := 8) dX12_isBeyond_9 (by decide) ?_
      refine v_aload_n (i := 0) dX12_isBeyond_11 rfl rfl ?_
      refine g_X12_248 rfl sh_226 (by exact ltG hG (by decide)) dX12_isBeyond_12 ?_
      refine v_imul dX12_isBeyond_15 ?_
      refine v_aload_n (i := 0) dX12_isBeyond_16 rfl rfl ?_
      refine g_X12_49 (q := 237) rfl sh_226 (by exact ltG hG (by decide)) (by exact rG hG r0_226_24) dX12_isBeyond_17 ?_
      refine v_aload_n (i := 0) dX12_isBeyond_20 rfl rfl ?_
      refine g_X12_248 rfl sh_226 (by exact ltG hG (by decide)) dX12_isBeyond_21 ?_
      obtain ⟨k1, hF⟩ := ck_some hF
      refine v_iaload sh_237 (by exact ltG hG (by decide)) (ixO k1) dX12_isBeyond_24 ?_
      refine v_iadd dX12_isBeyond_25 ?_
      refine v_icmp_ge 56 dX12_isBeyond_26 (by decide) (fun c2 => ?_) (fun c2 => ?_)
      · rw [if_pos c2] at hF
        refine v_bipush (v := 8) dX12_isBeyond_56 (by decide) ?_
        refine v_aload_n (i := 0) dX12_isBeyond_58 rfl rfl ?_
        refine g_X12_248 rfl sh_226 (by exact ltG hG (by decide)) dX12_isBeyond_59 ?_
        refine v_imul dX12_isBeyond_62 ?_
        refine v_istore_n (i := 1) dX12_isBeyond_63 rfl (by decide) (nlT rfl) ?_
        simp only [List.set_cons_zero, List.set_cons_succ]
        refine V.weak (la2 := [some (.ref 226), some (.int (8 * (hi h 226 19))), none]) (by simp [wk]) ?_
        exact (s_X12_isBeyond_IH_64) _ _ _ _ hF hG
      · rw [if_neg c2] at hF
        refine v_aload_n (i := 0) dX12_isBeyond_29 rfl rfl ?_
        refine v_aload_n (i := 0) dX12_isBeyond_30 rfl rfl ?_
        refine g_X12_52 (q := 238) rfl sh_226 (by exact ltG hG (by decide)) (by exact rG hG r0_226_25) dX12_isBeyond_31 ?_
        refine v_iload_n (i := 1) dX12_isBeyond_34 rfl rfl ?_
        obtain ⟨k3, hF⟩ := ck_some hF
        refine v_iaload sh_238 (by exact ltG hG (by decide)) (ixO k3) dX12_isBeyond_35 ?_
        refine v_aload_n (i := 0) dX12_isBeyond_36 rfl rfl ?_
        refine g_X12_55 (q := 239) rfl sh_226 (by exact ltG hG (by decide)) (by exact rG hG r0_226_26) dX12_isBeyond_37 ?_
        refine v_iload_n (i := 1) dX12_isBeyond_40 rfl rfl ?_
        obtain ⟨k4, hF⟩ := ck_some hF
        refine v_iaload sh_239 (by exact ltG hG (by decide)) (ixO k4) dX12_isBeyond_41 ?_
        obtain ⟨q5, q5_e, hF⟩ := Option.bind_eq_some_iff.mp hF
        refine c_X12_277 rfl sh_226 (by exact ltG hG (by decide)) (Nat.le_of_ble_eq_true rfl) dX12_isBeyond_42 (s_X12_isOff _ q5_e hG) (fun r1 h1 hq => ?_)
        obtain ⟨rfl, hq, hG⟩ := hq
        replace hq := hq.symm
        subst hq
        show V _ _ _ _ (_ :: _) _ _
        refine v_if_eq 50 dX12_isBeyond_45 (by decide) (fun c7 => ?_) (fun c7 => ?_)
        · rw [if_pos c7] at hF
          refine v_iinc (i := 1) (v := (l1 + 1)) dX12_isBeyond_50 rfl rfl (by decide) (nlT rfl) ?_
          simp only [List.set_cons_zero, List.set_cons_succ]
          refine v_goto 8 dX12_isBeyond_53 (by decide) ?_
          refine V.weak (la2 := [some (.ref 226), some (.int (l1 + 1)), none]) (by simp [wk]) ?_
          exact (s_X12_isBeyond_IH_8) _ _ _ _ hF hG
        · rw [if_neg c7] at hF
          refine v_iconst (v := 1) dX12_isBeyond_48 (by decide) ?_
          refine v_zreturn rfl (by decide) dX12_isBeyond_49 ?_
          obtain ⟨rfl, rfl⟩ := Prod.mk.inj (Option.some.inj hF)
          exact ⟨rfl, rfl, hG⟩
    · intro l1 h r h' hF hG
      unfold W_X12_isBeyond at hF
      rw [if_neg (by decide)] at hF
      rw [if_pos rfl] at hF
      refine v_iload_n (i := 1) dX12_isBeyond_64 rfl rfl ?_
      refine v_bipush (v := 8) dX12_isBeyond_65 (by decide) ?_
      refine v_aload_n (i := 0) dX12_isBeyond_67 rfl rfl ?_
      refine g_X12_248 rfl sh_226 (by exact ltG hG (by decide)) dX12_isBeyond_68 ?_
      refine v_imul dX12_isBeyond_71 ?_
      refine v_aload_n (i := 0) dX12_isBeyond_72 rfl rfl ?_
      refine g_X12_73 (q := 245) rfl sh_226 (by exact ltG hG (by decide)) (by exact rG hG r0_226_32) dX12_isBeyond_73 ?_
      refine v_aload_n (i := 0) dX12_isBeyond_76 rfl rfl ?_
      refine g_X12_248 rfl sh_226 (by exact ltG hG (by decide)) dX12_isBeyond_77 ?_
      obtain ⟨k8, hF⟩ := ck_some hF
      refine v_iaload sh_245 (by exact ltG hG (by decide)) (ixO k8) dX12_isBeyond_80 ?_
      refine v_iadd dX12_isBeyond_81 ?_
      refine v_icmp_ge 112 dX12_isBeyond_82 (by decide) (fun c9 => ?_) (fun c9 => ?_)
      · rw [if_pos c9] at hF
        refine v_iconst (v := 5) dX12_isBeyond_112 (by decide) ?_
        refine v_aload_n (i := 0) dX12_isBeyond_113 rfl rfl ?_
        refine g_X12_248 rfl sh_226 (by exact ltG hG (by decide)) dX12_isBeyond_114 ?_
        refine v_imul dX12_isBeyond_117 ?_
        refine v_istore_n (i := 1) dX12_isBeyond_118 rfl (by decide) (nlT rfl) ?_
        simp only [List.set_cons_zero, List.set_cons_succ]
        refine V.weak (la2 := [some (.ref 226), some (.int (5 * (hi h 226 19))), none]) (by simp [wk]) ?_
        exact (s_X12_isBeyond_IH_119) _ _ _ _ hF hG
      · rw [if_neg c9] at hF
        refine v_aload_n (i := 0) dX12_isBeyond_85 rfl rfl ?_
        refine v_aload_n (i := 0) dX12_isBeyond_86 rfl rfl ?_
        refine g_X12_76 (q := 246) rfl sh_226 (by exact ltG hG (by decide)) (by exact rG hG r0_226_33) dX12_isBeyond_87 ?_
        refine v_iload_n (i := 1) dX12_isBeyond_90 rfl rfl ?_
        obtain ⟨k10, hF⟩ := ck_some hF
        refine v_iaload sh_246 (by exact ltG hG (by decide)) (ixO k10) dX12_isBeyond_91 ?_
        refine v_aload_n (i := 0) dX12_isBeyond_92 rfl rfl ?_
        refine g_X12_79 (q := 247) rfl sh_226 (by exact ltG hG (by decide)) (by exact rG hG r0_226_34) dX12_isBeyond_93 ?_
        refine v_iload_n (i := 1) dX12_isBeyond_96 rfl rfl ?_
        obtain ⟨k11, hF⟩ := ck_some hF
        refine v_iaload sh_247 (by exact ltG hG (by decide)) (ixO k11) dX12_isBeyond_97 ?_
        obtain ⟨q12, q12_e, hF⟩ := Option.bind_eq_some_iff.mp hF
        refine c_X12_277 rfl sh_226 (by exact ltG hG (by decide)) (Nat.le_of_ble_eq_true rfl) dX12_isBeyond_98 (s_X12_isOff _ q12_e hG) (fun r1 h1 hq => ?_)
        obtain ⟨rfl, hq, hG⟩ := hq
        replace hq := hq.symm
        subst hq
        show V _ _ _ _ (_ :: _) _ _
        refine v_if_eq 106 dX12_isBeyond_101 (by decide) (fun c14 => ?_) (fun c14 => ?_)
        · rw [if_pos c14] at hF
          refine v_iinc (i := 1) (v := (l1 + 1)) dX12_isBeyond_106 rfl rfl (by decide) (nlT rfl) ?_
          simp only [List.set_cons_zero, List.set_cons_succ]
          refine v_goto 64 dX12_isBeyond_109 (by decide) ?_
          refine V.weak (la2 := [some (.ref 226), some (.int (l1 + 1)), none]) (by simp [wk]) ?_
          exact (s_X12_isBeyond_IH_64) _ _ _ _ hF hG
        · rw [if_neg c14] at hF
          refine v_iconst (v := 1) dX12_isBeyond_104 (by decide) ?_
          refine v_zreturn rfl (by decide) dX12_isBeyond_105 ?_
          obtain ⟨rfl, rfl⟩ := Prod.mk.inj (Option.some.inj hF)
          exact ⟨rfl, rfl, hG⟩
    · intro l1 h r h' hF hG
      unfold W_X12_isBeyond at hF
      rw [if_neg (by decide)] at hF
      rw [if_neg (by decide)] at hF
      rw [if_pos rfl] at hF
      refine v_iload_n (i := 1) dX12_isBeyond_119 rfl rfl ?_
      refine v_iconst (v := 5) dX12_isBeyond_120 (by decide) ?_
      refine v_aload_n (i := 0) dX12_isBeyond_121 rfl rfl ?_
      refine g_X12_248 rfl sh_226 (by exact ltG hG (by decide)) dX12_isBeyond_122 ?_
      refine v_imul dX12_isBeyond_125 ?_
      refine v_aload_n (i := 0) dX12_isBeyond_126 rfl rfl ?_
      refine g_X12_64 (q := 242) rfl sh_226 (by exact ltG hG (by decide)) (by exact rG hG r0_226_29) dX12_isBeyond_127 ?_
      refine v_aload_n (i := 0) dX12_isBeyond_130 rfl rfl ?_
      refine g_X12_248 rfl sh_226 (by exact ltG hG (by decide)) dX12_isBeyond_131 ?_
      obtain ⟨k15, hF⟩ := ck_some hF
      refine v_iaload sh_242 (by exact ltG hG (by decide)) (ixO k15) dX12_isBeyond_134 ?_
      refine v_iadd dX12_isBeyond_135 ?_
      refine v_icmp_ge 233 dX12_isBeyond_136 (by decide) (fun c16 => ?_) (fun c16 => ?_)
      · rw [if_pos c16] at hF
        refine v_iconst (v := 0) dX12_isBeyond_233 (by decide) ?_
        refine v_zreturn rfl (by decide) dX12_isBeyond_234 ?_
        obtain ⟨rfl, rfl⟩ := Prod.mk.inj (Option.some.inj hF)
        exact ⟨rfl, rfl, hG⟩
      · rw [if_neg c16] at hF
        refine v_aload_n (i := 0) dX12_isBeyond_139 rfl rfl ?_
        refine v_aload_n (i := 0) dX12_isBeyond_140 rfl rfl ?_
        refine g_X12_67 (q := 243) rfl sh_226 (by exact ltG hG (by decide)) (by exact rG hG r0_226_30) dX12_isBeyond_141 ?_
        refine v_iload_n (i := 1) dX12_isBeyond_144 rfl rfl ?_
        obtain ⟨k17, hF⟩ := ck_some hF
        refine v_iaload sh_243 (by exact ltG hG (by decide)) (ixO k17) dX12_isBeyond_145 ?_
        refine v_aload_n (i := 0) dX12_isBeyond_146 rfl rfl ?_
        refine g_X12_70 (q := 244) rfl sh_226 (by exact ltG hG (by decide)) (by exact rG hG r0_226_31) dX12_isBeyond_147 ?_
        refine v_iload_n (i := 1) dX12_isBeyond_150 rfl rfl ?_
        obtain ⟨k18, hF⟩ := ck_some hF
        refine v_iaload sh_244 (by exact ltG hG (by decide)) (ixO k18) dX12_isBeyond_151 ?_
        obtain ⟨q19, q19_e, hF⟩ := Option.bind_eq_some_iff.mp hF
        refine c_X12_277 rfl sh_226 (by exact ltG hG (by decide)) (Nat.le_of_ble_eq_true rfl) dX12_isBeyond_152 (s_X12_isOff _ q19_e hG) (fun r1 h1 hq => ?_)
        obtain ⟨rfl, hq, hG⟩ := hq
        replace hq := hq.symm
        subst hq
        show V _ _ _ _ (_ :: _) _ _
        refine v_if_eq 160 dX12_isBeyond_155 (by decide) (fun c21 => ?_) (fun c21 => ?_)
        · rw [if_pos c21] at hF
          refine v_bipush (v := 8) dX12_isBeyond_160 (by decide) ?_
          refine v_aload_n (i := 0) dX12_isBeyond_162 rfl rfl ?_
          refine g_X12_248 rfl sh_226 (by exact ltG hG (by decide)) dX12_isBeyond_163 ?_
          refine v_imul dX12_isBeyond_166 ?_
          refine v_istore_n (i := 2) dX12_isBeyond_167 rfl (by decide) (nlT rfl) ?_
          simp only [List.set_cons_zero, List.set_cons_succ]
          refine V.weak (la2 := [some (.ref 226), some (.int l1), some (.int (8 * (hi q19.2 226 19)))]) (by simp [wk]) ?_
          exact (s_X12_isBeyond_IH_168) _ _ _ _ _ hF hG
        · rw [if_neg c21] at hF
          refine v_iconst (v := 1) dX12_isBeyond_158 (by decide) ?_
          refine v_zreturn rfl (by decide) dX12_isBeyond_159 ?_
          obtain ⟨rfl, rfl⟩ := Prod.mk.inj (Option.some.inj hF)
          exact ⟨rfl, rfl, hG⟩
    · intro l1 l2 h r h' hF hG
      unfold W_X12_isBeyond at hF
      rw [if_neg (by decide)] at hF
      rw [if_neg (by decide)] at hF
      rw [if_neg (by decide)] at hF
      rw [if_pos rfl] at hF
      refine v_iload_n (i := 2) dX12_isBeyond_168 rfl rfl ?_
      refine v_bipush (v := 8) dX12_isBeyond_169 (by decide) ?_
      refine v_aload_n (i := 0) dX12_isBeyond_171 rfl rfl ?_
      refine g_X12_248 rfl sh_226 (by exact ltG hG (by decide)) dX12_isBeyond_172 ?_
      refine v_imul dX12_isBeyond_175 ?_
      refine v_aload_n (i := 0) dX12_isBeyond_176 rfl rfl ?_
      refine g_X12_73 (q := 245) rfl sh_226 (by exact ltG hG (by decide)) (by exact rG hG r0_226_32) dX12_isBeyond_177 ?_
      refine v_aload_n (i := 0) dX12_isBeyond_180 rfl rfl ?_
      refine g_X12_248 rfl sh_226 (by exact ltG hG (by decide)) dX12_isBeyond_181 ?_
      obtain ⟨k22, hF⟩ := ck_some hF
      refine v_iaload sh_245 (by exact ltG hG (by decide)) (ixO k22) dX12_isBeyond_184 ?_
      refine v_iadd dX12_isBeyond_185 ?_
      refine v_icmp_ge 227 dX12_isBeyond_186 (by decide) (fun c23 => ?_) (fun c23 => ?_)
      · rw [if_pos c23] at hF
        refine v_iinc (i := 1) (v := (l1 + 1)) dX12_isBeyond_227 rfl rfl (by decide) (nlT rfl) ?_
        simp only [List.set_cons_zero, List.set_cons_succ]
        refine v_goto 119 dX12_isBeyond_230 (by decide) ?_
        refine V.weak (la2 := [some (.ref 226), some (.int (l1 + 1)), none]) (by simp [wk]) ?_
        exact (s_X12_isBeyond_IH_119) _ _ _ _ hF hG
      · rw [if_neg c23] at hF
        refine v_aload_n (i := 0) dX12_isBeyond_189 rfl rfl ?_
        refine g_X12_76 (q := 246) rfl sh_226 (by exact ltG hG (by decide)) (by exact rG hG r0_226_33) dX12_isBeyond_190 ?_
        refine v_iload_n (i := 2) dX12_isBeyond_193 rfl rfl ?_
        obtain ⟨k24, hF⟩ := ck_some hF
        refine v_iaload sh_246 (by exact ltG hG (by decide)) (ixO k24) dX12_isBeyond_194 ?_
        refine v_aload_n (i := 0) dX12_isBeyond_195 rfl rfl ?_
        refine g_X12_67 (q := 243) rfl sh_226 (by exact ltG hG (by decide)) (by exact rG hG r0_226_30) dX12_isBeyond_196 ?_
        refine v_iload_n (i := 1) dX12_isBeyond_199 rfl rfl ?_
        obtain ⟨k25, hF⟩ := ck_some hF
        refine v_iaload sh_243 (by exact ltG hG (by decide)) (ixO k25) dX12_isBeyond_200 ?_
        refine v_icmp_ne 221 dX12_isBeyond_201 (by decide) (fun c26 => ?_) (fun c26 => ?_)
        · rw [if_neg c26] at hF
          refine v_iinc (i := 2) (v := (l2 + 1)) dX12_isBeyond_221 rfl rfl (by decide) (nlT rfl) ?_
          simp only [List.set_cons_zero, List.set_cons_succ]
          refine v_goto 168 dX12_isBeyond_224 (by decide) ?_
          refine V.weak (la2 := [some (.ref 226), some (.int l1), some (.int (l2 + 1))]) (by simp [wk]) ?_
          exact (s_X12_isBeyond_IH_168) _ _ _ _ _ hF hG
        · rw [if_pos c26] at hF
          refine v_aload_n (i := 0) dX12_isBeyond_204 rfl rfl ?_
          refine g_X12_79 (q := 247) rfl sh_226 (by exact ltG hG (by decide)) (by exact rG hG r0_226_34) dX12_isBeyond_205 ?_
          refine v_iload_n (i := 2) dX12_isBeyond_208 rfl rfl ?_
          obtain ⟨k27, hF⟩ := ck_some hF
          refine v_iaload sh_247 (by exact ltG hG (by decide)) (ixO k27) dX12_isBeyond_209 ?_
          refine v_aload_n (i := 0) dX12_isBeyond_210 rfl rfl ?_
          refine g_X12_70 (q := 244) rfl sh_226 (by exact ltG hG (by decide)) (by exact rG hG r0_226_31) dX12_isBeyond_211 ?_
          refine v_iload_n (i := 1) dX12_isBeyond_214 rfl rfl ?_
          obtain ⟨k28, hF⟩ := ck_some hF
          refine v_iaload sh_244 (by exact ltG hG (by decide)) (ixO k28) dX12_isBeyond_215 ?_
          refine v_icmp_ne 221 dX12_isBeyond_216 (by decide) (fun c29 => ?_) (fun c29 => ?_)
          · rw [if_neg c29] at hF
            refine v_iinc (i := 2) (v := (l2 + 1)) dX12_isBeyond_221 rfl rfl (by decide) (nlT rfl) ?_
            simp only [List.set_cons_zero, List.set_cons_succ]
            refine v_goto 168 dX12_isBeyond_224 (by decide) ?_
            refine V.weak (la2 := [some (.ref 226), some (.int l1), some (.int (l2 + 1))]) (by simp [wk]) ?_
            exact (s_X12_isBeyond_IH_168) _ _ _ _ _ hF hG
          · rw [if_pos c29] at hF
            refine v_iconst (v := 1) dX12_isBeyond_219 (by decide) ?_
            refine v_zreturn rfl (by decide) dX12_isBeyond_220 ?_
            obtain ⟨rfl, rfl⟩ := Prod.mk.inj (Option.some.inj hF)
            exact ⟨rfl, rfl, hG⟩
def F_X12_isBeyond (n : Nat) (h : Hp) : Option (Int32 × Hp) := W_X12_isBeyond n 8 h  (8 * (hi h 226 19)) 0
set_option maxRecDepth 100000 in
set_option maxHeartbeats 4000000 in
theorem s_X12_isBeyond (d : Nat) {n : Nat} {h : Hp}  {q0 : (Int32 × Hp)} (hF : F_X12_isBeyond n h  = some q0) (hG : G h)  : Kc mX12_isBeyond (d + 1) [.ref 226] h (fun r1 h1 => r1 = some (.int q0.1) ∧ h1 = q0.2 ∧ G q0.2) := by
  obtain ⟨r, h'⟩ := q0
  obtain ⟨s_X12_isBeyond_IH_8, s_X12_isBeyond_IH_64, s_X12_isBeyond_IH_119, s_X12_isBeyond_IH_168⟩ := sw_X12_isBeyond d   n
  unfold F_X12_isBeyond at hF
  refine Kc.of [some (.ref 226), none, none] ok_X12_isBeyond rfl (Nat.le_of_ble_eq_true rfl) ?_
  refine v_bipush (v := 8) dX12_isBeyond_0 (by decide) ?_
  refine v_aload_n (i := 0) dX12_isBeyond_2 rfl rfl ?_
  refine g_X12_248 rfl sh_226 (by exact ltG hG (by decide)) dX12_isBeyond_3 ?_
  refine v_imul dX12_isBeyond_6 ?_
  refine v_istore_n (i := 1) dX12_isBeyond_7 rfl (by decide) (nlT rfl) ?_
  simp only [List.set_cons_zero, List.set_cons_succ]
  refine V.weak (la2 := [some (.ref 226), some (.int (8 * (hi h 226 19))), none]) (by simp [wk]) ?_
  exact (s_X12_isBeyond_IH_8) _ _ _ _ hF hG
def F_X12_isOther (n : Nat) (h : Hp) (x1 : Int32) (x2 : Int32) (x3 : Int32) : Option (Int32 × Hp) := (if (x1 : Int32) = (x2 : Int32) then some (0, h) else (if (x1 : Int32) = (x3 : Int32) then some (0, h) else ((F_X12_isRoped n h x1).bind (fun q3 => (if (q3.1 : Int32) = 0 then some (1, q3.2) else some (0, q3.2))))))
set_option maxRecDepth 100000 in
set_option maxHeartbeats 4000000 in
theorem s_X12_isOther (d : Nat) {n : Nat} {h : Hp} {x1 : Int32} {x2 : Int32} {x3 : Int32} {q0 : (Int32 × Hp)} (hF : F_X12_isOther n h x1 x2 x3 = some q0) (hG : G h)  : Kc mX12_isOther (d + 1) [.ref 226, .int x1, .int x2, .int x3] h (fun r1 h1 => r1 = some (.int q0.1) ∧ h1 = q0.2 ∧ G q0.2) := by
  obtain ⟨r, h'⟩ := q0
  unfold F_X12_isOther at hF
  refine Kc.of [some (.ref 226), some (.int x1), some (.int x2), some (.int x3)] ok_X12_isOther rfl (Nat.le_of_ble_eq_true rfl) ?_
  refine v_iload_n (i := 1) dX12_isOther_0 rfl rfl ?_
  refine v_iload_n (i := 2) dX12_isOther_1 rfl rfl ?_
  refine v_icmp_eq 22 dX12_isOther_2 (by decide) (fun c1 => ?_) (fun c1 => ?_)
  · rw [if_pos c1] at hF
    refine v_iconst (v := 0) dX12_isOther_22 (by decide) ?_
    refine v_zreturn rfl (by decide) dX12_isOther_23 ?_
    obtain ⟨rfl, rfl⟩ := Prod.mk.inj (Option.some.inj hF)
    exact ⟨rfl, rfl, hG⟩
  · rw [if_neg c1] at hF
    refine v_iload_n (i := 1) dX12_isOther_5 rfl rfl ?_
    refine v_iload_n (i := 3) dX12_isOther_6 rfl rfl ?_
    refine v_icmp_eq 22 dX12_isOther_7 (by decide) (fun c2 => ?_) (fun c2 => ?_)
    · rw [if_pos c2] at hF
      refine v_iconst (v := 0) dX12_isOther_22 (by decide) ?_
      refine v_zreturn rfl (by decide) dX12_isOther_23 ?_
      obtain ⟨rfl, rfl⟩ := Prod.mk.inj (Option.some.inj hF)
      exact ⟨rfl, rfl, hG⟩
    · rw [if_neg c2] at hF
      refine v_aload_n (i := 0) dX12_isOther_10 rfl rfl ?_
      refine v_iload_n (i := 1) dX12_isOther_11 rfl rfl ?_
      obtain ⟨q3, q3_e, hF⟩ := Option.bind_eq_some_iff.mp hF
      refine c_X12_372 rfl sh_226 (by exact ltG hG (by decide)) (Nat.le_of_ble_eq_true rfl) dX12_isOther_12 (s_X12_isRoped _ q3_e hG) (fun r1 h1 hq => ?_)
      obtain ⟨rfl, hq, hG⟩ := hq
      replace hq := hq.symm
      subst hq
      show V _ _ _ _ (_ :: _) _ _
      refine v_if_ne 22 dX12_isOther_15 (by decide) (fun c5 => ?_) (fun c5 => ?_)
      · rw [if_neg c5] at hF
        refine v_iconst (v := 0) dX12_isOther_22 (by decide) ?_
        refine v_zreturn rfl (by decide) dX12_isOther_23 ?_
        obtain ⟨rfl, rfl⟩ := Prod.mk.inj (Option.some.inj hF)
        exact ⟨rfl, rfl, hG⟩
      · rw [if_pos c5] at hF
        refine v_iconst (v := 1) dX12_isOther_18 (by decide) ?_
        refine v_goto 23 dX12_isOther_19 (by decide) ?_
        refine v_zreturn rfl (by decide) dX12_isOther_23 ?_
        obtain ⟨rfl, rfl⟩ := Prod.mk.inj (Option.some.inj hF)
        exact ⟨rfl, rfl, hG⟩
def W_X12_isParted : Nat → Nat → Hp → Int32 → Int32 → Int32 → Int32 → Int32 → Option (Int32 × Hp)
  | 0 => fun _ _ _ _ _ _ _ => none
  | n + 1 => fun hd h l1 l2 l3 l4 l5 => (if hd = 8 then (if (l4 : Int32) = (l5 : Int32) then (if (((((l4 : Int32) >>> ((l2 : Int32) &&& 31)) : Int32) &&& (1 : Int32)) : Int32) = 0 then some (1, h) else some (0, h)) else ((F_X12_nearBits n h l4).bind (fun q3 => ((F_X12_freeBits n q3.2).bind (fun q5 => W_X12_isParted n 8 q5.2  l1 l2 l3 ((((q3.1 : Int32) &&& (q5.1 : Int32)) : Int32) &&& (((l3 : Int32) ^^^ ((-1) : Int32)) : Int32)) l4))))) else none)
set_option maxRecDepth 100000 in
set_option maxHeartbeats 4000000 in
theorem sw_X12_isParted (d : Nat)  (n : Nat) : (∀ (l1 : Int32) (l2 : Int32) (l3 : Int32) (l4 : Int32) (l5 : Int32) (h : Hp), ∀ (r : Int32) (h' : Hp), W_X12_isParted n 8 h  l1 l2 l3 l4 l5 = some (r, h') → G h → V mX12_isParted (d + 2) 8 [some (.ref 226), some (.int l1), some (.int l2), some (.int l3), some (.int l4), some (.int l5)] [] h (fun r1 h1 => r1 = some (.int r) ∧ h1 = h' ∧ G h')) := by
  induction n with
  | zero => exact by intros; contradiction
  | succ n ih =>
    have s_X12_isParted_IH_8 := ih
    intro l1 l2 l3 l4 l5 h r h' hF hG
    unfold W_X12_isParted at hF
    rw [if_pos rfl] at hF
    refine v_iload (i := 4) dX12_isParted_8 rfl ?_
    refine v_iload (i := 5) dX12_isParted_10 rfl ?_
    refine v_icmp_eq 39 dX12_isParted_12 (by decide) (fun c1 => ?_) (fun c1 => ?_)
    · rw [if_pos c1] at hF
      refine v_iload (i := 4) dX12_isParted_39 rfl ?_
      refine v_iload_n (i := 2) dX12_isParted_41 rfl rfl ?_
      refine v_ishr dX12_isParted_42 ?_
      refine v_iconst (v := 1) dX12_isParted_43 (by decide) ?_
      refine v_iand dX12_isParted_44 ?_
      refine v_if_ne 52 dX12_isParted_45 (by decide) (fun c2 => ?_) (fun c2 => ?_)
      · rw [if_neg c2] at hF
        refine v_iconst (v := 0) dX12_isParted_52 (by decide) ?_
        refine v_zreturn rfl (by decide) dX12_isParted_53 ?_
        obtain ⟨rfl, rfl⟩ := Prod.mk.inj (Option.some.inj hF)
        exact ⟨rfl, rfl, hG⟩
      · rw [if_pos c2] at hF
        refine v_iconst (v := 1) dX12_isParted_48 (by decide) ?_
        refine v_goto 53 dX12_isParted_49 (by decide) ?_
        refine v_zreturn rfl (by decide) dX12_isParted_53 ?_
        obtain ⟨rfl, rfl⟩ := Prod.mk.inj (Option.some.inj hF)
        exact ⟨rfl, rfl, hG⟩
    · rw [if_neg c1] at hF
      refine v_iload (i := 4) dX12_isParted_15 rfl ?_
      refine v_istore (i := 5) dX12_isParted_17 (by decide) (nlT rfl) ?_
      simp only [List.set_cons_zero, List.set_cons_succ]
      refine v_aload_n (i := 0) dX12_isParted_19 rfl rfl ?_
      refine v_iload (i := 4) dX12_isParted_20 rfl ?_
      obtain ⟨q3, q3_e, hF⟩ := Option.bind_eq_some_iff.mp hF
      refine c_X12_430 rfl sh_226 (by exact ltG hG (by decide)) (Nat.le_of_ble_eq_true rfl) dX12_isParted_22 (s_X12_nearBits _ q3_e hG) (fun r1 h1 hq => ?_)
      obtain ⟨rfl, hq, hG⟩ := hq
      replace hq := hq.symm
      subst hq
      show V _ _ _ _ (_ :: _) _ _
      refine v_aload_n (i := 0) dX12_isParted_25 rfl rfl ?_
      obtain ⟨q5, q5_e, hF⟩ := Option.bind_eq_some_iff.mp hF
      refine c_X12_427 rfl sh_226 (by exact ltG hG (by decide)) (Nat.le_of_ble_eq_true rfl) dX12_isParted_26 (s_X12_freeBits _ q5_e hG) (fun r1 h1 hq => ?_)
      obtain ⟨rfl, hq, hG⟩ := hq
      replace hq := hq.symm
      subst hq
      show V _ _ _ _ (_ :: _) _ _
      refine v_iand dX12_isParted_29 ?_
      refine v_iload_n (i := 3) dX12_isParted_30 rfl rfl ?_
      refine v_iconst (v := (-1)) dX12_isParted_31 (by decide) ?_
      refine v_ixor dX12_isParted_32 ?_
      refine v_iand dX12_isParted_33 ?_
      refine v_istore (i := 4) dX12_isParted_34 (by decide) (nlT rfl) ?_
      simp only [List.set_cons_zero, List.set_cons_succ]
      refine v_goto 8 dX12_isParted_36 (by decide) ?_
      refine V.weak (la2 := [some (.ref 226), some (.int l1), some (.int l2), some (.int l3), some (.int ((((q3.1 : Int32) &&& (q5.1 : Int32)) : Int32) &&& (((l3 : Int32) ^^^ ((-1) : Int32)) : Int32))), some (.int l4)]) (by simp [wk]) ?_
      exact (s_X12_isParted_IH_8) _ _ _ _ _ _ _ _ hF hG
def F_X12_isParted (n : Nat) (h : Hp) (x1 : Int32) (x2 : Int32) (x3 : Int32) : Option (Int32 × Hp) := W_X12_isParted n 8 h  x1 x2 x3 ((1 : Int32) <<< ((x1 : Int32) &&& 31)) 0
set_option maxRecDepth 100000 in
set_option maxHeartbeats 4000000 in
theorem s_X12_isParted (d : Nat) {n : Nat} {h : Hp} {x1 : Int32} {x2 : Int32} {x3 : Int32} {q0 : (Int32 × Hp)} (hF : F_X12_isParted n h x1 x2 x3 = some q0) (hG : G h)  : Kc mX12_isParted (d + 2) [.ref 226, .int x1, .int x2, .int x3] h (fun r1 h1 => r1 = some (.int q0.1) ∧ h1 = q0.2 ∧ G q0.2) := by
  obtain ⟨r, h'⟩ := q0
  have s_X12_isParted_IH_8 := sw_X12_isParted d   n
  unfold F_X12_isParted at hF
  refine Kc.of [some (.ref 226), some (.int x1), some (.int x2), some (.int x3), none, none] ok_X12_isParted rfl (Nat.le_of_ble_eq_true rfl) ?_
  refine v_iconst (v := 1) dX12_isParted_0 (by decide) ?_
  refine v_iload_n (i := 1) dX12_isParted_1 rfl rfl ?_
  refine v_ishl dX12_isParted_2 ?_
  refine v_istore (i := 4) dX12_isParted_3 (by decide) (nlT rfl) ?_
  simp only [List.set_cons_zero, List.set_cons_succ]
  refine v_iconst (v := 0) dX12_isParted_5 (by decide) ?_
  refine v_istore (i := 5) dX12_isParted_6 (by decide) (nlT rfl) ?_
  simp only [List.set_cons_zero, List.set_cons_succ]
  refine V.weak (la2 := [some (.ref 226), some (.int x1), some (.int x2), some (.int x3), some (.int ((1 : Int32) <<< ((x1 : Int32) &&& 31))), some (.int 0)]) (by simp [wk]) ?_
  exact (s_X12_isParted_IH_8) _ _ _ _ _ _ _ _ hF hG
def W_X12_isWayWithout : Nat → Nat → Hp → Int32 → Int32 → Int32 → Int32 → Int32 → Option (Int32 × Hp)
  | 0 => fun _ _ _ _ _ _ _ => none
  | n + 1 => fun hd h l1 l2 l3 l4 l5 => (if hd = 7 then ((F_X12_cells n h).bind (fun q1 => (if (q1.1 : Int32) ≤ (l5 : Int32) then ((F_X12_fillsReach n q1.2 267 l1 (hi q1.2 263 61)).bind (fun q4 => ((F_X12_firstAt n q4 l2 l3).bind (fun q6 => (if (q6.1 : Int32) < 0 then some (0, q6.2) else some (1, q6.2)))))) else (if (((((l4 : Int32) >>> ((l5 : Int32) &&& 31)) : Int32) &&& (1 : Int32)) : Int32) = (1 : Int32) then (if ixOK l5 63 = true then W_X12_isWayWithout n 7 (wrI q1.2 263 (Int32.toNatClampNeg l5) 0)  l1 l2 l3 l4 (l5 + 1) else none) else W_X12_isWayWithout n 7 q1.2  l1 l2 l3 l4 (l5 + 1))))) else none)
set_option maxRecDepth 100000 in
set_option maxHeartbeats 4000000 in
theorem sw_X12_isWayWithout (d : Nat)  (n : Nat) : (∀ (l1 : Int32) (l2 : Int32) (l3 : Int32) (l4 : Int32) (l5 : Int32) (h : Hp), ∀ (r : Int32) (h' : Hp), W_X12_isWayWithout n 7 h  l1 l2 l3 l4 l5 = some (r, h') → G h → V mX12_isWayWithout (d + 4) 7 [some (.ref 226), some (.int l1), some (.int l2), some (.int l3), some (.int l4), some (.int l5)] [] h (fun r1 h1 => r1 = some (.int r) ∧ h1 = h' ∧ G h')) := by
  induction n with
  | zero => exact by intros; contradiction
  | succ n ih =>
    have s_X12_isWayWithout_IH_7 := ih
    intro l1 l2 l3 l4 l5 h r h' hF hG
    unfold W_X12_isWayWithout at hF
    rw [if_pos rfl] at hF
    refine v_iload (i := 5) dX12_isWayWithout_7 rfl ?_
    refine v_aload_n (i := 0) dX12_isWayWithout_9 rfl rfl ?_
    obtain ⟨q1, q1_e, hF⟩ := Option.bind_eq_some_iff.mp hF
    refine c_X12_326 rfl sh_226 (by exact ltG hG (by decide)) (Nat.le_of_ble_eq_true rfl) dX12_isWayWithout_10 (s_X12_cells _ q1_e hG) (fun r1 h1 hq => ?_)
    obtain ⟨rfl, hq, hG⟩ := hq
    replace hq := hq.symm
    subst hq
    show V _ _ _ _ (_ :: _) _ _
    refine v_icmp_ge 41 dX12_isWayWithout_13 (by decide) (fun c3 => ?_) (fun c3 => ?_)
    · rw [if_pos c3] at hF
      refine v_aload_n (i := 0) dX12_isWayWithout_41 rfl rfl ?_
      refine v_aload_n (i := 0) dX12_isWayWithout_42 rfl rfl ?_
      refine g_X12_140 (q := 267) rfl sh_226 (by exact ltG hG (by decide)) (by exact rG hG r0_226_61) dX12_isWayWithout_43 ?_
      refine v_iload_n (i := 1) dX12_isWayWithout_46 rfl rfl ?_
      refine v_aload_n (i := 0) dX12_isWayWithout_47 rfl rfl ?_
      refine g_X12_128 (q := 263) rfl sh_226 (by exact ltG hG (by decide)) (by exact rG hG r0_226_54) dX12_isWayWithout_48 ?_
      refine v_bipush (v := 61) dX12_isWayWithout_51 (by decide) ?_
      refine v_iaload sh_263 (by exact ltG hG (by decide)) (ixK 61 (by decide)) dX12_isWayWithout_53 ?_
      obtain ⟨q4, q4_e, hF⟩ := Option.bind_eq_some_iff.mp hF
      refine c_X12_442 rfl sh_226 (by exact ltG hG (by decide)) (Nat.le_of_ble_eq_true rfl) dX12_isWayWithout_54 (s_X12_fillsReach _ q4_e hG (by first | assumption | exact sc_30 | exact sc_34 | exact sc_10 | exact fd_24 | exact fd_4 | exact lw_25 | exact lw_5 | exact bd_23 | exact bd_3 | exact ⟨by first | assumption | rfl, by first | decide | omega⟩)) (fun r1 h1 hq => ?_)
      obtain ⟨rfl, hq, hG⟩ := hq
      replace hq := hq.symm
      subst hq
      simp only [Option.toList, List.nil_append]
      refine v_aload_n (i := 0) dX12_isWayWithout_57 rfl rfl ?_
      refine v_iload_n (i := 2) dX12_isWayWithout_58 rfl rfl ?_
      refine v_iload_n (i := 3) dX12_isWayWithout_59 rfl rfl ?_
      obtain ⟨q6, q6_e, hF⟩ := Option.bind_eq_some_iff.mp hF
      refine c_X12_446 rfl sh_226 (by exact ltG hG (by decide)) (Nat.le_of_ble_eq_true rfl) dX12_isWayWithout_60 (s_X12_firstAt _ q6_e hG) (fun r1 h1 hq => ?_)
      obtain ⟨rfl, hq, hG⟩ := hq
      replace hq := hq.symm
      subst hq
      show V _ _ _ _ (_ :: _) _ _
      refine v_if_lt 70 dX12_isWayWithout_63 (by decide) (fun c8 => ?_) (fun c8 => ?_)
      · rw [if_pos c8] at hF
        refine v_iconst (v := 0) dX12_isWayWithout_70 (by decide) ?_
        refine v_zreturn rfl (by decide) dX12_isWayWithout_71 ?_
        obtain ⟨rfl, rfl⟩ := Prod.mk.inj (Option.some.inj hF)
        exact ⟨rfl, rfl, hG⟩
      · rw [if_neg c8] at hF
        refine v_iconst (v := 1) dX12_isWayWithout_66 (by decide) ?_
        refine v_goto 71 dX12_isWayWithout_67 (by decide) ?_
        refine v_zreturn rfl (by decide) dX12_isWayWithout_71 ?_
        obtain ⟨rfl, rfl⟩ := Prod.mk.inj (Option.some.inj hF)
        exact ⟨rfl, rfl, hG⟩
    · rw [if_neg c3] at hF
      refine v_iload (i := 4) dX12_isWayWithout_16 rfl ?_
      refine v_iload (i := 5) dX12_isWayWithout_18 rfl ?_
      refine v_ishr dX12_isWayWithout_20 ?_
      refine v_iconst (v := 1) dX12_isWayWithout_21 (by decide) ?_
      refine v_iand dX12_isWayWithout_22 ?_
      refine v_iconst (v := 1) dX12_isWayWithout_23 (by decide) ?_
      refine v_icmp_ne 35 dX12_isWayWithout_24 (by decide) (fun c9 => ?_) (fun c9 => ?_)
      · rw [if_neg c9] at hF
        refine v_iinc (i := 5) (v := (l5 + 1)) dX12_isWayWithout_35 rfl rfl (by decide) (nlT rfl) ?_
        simp only [List.set_cons_zero, List.set_cons_succ]
        refine v_goto 7 dX12_isWayWithout_38 (by decide) ?_
        refine V.weak (la2 := [some (.ref 226), some (.int l1), some (.int l2), some (.int l3), some (.int l4), some (.int (l5 + 1))]) (by simp [wk]) ?_
        exact (s_X12_isWayWithout_IH_7) _ _ _ _ _ _ _ _ hF hG
      · rw [if_pos c9] at hF
        refine v_aload_n (i := 0) dX12_isWayWithout_27 rfl rfl ?_
        refine g_X12_128 (q := 263) rfl sh_226 (by exact ltG hG (by decide)) (by exact rG hG r0_226_54) dX12_isWayWithout_28 ?_
        refine v_iload (i := 5) dX12_isWayWithout_31 rfl ?_
        refine v_iconst (v := 0) dX12_isWayWithout_33 (by decide) ?_
        obtain ⟨k10, hF⟩ := ck_some hF
        refine v_iastore sh_263 (by exact ltG hG (by decide)) (ixO k10) dX12_isWayWithout_34 ?_
        refine v_iinc (i := 5) (v := (l5 + 1)) dX12_isWayWithout_35 rfl rfl (by decide) (nlT rfl) ?_
        simp only [List.set_cons_zero, List.set_cons_succ]
        refine v_goto 7 dX12_isWayWithout_38 (by decide) ?_
        refine V.weak (la2 := [some (.ref 226), some (.int l1), some (.int l2), some (.int l3), some (.int l4), some (.int (l5 + 1))]) (by simp [wk]) ?_
        exact (s_X12_isWayWithout_IH_7) _ _ _ _ _ _ _ _ hF hG
def F_X12_isWayWithout (n : Nat) (h : Hp) (x1 : Int32) (x2 : Int32) (x3 : Int32) (x4 : Int32) : Option (Int32 × Hp) := ((F_X12_copies n h).bind (fun q11 => W_X12_isWayWithout n 7 q11  x1 x2 x3 x4 0))
set_option maxRecDepth 100000 in
set_option maxHeartbeats 4000000 in
theorem s_X12_isWayWithout (d : Nat) {n : Nat} {h : Hp} {x1 : Int32} {x2 : Int32} {x3 : Int32} {x4 : Int32} {q0 : (Int32 × Hp)} (hF : F_X12_isWayWithout n h x1 x2 x3 x4 = some q0) (hG : G h)  : Kc mX12_isWayWithout (d + 4) [.ref 226, .int x1, .int x2, .int x3, .int x4] h (fun r1 h1 => r1 = some (.int q0.1) ∧ h1 = q0.2 ∧ G q0.2) := by
  obtain ⟨r, h'⟩ := q0
  have s_X12_isWayWithout_IH_7 := sw_X12_isWayWithout d   n
  unfold F_X12_isWayWithout at hF
  refine Kc.of [some (.ref 226), some (.int x1), some (.int x2), some (.int x3), some (.int x4), none] ok_X12_isWayWithout rfl (Nat.le_of_ble_eq_true rfl) ?_
  refine v_aload_n (i := 0) dX12_isWayWithout_0 rfl rfl ?_
  obtain ⟨q11, q11_e, hF⟩ := Option.bind_eq_some_iff.mp hF
  refine c_X12_346 rfl sh_226 (by exact ltG hG (by decide)) (Nat.le_of_ble_eq_true rfl) dX12_isWayWithout_1 (s_X12_copies _ q11_e hG) (fun r1 h1 hq => ?_)
  obtain ⟨rfl, hq, hG⟩ := hq
  replace hq := hq.symm
  subst hq
  simp only [Option.toList, List.nil_append]
  refine v_iconst (v := 0) dX12_isWayWithout_4 (by decide) ?_
  refine v_istore (i := 5) dX12_isWayWithout_5 (by decide) (nlT rfl) ?_
  simp only [List.set_cons_zero, List.set_cons_succ]
  refine V.weak (la2 := [some (.ref 226), some (.int x1), some (.int x2), some (.int x3), some (.int x4), some (.int 0)]) (by simp [wk]) ?_
  exact (s_X12_isWayWithout_IH_7) _ _ _ _ _ _ _ _ hF hG
def W_X12_lawTells : Nat → Nat → Hp → Int32 → Int32 → Int32 → Int32 → Option (Int32 × Hp)
  | 0 => fun _ _ _ _ _ _ => none
  | n + 1 => fun hd h l1 l2 l3 l4 => (if hd = 39 then (if ixOK l3 8 = true then (if ((hi h 251 (Int32.toNatClampNeg l3)) : Int32) ≤ (l4 : Int32) then some (0, h) else (if ixOK l4 260 = true then (if ((vp_nar .boolean (hi h 252 (Int32.toNatClampNeg l4))) : Int32) = 0 then (if ixOK l4 260 = true then (if ixOK l4 260 = true then ((F_X12_termOf n h (hi h 255 (Int32.toNatClampNeg l4)) (hi h 256 (Int32.toNatClampNeg l4))).bind (fun q7 => (if ((vp_nar .boolean (hi q7.2 226 52)) : Int32) = 0 then some (q7.1, q7.2) else some (0, q7.2)))) else none) else none) else (if ixOK l4 260 = true then (if ixOK l4 260 = true then ((F_X12_termOf n h (hi h 253 (Int32.toNatClampNeg l4)) (hi h 254 (Int32.toNatClampNeg l4))).bind (fun q12 => (if ixOK l4 260 = true then (if ixOK l4 260 = true then ((F_X12_termOf n q12.2 (hi q12.2 254 (Int32.toNatClampNeg l4)) (hi q12.2 255 (Int32.toNatClampNeg l4))).bind (fun q16 => (if ((vp_nar .boolean (hi q16.2 226 52)) : Int32) = 0 then (if (q12.1 : Int32) < (q16.1 : Int32) then (if ixOK l4 260 = true then (if ixOK l4 260 = true then ((F_X12_termOf n q16.2 (hi q16.2 255 (Int32.toNatClampNeg l4)) (hi q16.2 256 (Int32.toNatClampNeg l4))).bind (fun q22 => (if ((vp_nar .boolean (hi q22.2 226 52)) : Int32) = 0 then some (q22.1, q22.2) else some (0, q22.2)))) else none) else none) else W_X12_lawTells n 39 q16.2  l1 l2 l3 (l4 + 1)) else some (0, q16.2)))) else none) else none))) else none) else none)) else none)) else none) else none)
set_option maxRecDepth 100000 in
set_option maxHeartbeats 4000000 in
theorem sw_X12_lawTells (d : Nat)  (n : Nat) : (∀ (l1 : Int32) (l2 : Int32) (l3 : Int32) (l4 : Int32) (h : Hp), ∀ (r : Int32) (h' : Hp), W_X12_lawTells n 39 h  l1 l2 l3 l4 = some (r, h') → G h → V mX12_lawTells (d + 1) 39 [some (.ref 226), some (.int l1), some (.int l2), some (.int l3), some (.int l4), none, none] [] h (fun r1 h1 => r1 = some (.int r) ∧ h1 = h' ∧ G h')) := by
  induction n with
  | zero => exact by intros; contradiction
  | succ n ih =>
    have s_X12_lawTells_IH_39 := ih
    intro l1 l2 l3 l4 h r h' hF hG
    unfold W_X12_lawTells at hF
    rw [if_pos rfl] at hF
    refine v_iload (i := 4) dX12_lawTells_39 rfl ?_
    refine v_aload_n (i := 0) dX12_lawTells_41 rfl rfl ?_
    refine g_X12_91 (q := 251) rfl sh_226 (by exact ltG hG (by decide)) (by exact rG hG r0_226_38) dX12_lawTells_42 ?_
    refine v_iload_n (i := 3) dX12_lawTells_45 rfl rfl ?_
    obtain ⟨k1, hF⟩ := ck_some hF
    refine v_iaload sh_251 (by exact ltG hG (by decide)) (ixO k1) dX12_lawTells_46 ?_
    refine v_icmp_ge 159 dX12_lawTells_47 (by decide) (fun c2 => ?_) (fun c2 => ?_)
    · rw [if_pos c2] at hF
      refine v_iconst (v := 0) dX12_lawTells_159 (by decide) ?_
      refine v_ireturn rfl dX12_lawTells_160 ?_
      obtain ⟨rfl, rfl⟩ := Prod.mk.inj (Option.some.inj hF)
      exact ⟨rfl, rfl, hG⟩
    · rw [if_neg c2] at hF
      refine v_aload_n (i := 0) dX12_lawTells_50 rfl rfl ?_
      refine g_X12_94 (q := 252) rfl sh_226 (by exact ltG hG (by decide)) (by exact rG hG r0_226_40) dX12_lawTells_51 ?_
      refine v_iload (i := 4) dX12_lawTells_54 rfl ?_
      obtain ⟨k3, hF⟩ := ck_some hF
      refine v_zaload sh_252 (by exact ltG hG (by decide)) (ixO k3) dX12_lawTells_56 ?_
      refine v_if_eq 119 dX12_lawTells_57 (by decide) (fun c4 => ?_) (fun c4 => ?_)
      · rw [if_pos c4] at hF
        refine v_aload_n (i := 0) dX12_lawTells_119 rfl rfl ?_
        refine v_aload_n (i := 0) dX12_lawTells_120 rfl rfl ?_
        refine g_X12_104 (q := 255) rfl sh_226 (by exact ltG hG (by decide)) (by exact rG hG r0_226_43) dX12_lawTells_121 ?_
        refine v_iload (i := 4) dX12_lawTells_124 rfl ?_
        obtain ⟨k5, hF⟩ := ck_some hF
        refine v_iaload sh_255 (by exact ltG hG (by decide)) (ixO k5) dX12_lawTells_126 ?_
        refine v_aload_n (i := 0) dX12_lawTells_127 rfl rfl ?_
        refine g_X12_107 (q := 256) rfl sh_226 (by exact ltG hG (by decide)) (by exact rG hG r0_226_44) dX12_lawTells_128 ?_
        refine v_iload (i := 4) dX12_lawTells_131 rfl ?_
        obtain ⟨k6, hF⟩ := ck_some hF
        refine v_iaload sh_256 (by exact ltG hG (by decide)) (ixO k6) dX12_lawTells_133 ?_
        obtain ⟨q7, q7_e, hF⟩ := Option.bind_eq_some_iff.mp hF
        refine c_X12_356 rfl sh_226 (by exact ltG hG (by decide)) (Nat.le_of_ble_eq_true rfl) dX12_lawTells_134 (s_X12_termOf _ q7_e hG) (fun r1 h1 hq => ?_)
        obtain ⟨rfl, hq, hG⟩ := hq
        replace hq := hq.symm
        subst hq
        show V _ _ _ _ (_ :: _) _ _
        refine v_istore (i := 5) dX12_lawTells_137 (by decide) (nlT rfl) ?_
        simp only [List.set_cons_zero, List.set_cons_succ]
        refine v_aload_n (i := 0) dX12_lawTells_139 rfl rfl ?_
        refine g_X12_322 rfl sh_226 (by exact ltG hG (by decide)) dX12_lawTells_140 ?_
        refine v_if_eq 150 dX12_lawTells_143 (by decide) (fun c9 => ?_) (fun c9 => ?_)
        · rw [if_pos c9] at hF
          refine v_iload (i := 5) dX12_lawTells_150 rfl ?_
          refine v_ireturn rfl dX12_lawTells_152 ?_
          obtain ⟨rfl, rfl⟩ := Prod.mk.inj (Option.some.inj hF)
          exact ⟨rfl, rfl, hG⟩
        · rw [if_neg c9] at hF
          refine v_iconst (v := 0) dX12_lawTells_146 (by decide) ?_
          refine v_goto 152 dX12_lawTells_147 (by decide) ?_
          refine v_ireturn rfl dX12_lawTells_152 ?_
          obtain ⟨rfl, rfl⟩ := Prod.mk.inj (Option.some.inj hF)
          exact ⟨rfl, rfl, hG⟩
      · rw [if_neg c4] at hF
        refine v_aload_n (i := 0) dX12_lawTells_60 rfl rfl ?_
        refine v_aload_n (i := 0) dX12_lawTells_61 rfl rfl ?_
        refine g_X12_98 (q := 253) rfl sh_226 (by exact ltG hG (by decide)) (by exact rG hG r0_226_41) dX12_lawTells_62 ?_
        refine v_iload (i := 4) dX12_lawTells_65 rfl ?_
        obtain ⟨k10, hF⟩ := ck_some hF
        refine v_iaload sh_253 (by exact ltG hG (by decide)) (ixO k10) dX12_lawTells_67 ?_
        refine v_aload_n (i := 0) dX12_lawTells_68 rfl rfl ?_
        refine g_X12_101 (q := 254) rfl sh_226 (by exact ltG hG (by decide)) (by exact rG hG r0_226_42) dX12_lawTells_69 ?_
        refine v_iload (i := 4) dX12_lawTells_72 rfl ?_
        obtain ⟨k11, hF⟩ := ck_some hF
        refine v_iaload sh_254 (by exact ltG hG (by decide)) (ixO k11) dX12_lawTells_74 ?_
        obtain ⟨q12, q12_e, hF⟩ := Option.bind_eq_some_iff.mp hF
        refine c_X12_356 rfl sh_226 (by exact ltG hG (by decide)) (Nat.le_of_ble_eq_true rfl) dX12_lawTells_75 (s_X12_termOf _ q12_e hG) (fun r1 h1 hq => ?_)
        obtain ⟨rfl, hq, hG⟩ := hq
        replace hq := hq.symm
        subst hq
        show V _ _ _ _ (_ :: _) _ _
        refine v_istore (i := 5) dX12_lawTells_78 (by decide) (nlT rfl) ?_
        simp only [List.set_cons_zero, List.set_cons_succ]
        refine v_aload_n (i := 0) dX12_lawTells_80 rfl rfl ?_
        refine v_aload_n (i := 0) dX12_lawTells_81 rfl rfl ?_
        refine g_X12_101 (q := 254) rfl sh_226 (by exact ltG hG (by decide)) (by exact rG hG r0_226_42) dX12_lawTells_82 ?_
        refine v_iload (i := 4) dX12_lawTells_85 rfl ?_
        obtain ⟨k14, hF⟩ := ck_some hF
        refine v_iaload sh_254 (by exact ltG hG (by decide)) (ixO k14) dX12_lawTells_87 ?_
        refine v_aload_n (i := 0) dX12_lawTells_88 rfl rfl ?_
        refine g_X12_104 (q := 255) rfl sh_226 (by exact ltG hG (by decide)) (by exact rG hG r0_226_43) dX12_lawTells_89 ?_
        refine v_iload (i := 4) dX12_lawTells_92 rfl ?_
        obtain ⟨k15, hF⟩ := ck_some hF
        refine v_iaload sh_255 (by exact ltG hG (by decide)) (ixO k15) dX12_lawTells_94 ?_
        obtain ⟨q16, q16_e, hF⟩ := Option.bind_eq_some_iff.mp hF
        refine c_X12_356 rfl sh_226 (by exact ltG hG (by decide)) (Nat.le_of_ble_eq_true rfl) dX12_lawTells_95 (s_X12_termOf _ q16_e hG) (fun r1 h1 hq => ?_)
        obtain ⟨rfl, hq, hG⟩ := hq
        replace hq := hq.symm
        subst hq
        show V _ _ _ _ (_ :: _) _ _
        refine v_istore (i := 6) dX12_lawTells_98 (by decide) (nlT rfl) ?_
        simp only [List.set_cons_zero, List.set_cons_succ]
        refine v_aload_n (i := 0) dX12_lawTells_100 rfl rfl ?_
        refine g_X12_322 rfl sh_226 (by exact ltG hG (by decide)) dX12_lawTells_101 ?_
        refine v_if_eq 109 dX12_lawTells_104 (by decide) (fun c18 => ?_) (fun c18 => ?_)
        · rw [if_pos c18] at hF
          refine v_iload (i := 5) dX12_lawTells_109 rfl ?_
          refine v_iload (i := 6) dX12_lawTells_111 rfl ?_
          refine v_icmp_lt 119 dX12_lawTells_113 (by decide) (fun c19 => ?_) (fun c19 => ?_)
          · rw [if_pos c19] at hF
            refine v_aload_n (i := 0) dX12_lawTells_119 rfl rfl ?_
            refine v_aload_n (i := 0) dX12_lawTells_120 rfl rfl ?_
            refine g_X12_104 (q := 255) rfl sh_226 (by exact ltG hG (by decide)) (by exact rG hG r0_226_43) dX12_lawTells_121 ?_
            refine v_iload (i := 4) dX12_lawTells_124 rfl ?_
            obtain ⟨k20, hF⟩ := ck_some hF
            refine v_iaload sh_255 (by exact ltG hG (by decide)) (ixO k20) dX12_lawTells_126 ?_
            refine v_aload_n (i := 0) dX12_lawTells_127 rfl rfl ?_
            refine g_X12_107 (q := 256) rfl sh_226 (by exact ltG hG (by decide)) (by exact rG hG r0_226_44) dX12_lawTells_128 ?_
            refine v_iload (i := 4) dX12_lawTells_131 rfl ?_
            obtain ⟨k21, hF⟩ := ck_some hF
            refine v_iaload sh_256 (by exact ltG hG (by decide)) (ixO k21) dX12_lawTells_133 ?_
            obtain ⟨q22, q22_e, hF⟩ := Option.bind_eq_some_iff.mp hF
            refine c_X12_356 rfl sh_226 (by exact ltG hG (by decide)) (Nat.le_of_ble_eq_true rfl) dX12_lawTells_134 (s_X12_termOf _ q22_e hG) (fun r1 h1 hq => ?_)
            obtain ⟨rfl, hq, hG⟩ := hq
            replace hq := hq.symm
            subst hq
            show V _ _ _ _ (_ :: _) _ _
            refine v_istore (i := 5) dX12_lawTells_137 (by decide) (nlT rfl) ?_
            simp only [List.set_cons_zero, List.set_cons_succ]
            refine v_aload_n (i := 0) dX12_lawTells_139 rfl rfl ?_
            refine g_X12_322 rfl sh_226 (by exact ltG hG (by decide)) dX12_lawTells_140 ?_
            refine v_if_eq 150 dX12_lawTells_143 (by decide) (fun c24 => ?_) (fun c24 => ?_)
            · rw [if_pos c24] at hF
              refine v_iload (i := 5) dX12_lawTells_150 rfl ?_
              refine v_ireturn rfl dX12_lawTells_152 ?_
              obtain ⟨rfl, rfl⟩ := Prod.mk.inj (Option.some.inj hF)
              exact ⟨rfl, rfl, hG⟩
            · rw [if_neg c24] at hF
              refine v_iconst (v := 0) dX12_lawTells_146 (by decide) ?_
              refine v_goto 152 dX12_lawTells_147 (by decide) ?_
              refine v_ireturn rfl dX12_lawTells_152 ?_
              obtain ⟨rfl, rfl⟩ := Prod.mk.inj (Option.some.inj hF)
              exact ⟨rfl, rfl, hG⟩
          · rw [if_neg c19] at hF
            refine v_goto 153 dX12_lawTells_116 (by decide) ?_
            refine v_iinc (i := 4) (v := (l4 + 1)) dX12_lawTells_153 rfl rfl (by decide) (nlT rfl) ?_
            simp only [List.set_cons_zero, List.set_cons_succ]
            refine v_goto 39 dX12_lawTells_156 (by decide) ?_
            refine V.weak (la2 := [some (.ref 226), some (.int l1), some (.int l2), some (.int l3), some (.int (l4 + 1)), none, none]) (by simp [wk]) ?_
            exact (s_X12_lawTells_IH_39) _ _ _ _ _ _ _ hF hG
        · rw [if_neg c18] at hF
          refine v_iconst (v := 0) dX12_lawTells_107 (by decide) ?_
          refine v_ireturn rfl dX12_lawTells_108 ?_
          obtain ⟨rfl, rfl⟩ := Prod.mk.inj (Option.some.inj hF)
          exact ⟨rfl, rfl, hG⟩
def F_X12_lawTells (n : Nat) (h : Hp) (x1 : Int32) (x2 : Int32) : Option (Int32 × Hp) := (if ixOK ((4 * (hi h 226 18)) + x1) 8 = true then (if ixOK ((4 * (hi h 226 18)) + x1) 8 = true then (if ((hi h 250 (Int32.toNatClampNeg ((4 * (hi h 226 18)) + x1))) : Int32) = ((hi h 251 (Int32.toNatClampNeg ((4 * (hi h 226 18)) + x1))) : Int32) then some (x2, h) else (if ixOK ((4 * (hi h 226 18)) + x1) 8 = true then W_X12_lawTells n 39 (wrI h 226 52 0)  x1 x2 ((4 * (hi h 226 18)) + x1) (hi (wrI h 226 52 0) 250 (Int32.toNatClampNeg ((4 * (hi h 226 18)) + x1))) else none)) else none) else none)
set_option maxRecDepth 100000 in
set_option maxHeartbeats 4000000 in
theorem s_X12_lawTells (d : Nat) {n : Nat} {h : Hp} {x1 : Int32} {x2 : Int32} {q0 : (Int32 × Hp)} (hF : F_X12_lawTells n h x1 x2 = some q0) (hG : G h)  : Kc mX12_lawTells (d + 1) [.ref 226, .int x1, .int x2] h (fun r1 h1 => r1 = some (.int q0.1) ∧ h1 = q0.2 ∧ G q0.2) := by
  obtain ⟨r, h'⟩ := q0
  have s_X12_lawTells_IH_39 := sw_X12_lawTells d   n
  unfold F_X12_lawTells at hF
  refine Kc.of [some (.ref 226), some (.int x1), some (.int x2), none, none, none, none] ok_X12_lawTells rfl (Nat.le_of_ble_eq_true rfl) ?_
  refine v_iconst (v := 4) dX12_lawTells_0 (by decide) ?_
  refine v_aload_n (i := 0) dX12_lawTells_1 rfl rfl ?_
  refine g_X12_245 rfl sh_226 (by exact ltG hG (by decide)) dX12_lawTells_2 ?_
  refine v_imul dX12_lawTells_5 ?_
  refine v_iload_n (i := 1) dX12_lawTells_6 rfl rfl ?_
  refine v_iadd dX12_lawTells_7 ?_
  refine v_istore_n (i := 3) dX12_lawTells_8 rfl (by decide) (nlT rfl) ?_
  simp only [List.set_cons_zero, List.set_cons_succ]
  refine v_aload_n (i := 0) dX12_lawTells_9 rfl rfl ?_
  refine g_X12_88 (q := 250) rfl sh_226 (by exact ltG hG (by decide)) (by exact rG hG r0_226_37) dX12_lawTells_10 ?_
  refine v_iload_n (i := 3) dX12_lawTells_13 rfl rfl ?_
  obtain ⟨k25, hF⟩ := ck_some hF
  refine v_iaload sh_250 (by exact ltG hG (by decide)) (ixO k25) dX12_lawTells_14 ?_
  refine v_aload_n (i := 0) dX12_lawTells_15 rfl rfl ?_
  refine g_X12_91 (q := 251) rfl sh_226 (by exact ltG hG (by decide)) (by exact rG hG r0_226_38) dX12_lawTells_16 ?_
  refine v_iload_n (i := 3) dX12_lawTells_19 rfl rfl ?_
  obtain ⟨k26, hF⟩ := ck_some hF
  refine v_iaload sh_251 (by exact ltG hG (by decide)) (ixO k26) dX12_lawTells_20 ?_
  refine v_icmp_ne 26 dX12_lawTells_21 (by decide) (fun c27 => ?_) (fun c27 => ?_)
  · rw [if_neg c27] at hF
    refine v_aload_n (i := 0) dX12_lawTells_26 rfl rfl ?_
    refine v_iconst (v := 0) dX12_lawTells_27 (by decide) ?_
    refine p_X12_322 rfl sh_226 (by exact ltG hG (by decide)) (by decide) dX12_lawTells_28 ?_
    refine v_aload_n (i := 0) dX12_lawTells_31 rfl rfl ?_
    refine g_X12_88 (q := 250) rfl sh_226 (by exact ltG hG (by decide)) (by exact rG hG r0_226_37) dX12_lawTells_32 ?_
    refine v_iload_n (i := 3) dX12_lawTells_35 rfl rfl ?_
    obtain ⟨k28, hF⟩ := ck_some hF
    refine v_iaload sh_250 (by exact ltG hG (by decide)) (ixO k28) dX12_lawTells_36 ?_
    refine v_istore (i := 4) dX12_lawTells_37 (by decide) (nlT rfl) ?_
    simp only [List.set_cons_zero, List.set_cons_succ]
    refine V.weak (la2 := [some (.ref 226), some (.int x1), some (.int x2), some (.int ((4 * (hi h 226 18)) + x1)), some (.int (hi (wrI h 226 52 0) 250 (Int32.toNatClampNeg ((4 * (hi h 226 18)) + x1)))), none, none]) (by simp [wk]) ?_
    exact (s_X12_lawTells_IH_39) _ _ _ _ _ _ _ hF hG
  · rw [if_pos c27] at hF
    refine v_iload_n (i := 2) dX12_lawTells_24 rfl rfl ?_
    refine v_ireturn rfl dX12_lawTells_25 ?_
    obtain ⟨rfl, rfl⟩ := Prod.mk.inj (Option.some.inj hF)
    exact ⟨rfl, rfl, hG⟩
def W_X12_leave : Nat → Nat → Hp → Int32 → Int32 → Int32 → Int32 → Int32 → Int32 → Option (Int32 × Hp)
  | 0 => fun _ _ _ _ _ _ _ _ => none
  | n + 1 => fun hd h l1 l2 l3 l4 l5 l6 => (if hd = 35 then (if (60 : Int32) ≤ (l6 : Int32) then (if (l3 : Int32) = 0 then some (l4, h) else some (l5, h)) else ((F_X12_fillsReach n h 267 l1 ((hi h 263 61) + l6)).bind (fun q3 => ((F_X12_firstAt n q3 l2 100).bind (fun q5 => (if (q5.1 : Int32) < 0 then W_X12_leave n 35 q5.2  l1 l2 l3 l4 l5 (l6 + 1) else (if (l4 : Int32) < 0 then W_X12_leave n 35 q5.2  l1 l2 l3 l6 q5.1 (l6 + 1) else (if (q5.1 : Int32) < (l5 : Int32) then W_X12_leave n 35 q5.2  l1 l2 l3 l6 q5.1 (l6 + 1) else W_X12_leave n 35 q5.2  l1 l2 l3 l4 l5 (l6 + 1))))))))) else none)
set_option maxRecDepth 100000 in
set_option maxHeartbeats 4000000 in
theorem sw_X12_leave (d : Nat)  (n : Nat) : (∀ (l1 : Int32) (l2 : Int32) (l3 : Int32) (l4 : Int32) (l5 : Int32) (l6 : Int32) (h : Hp), ∀ (r : Int32) (h' : Hp), W_X12_leave n 35 h  l1 l2 l3 l4 l5 l6 = some (r, h') → G h → V mX12_leave (d + 4) 35 [some (.ref 226), some (.int l1), some (.int l2), some (.int l3), some (.int l4), some (.int l5), some (.int l6), none] [] h (fun r1 h1 => r1 = some (.int r) ∧ h1 = h' ∧ G h')) := by
  induction n with
  | zero => exact by intros; contradiction
  | succ n ih =>
    have s_X12_leave_IH_35 := ih
    intro l1 l2 l3 l4 l5 l6 h r h' hF hG
    unfold W_X12_leave at hF
    rw [if_pos rfl] at hF
    refine v_iload (i := 6) dX12_leave_35 rfl ?_
    refine v_bipush (v := 60) dX12_leave_37 (by decide) ?_
    refine v_icmp_ge 104 dX12_leave_39 (by decide) (fun c1 => ?_) (fun c1 => ?_)
    · rw [if_pos c1] at hF
      refine v_iload_n (i := 3) dX12_leave_104 rfl rfl ?_
      refine v_if_ne 113 dX12_leave_105 (by decide) (fun c2 => ?_) (fun c2 => ?_)
      · rw [if_neg c2] at hF
        refine v_iload (i := 5) dX12_leave_113 rfl ?_
        refine v_ireturn rfl dX12_leave_115 ?_
        obtain ⟨rfl, rfl⟩ := Prod.mk.inj (Option.some.inj hF)
        exact ⟨rfl, rfl, hG⟩
      · rw [if_pos c2] at hF
        refine v_iload (i := 4) dX12_leave_108 rfl ?_
        refine v_goto 115 dX12_leave_110 (by decide) ?_
        refine v_ireturn rfl dX12_leave_115 ?_
        obtain ⟨rfl, rfl⟩ := Prod.mk.inj (Option.some.inj hF)
        exact ⟨rfl, rfl, hG⟩
    · rw [if_neg c1] at hF
      refine v_aload_n (i := 0) dX12_leave_42 rfl rfl ?_
      refine v_aload_n (i := 0) dX12_leave_43 rfl rfl ?_
      refine g_X12_140 (q := 267) rfl sh_226 (by exact ltG hG (by decide)) (by exact rG hG r0_226_61) dX12_leave_44 ?_
      refine v_iload_n (i := 1) dX12_leave_47 rfl rfl ?_
      refine v_aload_n (i := 0) dX12_leave_48 rfl rfl ?_
      refine g_X12_128 (q := 263) rfl sh_226 (by exact ltG hG (by decide)) (by exact rG hG r0_226_54) dX12_leave_49 ?_
      refine v_bipush (v := 61) dX12_leave_52 (by decide) ?_
      refine v_iaload sh_263 (by exact ltG hG (by decide)) (ixK 61 (by decide)) dX12_leave_54 ?_
      refine v_iload (i := 6) dX12_leave_55 rfl ?_
      refine v_iadd dX12_leave_57 ?_
      obtain ⟨q3, q3_e, hF⟩ := Option.bind_eq_some_iff.mp hF
      refine c_X12_442 rfl sh_226 (by exact ltG hG (by decide)) (Nat.le_of_ble_eq_true rfl) dX12_leave_58 (s_X12_fillsReach _ q3_e hG (by first | assumption | exact sc_30 | exact sc_34 | exact sc_10 | exact fd_24 | exact fd_4 | exact lw_25 | exact lw_5 | exact bd_23 | exact bd_3 | exact ⟨by first | assumption | rfl, by first | decide | omega⟩)) (fun r1 h1 hq => ?_)
      obtain ⟨rfl, hq, hG⟩ := hq
      replace hq := hq.symm
      subst hq
      simp only [Option.toList, List.nil_append]
      refine v_aload_n (i := 0) dX12_leave_61 rfl rfl ?_
      refine v_iload_n (i := 2) dX12_leave_62 rfl rfl ?_
      refine v_bipush (v := 100) dX12_leave_63 (by decide) ?_
      obtain ⟨q5, q5_e, hF⟩ := Option.bind_eq_some_iff.mp hF
      refine c_X12_446 rfl sh_226 (by exact ltG hG (by decide)) (Nat.le_of_ble_eq_true rfl) dX12_leave_65 (s_X12_firstAt _ q5_e hG) (fun r1 h1 hq => ?_)
      obtain ⟨rfl, hq, hG⟩ := hq
      replace hq := hq.symm
      subst hq
      show V _ _ _ _ (_ :: _) _ _
      refine v_istore (i := 7) dX12_leave_68 (by decide) (nlT rfl) ?_
      simp only [List.set_cons_zero, List.set_cons_succ]
      refine v_iload (i := 7) dX12_leave_70 rfl ?_
      refine v_if_lt 98 dX12_leave_72 (by decide) (fun c7 => ?_) (fun c7 => ?_)
      · rw [if_pos c7] at hF
        refine v_iinc (i := 6) (v := (l6 + 1)) dX12_leave_98 rfl rfl (by decide) (nlT rfl) ?_
        simp only [List.set_cons_zero, List.set_cons_succ]
        refine v_goto 35 dX12_leave_101 (by decide) ?_
        refine V.weak (la2 := [some (.ref 226), some (.int l1), some (.int l2), some (.int l3), some (.int l4), some (.int l5), some (.int (l6 + 1)), none]) (by simp [wk]) ?_
        exact (s_X12_leave_IH_35) _ _ _ _ _ _ _ _ _ hF hG
      · rw [if_neg c7] at hF
        refine v_iload (i := 4) dX12_leave_75 rfl ?_
        refine v_if_lt 90 dX12_leave_77 (by decide) (fun c8 => ?_) (fun c8 => ?_)
        · rw [if_pos c8] at hF
          refine v_iload (i := 6) dX12_leave_90 rfl ?_
          refine v_istore (i := 4) dX12_leave_92 (by decide) (nlT rfl) ?_
          simp only [List.set_cons_zero, List.set_cons_succ]
          refine v_iload (i := 7) dX12_leave_94 rfl ?_
          refine v_istore (i := 5) dX12_leave_96 (by decide) (nlT rfl) ?_
          simp only [List.set_cons_zero, List.set_cons_succ]
          refine v_iinc (i := 6) (v := (l6 + 1)) dX12_leave_98 rfl rfl (by decide) (nlT rfl) ?_
          simp only [List.set_cons_zero, List.set_cons_succ]
          refine v_goto 35 dX12_leave_101 (by decide) ?_
          refine V.weak (la2 := [some (.ref 226), some (.int l1), some (.int l2), some (.int l3), some (.int l6), some (.int q5.1), some (.int (l6 + 1)), none]) (by simp [wk]) ?_
          exact (s_X12_leave_IH_35) _ _ _ _ _ _ _ _ _ hF hG
        · rw [if_neg c8] at hF
          refine v_iload (i := 7) dX12_leave_80 rfl ?_
          refine v_iload (i := 5) dX12_leave_82 rfl ?_
          refine v_icmp_lt 90 dX12_leave_84 (by decide) (fun c9 => ?_) (fun c9 => ?_)
          · rw [if_pos c9] at hF
            refine v_iload (i := 6) dX12_leave_90 rfl ?_
            refine v_istore (i := 4) dX12_leave_92 (by decide) (nlT rfl) ?_
            simp only [List.set_cons_zero, List.set_cons_succ]
            refine v_iload (i := 7) dX12_leave_94 rfl ?_
            refine v_istore (i := 5) dX12_leave_96 (by decide) (nlT rfl) ?_
            simp only [List.set_cons_zero, List.set_cons_succ]
            refine v_iinc (i := 6) (v := (l6 + 1)) dX12_leave_98 rfl rfl (by decide) (nlT rfl) ?_
            simp only [List.set_cons_zero, List.set_cons_succ]
            refine v_goto 35 dX12_leave_101 (by decide) ?_
            refine V.weak (la2 := [some (.ref 226), some (.int l1), some (.int l2), some (.int l3), some (.int l6), some (.int q5.1), some (.int (l6 + 1)), none]) (by simp [wk]) ?_
            exact (s_X12_leave_IH_35) _ _ _ _ _ _ _ _ _ hF hG
          · rw [if_neg c9] at hF
            refine v_goto 98 dX12_leave_87 (by decide) ?_
            refine v_iinc (i := 6) (v := (l6 + 1)) dX12_leave_98 rfl rfl (by decide) (nlT rfl) ?_
            simp only [List.set_cons_zero, List.set_cons_succ]
            refine v_goto 35 dX12_leave_101 (by decide) ?_
            refine V.weak (la2 := [some (.ref 226), some (.int l1), some (.int l2), some (.int l3), some (.int l4), some (.int l5), some (.int (l6 + 1)), none]) (by simp [wk]) ?_
            exact (s_X12_leave_IH_35) _ _ _ _ _ _ _ _ _ hF hG
def F_X12_leave (n : Nat) (h : Hp) (x1 : Int32) (x2 : Int32) (x3 : Int32) : Option (Int32 × Hp) := ((F_X12_areFree n h x1 x2).bind (fun q10 => (if (q10.1 : Int32) = 0 then some ((-1), q10.2) else ((F_X12_in n q10.2 x3 0 1).bind (fun q13 => (if (q13.1 : Int32) = 0 then some ((-1), q13.2) else ((F_X12_copies n q13.2).bind (fun q16 => W_X12_leave n 35 q16  x1 x2 x3 (-2) (-2) 0))))))))
set_option maxRecDepth 100000 in
set_option maxHeartbeats 4000000 in
theorem s_X12_leave (d : Nat) {n : Nat} {h : Hp} {x1 : Int32} {x2 : Int32} {x3 : Int32} {q0 : (Int32 × Hp)} (hF : F_X12_leave n h x1 x2 x3 = some q0) (hG : G h)  : Kc mX12_leave (d + 4) [.ref 226, .int x1, .int x2, .int x3] h (fun r1 h1 => r1 = some (.int q0.1) ∧ h1 = q0.2 ∧ G q0.2) := by
  obtain ⟨r, h'⟩ := q0
  have s_X12_leave_IH_35 := sw_X12_leave d   n
  unfold F_X12_leave at hF
  refine Kc.of [some (.ref 226), some (.int x1), some (.int x2), some (.int x3), none, none, none, none] ok_X12_leave rfl (Nat.le_of_ble_eq_true rfl) ?_
  refine v_aload_n (i := 0) dX12_leave_0 rfl rfl ?_
  refine v_iload_n (i := 1) dX12_leave_1 rfl rfl ?_
  refine v_iload_n (i := 2) dX12_leave_2 rfl rfl ?_
  obtain ⟨q10, q10_e, hF⟩ := Option.bind_eq_some_iff.mp hF
  refine c_X12_439 rfl sh_226 (by exact ltG hG (by decide)) (Nat.le_of_ble_eq_true rfl) dX12_leave_3 (s_X12_areFree _ q10_e hG) (fun r1 h1 hq => ?_)
  obtain ⟨rfl, hq, hG⟩ := hq
  replace hq := hq.symm
  subst hq
  show V _ _ _ _ (_ :: _) _ _
  refine v_if_eq 18 dX12_leave_6 (by decide) (fun c12 => ?_) (fun c12 => ?_)
  · rw [if_pos c12] at hF
    refine v_iconst (v := (-1)) dX12_leave_18 (by decide) ?_
    refine v_ireturn rfl dX12_leave_19 ?_
    obtain ⟨rfl, rfl⟩ := Prod.mk.inj (Option.some.inj hF)
    exact ⟨rfl, rfl, hG⟩
  · rw [if_neg c12] at hF
    refine v_iload_n (i := 3) dX12_leave_9 rfl rfl ?_
    refine v_iconst (v := 0) dX12_leave_10 (by decide) ?_
    refine v_iconst (v := 1) dX12_leave_11 (by decide) ?_
    obtain ⟨q13, q13_e, hF⟩ := Option.bind_eq_some_iff.mp hF
    refine c_X12_330 rfl (Nat.le_of_ble_eq_true rfl) dX12_leave_12 (s_X12_in _ q13_e hG) (fun r1 h1 hq => ?_)
    obtain ⟨rfl, hq, hG⟩ := hq
    replace hq := hq.symm
    subst hq
    show V _ _ _ _ (_ :: _) _ _
    refine v_if_ne 20 dX12_leave_15 (by decide) (fun c15 => ?_) (fun c15 => ?_)
    · rw [if_neg c15] at hF
      refine v_aload_n (i := 0) dX12_leave_20 rfl rfl ?_
      obtain ⟨q16, q16_e, hF⟩ := Option.bind_eq_some_iff.mp hF
      refine c_X12_346 rfl sh_226 (by exact ltG hG (by decide)) (Nat.le_of_ble_eq_true rfl) dX12_leave_21 (s_X12_copies _ q16_e hG) (fun r1 h1 hq => ?_)
      obtain ⟨rfl, hq, hG⟩ := hq
      replace hq := hq.symm
      subst hq
      simp only [Option.toList, List.nil_append]
      refine v_bipush (v := (-2)) dX12_leave_24 (by decide) ?_
      refine v_istore (i := 4) dX12_leave_26 (by decide) (nlT rfl) ?_
      simp only [List.set_cons_zero, List.set_cons_succ]
      refine v_bipush (v := (-2)) dX12_leave_28 (by decide) ?_
      refine v_istore (i := 5) dX12_leave_30 (by decide) (nlT rfl) ?_
      simp only [List.set_cons_zero, List.set_cons_succ]
      refine v_iconst (v := 0) dX12_leave_32 (by decide) ?_
      refine v_istore (i := 6) dX12_leave_33 (by decide) (nlT rfl) ?_
      simp only [List.set_cons_zero, List.set_cons_succ]
      refine V.weak (la2 := [some (.ref 226), some (.int x1), some (.int x2), some (.int x3), some (.int (-2)), some (.int (-2)), some (.int 0), none]) (by simp [wk]) ?_
      exact (s_X12_leave_IH_35) _ _ _ _ _ _ _ _ _ hF hG
    · rw [if_pos c15] at hF
      refine v_iconst (v := (-1)) dX12_leave_18 (by decide) ?_
      refine v_ireturn rfl dX12_leave_19 ?_
      obtain ⟨rfl, rfl⟩ := Prod.mk.inj (Option.some.inj hF)
      exact ⟨rfl, rfl, hG⟩
def F_X12_lotOf (n : Nat) (h : Hp) (x1 : Int32) : Option (Int32 × Hp) := ((F_X12_mixed n h (hi h 226 55) 197).bind (fun q1 => ((F_X12_mixed n q1.2 q1.1 x1).bind (fun q3 => some (((((q3.1 : Int32).toUInt32 >>> ((1 : Int32).toUInt32 &&& Int32.toUInt32 31)).toInt32) - (((q3.1 : Int32).toUInt32 >>> ((1 : Int32).toUInt32 &&& Int32.toUInt32 31)).toInt32) / 100 * 100), q3.2)))))
set_option maxRecDepth 100000 in
set_option maxHeartbeats 4000000 in
theorem s_X12_lotOf (d : Nat) {n : Nat} {h : Hp} {x1 : Int32} {q0 : (Int32 × Hp)} (hF : F_X12_lotOf n h x1 = some q0) (hG : G h)  : Kc mX12_lotOf (d + 1) [.ref 226, .int x1] h (fun r1 h1 => r1 = some (.int q0.1) ∧ h1 = q0.2 ∧ G q0.2) := by
  obtain ⟨r, h'⟩ := q0
  unfold F_X12_lotOf at hF
  refine Kc.of [some (.ref 226), some (.int x1)] ok_X12_lotOf rfl (Nat.le_of_ble_eq_true rfl) ?_
  refine v_aload_n (i := 0) dX12_lotOf_0 rfl rfl ?_
  refine g_X12_337 rfl sh_226 (by exact ltG hG (by decide)) dX12_lotOf_1 ?_
  refine v_sipush (v := 197) dX12_lotOf_4 (by decide) ?_
  obtain ⟨q1, q1_e, hF⟩ := Option.bind_eq_some_iff.mp hF
  refine c_X12_350 rfl (Nat.le_of_ble_eq_true rfl) dX12_lotOf_7 (s_X12_mixed _ q1_e hG) (fun r1 h1 hq => ?_)
  obtain ⟨rfl, hq, hG⟩ := hq
  replace hq := hq.symm
  subst hq
  show V _ _ _ _ (_ :: _) _ _
  refine v_iload_n (i := 1) dX12_lotOf_10 rfl rfl ?_
  obtain ⟨q3, q3_e, hF⟩ := Option.bind_eq_some_iff.mp hF
  refine c_X12_350 rfl (Nat.le_of_ble_eq_true rfl) dX12_lotOf_11 (s_X12_mixed _ q3_e hG) (fun r1 h1 hq => ?_)
  obtain ⟨rfl, hq, hG⟩ := hq
  replace hq := hq.symm
  subst hq
  show V _ _ _ _ (_ :: _) _ _
  refine v_iconst (v := 1) dX12_lotOf_14 (by decide) ?_
  refine v_iushr dX12_lotOf_15 ?_
  refine v_bipush (v := 100) dX12_lotOf_16 (by decide) ?_
  refine v_irem dX12_lotOf_18 (by decide) ?_
  refine v_ireturn rfl dX12_lotOf_19 ?_
  obtain ⟨rfl, rfl⟩ := Prod.mk.inj (Option.some.inj hF)
  exact ⟨rfl, rfl, hG⟩
def F_X12_loud (n : Nat) (h : Hp) (x1 : Int32) : Option (Int32 × Hp) := ((F_X12_isLong n h x1).bind (fun q1 => (if (q1.1 : Int32) = 0 then some ((-1), q1.2) else ((F_X12_copies n q1.2).bind (fun q4 => ((F_X12_loudBits n q4 ((hi q4 263 61) + x1)).bind (fun q6 => some (q6.1, q6.2))))))))
set_option maxRecDepth 100000 in
set_option maxHeartbeats 4000000 in
theorem s_X12_loud (d : Nat) {n : Nat} {h : Hp} {x1 : Int32} {q0 : (Int32 × Hp)} (hF : F_X12_loud n h x1 = some q0) (hG : G h)  : Kc mX12_loud (d + 2) [.ref 226, .int x1] h (fun r1 h1 => r1 = some (.int q0.1) ∧ h1 = q0.2 ∧ G q0.2) := by
  obtain ⟨r, h'⟩ := q0
  unfold F_X12_loud at hF
  refine Kc.of [some (.ref 226), some (.int x1)] ok_X12_loud rfl (Nat.le_of_ble_eq_true rfl) ?_
  refine v_iload_n (i := 1) dX12_loud_0 rfl rfl ?_
  obtain ⟨q1, q1_e, hF⟩ := Option.bind_eq_some_iff.mp hF
  refine c_X12_415 rfl (Nat.le_of_ble_eq_true rfl) dX12_loud_1 (s_X12_isLong _ q1_e hG) (fun r1 h1 hq => ?_)
  obtain ⟨rfl, hq, hG⟩ := hq
  replace hq := hq.symm
  subst hq
  show V _ _ _ _ (_ :: _) _ _
  refine v_if_ne 9 dX12_loud_4 (by decide) (fun c3 => ?_) (fun c3 => ?_)
  · rw [if_neg c3] at hF
    refine v_aload_n (i := 0) dX12_loud_9 rfl rfl ?_
    obtain ⟨q4, q4_e, hF⟩ := Option.bind_eq_some_iff.mp hF
    refine c_X12_346 rfl sh_226 (by exact ltG hG (by decide)) (Nat.le_of_ble_eq_true rfl) dX12_loud_10 (s_X12_copies _ q4_e hG) (fun r1 h1 hq => ?_)
    obtain ⟨rfl, hq, hG⟩ := hq
    replace hq := hq.symm
    subst hq
    simp only [Option.toList, List.nil_append]
    refine v_aload_n (i := 0) dX12_loud_13 rfl rfl ?_
    refine v_aload_n (i := 0) dX12_loud_14 rfl rfl ?_
    refine g_X12_128 (q := 263) rfl sh_226 (by exact ltG hG (by decide)) (by exact rG hG r0_226_54) dX12_loud_15 ?_
    refine v_bipush (v := 61) dX12_loud_18 (by decide) ?_
    refine v_iaload sh_263 (by exact ltG hG (by decide)) (ixK 61 (by decide)) dX12_loud_20 ?_
    refine v_iload_n (i := 1) dX12_loud_21 rfl rfl ?_
    refine v_iadd dX12_loud_22 ?_
    obtain ⟨q6, q6_e, hF⟩ := Option.bind_eq_some_iff.mp hF
    refine c_X12_421 rfl sh_226 (by exact ltG hG (by decide)) (Nat.le_of_ble_eq_true rfl) dX12_loud_23 (s_X12_loudBits _ q6_e hG) (fun r1 h1 hq => ?_)
    obtain ⟨rfl, hq, hG⟩ := hq
    replace hq := hq.symm
    subst hq
    show V _ _ _ _ (_ :: _) _ _
    refine v_ireturn rfl dX12_loud_26 ?_
    obtain ⟨rfl, rfl⟩ := Prod.mk.inj (Option.some.inj hF)
    exact ⟨rfl, rfl, hG⟩
  · rw [if_pos c3] at hF
    refine v_iconst (v := (-1)) dX12_loud_7 (by decide) ?_
    refine v_ireturn rfl dX12_loud_8 ?_
    obtain ⟨rfl, rfl⟩ := Prod.mk.inj (Option.some.inj hF)
    exact ⟨rfl, rfl, hG⟩
def W_X12_meet : Nat → Nat → Hp → Int32 → Int32 → Int32 → Int32 → Option (Int32 × Hp)
  | 0 => fun _ _ _ _ _ _ => none
  | n + 1 => fun hd h l1 l2 l3 l4 => (if hd = 82 then (if (100 : Int32) < (l4 : Int32) then some ((-2), h) else (if ixOK l4 101 = true then (if ixOK l4 101 = true then (if ((((hi h 267 (Int32.toNatClampNeg l4)) : Int32) &&& ((hi h 268 (Int32.toNatClampNeg l4)) : Int32)) : Int32) = 0 then W_X12_meet n 82 h  l1 l2 l3 (l4 + 1) else (if (l3 : Int32) = 0 then some (l4, h) else (if ixOK l4 101 = true then (if ixOK l4 101 = true then ((F_X12_lowestOf n h (((hi h 267 (Int32.toNatClampNeg l4)) : Int32) &&& ((hi h 268 (Int32.toNatClampNeg l4)) : Int32))).bind (fun q8 => some (q8.1, q8.2))) else none) else none))) else none) else none)) else none)
set_option maxRecDepth 100000 in
set_option maxHeartbeats 4000000 in
theorem sw_X12_meet (d : Nat)  (n : Nat) : (∀ (l1 : Int32) (l2 : Int32) (l3 : Int32) (l4 : Int32) (h : Hp), ∀ (r : Int32) (h' : Hp), W_X12_meet n 82 h  l1 l2 l3 l4 = some (r, h') → G h → V mX12_meet (d + 4) 82 [some (.ref 226), some (.int l1), some (.int l2), some (.int l3), some (.int l4)] [] h (fun r1 h1 => r1 = some (.int r) ∧ h1 = h' ∧ G h')) := by
  induction n with
  | zero => exact by intros; contradiction
  | succ n ih =>
    have s_X12_meet_IH_82 := ih
    intro l1 l2 l3 l4 h r h' hF hG
    unfold W_X12_meet at hF
    rw [if_pos rfl] at hF
    refine v_iload (i := 4) dX12_meet_82 rfl ?_
    refine v_bipush (v := 100) dX12_meet_84 (by decide) ?_
    refine v_icmp_gt 141 dX12_meet_86 (by decide) (fun c1 => ?_) (fun c1 => ?_)
    · rw [if_pos c1] at hF
      refine v_bipush (v := (-2)) dX12_meet_141 (by decide) ?_
      refine v_ireturn rfl dX12_meet_143 ?_
      obtain ⟨rfl, rfl⟩ := Prod.mk.inj (Option.some.inj hF)
      exact ⟨rfl, rfl, hG⟩
    · rw [if_neg c1] at hF
      refine v_aload_n (i := 0) dX12_meet_89 rfl rfl ?_
      refine g_X12_140 (q := 267) rfl sh_226 (by exact ltG hG (by decide)) (by exact rG hG r0_226_61) dX12_meet_90 ?_
      refine v_iload (i := 4) dX12_meet_93 rfl ?_
      obtain ⟨k2, hF⟩ := ck_some hF
      refine v_iaload sh_267 (by exact ltG hG (by decide)) (ixO k2) dX12_meet_95 ?_
      refine v_aload_n (i := 0) dX12_meet_96 rfl rfl ?_
      refine g_X12_143 (q := 268) rfl sh_226 (by exact ltG hG (by decide)) (by exact rG hG r0_226_62) dX12_meet_97 ?_
      refine v_iload (i := 4) dX12_meet_100 rfl ?_
      obtain ⟨k3, hF⟩ := ck_some hF
      refine v_iaload sh_268 (by exact ltG hG (by decide)) (ixO k3) dX12_meet_102 ?_
      refine v_iand dX12_meet_103 ?_
      refine v_if_eq 135 dX12_meet_104 (by decide) (fun c4 => ?_) (fun c4 => ?_)
      · rw [if_pos c4] at hF
        refine v_iinc (i := 4) (v := (l4 + 1)) dX12_meet_135 rfl rfl (by decide) (nlT rfl) ?_
        simp only [List.set_cons_zero, List.set_cons_succ]
        refine v_goto 82 dX12_meet_138 (by decide) ?_
        refine V.weak (la2 := [some (.ref 226), some (.int l1), some (.int l2), some (.int l3), some (.int (l4 + 1))]) (by simp [wk]) ?_
        exact (s_X12_meet_IH_82) _ _ _ _ _ _ _ hF hG
      · rw [if_neg c4] at hF
        refine v_iload_n (i := 3) dX12_meet_107 rfl rfl ?_
        refine v_if_ne 116 dX12_meet_108 (by decide) (fun c5 => ?_) (fun c5 => ?_)
        · rw [if_neg c5] at hF
          refine v_aload_n (i := 0) dX12_meet_116 rfl rfl ?_
          refine g_X12_140 (q := 267) rfl sh_226 (by exact ltG hG (by decide)) (by exact rG hG r0_226_61) dX12_meet_117 ?_
          refine v_iload (i := 4) dX12_meet_120 rfl ?_
          obtain ⟨k6, hF⟩ := ck_some hF
          refine v_iaload sh_267 (by exact ltG hG (by decide)) (ixO k6) dX12_meet_122 ?_
          refine v_aload_n (i := 0) dX12_meet_123 rfl rfl ?_
          refine g_X12_143 (q := 268) rfl sh_226 (by exact ltG hG (by decide)) (by exact rG hG r0_226_62) dX12_meet_124 ?_
          refine v_iload (i := 4) dX12_meet_127 rfl ?_
          obtain ⟨k7, hF⟩ := ck_some hF
          refine v_iaload sh_268 (by exact ltG hG (by decide)) (ixO k7) dX12_meet_129 ?_
          refine v_iand dX12_meet_130 ?_
          obtain ⟨q8, q8_e, hF⟩ := Option.bind_eq_some_iff.mp hF
          refine c_X12_436 rfl (Nat.le_of_ble_eq_true rfl) dX12_meet_131 (s_X12_lowestOf _ q8_e hG) (fun r1 h1 hq => ?_)
          obtain ⟨rfl, hq, hG⟩ := hq
          replace hq := hq.symm
          subst hq
          show V _ _ _ _ (_ :: _) _ _
          refine v_ireturn rfl dX12_meet_134 ?_
          obtain ⟨rfl, rfl⟩ := Prod.mk.inj (Option.some.inj hF)
          exact ⟨rfl, rfl, hG⟩
        · rw [if_pos c5] at hF
          refine v_iload (i := 4) dX12_meet_111 rfl ?_
          refine v_goto 134 dX12_meet_113 (by decide) ?_
          refine v_ireturn rfl dX12_meet_134 ?_
          obtain ⟨rfl, rfl⟩ := Prod.mk.inj (Option.some.inj hF)
          exact ⟨rfl, rfl, hG⟩
def F_X12_meet (n : Nat) (h : Hp) (x1 : Int32) (x2 : Int32) (x3 : Int32) : Option (Int32 × Hp) := ((F_X12_isGoer n h x1).bind (fun q10 => (if (q10.1 : Int32) = 0 then some ((-1), q10.2) else ((F_X12_isGoer n q10.2 x2).bind (fun q13 => (if (q13.1 : Int32) = 0 then some ((-1), q13.2) else ((F_X12_in n q13.2 x3 0 1).bind (fun q16 => (if (q16.1 : Int32) = 0 then some ((-1), q16.2) else ((F_X12_copies n q16.2).bind (fun q19 => (if ixOK (51 + x1) 63 = true then ((F_X12_fillsReach n q19 267 (hi q19 263 (Int32.toNatClampNeg (51 + x1))) (hi q19 263 61)).bind (fun q22 => (if ixOK (51 + x2) 63 = true then ((F_X12_fillsReach n q22 268 (hi q22 263 (Int32.toNatClampNeg (51 + x2))) (hi q22 263 61)).bind (fun q25 => W_X12_meet n 82 q25  x1 x2 x3 0)) else none))) else none))))))))))))
set_option maxRecDepth 100000 in
set_option maxHeartbeats 4000000 in
theorem s_X12_meet (d : Nat) {n : Nat} {h : Hp} {x1 : Int32} {x2 : Int32} {x3 : Int32} {q0 : (Int32 × Hp)} (hF : F_X12_meet n h x1 x2 x3 = some q0) (hG : G h)  : Kc mX12_meet (d + 4) [.ref 226, .int x1, .int x2, .int x3] h (fun r1 h1 => r1 = some (.int q0.1) ∧ h1 = q0.2 ∧ G q0.2) := by
  obtain ⟨r, h'⟩ := q0
  have s_X12_meet_IH_82 := sw_X12_meet d   n
  unfold F_X12_meet at hF
  refine Kc.of [some (.ref 226), some (.int x1), some (.int x2), some (.int x3), none] ok_X12_meet rfl (Nat.le_of_ble_eq_true rfl) ?_
  refine v_aload_n (i := 0) dX12_meet_0 rfl rfl ?_
  refine v_iload_n (i := 1) dX12_meet_1 rfl rfl ?_
  obtain ⟨q10, q10_e, hF⟩ := Option.bind_eq_some_iff.mp hF
  refine c_X12_409 rfl sh_226 (by exact ltG hG (by decide)) (Nat.le_of_ble_eq_true rfl) dX12_meet_2 (s_X12_isGoer _ q10_e hG) (fun r1 h1 hq => ?_)
  obtain ⟨rfl, hq, hG⟩ := hq
  replace hq := hq.symm
  subst hq
  show V _ _ _ _ (_ :: _) _ _
  refine v_if_eq 25 dX12_meet_5 (by decide) (fun c12 => ?_) (fun c12 => ?_)
  · rw [if_pos c12] at hF
    refine v_iconst (v := (-1)) dX12_meet_25 (by decide) ?_
    refine v_ireturn rfl dX12_meet_26 ?_
    obtain ⟨rfl, rfl⟩ := Prod.mk.inj (Option.some.inj hF)
    exact ⟨rfl, rfl, hG⟩
  · rw [if_neg c12] at hF
    refine v_aload_n (i := 0) dX12_meet_8 rfl rfl ?_
    refine v_iload_n (i := 2) dX12_meet_9 rfl rfl ?_
    obtain ⟨q13, q13_e, hF⟩ := Option.bind_eq_some_iff.mp hF
    refine c_X12_409 rfl sh_226 (by exact ltG hG (by decide)) (Nat.le_of_ble_eq_true rfl) dX12_meet_10 (s_X12_isGoer _ q13_e hG) (fun r1 h1 hq => ?_)
    obtain ⟨rfl, hq, hG⟩ := hq
    replace hq := hq.symm
    subst hq
    show V _ _ _ _ (_ :: _) _ _
    refine v_if_eq 25 dX12_meet_13 (by decide) (fun c15 => ?_) (fun c15 => ?_)
    · rw [if_pos c15] at hF
      refine v_iconst (v := (-1)) dX12_meet_25 (by decide) ?_
      refine v_ireturn rfl dX12_meet_26 ?_
      obtain ⟨rfl, rfl⟩ := Prod.mk.inj (Option.some.inj hF)
      exact ⟨rfl, rfl, hG⟩
    · rw [if_neg c15] at hF
      refine v_iload_n (i := 3) dX12_meet_16 rfl rfl ?_
      refine v_iconst (v := 0) dX12_meet_17 (by decide) ?_
      refine v_iconst (v := 1) dX12_meet_18 (by decide) ?_
      obtain ⟨q16, q16_e, hF⟩ := Option.bind_eq_some_iff.mp hF
      refine c_X12_330 rfl (Nat.le_of_ble_eq_true rfl) dX12_meet_19 (s_X12_in _ q16_e hG) (fun r1 h1 hq => ?_)
      obtain ⟨rfl, hq, hG⟩ := hq
      replace hq := hq.symm
      subst hq
      show V _ _ _ _ (_ :: _) _ _
      refine v_if_ne 27 dX12_meet_22 (by decide) (fun c18 => ?_) (fun c18 => ?_)
      · rw [if_neg c18] at hF
        refine v_aload_n (i := 0) dX12_meet_27 rfl rfl ?_
        obtain ⟨q19, q19_e, hF⟩ := Option.bind_eq_some_iff.mp hF
        refine c_X12_346 rfl sh_226 (by exact ltG hG (by decide)) (Nat.le_of_ble_eq_true rfl) dX12_meet_28 (s_X12_copies _ q19_e hG) (fun r1 h1 hq => ?_)
        obtain ⟨rfl, hq, hG⟩ := hq
        replace hq := hq.symm
        subst hq
        simp only [Option.toList, List.nil_append]
        refine v_aload_n (i := 0) dX12_meet_31 rfl rfl ?_
        refine v_aload_n (i := 0) dX12_meet_32 rfl rfl ?_
        refine g_X12_140 (q := 267) rfl sh_226 (by exact ltG hG (by decide)) (by exact rG hG r0_226_61) dX12_meet_33 ?_
        refine v_aload_n (i := 0) dX12_meet_36 rfl rfl ?_
        refine g_X12_128 (q := 263) rfl sh_226 (by exact ltG hG (by decide)) (by exact rG hG r0_226_54) dX12_meet_37 ?_
        refine v_bipush (v := 51) dX12_meet_40 (by decide) ?_
        refine v_iload_n (i := 1) dX12_meet_42 rfl rfl ?_
        refine v_iadd dX12_meet_43 ?_
        obtain ⟨k21, hF⟩ := ck_some hF
        refine v_iaload sh_263 (by exact ltG hG (by decide)) (ixO k21) dX12_meet_44 ?_
        refine v_aload_n (i := 0) dX12_meet_45 rfl rfl ?_
        refine g_X12_128 (q := 263) rfl sh_226 (by exact ltG hG (by decide)) (by exact rG hG r0_226_54) dX12_meet_46 ?_
        refine v_bipush (v := 61) dX12_meet_49 (by decide) ?_
        refine v_iaload sh_263 (by exact ltG hG (by decide)) (ixK 61 (by decide)) dX12_meet_51 ?_
        obtain ⟨q22, q22_e, hF⟩ := Option.bind_eq_some_iff.mp hF
        refine c_X12_442 rfl sh_226 (by exact ltG hG (by decide)) (Nat.le_of_ble_eq_true rfl) dX12_meet_52 (s_X12_fillsReach _ q22_e hG (by first | assumption | exact sc_30 | exact sc_34 | exact sc_10 | exact fd_24 | exact fd_4 | exact lw_25 | exact lw_5 | exact bd_23 | exact bd_3 | exact ⟨by first | assumption | rfl, by first | decide | omega⟩)) (fun r1 h1 hq => ?_)
        obtain ⟨rfl, hq, hG⟩ := hq
        replace hq := hq.symm
        subst hq
        simp only [Option.toList, List.nil_append]
        refine v_aload_n (i := 0) dX12_meet_55 rfl rfl ?_
        refine v_aload_n (i := 0) dX12_meet_56 rfl rfl ?_
        refine g_X12_143 (q := 268) rfl sh_226 (by exact ltG hG (by decide)) (by exact rG hG r0_226_62) dX12_meet_57 ?_
        refine v_aload_n (i := 0) dX12_meet_60 rfl rfl ?_
        refine g_X12_128 (q := 263) rfl sh_226 (by exact ltG hG (by decide)) (by exact rG hG r0_226_54) dX12_meet_61 ?_
        refine v_bipush (v := 51) dX12_meet_64 (by decide) ?_
        refine v_iload_n (i := 2) dX12_meet_66 rfl rfl ?_
        refine v_iadd dX12_meet_67 ?_
        obtain ⟨k24, hF⟩ := ck_some hF
        refine v_iaload sh_263 (by exact ltG hG (by decide)) (ixO k24) dX12_meet_68 ?_
        refine v_aload_n (i := 0) dX12_meet_69 rfl rfl ?_
        refine g_X12_128 (q := 263) rfl sh_226 (by exact ltG hG (by decide)) (by exact rG hG r0_226_54) dX12_meet_70 ?_
        refine v_bipush (v := 61) dX12_meet_73 (by decide) ?_
        refine v_iaload sh_263 (by exact ltG hG (by decide)) (ixK 61 (by decide)) dX12_meet_75 ?_
        obtain ⟨q25, q25_e, hF⟩ := Option.bind_eq_some_iff.mp hF
        refine c_X12_442 rfl sh_226 (by exact ltG hG (by decide)) (Nat.le_of_ble_eq_true rfl) dX12_meet_76 (s_X12_fillsReach _ q25_e hG (by first | assumption | exact sc_30 | exact sc_34 | exact sc_10 | exact fd_24 | exact fd_4 | exact lw_25 | exact lw_5 | exact bd_23 | exact bd_3 | exact ⟨by first | assumption | rfl, by first | decide | omega⟩)) (fun r1 h1 hq => ?_)
        obtain ⟨rfl, hq, hG⟩ := hq
        replace hq := hq.symm
        subst hq
        simp only [Option.toList, List.nil_append]
        refine v_iconst (v := 0) dX12_meet_79 (by decide) ?_
        refine v_istore (i := 4) dX12_meet_80 (by decide) (nlT rfl) ?_
        simp only [List.set_cons_zero, List.set_cons_succ]
        refine V.weak (la2 := [some (.ref 226), some (.int x1), some (.int x2), some (.int x3), some (.int 0)]) (by simp [wk]) ?_
        exact (s_X12_meet_IH_82) _ _ _ _ _ _ _ hF hG
      · rw [if_pos c18] at hF
        refine v_iconst (v := (-1)) dX12_meet_25 (by decide) ?_
        refine v_ireturn rfl dX12_meet_26 ?_
        obtain ⟨rfl, rfl⟩ := Prod.mk.inj (Option.some.inj hF)
        exact ⟨rfl, rfl, hG⟩
def F_X12_pairedWith (n : Nat) (h : Hp) (x1 : Int32) (x2 : Int32) (x3 : Int32) : Option (Int32 × Hp) := ((F_X12_unlike n h x1 x2).bind (fun q1 => (if ixOK ((x3 : Int32) &&& (((((1 : Int32) <<< ((x2 : Int32) &&& 31)) : Int32) ^^^ ((-1) : Int32)) : Int32)) 32 = true then some (((q1.1 - 10000) + (hi q1.2 270 (Int32.toNatClampNeg ((x3 : Int32) &&& (((((1 : Int32) <<< ((x2 : Int32) &&& 31)) : Int32) ^^^ ((-1) : Int32)) : Int32))))), q1.2) else none)))
set_option maxRecDepth 100000 in
set_option maxHeartbeats 4000000 in
theorem s_X12_pairedWith (d : Nat) {n : Nat} {h : Hp} {x1 : Int32} {x2 : Int32} {x3 : Int32} {q0 : (Int32 × Hp)} (hF : F_X12_pairedWith n h x1 x2 x3 = some q0) (hG : G h)  : Kc mX12_pairedWith (d + 2) [.ref 226, .int x1, .int x2, .int x3] h (fun r1 h1 => r1 = some (.int q0.1) ∧ h1 = q0.2 ∧ G q0.2) := by
  obtain ⟨r, h'⟩ := q0
  unfold F_X12_pairedWith at hF
  refine Kc.of [some (.ref 226), some (.int x1), some (.int x2), some (.int x3)] ok_X12_pairedWith rfl (Nat.le_of_ble_eq_true rfl) ?_
  refine v_aload_n (i := 0) dX12_pairedWith_0 rfl rfl ?_
  refine v_iload_n (i := 1) dX12_pairedWith_1 rfl rfl ?_
  refine v_iload_n (i := 2) dX12_pairedWith_2 rfl rfl ?_
  obtain ⟨q1, q1_e, hF⟩ := Option.bind_eq_some_iff.mp hF
  refine c_X12_483 rfl sh_226 (by exact ltG hG (by decide)) (Nat.le_of_ble_eq_true rfl) dX12_pairedWith_3 (s_X12_unlike _ q1_e hG) (fun r1 h1 hq => ?_)
  obtain ⟨rfl, hq, hG⟩ := hq
  replace hq := hq.symm
  subst hq
  show V _ _ _ _ (_ :: _) _ _
  refine v_sipush (v := 10000) dX12_pairedWith_6 (by decide) ?_
  refine v_isub dX12_pairedWith_9 ?_
  refine v_aload_n (i := 0) dX12_pairedWith_10 rfl rfl ?_
  refine g_X12_149 (q := 270) rfl sh_226 (by exact ltG hG (by decide)) (by exact rG hG r0_226_64) dX12_pairedWith_11 ?_
  refine v_iload_n (i := 3) dX12_pairedWith_14 rfl rfl ?_
  refine v_iconst (v := 1) dX12_pairedWith_15 (by decide) ?_
  refine v_iload_n (i := 2) dX12_pairedWith_16 rfl rfl ?_
  refine v_ishl dX12_pairedWith_17 ?_
  refine v_iconst (v := (-1)) dX12_pairedWith_18 (by decide) ?_
  refine v_ixor dX12_pairedWith_19 ?_
  refine v_iand dX12_pairedWith_20 ?_
  obtain ⟨k3, hF⟩ := ck_some hF
  refine v_iaload sh_270 (by exact ltG hG (by decide)) (ixO k3) dX12_pairedWith_21 ?_
  refine v_iadd dX12_pairedWith_22 ?_
  refine v_ireturn rfl dX12_pairedWith_23 ?_
  obtain ⟨rfl, rfl⟩ := Prod.mk.inj (Option.some.inj hF)
  exact ⟨rfl, rfl, hG⟩
def W_X12_part : Nat → Nat → Hp → Int32 → Int32 → Int32 → Int32 → Int32 → Int32 → Option (Int32 × Hp)
  | 0 => fun _ _ _ _ _ _ _ _ => none
  | n + 1 => fun hd h l1 l2 l3 l4 l5 l6 => (if hd = 50 then ((F_X12_cells n h).bind (fun q1 => (if (q1.1 : Int32) ≤ (l4 : Int32) then some (l3, q1.2) else ((F_X12_isOther n q1.2 l4 l1 l2).bind (fun q4 => (if (q4.1 : Int32) = 0 then W_X12_part n 50 q4.2  l1 l2 l3 (l4 + 1) 0 0 else ((F_X12_isParted n q4.2 l1 l2 ((1 : Int32) <<< ((l4 : Int32) &&& 31))).bind (fun q7 => (if (q7.1 : Int32) = 0 then W_X12_part n 91 q7.2  l1 l2 l3 l4 0 0 else some (1, q7.2)))))))))) else (if hd = 91 then (if (l4 : Int32) ≤ (l5 : Int32) then W_X12_part n 50 h  l1 l2 l3 (l4 + 1) 0 0 else ((F_X12_isOther n h l5 l1 l2).bind (fun q11 => (if (q11.1 : Int32) = 0 then W_X12_part n 91 q11.2  l1 l2 l3 l4 (l5 + 1) 0 else (if (l3 : Int32) ≤ (2 : Int32) then W_X12_part n 140 q11.2  l1 l2 l3 l4 l5 0 else ((F_X12_isParted n q11.2 l1 l2 ((((1 : Int32) <<< ((l4 : Int32) &&& 31)) : Int32) ||| (((1 : Int32) <<< ((l5 : Int32) &&& 31)) : Int32))).bind (fun q15 => (if (q15.1 : Int32) = 0 then W_X12_part n 140 q15.2  l1 l2 l3 l4 l5 0 else W_X12_part n 140 q15.2  l1 l2 2 l4 l5 0)))))))) else (if hd = 140 then (if (l5 : Int32) ≤ (l6 : Int32) then W_X12_part n 91 h  l1 l2 l3 l4 (l5 + 1) 0 else (if (l3 : Int32) ≤ (3 : Int32) then W_X12_part n 91 h  l1 l2 l3 l4 (l5 + 1) 0 else ((F_X12_isOther n h l6 l1 l2).bind (fun q20 => (if (q20.1 : Int32) = 0 then W_X12_part n 140 q20.2  l1 l2 l3 l4 l5 (l6 + 1) else ((F_X12_isParted n q20.2 l1 l2 ((((((1 : Int32) <<< ((l4 : Int32) &&& 31)) : Int32) ||| (((1 : Int32) <<< ((l5 : Int32) &&& 31)) : Int32)) : Int32) ||| (((1 : Int32) <<< ((l6 : Int32) &&& 31)) : Int32))).bind (fun q23 => (if (q23.1 : Int32) = 0 then W_X12_part n 140 q23.2  l1 l2 l3 l4 l5 (l6 + 1) else W_X12_part n 140 q23.2  l1 l2 3 l4 l5 (l6 + 1))))))))) else none)))
set_option maxRecDepth 100000 in
set_option maxHeartbeats 4000000 in
theorem sw_X12_part (d : Nat)  (n : Nat) : (∀ (l1 : Int32) (l2 : Int32) (l3 : Int32) (l4 : Int32) (h : Hp), ∀ (r : Int32) (h' : Hp), W_X12_part n 50 h  l1 l2 l3 l4 0 0 = some (r, h') → G h → V mX12_part (d + 3) 50 [some (.ref 226), some (.int l1), some (.int l2), some (.int l3), some (.int l4), none, none] [] h (fun r1 h1 => r1 = some (.int r) ∧ h1 = h' ∧ G h')) ∧ (∀ (l1 : Int32) (l2 : Int32) (l3 : Int32) (l4 : Int32) (l5 : Int32) (h : Hp), ∀ (r : Int32) (h' : Hp), W_X12_part n 91 h  l1 l2 l3 l4 l5 0 = some (r, h') → G h → V mX12_part (d + 3) 91 [some (.ref 226), some (.int l1), some (.int l2), some (.int l3), some (.int l4), some (.int l5), none] [] h (fun r1 h1 => r1 = some (.int r) ∧ h1 = h' ∧ G h')) ∧ (∀ (l1 : Int32) (l2 : Int32) (l3 : Int32) (l4 : Int32) (l5 : Int32) (l6 : Int32) (h : Hp), ∀ (r : Int32) (h' : Hp), W_X12_part n 140 h  l1 l2 l3 l4 l5 l6 = some (r, h') → G h → V mX12_part (d + 3) 140 [some (.ref 226), some (.int l1), some (.int l2), some (.int l3), some (.int l4), some (.int l5), some (.int l6)] [] h (fun r1 h1 => r1 = some (.int r) ∧ h1 = h' ∧ G h')) := by
  induction n with
  | zero => exact ⟨by intros; contradiction, by intros; contradiction, by intros; contradiction⟩
  | succ n ih =>
    obtain ⟨s_X12_part_IH_50, s_X12_part_IH_91, s_X12_part_IH_140⟩ := ih
    refine ⟨?_, ?_, ?_⟩
    · intro l1 l2 l3 l4 h r h' hF hG
      unfold W_X12_part at hF
      rw [if_pos rfl] at hF
      refine v_iload (i := 4) dX12_part_50 rfl ?_
      refine v_aload_n (i := 0) dX12_part_52 rfl rfl ?_
      obtain ⟨q1, q1_e, hF⟩ := Option.bind_eq_some_iff.mp hF
      refine c_X12_326 rfl sh_226 (by exact ltG hG (by decide)) (Nat.le_of_ble_eq_true rfl) dX12_part_53 (s_X12_cells _ q1_e hG) (fun r1 h1 hq => ?_)
      obtain ⟨rfl, hq, hG⟩ := hq
      replace hq := hq.symm
      subst hq
      show V _ _ _ _ (_ :: _) _ _
      refine v_icmp_ge 206 dX12_part_56 (by decide) (fun c3 => ?_) (fun c3 => ?_)
      · rw [if_pos c3] at hF
        refine v_iload_n (i := 3) dX12_part_206 rfl rfl ?_
        refine v_ireturn rfl dX12_part_207 ?_
        obtain ⟨rfl, rfl⟩ := Prod.mk.inj (Option.some.inj hF)
        exact ⟨rfl, rfl, hG⟩
      · rw [if_neg c3] at hF
        refine v_aload_n (i := 0) dX12_part_59 rfl rfl ?_
        refine v_iload (i := 4) dX12_part_60 rfl ?_
        refine v_iload_n (i := 1) dX12_part_62 rfl rfl ?_
        refine v_iload_n (i := 2) dX12_part_63 rfl rfl ?_
        obtain ⟨q4, q4_e, hF⟩ := Option.bind_eq_some_iff.mp hF
        refine c_X12_465 rfl sh_226 (by exact ltG hG (by decide)) (Nat.le_of_ble_eq_true rfl) dX12_part_64 (s_X12_isOther _ q4_e hG) (fun r1 h1 hq => ?_)
        obtain ⟨rfl, hq, hG⟩ := hq
        replace hq := hq.symm
        subst hq
        show V _ _ _ _ (_ :: _) _ _
        refine v_if_ne 73 dX12_part_67 (by decide) (fun c6 => ?_) (fun c6 => ?_)
        · rw [if_neg c6] at hF
          refine v_aload_n (i := 0) dX12_part_73 rfl rfl ?_
          refine v_iload_n (i := 1) dX12_part_74 rfl rfl ?_
          refine v_iload_n (i := 2) dX12_part_75 rfl rfl ?_
          refine v_iconst (v := 1) dX12_part_76 (by decide) ?_
          refine v_iload (i := 4) dX12_part_77 rfl ?_
          refine v_ishl dX12_part_79 ?_
          obtain ⟨q7, q7_e, hF⟩ := Option.bind_eq_some_iff.mp hF
          refine c_X12_462 rfl sh_226 (by exact ltG hG (by decide)) (Nat.le_of_ble_eq_true rfl) dX12_part_80 (s_X12_isParted _ q7_e hG) (fun r1 h1 hq => ?_)
          obtain ⟨rfl, hq, hG⟩ := hq
          replace hq := hq.symm
          subst hq
          show V _ _ _ _ (_ :: _) _ _
          refine v_if_eq 88 dX12_part_83 (by decide) (fun c9 => ?_) (fun c9 => ?_)
          · rw [if_pos c9] at hF
            refine v_iconst (v := 0) dX12_part_88 (by decide) ?_
            refine v_istore (i := 5) dX12_part_89 (by decide) (nlT rfl) ?_
            simp only [List.set_cons_zero, List.set_cons_succ]
            refine V.weak (la2 := [some (.ref 226), some (.int l1), some (.int l2), some (.int l3), some (.int l4), some (.int 0), none]) (by simp [wk]) ?_
            exact (s_X12_part_IH_91) _ _ _ _ _ _ _ _ hF hG
          · rw [if_neg c9] at hF
            refine v_iconst (v := 1) dX12_part_86 (by decide) ?_
            refine v_ireturn rfl dX12_part_87 ?_
            obtain ⟨rfl, rfl⟩ := Prod.mk.inj (Option.some.inj hF)
            exact ⟨rfl, rfl, hG⟩
        · rw [if_pos c6] at hF
          refine v_goto 200 dX12_part_70 (by decide) ?_
          refine v_iinc (i := 4) (v := (l4 + 1)) dX12_part_200 rfl rfl (by decide) (nlT rfl) ?_
          simp only [List.set_cons_zero, List.set_cons_succ]
          refine v_goto 50 dX12_part_203 (by decide) ?_
          refine V.weak (la2 := [some (.ref 226), some (.int l1), some (.int l2), some (.int l3), some (.int (l4 + 1)), none, none]) (by simp [wk]) ?_
          exact (s_X12_part_IH_50) _ _ _ _ _ _ _ hF hG
    · intro l1 l2 l3 l4 l5 h r h' hF hG
      unfold W_X12_part at hF
      rw [if_neg (by decide)] at hF
      rw [if_pos rfl] at hF
      refine v_iload (i := 5) dX12_part_91 rfl ?_
      refine v_iload (i := 4) dX12_part_93 rfl ?_
      refine v_icmp_ge 200 dX12_part_95 (by decide) (fun c10 => ?_) (fun c10 => ?_)
      · rw [if_pos c10] at hF
        refine v_iinc (i := 4) (v := (l4 + 1)) dX12_part_200 rfl rfl (by decide) (nlT rfl) ?_
        simp only [List.set_cons_zero, List.set_cons_succ]
        refine v_goto 50 dX12_part_203 (by decide) ?_
        refine V.weak (la2 := [some (.ref 226), some (.int l1), some (.int l2), some (.int l3), some (.int (l4 + 1)), none, none]) (by simp [wk]) ?_
        exact (s_X12_part_IH_50) _ _ _ _ _ _ _ hF hG
      · rw [if_neg c10] at hF
        refine v_aload_n (i := 0) dX12_part_98 rfl rfl ?_
        refine v_iload (i := 5) dX12_part_99 rfl ?_
        refine v_iload_n (i := 1) dX12_part_101 rfl rfl ?_
        refine v_iload_n (i := 2) dX12_part_102 rfl rfl ?_
        obtain ⟨q11, q11_e, hF⟩ := Option.bind_eq_some_iff.mp hF
        refine c_X12_465 rfl sh_226 (by exact ltG hG (by decide)) (Nat.le_of_ble_eq_true rfl) dX12_part_103 (s_X12_isOther _ q11_e hG) (fun r1 h1 hq => ?_)
        obtain ⟨rfl, hq, hG⟩ := hq
        replace hq := hq.symm
        subst hq
        show V _ _ _ _ (_ :: _) _ _
        refine v_if_ne 112 dX12_part_106 (by decide) (fun c13 => ?_) (fun c13 => ?_)
        · rw [if_neg c13] at hF
          refine v_iload_n (i := 3) dX12_part_112 rfl rfl ?_
          refine v_iconst (v := 2) dX12_part_113 (by decide) ?_
          refine v_icmp_le 137 dX12_part_114 (by decide) (fun c14 => ?_) (fun c14 => ?_)
          · rw [if_pos c14] at hF
            refine v_iconst (v := 0) dX12_part_137 (by decide) ?_
            refine v_istore (i := 6) dX12_part_138 (by decide) (nlT rfl) ?_
            simp only [List.set_cons_zero, List.set_cons_succ]
            refine V.weak (la2 := [some (.ref 226), some (.int l1), some (.int l2), some (.int l3), some (.int l4), some (.int l5), some (.int 0)]) (by simp [wk]) ?_
            exact (s_X12_part_IH_140) _ _ _ _ _ _ _ _ _ hF hG
          · rw [if_neg c14] at hF
            refine v_aload_n (i := 0) dX12_part_117 rfl rfl ?_
            refine v_iload_n (i := 1) dX12_part_118 rfl rfl ?_
            refine v_iload_n (i := 2) dX12_part_119 rfl rfl ?_
            refine v_iconst (v := 1) dX12_part_120 (by decide) ?_
            refine v_iload (i := 4) dX12_part_121 rfl ?_
            refine v_ishl dX12_part_123 ?_
            refine v_iconst (v := 1) dX12_part_124 (by decide) ?_
            refine v_iload (i := 5) dX12_part_125 rfl ?_
            refine v_ishl dX12_part_127 ?_
            refine v_ior dX12_part_128 ?_
            obtain ⟨q15, q15_e, hF⟩ := Option.bind_eq_some_iff.mp hF
            refine c_X12_462 rfl sh_226 (by exact ltG hG (by decide)) (Nat.le_of_ble_eq_true rfl) dX12_part_129 (s_X12_isParted _ q15_e hG) (fun r1 h1 hq => ?_)
            obtain ⟨rfl, hq, hG⟩ := hq
            replace hq := hq.symm
            subst hq
            show V _ _ _ _ (_ :: _) _ _
            refine v_if_eq 137 dX12_part_132 (by decide) (fun c17 => ?_) (fun c17 => ?_)
            · rw [if_pos c17] at hF
              refine v_iconst (v := 0) dX12_part_137 (by decide) ?_
              refine v_istore (i := 6) dX12_part_138 (by decide) (nlT rfl) ?_
              simp only [List.set_cons_zero, List.set_cons_succ]
              refine V.weak (la2 := [some (.ref 226), some (.int l1), some (.int l2), some (.int l3), some (.int l4), some (.int l5), some (.int 0)]) (by simp [wk]) ?_
              exact (s_X12_part_IH_140) _ _ _ _ _ _ _ _ _ hF hG
            · rw [if_neg c17] at hF
              refine v_iconst (v := 2) dX12_part_135 (by decide) ?_
              refine v_istore_n (i := 3) dX12_part_136 rfl (by decide) (nlT rfl) ?_
              simp only [List.set_cons_zero, List.set_cons_succ]
              refine v_iconst (v := 0) dX12_part_137 (by decide) ?_
              refine v_istore (i := 6) dX12_part_138 (by decide) (nlT rfl) ?_
              simp only [List.set_cons_zero, List.set_cons_succ]
              refine V.weak (la2 := [some (.ref 226), some (.int l1), some (.int l2), some (.int 2), some (.int l4), some (.int l5), some (.int 0)]) (by simp [wk]) ?_
              exact (s_X12_part_IH_140) _ _ _ _ _ _ _ _ _ hF hG
        · rw [if_pos c13] at hF
          refine v_goto 194 dX12_part_109 (by decide) ?_
          refine v_iinc (i := 5) (v := (l5 + 1)) dX12_part_194 rfl rfl (by decide) (nlT rfl) ?_
          simp only [List.set_cons_zero, List.set_cons_succ]
          refine v_goto 91 dX12_part_197 (by decide) ?_
          refine V.weak (la2 := [some (.ref 226), some (.int l1), some (.int l2), some (.int l3), some (.int l4), some (.int (l5 + 1)), none]) (by simp [wk]) ?_
          exact (s_X12_part_IH_91) _ _ _ _ _ _ _ _ hF hG
    · intro l1 l2 l3 l4 l5 l6 h r h' hF hG
      unfold W_X12_part at hF
      rw [if_neg (by decide)] at hF
      rw [if_neg (by decide)] at hF
      rw [if_pos rfl] at hF
      refine v_iload (i := 6) dX12_part_140 rfl ?_
      refine v_iload (i := 5) dX12_part_142 rfl ?_
      refine v_icmp_ge 194 dX12_part_144 (by decide) (fun c18 => ?_) (fun c18 => ?_)
      · rw [if_pos c18] at hF
        refine v_iinc (i := 5) (v := (l5 + 1)) dX12_part_194 rfl rfl (by decide) (nlT rfl) ?_
        simp only [List.set_cons_zero, List.set_cons_succ]
        refine v_goto 91 dX12_part_197 (by decide) ?_
        refine V.weak (la2 := [some (.ref 226), some (.int l1), some (.int l2), some (.int l3), some (.int l4), some (.int (l5 + 1)), none]) (by simp [wk]) ?_
        exact (s_X12_part_IH_91) _ _ _ _ _ _ _ _ hF hG
      · rw [if_neg c18] at hF
        refine v_iload_n (i := 3) dX12_part_147 rfl rfl ?_
        refine v_iconst (v := 3) dX12_part_148 (by decide) ?_
        refine v_icmp_le 194 dX12_part_149 (by decide) (fun c19 => ?_) (fun c19 => ?_)
        · rw [if_pos c19] at hF
          refine v_iinc (i := 5) (v := (l5 + 1)) dX12_part_194 rfl rfl (by decide) (nlT rfl) ?_
          simp only [List.set_cons_zero, List.set_cons_succ]
          refine v_goto 91 dX12_part_197 (by decide) ?_
          refine V.weak (la2 := [some (.ref 226), some (.int l1), some (.int l2), some (.int l3), some (.int l4), some (.int (l5 + 1)), none]) (by simp [wk]) ?_
          exact (s_X12_part_IH_91) _ _ _ _ _ _ _ _ hF hG
        · rw [if_neg c19] at hF
          refine v_aload_n (i := 0) dX12_part_152 rfl rfl ?_
          refine v_iload (i := 6) dX12_part_153 rfl ?_
          refine v_iload_n (i := 1) dX12_part_155 rfl rfl ?_
          refine v_iload_n (i := 2) dX12_part_156 rfl rfl ?_
          obtain ⟨q20, q20_e, hF⟩ := Option.bind_eq_some_iff.mp hF
          refine c_X12_465 rfl sh_226 (by exact ltG hG (by decide)) (Nat.le_of_ble_eq_true rfl) dX12_part_157 (s_X12_isOther _ q20_e hG) (fun r1 h1 hq => ?_)
          obtain ⟨rfl, hq, hG⟩ := hq
          replace hq := hq.symm
          subst hq
          show V _ _ _ _ (_ :: _) _ _
          refine v_if_eq 188 dX12_part_160 (by decide) (fun c22 => ?_) (fun c22 => ?_)
          · rw [if_pos c22] at hF
            refine v_iinc (i := 6) (v := (l6 + 1)) dX12_part_188 rfl rfl (by decide) (nlT rfl) ?_
            simp only [List.set_cons_zero, List.set_cons_succ]
            refine v_goto 140 dX12_part_191 (by decide) ?_
            refine V.weak (la2 := [some (.ref 226), some (.int l1), some (.int l2), some (.int l3), some (.int l4), some (.int l5), some (.int (l6 + 1))]) (by simp [wk]) ?_
            exact (s_X12_part_IH_140) _ _ _ _ _ _ _ _ _ hF hG
          · rw [if_neg c22] at hF
            refine v_aload_n (i := 0) dX12_part_163 rfl rfl ?_
            refine v_iload_n (i := 1) dX12_part_164 rfl rfl ?_
            refine v_iload_n (i := 2) dX12_part_165 rfl rfl ?_
            refine v_iconst (v := 1) dX12_part_166 (by decide) ?_
            refine v_iload (i := 4) dX12_part_167 rfl ?_
            refine v_ishl dX12_part_169 ?_
            refine v_iconst (v := 1) dX12_part_170 (by decide) ?_
            refine v_iload (i := 5) dX12_part_171 rfl ?_
            refine v_ishl dX12_part_173 ?_
            refine v_ior dX12_part_174 ?_
            refine v_iconst (v := 1) dX12_part_175 (by decide) ?_
            refine v_iload (i := 6) dX12_part_176 rfl ?_
            refine v_ishl dX12_part_178 ?_
            refine v_ior dX12_part_179 ?_
            obtain ⟨q23, q23_e, hF⟩ := Option.bind_eq_some_iff.mp hF
            refine c_X12_462 rfl sh_226 (by exact ltG hG (by decide)) (Nat.le_of_ble_eq_true rfl) dX12_part_180 (s_X12_isParted _ q23_e hG) (fun r1 h1 hq => ?_)
            obtain ⟨rfl, hq, hG⟩ := hq
            replace hq := hq.symm
            subst hq
            show V _ _ _ _ (_ :: _) _ _
            refine v_if_eq 188 dX12_part_183 (by decide) (fun c25 => ?_) (fun c25 => ?_)
            · rw [if_pos c25] at hF
              refine v_iinc (i := 6) (v := (l6 + 1)) dX12_part_188 rfl rfl (by decide) (nlT rfl) ?_
              simp only [List.set_cons_zero, List.set_cons_succ]
              refine v_goto 140 dX12_part_191 (by decide) ?_
              refine V.weak (la2 := [some (.ref 226), some (.int l1), some (.int l2), some (.int l3), some (.int l4), some (.int l5), some (.int (l6 + 1))]) (by simp [wk]) ?_
              exact (s_X12_part_IH_140) _ _ _ _ _ _ _ _ _ hF hG
            · rw [if_neg c25] at hF
              refine v_iconst (v := 3) dX12_part_186 (by decide) ?_
              refine v_istore_n (i := 3) dX12_part_187 rfl (by decide) (nlT rfl) ?_
              simp only [List.set_cons_zero, List.set_cons_succ]
              refine v_iinc (i := 6) (v := (l6 + 1)) dX12_part_188 rfl rfl (by decide) (nlT rfl) ?_
              simp only [List.set_cons_zero, List.set_cons_succ]
              refine v_goto 140 dX12_part_191 (by decide) ?_
              refine V.weak (la2 := [some (.ref 226), some (.int l1), some (.int l2), some (.int 3), some (.int l4), some (.int l5), some (.int (l6 + 1))]) (by simp [wk]) ?_
              exact (s_X12_part_IH_140) _ _ _ _ _ _ _ _ _ hF hG
def F_X12_part (n : Nat) (h : Hp) (x1 : Int32) (x2 : Int32) : Option (Int32 × Hp) := ((F_X12_areFree n h x1 x2).bind (fun q26 => (if (q26.1 : Int32) = 0 then some ((-1), q26.2) else ((F_X12_copies n q26.2).bind (fun q29 => ((F_X12_nearBits n q29 ((1 : Int32) <<< ((x1 : Int32) &&& 31))).bind (fun q31 => (if (((((q31.1 : Int32) >>> ((x2 : Int32) &&& 31)) : Int32) &&& (1 : Int32)) : Int32) = (1 : Int32) then some ((-2), q31.2) else ((F_X12_isParted n q31.2 x1 x2 0).bind (fun q34 => (if (q34.1 : Int32) = 0 then W_X12_part n 50 q34.2  x1 x2 4 0 0 0 else some (0, q34.2))))))))))))
set_option maxRecDepth 100000 in
set_option maxHeartbeats 4000000 in
theorem s_X12_part (d : Nat) {n : Nat} {h : Hp} {x1 : Int32} {x2 : Int32} {q0 : (Int32 × Hp)} (hF : F_X12_part n h x1 x2 = some q0) (hG : G h)  : Kc mX12_part (d + 3) [.ref 226, .int x1, .int x2] h (fun r1 h1 => r1 = some (.int q0.1) ∧ h1 = q0.2 ∧ G q0.2) := by
  obtain ⟨r, h'⟩ := q0
  obtain ⟨s_X12_part_IH_50, s_X12_part_IH_91, s_X12_part_IH_140⟩ := sw_X12_part d   n
  unfold F_X12_part at hF
  refine Kc.of [some (.ref 226), some (.int x1), some (.int x2), none, none, none, none] ok_X12_part rfl (Nat.le_of_ble_eq_true rfl) ?_
  refine v_aload_n (i := 0) dX12_part_0 rfl rfl ?_
  refine v_iload_n (i := 1) dX12_part_1 rfl rfl ?_
  refine v_iload_n (i := 2) dX12_part_2 rfl rfl ?_
  obtain ⟨q26, q26_e, hF⟩ := Option.bind_eq_some_iff.mp hF
  refine c_X12_439 rfl sh_226 (by exact ltG hG (by decide)) (Nat.le_of_ble_eq_true rfl) dX12_part_3 (s_X12_areFree _ q26_e hG) (fun r1 h1 hq => ?_)
  obtain ⟨rfl, hq, hG⟩ := hq
  replace hq := hq.symm
  subst hq
  show V _ _ _ _ (_ :: _) _ _
  refine v_if_ne 11 dX12_part_6 (by decide) (fun c28 => ?_) (fun c28 => ?_)
  · rw [if_neg c28] at hF
    refine v_aload_n (i := 0) dX12_part_11 rfl rfl ?_
    obtain ⟨q29, q29_e, hF⟩ := Option.bind_eq_some_iff.mp hF
    refine c_X12_346 rfl sh_226 (by exact ltG hG (by decide)) (Nat.le_of_ble_eq_true rfl) dX12_part_12 (s_X12_copies _ q29_e hG) (fun r1 h1 hq => ?_)
    obtain ⟨rfl, hq, hG⟩ := hq
    replace hq := hq.symm
    subst hq
    simp only [Option.toList, List.nil_append]
    refine v_aload_n (i := 0) dX12_part_15 rfl rfl ?_
    refine v_iconst (v := 1) dX12_part_16 (by decide) ?_
    refine v_iload_n (i := 1) dX12_part_17 rfl rfl ?_
    refine v_ishl dX12_part_18 ?_
    obtain ⟨q31, q31_e, hF⟩ := Option.bind_eq_some_iff.mp hF
    refine c_X12_430 rfl sh_226 (by exact ltG hG (by decide)) (Nat.le_of_ble_eq_true rfl) dX12_part_19 (s_X12_nearBits _ q31_e hG) (fun r1 h1 hq => ?_)
    obtain ⟨rfl, hq, hG⟩ := hq
    replace hq := hq.symm
    subst hq
    show V _ _ _ _ (_ :: _) _ _
    refine v_iload_n (i := 2) dX12_part_22 rfl rfl ?_
    refine v_ishr dX12_part_23 ?_
    refine v_iconst (v := 1) dX12_part_24 (by decide) ?_
    refine v_iand dX12_part_25 ?_
    refine v_iconst (v := 1) dX12_part_26 (by decide) ?_
    refine v_icmp_ne 33 dX12_part_27 (by decide) (fun c33 => ?_) (fun c33 => ?_)
    · rw [if_neg c33] at hF
      refine v_aload_n (i := 0) dX12_part_33 rfl rfl ?_
      refine v_iload_n (i := 1) dX12_part_34 rfl rfl ?_
      refine v_iload_n (i := 2) dX12_part_35 rfl rfl ?_
      refine v_iconst (v := 0) dX12_part_36 (by decide) ?_
      obtain ⟨q34, q34_e, hF⟩ := Option.bind_eq_some_iff.mp hF
      refine c_X12_462 rfl sh_226 (by exact ltG hG (by decide)) (Nat.le_of_ble_eq_true rfl) dX12_part_37 (s_X12_isParted _ q34_e hG) (fun r1 h1 hq => ?_)
      obtain ⟨rfl, hq, hG⟩ := hq
      replace hq := hq.symm
      subst hq
      show V _ _ _ _ (_ :: _) _ _
      refine v_if_eq 45 dX12_part_40 (by decide) (fun c36 => ?_) (fun c36 => ?_)
      · rw [if_pos c36] at hF
        refine v_iconst (v := 4) dX12_part_45 (by decide) ?_
        refine v_istore_n (i := 3) dX12_part_46 rfl (by decide) (nlT rfl) ?_
        simp only [List.set_cons_zero, List.set_cons_succ]
        refine v_iconst (v := 0) dX12_part_47 (by decide) ?_
        refine v_istore (i := 4) dX12_part_48 (by decide) (nlT rfl) ?_
        simp only [List.set_cons_zero, List.set_cons_succ]
        refine V.weak (la2 := [some (.ref 226), some (.int x1), some (.int x2), some (.int 4), some (.int 0), none, none]) (by simp [wk]) ?_
        exact (s_X12_part_IH_50) _ _ _ _ _ _ _ hF hG
      · rw [if_neg c36] at hF
        refine v_iconst (v := 0) dX12_part_43 (by decide) ?_
        refine v_ireturn rfl dX12_part_44 ?_
        obtain ⟨rfl, rfl⟩ := Prod.mk.inj (Option.some.inj hF)
        exact ⟨rfl, rfl, hG⟩
    · rw [if_pos c33] at hF
      refine v_bipush (v := (-2)) dX12_part_30 (by decide) ?_
      refine v_ireturn rfl dX12_part_32 ?_
      obtain ⟨rfl, rfl⟩ := Prod.mk.inj (Option.some.inj hF)
      exact ⟨rfl, rfl, hG⟩
  · rw [if_pos c28] at hF
    refine v_iconst (v := (-1)) dX12_part_9 (by decide) ?_
    refine v_ireturn rfl dX12_part_10 ?_
    obtain ⟨rfl, rfl⟩ := Prod.mk.inj (Option.some.inj hF)
    exact ⟨rfl, rfl, hG⟩
def F_X12_rope (n : Nat) (h : Hp) (x1 : Int32) (x2 : Int32) : Option (Int32 × Hp) := ((F_X12_copies n h).bind (fun q1 => ((F_X12_isCell n q1 x1).bind (fun q3 => (if (q3.1 : Int32) = 0 then some (0, q3.2) else ((F_X12_isRoped n q3.2 x1).bind (fun q6 => (if (q6.1 : Int32) = (x2 : Int32) then some (0, q6.2) else (if (x2 : Int32) = 0 then ((F_X12_records n (wrI q6.2 263 50 (((hi q6.2 263 50) : Int32) ^^^ (((1 : Int32) <<< ((x1 : Int32) &&& 31)) : Int32)))).bind (fun q10 => some (1, q10))) else (if ixOK x1 63 = true then (if 0 < ((hi q6.2 263 (Int32.toNatClampNeg x1)) : Int32) then some (0, q6.2) else ((F_X12_whoAt n q6.2 x1).bind (fun q14 => (if (q14.1 : Int32) = 0 then ((F_X12_records n (wrI q14.2 263 50 (((hi q14.2 263 50) : Int32) ^^^ (((1 : Int32) <<< ((x1 : Int32) &&& 31)) : Int32)))).bind (fun q17 => some (1, q17))) else some (0, q14.2))))) else none))))))))))
set_option maxRecDepth 100000 in
set_option maxHeartbeats 4000000 in
theorem s_X12_rope (d : Nat) {n : Nat} {h : Hp} {x1 : Int32} {x2 : Int32} {q0 : (Int32 × Hp)} (hF : F_X12_rope n h x1 x2 = some q0) (hG : G h)  : Kc mX12_rope (d + 2) [.ref 226, .int x1, .int x2] h (fun r1 h1 => r1 = some (.int q0.1) ∧ h1 = q0.2 ∧ G q0.2) := by
  obtain ⟨r, h'⟩ := q0
  unfold F_X12_rope at hF
  refine Kc.of [some (.ref 226), some (.int x1), some (.int x2)] ok_X12_rope rfl (Nat.le_of_ble_eq_true rfl) ?_
  refine v_aload_n (i := 0) dX12_rope_0 rfl rfl ?_
  obtain ⟨q1, q1_e, hF⟩ := Option.bind_eq_some_iff.mp hF
  refine c_X12_346 rfl sh_226 (by exact ltG hG (by decide)) (Nat.le_of_ble_eq_true rfl) dX12_rope_1 (s_X12_copies _ q1_e hG) (fun r1 h1 hq => ?_)
  obtain ⟨rfl, hq, hG⟩ := hq
  replace hq := hq.symm
  subst hq
  simp only [Option.toList, List.nil_append]
  refine v_aload_n (i := 0) dX12_rope_4 rfl rfl ?_
  refine v_iload_n (i := 1) dX12_rope_5 rfl rfl ?_
  obtain ⟨q3, q3_e, hF⟩ := Option.bind_eq_some_iff.mp hF
  refine c_X12_403 rfl sh_226 (by exact ltG hG (by decide)) (Nat.le_of_ble_eq_true rfl) dX12_rope_6 (s_X12_isCell _ q3_e hG) (fun r1 h1 hq => ?_)
  obtain ⟨rfl, hq, hG⟩ := hq
  replace hq := hq.symm
  subst hq
  show V _ _ _ _ (_ :: _) _ _
  refine v_if_eq 42 dX12_rope_9 (by decide) (fun c5 => ?_) (fun c5 => ?_)
  · rw [if_pos c5] at hF
    refine v_iconst (v := 0) dX12_rope_42 (by decide) ?_
    refine v_zreturn rfl (by decide) dX12_rope_43 ?_
    obtain ⟨rfl, rfl⟩ := Prod.mk.inj (Option.some.inj hF)
    exact ⟨rfl, rfl, hG⟩
  · rw [if_neg c5] at hF
    refine v_aload_n (i := 0) dX12_rope_12 rfl rfl ?_
    refine v_iload_n (i := 1) dX12_rope_13 rfl rfl ?_
    obtain ⟨q6, q6_e, hF⟩ := Option.bind_eq_some_iff.mp hF
    refine c_X12_372 rfl sh_226 (by exact ltG hG (by decide)) (Nat.le_of_ble_eq_true rfl) dX12_rope_14 (s_X12_isRoped _ q6_e hG) (fun r1 h1 hq => ?_)
    obtain ⟨rfl, hq, hG⟩ := hq
    replace hq := hq.symm
    subst hq
    show V _ _ _ _ (_ :: _) _ _
    refine v_iload_n (i := 2) dX12_rope_17 rfl rfl ?_
    refine v_icmp_eq 42 dX12_rope_18 (by decide) (fun c8 => ?_) (fun c8 => ?_)
    · rw [if_pos c8] at hF
      refine v_iconst (v := 0) dX12_rope_42 (by decide) ?_
      refine v_zreturn rfl (by decide) dX12_rope_43 ?_
      obtain ⟨rfl, rfl⟩ := Prod.mk.inj (Option.some.inj hF)
      exact ⟨rfl, rfl, hG⟩
    · rw [if_neg c8] at hF
      refine v_iload_n (i := 2) dX12_rope_21 rfl rfl ?_
      refine v_if_eq 44 dX12_rope_22 (by decide) (fun c9 => ?_) (fun c9 => ?_)
      · rw [if_pos c9] at hF
        refine v_aload_n (i := 0) dX12_rope_44 rfl rfl ?_
        refine g_X12_128 (q := 263) rfl sh_226 (by exact ltG hG (by decide)) (by exact rG hG r0_226_54) dX12_rope_45 ?_
        refine v_bipush (v := 50) dX12_rope_48 (by decide) ?_
        refine v_dup2 dX12_rope_50 rfl rfl ?_
        refine v_iaload sh_263 (by exact ltG hG (by decide)) (ixK 50 (by decide)) dX12_rope_51 ?_
        refine v_iconst (v := 1) dX12_rope_52 (by decide) ?_
        refine v_iload_n (i := 1) dX12_rope_53 rfl rfl ?_
        refine v_ishl dX12_rope_54 ?_
        refine v_ixor dX12_rope_55 ?_
        refine v_iastore sh_263 (by exact ltG hG (by decide)) (ixK 50 (by decide)) dX12_rope_56 ?_
        refine v_aload_n (i := 0) dX12_rope_57 rfl rfl ?_
        obtain ⟨q10, q10_e, hF⟩ := Option.bind_eq_some_iff.mp hF
        refine c_X12_412 rfl sh_226 (by exact ltG hG (by decide)) (Nat.le_of_ble_eq_true rfl) dX12_rope_58 (s_X12_records _ q10_e hG) (fun r1 h1 hq => ?_)
        obtain ⟨rfl, hq, hG⟩ := hq
        replace hq := hq.symm
        subst hq
        simp only [Option.toList, List.nil_append]
        refine v_iconst (v := 1) dX12_rope_61 (by decide) ?_
        refine v_zreturn rfl (by decide) dX12_rope_62 ?_
        obtain ⟨rfl, rfl⟩ := Prod.mk.inj (Option.some.inj hF)
        exact ⟨rfl, rfl, hG⟩
      · rw [if_neg c9] at hF
        refine v_aload_n (i := 0) dX12_rope_25 rfl rfl ?_
        refine g_X12_128 (q := 263) rfl sh_226 (by exact ltG hG (by decide)) (by exact rG hG r0_226_54) dX12_rope_26 ?_
        refine v_iload_n (i := 1) dX12_rope_29 rfl rfl ?_
        obtain ⟨k12, hF⟩ := ck_some hF
        refine v_iaload sh_263 (by exact ltG hG (by decide)) (ixO k12) dX12_rope_30 ?_
        refine v_if_gt 42 dX12_rope_31 (by decide) (fun c13 => ?_) (fun c13 => ?_)
        · rw [if_pos c13] at hF
          refine v_iconst (v := 0) dX12_rope_42 (by decide) ?_
          refine v_zreturn rfl (by decide) dX12_rope_43 ?_
          obtain ⟨rfl, rfl⟩ := Prod.mk.inj (Option.some.inj hF)
          exact ⟨rfl, rfl, hG⟩
        · rw [if_neg c13] at hF
          refine v_aload_n (i := 0) dX12_rope_34 rfl rfl ?_
          refine v_iload_n (i := 1) dX12_rope_35 rfl rfl ?_
          obtain ⟨q14, q14_e, hF⟩ := Option.bind_eq_some_iff.mp hF
          refine c_X12_406 rfl sh_226 (by exact ltG hG (by decide)) (Nat.le_of_ble_eq_true rfl) dX12_rope_36 (s_X12_whoAt _ q14_e hG) (fun r1 h1 hq => ?_)
          obtain ⟨rfl, hq, hG⟩ := hq
          replace hq := hq.symm
          subst hq
          show V _ _ _ _ (_ :: _) _ _
          refine v_if_eq 44 dX12_rope_39 (by decide) (fun c16 => ?_) (fun c16 => ?_)
          · rw [if_pos c16] at hF
            refine v_aload_n (i := 0) dX12_rope_44 rfl rfl ?_
            refine g_X12_128 (q := 263) rfl sh_226 (by exact ltG hG (by decide)) (by exact rG hG r0_226_54) dX12_rope_45 ?_
            refine v_bipush (v := 50) dX12_rope_48 (by decide) ?_
            refine v_dup2 dX12_rope_50 rfl rfl ?_
            refine v_iaload sh_263 (by exact ltG hG (by decide)) (ixK 50 (by decide)) dX12_rope_51 ?_
            refine v_iconst (v := 1) dX12_rope_52 (by decide) ?_
            refine v_iload_n (i := 1) dX12_rope_53 rfl rfl ?_
            refine v_ishl dX12_rope_54 ?_
            refine v_ixor dX12_rope_55 ?_
            refine v_iastore sh_263 (by exact ltG hG (by decide)) (ixK 50 (by decide)) dX12_rope_56 ?_
            refine v_aload_n (i := 0) dX12_rope_57 rfl rfl ?_
            obtain ⟨q17, q17_e, hF⟩ := Option.bind_eq_some_iff.mp hF
            refine c_X12_412 rfl sh_226 (by exact ltG hG (by decide)) (Nat.le_of_ble_eq_true rfl) dX12_rope_58 (s_X12_records _ q17_e hG) (fun r1 h1 hq => ?_)
            obtain ⟨rfl, hq, hG⟩ := hq
            replace hq := hq.symm
            subst hq
            simp only [Option.toList, List.nil_append]
            refine v_iconst (v := 1) dX12_rope_61 (by decide) ?_
            refine v_zreturn rfl (by decide) dX12_rope_62 ?_
            obtain ⟨rfl, rfl⟩ := Prod.mk.inj (Option.some.inj hF)
            exact ⟨rfl, rfl, hG⟩
          · rw [if_neg c16] at hF
            refine v_iconst (v := 0) dX12_rope_42 (by decide) ?_
            refine v_zreturn rfl (by decide) dX12_rope_43 ?_
            obtain ⟨rfl, rfl⟩ := Prod.mk.inj (Option.some.inj hF)
            exact ⟨rfl, rfl, hG⟩
