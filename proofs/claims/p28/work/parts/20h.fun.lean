def W_X12_tellGoer : Nat → Nat → Hp → Int32 → Int32 → Int32 → Option Hp
  | 0 => fun _ _ _ _ _ => none
  | n + 1 => fun hd h l1 l2 l3 => (if hd = 29 then (if ((hi h 226 20) : Int32) ≤ (l3 : Int32) then ((F_X12_bounded n h 0 4).bind (fun q2 => (if ixOK l1 10 = true then ((F_X12_bounded n (wrI q2.2 243 (Int32.toNatClampNeg l1) q2.1) 0 4).bind (fun q5 => (if ixOK l1 10 = true then ((F_X12_must n (wrI q5.2 244 (Int32.toNatClampNeg l1) q5.1) 4).bind (fun q8 => (if ((hi q8 226 13) : Int32) ≤ 0 then (if ixOK l2 403 = true then (if ixOK (hi q8 226 20) 5 = true then (if ixOK (hi (wrI (wrL q8 234 (Int32.toNatClampNeg (hi q8 226 20)) (hl q8 232 (Int32.toNatClampNeg l2))) 226 20 ((hi (wrL q8 234 (Int32.toNatClampNeg (hi q8 226 20)) (hl q8 232 (Int32.toNatClampNeg l2))) 226 20) + 1)) 226 19) 2 = true then (if ixOK (hi (wrI (wrL q8 234 (Int32.toNatClampNeg (hi q8 226 20)) (hl q8 232 (Int32.toNatClampNeg l2))) 226 20 ((hi (wrL q8 234 (Int32.toNatClampNeg (hi q8 226 20)) (hl q8 232 (Int32.toNatClampNeg l2))) 226 20) + 1)) 226 19) 2 = true then some (wrI (wrI (wrL q8 234 (Int32.toNatClampNeg (hi q8 226 20)) (hl q8 232 (Int32.toNatClampNeg l2))) 226 20 ((hi (wrL q8 234 (Int32.toNatClampNeg (hi q8 226 20)) (hl q8 232 (Int32.toNatClampNeg l2))) 226 20) + 1)) 242 (Int32.toNatClampNeg (hi (wrI (wrL q8 234 (Int32.toNatClampNeg (hi q8 226 20)) (hl q8 232 (Int32.toNatClampNeg l2))) 226 20 ((hi (wrL q8 234 (Int32.toNatClampNeg (hi q8 226 20)) (hl q8 232 (Int32.toNatClampNeg l2))) 226 20) + 1)) 226 19)) ((hi (wrI (wrL q8 234 (Int32.toNatClampNeg (hi q8 226 20)) (hl q8 232 (Int32.toNatClampNeg l2))) 226 20 ((hi (wrL q8 234 (Int32.toNatClampNeg (hi q8 226 20)) (hl q8 232 (Int32.toNatClampNeg l2))) 226 20) + 1)) 242 (Int32.toNatClampNeg (hi (wrI (wrL q8 234 (Int32.toNatClampNeg (hi q8 226 20)) (hl q8 232 (Int32.toNatClampNeg l2))) 226 20 ((hi (wrL q8 234 (Int32.toNatClampNeg (hi q8 226 20)) (hl q8 232 (Int32.toNatClampNeg l2))) 226 20) + 1)) 226 19))) + 1)) else none) else none) else none) else none) else some q8))) else none))) else none))) else (if ((hi h 226 13) : Int32) = 0 then (if ixOK l3 5 = true then (if ixOK l2 403 = true then (if ((lg_cmp (hl h 234 (Int32.toNatClampNeg l3)) (hl h 232 (Int32.toNatClampNeg l2))) : Int32) = 0 then ((F_X12_wrong n h 3 l2).bind (fun q32 => W_X12_tellGoer n 29 q32  l1 l2 (l3 + 1))) else W_X12_tellGoer n 29 h  l1 l2 (l3 + 1)) else none) else none) else ((F_X12_bounded n h 0 4).bind (fun q16 => (if ixOK l1 10 = true then ((F_X12_bounded n (wrI q16.2 243 (Int32.toNatClampNeg l1) q16.1) 0 4).bind (fun q19 => (if ixOK l1 10 = true then ((F_X12_must n (wrI q19.2 244 (Int32.toNatClampNeg l1) q19.1) 4).bind (fun q22 => (if ((hi q22 226 13) : Int32) ≤ 0 then (if ixOK l2 403 = true then (if ixOK (hi q22 226 20) 5 = true then (if ixOK (hi (wrI (wrL q22 234 (Int32.toNatClampNeg (hi q22 226 20)) (hl q22 232 (Int32.toNatClampNeg l2))) 226 20 ((hi (wrL q22 234 (Int32.toNatClampNeg (hi q22 226 20)) (hl q22 232 (Int32.toNatClampNeg l2))) 226 20) + 1)) 226 19) 2 = true then (if ixOK (hi (wrI (wrL q22 234 (Int32.toNatClampNeg (hi q22 226 20)) (hl q22 232 (Int32.toNatClampNeg l2))) 226 20 ((hi (wrL q22 234 (Int32.toNatClampNeg (hi q22 226 20)) (hl q22 232 (Int32.toNatClampNeg l2))) 226 20) + 1)) 226 19) 2 = true then some (wrI (wrI (wrL q22 234 (Int32.toNatClampNeg (hi q22 226 20)) (hl q22 232 (Int32.toNatClampNeg l2))) 226 20 ((hi (wrL q22 234 (Int32.toNatClampNeg (hi q22 226 20)) (hl q22 232 (Int32.toNatClampNeg l2))) 226 20) + 1)) 242 (Int32.toNatClampNeg (hi (wrI (wrL q22 234 (Int32.toNatClampNeg (hi q22 226 20)) (hl q22 232 (Int32.toNatClampNeg l2))) 226 20 ((hi (wrL q22 234 (Int32.toNatClampNeg (hi q22 226 20)) (hl q22 232 (Int32.toNatClampNeg l2))) 226 20) + 1)) 226 19)) ((hi (wrI (wrL q22 234 (Int32.toNatClampNeg (hi q22 226 20)) (hl q22 232 (Int32.toNatClampNeg l2))) 226 20 ((hi (wrL q22 234 (Int32.toNatClampNeg (hi q22 226 20)) (hl q22 232 (Int32.toNatClampNeg l2))) 226 20) + 1)) 242 (Int32.toNatClampNeg (hi (wrI (wrL q22 234 (Int32.toNatClampNeg (hi q22 226 20)) (hl q22 232 (Int32.toNatClampNeg l2))) 226 20 ((hi (wrL q22 234 (Int32.toNatClampNeg (hi q22 226 20)) (hl q22 232 (Int32.toNatClampNeg l2))) 226 20) + 1)) 226 19))) + 1)) else none) else none) else none) else none) else some q22))) else none))) else none))))) else none)
set_option maxRecDepth 100000 in
set_option maxHeartbeats 4000000 in
theorem sw_X12_tellGoer (d : Nat)  (n : Nat) : (∀ (l1 : Int32) (l2 : Int32) (l3 : Int32) (h : Hp), ∀ (h' : Hp), W_X12_tellGoer n 29 h  l1 l2 l3 = some h' → G h → V mX12_tellGoer (d + 3) 29 [some (.ref 226), some (.int l1), some (.int l2), some (.int l3)] [] h (fun r1 h1 => r1 = none ∧ h1 = h' ∧ G h')) := by
  induction n with
  | zero => exact by intros; contradiction
  | succ n ih =>
    have s_X12_tellGoer_IH_29 := ih
    intro l1 l2 l3 h h' hF hG
    unfold W_X12_tellGoer at hF
    rw [if_pos rfl] at hF
    refine v_iload_n (i := 3) dX12_tellGoer_29 rfl rfl ?_
    refine v_aload_n (i := 0) dX12_tellGoer_30 rfl rfl ?_
    refine g_X12_251 rfl sh_226 (by exact ltG hG (by decide)) dX12_tellGoer_31 ?_
    refine v_icmp_ge 72 dX12_tellGoer_34 (by decide) (fun c1 => ?_) (fun c1 => ?_)
    · rw [if_pos c1] at hF
      refine v_aload_n (i := 0) dX12_tellGoer_72 rfl rfl ?_
      refine g_X12_67 (q := 243) rfl sh_226 (by exact ltG hG (by decide)) (by exact rG hG r0_226_30) dX12_tellGoer_73 ?_
      refine v_iload_n (i := 1) dX12_tellGoer_76 rfl rfl ?_
      refine v_aload_n (i := 0) dX12_tellGoer_77 rfl rfl ?_
      refine v_iconst (v := 0) dX12_tellGoer_78 (by decide) ?_
      refine v_iconst (v := 4) dX12_tellGoer_79 (by decide) ?_
      obtain ⟨q2, q2_e, hF⟩ := Option.bind_eq_some_iff.mp hF
      refine c_X12_281 rfl sh_226 (by exact ltG hG (by decide)) (Nat.le_of_ble_eq_true rfl) dX12_tellGoer_80 (s_X12_bounded _ q2_e hG) (fun r1 h1 hq => ?_)
      obtain ⟨rfl, hq, hG⟩ := hq
      replace hq := hq.symm
      subst hq
      show V _ _ _ _ (_ :: _) _ _
      obtain ⟨k4, hF⟩ := ck_some hF
      refine v_iastore sh_243 (by exact ltG hG (by decide)) (ixO k4) dX12_tellGoer_83 ?_
      refine v_aload_n (i := 0) dX12_tellGoer_84 rfl rfl ?_
      refine g_X12_70 (q := 244) rfl sh_226 (by exact ltG hG (by decide)) (by exact rG hG r0_226_31) dX12_tellGoer_85 ?_
      refine v_iload_n (i := 1) dX12_tellGoer_88 rfl rfl ?_
      refine v_aload_n (i := 0) dX12_tellGoer_89 rfl rfl ?_
      refine v_iconst (v := 0) dX12_tellGoer_90 (by decide) ?_
      refine v_iconst (v := 4) dX12_tellGoer_91 (by decide) ?_
      obtain ⟨q5, q5_e, hF⟩ := Option.bind_eq_some_iff.mp hF
      refine c_X12_281 rfl sh_226 (by exact ltG hG (by decide)) (Nat.le_of_ble_eq_true rfl) dX12_tellGoer_92 (s_X12_bounded _ q5_e hG) (fun r1 h1 hq => ?_)
      obtain ⟨rfl, hq, hG⟩ := hq
      replace hq := hq.symm
      subst hq
      show V _ _ _ _ (_ :: _) _ _
      obtain ⟨k7, hF⟩ := ck_some hF
      refine v_iastore sh_244 (by exact ltG hG (by decide)) (ixO k7) dX12_tellGoer_95 ?_
      refine v_aload_n (i := 0) dX12_tellGoer_96 rfl rfl ?_
      refine v_iconst (v := 4) dX12_tellGoer_97 (by decide) ?_
      obtain ⟨q8, q8_e, hF⟩ := Option.bind_eq_some_iff.mp hF
      refine c_X12_285 rfl sh_226 (by exact ltG hG (by decide)) (Nat.le_of_ble_eq_true rfl) dX12_tellGoer_98 (s_X12_must _ q8_e hG) (fun r1 h1 hq => ?_)
      obtain ⟨rfl, hq, hG⟩ := hq
      replace hq := hq.symm
      subst hq
      simp only [Option.toList, List.nil_append]
      refine v_aload_n (i := 0) dX12_tellGoer_101 rfl rfl ?_
      refine g_X12_215 rfl sh_226 (by exact ltG hG (by decide)) dX12_tellGoer_102 ?_
      refine v_if_le 109 dX12_tellGoer_105 (by decide) (fun c10 => ?_) (fun c10 => ?_)
      · rw [if_pos c10] at hF
        refine v_aload_n (i := 0) dX12_tellGoer_109 rfl rfl ?_
        refine g_X12_40 (q := 234) rfl sh_226 (by exact ltG hG (by decide)) (by exact rG hG r0_226_21) dX12_tellGoer_110 ?_
        refine v_aload_n (i := 0) dX12_tellGoer_113 rfl rfl ?_
        refine g_X12_251 rfl sh_226 (by exact ltG hG (by decide)) dX12_tellGoer_114 ?_
        refine v_aload_n (i := 0) dX12_tellGoer_117 rfl rfl ?_
        refine g_X12_30 (q := 232) rfl sh_226 (by exact ltG hG (by decide)) (by exact rG hG r0_226_8) dX12_tellGoer_118 ?_
        refine v_iload_n (i := 2) dX12_tellGoer_121 rfl rfl ?_
        obtain ⟨k11, hF⟩ := ck_some hF
        refine v_laload sh_232 (by exact ltG hG (by decide)) (ixO k11) dX12_tellGoer_122 ?_
        obtain ⟨k12, hF⟩ := ck_some hF
        refine v_lastore sh_234 (by exact ltG hG (by decide)) (ixO k12) dX12_tellGoer_123 ?_
        refine v_aload_n (i := 0) dX12_tellGoer_124 rfl rfl ?_
        refine v_dup dX12_tellGoer_125 rfl ?_
        refine g_X12_251 rfl sh_226 (by exact ltG hG (by decide)) dX12_tellGoer_126 ?_
        refine v_iconst (v := 1) dX12_tellGoer_129 (by decide) ?_
        refine v_iadd dX12_tellGoer_130 ?_
        refine p_X12_251 rfl sh_226 (by exact ltG hG (by decide)) dX12_tellGoer_131 ?_
        refine v_aload_n (i := 0) dX12_tellGoer_134 rfl rfl ?_
        refine g_X12_64 (q := 242) rfl sh_226 (by exact ltG hG (by decide)) (by exact rG hG r0_226_29) dX12_tellGoer_135 ?_
        refine v_aload_n (i := 0) dX12_tellGoer_138 rfl rfl ?_
        refine g_X12_248 rfl sh_226 (by exact ltG hG (by decide)) dX12_tellGoer_139 ?_
        refine v_dup2 dX12_tellGoer_142 rfl rfl ?_
        obtain ⟨k13, hF⟩ := ck_some hF
        refine v_iaload sh_242 (by exact ltG hG (by decide)) (ixO k13) dX12_tellGoer_143 ?_
        refine v_iconst (v := 1) dX12_tellGoer_144 (by decide) ?_
        refine v_iadd dX12_tellGoer_145 ?_
        obtain ⟨k14, hF⟩ := ck_some hF
        refine v_iastore sh_242 (by exact ltG hG (by decide)) (ixO k14) dX12_tellGoer_146 ?_
        refine v_return rfl dX12_tellGoer_147 ?_
        obtain rfl := Option.some.inj hF
        exact ⟨rfl, rfl, hG⟩
      · rw [if_neg c10] at hF
        refine v_return rfl dX12_tellGoer_108 ?_
        obtain rfl := Option.some.inj hF
        exact ⟨rfl, rfl, hG⟩
    · rw [if_neg c1] at hF
      refine v_aload_n (i := 0) dX12_tellGoer_37 rfl rfl ?_
      refine g_X12_215 rfl sh_226 (by exact ltG hG (by decide)) dX12_tellGoer_38 ?_
      refine v_if_ne 72 dX12_tellGoer_41 (by decide) (fun c15 => ?_) (fun c15 => ?_)
      · rw [if_neg c15] at hF
        refine v_aload_n (i := 0) dX12_tellGoer_72 rfl rfl ?_
        refine g_X12_67 (q := 243) rfl sh_226 (by exact ltG hG (by decide)) (by exact rG hG r0_226_30) dX12_tellGoer_73 ?_
        refine v_iload_n (i := 1) dX12_tellGoer_76 rfl rfl ?_
        refine v_aload_n (i := 0) dX12_tellGoer_77 rfl rfl ?_
        refine v_iconst (v := 0) dX12_tellGoer_78 (by decide) ?_
        refine v_iconst (v := 4) dX12_tellGoer_79 (by decide) ?_
        obtain ⟨q16, q16_e, hF⟩ := Option.bind_eq_some_iff.mp hF
        refine c_X12_281 rfl sh_226 (by exact ltG hG (by decide)) (Nat.le_of_ble_eq_true rfl) dX12_tellGoer_80 (s_X12_bounded _ q16_e hG) (fun r1 h1 hq => ?_)
        obtain ⟨rfl, hq, hG⟩ := hq
        replace hq := hq.symm
        subst hq
        show V _ _ _ _ (_ :: _) _ _
        obtain ⟨k18, hF⟩ := ck_some hF
        refine v_iastore sh_243 (by exact ltG hG (by decide)) (ixO k18) dX12_tellGoer_83 ?_
        refine v_aload_n (i := 0) dX12_tellGoer_84 rfl rfl ?_
        refine g_X12_70 (q := 244) rfl sh_226 (by exact ltG hG (by decide)) (by exact rG hG r0_226_31) dX12_tellGoer_85 ?_
        refine v_iload_n (i := 1) dX12_tellGoer_88 rfl rfl ?_
        refine v_aload_n (i := 0) dX12_tellGoer_89 rfl rfl ?_
        refine v_iconst (v := 0) dX12_tellGoer_90 (by decide) ?_
        refine v_iconst (v := 4) dX12_tellGoer_91 (by decide) ?_
        obtain ⟨q19, q19_e, hF⟩ := Option.bind_eq_some_iff.mp hF
        refine c_X12_281 rfl sh_226 (by exact ltG hG (by decide)) (Nat.le_of_ble_eq_true rfl) dX12_tellGoer_92 (s_X12_bounded _ q19_e hG) (fun r1 h1 hq => ?_)
        obtain ⟨rfl, hq, hG⟩ := hq
        replace hq := hq.symm
        subst hq
        show V _ _ _ _ (_ :: _) _ _
        obtain ⟨k21, hF⟩ := ck_some hF
        refine v_iastore sh_244 (by exact ltG hG (by decide)) (ixO k21) dX12_tellGoer_95 ?_
        refine v_aload_n (i := 0) dX12_tellGoer_96 rfl rfl ?_
        refine v_iconst (v := 4) dX12_tellGoer_97 (by decide) ?_
        obtain ⟨q22, q22_e, hF⟩ := Option.bind_eq_some_iff.mp hF
        refine c_X12_285 rfl sh_226 (by exact ltG hG (by decide)) (Nat.le_of_ble_eq_true rfl) dX12_tellGoer_98 (s_X12_must _ q22_e hG) (fun r1 h1 hq => ?_)
        obtain ⟨rfl, hq, hG⟩ := hq
        replace hq := hq.symm
        subst hq
        simp only [Option.toList, List.nil_append]
        refine v_aload_n (i := 0) dX12_tellGoer_101 rfl rfl ?_
        refine g_X12_215 rfl sh_226 (by exact ltG hG (by decide)) dX12_tellGoer_102 ?_
        refine v_if_le 109 dX12_tellGoer_105 (by decide) (fun c24 => ?_) (fun c24 => ?_)
        · rw [if_pos c24] at hF
          refine v_aload_n (i := 0) dX12_tellGoer_109 rfl rfl ?_
          refine g_X12_40 (q := 234) rfl sh_226 (by exact ltG hG (by decide)) (by exact rG hG r0_226_21) dX12_tellGoer_110 ?_
          refine v_aload_n (i := 0) dX12_tellGoer_113 rfl rfl ?_
          refine g_X12_251 rfl sh_226 (by exact ltG hG (by decide)) dX12_tellGoer_114 ?_
          refine v_aload_n (i := 0) dX12_tellGoer_117 rfl rfl ?_
          refine g_X12_30 (q := 232) rfl sh_226 (by exact ltG hG (by decide)) (by exact rG hG r0_226_8) dX12_tellGoer_118 ?_
          refine v_iload_n (i := 2) dX12_tellGoer_121 rfl rfl ?_
          obtain ⟨k25, hF⟩ := ck_some hF
          refine v_laload sh_232 (by exact ltG hG (by decide)) (ixO k25) dX12_tellGoer_122 ?_
          obtain ⟨k26, hF⟩ := ck_some hF
          refine v_lastore sh_234 (by exact ltG hG (by decide)) (ixO k26) dX12_tellGoer_123 ?_
          refine v_aload_n (i := 0) dX12_tellGoer_124 rfl rfl ?_
          refine v_dup dX12_tellGoer_125 rfl ?_
          refine g_X12_251 rfl sh_226 (by exact ltG hG (by decide)) dX12_tellGoer_126 ?_
          refine v_iconst (v := 1) dX12_tellGoer_129 (by decide) ?_
          refine v_iadd dX12_tellGoer_130 ?_
          refine p_X12_251 rfl sh_226 (by exact ltG hG (by decide)) dX12_tellGoer_131 ?_
          refine v_aload_n (i := 0) dX12_tellGoer_134 rfl rfl ?_
          refine g_X12_64 (q := 242) rfl sh_226 (by exact ltG hG (by decide)) (by exact rG hG r0_226_29) dX12_tellGoer_135 ?_
          refine v_aload_n (i := 0) dX12_tellGoer_138 rfl rfl ?_
          refine g_X12_248 rfl sh_226 (by exact ltG hG (by decide)) dX12_tellGoer_139 ?_
          refine v_dup2 dX12_tellGoer_142 rfl rfl ?_
          obtain ⟨k27, hF⟩ := ck_some hF
          refine v_iaload sh_242 (by exact ltG hG (by decide)) (ixO k27) dX12_tellGoer_143 ?_
          refine v_iconst (v := 1) dX12_tellGoer_144 (by decide) ?_
          refine v_iadd dX12_tellGoer_145 ?_
          obtain ⟨k28, hF⟩ := ck_some hF
          refine v_iastore sh_242 (by exact ltG hG (by decide)) (ixO k28) dX12_tellGoer_146 ?_
          refine v_return rfl dX12_tellGoer_147 ?_
          obtain rfl := Option.some.inj hF
          exact ⟨rfl, rfl, hG⟩
        · rw [if_neg c24] at hF
          refine v_return rfl dX12_tellGoer_108 ?_
          obtain rfl := Option.some.inj hF
          exact ⟨rfl, rfl, hG⟩
      · rw [if_pos c15] at hF
        refine v_aload_n (i := 0) dX12_tellGoer_44 rfl rfl ?_
        refine g_X12_40 (q := 234) rfl sh_226 (by exact ltG hG (by decide)) (by exact rG hG r0_226_21) dX12_tellGoer_45 ?_
        refine v_iload_n (i := 3) dX12_tellGoer_48 rfl rfl ?_
        obtain ⟨k29, hF⟩ := ck_some hF
        refine v_laload sh_234 (by exact ltG hG (by decide)) (ixO k29) dX12_tellGoer_49 ?_
        refine v_aload_n (i := 0) dX12_tellGoer_50 rfl rfl ?_
        refine g_X12_30 (q := 232) rfl sh_226 (by exact ltG hG (by decide)) (by exact rG hG r0_226_8) dX12_tellGoer_51 ?_
        refine v_iload_n (i := 2) dX12_tellGoer_54 rfl rfl ?_
        obtain ⟨k30, hF⟩ := ck_some hF
        refine v_laload sh_232 (by exact ltG hG (by decide)) (ixO k30) dX12_tellGoer_55 ?_
        refine v_lcmp dX12_tellGoer_56 ?_
        refine v_if_ne 66 dX12_tellGoer_57 (by decide) (fun c31 => ?_) (fun c31 => ?_)
        · rw [if_neg c31] at hF
          refine v_iinc (i := 3) (v := (l3 + 1)) dX12_tellGoer_66 rfl rfl (by decide) (nlT rfl) ?_
          simp only [List.set_cons_zero, List.set_cons_succ]
          refine v_goto 29 dX12_tellGoer_69 (by decide) ?_
          refine V.weak (la2 := [some (.ref 226), some (.int l1), some (.int l2), some (.int (l3 + 1))]) (by simp [wk]) ?_
          exact (s_X12_tellGoer_IH_29) _ _ _ _ _ hF hG
        · rw [if_pos c31] at hF
          refine v_aload_n (i := 0) dX12_tellGoer_60 rfl rfl ?_
          refine v_iconst (v := 3) dX12_tellGoer_61 (by decide) ?_
          refine v_iload_n (i := 2) dX12_tellGoer_62 rfl rfl ?_
          obtain ⟨q32, q32_e, hF⟩ := Option.bind_eq_some_iff.mp hF
          refine c_X12_267 rfl sh_226 (by exact ltG hG (by decide)) (Nat.le_of_ble_eq_true rfl) dX12_tellGoer_63 (s_X12_wrong _ q32_e hG) (fun r1 h1 hq => ?_)
          obtain ⟨rfl, hq, hG⟩ := hq
          replace hq := hq.symm
          subst hq
          simp only [Option.toList, List.nil_append]
          refine v_iinc (i := 3) (v := (l3 + 1)) dX12_tellGoer_66 rfl rfl (by decide) (nlT rfl) ?_
          simp only [List.set_cons_zero, List.set_cons_succ]
          refine v_goto 29 dX12_tellGoer_69 (by decide) ?_
          refine V.weak (la2 := [some (.ref 226), some (.int l1), some (.int l2), some (.int (l3 + 1))]) (by simp [wk]) ?_
          exact (s_X12_tellGoer_IH_29) _ _ _ _ _ hF hG
def F_X12_tellGoer (n : Nat) (h : Hp) : Option Hp := (if ixOK (hi h 226 19) 2 = true then ((F_X12_must n h 1).bind (fun q35 => W_X12_tellGoer n 29 q35  ((5 * (hi h 226 19)) + (hi h 242 (Int32.toNatClampNeg (hi h 226 19)))) (hi h 226 11) 0)) else none)
set_option maxRecDepth 100000 in
set_option maxHeartbeats 4000000 in
theorem s_X12_tellGoer (d : Nat) {n : Nat} {h : Hp}  {q0 : Hp} (hF : F_X12_tellGoer n h  = some q0) (hG : G h)  : Kc mX12_tellGoer (d + 3) [.ref 226] h (fun r1 h1 => r1 = none ∧ h1 = q0 ∧ G q0) := by
  obtain ⟨h', rfl⟩ : ∃ z, z = q0 := ⟨_, rfl⟩
  have s_X12_tellGoer_IH_29 := sw_X12_tellGoer d   n
  unfold F_X12_tellGoer at hF
  refine Kc.of [some (.ref 226), none, none, none] ok_X12_tellGoer rfl (Nat.le_of_ble_eq_true rfl) ?_
  refine v_iconst (v := 5) dX12_tellGoer_0 (by decide) ?_
  refine v_aload_n (i := 0) dX12_tellGoer_1 rfl rfl ?_
  refine g_X12_248 rfl sh_226 (by exact ltG hG (by decide)) dX12_tellGoer_2 ?_
  refine v_imul dX12_tellGoer_5 ?_
  refine v_aload_n (i := 0) dX12_tellGoer_6 rfl rfl ?_
  refine g_X12_64 (q := 242) rfl sh_226 (by exact ltG hG (by decide)) (by exact rG hG r0_226_29) dX12_tellGoer_7 ?_
  refine v_aload_n (i := 0) dX12_tellGoer_10 rfl rfl ?_
  refine g_X12_248 rfl sh_226 (by exact ltG hG (by decide)) dX12_tellGoer_11 ?_
  obtain ⟨k34, hF⟩ := ck_some hF
  refine v_iaload sh_242 (by exact ltG hG (by decide)) (ixO k34) dX12_tellGoer_14 ?_
  refine v_iadd dX12_tellGoer_15 ?_
  refine v_istore_n (i := 1) dX12_tellGoer_16 rfl (by decide) (nlT rfl) ?_
  simp only [List.set_cons_zero, List.set_cons_succ]
  refine v_aload_n (i := 0) dX12_tellGoer_17 rfl rfl ?_
  refine g_X12_218 rfl sh_226 (by exact ltG hG (by decide)) dX12_tellGoer_18 ?_
  refine v_istore_n (i := 2) dX12_tellGoer_21 rfl (by decide) (nlT rfl) ?_
  simp only [List.set_cons_zero, List.set_cons_succ]
  refine v_aload_n (i := 0) dX12_tellGoer_22 rfl rfl ?_
  refine v_iconst (v := 1) dX12_tellGoer_23 (by decide) ?_
  obtain ⟨q35, q35_e, hF⟩ := Option.bind_eq_some_iff.mp hF
  refine c_X12_285 rfl sh_226 (by exact ltG hG (by decide)) (Nat.le_of_ble_eq_true rfl) dX12_tellGoer_24 (s_X12_must _ q35_e hG) (fun r1 h1 hq => ?_)
  obtain ⟨rfl, hq, hG⟩ := hq
  replace hq := hq.symm
  subst hq
  simp only [Option.toList, List.nil_append]
  refine v_iconst (v := 0) dX12_tellGoer_27 (by decide) ?_
  refine v_istore_n (i := 3) dX12_tellGoer_28 rfl (by decide) (nlT rfl) ?_
  simp only [List.set_cons_zero, List.set_cons_succ]
  refine V.weak (la2 := [some (.ref 226), some (.int ((5 * (hi h 226 19)) + (hi h 242 (Int32.toNatClampNeg (hi h 226 19))))), some (.int (hi h 226 11)), some (.int 0)]) (by simp [wk]) ?_
  exact (s_X12_tellGoer_IH_29) _ _ _ _ _ hF hG
def F_X12_tellRope (n : Nat) (h : Hp) : Option Hp := (if ixOK (hi h 226 19) 2 = true then ((F_X12_bounded n h 0 4).bind (fun q2 => (if ixOK ((8 * (hi h 226 19)) + (hi h 245 (Int32.toNatClampNeg (hi h 226 19)))) 16 = true then ((F_X12_bounded n (wrI q2.2 246 (Int32.toNatClampNeg ((8 * (hi h 226 19)) + (hi h 245 (Int32.toNatClampNeg (hi h 226 19))))) q2.1) 0 4).bind (fun q5 => (if ixOK ((8 * (hi h 226 19)) + (hi h 245 (Int32.toNatClampNeg (hi h 226 19)))) 16 = true then ((F_X12_must n (wrI q5.2 247 (Int32.toNatClampNeg ((8 * (hi h 226 19)) + (hi h 245 (Int32.toNatClampNeg (hi h 226 19))))) q5.1) 4).bind (fun q8 => (if ((hi q8 226 13) : Int32) = 0 then (if ixOK (hi q8 226 19) 2 = true then (if ixOK (hi q8 226 19) 2 = true then some (wrI q8 245 (Int32.toNatClampNeg (hi q8 226 19)) ((hi q8 245 (Int32.toNatClampNeg (hi q8 226 19))) + 1)) else none) else none) else some q8))) else none))) else none))) else none)
set_option maxRecDepth 100000 in
set_option maxHeartbeats 4000000 in
theorem s_X12_tellRope (d : Nat) {n : Nat} {h : Hp}  {q0 : Hp} (hF : F_X12_tellRope n h  = some q0) (hG : G h)  : Kc mX12_tellRope (d + 3) [.ref 226] h (fun r1 h1 => r1 = none ∧ h1 = q0 ∧ G q0) := by
  obtain ⟨h', rfl⟩ : ∃ z, z = q0 := ⟨_, rfl⟩
  unfold F_X12_tellRope at hF
  refine Kc.of [some (.ref 226), none] ok_X12_tellRope rfl (Nat.le_of_ble_eq_true rfl) ?_
  refine v_bipush (v := 8) dX12_tellRope_0 (by decide) ?_
  refine v_aload_n (i := 0) dX12_tellRope_2 rfl rfl ?_
  refine g_X12_248 rfl sh_226 (by exact ltG hG (by decide)) dX12_tellRope_3 ?_
  refine v_imul dX12_tellRope_6 ?_
  refine v_aload_n (i := 0) dX12_tellRope_7 rfl rfl ?_
  refine g_X12_73 (q := 245) rfl sh_226 (by exact ltG hG (by decide)) (by exact rG hG r0_226_32) dX12_tellRope_8 ?_
  refine v_aload_n (i := 0) dX12_tellRope_11 rfl rfl ?_
  refine g_X12_248 rfl sh_226 (by exact ltG hG (by decide)) dX12_tellRope_12 ?_
  obtain ⟨k1, hF⟩ := ck_some hF
  refine v_iaload sh_245 (by exact ltG hG (by decide)) (ixO k1) dX12_tellRope_15 ?_
  refine v_iadd dX12_tellRope_16 ?_
  refine v_istore_n (i := 1) dX12_tellRope_17 rfl (by decide) (nlT rfl) ?_
  simp only [List.set_cons_zero, List.set_cons_succ]
  refine v_aload_n (i := 0) dX12_tellRope_18 rfl rfl ?_
  refine g_X12_76 (q := 246) rfl sh_226 (by exact ltG hG (by decide)) (by exact rG hG r0_226_33) dX12_tellRope_19 ?_
  refine v_iload_n (i := 1) dX12_tellRope_22 rfl rfl ?_
  refine v_aload_n (i := 0) dX12_tellRope_23 rfl rfl ?_
  refine v_iconst (v := 0) dX12_tellRope_24 (by decide) ?_
  refine v_iconst (v := 4) dX12_tellRope_25 (by decide) ?_
  obtain ⟨q2, q2_e, hF⟩ := Option.bind_eq_some_iff.mp hF
  refine c_X12_281 rfl sh_226 (by exact ltG hG (by decide)) (Nat.le_of_ble_eq_true rfl) dX12_tellRope_26 (s_X12_bounded _ q2_e hG) (fun r1 h1 hq => ?_)
  obtain ⟨rfl, hq, hG⟩ := hq
  replace hq := hq.symm
  subst hq
  show V _ _ _ _ (_ :: _) _ _
  obtain ⟨k4, hF⟩ := ck_some hF
  refine v_iastore sh_246 (by exact ltG hG (by decide)) (ixO k4) dX12_tellRope_29 ?_
  refine v_aload_n (i := 0) dX12_tellRope_30 rfl rfl ?_
  refine g_X12_79 (q := 247) rfl sh_226 (by exact ltG hG (by decide)) (by exact rG hG r0_226_34) dX12_tellRope_31 ?_
  refine v_iload_n (i := 1) dX12_tellRope_34 rfl rfl ?_
  refine v_aload_n (i := 0) dX12_tellRope_35 rfl rfl ?_
  refine v_iconst (v := 0) dX12_tellRope_36 (by decide) ?_
  refine v_iconst (v := 4) dX12_tellRope_37 (by decide) ?_
  obtain ⟨q5, q5_e, hF⟩ := Option.bind_eq_some_iff.mp hF
  refine c_X12_281 rfl sh_226 (by exact ltG hG (by decide)) (Nat.le_of_ble_eq_true rfl) dX12_tellRope_38 (s_X12_bounded _ q5_e hG) (fun r1 h1 hq => ?_)
  obtain ⟨rfl, hq, hG⟩ := hq
  replace hq := hq.symm
  subst hq
  show V _ _ _ _ (_ :: _) _ _
  obtain ⟨k7, hF⟩ := ck_some hF
  refine v_iastore sh_247 (by exact ltG hG (by decide)) (ixO k7) dX12_tellRope_41 ?_
  refine v_aload_n (i := 0) dX12_tellRope_42 rfl rfl ?_
  refine v_iconst (v := 4) dX12_tellRope_43 (by decide) ?_
  obtain ⟨q8, q8_e, hF⟩ := Option.bind_eq_some_iff.mp hF
  refine c_X12_285 rfl sh_226 (by exact ltG hG (by decide)) (Nat.le_of_ble_eq_true rfl) dX12_tellRope_44 (s_X12_must _ q8_e hG) (fun r1 h1 hq => ?_)
  obtain ⟨rfl, hq, hG⟩ := hq
  replace hq := hq.symm
  subst hq
  simp only [Option.toList, List.nil_append]
  refine v_aload_n (i := 0) dX12_tellRope_47 rfl rfl ?_
  refine g_X12_215 rfl sh_226 (by exact ltG hG (by decide)) dX12_tellRope_48 ?_
  refine v_if_ne 67 dX12_tellRope_51 (by decide) (fun c10 => ?_) (fun c10 => ?_)
  · rw [if_neg c10] at hF
    refine v_return rfl dX12_tellRope_67 ?_
    obtain rfl := Option.some.inj hF
    exact ⟨rfl, rfl, hG⟩
  · rw [if_pos c10] at hF
    refine v_aload_n (i := 0) dX12_tellRope_54 rfl rfl ?_
    refine g_X12_73 (q := 245) rfl sh_226 (by exact ltG hG (by decide)) (by exact rG hG r0_226_32) dX12_tellRope_55 ?_
    refine v_aload_n (i := 0) dX12_tellRope_58 rfl rfl ?_
    refine g_X12_248 rfl sh_226 (by exact ltG hG (by decide)) dX12_tellRope_59 ?_
    refine v_dup2 dX12_tellRope_62 rfl rfl ?_
    obtain ⟨k11, hF⟩ := ck_some hF
    refine v_iaload sh_245 (by exact ltG hG (by decide)) (ixO k11) dX12_tellRope_63 ?_
    refine v_iconst (v := 1) dX12_tellRope_64 (by decide) ?_
    refine v_iadd dX12_tellRope_65 ?_
    obtain ⟨k12, hF⟩ := ck_some hF
    refine v_iastore sh_245 (by exact ltG hG (by decide)) (ixO k12) dX12_tellRope_66 ?_
    refine v_return rfl dX12_tellRope_67 ?_
    obtain rfl := Option.some.inj hF
    exact ⟨rfl, rfl, hG⟩
def F_X12_tellTune (n : Nat) (h : Hp) : Option Hp := (if ixOK (hi h 226 19) 2 = true then ((F_X12_bounded n h 0 4).bind (fun q2 => (if ixOK ((8 * (hi h 226 19)) + (hi h 237 (Int32.toNatClampNeg (hi h 226 19)))) 16 = true then ((F_X12_bounded n (wrI q2.2 238 (Int32.toNatClampNeg ((8 * (hi h 226 19)) + (hi h 237 (Int32.toNatClampNeg (hi h 226 19))))) q2.1) 0 4).bind (fun q5 => (if ixOK ((8 * (hi h 226 19)) + (hi h 237 (Int32.toNatClampNeg (hi h 226 19)))) 16 = true then ((F_X12_bounded n (wrI q5.2 239 (Int32.toNatClampNeg ((8 * (hi h 226 19)) + (hi h 237 (Int32.toNatClampNeg (hi h 226 19))))) q5.1) 2 6).bind (fun q8 => (if ixOK ((8 * (hi h 226 19)) + (hi h 237 (Int32.toNatClampNeg (hi h 226 19)))) 16 = true then (if ixOK ((8 * (hi h 226 19)) + (hi h 237 (Int32.toNatClampNeg (hi h 226 19)))) 16 = true then (if (5 : Int32) ≤ (((hi (wrI q8.2 240 (Int32.toNatClampNeg ((8 * (hi h 226 19)) + (hi h 237 (Int32.toNatClampNeg (hi h 226 19))))) q8.1) 240 (Int32.toNatClampNeg ((8 * (hi h 226 19)) + (hi h 237 (Int32.toNatClampNeg (hi h 226 19)))))) - 1) : Int32) then ((F_X12_bounded n (wrI q8.2 240 (Int32.toNatClampNeg ((8 * (hi h 226 19)) + (hi h 237 (Int32.toNatClampNeg (hi h 226 19))))) q8.1) 0 5).bind (fun q13 => (if ixOK ((8 * (hi h 226 19)) + (hi h 237 (Int32.toNatClampNeg (hi h 226 19)))) 16 = true then ((F_X12_must n (wrI q13.2 241 (Int32.toNatClampNeg ((8 * (hi h 226 19)) + (hi h 237 (Int32.toNatClampNeg (hi h 226 19))))) q13.1) 4).bind (fun q16 => (if ((hi q16 226 13) : Int32) = 0 then (if ixOK (hi q16 226 19) 2 = true then (if ixOK (hi q16 226 19) 2 = true then some (wrI q16 237 (Int32.toNatClampNeg (hi q16 226 19)) ((hi q16 237 (Int32.toNatClampNeg (hi q16 226 19))) + 1)) else none) else none) else some q16))) else none))) else (if ixOK ((8 * (hi h 226 19)) + (hi h 237 (Int32.toNatClampNeg (hi h 226 19)))) 16 = true then ((F_X12_bounded n (wrI q8.2 240 (Int32.toNatClampNeg ((8 * (hi h 226 19)) + (hi h 237 (Int32.toNatClampNeg (hi h 226 19))))) q8.1) 0 ((hi (wrI q8.2 240 (Int32.toNatClampNeg ((8 * (hi h 226 19)) + (hi h 237 (Int32.toNatClampNeg (hi h 226 19))))) q8.1) 240 (Int32.toNatClampNeg ((8 * (hi h 226 19)) + (hi h 237 (Int32.toNatClampNeg (hi h 226 19)))))) - 1)).bind (fun q22 => (if ixOK ((8 * (hi h 226 19)) + (hi h 237 (Int32.toNatClampNeg (hi h 226 19)))) 16 = true then ((F_X12_must n (wrI q22.2 241 (Int32.toNatClampNeg ((8 * (hi h 226 19)) + (hi h 237 (Int32.toNatClampNeg (hi h 226 19))))) q22.1) 4).bind (fun q25 => (if ((hi q25 226 13) : Int32) = 0 then (if ixOK (hi q25 226 19) 2 = true then (if ixOK (hi q25 226 19) 2 = true then some (wrI q25 237 (Int32.toNatClampNeg (hi q25 226 19)) ((hi q25 237 (Int32.toNatClampNeg (hi q25 226 19))) + 1)) else none) else none) else some q25))) else none))) else none)) else none) else none))) else none))) else none))) else none)
set_option maxRecDepth 100000 in
set_option maxHeartbeats 4000000 in
theorem s_X12_tellTune (d : Nat) {n : Nat} {h : Hp}  {q0 : Hp} (hF : F_X12_tellTune n h  = some q0) (hG : G h)  : Kc mX12_tellTune (d + 3) [.ref 226] h (fun r1 h1 => r1 = none ∧ h1 = q0 ∧ G q0) := by
  obtain ⟨h', rfl⟩ : ∃ z, z = q0 := ⟨_, rfl⟩
  unfold F_X12_tellTune at hF
  refine Kc.of [some (.ref 226), none] ok_X12_tellTune rfl (Nat.le_of_ble_eq_true rfl) ?_
  refine v_bipush (v := 8) dX12_tellTune_0 (by decide) ?_
  refine v_aload_n (i := 0) dX12_tellTune_2 rfl rfl ?_
  refine g_X12_248 rfl sh_226 (by exact ltG hG (by decide)) dX12_tellTune_3 ?_
  refine v_imul dX12_tellTune_6 ?_
  refine v_aload_n (i := 0) dX12_tellTune_7 rfl rfl ?_
  refine g_X12_49 (q := 237) rfl sh_226 (by exact ltG hG (by decide)) (by exact rG hG r0_226_24) dX12_tellTune_8 ?_
  refine v_aload_n (i := 0) dX12_tellTune_11 rfl rfl ?_
  refine g_X12_248 rfl sh_226 (by exact ltG hG (by decide)) dX12_tellTune_12 ?_
  obtain ⟨k1, hF⟩ := ck_some hF
  refine v_iaload sh_237 (by exact ltG hG (by decide)) (ixO k1) dX12_tellTune_15 ?_
  refine v_iadd dX12_tellTune_16 ?_
  refine v_istore_n (i := 1) dX12_tellTune_17 rfl (by decide) (nlT rfl) ?_
  simp only [List.set_cons_zero, List.set_cons_succ]
  refine v_aload_n (i := 0) dX12_tellTune_18 rfl rfl ?_
  refine g_X12_52 (q := 238) rfl sh_226 (by exact ltG hG (by decide)) (by exact rG hG r0_226_25) dX12_tellTune_19 ?_
  refine v_iload_n (i := 1) dX12_tellTune_22 rfl rfl ?_
  refine v_aload_n (i := 0) dX12_tellTune_23 rfl rfl ?_
  refine v_iconst (v := 0) dX12_tellTune_24 (by decide) ?_
  refine v_iconst (v := 4) dX12_tellTune_25 (by decide) ?_
  obtain ⟨q2, q2_e, hF⟩ := Option.bind_eq_some_iff.mp hF
  refine c_X12_281 rfl sh_226 (by exact ltG hG (by decide)) (Nat.le_of_ble_eq_true rfl) dX12_tellTune_26 (s_X12_bounded _ q2_e hG) (fun r1 h1 hq => ?_)
  obtain ⟨rfl, hq, hG⟩ := hq
  replace hq := hq.symm
  subst hq
  show V _ _ _ _ (_ :: _) _ _
  obtain ⟨k4, hF⟩ := ck_some hF
  refine v_iastore sh_238 (by exact ltG hG (by decide)) (ixO k4) dX12_tellTune_29 ?_
  refine v_aload_n (i := 0) dX12_tellTune_30 rfl rfl ?_
  refine g_X12_55 (q := 239) rfl sh_226 (by exact ltG hG (by decide)) (by exact rG hG r0_226_26) dX12_tellTune_31 ?_
  refine v_iload_n (i := 1) dX12_tellTune_34 rfl rfl ?_
  refine v_aload_n (i := 0) dX12_tellTune_35 rfl rfl ?_
  refine v_iconst (v := 0) dX12_tellTune_36 (by decide) ?_
  refine v_iconst (v := 4) dX12_tellTune_37 (by decide) ?_
  obtain ⟨q5, q5_e, hF⟩ := Option.bind_eq_some_iff.mp hF
  refine c_X12_281 rfl sh_226 (by exact ltG hG (by decide)) (Nat.le_of_ble_eq_true rfl) dX12_tellTune_38 (s_X12_bounded _ q5_e hG) (fun r1 h1 hq => ?_)
  obtain ⟨rfl, hq, hG⟩ := hq
  replace hq := hq.symm
  subst hq
  show V _ _ _ _ (_ :: _) _ _
  obtain ⟨k7, hF⟩ := ck_some hF
  refine v_iastore sh_239 (by exact ltG hG (by decide)) (ixO k7) dX12_tellTune_41 ?_
  refine v_aload_n (i := 0) dX12_tellTune_42 rfl rfl ?_
  refine g_X12_58 (q := 240) rfl sh_226 (by exact ltG hG (by decide)) (by exact rG hG r0_226_27) dX12_tellTune_43 ?_
  refine v_iload_n (i := 1) dX12_tellTune_46 rfl rfl ?_
  refine v_aload_n (i := 0) dX12_tellTune_47 rfl rfl ?_
  refine v_iconst (v := 2) dX12_tellTune_48 (by decide) ?_
  refine v_bipush (v := 6) dX12_tellTune_49 (by decide) ?_
  obtain ⟨q8, q8_e, hF⟩ := Option.bind_eq_some_iff.mp hF
  refine c_X12_281 rfl sh_226 (by exact ltG hG (by decide)) (Nat.le_of_ble_eq_true rfl) dX12_tellTune_51 (s_X12_bounded _ q8_e hG) (fun r1 h1 hq => ?_)
  obtain ⟨rfl, hq, hG⟩ := hq
  replace hq := hq.symm
  subst hq
  show V _ _ _ _ (_ :: _) _ _
  obtain ⟨k10, hF⟩ := ck_some hF
  refine v_iastore sh_240 (by exact ltG hG (by decide)) (ixO k10) dX12_tellTune_54 ?_
  refine v_aload_n (i := 0) dX12_tellTune_55 rfl rfl ?_
  refine g_X12_61 (q := 241) rfl sh_226 (by exact ltG hG (by decide)) (by exact rG hG r0_226_28) dX12_tellTune_56 ?_
  refine v_iload_n (i := 1) dX12_tellTune_59 rfl rfl ?_
  refine v_aload_n (i := 0) dX12_tellTune_60 rfl rfl ?_
  refine v_iconst (v := 0) dX12_tellTune_61 (by decide) ?_
  refine v_aload_n (i := 0) dX12_tellTune_62 rfl rfl ?_
  refine g_X12_58 (q := 240) rfl sh_226 (by exact ltG hG (by decide)) (by exact rG hG r0_226_27) dX12_tellTune_63 ?_
  refine v_iload_n (i := 1) dX12_tellTune_66 rfl rfl ?_
  obtain ⟨k11, hF⟩ := ck_some hF
  refine v_iaload sh_240 (by exact ltG hG (by decide)) (ixO k11) dX12_tellTune_67 ?_
  refine v_iconst (v := 1) dX12_tellTune_68 (by decide) ?_
  refine v_isub dX12_tellTune_69 ?_
  refine v_iconst (v := 5) dX12_tellTune_70 (by decide) ?_
  refine v_icmp_ge 85 dX12_tellTune_71 (by decide) (fun c12 => ?_) (fun c12 => ?_)
  · rw [if_pos c12] at hF
    refine v_iconst (v := 5) dX12_tellTune_85 (by decide) ?_
    obtain ⟨q13, q13_e, hF⟩ := Option.bind_eq_some_iff.mp hF
    refine c_X12_281 rfl sh_226 (by exact ltG hG (by decide)) (Nat.le_of_ble_eq_true rfl) dX12_tellTune_86 (s_X12_bounded _ q13_e hG) (fun r1 h1 hq => ?_)
    obtain ⟨rfl, hq, hG⟩ := hq
    replace hq := hq.symm
    subst hq
    show V _ _ _ _ (_ :: _) _ _
    obtain ⟨k15, hF⟩ := ck_some hF
    refine v_iastore sh_241 (by exact ltG hG (by decide)) (ixO k15) dX12_tellTune_89 ?_
    refine v_aload_n (i := 0) dX12_tellTune_90 rfl rfl ?_
    refine v_iconst (v := 4) dX12_tellTune_91 (by decide) ?_
    obtain ⟨q16, q16_e, hF⟩ := Option.bind_eq_some_iff.mp hF
    refine c_X12_285 rfl sh_226 (by exact ltG hG (by decide)) (Nat.le_of_ble_eq_true rfl) dX12_tellTune_92 (s_X12_must _ q16_e hG) (fun r1 h1 hq => ?_)
    obtain ⟨rfl, hq, hG⟩ := hq
    replace hq := hq.symm
    subst hq
    simp only [Option.toList, List.nil_append]
    refine v_aload_n (i := 0) dX12_tellTune_95 rfl rfl ?_
    refine g_X12_215 rfl sh_226 (by exact ltG hG (by decide)) dX12_tellTune_96 ?_
    refine v_if_ne 115 dX12_tellTune_99 (by decide) (fun c18 => ?_) (fun c18 => ?_)
    · rw [if_neg c18] at hF
      refine v_return rfl dX12_tellTune_115 ?_
      obtain rfl := Option.some.inj hF
      exact ⟨rfl, rfl, hG⟩
    · rw [if_pos c18] at hF
      refine v_aload_n (i := 0) dX12_tellTune_102 rfl rfl ?_
      refine g_X12_49 (q := 237) rfl sh_226 (by exact ltG hG (by decide)) (by exact rG hG r0_226_24) dX12_tellTune_103 ?_
      refine v_aload_n (i := 0) dX12_tellTune_106 rfl rfl ?_
      refine g_X12_248 rfl sh_226 (by exact ltG hG (by decide)) dX12_tellTune_107 ?_
      refine v_dup2 dX12_tellTune_110 rfl rfl ?_
      obtain ⟨k19, hF⟩ := ck_some hF
      refine v_iaload sh_237 (by exact ltG hG (by decide)) (ixO k19) dX12_tellTune_111 ?_
      refine v_iconst (v := 1) dX12_tellTune_112 (by decide) ?_
      refine v_iadd dX12_tellTune_113 ?_
      obtain ⟨k20, hF⟩ := ck_some hF
      refine v_iastore sh_237 (by exact ltG hG (by decide)) (ixO k20) dX12_tellTune_114 ?_
      refine v_return rfl dX12_tellTune_115 ?_
      obtain rfl := Option.some.inj hF
      exact ⟨rfl, rfl, hG⟩
  · rw [if_neg c12] at hF
    refine v_aload_n (i := 0) dX12_tellTune_74 rfl rfl ?_
    refine g_X12_58 (q := 240) rfl sh_226 (by exact ltG hG (by decide)) (by exact rG hG r0_226_27) dX12_tellTune_75 ?_
    refine v_iload_n (i := 1) dX12_tellTune_78 rfl rfl ?_
    obtain ⟨k21, hF⟩ := ck_some hF
    refine v_iaload sh_240 (by exact ltG hG (by decide)) (ixO k21) dX12_tellTune_79 ?_
    refine v_iconst (v := 1) dX12_tellTune_80 (by decide) ?_
    refine v_isub dX12_tellTune_81 ?_
    refine v_goto 86 dX12_tellTune_82 (by decide) ?_
    obtain ⟨q22, q22_e, hF⟩ := Option.bind_eq_some_iff.mp hF
    refine c_X12_281 rfl sh_226 (by exact ltG hG (by decide)) (Nat.le_of_ble_eq_true rfl) dX12_tellTune_86 (s_X12_bounded _ q22_e hG) (fun r1 h1 hq => ?_)
    obtain ⟨rfl, hq, hG⟩ := hq
    replace hq := hq.symm
    subst hq
    show V _ _ _ _ (_ :: _) _ _
    obtain ⟨k24, hF⟩ := ck_some hF
    refine v_iastore sh_241 (by exact ltG hG (by decide)) (ixO k24) dX12_tellTune_89 ?_
    refine v_aload_n (i := 0) dX12_tellTune_90 rfl rfl ?_
    refine v_iconst (v := 4) dX12_tellTune_91 (by decide) ?_
    obtain ⟨q25, q25_e, hF⟩ := Option.bind_eq_some_iff.mp hF
    refine c_X12_285 rfl sh_226 (by exact ltG hG (by decide)) (Nat.le_of_ble_eq_true rfl) dX12_tellTune_92 (s_X12_must _ q25_e hG) (fun r1 h1 hq => ?_)
    obtain ⟨rfl, hq, hG⟩ := hq
    replace hq := hq.symm
    subst hq
    simp only [Option.toList, List.nil_append]
    refine v_aload_n (i := 0) dX12_tellTune_95 rfl rfl ?_
    refine g_X12_215 rfl sh_226 (by exact ltG hG (by decide)) dX12_tellTune_96 ?_
    refine v_if_ne 115 dX12_tellTune_99 (by decide) (fun c27 => ?_) (fun c27 => ?_)
    · rw [if_neg c27] at hF
      refine v_return rfl dX12_tellTune_115 ?_
      obtain rfl := Option.some.inj hF
      exact ⟨rfl, rfl, hG⟩
    · rw [if_pos c27] at hF
      refine v_aload_n (i := 0) dX12_tellTune_102 rfl rfl ?_
      refine g_X12_49 (q := 237) rfl sh_226 (by exact ltG hG (by decide)) (by exact rG hG r0_226_24) dX12_tellTune_103 ?_
      refine v_aload_n (i := 0) dX12_tellTune_106 rfl rfl ?_
      refine g_X12_248 rfl sh_226 (by exact ltG hG (by decide)) dX12_tellTune_107 ?_
      refine v_dup2 dX12_tellTune_110 rfl rfl ?_
      obtain ⟨k28, hF⟩ := ck_some hF
      refine v_iaload sh_237 (by exact ltG hG (by decide)) (ixO k28) dX12_tellTune_111 ?_
      refine v_iconst (v := 1) dX12_tellTune_112 (by decide) ?_
      refine v_iadd dX12_tellTune_113 ?_
      obtain ⟨k29, hF⟩ := ck_some hF
      refine v_iastore sh_237 (by exact ltG hG (by decide)) (ixO k29) dX12_tellTune_114 ?_
      refine v_return rfl dX12_tellTune_115 ?_
      obtain rfl := Option.some.inj hF
      exact ⟨rfl, rfl, hG⟩
def F_X12_term (n : Nat) (h : Hp) : Option Hp := (if ixOK (hi h 226 39) 260 = true then (if ((hi (wrI h 255 (Int32.toNatClampNeg (hi h 226 39)) (hi h 226 45)) 226 13) : Int32) = 0 then ((F_X12_expression n (wrI h 255 (Int32.toNatClampNeg (hi h 226 39)) (hi h 226 45))).bind (fun q4 => (if ixOK (hi q4 226 39) 260 = true then some (wrI (wrI q4 256 (Int32.toNatClampNeg (hi q4 226 39)) (hi q4 226 45)) 226 39 ((hi (wrI q4 256 (Int32.toNatClampNeg (hi q4 226 39)) (hi q4 226 45)) 226 39) + 1)) else none))) else (if ixOK (hi (wrI h 255 (Int32.toNatClampNeg (hi h 226 39)) (hi h 226 45)) 226 39) 260 = true then some (wrI (wrI (wrI h 255 (Int32.toNatClampNeg (hi h 226 39)) (hi h 226 45)) 256 (Int32.toNatClampNeg (hi (wrI h 255 (Int32.toNatClampNeg (hi h 226 39)) (hi h 226 45)) 226 39)) (hi (wrI h 255 (Int32.toNatClampNeg (hi h 226 39)) (hi h 226 45)) 226 45)) 226 39 ((hi (wrI (wrI h 255 (Int32.toNatClampNeg (hi h 226 39)) (hi h 226 45)) 256 (Int32.toNatClampNeg (hi (wrI h 255 (Int32.toNatClampNeg (hi h 226 39)) (hi h 226 45)) 226 39)) (hi (wrI h 255 (Int32.toNatClampNeg (hi h 226 39)) (hi h 226 45)) 226 45)) 226 39) + 1)) else none)) else none)
set_option maxRecDepth 100000 in
set_option maxHeartbeats 4000000 in
theorem s_X12_term (d : Nat) {n : Nat} {h : Hp}  {q0 : Hp} (hF : F_X12_term n h  = some q0) (hG : G h)  : Kc mX12_term (d + 4) [.ref 226] h (fun r1 h1 => r1 = none ∧ h1 = q0 ∧ G q0) := by
  obtain ⟨h', rfl⟩ : ∃ z, z = q0 := ⟨_, rfl⟩
  unfold F_X12_term at hF
  refine Kc.of [some (.ref 226)] ok_X12_term rfl (Nat.le_of_ble_eq_true rfl) ?_
  refine v_aload_n (i := 0) dX12_term_0 rfl rfl ?_
  refine g_X12_104 (q := 255) rfl sh_226 (by exact ltG hG (by decide)) (by exact rG hG r0_226_43) dX12_term_1 ?_
  refine v_aload_n (i := 0) dX12_term_4 rfl rfl ?_
  refine g_X12_254 rfl sh_226 (by exact ltG hG (by decide)) dX12_term_5 ?_
  refine v_aload_n (i := 0) dX12_term_8 rfl rfl ?_
  refine g_X12_257 rfl sh_226 (by exact ltG hG (by decide)) dX12_term_9 ?_
  obtain ⟨k1, hF⟩ := ck_some hF
  refine v_iastore sh_255 (by exact ltG hG (by decide)) (ixO k1) dX12_term_12 ?_
  refine v_aload_n (i := 0) dX12_term_13 rfl rfl ?_
  refine g_X12_215 rfl sh_226 (by exact ltG hG (by decide)) dX12_term_14 ?_
  refine v_if_ne 24 dX12_term_17 (by decide) (fun c2 => ?_) (fun c2 => ?_)
  · rw [if_neg c2] at hF
    refine v_aload_n (i := 0) dX12_term_24 rfl rfl ?_
    refine g_X12_107 (q := 256) rfl sh_226 (by exact ltG hG (by decide)) (by exact rG hG r0_226_44) dX12_term_25 ?_
    refine v_aload_n (i := 0) dX12_term_28 rfl rfl ?_
    refine g_X12_254 rfl sh_226 (by exact ltG hG (by decide)) dX12_term_29 ?_
    refine v_aload_n (i := 0) dX12_term_32 rfl rfl ?_
    refine g_X12_257 rfl sh_226 (by exact ltG hG (by decide)) dX12_term_33 ?_
    obtain ⟨k3, hF⟩ := ck_some hF
    refine v_iastore sh_256 (by exact ltG hG (by decide)) (ixO k3) dX12_term_36 ?_
    refine v_aload_n (i := 0) dX12_term_37 rfl rfl ?_
    refine v_dup dX12_term_38 rfl ?_
    refine g_X12_254 rfl sh_226 (by exact ltG hG (by decide)) dX12_term_39 ?_
    refine v_iconst (v := 1) dX12_term_42 (by decide) ?_
    refine v_iadd dX12_term_43 ?_
    refine p_X12_254 rfl sh_226 (by exact ltG hG (by decide)) dX12_term_44 ?_
    refine v_return rfl dX12_term_47 ?_
    obtain rfl := Option.some.inj hF
    exact ⟨rfl, rfl, hG⟩
  · rw [if_pos c2] at hF
    refine v_aload_n (i := 0) dX12_term_20 rfl rfl ?_
    obtain ⟨q4, q4_e, hF⟩ := Option.bind_eq_some_iff.mp hF
    refine c_X12_303 rfl sh_226 (by exact ltG hG (by decide)) (Nat.le_of_ble_eq_true rfl) dX12_term_21 (s_X12_expression _ q4_e hG) (fun r1 h1 hq => ?_)
    obtain ⟨rfl, hq, hG⟩ := hq
    replace hq := hq.symm
    subst hq
    simp only [Option.toList, List.nil_append]
    refine v_aload_n (i := 0) dX12_term_24 rfl rfl ?_
    refine g_X12_107 (q := 256) rfl sh_226 (by exact ltG hG (by decide)) (by exact rG hG r0_226_44) dX12_term_25 ?_
    refine v_aload_n (i := 0) dX12_term_28 rfl rfl ?_
    refine g_X12_254 rfl sh_226 (by exact ltG hG (by decide)) dX12_term_29 ?_
    refine v_aload_n (i := 0) dX12_term_32 rfl rfl ?_
    refine g_X12_257 rfl sh_226 (by exact ltG hG (by decide)) dX12_term_33 ?_
    obtain ⟨k6, hF⟩ := ck_some hF
    refine v_iastore sh_256 (by exact ltG hG (by decide)) (ixO k6) dX12_term_36 ?_
    refine v_aload_n (i := 0) dX12_term_37 rfl rfl ?_
    refine v_dup dX12_term_38 rfl ?_
    refine g_X12_254 rfl sh_226 (by exact ltG hG (by decide)) dX12_term_39 ?_
    refine v_iconst (v := 1) dX12_term_42 (by decide) ?_
    refine v_iadd dX12_term_43 ?_
    refine p_X12_254 rfl sh_226 (by exact ltG hG (by decide)) dX12_term_44 ?_
    refine v_return rfl dX12_term_47 ?_
    obtain rfl := Option.some.inj hF
    exact ⟨rfl, rfl, hG⟩
def F_X12_toldOf (n : Nat) (h : Hp) (x1 : Int32) (x2 : Int32) (x3 : Int32) (x4 : Int32) (x5 : Int32) : Option (Int32 × Hp) := (if ixOK (hi h 226 18) 2 = true then (if (hi h 235 (Int32.toNatClampNeg (hi h 226 18))) = 0 then none else (if ixOK (hi (wrI h 260 0 (x1 - x1 / (hi h 235 (Int32.toNatClampNeg (hi h 226 18))) * (hi h 235 (Int32.toNatClampNeg (hi h 226 18))))) 226 18) 2 = true then (if (hi (wrI h 260 0 (x1 - x1 / (hi h 235 (Int32.toNatClampNeg (hi h 226 18))) * (hi h 235 (Int32.toNatClampNeg (hi h 226 18))))) 235 (Int32.toNatClampNeg (hi (wrI h 260 0 (x1 - x1 / (hi h 235 (Int32.toNatClampNeg (hi h 226 18))) * (hi h 235 (Int32.toNatClampNeg (hi h 226 18))))) 226 18))) = 0 then none else (if ixOK x1 63 = true then (if ixOK (hi (wrI (wrI (wrI (wrI (wrI (wrI h 260 0 (x1 - x1 / (hi h 235 (Int32.toNatClampNeg (hi h 226 18))) * (hi h 235 (Int32.toNatClampNeg (hi h 226 18))))) 260 1 (x1 / (hi (wrI h 260 0 (x1 - x1 / (hi h 235 (Int32.toNatClampNeg (hi h 226 18))) * (hi h 235 (Int32.toNatClampNeg (hi h 226 18))))) 235 (Int32.toNatClampNeg (hi (wrI h 260 0 (x1 - x1 / (hi h 235 (Int32.toNatClampNeg (hi h 226 18))) * (hi h 235 (Int32.toNatClampNeg (hi h 226 18))))) 226 18))))) 260 2 (hi (wrI (wrI h 260 0 (x1 - x1 / (hi h 235 (Int32.toNatClampNeg (hi h 226 18))) * (hi h 235 (Int32.toNatClampNeg (hi h 226 18))))) 260 1 (x1 / (hi (wrI h 260 0 (x1 - x1 / (hi h 235 (Int32.toNatClampNeg (hi h 226 18))) * (hi h 235 (Int32.toNatClampNeg (hi h 226 18))))) 235 (Int32.toNatClampNeg (hi (wrI h 260 0 (x1 - x1 / (hi h 235 (Int32.toNatClampNeg (hi h 226 18))) * (hi h 235 (Int32.toNatClampNeg (hi h 226 18))))) 226 18))))) 263 61)) 260 3 (hi (wrI (wrI (wrI h 260 0 (x1 - x1 / (hi h 235 (Int32.toNatClampNeg (hi h 226 18))) * (hi h 235 (Int32.toNatClampNeg (hi h 226 18))))) 260 1 (x1 / (hi (wrI h 260 0 (x1 - x1 / (hi h 235 (Int32.toNatClampNeg (hi h 226 18))) * (hi h 235 (Int32.toNatClampNeg (hi h 226 18))))) 235 (Int32.toNatClampNeg (hi (wrI h 260 0 (x1 - x1 / (hi h 235 (Int32.toNatClampNeg (hi h 226 18))) * (hi h 235 (Int32.toNatClampNeg (hi h 226 18))))) 226 18))))) 260 2 (hi (wrI (wrI h 260 0 (x1 - x1 / (hi h 235 (Int32.toNatClampNeg (hi h 226 18))) * (hi h 235 (Int32.toNatClampNeg (hi h 226 18))))) 260 1 (x1 / (hi (wrI h 260 0 (x1 - x1 / (hi h 235 (Int32.toNatClampNeg (hi h 226 18))) * (hi h 235 (Int32.toNatClampNeg (hi h 226 18))))) 235 (Int32.toNatClampNeg (hi (wrI h 260 0 (x1 - x1 / (hi h 235 (Int32.toNatClampNeg (hi h 226 18))) * (hi h 235 (Int32.toNatClampNeg (hi h 226 18))))) 226 18))))) 263 61)) 263 (Int32.toNatClampNeg x1))) 260 4 x2) 260 5 x3) 226 18) 2 = true then (if ixOK (hi (wrI (wrI (wrI (wrI (wrI (wrI (wrI h 260 0 (x1 - x1 / (hi h 235 (Int32.toNatClampNeg (hi h 226 18))) * (hi h 235 (Int32.toNatClampNeg (hi h 226 18))))) 260 1 (x1 / (hi (wrI h 260 0 (x1 - x1 / (hi h 235 (Int32.toNatClampNeg (hi h 226 18))) * (hi h 235 (Int32.toNatClampNeg (hi h 226 18))))) 235 (Int32.toNatClampNeg (hi (wrI h 260 0 (x1 - x1 / (hi h 235 (Int32.toNatClampNeg (hi h 226 18))) * (hi h 235 (Int32.toNatClampNeg (hi h 226 18))))) 226 18))))) 260 2 (hi (wrI (wrI h 260 0 (x1 - x1 / (hi h 235 (Int32.toNatClampNeg (hi h 226 18))) * (hi h 235 (Int32.toNatClampNeg (hi h 226 18))))) 260 1 (x1 / (hi (wrI h 260 0 (x1 - x1 / (hi h 235 (Int32.toNatClampNeg (hi h 226 18))) * (hi h 235 (Int32.toNatClampNeg (hi h 226 18))))) 235 (Int32.toNatClampNeg (hi (wrI h 260 0 (x1 - x1 / (hi h 235 (Int32.toNatClampNeg (hi h 226 18))) * (hi h 235 (Int32.toNatClampNeg (hi h 226 18))))) 226 18))))) 263 61)) 260 3 (hi (wrI (wrI (wrI h 260 0 (x1 - x1 / (hi h 235 (Int32.toNatClampNeg (hi h 226 18))) * (hi h 235 (Int32.toNatClampNeg (hi h 226 18))))) 260 1 (x1 / (hi (wrI h 260 0 (x1 - x1 / (hi h 235 (Int32.toNatClampNeg (hi h 226 18))) * (hi h 235 (Int32.toNatClampNeg (hi h 226 18))))) 235 (Int32.toNatClampNeg (hi (wrI h 260 0 (x1 - x1 / (hi h 235 (Int32.toNatClampNeg (hi h 226 18))) * (hi h 235 (Int32.toNatClampNeg (hi h 226 18))))) 226 18))))) 260 2 (hi (wrI (wrI h 260 0 (x1 - x1 / (hi h 235 (Int32.toNatClampNeg (hi h 226 18))) * (hi h 235 (Int32.toNatClampNeg (hi h 226 18))))) 260 1 (x1 / (hi (wrI h 260 0 (x1 - x1 / (hi h 235 (Int32.toNatClampNeg (hi h 226 18))) * (hi h 235 (Int32.toNatClampNeg (hi h 226 18))))) 235 (Int32.toNatClampNeg (hi (wrI h 260 0 (x1 - x1 / (hi h 235 (Int32.toNatClampNeg (hi h 226 18))) * (hi h 235 (Int32.toNatClampNeg (hi h 226 18))))) 226 18))))) 263 61)) 263 (Int32.toNatClampNeg x1))) 260 4 x2) 260 5 x3) 260 6 (hi (wrI (wrI (wrI (wrI (wrI (wrI h 260 0 (x1 - x1 / (hi h 235 (Int32.toNatClampNeg (hi h 226 18))) * (hi h 235 (Int32.toNatClampNeg (hi h 226 18))))) 260 1 (x1 / (hi (wrI h 260 0 (x1 - x1 / (hi h 235 (Int32.toNatClampNeg (hi h 226 18))) * (hi h 235 (Int32.toNatClampNeg (hi h 226 18))))) 235 (Int32.toNatClampNeg (hi (wrI h 260 0 (x1 - x1 / (hi h 235 (Int32.toNatClampNeg (hi h 226 18))) * (hi h 235 (Int32.toNatClampNeg (hi h 226 18))))) 226 18))))) 260 2 (hi (wrI (wrI h 260 0 (x1 - x1 / (hi h 235 (Int32.toNatClampNeg (hi h 226 18))) * (hi h 235 (Int32.toNatClampNeg (hi h 226 18))))) 260 1 (x1 / (hi (wrI h 260 0 (x1 - x1 / (hi h 235 (Int32.toNatClampNeg (hi h 226 18))) * (hi h 235 (Int32.toNatClampNeg (hi h 226 18))))) 235 (Int32.toNatClampNeg (hi (wrI h 260 0 (x1 - x1 / (hi h 235 (Int32.toNatClampNeg (hi h 226 18))) * (hi h 235 (Int32.toNatClampNeg (hi h 226 18))))) 226 18))))) 263 61)) 260 3 (hi (wrI (wrI (wrI h 260 0 (x1 - x1 / (hi h 235 (Int32.toNatClampNeg (hi h 226 18))) * (hi h 235 (Int32.toNatClampNeg (hi h 226 18))))) 260 1 (x1 / (hi (wrI h 260 0 (x1 - x1 / (hi h 235 (Int32.toNatClampNeg (hi h 226 18))) * (hi h 235 (Int32.toNatClampNeg (hi h 226 18))))) 235 (Int32.toNatClampNeg (hi (wrI h 260 0 (x1 - x1 / (hi h 235 (Int32.toNatClampNeg (hi h 226 18))) * (hi h 235 (Int32.toNatClampNeg (hi h 226 18))))) 226 18))))) 260 2 (hi (wrI (wrI h 260 0 (x1 - x1 / (hi h 235 (Int32.toNatClampNeg (hi h 226 18))) * (hi h 235 (Int32.toNatClampNeg (hi h 226 18))))) 260 1 (x1 / (hi (wrI h 260 0 (x1 - x1 / (hi h 235 (Int32.toNatClampNeg (hi h 226 18))) * (hi h 235 (Int32.toNatClampNeg (hi h 226 18))))) 235 (Int32.toNatClampNeg (hi (wrI h 260 0 (x1 - x1 / (hi h 235 (Int32.toNatClampNeg (hi h 226 18))) * (hi h 235 (Int32.toNatClampNeg (hi h 226 18))))) 226 18))))) 263 61)) 263 (Int32.toNatClampNeg x1))) 260 4 x2) 260 5 x3) 235 (Int32.toNatClampNeg (hi (wrI (wrI (wrI (wrI (wrI (wrI h 260 0 (x1 - x1 / (hi h 235 (Int32.toNatClampNeg (hi h 226 18))) * (hi h 235 (Int32.toNatClampNeg (hi h 226 18))))) 260 1 (x1 / (hi (wrI h 260 0 (x1 - x1 / (hi h 235 (Int32.toNatClampNeg (hi h 226 18))) * (hi h 235 (Int32.toNatClampNeg (hi h 226 18))))) 235 (Int32.toNatClampNeg (hi (wrI h 260 0 (x1 - x1 / (hi h 235 (Int32.toNatClampNeg (hi h 226 18))) * (hi h 235 (Int32.toNatClampNeg (hi h 226 18))))) 226 18))))) 260 2 (hi (wrI (wrI h 260 0 (x1 - x1 / (hi h 235 (Int32.toNatClampNeg (hi h 226 18))) * (hi h 235 (Int32.toNatClampNeg (hi h 226 18))))) 260 1 (x1 / (hi (wrI h 260 0 (x1 - x1 / (hi h 235 (Int32.toNatClampNeg (hi h 226 18))) * (hi h 235 (Int32.toNatClampNeg (hi h 226 18))))) 235 (Int32.toNatClampNeg (hi (wrI h 260 0 (x1 - x1 / (hi h 235 (Int32.toNatClampNeg (hi h 226 18))) * (hi h 235 (Int32.toNatClampNeg (hi h 226 18))))) 226 18))))) 263 61)) 260 3 (hi (wrI (wrI (wrI h 260 0 (x1 - x1 / (hi h 235 (Int32.toNatClampNeg (hi h 226 18))) * (hi h 235 (Int32.toNatClampNeg (hi h 226 18))))) 260 1 (x1 / (hi (wrI h 260 0 (x1 - x1 / (hi h 235 (Int32.toNatClampNeg (hi h 226 18))) * (hi h 235 (Int32.toNatClampNeg (hi h 226 18))))) 235 (Int32.toNatClampNeg (hi (wrI h 260 0 (x1 - x1 / (hi h 235 (Int32.toNatClampNeg (hi h 226 18))) * (hi h 235 (Int32.toNatClampNeg (hi h 226 18))))) 226 18))))) 260 2 (hi (wrI (wrI h 260 0 (x1 - x1 / (hi h 235 (Int32.toNatClampNeg (hi h 226 18))) * (hi h 235 (Int32.toNatClampNeg (hi h 226 18))))) 260 1 (x1 / (hi (wrI h 260 0 (x1 - x1 / (hi h 235 (Int32.toNatClampNeg (hi h 226 18))) * (hi h 235 (Int32.toNatClampNeg (hi h 226 18))))) 235 (Int32.toNatClampNeg (hi (wrI h 260 0 (x1 - x1 / (hi h 235 (Int32.toNatClampNeg (hi h 226 18))) * (hi h 235 (Int32.toNatClampNeg (hi h 226 18))))) 226 18))))) 263 61)) 263 (Int32.toNatClampNeg x1))) 260 4 x2) 260 5 x3) 226 18)))) 226 18) 2 = true then ((F_X12_tuneBits n (wrI (wrI (wrI (wrI (wrI (wrI (wrI (wrI h 260 0 (x1 - x1 / (hi h 235 (Int32.toNatClampNeg (hi h 226 18))) * (hi h 235 (Int32.toNatClampNeg (hi h 226 18))))) 260 1 (x1 / (hi (wrI h 260 0 (x1 - x1 / (hi h 235 (Int32.toNatClampNeg (hi h 226 18))) * (hi h 235 (Int32.toNatClampNeg (hi h 226 18))))) 235 (Int32.toNatClampNeg (hi (wrI h 260 0 (x1 - x1 / (hi h 235 (Int32.toNatClampNeg (hi h 226 18))) * (hi h 235 (Int32.toNatClampNeg (hi h 226 18))))) 226 18))))) 260 2 (hi (wrI (wrI h 260 0 (x1 - x1 / (hi h 235 (Int32.toNatClampNeg (hi h 226 18))) * (hi h 235 (Int32.toNatClampNeg (hi h 226 18))))) 260 1 (x1 / (hi (wrI h 260 0 (x1 - x1 / (hi h 235 (Int32.toNatClampNeg (hi h 226 18))) * (hi h 235 (Int32.toNatClampNeg (hi h 226 18))))) 235 (Int32.toNatClampNeg (hi (wrI h 260 0 (x1 - x1 / (hi h 235 (Int32.toNatClampNeg (hi h 226 18))) * (hi h 235 (Int32.toNatClampNeg (hi h 226 18))))) 226 18))))) 263 61)) 260 3 (hi (wrI (wrI (wrI h 260 0 (x1 - x1 / (hi h 235 (Int32.toNatClampNeg (hi h 226 18))) * (hi h 235 (Int32.toNatClampNeg (hi h 226 18))))) 260 1 (x1 / (hi (wrI h 260 0 (x1 - x1 / (hi h 235 (Int32.toNatClampNeg (hi h 226 18))) * (hi h 235 (Int32.toNatClampNeg (hi h 226 18))))) 235 (Int32.toNatClampNeg (hi (wrI h 260 0 (x1 - x1 / (hi h 235 (Int32.toNatClampNeg (hi h 226 18))) * (hi h 235 (Int32.toNatClampNeg (hi h 226 18))))) 226 18))))) 260 2 (hi (wrI (wrI h 260 0 (x1 - x1 / (hi h 235 (Int32.toNatClampNeg (hi h 226 18))) * (hi h 235 (Int32.toNatClampNeg (hi h 226 18))))) 260 1 (x1 / (hi (wrI h 260 0 (x1 - x1 / (hi h 235 (Int32.toNatClampNeg (hi h 226 18))) * (hi h 235 (Int32.toNatClampNeg (hi h 226 18))))) 235 (Int32.toNatClampNeg (hi (wrI h 260 0 (x1 - x1 / (hi h 235 (Int32.toNatClampNeg (hi h 226 18))) * (hi h 235 (Int32.toNatClampNeg (hi h 226 18))))) 226 18))))) 263 61)) 263 (Int32.toNatClampNeg x1))) 260 4 x2) 260 5 x3) 260 6 (hi (wrI (wrI (wrI (wrI (wrI (wrI h 260 0 (x1 - x1 / (hi h 235 (Int32.toNatClampNeg (hi h 226 18))) * (hi h 235 (Int32.toNatClampNeg (hi h 226 18))))) 260 1 (x1 / (hi (wrI h 260 0 (x1 - x1 / (hi h 235 (Int32.toNatClampNeg (hi h 226 18))) * (hi h 235 (Int32.toNatClampNeg (hi h 226 18))))) 235 (Int32.toNatClampNeg (hi (wrI h 260 0 (x1 - x1 / (hi h 235 (Int32.toNatClampNeg (hi h 226 18))) * (hi h 235 (Int32.toNatClampNeg (hi h 226 18))))) 226 18))))) 260 2 (hi (wrI (wrI h 260 0 (x1 - x1 / (hi h 235 (Int32.toNatClampNeg (hi h 226 18))) * (hi h 235 (Int32.toNatClampNeg (hi h 226 18))))) 260 1 (x1 / (hi (wrI h 260 0 (x1 - x1 / (hi h 235 (Int32.toNatClampNeg (hi h 226 18))) * (hi h 235 (Int32.toNatClampNeg (hi h 226 18))))) 235 (Int32.toNatClampNeg (hi (wrI h 260 0 (x1 - x1 / (hi h 235 (Int32.toNatClampNeg (hi h 226 18))) * (hi h 235 (Int32.toNatClampNeg (hi h 226 18))))) 226 18))))) 263 61)) 260 3 (hi (wrI (wrI (wrI h 260 0 (x1 - x1 / (hi h 235 (Int32.toNatClampNeg (hi h 226 18))) * (hi h 235 (Int32.toNatClampNeg (hi h 226 18))))) 260 1 (x1 / (hi (wrI h 260 0 (x1 - x1 / (hi h 235 (Int32.toNatClampNeg (hi h 226 18))) * (hi h 235 (Int32.toNatClampNeg (hi h 226 18))))) 235 (Int32.toNatClampNeg (hi (wrI h 260 0 (x1 - x1 / (hi h 235 (Int32.toNatClampNeg (hi h 226 18))) * (hi h 235 (Int32.toNatClampNeg (hi h 226 18))))) 226 18))))) 260 2 (hi (wrI (wrI h 260 0 (x1 - x1 / (hi h 235 (Int32.toNatClampNeg (hi h 226 18))) * (hi h 235 (Int32.toNatClampNeg (hi h 226 18))))) 260 1 (x1 / (hi (wrI h 260 0 (x1 - x1 / (hi h 235 (Int32.toNatClampNeg (hi h 226 18))) * (hi h 235 (Int32.toNatClampNeg (hi h 226 18))))) 235 (Int32.toNatClampNeg (hi (wrI h 260 0 (x1 - x1 / (hi h 235 (Int32.toNatClampNeg (hi h 226 18))) * (hi h 235 (Int32.toNatClampNeg (hi h 226 18))))) 226 18))))) 263 61)) 263 (Int32.toNatClampNeg x1))) 260 4 x2) 260 5 x3) 235 (Int32.toNatClampNeg (hi (wrI (wrI (wrI (wrI (wrI (wrI h 260 0 (x1 - x1 / (hi h 235 (Int32.toNatClampNeg (hi h 226 18))) * (hi h 235 (Int32.toNatClampNeg (hi h 226 18))))) 260 1 (x1 / (hi (wrI h 260 0 (x1 - x1 / (hi h 235 (Int32.toNatClampNeg (hi h 226 18))) * (hi h 235 (Int32.toNatClampNeg (hi h 226 18))))) 235 (Int32.toNatClampNeg (hi (wrI h 260 0 (x1 - x1 / (hi h 235 (Int32.toNatClampNeg (hi h 226 18))) * (hi h 235 (Int32.toNatClampNeg (hi h 226 18))))) 226 18))))) 260 2 (hi (wrI (wrI h 260 0 (x1 - x1 / (hi h 235 (Int32.toNatClampNeg (hi h 226 18))) * (hi h 235 (Int32.toNatClampNeg (hi h 226 18))))) 260 1 (x1 / (hi (wrI h 260 0 (x1 - x1 / (hi h 235 (Int32.toNatClampNeg (hi h 226 18))) * (hi h 235 (Int32.toNatClampNeg (hi h 226 18))))) 235 (Int32.toNatClampNeg (hi (wrI h 260 0 (x1 - x1 / (hi h 235 (Int32.toNatClampNeg (hi h 226 18))) * (hi h 235 (Int32.toNatClampNeg (hi h 226 18))))) 226 18))))) 263 61)) 260 3 (hi (wrI (wrI (wrI h 260 0 (x1 - x1 / (hi h 235 (Int32.toNatClampNeg (hi h 226 18))) * (hi h 235 (Int32.toNatClampNeg (hi h 226 18))))) 260 1 (x1 / (hi (wrI h 260 0 (x1 - x1 / (hi h 235 (Int32.toNatClampNeg (hi h 226 18))) * (hi h 235 (Int32.toNatClampNeg (hi h 226 18))))) 235 (Int32.toNatClampNeg (hi (wrI h 260 0 (x1 - x1 / (hi h 235 (Int32.toNatClampNeg (hi h 226 18))) * (hi h 235 (Int32.toNatClampNeg (hi h 226 18))))) 226 18))))) 260 2 (hi (wrI (wrI h 260 0 (x1 - x1 / (hi h 235 (Int32.toNatClampNeg (hi h 226 18))) * (hi h 235 (Int32.toNatClampNeg (hi h 226 18))))) 260 1 (x1 / (hi (wrI h 260 0 (x1 - x1 / (hi h 235 (Int32.toNatClampNeg (hi h 226 18))) * (hi h 235 (Int32.toNatClampNeg (hi h 226 18))))) 235 (Int32.toNatClampNeg (hi (wrI h 260 0 (x1 - x1 / (hi h 235 (Int32.toNatClampNeg (hi h 226 18))) * (hi h 235 (Int32.toNatClampNeg (hi h 226 18))))) 226 18))))) 263 61)) 263 (Int32.toNatClampNeg x1))) 260 4 x2) 260 5 x3) 226 18)))) 260 7 (hi (wrI (wrI (wrI (wrI (wrI (wrI (wrI h 260 0 (x1 - x1 / (hi h 235 (Int32.toNatClampNeg (hi h 226 18))) * (hi h 235 (Int32.toNatClampNeg (hi h 226 18))))) 260 1 (x1 / (hi (wrI h 260 0 (x1 - x1 / (hi h 235 (Int32.toNatClampNeg (hi h 226 18))) * (hi h 235 (Int32.toNatClampNeg (hi h 226 18))))) 235 (Int32.toNatClampNeg (hi (wrI h 260 0 (x1 - x1 / (hi h 235 (Int32.toNatClampNeg (hi h 226 18))) * (hi h 235 (Int32.toNatClampNeg (hi h 226 18))))) 226 18))))) 260 2 (hi (wrI (wrI h 260 0 (x1 - x1 / (hi h 235 (Int32.toNatClampNeg (hi h 226 18))) * (hi h 235 (Int32.toNatClampNeg (hi h 226 18))))) 260 1 (x1 / (hi (wrI h 260 0 (x1 - x1 / (hi h 235 (Int32.toNatClampNeg (hi h 226 18))) * (hi h 235 (Int32.toNatClampNeg (hi h 226 18))))) 235 (Int32.toNatClampNeg (hi (wrI h 260 0 (x1 - x1 / (hi h 235 (Int32.toNatClampNeg (hi h 226 18))) * (hi h 235 (Int32.toNatClampNeg (hi h 226 18))))) 226 18))))) 263 61)) 260 3 (hi (wrI (wrI (wrI h 260 0 (x1 - x1 / (hi h 235 (Int32.toNatClampNeg (hi h 226 18))) * (hi h 235 (Int32.toNatClampNeg (hi h 226 18))))) 260 1 (x1 / (hi (wrI h 260 0 (x1 - x1 / (hi h 235 (Int32.toNatClampNeg (hi h 226 18))) * (hi h 235 (Int32.toNatClampNeg (hi h 226 18))))) 235 (Int32.toNatClampNeg (hi (wrI h 260 0 (x1 - x1 / (hi h 235 (Int32.toNatClampNeg (hi h 226 18))) * (hi h 235 (Int32.toNatClampNeg (hi h 226 18))))) 226 18))))) 260 2 (hi (wrI (wrI h 260 0 (x1 - x1 / (hi h 235 (Int32.toNatClampNeg (hi h 226 18))) * (hi h 235 (Int32.toNatClampNeg (hi h 226 18))))) 260 1 (x1 / (hi (wrI h 260 0 (x1 - x1 / (hi h 235 (Int32.toNatClampNeg (hi h 226 18))) * (hi h 235 (Int32.toNatClampNeg (hi h 226 18))))) 235 (Int32.toNatClampNeg (hi (wrI h 260 0 (x1 - x1 / (hi h 235 (Int32.toNatClampNeg (hi h 226 18))) * (hi h 235 (Int32.toNatClampNeg (hi h 226 18))))) 226 18))))) 263 61)) 263 (Int32.toNatClampNeg x1))) 260 4 x2) 260 5 x3) 260 6 (hi (wrI (wrI (wrI (wrI (wrI (wrI h 260 0 (x1 - x1 / (hi h 235 (Int32.toNatClampNeg (hi h 226 18))) * (hi h 235 (Int32.toNatClampNeg (hi h 226 18))))) 260 1 (x1 / (hi (wrI h 260 0 (x1 - x1 / (hi h 235 (Int32.toNatClampNeg (hi h 226 18))) * (hi h 235 (Int32.toNatClampNeg (hi h 226 18))))) 235 (Int32.toNatClampNeg (hi (wrI h 260 0 (x1 - x1 / (hi h 235 (Int32.toNatClampNeg (hi h 226 18))) * (hi h 235 (Int32.toNatClampNeg (hi h 226 18))))) 226 18))))) 260 2 (hi (wrI (wrI h 260 0 (x1 - x1 / (hi h 235 (Int32.toNatClampNeg (hi h 226 18))) * (hi h 235 (Int32.toNatClampNeg (hi h 226 18))))) 260 1 (x1 / (hi (wrI h 260 0 (x1 - x1 / (hi h 235 (Int32.toNatClampNeg (hi h 226 18))) * (hi h 235 (Int32.toNatClampNeg (hi h 226 18))))) 235 (Int32.toNatClampNeg (hi (wrI h 260 0 (x1 - x1 / (hi h 235 (Int32.toNatClampNeg (hi h 226 18))) * (hi h 235 (Int32.toNatClampNeg (hi h 226 18))))) 226 18))))) 263 61)) 260 3 (hi (wrI (wrI (wrI h 260 0 (x1 - x1 / (hi h 235 (Int32.toNatClampNeg (hi h 226 18))) * (hi h 235 (Int32.toNatClampNeg (hi h 226 18))))) 260 1 (x1 / (hi (wrI h 260 0 (x1 - x1 / (hi h 235 (Int32.toNatClampNeg (hi h 226 18))) * (hi h 235 (Int32.toNatClampNeg (hi h 226 18))))) 235 (Int32.toNatClampNeg (hi (wrI h 260 0 (x1 - x1 / (hi h 235 (Int32.toNatClampNeg (hi h 226 18))) * (hi h 235 (Int32.toNatClampNeg (hi h 226 18))))) 226 18))))) 260 2 (hi (wrI (wrI h 260 0 (x1 - x1 / (hi h 235 (Int32.toNatClampNeg (hi h 226 18))) * (hi h 235 (Int32.toNatClampNeg (hi h 226 18))))) 260 1 (x1 / (hi (wrI h 260 0 (x1 - x1 / (hi h 235 (Int32.toNatClampNeg (hi h 226 18))) * (hi h 235 (Int32.toNatClampNeg (hi h 226 18))))) 235 (Int32.toNatClampNeg (hi (wrI h 260 0 (x1 - x1 / (hi h 235 (Int32.toNatClampNeg (hi h 226 18))) * (hi h 235 (Int32.toNatClampNeg (hi h 226 18))))) 226 18))))) 263 61)) 263 (Int32.toNatClampNeg x1))) 260 4 x2) 260 5 x3) 235 (Int32.toNatClampNeg (hi (wrI (wrI (wrI (wrI (wrI (wrI h 260 0 (x1 - x1 / (hi h 235 (Int32.toNatClampNeg (hi h 226 18))) * (hi h 235 (Int32.toNatClampNeg (hi h 226 18))))) 260 1 (x1 / (hi (wrI h 260 0 (x1 - x1 / (hi h 235 (Int32.toNatClampNeg (hi h 226 18))) * (hi h 235 (Int32.toNatClampNeg (hi h 226 18))))) 235 (Int32.toNatClampNeg (hi (wrI h 260 0 (x1 - x1 / (hi h 235 (Int32.toNatClampNeg (hi h 226 18))) * (hi h 235 (Int32.toNatClampNeg (hi h 226 18))))) 226 18))))) 260 2 (hi (wrI (wrI h 260 0 (x1 - x1 / (hi h 235 (Int32.toNatClampNeg (hi h 226 18))) * (hi h 235 (Int32.toNatClampNeg (hi h 226 18))))) 260 1 (x1 / (hi (wrI h 260 0 (x1 - x1 / (hi h 235 (Int32.toNatClampNeg (hi h 226 18))) * (hi h 235 (Int32.toNatClampNeg (hi h 226 18))))) 235 (Int32.toNatClampNeg (hi (wrI h 260 0 (x1 - x1 / (hi h 235 (Int32.toNatClampNeg (hi h 226 18))) * (hi h 235 (Int32.toNatClampNeg (hi h 226 18))))) 226 18))))) 263 61)) 260 3 (hi (wrI (wrI (wrI h 260 0 (x1 - x1 / (hi h 235 (Int32.toNatClampNeg (hi h 226 18))) * (hi h 235 (Int32.toNatClampNeg (hi h 226 18))))) 260 1 (x1 / (hi (wrI h 260 0 (x1 - x1 / (hi h 235 (Int32.toNatClampNeg (hi h 226 18))) * (hi h 235 (Int32.toNatClampNeg (hi h 226 18))))) 235 (Int32.toNatClampNeg (hi (wrI h 260 0 (x1 - x1 / (hi h 235 (Int32.toNatClampNeg (hi h 226 18))) * (hi h 235 (Int32.toNatClampNeg (hi h 226 18))))) 226 18))))) 260 2 (hi (wrI (wrI h 260 0 (x1 - x1 / (hi h 235 (Int32.toNatClampNeg (hi h 226 18))) * (hi h 235 (Int32.toNatClampNeg (hi h 226 18))))) 260 1 (x1 / (hi (wrI h 260 0 (x1 - x1 / (hi h 235 (Int32.toNatClampNeg (hi h 226 18))) * (hi h 235 (Int32.toNatClampNeg (hi h 226 18))))) 235 (Int32.toNatClampNeg (hi (wrI h 260 0 (x1 - x1 / (hi h 235 (Int32.toNatClampNeg (hi h 226 18))) * (hi h 235 (Int32.toNatClampNeg (hi h 226 18))))) 226 18))))) 263 61)) 263 (Int32.toNatClampNeg x1))) 260 4 x2) 260 5 x3) 226 18)))) 236 (Int32.toNatClampNeg (hi (wrI (wrI (wrI (wrI (wrI (wrI (wrI h 260 0 (x1 - x1 / (hi h 235 (Int32.toNatClampNeg (hi h 226 18))) * (hi h 235 (Int32.toNatClampNeg (hi h 226 18))))) 260 1 (x1 / (hi (wrI h 260 0 (x1 - x1 / (hi h 235 (Int32.toNatClampNeg (hi h 226 18))) * (hi h 235 (Int32.toNatClampNeg (hi h 226 18))))) 235 (Int32.toNatClampNeg (hi (wrI h 260 0 (x1 - x1 / (hi h 235 (Int32.toNatClampNeg (hi h 226 18))) * (hi h 235 (Int32.toNatClampNeg (hi h 226 18))))) 226 18))))) 260 2 (hi (wrI (wrI h 260 0 (x1 - x1 / (hi h 235 (Int32.toNatClampNeg (hi h 226 18))) * (hi h 235 (Int32.toNatClampNeg (hi h 226 18))))) 260 1 (x1 / (hi (wrI h 260 0 (x1 - x1 / (hi h 235 (Int32.toNatClampNeg (hi h 226 18))) * (hi h 235 (Int32.toNatClampNeg (hi h 226 18))))) 235 (Int32.toNatClampNeg (hi (wrI h 260 0 (x1 - x1 / (hi h 235 (Int32.toNatClampNeg (hi h 226 18))) * (hi h 235 (Int32.toNatClampNeg (hi h 226 18))))) 226 18))))) 263 61)) 260 3 (hi (wrI (wrI (wrI h 260 0 (x1 - x1 / (hi h 235 (Int32.toNatClampNeg (hi h 226 18))) * (hi h 235 (Int32.toNatClampNeg (hi h 226 18))))) 260 1 (x1 / (hi (wrI h 260 0 (x1 - x1 / (hi h 235 (Int32.toNatClampNeg (hi h 226 18))) * (hi h 235 (Int32.toNatClampNeg (hi h 226 18))))) 235 (Int32.toNatClampNeg (hi (wrI h 260 0 (x1 - x1 / (hi h 235 (Int32.toNatClampNeg (hi h 226 18))) * (hi h 235 (Int32.toNatClampNeg (hi h 226 18))))) 226 18))))) 260 2 (hi (wrI (wrI h 260 0 (x1 - x1 / (hi h 235 (Int32.toNatClampNeg (hi h 226 18))) * (hi h 235 (Int32.toNatClampNeg (hi h 226 18))))) 260 1 (x1 / (hi (wrI h 260 0 (x1 - x1 / (hi h 235 (Int32.toNatClampNeg (hi h 226 18))) * (hi h 235 (Int32.toNatClampNeg (hi h 226 18))))) 235 (Int32.toNatClampNeg (hi (wrI h 260 0 (x1 - x1 / (hi h 235 (Int32.toNatClampNeg (hi h 226 18))) * (hi h 235 (Int32.toNatClampNeg (hi h 226 18))))) 226 18))))) 263 61)) 263 (Int32.toNatClampNeg x1))) 260 4 x2) 260 5 x3) 260 6 (hi (wrI (wrI (wrI (wrI (wrI (wrI h 260 0 (x1 - x1 / (hi h 235 (Int32.toNatClampNeg (hi h 226 18))) * (hi h 235 (Int32.toNatClampNeg (hi h 226 18))))) 260 1 (x1 / (hi (wrI h 260 0 (x1 - x1 / (hi h 235 (Int32.toNatClampNeg (hi h 226 18))) * (hi h 235 (Int32.toNatClampNeg (hi h 226 18))))) 235 (Int32.toNatClampNeg (hi (wrI h 260 0 (x1 - x1 / (hi h 235 (Int32.toNatClampNeg (hi h 226 18))) * (hi h 235 (Int32.toNatClampNeg (hi h 226 18))))) 226 18))))) 260 2 (hi (wrI (wrI h 260 0 (x1 - x1 / (hi h 235 (Int32.toNatClampNeg (hi h 226 18))) * (hi h 235 (Int32.toNatClampNeg (hi h 226 18))))) 260 1 (x1 / (hi (wrI h 260 0 (x1 - x1 / (hi h 235 (Int32.toNatClampNeg (hi h 226 18))) * (hi h 235 (Int32.toNatClampNeg (hi h 226 18))))) 235 (Int32.toNatClampNeg (hi (wrI h 260 0 (x1 - x1 / (hi h 235 (Int32.toNatClampNeg (hi h 226 18))) * (hi h 235 (Int32.toNatClampNeg (hi h 226 18))))) 226 18))))) 263 61)) 260 3 (hi (wrI (wrI (wrI h 260 0 (x1 - x1 / (hi h 235 (Int32.toNatClampNeg (hi h 226 18))) * (hi h 235 (Int32.toNatClampNeg (hi h 226 18))))) 260 1 (x1 / (hi (wrI h 260 0 (x1 - x1 / (hi h 235 (Int32.toNatClampNeg (hi h 226 18))) * (hi h 235 (Int32.toNatClampNeg (hi h 226 18))))) 235 (Int32.toNatClampNeg (hi (wrI h 260 0 (x1 - x1 / (hi h 235 (Int32.toNatClampNeg (hi h 226 18))) * (hi h 235 (Int32.toNatClampNeg (hi h 226 18))))) 226 18))))) 260 2 (hi (wrI (wrI h 260 0 (x1 - x1 / (hi h 235 (Int32.toNatClampNeg (hi h 226 18))) * (hi h 235 (Int32.toNatClampNeg (hi h 226 18))))) 260 1 (x1 / (hi (wrI h 260 0 (x1 - x1 / (hi h 235 (Int32.toNatClampNeg (hi h 226 18))) * (hi h 235 (Int32.toNatClampNeg (hi h 226 18))))) 235 (Int32.toNatClampNeg (hi (wrI h 260 0 (x1 - x1 / (hi h 235 (Int32.toNatClampNeg (hi h 226 18))) * (hi h 235 (Int32.toNatClampNeg (hi h 226 18))))) 226 18))))) 263 61)) 263 (Int32.toNatClampNeg x1))) 260 4 x2) 260 5 x3) 235 (Int32.toNatClampNeg (hi (wrI (wrI (wrI (wrI (wrI (wrI h 260 0 (x1 - x1 / (hi h 235 (Int32.toNatClampNeg (hi h 226 18))) * (hi h 235 (Int32.toNatClampNeg (hi h 226 18))))) 260 1 (x1 / (hi (wrI h 260 0 (x1 - x1 / (hi h 235 (Int32.toNatClampNeg (hi h 226 18))) * (hi h 235 (Int32.toNatClampNeg (hi h 226 18))))) 235 (Int32.toNatClampNeg (hi (wrI h 260 0 (x1 - x1 / (hi h 235 (Int32.toNatClampNeg (hi h 226 18))) * (hi h 235 (Int32.toNatClampNeg (hi h 226 18))))) 226 18))))) 260 2 (hi (wrI (wrI h 260 0 (x1 - x1 / (hi h 235 (Int32.toNatClampNeg (hi h 226 18))) * (hi h 235 (Int32.toNatClampNeg (hi h 226 18))))) 260 1 (x1 / (hi (wrI h 260 0 (x1 - x1 / (hi h 235 (Int32.toNatClampNeg (hi h 226 18))) * (hi h 235 (Int32.toNatClampNeg (hi h 226 18))))) 235 (Int32.toNatClampNeg (hi (wrI h 260 0 (x1 - x1 / (hi h 235 (Int32.toNatClampNeg (hi h 226 18))) * (hi h 235 (Int32.toNatClampNeg (hi h 226 18))))) 226 18))))) 263 61)) 260 3 (hi (wrI (wrI (wrI h 260 0 (x1 - x1 / (hi h 235 (Int32.toNatClampNeg (hi h 226 18))) * (hi h 235 (Int32.toNatClampNeg (hi h 226 18))))) 260 1 (x1 / (hi (wrI h 260 0 (x1 - x1 / (hi h 235 (Int32.toNatClampNeg (hi h 226 18))) * (hi h 235 (Int32.toNatClampNeg (hi h 226 18))))) 235 (Int32.toNatClampNeg (hi (wrI h 260 0 (x1 - x1 / (hi h 235 (Int32.toNatClampNeg (hi h 226 18))) * (hi h 235 (Int32.toNatClampNeg (hi h 226 18))))) 226 18))))) 260 2 (hi (wrI (wrI h 260 0 (x1 - x1 / (hi h 235 (Int32.toNatClampNeg (hi h 226 18))) * (hi h 235 (Int32.toNatClampNeg (hi h 226 18))))) 260 1 (x1 / (hi (wrI h 260 0 (x1 - x1 / (hi h 235 (Int32.toNatClampNeg (hi h 226 18))) * (hi h 235 (Int32.toNatClampNeg (hi h 226 18))))) 235 (Int32.toNatClampNeg (hi (wrI h 260 0 (x1 - x1 / (hi h 235 (Int32.toNatClampNeg (hi h 226 18))) * (hi h 235 (Int32.toNatClampNeg (hi h 226 18))))) 226 18))))) 263 61)) 263 (Int32.toNatClampNeg x1))) 260 4 x2) 260 5 x3) 226 18)))) 226 18))))).bind (fun q8 => ((F_X12_bits n q8.2 q8.1).bind (fun q10 => ((F_X12_lawTells n (wrI q10.2 260 8 q10.1) x4 x5).bind (fun q12 => some (q12.1, q12.2))))))) else none) else none) else none)) else none)) else none)
set_option maxRecDepth 100000 in
set_option maxHeartbeats 4000000 in
theorem s_X12_toldOf (d : Nat) {n : Nat} {h : Hp} {x1 : Int32} {x2 : Int32} {x3 : Int32} {x4 : Int32} {x5 : Int32} {q0 : (Int32 × Hp)} (hF : F_X12_toldOf n h x1 x2 x3 x4 x5 = some q0) (hG : G h)  : Kc mX12_toldOf (d + 2) [.ref 226, .int x1, .int x2, .int x3, .int x4, .int x5] h (fun r1 h1 => r1 = some (.int q0.1) ∧ h1 = q0.2 ∧ G q0.2) := by
  obtain ⟨r, h'⟩ := q0
  unfold F_X12_toldOf at hF
  refine Kc.of [some (.ref 226), some (.int x1), some (.int x2), some (.int x3), some (.int x4), some (.int x5)] ok_X12_toldOf rfl (Nat.le_of_ble_eq_true rfl) ?_
  refine v_aload_n (i := 0) dX12_toldOf_0 rfl rfl ?_
  refine g_X12_119 (q := 260) rfl sh_226 (by exact ltG hG (by decide)) (by exact rG hG r0_226_50) dX12_toldOf_1 ?_
  refine v_iconst (v := 0) dX12_toldOf_4 (by decide) ?_
  refine v_iload_n (i := 1) dX12_toldOf_5 rfl rfl ?_
  refine v_aload_n (i := 0) dX12_toldOf_6 rfl rfl ?_
  refine g_X12_43 (q := 235) rfl sh_226 (by exact ltG hG (by decide)) (by exact rG hG r0_226_22) dX12_toldOf_7 ?_
  refine v_aload_n (i := 0) dX12_toldOf_10 rfl rfl ?_
  refine g_X12_245 rfl sh_226 (by exact ltG hG (by decide)) dX12_toldOf_11 ?_
  obtain ⟨k1, hF⟩ := ck_some hF
  refine v_iaload sh_235 (by exact ltG hG (by decide)) (ixO k1) dX12_toldOf_14 ?_
  obtain ⟨k2, hF⟩ := ck_none hF
  refine v_irem dX12_toldOf_15 k2 ?_
  refine v_iastore sh_260 (by exact ltG hG (by decide)) (ixK 0 (by decide)) dX12_toldOf_16 ?_
  refine v_aload_n (i := 0) dX12_toldOf_17 rfl rfl ?_
  refine g_X12_119 (q := 260) rfl sh_226 (by exact ltG hG (by decide)) (by exact rG hG r0_226_50) dX12_toldOf_18 ?_
  refine v_iconst (v := 1) dX12_toldOf_21 (by decide) ?_
  refine v_iload_n (i := 1) dX12_toldOf_22 rfl rfl ?_
  refine v_aload_n (i := 0) dX12_toldOf_23 rfl rfl ?_
  refine g_X12_43 (q := 235) rfl sh_226 (by exact ltG hG (by decide)) (by exact rG hG r0_226_22) dX12_toldOf_24 ?_
  refine v_aload_n (i := 0) dX12_toldOf_27 rfl rfl ?_
  refine g_X12_245 rfl sh_226 (by exact ltG hG (by decide)) dX12_toldOf_28 ?_
  obtain ⟨k3, hF⟩ := ck_some hF
  refine v_iaload sh_235 (by exact ltG hG (by decide)) (ixO k3) dX12_toldOf_31 ?_
  obtain ⟨k4, hF⟩ := ck_none hF
  refine v_idiv dX12_toldOf_32 k4 ?_
  refine v_iastore sh_260 (by exact ltG hG (by decide)) (ixK 1 (by decide)) dX12_toldOf_33 ?_
  refine v_aload_n (i := 0) dX12_toldOf_34 rfl rfl ?_
  refine g_X12_119 (q := 260) rfl sh_226 (by exact ltG hG (by decide)) (by exact rG hG r0_226_50) dX12_toldOf_35 ?_
  refine v_iconst (v := 2) dX12_toldOf_38 (by decide) ?_
  refine v_aload_n (i := 0) dX12_toldOf_39 rfl rfl ?_
  refine g_X12_128 (q := 263) rfl sh_226 (by exact ltG hG (by decide)) (by exact rG hG r0_226_54) dX12_toldOf_40 ?_
  refine v_bipush (v := 61) dX12_toldOf_43 (by decide) ?_
  refine v_iaload sh_263 (by exact ltG hG (by decide)) (ixK 61 (by decide)) dX12_toldOf_45 ?_
  refine v_iastore sh_260 (by exact ltG hG (by decide)) (ixK 2 (by decide)) dX12_toldOf_46 ?_
  refine v_aload_n (i := 0) dX12_toldOf_47 rfl rfl ?_
  refine g_X12_119 (q := 260) rfl sh_226 (by exact ltG hG (by decide)) (by exact rG hG r0_226_50) dX12_toldOf_48 ?_
  refine v_iconst (v := 3) dX12_toldOf_51 (by decide) ?_
  refine v_aload_n (i := 0) dX12_toldOf_52 rfl rfl ?_
  refine g_X12_128 (q := 263) rfl sh_226 (by exact ltG hG (by decide)) (by exact rG hG r0_226_54) dX12_toldOf_53 ?_
  refine v_iload_n (i := 1) dX12_toldOf_56 rfl rfl ?_
  obtain ⟨k5, hF⟩ := ck_some hF
  refine v_iaload sh_263 (by exact ltG hG (by decide)) (ixO k5) dX12_toldOf_57 ?_
  refine v_iastore sh_260 (by exact ltG hG (by decide)) (ixK 3 (by decide)) dX12_toldOf_58 ?_
  refine v_aload_n (i := 0) dX12_toldOf_59 rfl rfl ?_
  refine g_X12_119 (q := 260) rfl sh_226 (by exact ltG hG (by decide)) (by exact rG hG r0_226_50) dX12_toldOf_60 ?_
  refine v_iconst (v := 4) dX12_toldOf_63 (by decide) ?_
  refine v_iload_n (i := 2) dX12_toldOf_64 rfl rfl ?_
  refine v_iastore sh_260 (by exact ltG hG (by decide)) (ixK 4 (by decide)) dX12_toldOf_65 ?_
  refine v_aload_n (i := 0) dX12_toldOf_66 rfl rfl ?_
  refine g_X12_119 (q := 260) rfl sh_226 (by exact ltG hG (by decide)) (by exact rG hG r0_226_50) dX12_toldOf_67 ?_
  refine v_iconst (v := 5) dX12_toldOf_70 (by decide) ?_
  refine v_iload_n (i := 3) dX12_toldOf_71 rfl rfl ?_
  refine v_iastore sh_260 (by exact ltG hG (by decide)) (ixK 5 (by decide)) dX12_toldOf_72 ?_
  refine v_aload_n (i := 0) dX12_toldOf_73 rfl rfl ?_
  refine g_X12_119 (q := 260) rfl sh_226 (by exact ltG hG (by decide)) (by exact rG hG r0_226_50) dX12_toldOf_74 ?_
  refine v_bipush (v := 6) dX12_toldOf_77 (by decide) ?_
  refine v_aload_n (i := 0) dX12_toldOf_79 rfl rfl ?_
  refine g_X12_43 (q := 235) rfl sh_226 (by exact ltG hG (by decide)) (by exact rG hG r0_226_22) dX12_toldOf_80 ?_
  refine v_aload_n (i := 0) dX12_toldOf_83 rfl rfl ?_
  refine g_X12_245 rfl sh_226 (by exact ltG hG (by decide)) dX12_toldOf_84 ?_
  obtain ⟨k6, hF⟩ := ck_some hF
  refine v_iaload sh_235 (by exact ltG hG (by decide)) (ixO k6) dX12_toldOf_87 ?_
  refine v_iastore sh_260 (by exact ltG hG (by decide)) (ixK 6 (by decide)) dX12_toldOf_88 ?_
  refine v_aload_n (i := 0) dX12_toldOf_89 rfl rfl ?_
  refine g_X12_119 (q := 260) rfl sh_226 (by exact ltG hG (by decide)) (by exact rG hG r0_226_50) dX12_toldOf_90 ?_
  refine v_bipush (v := 7) dX12_toldOf_93 (by decide) ?_
  refine v_aload_n (i := 0) dX12_toldOf_95 rfl rfl ?_
  refine g_X12_46 (q := 236) rfl sh_226 (by exact ltG hG (by decide)) (by exact rG hG r0_226_23) dX12_toldOf_96 ?_
  refine v_aload_n (i := 0) dX12_toldOf_99 rfl rfl ?_
  refine g_X12_245 rfl sh_226 (by exact ltG hG (by decide)) dX12_toldOf_100 ?_
  obtain ⟨k7, hF⟩ := ck_some hF
  refine v_iaload sh_236 (by exact ltG hG (by decide)) (ixO k7) dX12_toldOf_103 ?_
  refine v_iastore sh_260 (by exact ltG hG (by decide)) (ixK 7 (by decide)) dX12_toldOf_104 ?_
  refine v_aload_n (i := 0) dX12_toldOf_105 rfl rfl ?_
  refine g_X12_119 (q := 260) rfl sh_226 (by exact ltG hG (by decide)) (by exact rG hG r0_226_50) dX12_toldOf_106 ?_
  refine v_bipush (v := 8) dX12_toldOf_109 (by decide) ?_
  refine v_aload_n (i := 0) dX12_toldOf_111 rfl rfl ?_
  obtain ⟨q8, q8_e, hF⟩ := Option.bind_eq_some_iff.mp hF
  refine c_X12_359 rfl sh_226 (by exact ltG hG (by decide)) (Nat.le_of_ble_eq_true rfl) dX12_toldOf_112 (s_X12_tuneBits _ q8_e hG) (fun r1 h1 hq => ?_)
  obtain ⟨rfl, hq, hG⟩ := hq
  replace hq := hq.symm
  subst hq
  show V _ _ _ _ (_ :: _) _ _
  obtain ⟨q10, q10_e, hF⟩ := Option.bind_eq_some_iff.mp hF
  refine c_X12_362 rfl (Nat.le_of_ble_eq_true rfl) dX12_toldOf_115 (s_X12_bits _ q10_e hG) (fun r1 h1 hq => ?_)
  obtain ⟨rfl, hq, hG⟩ := hq
  replace hq := hq.symm
  subst hq
  show V _ _ _ _ (_ :: _) _ _
  refine v_iastore sh_260 (by exact ltG hG (by decide)) (ixK 8 (by decide)) dX12_toldOf_118 ?_
  refine v_aload_n (i := 0) dX12_toldOf_119 rfl rfl ?_
  refine v_iload (i := 4) dX12_toldOf_120 rfl ?_
  refine v_iload (i := 5) dX12_toldOf_122 rfl ?_
  obtain ⟨q12, q12_e, hF⟩ := Option.bind_eq_some_iff.mp hF
  refine c_X12_365 rfl sh_226 (by exact ltG hG (by decide)) (Nat.le_of_ble_eq_true rfl) dX12_toldOf_124 (s_X12_lawTells _ q12_e hG) (fun r1 h1 hq => ?_)
  obtain ⟨rfl, hq, hG⟩ := hq
  replace hq := hq.symm
  subst hq
  show V _ _ _ _ (_ :: _) _ _
  refine v_ireturn rfl dX12_toldOf_127 ?_
  obtain ⟨rfl, rfl⟩ := Prod.mk.inj (Option.some.inj hF)
  exact ⟨rfl, rfl, hG⟩
def F_X12_way (n : Nat) (h : Hp) (x1 : Int32) (x2 : Int32) (x3 : Int32) : Option (Int32 × Hp) := ((F_X12_areFree n h x1 x2).bind (fun q1 => (if (q1.1 : Int32) = 0 then some ((-1), q1.2) else (if ((-1) : Int32) ≤ (x3 : Int32) then ((F_X12_copies n q1.2).bind (fun q5 => ((F_X12_fillsReach n q5 267 x1 (hi q5 263 61)).bind (fun q7 => ((F_X12_firstAt n q7 x2 100).bind (fun q9 => (if (q9.1 : Int32) < 0 then some (q9.1, q9.2) else (if (x3 : Int32) = ((-1) : Int32) then some (q9.1, q9.2) else (if (x3 : Int32) ≤ (q9.1 : Int32) then ((F_X12_cellBehind n q9.2 x1 x2 q9.1 x3).bind (fun q14 => some (q14.1, q14.2))) else some ((-1), q9.2)))))))))) else some ((-1), q1.2)))))
set_option maxRecDepth 100000 in
set_option maxHeartbeats 4000000 in
theorem s_X12_way (d : Nat) {n : Nat} {h : Hp} {x1 : Int32} {x2 : Int32} {x3 : Int32} {q0 : (Int32 × Hp)} (hF : F_X12_way n h x1 x2 x3 = some q0) (hG : G h)  : Kc mX12_way (d + 4) [.ref 226, .int x1, .int x2, .int x3] h (fun r1 h1 => r1 = some (.int q0.1) ∧ h1 = q0.2 ∧ G q0.2) := by
  obtain ⟨r, h'⟩ := q0
  unfold F_X12_way at hF
  refine Kc.of [some (.ref 226), some (.int x1), some (.int x2), some (.int x3), none] ok_X12_way rfl (Nat.le_of_ble_eq_true rfl) ?_
  refine v_aload_n (i := 0) dX12_way_0 rfl rfl ?_
  refine v_iload_n (i := 1) dX12_way_1 rfl rfl ?_
  refine v_iload_n (i := 2) dX12_way_2 rfl rfl ?_
  obtain ⟨q1, q1_e, hF⟩ := Option.bind_eq_some_iff.mp hF
  refine c_X12_439 rfl sh_226 (by exact ltG hG (by decide)) (Nat.le_of_ble_eq_true rfl) dX12_way_3 (s_X12_areFree _ q1_e hG) (fun r1 h1 hq => ?_)
  obtain ⟨rfl, hq, hG⟩ := hq
  replace hq := hq.symm
  subst hq
  show V _ _ _ _ (_ :: _) _ _
  refine v_if_eq 14 dX12_way_6 (by decide) (fun c3 => ?_) (fun c3 => ?_)
  · rw [if_pos c3] at hF
    refine v_iconst (v := (-1)) dX12_way_14 (by decide) ?_
    refine v_ireturn rfl dX12_way_15 ?_
    obtain ⟨rfl, rfl⟩ := Prod.mk.inj (Option.some.inj hF)
    exact ⟨rfl, rfl, hG⟩
  · rw [if_neg c3] at hF
    refine v_iload_n (i := 3) dX12_way_9 rfl rfl ?_
    refine v_iconst (v := (-1)) dX12_way_10 (by decide) ?_
    refine v_icmp_ge 16 dX12_way_11 (by decide) (fun c4 => ?_) (fun c4 => ?_)
    · rw [if_pos c4] at hF
      refine v_aload_n (i := 0) dX12_way_16 rfl rfl ?_
      obtain ⟨q5, q5_e, hF⟩ := Option.bind_eq_some_iff.mp hF
      refine c_X12_346 rfl sh_226 (by exact ltG hG (by decide)) (Nat.le_of_ble_eq_true rfl) dX12_way_17 (s_X12_copies _ q5_e hG) (fun r1 h1 hq => ?_)
      obtain ⟨rfl, hq, hG⟩ := hq
      replace hq := hq.symm
      subst hq
      simp only [Option.toList, List.nil_append]
      refine v_aload_n (i := 0) dX12_way_20 rfl rfl ?_
      refine v_aload_n (i := 0) dX12_way_21 rfl rfl ?_
      refine g_X12_140 (q := 267) rfl sh_226 (by exact ltG hG (by decide)) (by exact rG hG r0_226_61) dX12_way_22 ?_
      refine v_iload_n (i := 1) dX12_way_25 rfl rfl ?_
      refine v_aload_n (i := 0) dX12_way_26 rfl rfl ?_
      refine g_X12_128 (q := 263) rfl sh_226 (by exact ltG hG (by decide)) (by exact rG hG r0_226_54) dX12_way_27 ?_
      refine v_bipush (v := 61) dX12_way_30 (by decide) ?_
      refine v_iaload sh_263 (by exact ltG hG (by decide)) (ixK 61 (by decide)) dX12_way_32 ?_
      obtain ⟨q7, q7_e, hF⟩ := Option.bind_eq_some_iff.mp hF
      refine c_X12_442 rfl sh_226 (by exact ltG hG (by decide)) (Nat.le_of_ble_eq_true rfl) dX12_way_33 (s_X12_fillsReach _ q7_e hG (by first | assumption | exact sc_30 | exact sc_34 | exact sc_10 | exact fd_24 | exact fd_4 | exact lw_25 | exact lw_5 | exact bd_23 | exact bd_3 | exact ⟨by first | assumption | rfl, by first | decide | omega⟩)) (fun r1 h1 hq => ?_)
      obtain ⟨rfl, hq, hG⟩ := hq
      replace hq := hq.symm
      subst hq
      simp only [Option.toList, List.nil_append]
      refine v_aload_n (i := 0) dX12_way_36 rfl rfl ?_
      refine v_iload_n (i := 2) dX12_way_37 rfl rfl ?_
      refine v_bipush (v := 100) dX12_way_38 (by decide) ?_
      obtain ⟨q9, q9_e, hF⟩ := Option.bind_eq_some_iff.mp hF
      refine c_X12_446 rfl sh_226 (by exact ltG hG (by decide)) (Nat.le_of_ble_eq_true rfl) dX12_way_40 (s_X12_firstAt _ q9_e hG) (fun r1 h1 hq => ?_)
      obtain ⟨rfl, hq, hG⟩ := hq
      replace hq := hq.symm
      subst hq
      show V _ _ _ _ (_ :: _) _ _
      refine v_istore (i := 4) dX12_way_43 (by decide) (nlT rfl) ?_
      simp only [List.set_cons_zero, List.set_cons_succ]
      refine v_iload (i := 4) dX12_way_45 rfl ?_
      refine v_if_lt 55 dX12_way_47 (by decide) (fun c11 => ?_) (fun c11 => ?_)
      · rw [if_pos c11] at hF
        refine v_iload (i := 4) dX12_way_55 rfl ?_
        refine v_ireturn rfl dX12_way_57 ?_
        obtain ⟨rfl, rfl⟩ := Prod.mk.inj (Option.some.inj hF)
        exact ⟨rfl, rfl, hG⟩
      · rw [if_neg c11] at hF
        refine v_iload_n (i := 3) dX12_way_50 rfl rfl ?_
        refine v_iconst (v := (-1)) dX12_way_51 (by decide) ?_
        refine v_icmp_ne 58 dX12_way_52 (by decide) (fun c12 => ?_) (fun c12 => ?_)
        · rw [if_neg c12] at hF
          refine v_iload_n (i := 3) dX12_way_58 rfl rfl ?_
          refine v_iload (i := 4) dX12_way_59 rfl ?_
          refine v_icmp_le 68 dX12_way_61 (by decide) (fun c13 => ?_) (fun c13 => ?_)
          · rw [if_pos c13] at hF
            refine v_aload_n (i := 0) dX12_way_68 rfl rfl ?_
            refine v_iload_n (i := 1) dX12_way_69 rfl rfl ?_
            refine v_iload_n (i := 2) dX12_way_70 rfl rfl ?_
            refine v_iload (i := 4) dX12_way_71 rfl ?_
            refine v_iload_n (i := 3) dX12_way_73 rfl rfl ?_
            obtain ⟨q14, q14_e, hF⟩ := Option.bind_eq_some_iff.mp hF
            refine c_X12_449 rfl sh_226 (by exact ltG hG (by decide)) (Nat.le_of_ble_eq_true rfl) dX12_way_74 (s_X12_cellBehind _ q14_e hG) (fun r1 h1 hq => ?_)
            obtain ⟨rfl, hq, hG⟩ := hq
            replace hq := hq.symm
            subst hq
            show V _ _ _ _ (_ :: _) _ _
            refine v_ireturn rfl dX12_way_77 ?_
            obtain ⟨rfl, rfl⟩ := Prod.mk.inj (Option.some.inj hF)
            exact ⟨rfl, rfl, hG⟩
          · rw [if_neg c13] at hF
            refine v_iconst (v := (-1)) dX12_way_64 (by decide) ?_
            refine v_goto 77 dX12_way_65 (by decide) ?_
            refine v_ireturn rfl dX12_way_77 ?_
            obtain ⟨rfl, rfl⟩ := Prod.mk.inj (Option.some.inj hF)
            exact ⟨rfl, rfl, hG⟩
        · rw [if_pos c12] at hF
          refine v_iload (i := 4) dX12_way_55 rfl ?_
          refine v_ireturn rfl dX12_way_57 ?_
          obtain ⟨rfl, rfl⟩ := Prod.mk.inj (Option.some.inj hF)
          exact ⟨rfl, rfl, hG⟩
    · rw [if_neg c4] at hF
      refine v_iconst (v := (-1)) dX12_way_14 (by decide) ?_
      refine v_ireturn rfl dX12_way_15 ?_
      obtain ⟨rfl, rfl⟩ := Prod.mk.inj (Option.some.inj hF)
      exact ⟨rfl, rfl, hG⟩
def F_X12_wayOf (n : Nat) (h : Hp) (x1 : Int32) (x2 : Int32) (x3 : Int32) (x4 : Int32) : Option (Int32 × Hp) := (if ixOK (56 + x1) 63 = true then ((F_X12_toldOf n h x2 (hi h 263 (Int32.toNatClampNeg (56 + x1))) x1 x3 x4).bind (fun q2 => (if 0 ≤ (q2.1 : Int32) then (if ixOK ((5 * x2) + (q2.1 - q2.1 / 5 * 5)) 125 = true then ((F_X12_isRoped n q2.2 (hi q2.2 264 (Int32.toNatClampNeg ((5 * x2) + (q2.1 - q2.1 / 5 * 5))))).bind (fun q6 => (if (q6.1 : Int32) = 0 then some ((hi q2.2 264 (Int32.toNatClampNeg ((5 * x2) + (q2.1 - q2.1 / 5 * 5)))), q6.2) else some (x2, q6.2)))) else none) else (if ixOK ((5 * x2) + 0) 125 = true then ((F_X12_isRoped n q2.2 (hi q2.2 264 (Int32.toNatClampNeg ((5 * x2) + 0)))).bind (fun q10 => (if (q10.1 : Int32) = 0 then some ((hi q2.2 264 (Int32.toNatClampNeg ((5 * x2) + 0))), q10.2) else some (x2, q10.2)))) else none)))) else none)
set_option maxRecDepth 100000 in
set_option maxHeartbeats 4000000 in
theorem s_X12_wayOf (d : Nat) {n : Nat} {h : Hp} {x1 : Int32} {x2 : Int32} {x3 : Int32} {x4 : Int32} {q0 : (Int32 × Hp)} (hF : F_X12_wayOf n h x1 x2 x3 x4 = some q0) (hG : G h)  : Kc mX12_wayOf (d + 3) [.ref 226, .int x1, .int x2, .int x3, .int x4] h (fun r1 h1 => r1 = some (.int q0.1) ∧ h1 = q0.2 ∧ G q0.2) := by
  obtain ⟨r, h'⟩ := q0
  unfold F_X12_wayOf at hF
  refine Kc.of [some (.ref 226), some (.int x1), some (.int x2), some (.int x3), some (.int x4), none, none] ok_X12_wayOf rfl (Nat.le_of_ble_eq_true rfl) ?_
  refine v_aload_n (i := 0) dX12_wayOf_0 rfl rfl ?_
  refine v_iload_n (i := 2) dX12_wayOf_1 rfl rfl ?_
  refine v_aload_n (i := 0) dX12_wayOf_2 rfl rfl ?_
  refine g_X12_128 (q := 263) rfl sh_226 (by exact ltG hG (by decide)) (by exact rG hG r0_226_54) dX12_wayOf_3 ?_
  refine v_bipush (v := 56) dX12_wayOf_6 (by decide) ?_
  refine v_iload_n (i := 1) dX12_wayOf_8 rfl rfl ?_
  refine v_iadd dX12_wayOf_9 ?_
  obtain ⟨k1, hF⟩ := ck_some hF
  refine v_iaload sh_263 (by exact ltG hG (by decide)) (ixO k1) dX12_wayOf_10 ?_
  refine v_iload_n (i := 1) dX12_wayOf_11 rfl rfl ?_
  refine v_iload_n (i := 3) dX12_wayOf_12 rfl rfl ?_
  refine v_iload (i := 4) dX12_wayOf_13 rfl ?_
  obtain ⟨q2, q2_e, hF⟩ := Option.bind_eq_some_iff.mp hF
  refine c_X12_368 rfl sh_226 (by exact ltG hG (by decide)) (Nat.le_of_ble_eq_true rfl) dX12_wayOf_15 (s_X12_toldOf _ q2_e hG) (fun r1 h1 hq => ?_)
  obtain ⟨rfl, hq, hG⟩ := hq
  replace hq := hq.symm
  subst hq
  show V _ _ _ _ (_ :: _) _ _
  refine v_istore (i := 5) dX12_wayOf_18 (by decide) (nlT rfl) ?_
  simp only [List.set_cons_zero, List.set_cons_succ]
  refine v_aload_n (i := 0) dX12_wayOf_20 rfl rfl ?_
  refine g_X12_131 (q := 264) rfl sh_226 (by exact ltG hG (by decide)) (by exact rG hG r0_226_57) dX12_wayOf_21 ?_
  refine v_iconst (v := 5) dX12_wayOf_24 (by decide) ?_
  refine v_iload_n (i := 2) dX12_wayOf_25 rfl rfl ?_
  refine v_imul dX12_wayOf_26 ?_
  refine v_iload (i := 5) dX12_wayOf_27 rfl ?_
  refine v_if_ge 36 dX12_wayOf_29 (by decide) (fun c4 => ?_) (fun c4 => ?_)
  · rw [if_pos c4] at hF
    refine v_iload (i := 5) dX12_wayOf_36 rfl ?_
    refine v_iconst (v := 5) dX12_wayOf_38 (by decide) ?_
    refine v_irem dX12_wayOf_39 (by decide) ?_
    refine v_iadd dX12_wayOf_40 ?_
    obtain ⟨k5, hF⟩ := ck_some hF
    refine v_iaload sh_264 (by exact ltG hG (by decide)) (ixO k5) dX12_wayOf_41 ?_
    refine v_istore (i := 6) dX12_wayOf_42 (by decide) (nlT rfl) ?_
    simp only [List.set_cons_zero, List.set_cons_succ]
    refine v_aload_n (i := 0) dX12_wayOf_44 rfl rfl ?_
    refine v_iload (i := 6) dX12_wayOf_45 rfl ?_
    obtain ⟨q6, q6_e, hF⟩ := Option.bind_eq_some_iff.mp hF
    refine c_X12_372 rfl sh_226 (by exact ltG hG (by decide)) (Nat.le_of_ble_eq_true rfl) dX12_wayOf_47 (s_X12_isRoped _ q6_e hG) (fun r1 h1 hq => ?_)
    obtain ⟨rfl, hq, hG⟩ := hq
    replace hq := hq.symm
    subst hq
    show V _ _ _ _ (_ :: _) _ _
    refine v_if_eq 57 dX12_wayOf_50 (by decide) (fun c8 => ?_) (fun c8 => ?_)
    · rw [if_pos c8] at hF
      refine v_iload (i := 6) dX12_wayOf_57 rfl ?_
      refine v_ireturn rfl dX12_wayOf_59 ?_
      obtain ⟨rfl, rfl⟩ := Prod.mk.inj (Option.some.inj hF)
      exact ⟨rfl, rfl, hG⟩
    · rw [if_neg c8] at hF
      refine v_iload_n (i := 2) dX12_wayOf_53 rfl rfl ?_
      refine v_goto 59 dX12_wayOf_54 (by decide) ?_
      refine v_ireturn rfl dX12_wayOf_59 ?_
      obtain ⟨rfl, rfl⟩ := Prod.mk.inj (Option.some.inj hF)
      exact ⟨rfl, rfl, hG⟩
  · rw [if_neg c4] at hF
    refine v_iconst (v := 0) dX12_wayOf_32 (by decide) ?_
    refine v_goto 40 dX12_wayOf_33 (by decide) ?_
    refine v_iadd dX12_wayOf_40 ?_
    obtain ⟨k9, hF⟩ := ck_some hF
    refine v_iaload sh_264 (by exact ltG hG (by decide)) (ixO k9) dX12_wayOf_41 ?_
    refine v_istore (i := 6) dX12_wayOf_42 (by decide) (nlT rfl) ?_
    simp only [List.set_cons_zero, List.set_cons_succ]
    refine v_aload_n (i := 0) dX12_wayOf_44 rfl rfl ?_
    refine v_iload (i := 6) dX12_wayOf_45 rfl ?_
    obtain ⟨q10, q10_e, hF⟩ := Option.bind_eq_some_iff.mp hF
    refine c_X12_372 rfl sh_226 (by exact ltG hG (by decide)) (Nat.le_of_ble_eq_true rfl) dX12_wayOf_47 (s_X12_isRoped _ q10_e hG) (fun r1 h1 hq => ?_)
    obtain ⟨rfl, hq, hG⟩ := hq
    replace hq := hq.symm
    subst hq
    show V _ _ _ _ (_ :: _) _ _
    refine v_if_eq 57 dX12_wayOf_50 (by decide) (fun c12 => ?_) (fun c12 => ?_)
    · rw [if_pos c12] at hF
      refine v_iload (i := 6) dX12_wayOf_57 rfl ?_
      refine v_ireturn rfl dX12_wayOf_59 ?_
      obtain ⟨rfl, rfl⟩ := Prod.mk.inj (Option.some.inj hF)
      exact ⟨rfl, rfl, hG⟩
    · rw [if_neg c12] at hF
      refine v_iload_n (i := 2) dX12_wayOf_53 rfl rfl ?_
      refine v_goto 59 dX12_wayOf_54 (by decide) ?_
      refine v_ireturn rfl dX12_wayOf_59 ?_
      obtain ⟨rfl, rfl⟩ := Prod.mk.inj (Option.some.inj hF)
      exact ⟨rfl, rfl, hG⟩
def W_X1_leadOnFromExit : Nat → Nat → Hp → Int32 → Int32 → Int32 → Int32 → Option Hp
  | 0 => fun _ _ _ _ _ _ => none
  | n + 1 => fun hd h l1 l2 l3 l4 => (if hd = 22 then (if (25 : Int32) ≤ (l4 : Int32) then (if ixOK l1 25 = true then (if ((hi h 208 (Int32.toNatClampNeg l1)) : Int32) = ((-1) : Int32) then some h else ((F_X1_find n h (2 * l1) ((2 * l1) + 1)).bind (fun q4 => some q4))) else none) else (if ((((((l3 : Int32).toUInt32 >>> ((l4 : Int32).toUInt32 &&& Int32.toUInt32 31)).toInt32) : Int32) &&& (1 : Int32)) : Int32) = 0 then W_X1_leadOnFromExit n 22 h  l1 l2 l3 (l4 + 1) else (if ixOK l4 25 = true then (if ((hi h 208 (Int32.toNatClampNeg l4)) : Int32) = (l1 : Int32) then W_X1_leadOnFromExit n 22 h  l1 l2 l3 (l4 + 1) else ((F_X1_find n h (2 * l4) ((2 * l1) + 1)).bind (fun q9 => W_X1_leadOnFromExit n 22 q9  l1 l2 l3 (l4 + 1)))) else none))) else none)
set_option maxRecDepth 100000 in
set_option maxHeartbeats 4000000 in
theorem sw_X1_leadOnFromExit (d : Nat)  (n : Nat) : (∀ (l1 : Int32) (l2 : Int32) (l3 : Int32) (l4 : Int32) (h : Hp), ∀ (h' : Hp), W_X1_leadOnFromExit n 22 h  l1 l2 l3 l4 = some h' → G h → V mX1_leadOnFromExit (d + 1) 22 [some (.ref 207), some (.int l1), some (.int l2), some (.int l3), some (.int l4)] [] h (fun r1 h1 => r1 = none ∧ h1 = h' ∧ G h')) := by
  induction n with
  | zero => exact by intros; contradiction
  | succ n ih =>
    have s_X1_leadOnFromExit_IH_22 := ih
    intro l1 l2 l3 l4 h h' hF hG
    unfold W_X1_leadOnFromExit at hF
    rw [if_pos rfl] at hF
    refine v_iload (i := 4) dX1_leadOnFromExit_22 rfl ?_
    refine v_bipush (v := 25) dX1_leadOnFromExit_24 (by decide) ?_
    refine v_icmp_ge 68 dX1_leadOnFromExit_26 (by decide) (fun c1 => ?_) (fun c1 => ?_)
    · rw [if_pos c1] at hF
      refine v_aload_n (i := 0) dX1_leadOnFromExit_68 rfl rfl ?_
      refine g_X1_9 (q := 208) rfl sh_207 (by exact ltG hG (by decide)) (by exact rG hG r0_207_1) dX1_leadOnFromExit_69 ?_
      refine v_iload_n (i := 1) dX1_leadOnFromExit_72 rfl rfl ?_
      obtain ⟨k2, hF⟩ := ck_some hF
      refine v_iaload sh_208 (by exact ltG hG (by decide)) (ixO k2) dX1_leadOnFromExit_73 ?_
      refine v_iconst (v := (-1)) dX1_leadOnFromExit_74 (by decide) ?_
      refine v_icmp_eq 90 dX1_leadOnFromExit_75 (by decide) (fun c3 => ?_) (fun c3 => ?_)
      · rw [if_pos c3] at hF
        refine v_return rfl dX1_leadOnFromExit_90 ?_
        obtain rfl := Option.some.inj hF
        exact ⟨rfl, rfl, hG⟩
      · rw [if_neg c3] at hF
        refine v_aload_n (i := 0) dX1_leadOnFromExit_78 rfl rfl ?_
        refine v_iconst (v := 2) dX1_leadOnFromExit_79 (by decide) ?_
        refine v_iload_n (i := 1) dX1_leadOnFromExit_80 rfl rfl ?_
        refine v_imul dX1_leadOnFromExit_81 ?_
        refine v_iconst (v := 2) dX1_leadOnFromExit_82 (by decide) ?_
        refine v_iload_n (i := 1) dX1_leadOnFromExit_83 rfl rfl ?_
        refine v_imul dX1_leadOnFromExit_84 ?_
        refine v_iconst (v := 1) dX1_leadOnFromExit_85 (by decide) ?_
        refine v_iadd dX1_leadOnFromExit_86 ?_
        obtain ⟨q4, q4_e, hF⟩ := Option.bind_eq_some_iff.mp hF
        refine c_X1_43 rfl sh_207 (by exact ltG hG (by decide)) (Nat.le_of_ble_eq_true rfl) dX1_leadOnFromExit_87 (s_X1_find _ q4_e hG) (fun r1 h1 hq => ?_)
        obtain ⟨rfl, hq, hG⟩ := hq
        replace hq := hq.symm
        subst hq
        simp only [Option.toList, List.nil_append]
        refine v_return rfl dX1_leadOnFromExit_90 ?_
        obtain rfl := Option.some.inj hF
        exact ⟨rfl, rfl, hG⟩
    · rw [if_neg c1] at hF
      refine v_iload_n (i := 3) dX1_leadOnFromExit_29 rfl rfl ?_
      refine v_iload (i := 4) dX1_leadOnFromExit_30 rfl ?_
      refine v_iushr dX1_leadOnFromExit_32 ?_
      refine v_iconst (v := 1) dX1_leadOnFromExit_33 (by decide) ?_
      refine v_iand dX1_leadOnFromExit_34 ?_
      refine v_if_eq 62 dX1_leadOnFromExit_35 (by decide) (fun c6 => ?_) (fun c6 => ?_)
      · rw [if_pos c6] at hF
        refine v_iinc (i := 4) (v := (l4 + 1)) dX1_leadOnFromExit_62 rfl rfl (by decide) (nlT rfl) ?_
        simp only [List.set_cons_zero, List.set_cons_succ]
        refine v_goto 22 dX1_leadOnFromExit_65 (by decide) ?_
        refine V.weak (la2 := [some (.ref 207), some (.int l1), some (.int l2), some (.int l3), some (.int (l4 + 1))]) (by simp [wk]) ?_
        exact (s_X1_leadOnFromExit_IH_22) _ _ _ _ _ _ hF hG
      · rw [if_neg c6] at hF
        refine v_aload_n (i := 0) dX1_leadOnFromExit_38 rfl rfl ?_
        refine g_X1_9 (q := 208) rfl sh_207 (by exact ltG hG (by decide)) (by exact rG hG r0_207_1) dX1_leadOnFromExit_39 ?_
        refine v_iload (i := 4) dX1_leadOnFromExit_42 rfl ?_
        obtain ⟨k7, hF⟩ := ck_some hF
        refine v_iaload sh_208 (by exact ltG hG (by decide)) (ixO k7) dX1_leadOnFromExit_44 ?_
        refine v_iload_n (i := 1) dX1_leadOnFromExit_45 rfl rfl ?_
        refine v_icmp_eq 62 dX1_leadOnFromExit_46 (by decide) (fun c8 => ?_) (fun c8 => ?_)
        · rw [if_pos c8] at hF
          refine v_iinc (i := 4) (v := (l4 + 1)) dX1_leadOnFromExit_62 rfl rfl (by decide) (nlT rfl) ?_
          simp only [List.set_cons_zero, List.set_cons_succ]
          refine v_goto 22 dX1_leadOnFromExit_65 (by decide) ?_
          refine V.weak (la2 := [some (.ref 207), some (.int l1), some (.int l2), some (.int l3), some (.int (l4 + 1))]) (by simp [wk]) ?_
          exact (s_X1_leadOnFromExit_IH_22) _ _ _ _ _ _ hF hG
        · rw [if_neg c8] at hF
          refine v_aload_n (i := 0) dX1_leadOnFromExit_49 rfl rfl ?_
          refine v_iconst (v := 2) dX1_leadOnFromExit_50 (by decide) ?_
          refine v_iload (i := 4) dX1_leadOnFromExit_51 rfl ?_
          refine v_imul dX1_leadOnFromExit_53 ?_
          refine v_iconst (v := 2) dX1_leadOnFromExit_54 (by decide) ?_
          refine v_iload_n (i := 1) dX1_leadOnFromExit_55 rfl rfl ?_
          refine v_imul dX1_leadOnFromExit_56 ?_
          refine v_iconst (v := 1) dX1_leadOnFromExit_57 (by decide) ?_
          refine v_iadd dX1_leadOnFromExit_58 ?_
          obtain ⟨q9, q9_e, hF⟩ := Option.bind_eq_some_iff.mp hF
          refine c_X1_43 rfl sh_207 (by exact ltG hG (by decide)) (Nat.le_of_ble_eq_true rfl) dX1_leadOnFromExit_59 (s_X1_find _ q9_e hG) (fun r1 h1 hq => ?_)
          obtain ⟨rfl, hq, hG⟩ := hq
          replace hq := hq.symm
          subst hq
          simp only [Option.toList, List.nil_append]
          refine v_iinc (i := 4) (v := (l4 + 1)) dX1_leadOnFromExit_62 rfl rfl (by decide) (nlT rfl) ?_
          simp only [List.set_cons_zero, List.set_cons_succ]
          refine v_goto 22 dX1_leadOnFromExit_65 (by decide) ?_
          refine V.weak (la2 := [some (.ref 207), some (.int l1), some (.int l2), some (.int l3), some (.int (l4 + 1))]) (by simp [wk]) ?_
          exact (s_X1_leadOnFromExit_IH_22) _ _ _ _ _ _ hF hG
def F_X1_leadOnFromExit (n : Nat) (h : Hp) (x1 : Int32) (x2 : Int32) : Option Hp := ((F_X3_grown n h 24 ((1 : Int32) <<< ((x1 : Int32) &&& 31))).bind (fun q11 => W_X1_leadOnFromExit n 22 q11.2  x1 x2 ((((q11.1 : Int32) &&& (x2 : Int32)) : Int32) &&& (((((1 : Int32) <<< ((x1 : Int32) &&& 31)) : Int32) ^^^ ((-1) : Int32)) : Int32)) 0))
set_option maxRecDepth 100000 in
set_option maxHeartbeats 4000000 in
theorem s_X1_leadOnFromExit (d : Nat) {n : Nat} {h : Hp} {x1 : Int32} {x2 : Int32} {q0 : Hp} (hF : F_X1_leadOnFromExit n h x1 x2 = some q0) (hG : G h)  : Kc mX1_leadOnFromExit (d + 1) [.ref 207, .int x1, .int x2] h (fun r1 h1 => r1 = none ∧ h1 = q0 ∧ G q0) := by
  obtain ⟨h', rfl⟩ : ∃ z, z = q0 := ⟨_, rfl⟩
  have s_X1_leadOnFromExit_IH_22 := sw_X1_leadOnFromExit d   n
  unfold F_X1_leadOnFromExit at hF
  refine Kc.of [some (.ref 207), some (.int x1), some (.int x2), none, none] ok_X1_leadOnFromExit rfl (Nat.le_of_ble_eq_true rfl) ?_
  refine v_aload_n (i := 0) dX1_leadOnFromExit_0 rfl rfl ?_
  refine g_X1_25 (q := 24) rfl sh_207 (by exact ltG hG (by decide)) (by exact rG hG r0_207_0) dX1_leadOnFromExit_1 ?_
  refine v_iconst (v := 1) dX1_leadOnFromExit_4 (by decide) ?_
  refine v_iload_n (i := 1) dX1_leadOnFromExit_5 rfl rfl ?_
  refine v_ishl dX1_leadOnFromExit_6 ?_
  obtain ⟨q11, q11_e, hF⟩ := Option.bind_eq_some_iff.mp hF
  refine c_X1_53 rfl sh_24 (by exact ltG hG (by decide)) (Nat.le_of_ble_eq_true rfl) dX1_leadOnFromExit_7 (s_X3_grown _ q11_e hG (by first | assumption | exact sc_30 | exact sc_34 | exact sc_10 | exact fd_24 | exact fd_4 | exact lw_25 | exact lw_5 | exact bd_23 | exact bd_3 | exact ⟨by first | assumption | rfl, by first | decide | omega⟩)) (fun r1 h1 hq => ?_)
  obtain ⟨rfl, hq, hG⟩ := hq
  replace hq := hq.symm
  subst hq
  show V _ _ _ _ (_ :: _) _ _
  refine v_iload_n (i := 2) dX1_leadOnFromExit_10 rfl rfl ?_
  refine v_iand dX1_leadOnFromExit_11 ?_
  refine v_iconst (v := 1) dX1_leadOnFromExit_12 (by decide) ?_
  refine v_iload_n (i := 1) dX1_leadOnFromExit_13 rfl rfl ?_
  refine v_ishl dX1_leadOnFromExit_14 ?_
  refine v_iconst (v := (-1)) dX1_leadOnFromExit_15 (by decide) ?_
  refine v_ixor dX1_leadOnFromExit_16 ?_
  refine v_iand dX1_leadOnFromExit_17 ?_
  refine v_istore_n (i := 3) dX1_leadOnFromExit_18 rfl (by decide) (nlT rfl) ?_
  simp only [List.set_cons_zero, List.set_cons_succ]
  refine v_iconst (v := 0) dX1_leadOnFromExit_19 (by decide) ?_
  refine v_istore (i := 4) dX1_leadOnFromExit_20 (by decide) (nlT rfl) ?_
  simp only [List.set_cons_zero, List.set_cons_succ]
  refine V.weak (la2 := [some (.ref 207), some (.int x1), some (.int x2), some (.int ((((q11.1 : Int32) &&& (x2 : Int32)) : Int32) &&& (((((1 : Int32) <<< ((x1 : Int32) &&& 31)) : Int32) ^^^ ((-1) : Int32)) : Int32))), some (.int 0)]) (by simp [wk]) ?_
  exact (s_X1_leadOnFromExit_IH_22) _ _ _ _ _ _ hF hG
def W_X1_search : Nat → Nat → Hp → Int32 → Int32 → Int32 → Int32 → Option (Int32 × Hp)
  | 0 => fun _ _ _ _ _ _ => none
  | n + 1 => fun hd h l1 l2 l3 l4 => (if hd = 30 then (if ((hi h 207 4) : Int32) ≤ (l4 : Int32) then some (0, h) else (if (50 : Int32) ≤ (l4 : Int32) then some (0, h) else (if ixOK l4 50 = true then (if ixOK l4 50 = true then (if ((hi h 210 (Int32.toNatClampNeg l4)) : Int32) = ((2 * l3) : Int32) then some (1, h) else (if ixOK l4 50 = true then (if ((((hi h 210 (Int32.toNatClampNeg l4)) : Int32) &&& (1 : Int32)) : Int32) = 0 then ((F_X1_leadOnFromEntry n h (((hi h 210 (Int32.toNatClampNeg l4)) : Int32) >>> ((1 : Int32) &&& 31))).bind (fun q10 => W_X1_search n 30 q10  l1 l2 l3 (l4 + 1))) else ((F_X1_leadOnFromExit n h (((hi h 210 (Int32.toNatClampNeg l4)) : Int32) >>> ((1 : Int32) &&& 31)) ((l1 : Int32) &&& (((((1 : Int32) <<< ((l2 : Int32) &&& 31)) : Int32) ^^^ ((-1) : Int32)) : Int32))).bind (fun q8 => W_X1_search n 30 q8  l1 l2 l3 (l4 + 1)))) else none)) else none) else none))) else none)
set_option maxRecDepth 100000 in
set_option maxHeartbeats 4000000 in
theorem sw_X1_search (d : Nat)  (n : Nat) : (∀ (l1 : Int32) (l2 : Int32) (l3 : Int32) (l4 : Int32) (h : Hp), ∀ (r : Int32) (h' : Hp), W_X1_search n 30 h  l1 l2 l3 l4 = some (r, h') → G h → V mX1_search (d + 2) 30 [some (.ref 207), some (.int l1), some (.int l2), some (.int l3), some (.int l4), none] [] h (fun r1 h1 => r1 = some (.int r) ∧ h1 = h' ∧ G h')) := by
  induction n with
  | zero => exact by intros; contradiction
  | succ n ih =>
    have s_X1_search_IH_30 := ih
    intro l1 l2 l3 l4 h r h' hF hG
    unfold W_X1_search at hF
    rw [if_pos rfl] at hF
    refine v_iload (i := 4) dX1_search_30 rfl ?_
    refine v_aload_n (i := 0) dX1_search_32 rfl rfl ?_
    refine g_X1_21 rfl sh_207 (by exact ltG hG (by decide)) dX1_search_33 ?_
    refine v_icmp_ge 112 dX1_search_36 (by decide) (fun c1 => ?_) (fun c1 => ?_)
    · rw [if_pos c1] at hF
      refine v_iconst (v := 0) dX1_search_112 (by decide) ?_
      refine v_zreturn rfl (by decide) dX1_search_113 ?_
      obtain ⟨rfl, rfl⟩ := Prod.mk.inj (Option.some.inj hF)
      exact ⟨rfl, rfl, hG⟩
    · rw [if_neg c1] at hF
      refine v_iload (i := 4) dX1_search_39 rfl ?_
      refine v_bipush (v := 50) dX1_search_41 (by decide) ?_
      refine v_icmp_ge 112 dX1_search_43 (by decide) (fun c2 => ?_) (fun c2 => ?_)
      · rw [if_pos c2] at hF
        refine v_iconst (v := 0) dX1_search_112 (by decide) ?_
        refine v_zreturn rfl (by decide) dX1_search_113 ?_
        obtain ⟨rfl, rfl⟩ := Prod.mk.inj (Option.some.inj hF)
        exact ⟨rfl, rfl, hG⟩
      · rw [if_neg c2] at hF
        refine v_aload_n (i := 0) dX1_search_46 rfl rfl ?_
        refine g_X1_18 (q := 210) rfl sh_207 (by exact ltG hG (by decide)) (by exact rG hG r0_207_3) dX1_search_47 ?_
        refine v_iload (i := 4) dX1_search_50 rfl ?_
        obtain ⟨k3, hF⟩ := ck_some hF
        refine v_iaload sh_210 (by exact ltG hG (by decide)) (ixO k3) dX1_search_52 ?_
        refine v_iconst (v := 1) dX1_search_53 (by decide) ?_
        refine v_ishr dX1_search_54 ?_
        refine v_istore (i := 5) dX1_search_55 (by decide) (nlT rfl) ?_
        simp only [List.set_cons_zero, List.set_cons_succ]
        refine v_aload_n (i := 0) dX1_search_57 rfl rfl ?_
        refine g_X1_18 (q := 210) rfl sh_207 (by exact ltG hG (by decide)) (by exact rG hG r0_207_3) dX1_search_58 ?_
        refine v_iload (i := 4) dX1_search_61 rfl ?_
        obtain ⟨k4, hF⟩ := ck_some hF
        refine v_iaload sh_210 (by exact ltG hG (by decide)) (ixO k4) dX1_search_63 ?_
        refine v_iconst (v := 2) dX1_search_64 (by decide) ?_
        refine v_iload_n (i := 3) dX1_search_65 rfl rfl ?_
        refine v_imul dX1_search_66 ?_
        refine v_icmp_ne 72 dX1_search_67 (by decide) (fun c5 => ?_) (fun c5 => ?_)
        · rw [if_neg c5] at hF
          refine v_aload_n (i := 0) dX1_search_72 rfl rfl ?_
          refine g_X1_18 (q := 210) rfl sh_207 (by exact ltG hG (by decide)) (by exact rG hG r0_207_3) dX1_search_73 ?_
          refine v_iload (i := 4) dX1_search_76 rfl ?_
          obtain ⟨k6, hF⟩ := ck_some hF
          refine v_iaload sh_210 (by exact ltG hG (by decide)) (ixO k6) dX1_search_78 ?_
          refine v_iconst (v := 1) dX1_search_79 (by decide) ?_
          refine v_iand dX1_search_80 ?_
          refine v_if_ne 93 dX1_search_81 (by decide) (fun c7 => ?_) (fun c7 => ?_)
          · rw [if_neg c7] at hF
            refine v_aload_n (i := 0) dX1_search_93 rfl rfl ?_
            refine v_iload (i := 5) dX1_search_94 rfl ?_
            refine v_iload_n (i := 1) dX1_search_96 rfl rfl ?_
            refine v_iconst (v := 1) dX1_search_97 (by decide) ?_
            refine v_iload_n (i := 2) dX1_search_98 rfl rfl ?_
            refine v_ishl dX1_search_99 ?_
            refine v_iconst (v := (-1)) dX1_search_100 (by decide) ?_
            refine v_ixor dX1_search_101 ?_
            refine v_iand dX1_search_102 ?_
            obtain ⟨q8, q8_e, hF⟩ := Option.bind_eq_some_iff.mp hF
            refine c_X1_50 rfl sh_207 (by exact ltG hG (by decide)) (Nat.le_of_ble_eq_true rfl) dX1_search_103 (s_X1_leadOnFromExit _ q8_e hG) (fun r1 h1 hq => ?_)
            obtain ⟨rfl, hq, hG⟩ := hq
            replace hq := hq.symm
            subst hq
            simp only [Option.toList, List.nil_append]
            refine v_iinc (i := 4) (v := (l4 + 1)) dX1_search_106 rfl rfl (by decide) (nlT rfl) ?_
            simp only [List.set_cons_zero, List.set_cons_succ]
            refine v_goto 30 dX1_search_109 (by decide) ?_
            refine V.weak (la2 := [some (.ref 207), some (.int l1), some (.int l2), some (.int l3), some (.int (l4 + 1)), none]) (by simp [wk]) ?_
            exact (s_X1_search_IH_30) _ _ _ _ _ _ _ hF hG
          · rw [if_pos c7] at hF
            refine v_aload_n (i := 0) dX1_search_84 rfl rfl ?_
            refine v_iload (i := 5) dX1_search_85 rfl ?_
            obtain ⟨q10, q10_e, hF⟩ := Option.bind_eq_some_iff.mp hF
            refine c_X1_46 rfl sh_207 (by exact ltG hG (by decide)) (Nat.le_of_ble_eq_true rfl) dX1_search_87 (s_X1_leadOnFromEntry _ q10_e hG) (fun r1 h1 hq => ?_)
            obtain ⟨rfl, hq, hG⟩ := hq
            replace hq := hq.symm
            subst hq
            simp only [Option.toList, List.nil_append]
            refine v_goto 106 dX1_search_90 (by decide) ?_
            refine v_iinc (i := 4) (v := (l4 + 1)) dX1_search_106 rfl rfl (by decide) (nlT rfl) ?_
            simp only [List.set_cons_zero, List.set_cons_succ]
            refine v_goto 30 dX1_search_109 (by decide) ?_
            refine V.weak (la2 := [some (.ref 207), some (.int l1), some (.int l2), some (.int l3), some (.int (l4 + 1)), none]) (by simp [wk]) ?_
            exact (s_X1_search_IH_30) _ _ _ _ _ _ _ hF hG
        · rw [if_pos c5] at hF
          refine v_iconst (v := 1) dX1_search_70 (by decide) ?_
          refine v_zreturn rfl (by decide) dX1_search_71 ?_
          obtain ⟨rfl, rfl⟩ := Prod.mk.inj (Option.some.inj hF)
          exact ⟨rfl, rfl, hG⟩
def F_X1_search (n : Nat) (h : Hp) (x1 : Int32) (x2 : Int32) (x3 : Int32) : Option (Int32 × Hp) := ((F_J7_fill_50 n h 209 (-1)).bind (fun q12 => ((F_X1_find n (wrI q12 207 4 0) ((2 * x2) + 1) ((2 * x2) + 1)).bind (fun q14 => W_X1_search n 30 q14  x1 x2 x3 0))))
set_option maxRecDepth 100000 in
set_option maxHeartbeats 4000000 in
theorem s_X1_search (d : Nat) {n : Nat} {h : Hp} {x1 : Int32} {x2 : Int32} {x3 : Int32} {q0 : (Int32 × Hp)} (hF : F_X1_search n h x1 x2 x3 = some q0) (hG : G h)  : Kc mX1_search (d + 2) [.ref 207, .int x1, .int x2, .int x3] h (fun r1 h1 => r1 = some (.int q0.1) ∧ h1 = q0.2 ∧ G q0.2) := by
  obtain ⟨r, h'⟩ := q0
  have s_X1_search_IH_30 := sw_X1_search d   n
  unfold F_X1_search at hF
  refine Kc.of [some (.ref 207), some (.int x1), some (.int x2), some (.int x3), none, none] ok_X1_search rfl (Nat.le_of_ble_eq_true rfl) ?_
  refine v_aload_n (i := 0) dX1_search_0 rfl rfl ?_
  refine g_X1_15 (q := 209) rfl sh_207 (by exact ltG hG (by decide)) (by exact rG hG r0_207_2) dX1_search_1 ?_
  refine v_iconst (v := (-1)) dX1_search_4 (by decide) ?_
  obtain ⟨q12, q12_e, hF⟩ := Option.bind_eq_some_iff.mp hF
  refine c_X1_29 rfl (Nat.le_of_ble_eq_true rfl) dX1_search_5 (s_J7_fill_50 _ q12_e hG (by first | assumption | exact sc_30 | exact sc_34 | exact sc_10 | exact fd_24 | exact fd_4 | exact lw_25 | exact lw_5 | exact bd_23 | exact bd_3 | exact ⟨by first | assumption | rfl, by first | decide | omega⟩)) (fun r1 h1 hq => ?_)
  obtain ⟨rfl, hq, hG⟩ := hq
  replace hq := hq.symm
  subst hq
  simp only [Option.toList, List.nil_append]
  refine v_aload_n (i := 0) dX1_search_8 rfl rfl ?_
  refine v_iconst (v := 0) dX1_search_9 (by decide) ?_
  refine p_X1_21 rfl sh_207 (by exact ltG hG (by decide)) dX1_search_10 ?_
  refine v_aload_n (i := 0) dX1_search_13 rfl rfl ?_
  refine v_iconst (v := 2) dX1_search_14 (by decide) ?_
  refine v_iload_n (i := 2) dX1_search_15 rfl rfl ?_
  refine v_imul dX1_search_16 ?_
  refine v_iconst (v := 1) dX1_search_17 (by decide) ?_
  refine v_iadd dX1_search_18 ?_
  refine v_iconst (v := 2) dX1_search_19 (by decide) ?_
  refine v_iload_n (i := 2) dX1_search_20 rfl rfl ?_
  refine v_imul dX1_search_21 ?_
  refine v_iconst (v := 1) dX1_search_22 (by decide) ?_
  refine v_iadd dX1_search_23 ?_
  obtain ⟨q14, q14_e, hF⟩ := Option.bind_eq_some_iff.mp hF
  refine c_X1_43 rfl sh_207 (by exact ltG hG (by decide)) (Nat.le_of_ble_eq_true rfl) dX1_search_24 (s_X1_find _ q14_e hG) (fun r1 h1 hq => ?_)
  obtain ⟨rfl, hq, hG⟩ := hq
  replace hq := hq.symm
  subst hq
  simp only [Option.toList, List.nil_append]
  refine v_iconst (v := 0) dX1_search_27 (by decide) ?_
  refine v_istore (i := 4) dX1_search_28 (by decide) (nlT rfl) ?_
  simp only [List.set_cons_zero, List.set_cons_succ]
  refine V.weak (la2 := [some (.ref 207), some (.int x1), some (.int x2), some (.int x3), some (.int 0), none]) (by simp [wk]) ?_
  exact (s_X1_search_IH_30) _ _ _ _ _ _ _ hF hG
def W_X2_bestTime : Nat → Nat → Hp → Int32 → Int32 → Int32 → Int32 → Option (Int32 × Hp)
  | 0 => fun _ _ _ _ _ _ => none
  | n + 1 => fun hd h l0 l1 l2 l3 => (if hd = 12 then (if (60 : Int32) ≤ (l3 : Int32) then some (l1, h) else (if (l0 : Int32) = 0 then some (l1, h) else ((F_X2_soundingAt n h l3).bind (fun q3 => ((F_J6_bitCount_0f7a4 n q3.2 ((l0 : Int32) &&& (q3.1 : Int32))).bind (fun q5 => ((F_J6_bitCount_0f7a4 n q5.2 ((l0 : Int32) &&& (((q3.1 : Int32) ^^^ ((-1) : Int32)) : Int32))).bind (fun q7 => (if (l2 : Int32) ≤ ((if q5.1 < q7.1 then q7.1 else q5.1) : Int32) then W_X2_bestTime n 12 q7.2  l0 l1 l2 (l3 + 1) else W_X2_bestTime n 12 q7.2  l0 l3 (if q5.1 < q7.1 then q7.1 else q5.1) (l3 + 1)))))))))) else none)
set_option maxRecDepth 100000 in
set_option maxHeartbeats 4000000 in
theorem sw_X2_bestTime (d : Nat)  (n : Nat) : (∀ (l0 : Int32) (l1 : Int32) (l2 : Int32) (l3 : Int32) (h : Hp), ∀ (r : Int32) (h' : Hp), W_X2_bestTime n 12 h  l0 l1 l2 l3 = some (r, h') → G h → V mX2_bestTime (d + 1) 12 [some (.int l0), some (.int l1), some (.int l2), some (.int l3), none, none] [] h (fun r1 h1 => r1 = some (.int r) ∧ h1 = h' ∧ G h')) := by
  induction n with
  | zero => exact by intros; contradiction
  | succ n ih =>
    have s_X2_bestTime_IH_12 := ih
    intro l0 l1 l2 l3 h r h' hF hG
    unfold W_X2_bestTime at hF
    rw [if_pos rfl] at hF
    refine v_iload_n (i := 3) dX2_bestTime_12 rfl rfl ?_
    refine v_bipush (v := 60) dX2_bestTime_13 (by decide) ?_
    refine v_icmp_ge 66 dX2_bestTime_15 (by decide) (fun c1 => ?_) (fun c1 => ?_)
    · rw [if_pos c1] at hF
      refine v_iload_n (i := 1) dX2_bestTime_66 rfl rfl ?_
      refine v_ireturn rfl dX2_bestTime_67 ?_
      obtain ⟨rfl, rfl⟩ := Prod.mk.inj (Option.some.inj hF)
      exact ⟨rfl, rfl, hG⟩
    · rw [if_neg c1] at hF
      refine v_iload_n (i := 0) dX2_bestTime_18 rfl rfl ?_
      refine v_if_eq 66 dX2_bestTime_19 (by decide) (fun c2 => ?_) (fun c2 => ?_)
      · rw [if_pos c2] at hF
        refine v_iload_n (i := 1) dX2_bestTime_66 rfl rfl ?_
        refine v_ireturn rfl dX2_bestTime_67 ?_
        obtain ⟨rfl, rfl⟩ := Prod.mk.inj (Option.some.inj hF)
        exact ⟨rfl, rfl, hG⟩
      · rw [if_neg c2] at hF
        refine v_iload_n (i := 3) dX2_bestTime_22 rfl rfl ?_
        obtain ⟨q3, q3_e, hF⟩ := Option.bind_eq_some_iff.mp hF
        refine c_X2_24 rfl (Nat.le_of_ble_eq_true rfl) dX2_bestTime_23 (s_X2_soundingAt _ q3_e hG) (fun r1 h1 hq => ?_)
        obtain ⟨rfl, hq, hG⟩ := hq
        replace hq := hq.symm
        subst hq
        show V _ _ _ _ (_ :: _) _ _
        refine v_istore (i := 4) dX2_bestTime_26 (by decide) (nlT rfl) ?_
        simp only [List.set_cons_zero, List.set_cons_succ]
        refine v_iload_n (i := 0) dX2_bestTime_28 rfl rfl ?_
        refine v_iload (i := 4) dX2_bestTime_29 rfl ?_
        refine v_iand dX2_bestTime_31 ?_
        obtain ⟨q5, q5_e, hF⟩ := Option.bind_eq_some_iff.mp hF
        refine c_X2_31 rfl (Nat.le_of_ble_eq_true rfl) dX2_bestTime_32 (s_J6_bitCount_0f7a4 _ q5_e hG) (fun r1 h1 hq => ?_)
        obtain ⟨rfl, hq, hG⟩ := hq
        replace hq := hq.symm
        subst hq
        show V _ _ _ _ (_ :: _) _ _
        refine v_iload_n (i := 0) dX2_bestTime_35 rfl rfl ?_
        refine v_iload (i := 4) dX2_bestTime_36 rfl ?_
        refine v_iconst (v := (-1)) dX2_bestTime_38 (by decide) ?_
        refine v_ixor dX2_bestTime_39 ?_
        refine v_iand dX2_bestTime_40 ?_
        obtain ⟨q7, q7_e, hF⟩ := Option.bind_eq_some_iff.mp hF
        refine c_X2_31 rfl (Nat.le_of_ble_eq_true rfl) dX2_bestTime_41 (s_J6_bitCount_0f7a4 _ q7_e hG) (fun r1 h1 hq => ?_)
        obtain ⟨rfl, hq, hG⟩ := hq
        replace hq := hq.symm
        subst hq
        show V _ _ _ _ (_ :: _) _ _
        refine v_max ml_X2_36 sm_J9_max_7cf53 in_J9 cw_J9_max_7cf53 (Nat.le_of_ble_eq_true rfl) dX2_bestTime_44 ?_
        refine v_istore (i := 5) dX2_bestTime_47 (by decide) (nlT rfl) ?_
        simp only [List.set_cons_zero, List.set_cons_succ]
        refine v_iload (i := 5) dX2_bestTime_49 rfl ?_
        refine v_iload_n (i := 2) dX2_bestTime_51 rfl rfl ?_
        refine v_icmp_ge 60 dX2_bestTime_52 (by decide) (fun c9 => ?_) (fun c9 => ?_)
        · rw [if_pos c9] at hF
          refine v_iinc (i := 3) (v := (l3 + 1)) dX2_bestTime_60 rfl rfl (by decide) (nlT rfl) ?_
          simp only [List.set_cons_zero, List.set_cons_succ]
          refine v_goto 12 dX2_bestTime_63 (by decide) ?_
          refine V.weak (la2 := [some (.int l0), some (.int l1), some (.int l2), some (.int (l3 + 1)), none, none]) (by simp [wk]) ?_
          exact (s_X2_bestTime_IH_12) _ _ _ _ _ _ _ hF hG
        · rw [if_neg c9] at hF
          refine v_iload (i := 5) dX2_bestTime_55 rfl ?_
          refine v_istore_n (i := 2) dX2_bestTime_57 rfl (by decide) (nlT rfl) ?_
          simp only [List.set_cons_zero, List.set_cons_succ]
          refine v_iload_n (i := 3) dX2_bestTime_58 rfl rfl ?_
          refine v_istore_n (i := 1) dX2_bestTime_59 rfl (by decide) (nlT rfl) ?_
          simp only [List.set_cons_zero, List.set_cons_succ]
          refine v_iinc (i := 3) (v := (l3 + 1)) dX2_bestTime_60 rfl rfl (by decide) (nlT rfl) ?_
          simp only [List.set_cons_zero, List.set_cons_succ]
          refine v_goto 12 dX2_bestTime_63 (by decide) ?_
          refine V.weak (la2 := [some (.int l0), some (.int l3), some (.int (if q5.1 < q7.1 then q7.1 else q5.1)), some (.int (l3 + 1)), none, none]) (by simp [wk]) ?_
          exact (s_X2_bestTime_IH_12) _ _ _ _ _ _ _ hF hG
def F_X2_bestTime (n : Nat) (h : Hp) (x1 : Int32) : Option (Int32 × Hp) := ((F_J6_bitCount_0f7a4 n h x1).bind (fun q10 => W_X2_bestTime n 12 q10.2  x1 (-2) (q10.1 + 1) 0))
set_option maxRecDepth 100000 in
set_option maxHeartbeats 4000000 in
theorem s_X2_bestTime (d : Nat) {n : Nat} {h : Hp} {x1 : Int32} {q0 : (Int32 × Hp)} (hF : F_X2_bestTime n h x1 = some q0) (hG : G h)  : Kc mX2_bestTime (d + 1) [.int x1] h (fun r1 h1 => r1 = some (.int q0.1) ∧ h1 = q0.2 ∧ G q0.2) := by
  obtain ⟨r, h'⟩ := q0
  have s_X2_bestTime_IH_12 := sw_X2_bestTime d   n
  unfold F_X2_bestTime at hF
  refine Kc.of [some (.int x1), none, none, none, none, none] ok_X2_bestTime rfl (Nat.le_of_ble_eq_true rfl) ?_
  refine v_bipush (v := (-2)) dX2_bestTime_0 (by decide) ?_
  refine v_istore_n (i := 1) dX2_bestTime_2 rfl (by decide) (nlT rfl) ?_
  simp only [List.set_cons_zero, List.set_cons_succ]
  refine v_iload_n (i := 0) dX2_bestTime_3 rfl rfl ?_
  obtain ⟨q10, q10_e, hF⟩ := Option.bind_eq_some_iff.mp hF
  refine c_X2_31 rfl (Nat.le_of_ble_eq_true rfl) dX2_bestTime_4 (s_J6_bitCount_0f7a4 _ q10_e hG) (fun r1 h1 hq => ?_)
  obtain ⟨rfl, hq, hG⟩ := hq
  replace hq := hq.symm
  subst hq
  show V _ _ _ _ (_ :: _) _ _
  refine v_iconst (v := 1) dX2_bestTime_7 (by decide) ?_
  refine v_iadd dX2_bestTime_8 ?_
  refine v_istore_n (i := 2) dX2_bestTime_9 rfl (by decide) (nlT rfl) ?_
  simp only [List.set_cons_zero, List.set_cons_succ]
  refine v_iconst (v := 0) dX2_bestTime_10 (by decide) ?_
  refine v_istore_n (i := 3) dX2_bestTime_11 rfl (by decide) (nlT rfl) ?_
  simp only [List.set_cons_zero, List.set_cons_succ]
  refine V.weak (la2 := [some (.int x1), some (.int (-2)), some (.int (q10.1 + 1)), some (.int 0), none, none]) (by simp [wk]) ?_
  exact (s_X2_bestTime_IH_12) _ _ _ _ _ _ _ hF hG
def W_X2_fitting : Nat → Nat → Hp → Int32 → Int32 → Int32 → Option (Int32 × Hp)
  | 0 => fun _ _ _ _ _ => none
  | n + 1 => fun hd h l1 l2 l3 => (if hd = 5 then (if (l1 : Int32) ≤ (l3 : Int32) then some (l2, h) else (if ((hi h 201 2) : Int32) ≤ (l3 : Int32) then some (l2, h) else (if (20 : Int32) ≤ (l3 : Int32) then some (l2, h) else (if ixOK l3 20 = true then ((F_X2_soundingAt n h (vp_nar .byte (hi h 202 (Int32.toNatClampNeg l3)))).bind (fun q5 => (if ixOK l3 20 = true then (if ((vp_nar .boolean (hi q5.2 203 (Int32.toNatClampNeg l3))) : Int32) = 0 then W_X2_fitting n 5 q5.2  l1 ((l2 : Int32) &&& (((q5.1 : Int32) ^^^ ((-1) : Int32)) : Int32)) (l3 + 1) else W_X2_fitting n 5 q5.2  l1 ((l2 : Int32) &&& (q5.1 : Int32)) (l3 + 1)) else none))) else none)))) else none)
set_option maxRecDepth 100000 in
set_option maxHeartbeats 4000000 in
theorem sw_X2_fitting (d : Nat)  (n : Nat) : (∀ (l1 : Int32) (l2 : Int32) (l3 : Int32) (h : Hp), ∀ (r : Int32) (h' : Hp), W_X2_fitting n 5 h  l1 l2 l3 = some (r, h') → G h → V mX2_fitting (d + 1) 5 [some (.ref 201), some (.int l1), some (.int l2), some (.int l3), none] [] h (fun r1 h1 => r1 = some (.int r) ∧ h1 = h' ∧ G h')) := by
  induction n with
  | zero => exact by intros; contradiction
  | succ n ih =>
    have s_X2_fitting_IH_5 := ih
    intro l1 l2 l3 h r h' hF hG
    unfold W_X2_fitting at hF
    rw [if_pos rfl] at hF
    refine v_iload_n (i := 3) dX2_fitting_5 rfl rfl ?_
    refine v_iload_n (i := 1) dX2_fitting_6 rfl rfl ?_
    refine v_icmp_ge 62 dX2_fitting_7 (by decide) (fun c1 => ?_) (fun c1 => ?_)
    · rw [if_pos c1] at hF
      refine v_iload_n (i := 2) dX2_fitting_62 rfl rfl ?_
      refine v_ireturn rfl dX2_fitting_63 ?_
      obtain ⟨rfl, rfl⟩ := Prod.mk.inj (Option.some.inj hF)
      exact ⟨rfl, rfl, hG⟩
    · rw [if_neg c1] at hF
      refine v_iload_n (i := 3) dX2_fitting_10 rfl rfl ?_
      refine v_aload_n (i := 0) dX2_fitting_11 rfl rfl ?_
      refine g_X2_19 rfl sh_201 (by exact ltG hG (by decide)) dX2_fitting_12 ?_
      refine v_icmp_ge 62 dX2_fitting_15 (by decide) (fun c2 => ?_) (fun c2 => ?_)
      · rw [if_pos c2] at hF
        refine v_iload_n (i := 2) dX2_fitting_62 rfl rfl ?_
        refine v_ireturn rfl dX2_fitting_63 ?_
        obtain ⟨rfl, rfl⟩ := Prod.mk.inj (Option.some.inj hF)
        exact ⟨rfl, rfl, hG⟩
      · rw [if_neg c2] at hF
        refine v_iload_n (i := 3) dX2_fitting_18 rfl rfl ?_
        refine v_bipush (v := 20) dX2_fitting_19 (by decide) ?_
        refine v_icmp_ge 62 dX2_fitting_21 (by decide) (fun c3 => ?_) (fun c3 => ?_)
        · rw [if_pos c3] at hF
          refine v_iload_n (i := 2) dX2_fitting_62 rfl rfl ?_
          refine v_ireturn rfl dX2_fitting_63 ?_
          obtain ⟨rfl, rfl⟩ := Prod.mk.inj (Option.some.inj hF)
          exact ⟨rfl, rfl, hG⟩
        · rw [if_neg c3] at hF
          refine v_aload_n (i := 0) dX2_fitting_24 rfl rfl ?_
          refine g_X2_9 (q := 202) rfl sh_201 (by exact ltG hG (by decide)) (by exact rG hG r0_201_0) dX2_fitting_25 ?_
          refine v_iload_n (i := 3) dX2_fitting_28 rfl rfl ?_
          obtain ⟨k4, hF⟩ := ck_some hF
          refine v_baload sh_202 (by exact ltG hG (by decide)) (ixO k4) dX2_fitting_29 ?_
          obtain ⟨q5, q5_e, hF⟩ := Option.bind_eq_some_iff.mp hF
          refine c_X2_24 rfl (Nat.le_of_ble_eq_true rfl) dX2_fitting_30 (s_X2_soundingAt _ q5_e hG) (fun r1 h1 hq => ?_)
          obtain ⟨rfl, hq, hG⟩ := hq
          replace hq := hq.symm
          subst hq
          show V _ _ _ _ (_ :: _) _ _
          refine v_istore (i := 4) dX2_fitting_33 (by decide) (nlT rfl) ?_
          simp only [List.set_cons_zero, List.set_cons_succ]
          refine v_iload_n (i := 2) dX2_fitting_35 rfl rfl ?_
          refine v_aload_n (i := 0) dX2_fitting_36 rfl rfl ?_
          refine g_X2_15 (q := 203) rfl sh_201 (by exact ltG hG (by decide)) (by exact rG hG r0_201_1) dX2_fitting_37 ?_
          refine v_iload_n (i := 3) dX2_fitting_40 rfl rfl ?_
          obtain ⟨k7, hF⟩ := ck_some hF
          refine v_zaload sh_203 (by exact ltG hG (by decide)) (ixO k7) dX2_fitting_41 ?_
          refine v_if_eq 50 dX2_fitting_42 (by decide) (fun c8 => ?_) (fun c8 => ?_)
          · rw [if_pos c8] at hF
            refine v_iload (i := 4) dX2_fitting_50 rfl ?_
            refine v_iconst (v := (-1)) dX2_fitting_52 (by decide) ?_
            refine v_ixor dX2_fitting_53 ?_
            refine v_iand dX2_fitting_54 ?_
            refine v_istore_n (i := 2) dX2_fitting_55 rfl (by decide) (nlT rfl) ?_
            simp only [List.set_cons_zero, List.set_cons_succ]
            refine v_iinc (i := 3) (v := (l3 + 1)) dX2_fitting_56 rfl rfl (by decide) (nlT rfl) ?_
            simp only [List.set_cons_zero, List.set_cons_succ]
            refine v_goto 5 dX2_fitting_59 (by decide) ?_
            refine V.weak (la2 := [some (.ref 201), some (.int l1), some (.int ((l2 : Int32) &&& (((q5.1 : Int32) ^^^ ((-1) : Int32)) : Int32))), some (.int (l3 + 1)), none]) (by simp [wk]) ?_
            exact (s_X2_fitting_IH_5) _ _ _ _ _ _ hF hG
          · rw [if_neg c8] at hF
            refine v_iload (i := 4) dX2_fitting_45 rfl ?_
            refine v_goto 54 dX2_fitting_47 (by decide) ?_
            refine v_iand dX2_fitting_54 ?_
            refine v_istore_n (i := 2) dX2_fitting_55 rfl (by decide) (nlT rfl) ?_
            simp only [List.set_cons_zero, List.set_cons_succ]
            refine v_iinc (i := 3) (v := (l3 + 1)) dX2_fitting_56 rfl rfl (by decide) (nlT rfl) ?_
            simp only [List.set_cons_zero, List.set_cons_succ]
            refine v_goto 5 dX2_fitting_59 (by decide) ?_
            refine V.weak (la2 := [some (.ref 201), some (.int l1), some (.int ((l2 : Int32) &&& (q5.1 : Int32))), some (.int (l3 + 1)), none]) (by simp [wk]) ?_
            exact (s_X2_fitting_IH_5) _ _ _ _ _ _ hF hG
def F_X2_fitting (n : Nat) (h : Hp) (x1 : Int32) : Option (Int32 × Hp) := W_X2_fitting n 5 h  x1 1048575 0
set_option maxRecDepth 100000 in
set_option maxHeartbeats 4000000 in
theorem s_X2_fitting (d : Nat) {n : Nat} {h : Hp} {x1 : Int32} {q0 : (Int32 × Hp)} (hF : F_X2_fitting n h x1 = some q0) (hG : G h)  : Kc mX2_fitting (d + 1) [.ref 201, .int x1] h (fun r1 h1 => r1 = some (.int q0.1) ∧ h1 = q0.2 ∧ G q0.2) := by
  obtain ⟨r, h'⟩ := q0
  have s_X2_fitting_IH_5 := sw_X2_fitting d   n
  unfold F_X2_fitting at hF
  refine Kc.of [some (.ref 201), some (.int x1), none, none, none] ok_X2_fitting rfl (Nat.le_of_ble_eq_true rfl) ?_
  refine v_ldc (1048575) kc_X2_23 dX2_fitting_0 ?_
  refine v_istore_n (i := 2) dX2_fitting_2 rfl (by decide) (nlT rfl) ?_
  simp only [List.set_cons_zero, List.set_cons_succ]
  refine v_iconst (v := 0) dX2_fitting_3 (by decide) ?_
  refine v_istore_n (i := 3) dX2_fitting_4 rfl (by decide) (nlT rfl) ?_
  simp only [List.set_cons_zero, List.set_cons_succ]
  refine V.weak (la2 := [some (.ref 201), some (.int x1), some (.int 1048575), some (.int 0), none]) (by simp [wk]) ?_
  exact (s_X2_fitting_IH_5) _ _ _ _ _ _ hF hG
def F_X3_beside (n : Nat) (h : Hp) (a : Nat) (x1 : Int32) (x2 : Int32) : Option (Int32 × Hp) := ((F_X3_leftOf n h a x1).bind (fun q1 => ((F_X3_topOf n q1.2 a x1).bind (fun q3 => (if x2 = 1 then (if ((hi q3.2 a 0) : Int32) ≤ ((q1.1 + 1) : Int32) then some (x1, q3.2) else some ((x1 + 1), q3.2)) else (if x2 = 2 then (if ((hi q3.2 a 1) : Int32) ≤ ((q3.1 + 1) : Int32) then some (x1, q3.2) else some ((x1 + (hi q3.2 a 0)), q3.2)) else (if x2 = 3 then (if (q1.1 : Int32) ≤ 0 then some (x1, q3.2) else some ((x1 - 1), q3.2)) else (if x2 = 4 then (if (q3.1 : Int32) ≤ 0 then some (x1, q3.2) else some ((x1 - (hi q3.2 a 0)), q3.2)) else some (x1, q3.2)))))))))
set_option maxRecDepth 100000 in
set_option maxHeartbeats 4000000 in
theorem s_X3_beside (d : Nat) {n : Nat} {h : Hp} {a : Nat} {x1 : Int32} {x2 : Int32} {q0 : (Int32 × Hp)} (hF : F_X3_beside n h a x1 x2 = some q0) (hG : G h) (hs : IsFd a) : Kc mX3_beside (d + 1) [.ref a, .int x1, .int x2] h (fun r1 h1 => r1 = some (.int q0.1) ∧ h1 = q0.2 ∧ G q0.2) := by
  obtain ⟨s0, s4⟩ := id hs
  obtain ⟨r, h'⟩ := q0
  unfold F_X3_beside at hF
  refine Kc.of [some (.ref a), some (.int x1), some (.int x2), none, none] ok_X3_beside rfl (Nat.le_of_ble_eq_true rfl) ?_
  refine v_aload_n (i := 0) dX3_beside_0 rfl rfl ?_
  refine v_iload_n (i := 1) dX3_beside_1 rfl rfl ?_
  obtain ⟨q1, q1_e, hF⟩ := Option.bind_eq_some_iff.mp hF
  refine c_X3_24 rfl s0 (by exact ltG hG (by omega)) (Nat.le_of_ble_eq_true rfl) dX3_beside_2 (s_X3_leftOf _ q1_e hG (by first | assumption | exact sc_30 | exact sc_34 | exact sc_10 | exact fd_24 | exact fd_4 | exact lw_25 | exact lw_5 | exact bd_23 | exact bd_3 | exact ⟨by first | assumption | rfl, by first | decide | omega⟩)) (fun r1 h1 hq => ?_)
  obtain ⟨rfl, hq, hG⟩ := hq
  replace hq := hq.symm
  subst hq
  show V _ _ _ _ (_ :: _) _ _
  refine v_istore_n (i := 3) dX3_beside_5 rfl (by decide) (nlT rfl) ?_
  simp only [List.set_cons_zero, List.set_cons_succ]
  refine v_aload_n (i := 0) dX3_beside_6 rfl rfl ?_
  refine v_iload_n (i := 1) dX3_beside_7 rfl rfl ?_
  obtain ⟨q3, q3_e, hF⟩ := Option.bind_eq_some_iff.mp hF
  refine c_X3_28 rfl s0 (by exact ltG hG (by omega)) (Nat.le_of_ble_eq_true rfl) dX3_beside_8 (s_X3_topOf _ q3_e hG (by first | assumption | exact sc_30 | exact sc_34 | exact sc_10 | exact fd_24 | exact fd_4 | exact lw_25 | exact lw_5 | exact bd_23 | exact bd_3 | exact ⟨by first | assumption | rfl, by first | decide | omega⟩)) (fun r1 h1 hq => ?_)
  obtain ⟨rfl, hq, hG⟩ := hq
  replace hq := hq.symm
  subst hq
  show V _ _ _ _ (_ :: _) _ _
  refine v_istore (i := 4) dX3_beside_11 (by decide) (nlT rfl) ?_
  simp only [List.set_cons_zero, List.set_cons_succ]
  refine v_iload_n (i := 2) dX3_beside_13 rfl rfl ?_
  by_cases c5 : x2 = 1
  · rw [if_pos c5] at hF
    refine v_tableIn (off := 30) 44 dX3_beside_14 (by rw [c5]; decide) (by rw [c5]; decide) (by rw [c5]; decide +kernel) (by decide) ?_
    refine v_iload_n (i := 3) dX3_beside_44 rfl rfl ?_
    refine v_iconst (v := 1) dX3_beside_45 (by decide) ?_
    refine v_iadd dX3_beside_46 ?_
    refine v_aload_n (i := 0) dX3_beside_47 rfl rfl ?_
    refine g_X3_9 rfl s0 (by exact ltG hG (by omega)) dX3_beside_48 ?_
    refine v_icmp_ge 60 dX3_beside_51 (by decide) (fun c6 => ?_) (fun c6 => ?_)
    · rw [if_pos c6] at hF
      refine v_iload_n (i := 1) dX3_beside_60 rfl rfl ?_
      refine v_ireturn rfl dX3_beside_61 ?_
      obtain ⟨rfl, rfl⟩ := Prod.mk.inj (Option.some.inj hF)
      exact ⟨rfl, rfl, hG⟩
    · rw [if_neg c6] at hF
      refine v_iload_n (i := 1) dX3_beside_54 rfl rfl ?_
      refine v_iconst (v := 1) dX3_beside_55 (by decide) ?_
      refine v_iadd dX3_beside_56 ?_
      refine v_goto 61 dX3_beside_57 (by decide) ?_
      refine v_ireturn rfl dX3_beside_61 ?_
      obtain ⟨rfl, rfl⟩ := Prod.mk.inj (Option.some.inj hF)
      exact ⟨rfl, rfl, hG⟩
  rw [if_neg c5] at hF
  by_cases c7 : x2 = 2
  · rw [if_pos c7] at hF
    refine v_tableIn (off := 48) 62 dX3_beside_14 (by rw [c7]; decide) (by rw [c7]; decide) (by rw [c7]; decide +kernel) (by decide) ?_
    refine v_iload (i := 4) dX3_beside_62 rfl ?_
    refine v_iconst (v := 1) dX3_beside_64 (by decide) ?_
    refine v_iadd dX3_beside_65 ?_
    refine v_aload_n (i := 0) dX3_beside_66 rfl rfl ?_
    refine g_X3_15 rfl s0 (by exact ltG hG (by omega)) dX3_beside_67 ?_
    refine v_icmp_ge 82 dX3_beside_70 (by decide) (fun c8 => ?_) (fun c8 => ?_)
    · rw [if_pos c8] at hF
      refine v_iload_n (i := 1) dX3_beside_82 rfl rfl ?_
      refine v_ireturn rfl dX3_beside_83 ?_
      obtain ⟨rfl, rfl⟩ := Prod.mk.inj (Option.some.inj hF)
      exact ⟨rfl, rfl, hG⟩
    · rw [if_neg c8] at hF
      refine v_iload_n (i := 1) dX3_beside_73 rfl rfl ?_
      refine v_aload_n (i := 0) dX3_beside_74 rfl rfl ?_
      refine g_X3_9 rfl s0 (by exact ltG hG (by omega)) dX3_beside_75 ?_
      refine v_iadd dX3_beside_78 ?_
      refine v_goto 83 dX3_beside_79 (by decide) ?_
      refine v_ireturn rfl dX3_beside_83 ?_
      obtain ⟨rfl, rfl⟩ := Prod.mk.inj (Option.some.inj hF)
      exact ⟨rfl, rfl, hG⟩
  rw [if_neg c7] at hF
  by_cases c9 : x2 = 3
  · rw [if_pos c9] at hF
    refine v_tableIn (off := 70) 84 dX3_beside_14 (by rw [c9]; decide) (by rw [c9]; decide) (by rw [c9]; decide +kernel) (by decide) ?_
    refine v_iload_n (i := 3) dX3_beside_84 rfl rfl ?_
    refine v_if_le 94 dX3_beside_85 (by decide) (fun c10 => ?_) (fun c10 => ?_)
    · rw [if_pos c10] at hF
      refine v_iload_n (i := 1) dX3_beside_94 rfl rfl ?_
      refine v_ireturn rfl dX3_beside_95 ?_
      obtain ⟨rfl, rfl⟩ := Prod.mk.inj (Option.some.inj hF)
      exact ⟨rfl, rfl, hG⟩
    · rw [if_neg c10] at hF
      refine v_iload_n (i := 1) dX3_beside_88 rfl rfl ?_
      refine v_iconst (v := 1) dX3_beside_89 (by decide) ?_
      refine v_isub dX3_beside_90 ?_
      refine v_goto 95 dX3_beside_91 (by decide) ?_
      refine v_ireturn rfl dX3_beside_95 ?_
      obtain ⟨rfl, rfl⟩ := Prod.mk.inj (Option.some.inj hF)
      exact ⟨rfl, rfl, hG⟩
  rw [if_neg c9] at hF
  by_cases c11 : x2 = 4
  · rw [if_pos c11] at hF
    refine v_tableIn (off := 82) 96 dX3_beside_14 (by rw [c11]; decide) (by rw [c11]; decide) (by rw [c11]; decide +kernel) (by decide) ?_
    refine v_iload (i := 4) dX3_beside_96 rfl ?_
    refine v_if_le 110 dX3_beside_98 (by decide) (fun c12 => ?_) (fun c12 => ?_)
    · rw [if_pos c12] at hF
      refine v_iload_n (i := 1) dX3_beside_110 rfl rfl ?_
      refine v_ireturn rfl dX3_beside_111 ?_
      obtain ⟨rfl, rfl⟩ := Prod.mk.inj (Option.some.inj hF)
      exact ⟨rfl, rfl, hG⟩
    · rw [if_neg c12] at hF
      refine v_iload_n (i := 1) dX3_beside_101 rfl rfl ?_
      refine v_aload_n (i := 0) dX3_beside_102 rfl rfl ?_
      refine g_X3_9 rfl s0 (by exact ltG hG (by omega)) dX3_beside_103 ?_
      refine v_isub dX3_beside_106 ?_
      refine v_goto 111 dX3_beside_107 (by decide) ?_
      refine v_ireturn rfl dX3_beside_111 ?_
      obtain ⟨rfl, rfl⟩ := Prod.mk.inj (Option.some.inj hF)
      exact ⟨rfl, rfl, hG⟩
  rw [if_neg c11] at hF
  have e_c5 : ¬ (x2 : Int32).toInt = 1 := fun q => c5 (Int32.toInt_inj.mp (q.trans (by decide)))
  have e_c7 : ¬ (x2 : Int32).toInt = 2 := fun q => c7 (Int32.toInt_inj.mp (q.trans (by decide)))
  have e_c9 : ¬ (x2 : Int32).toInt = 3 := fun q => c9 (Int32.toInt_inj.mp (q.trans (by decide)))
  have e_c11 : ¬ (x2 : Int32).toInt = 4 := fun q => c11 (Int32.toInt_inj.mp (q.trans (by decide)))
  refine v_tableOut 112 dX3_beside_14 (by omega) (by decide) ?_
  refine v_iload_n (i := 1) dX3_beside_112 rfl rfl ?_
  refine v_ireturn rfl dX3_beside_113 ?_
  obtain ⟨rfl, rfl⟩ := Prod.mk.inj (Option.some.inj hF)
  exact ⟨rfl, rfl, hG⟩
def W_X3_farthest : Nat → Nat → Hp → Nat → Int32 → Int32 → Int32 → Int32 → Option (Int32 × Hp)
  | 0 => fun _ _ _ _ _ _ _ => none
  | n + 1 => fun hd h a l1 l2 l3 l4 => (if hd = 7 then (if (25 : Int32) ≤ (l4 : Int32) then some (25, h) else (if (((l2 : Int32) &&& (((l3 : Int32) ^^^ ((-1) : Int32)) : Int32)) : Int32) = 0 then some (l4, h) else ((F_X3_grown n h a l3).bind (fun q3 => W_X3_farthest n 7 q3.2 a l1 l2 ((l3 : Int32) ||| (((q3.1 : Int32) &&& (l2 : Int32)) : Int32)) (l4 + 1))))) else none)
set_option maxRecDepth 100000 in
set_option maxHeartbeats 4000000 in
theorem sw_X3_farthest (d : Nat) (a : Nat) (hs : IsFd a) (n : Nat) : (∀ (l1 : Int32) (l2 : Int32) (l3 : Int32) (l4 : Int32) (h : Hp), ∀ (r : Int32) (h' : Hp), W_X3_farthest n 7 h a l1 l2 l3 l4 = some (r, h') → G h → V mX3_farthest (d + 1) 7 [some (.ref a), some (.int l1), some (.int l2), some (.int l3), some (.int l4)] [] h (fun r1 h1 => r1 = some (.int r) ∧ h1 = h' ∧ G h')) := by
  obtain ⟨s0, s4⟩ := id hs
  induction n with
  | zero => exact by intros; contradiction
  | succ n ih =>
    have s_X3_farthest_IH_7 := ih
    intro l1 l2 l3 l4 h r h' hF hG
    unfold W_X3_farthest at hF
    rw [if_pos rfl] at hF
    refine v_iload (i := 4) dX3_farthest_7 rfl ?_
    refine v_bipush (v := 25) dX3_farthest_9 (by decide) ?_
    refine v_icmp_ge 41 dX3_farthest_11 (by decide) (fun c1 => ?_) (fun c1 => ?_)
    · rw [if_pos c1] at hF
      refine v_bipush (v := 25) dX3_farthest_41 (by decide) ?_
      refine v_ireturn rfl dX3_farthest_43 ?_
      obtain ⟨rfl, rfl⟩ := Prod.mk.inj (Option.some.inj hF)
      exact ⟨rfl, rfl, hG⟩
    · rw [if_neg c1] at hF
      refine v_iload_n (i := 2) dX3_farthest_14 rfl rfl ?_
      refine v_iload_n (i := 3) dX3_farthest_15 rfl rfl ?_
      refine v_iconst (v := (-1)) dX3_farthest_16 (by decide) ?_
      refine v_ixor dX3_farthest_17 ?_
      refine v_iand dX3_farthest_18 ?_
      refine v_if_ne 25 dX3_farthest_19 (by decide) (fun c2 => ?_) (fun c2 => ?_)
      · rw [if_neg c2] at hF
        refine v_iload_n (i := 3) dX3_farthest_25 rfl rfl ?_
        refine v_aload_n (i := 0) dX3_farthest_26 rfl rfl ?_
        refine v_iload_n (i := 3) dX3_farthest_27 rfl rfl ?_
        obtain ⟨q3, q3_e, hF⟩ := Option.bind_eq_some_iff.mp hF
        refine c_X3_31 rfl s0 (by exact ltG hG (by omega)) (Nat.le_of_ble_eq_true rfl) dX3_farthest_28 (s_X3_grown _ q3_e hG (by first | assumption | exact sc_30 | exact sc_34 | exact sc_10 | exact fd_24 | exact fd_4 | exact lw_25 | exact lw_5 | exact bd_23 | exact bd_3 | exact ⟨by first | assumption | rfl, by first | decide | omega⟩)) (fun r1 h1 hq => ?_)
        obtain ⟨rfl, hq, hG⟩ := hq
        replace hq := hq.symm
        subst hq
        show V _ _ _ _ (_ :: _) _ _
        refine v_iload_n (i := 2) dX3_farthest_31 rfl rfl ?_
        refine v_iand dX3_farthest_32 ?_
        refine v_ior dX3_farthest_33 ?_
        refine v_istore_n (i := 3) dX3_farthest_34 rfl (by decide) (nlT rfl) ?_
        simp only [List.set_cons_zero, List.set_cons_succ]
        refine v_iinc (i := 4) (v := (l4 + 1)) dX3_farthest_35 rfl rfl (by decide) (nlT rfl) ?_
        simp only [List.set_cons_zero, List.set_cons_succ]
        refine v_goto 7 dX3_farthest_38 (by decide) ?_
        refine V.weak (la2 := [some (.ref a), some (.int l1), some (.int l2), some (.int ((l3 : Int32) ||| (((q3.1 : Int32) &&& (l2 : Int32)) : Int32))), some (.int (l4 + 1))]) (by simp [wk]) ?_
        exact (s_X3_farthest_IH_7) _ _ _ _ _ _ _ hF hG
      · rw [if_pos c2] at hF
        refine v_iload (i := 4) dX3_farthest_22 rfl ?_
        refine v_ireturn rfl dX3_farthest_24 ?_
        obtain ⟨rfl, rfl⟩ := Prod.mk.inj (Option.some.inj hF)
        exact ⟨rfl, rfl, hG⟩
def F_X3_farthest (n : Nat) (h : Hp) (a : Nat) (x1 : Int32) (x2 : Int32) : Option (Int32 × Hp) := W_X3_farthest n 7 h a x1 x2 ((1 : Int32) <<< ((x1 : Int32) &&& 31)) 0
set_option maxRecDepth 100000 in
set_option maxHeartbeats 4000000 in
theorem s_X3_farthest (d : Nat) {n : Nat} {h : Hp} {a : Nat} {x1 : Int32} {x2 : Int32} {q0 : (Int32 × Hp)} (hF : F_X3_farthest n h a x1 x2 = some q0) (hG : G h) (hs : IsFd a) : Kc mX3_farthest (d + 1) [.ref a, .int x1, .int x2] h (fun r1 h1 => r1 = some (.int q0.1) ∧ h1 = q0.2 ∧ G q0.2) := by
  obtain ⟨s0, s4⟩ := id hs
  obtain ⟨r, h'⟩ := q0
  have s_X3_farthest_IH_7 := sw_X3_farthest d a hs n
  unfold F_X3_farthest at hF
  refine Kc.of [some (.ref a), some (.int x1), some (.int x2), none, none] ok_X3_farthest rfl (Nat.le_of_ble_eq_true rfl) ?_
  refine v_iconst (v := 1) dX3_farthest_0 (by decide) ?_
  refine v_iload_n (i := 1) dX3_farthest_1 rfl rfl ?_
  refine v_ishl dX3_farthest_2 ?_
  refine v_istore_n (i := 3) dX3_farthest_3 rfl (by decide) (nlT rfl) ?_
  simp only [List.set_cons_zero, List.set_cons_succ]
  refine v_iconst (v := 0) dX3_farthest_4 (by decide) ?_
  refine v_istore (i := 4) dX3_farthest_5 (by decide) (nlT rfl) ?_
  simp only [List.set_cons_zero, List.set_cons_succ]
  refine V.weak (la2 := [some (.ref a), some (.int x1), some (.int x2), some (.int ((1 : Int32) <<< ((x1 : Int32) &&& 31))), some (.int 0)]) (by simp [wk]) ?_
  exact (s_X3_farthest_IH_7) _ _ _ _ _ _ _ hF hG
def F_X6_keep (n : Nat) (h : Hp) (b1 : Nat) : Option Hp := (if ixOK (hi (wrI h 38 1 (((hi h 38 1) + 1) - ((hi h 38 1) + 1) / 40 * 40)) 38 1) 40 = true then ((F_X8_become n (wrI h 38 1 (((hi h 38 1) + 1) - ((hi h 38 1) + 1) / 40 * 40)) (40 + 4 * (Int32.toNatClampNeg (hi (wrI h 38 1 (((hi h 38 1) + 1) - ((hi h 38 1) + 1) / 40 * 40)) 38 1))) b1).bind (fun q2 => some (wrI q2 38 2 (if 40 < ((hi q2 38 2) + 1) then 40 else ((hi q2 38 2) + 1))))) else none)
set_option maxRecDepth 100000 in
set_option maxHeartbeats 4000000 in
theorem s_X6_keep (d : Nat) {n : Nat} {h : Hp} {b1 : Nat} {q0 : Hp} (hF : F_X6_keep n h b1 = some q0) (hG : G h) (ht1 : Sc b1) : Kc mX6_keep (d + 2) [.ref 38, .ref b1] h (fun r1 h1 => r1 = none ∧ h1 = q0 ∧ G q0) := by
  obtain ⟨t10, t11, t12, t13, t14, t15, t16, t17⟩ := id ht1
  obtain ⟨h', rfl⟩ : ∃ z, z = q0 := ⟨_, rfl⟩
  unfold F_X6_keep at hF
  refine Kc.of [some (.ref 38), some (.ref b1)] ok_X6_keep rfl (Nat.le_of_ble_eq_true rfl) ?_
  refine v_aload_n (i := 0) dX6_keep_0 rfl rfl ?_
  refine v_aload_n (i := 0) dX6_keep_1 rfl rfl ?_
  refine g_X6_17 rfl sh_38 (by exact ltG hG (by decide)) dX6_keep_2 ?_
  refine v_iconst (v := 1) dX6_keep_5 (by decide) ?_
  refine v_iadd dX6_keep_6 ?_
  refine v_bipush (v := 40) dX6_keep_7 (by decide) ?_
  refine v_irem dX6_keep_9 (by decide) ?_
  refine p_X6_17 rfl sh_38 (by exact ltG hG (by decide)) dX6_keep_10 ?_
  refine v_aload_n (i := 0) dX6_keep_13 rfl rfl ?_
  refine g_X6_11 (q := 39) rfl sh_38 (by exact ltG hG (by decide)) (by exact rG hG r0_38_0) dX6_keep_14 ?_
  refine v_aload_n (i := 0) dX6_keep_17 rfl rfl ?_
  refine g_X6_17 rfl sh_38 (by exact ltG hG (by decide)) dX6_keep_18 ?_
  obtain ⟨k1, hF⟩ := ck_some hF
  have hsc_k1 := scPast (ixO_lt k1)
  refine v_aaload (q := (40 + 4 * (Int32.toNatClampNeg (hi (wrI h 38 1 (((hi h 38 1) + 1) - ((hi h 38 1) + 1) / 40 * 40)) 38 1)))) sh_39 (by exact ltG hG (by decide)) (ixO k1) (rPast hG (ixO_lt k1)) dX6_keep_21 ?_
  refine v_aload_n (i := 1) dX6_keep_22 rfl rfl ?_
  obtain ⟨q2, q2_e, hF⟩ := Option.bind_eq_some_iff.mp hF
  refine c_X6_25 rfl hsc_k1.1 (by exact ltG hG (by have := hsc_k1.2.2.2.2.1; omega)) (Nat.le_of_ble_eq_true rfl) dX6_keep_23 (s_X8_become _ q2_e hG (by first | assumption | exact sc_30 | exact sc_34 | exact sc_10 | exact fd_24 | exact fd_4 | exact lw_25 | exact lw_5 | exact bd_23 | exact bd_3 | exact ⟨by first | assumption | rfl, by first | decide | omega⟩) (by first | assumption | exact sc_30 | exact sc_34 | exact sc_10 | exact fd_24 | exact fd_4 | exact lw_25 | exact lw_5 | exact bd_23 | exact bd_3 | exact ⟨by first | assumption | rfl, by first | decide | omega⟩)) (fun r1 h1 hq => ?_)
  obtain ⟨rfl, hq, hG⟩ := hq
  replace hq := hq.symm
  subst hq
  simp only [Option.toList, List.nil_append]
  refine v_aload_n (i := 0) dX6_keep_26 rfl rfl ?_
  refine v_aload_n (i := 0) dX6_keep_27 rfl rfl ?_
  refine g_X6_21 rfl sh_38 (by exact ltG hG (by decide)) dX6_keep_28 ?_
  refine v_iconst (v := 1) dX6_keep_31 (by decide) ?_
  refine v_iadd dX6_keep_32 ?_
  refine v_bipush (v := 40) dX6_keep_33 (by decide) ?_
  refine v_min ml_X6_29 sm_J9_min_7cf53 in_J9 cw_J9_min_7cf53 (Nat.le_of_ble_eq_true rfl) dX6_keep_35 ?_
  refine p_X6_21 rfl sh_38 (by exact ltG hG (by decide)) dX6_keep_38 ?_
  refine v_return rfl dX6_keep_41 ?_
  obtain rfl := Option.some.inj hF
  exact ⟨rfl, rfl, hG⟩
def F_X6_takeBack (n : Nat) (h : Hp) (b1 : Nat) : Option (Int32 × Hp) := (if ((hi h 38 2) : Int32) = 0 then some (0, h) else (if ixOK (hi h 38 1) 40 = true then ((F_X8_become n h b1 (40 + 4 * (Int32.toNatClampNeg (hi h 38 1)))).bind (fun q3 => some (1, (wrI (wrI q3 38 1 ((((hi q3 38 1) + 40) - 1) - (((hi q3 38 1) + 40) - 1) / 40 * 40)) 38 2 ((hi (wrI q3 38 1 ((((hi q3 38 1) + 40) - 1) - (((hi q3 38 1) + 40) - 1) / 40 * 40)) 38 2) - 1))))) else none))
set_option maxRecDepth 100000 in
set_option maxHeartbeats 4000000 in
theorem s_X6_takeBack (d : Nat) {n : Nat} {h : Hp} {b1 : Nat} {q0 : (Int32 × Hp)} (hF : F_X6_takeBack n h b1 = some q0) (hG : G h) (ht1 : Sc b1) : Kc mX6_takeBack (d + 2) [.ref 38, .ref b1] h (fun r1 h1 => r1 = some (.int q0.1) ∧ h1 = q0.2 ∧ G q0.2) := by
  obtain ⟨t10, t11, t12, t13, t14, t15, t16, t17⟩ := id ht1
  obtain ⟨r, h'⟩ := q0
  unfold F_X6_takeBack at hF
  refine Kc.of [some (.ref 38), some (.ref b1)] ok_X6_takeBack rfl (Nat.le_of_ble_eq_true rfl) ?_
  refine v_aload_n (i := 0) dX6_takeBack_0 rfl rfl ?_
  refine g_X6_21 rfl sh_38 (by exact ltG hG (by decide)) dX6_takeBack_1 ?_
  refine v_if_ne 9 dX6_takeBack_4 (by decide) (fun c1 => ?_) (fun c1 => ?_)
  · rw [if_neg c1] at hF
    refine v_aload_n (i := 1) dX6_takeBack_9 rfl rfl ?_
    refine v_aload_n (i := 0) dX6_takeBack_10 rfl rfl ?_
    refine g_X6_11 (q := 39) rfl sh_38 (by exact ltG hG (by decide)) (by exact rG hG r0_38_0) dX6_takeBack_11 ?_
    refine v_aload_n (i := 0) dX6_takeBack_14 rfl rfl ?_
    refine g_X6_17 rfl sh_38 (by exact ltG hG (by decide)) dX6_takeBack_15 ?_
    obtain ⟨k2, hF⟩ := ck_some hF
    have hsc_k2 := scPast (ixO_lt k2)
    refine v_aaload (q := (40 + 4 * (Int32.toNatClampNeg (hi h 38 1)))) sh_39 (by exact ltG hG (by decide)) (ixO k2) (rPast hG (ixO_lt k2)) dX6_takeBack_18 ?_
    obtain ⟨q3, q3_e, hF⟩ := Option.bind_eq_some_iff.mp hF
    refine c_X6_25 rfl t10 (by exact ltG hG (by omega)) (Nat.le_of_ble_eq_true rfl) dX6_takeBack_19 (s_X8_become _ q3_e hG (by first | assumption | exact sc_30 | exact sc_34 | exact sc_10 | exact fd_24 | exact fd_4 | exact lw_25 | exact lw_5 | exact bd_23 | exact bd_3 | exact ⟨by first | assumption | rfl, by first | decide | omega⟩) (by first | assumption | exact sc_30 | exact sc_34 | exact sc_10 | exact fd_24 | exact fd_4 | exact lw_25 | exact lw_5 | exact bd_23 | exact bd_3 | exact ⟨by first | assumption | rfl, by first | decide | omega⟩)) (fun r1 h1 hq => ?_)
    obtain ⟨rfl, hq, hG⟩ := hq
    replace hq := hq.symm
    subst hq
    simp only [Option.toList, List.nil_append]
    refine v_aload_n (i := 0) dX6_takeBack_22 rfl rfl ?_
    refine v_aload_n (i := 0) dX6_takeBack_23 rfl rfl ?_
    refine g_X6_17 rfl sh_38 (by exact ltG hG (by decide)) dX6_takeBack_24 ?_
    refine v_bipush (v := 40) dX6_takeBack_27 (by decide) ?_
    refine v_iadd dX6_takeBack_29 ?_
    refine v_iconst (v := 1) dX6_takeBack_30 (by decide) ?_
    refine v_isub dX6_takeBack_31 ?_
    refine v_bipush (v := 40) dX6_takeBack_32 (by decide) ?_
    refine v_irem dX6_takeBack_34 (by decide) ?_
    refine p_X6_17 rfl sh_38 (by exact ltG hG (by decide)) dX6_takeBack_35 ?_
    refine v_aload_n (i := 0) dX6_takeBack_38 rfl rfl ?_
    refine v_dup dX6_takeBack_39 rfl ?_
    refine g_X6_21 rfl sh_38 (by exact ltG hG (by decide)) dX6_takeBack_40 ?_
    refine v_iconst (v := 1) dX6_takeBack_43 (by decide) ?_
    refine v_isub dX6_takeBack_44 ?_
    refine p_X6_21 rfl sh_38 (by exact ltG hG (by decide)) dX6_takeBack_45 ?_
    refine v_iconst (v := 1) dX6_takeBack_48 (by decide) ?_
    refine v_zreturn rfl (by decide) dX6_takeBack_49 ?_
    obtain ⟨rfl, rfl⟩ := Prod.mk.inj (Option.some.inj hF)
    exact ⟨rfl, rfl, hG⟩
  · rw [if_pos c1] at hF
    refine v_iconst (v := 0) dX6_takeBack_7 (by decide) ?_
    refine v_zreturn rfl (by decide) dX6_takeBack_8 ?_
    obtain ⟨rfl, rfl⟩ := Prod.mk.inj (Option.some.inj hF)
    exact ⟨rfl, rfl, hG⟩
def F_X7_clear (n : Nat) (h : Hp) : Option Hp := ((F_X0_clear n h 3).bind (fun q1 => ((F_X8_clear n q1 10).bind (fun q3 => ((F_J7_fill_25 n (wrI (wrI (wrI (wrI (wrI q3 2 2 (-1)) 2 4 0) 2 5 0) 2 6 0) 2 7 (-1)) 16 0).bind (fun q5 => some (wrI (wrI (wrI q5 2 12 0) 2 13 0) 2 14 0)))))))
set_option maxRecDepth 100000 in
set_option maxHeartbeats 4000000 in
theorem s_X7_clear (d : Nat) {n : Nat} {h : Hp}  {q0 : Hp} (hF : F_X7_clear n h  = some q0) (hG : G h)  : Kc mX7_clear (d + 3) [.ref 2] h (fun r1 h1 => r1 = none ∧ h1 = q0 ∧ G q0) := by
  obtain ⟨h', rfl⟩ : ∃ z, z = q0 := ⟨_, rfl⟩
  unfold F_X7_clear at hF
  refine Kc.of [some (.ref 2)] ok_X7_clear rfl (Nat.le_of_ble_eq_true rfl) ?_
  refine v_aload_n (i := 0) dX7_clear_0 rfl rfl ?_
  refine g_X7_12 (q := 3) rfl sh_2 (by exact ltG hG (by decide)) (by exact rG hG r0_2_0) dX7_clear_1 ?_
  obtain ⟨q1, q1_e, hF⟩ := Option.bind_eq_some_iff.mp hF
  refine c_X7_94 rfl sh_3 (by exact ltG hG (by decide)) (Nat.le_of_ble_eq_true rfl) dX7_clear_4 (s_X0_clear _ q1_e hG (by first | assumption | exact sc_30 | exact sc_34 | exact sc_10 | exact fd_24 | exact fd_4 | exact lw_25 | exact lw_5 | exact bd_23 | exact bd_3 | exact ⟨by first | assumption | rfl, by first | decide | omega⟩)) (fun r1 h1 hq => ?_)
  obtain ⟨rfl, hq, hG⟩ := hq
  replace hq := hq.symm
  subst hq
  simp only [Option.toList, List.nil_append]
  refine v_aload_n (i := 0) dX7_clear_7 rfl rfl ?_
  refine g_X7_21 (q := 10) rfl sh_2 (by exact ltG hG (by decide)) (by exact rG hG r0_2_1) dX7_clear_8 ?_
  obtain ⟨q3, q3_e, hF⟩ := Option.bind_eq_some_iff.mp hF
  refine c_X7_95 rfl sh_10 (by exact ltG hG (by decide)) (Nat.le_of_ble_eq_true rfl) dX7_clear_11 (s_X8_clear _ q3_e hG (by first | assumption | exact sc_30 | exact sc_34 | exact sc_10 | exact fd_24 | exact fd_4 | exact lw_25 | exact lw_5 | exact bd_23 | exact bd_3 | exact ⟨by first | assumption | rfl, by first | decide | omega⟩)) (fun r1 h1 hq => ?_)
  obtain ⟨rfl, hq, hG⟩ := hq
  replace hq := hq.symm
  subst hq
  simp only [Option.toList, List.nil_append]
  refine v_aload_n (i := 0) dX7_clear_14 rfl rfl ?_
  refine v_iconst (v := (-1)) dX7_clear_15 (by decide) ?_
  refine p_X7_25 rfl sh_2 (by exact ltG hG (by decide)) dX7_clear_16 ?_
  refine v_aload_n (i := 0) dX7_clear_19 rfl rfl ?_
  refine v_iconst (v := 0) dX7_clear_20 (by decide) ?_
  refine p_X7_29 rfl sh_2 (by exact ltG hG (by decide)) dX7_clear_21 ?_
  refine v_aload_n (i := 0) dX7_clear_24 rfl rfl ?_
  refine v_iconst (v := 0) dX7_clear_25 (by decide) ?_
  refine p_X7_32 rfl sh_2 (by exact ltG hG (by decide)) dX7_clear_26 ?_
  refine v_aload_n (i := 0) dX7_clear_29 rfl rfl ?_
  refine v_iconst (v := 0) dX7_clear_30 (by decide) ?_
  refine p_X7_35 rfl sh_2 (by exact ltG hG (by decide)) dX7_clear_31 ?_
  refine v_aload_n (i := 0) dX7_clear_34 rfl rfl ?_
  refine v_iconst (v := (-1)) dX7_clear_35 (by decide) ?_
  refine p_X7_38 rfl sh_2 (by exact ltG hG (by decide)) dX7_clear_36 ?_
  refine v_aload_n (i := 0) dX7_clear_39 rfl rfl ?_
  refine g_X7_49 (q := 16) rfl sh_2 (by exact ltG hG (by decide)) (by exact rG hG r0_2_10) dX7_clear_40 ?_
  refine v_iconst (v := 0) dX7_clear_43 (by decide) ?_
  obtain ⟨q5, q5_e, hF⟩ := Option.bind_eq_some_iff.mp hF
  refine c_X7_96 rfl (Nat.le_of_ble_eq_true rfl) dX7_clear_44 (s_J7_fill_25 _ q5_e hG (by first | assumption | exact sc_30 | exact sc_34 | exact sc_10 | exact fd_24 | exact fd_4 | exact lw_25 | exact lw_5 | exact bd_23 | exact bd_3 | exact ⟨by first | assumption | rfl, by first | decide | omega⟩)) (fun r1 h1 hq => ?_)
  obtain ⟨rfl, hq, hG⟩ := hq
  replace hq := hq.symm
  subst hq
  simp only [Option.toList, List.nil_append]
  refine v_aload_n (i := 0) dX7_clear_47 rfl rfl ?_
  refine v_iconst (v := 0) dX7_clear_48 (by decide) ?_
  refine p_X7_55 rfl sh_2 (by exact ltG hG (by decide)) dX7_clear_49 ?_
  refine v_aload_n (i := 0) dX7_clear_52 rfl rfl ?_
  refine v_iconst (v := 0) dX7_clear_53 (by decide) ?_
  refine p_X7_58 rfl sh_2 (by exact ltG hG (by decide)) dX7_clear_54 ?_
  refine v_aload_n (i := 0) dX7_clear_57 rfl rfl ?_
  refine v_iconst (v := 0) dX7_clear_58 (by decide) ?_
  refine p_X7_61 rfl sh_2 (by exact ltG hG (by decide)) dX7_clear_59 ?_
  refine v_return rfl dX7_clear_62 ?_
  obtain rfl := Option.some.inj hF
  exact ⟨rfl, rfl, hG⟩
def F_X7_kind (n : Nat) (h : Hp) : Option (Int32 × Hp) := ((F_X9_kindOf n h (hi h 2 4)).bind (fun q1 => some (q1.1, q1.2)))
set_option maxRecDepth 100000 in
set_option maxHeartbeats 4000000 in
theorem s_X7_kind (d : Nat) {n : Nat} {h : Hp}  {q0 : (Int32 × Hp)} (hF : F_X7_kind n h  = some q0) (hG : G h)  : Kc mX7_kind (d + 1) [.ref 2] h (fun r1 h1 => r1 = some (.int q0.1) ∧ h1 = q0.2 ∧ G q0.2) := by
  obtain ⟨r, h'⟩ := q0
  unfold F_X7_kind at hF
  refine Kc.of [some (.ref 2)] ok_X7_kind rfl (Nat.le_of_ble_eq_true rfl) ?_
  refine v_aload_n (i := 0) dX7_kind_0 rfl rfl ?_
  refine g_X7_69 (q := 18) rfl sh_2 (by exact ltG hG (by decide)) (by exact rG hG r0_2_3) dX7_kind_1 ?_
  refine v_aload_n (i := 0) dX7_kind_4 rfl rfl ?_
  refine g_X7_29 rfl sh_2 (by exact ltG hG (by decide)) dX7_kind_5 ?_
  obtain ⟨q1, q1_e, hF⟩ := Option.bind_eq_some_iff.mp hF
  refine c_X7_102 rfl sh_18 (by exact ltG hG (by decide)) (Nat.le_of_ble_eq_true rfl) dX7_kind_8 (s_X9_kindOf _ q1_e hG) (fun r1 h1 hq => ?_)
  obtain ⟨rfl, hq, hG⟩ := hq
  replace hq := hq.symm
  subst hq
  show V _ _ _ _ (_ :: _) _ _
  refine v_ireturn rfl dX7_kind_11 ?_
  obtain ⟨rfl, rfl⟩ := Prod.mk.inj (Option.some.inj hF)
  exact ⟨rfl, rfl, hG⟩
