def W_X12_beatGoes : Nat → Nat → Hp → Int32 → Option Hp
  | 0 => fun _ _ _ => none
  | n + 1 => fun hd h l1 => (if hd = 2 then (if ixOK (hi h 226 18) 2 = true then (if ((hi h 242 (Int32.toNatClampNeg (hi h 226 18))) : Int32) ≤ (l1 : Int32) then W_X12_beatGoes n 34 h  0 else ((F_X12_stepOf n h l1).bind (fun q3 => (if ixOK l1 5 = true then W_X12_beatGoes n 2 (wrI q3.2 265 (Int32.toNatClampNeg l1) q3.1)  (l1 + 1) else none)))) else none) else (if hd = 34 then (if ixOK (hi h 226 18) 2 = true then (if ((hi h 242 (Int32.toNatClampNeg (hi h 226 18))) : Int32) ≤ (l1 : Int32) then W_X12_beatGoes n 81 (wrI h 263 61 ((hi h 263 61) + 1))  0 else (if ixOK l1 5 = true then (if ixOK (51 + l1) 63 = true then W_X12_beatGoes n 34 (wrI h 263 (Int32.toNatClampNeg (51 + l1)) (hi h 265 (Int32.toNatClampNeg l1)))  (l1 + 1) else none) else none)) else none) else (if hd = 81 then (if ixOK (hi h 226 18) 2 = true then (if ((hi h 242 (Int32.toNatClampNeg (hi h 226 18))) : Int32) ≤ (l1 : Int32) then W_X12_beatGoes n 140 h  0 else (if ixOK (51 + l1) 63 = true then ((F_X12_isLoud n h (hi h 263 (Int32.toNatClampNeg (51 + l1))) (hi h 263 61)).bind (fun q13 => (if (q13.1 : Int32) = 0 then (if ixOK l1 5 = true then W_X12_beatGoes n 81 (wrI q13.2 265 (Int32.toNatClampNeg l1) (-1))  (l1 + 1) else none) else ((F_X12_moveOf n q13.2 l1).bind (fun q17 => (if ixOK l1 5 = true then W_X12_beatGoes n 81 (wrI q17.2 265 (Int32.toNatClampNeg l1) q17.1)  (l1 + 1) else none)))))) else none)) else none) else (if hd = 140 then (if ixOK (hi h 226 18) 2 = true then (if ((hi h 242 (Int32.toNatClampNeg (hi h 226 18))) : Int32) ≤ (l1 : Int32) then (if ((vp_nar .boolean (hi h 226 56)) : Int32) = 0 then ((F_X12_spreads n h).bind (fun q23 => some q23)) else some h) else (if ixOK l1 5 = true then (if 0 ≤ ((hi h 265 (Int32.toNatClampNeg l1)) : Int32) then (if ixOK l1 5 = true then (if ixOK (51 + l1) 63 = true then (if ixOK (56 + l1) 63 = true then (if ixOK (56 + l1) 63 = true then W_X12_beatGoes n 140 (wrI (wrI h 263 (Int32.toNatClampNeg (51 + l1)) (hi h 265 (Int32.toNatClampNeg l1))) 263 (Int32.toNatClampNeg (56 + l1)) ((hi (wrI h 263 (Int32.toNatClampNeg (51 + l1)) (hi h 265 (Int32.toNatClampNeg l1))) 263 (Int32.toNatClampNeg (56 + l1))) + 1))  (l1 + 1) else none) else none) else none) else none) else W_X12_beatGoes n 140 h  (l1 + 1)) else none)) else none) else none))))
set_option maxRecDepth 100000 in
set_option maxHeartbeats 4000000 in
theorem sw_X12_beatGoes (d : Nat)  (n : Nat) : (∀ (l1 : Int32) (h : Hp), ∀ (h' : Hp), W_X12_beatGoes n 2 h  l1 = some h' → G h → V mX12_beatGoes (d + 5) 2 [some (.ref 226), some (.int l1)] [] h (fun r1 h1 => r1 = none ∧ h1 = h' ∧ G h')) ∧ (∀ (l1 : Int32) (h : Hp), ∀ (h' : Hp), W_X12_beatGoes n 34 h  l1 = some h' → G h → V mX12_beatGoes (d + 5) 34 [some (.ref 226), some (.int l1)] [] h (fun r1 h1 => r1 = none ∧ h1 = h' ∧ G h')) ∧ (∀ (l1 : Int32) (h : Hp), ∀ (h' : Hp), W_X12_beatGoes n 81 h  l1 = some h' → G h → V mX12_beatGoes (d + 5) 81 [some (.ref 226), some (.int l1)] [] h (fun r1 h1 => r1 = none ∧ h1 = h' ∧ G h')) ∧ (∀ (l1 : Int32) (h : Hp), ∀ (h' : Hp), W_X12_beatGoes n 140 h  l1 = some h' → G h → V mX12_beatGoes (d + 5) 140 [some (.ref 226), some (.int l1)] [] h (fun r1 h1 => r1 = none ∧ h1 = h' ∧ G h')) := by
  induction n with
  | zero => exact ⟨by intros; contradiction, by intros; contradiction, by intros; contradiction, by intros; contradiction⟩
  | succ n ih =>
    obtain ⟨s_X12_beatGoes_IH_2, s_X12_beatGoes_IH_34, s_X12_beatGoes_IH_81, s_X12_beatGoes_IH_140⟩ := ih
    refine ⟨?_, ?_, ?_, ?_⟩
    · intro l1 h h' hF hG
      unfold W_X12_beatGoes at hF
      rw [if_pos rfl] at hF
      refine v_iload_n (i := 1) dX12_beatGoes_2 rfl rfl ?_
      refine v_aload_n (i := 0) dX12_beatGoes_3 rfl rfl ?_
      refine g_X12_64 (q := 242) rfl sh_226 (by exact ltG hG (by decide)) (by exact rG hG r0_226_29) dX12_beatGoes_4 ?_
      refine v_aload_n (i := 0) dX12_beatGoes_7 rfl rfl ?_
      refine g_X12_245 rfl sh_226 (by exact ltG hG (by decide)) dX12_beatGoes_8 ?_
      obtain ⟨k1, hF⟩ := ck_some hF
      refine v_iaload sh_242 (by exact ltG hG (by decide)) (ixO k1) dX12_beatGoes_11 ?_
      refine v_icmp_ge 32 dX12_beatGoes_12 (by decide) (fun c2 => ?_) (fun c2 => ?_)
      · rw [if_pos c2] at hF
        refine v_iconst (v := 0) dX12_beatGoes_32 (by decide) ?_
        refine v_istore_n (i := 1) dX12_beatGoes_33 rfl (by decide) (nlT rfl) ?_
        simp only [List.set_cons_zero, List.set_cons_succ]
        refine V.weak (la2 := [some (.ref 226), some (.int 0)]) (by simp [wk]) ?_
        exact (s_X12_beatGoes_IH_34) _ _ _ hF hG
      · rw [if_neg c2] at hF
        refine v_aload_n (i := 0) dX12_beatGoes_15 rfl rfl ?_
        refine g_X12_134 (q := 265) rfl sh_226 (by exact ltG hG (by decide)) (by exact rG hG r0_226_58) dX12_beatGoes_16 ?_
        refine v_iload_n (i := 1) dX12_beatGoes_19 rfl rfl ?_
        refine v_aload_n (i := 0) dX12_beatGoes_20 rfl rfl ?_
        refine v_iload_n (i := 1) dX12_beatGoes_21 rfl rfl ?_
        obtain ⟨q3, q3_e, hF⟩ := Option.bind_eq_some_iff.mp hF
        refine c_X12_391 rfl sh_226 (by exact ltG hG (by decide)) (Nat.le_of_ble_eq_true rfl) dX12_beatGoes_22 (s_X12_stepOf _ q3_e hG) (fun r1 h1 hq => ?_)
        obtain ⟨rfl, hq, hG⟩ := hq
        replace hq := hq.symm
        subst hq
        show V _ _ _ _ (_ :: _) _ _
        obtain ⟨k5, hF⟩ := ck_some hF
        refine v_iastore sh_265 (by exact ltG hG (by decide)) (ixO k5) dX12_beatGoes_25 ?_
        refine v_iinc (i := 1) (v := (l1 + 1)) dX12_beatGoes_26 rfl rfl (by decide) (nlT rfl) ?_
        simp only [List.set_cons_zero, List.set_cons_succ]
        refine v_goto 2 dX12_beatGoes_29 (by decide) ?_
        refine V.weak (la2 := [some (.ref 226), some (.int (l1 + 1))]) (by simp [wk]) ?_
        exact (s_X12_beatGoes_IH_2) _ _ _ hF hG
    · intro l1 h h' hF hG
      unfold W_X12_beatGoes at hF
      rw [if_neg (by decide)] at hF
      rw [if_pos rfl] at hF
      refine v_iload_n (i := 1) dX12_beatGoes_34 rfl rfl ?_
      refine v_aload_n (i := 0) dX12_beatGoes_35 rfl rfl ?_
      refine g_X12_64 (q := 242) rfl sh_226 (by exact ltG hG (by decide)) (by exact rG hG r0_226_29) dX12_beatGoes_36 ?_
      refine v_aload_n (i := 0) dX12_beatGoes_39 rfl rfl ?_
      refine g_X12_245 rfl sh_226 (by exact ltG hG (by decide)) dX12_beatGoes_40 ?_
      obtain ⟨k6, hF⟩ := ck_some hF
      refine v_iaload sh_242 (by exact ltG hG (by decide)) (ixO k6) dX12_beatGoes_43 ?_
      refine v_icmp_ge 68 dX12_beatGoes_44 (by decide) (fun c7 => ?_) (fun c7 => ?_)
      · rw [if_pos c7] at hF
        refine v_aload_n (i := 0) dX12_beatGoes_68 rfl rfl ?_
        refine g_X12_128 (q := 263) rfl sh_226 (by exact ltG hG (by decide)) (by exact rG hG r0_226_54) dX12_beatGoes_69 ?_
        refine v_bipush (v := 61) dX12_beatGoes_72 (by decide) ?_
        refine v_dup2 dX12_beatGoes_74 rfl rfl ?_
        refine v_iaload sh_263 (by exact ltG hG (by decide)) (ixK 61 (by decide)) dX12_beatGoes_75 ?_
        refine v_iconst (v := 1) dX12_beatGoes_76 (by decide) ?_
        refine v_iadd dX12_beatGoes_77 ?_
        refine v_iastore sh_263 (by exact ltG hG (by decide)) (ixK 61 (by decide)) dX12_beatGoes_78 ?_
        refine v_iconst (v := 0) dX12_beatGoes_79 (by decide) ?_
        refine v_istore_n (i := 1) dX12_beatGoes_80 rfl (by decide) (nlT rfl) ?_
        simp only [List.set_cons_zero, List.set_cons_succ]
        refine V.weak (la2 := [some (.ref 226), some (.int 0)]) (by simp [wk]) ?_
        exact (s_X12_beatGoes_IH_81) _ _ _ hF hG
      · rw [if_neg c7] at hF
        refine v_aload_n (i := 0) dX12_beatGoes_47 rfl rfl ?_
        refine g_X12_128 (q := 263) rfl sh_226 (by exact ltG hG (by decide)) (by exact rG hG r0_226_54) dX12_beatGoes_48 ?_
        refine v_bipush (v := 51) dX12_beatGoes_51 (by decide) ?_
        refine v_iload_n (i := 1) dX12_beatGoes_53 rfl rfl ?_
        refine v_iadd dX12_beatGoes_54 ?_
        refine v_aload_n (i := 0) dX12_beatGoes_55 rfl rfl ?_
        refine g_X12_134 (q := 265) rfl sh_226 (by exact ltG hG (by decide)) (by exact rG hG r0_226_58) dX12_beatGoes_56 ?_
        refine v_iload_n (i := 1) dX12_beatGoes_59 rfl rfl ?_
        obtain ⟨k8, hF⟩ := ck_some hF
        refine v_iaload sh_265 (by exact ltG hG (by decide)) (ixO k8) dX12_beatGoes_60 ?_
        obtain ⟨k9, hF⟩ := ck_some hF
        refine v_iastore sh_263 (by exact ltG hG (by decide)) (ixO k9) dX12_beatGoes_61 ?_
        refine v_iinc (i := 1) (v := (l1 + 1)) dX12_beatGoes_62 rfl rfl (by decide) (nlT rfl) ?_
        simp only [List.set_cons_zero, List.set_cons_succ]
        refine v_goto 34 dX12_beatGoes_65 (by decide) ?_
        refine V.weak (la2 := [some (.ref 226), some (.int (l1 + 1))]) (by simp [wk]) ?_
        exact (s_X12_beatGoes_IH_34) _ _ _ hF hG
    · intro l1 h h' hF hG
      unfold W_X12_beatGoes at hF
      rw [if_neg (by decide)] at hF
      rw [if_neg (by decide)] at hF
      rw [if_pos rfl] at hF
      refine v_iload_n (i := 1) dX12_beatGoes_81 rfl rfl ?_
      refine v_aload_n (i := 0) dX12_beatGoes_82 rfl rfl ?_
      refine g_X12_64 (q := 242) rfl sh_226 (by exact ltG hG (by decide)) (by exact rG hG r0_226_29) dX12_beatGoes_83 ?_
      refine v_aload_n (i := 0) dX12_beatGoes_86 rfl rfl ?_
      refine g_X12_245 rfl sh_226 (by exact ltG hG (by decide)) dX12_beatGoes_87 ?_
      obtain ⟨k10, hF⟩ := ck_some hF
      refine v_iaload sh_242 (by exact ltG hG (by decide)) (ixO k10) dX12_beatGoes_90 ?_
      refine v_icmp_ge 138 dX12_beatGoes_91 (by decide) (fun c11 => ?_) (fun c11 => ?_)
      · rw [if_pos c11] at hF
        refine v_iconst (v := 0) dX12_beatGoes_138 (by decide) ?_
        refine v_istore_n (i := 1) dX12_beatGoes_139 rfl (by decide) (nlT rfl) ?_
        simp only [List.set_cons_zero, List.set_cons_succ]
        refine V.weak (la2 := [some (.ref 226), some (.int 0)]) (by simp [wk]) ?_
        exact (s_X12_beatGoes_IH_140) _ _ _ hF hG
      · rw [if_neg c11] at hF
        refine v_aload_n (i := 0) dX12_beatGoes_94 rfl rfl ?_
        refine g_X12_134 (q := 265) rfl sh_226 (by exact ltG hG (by decide)) (by exact rG hG r0_226_58) dX12_beatGoes_95 ?_
        refine v_iload_n (i := 1) dX12_beatGoes_98 rfl rfl ?_
        refine v_aload_n (i := 0) dX12_beatGoes_99 rfl rfl ?_
        refine v_aload_n (i := 0) dX12_beatGoes_100 rfl rfl ?_
        refine g_X12_128 (q := 263) rfl sh_226 (by exact ltG hG (by decide)) (by exact rG hG r0_226_54) dX12_beatGoes_101 ?_
        refine v_bipush (v := 51) dX12_beatGoes_104 (by decide) ?_
        refine v_iload_n (i := 1) dX12_beatGoes_106 rfl rfl ?_
        refine v_iadd dX12_beatGoes_107 ?_
        obtain ⟨k12, hF⟩ := ck_some hF
        refine v_iaload sh_263 (by exact ltG hG (by decide)) (ixO k12) dX12_beatGoes_108 ?_
        refine v_aload_n (i := 0) dX12_beatGoes_109 rfl rfl ?_
        refine g_X12_128 (q := 263) rfl sh_226 (by exact ltG hG (by decide)) (by exact rG hG r0_226_54) dX12_beatGoes_110 ?_
        refine v_bipush (v := 61) dX12_beatGoes_113 (by decide) ?_
        refine v_iaload sh_263 (by exact ltG hG (by decide)) (ixK 61 (by decide)) dX12_beatGoes_115 ?_
        obtain ⟨q13, q13_e, hF⟩ := Option.bind_eq_some_iff.mp hF
        refine c_X12_353 rfl sh_226 (by exact ltG hG (by decide)) (Nat.le_of_ble_eq_true rfl) dX12_beatGoes_116 (s_X12_isLoud _ q13_e hG) (fun r1 h1 hq => ?_)
        obtain ⟨rfl, hq, hG⟩ := hq
        replace hq := hq.symm
        subst hq
        show V _ _ _ _ (_ :: _) _ _
        refine v_if_eq 130 dX12_beatGoes_119 (by decide) (fun c15 => ?_) (fun c15 => ?_)
        · rw [if_pos c15] at hF
          refine v_iconst (v := (-1)) dX12_beatGoes_130 (by decide) ?_
          obtain ⟨k16, hF⟩ := ck_some hF
          refine v_iastore sh_265 (by exact ltG hG (by decide)) (ixO k16) dX12_beatGoes_131 ?_
          refine v_iinc (i := 1) (v := (l1 + 1)) dX12_beatGoes_132 rfl rfl (by decide) (nlT rfl) ?_
          simp only [List.set_cons_zero, List.set_cons_succ]
          refine v_goto 81 dX12_beatGoes_135 (by decide) ?_
          refine V.weak (la2 := [some (.ref 226), some (.int (l1 + 1))]) (by simp [wk]) ?_
          exact (s_X12_beatGoes_IH_81) _ _ _ hF hG
        · rw [if_neg c15] at hF
          refine v_aload_n (i := 0) dX12_beatGoes_122 rfl rfl ?_
          refine v_iload_n (i := 1) dX12_beatGoes_123 rfl rfl ?_
          obtain ⟨q17, q17_e, hF⟩ := Option.bind_eq_some_iff.mp hF
          refine c_X12_394 rfl sh_226 (by exact ltG hG (by decide)) (Nat.le_of_ble_eq_true rfl) dX12_beatGoes_124 (s_X12_moveOf _ q17_e hG) (fun r1 h1 hq => ?_)
          obtain ⟨rfl, hq, hG⟩ := hq
          replace hq := hq.symm
          subst hq
          show V _ _ _ _ (_ :: _) _ _
          refine v_goto 131 dX12_beatGoes_127 (by decide) ?_
          obtain ⟨k19, hF⟩ := ck_some hF
          refine v_iastore sh_265 (by exact ltG hG (by decide)) (ixO k19) dX12_beatGoes_131 ?_
          refine v_iinc (i := 1) (v := (l1 + 1)) dX12_beatGoes_132 rfl rfl (by decide) (nlT rfl) ?_
          simp only [List.set_cons_zero, List.set_cons_succ]
          refine v_goto 81 dX12_beatGoes_135 (by decide) ?_
          refine V.weak (la2 := [some (.ref 226), some (.int (l1 + 1))]) (by simp [wk]) ?_
          exact (s_X12_beatGoes_IH_81) _ _ _ hF hG
    · intro l1 h h' hF hG
      unfold W_X12_beatGoes at hF
      rw [if_neg (by decide)] at hF
      rw [if_neg (by decide)] at hF
      rw [if_neg (by decide)] at hF
      rw [if_pos rfl] at hF
      refine v_iload_n (i := 1) dX12_beatGoes_140 rfl rfl ?_
      refine v_aload_n (i := 0) dX12_beatGoes_141 rfl rfl ?_
      refine g_X12_64 (q := 242) rfl sh_226 (by exact ltG hG (by decide)) (by exact rG hG r0_226_29) dX12_beatGoes_142 ?_
      refine v_aload_n (i := 0) dX12_beatGoes_145 rfl rfl ?_
      refine g_X12_245 rfl sh_226 (by exact ltG hG (by decide)) dX12_beatGoes_146 ?_
      obtain ⟨k20, hF⟩ := ck_some hF
      refine v_iaload sh_242 (by exact ltG hG (by decide)) (ixO k20) dX12_beatGoes_149 ?_
      refine v_icmp_ge 199 dX12_beatGoes_150 (by decide) (fun c21 => ?_) (fun c21 => ?_)
      · rw [if_pos c21] at hF
        refine v_aload_n (i := 0) dX12_beatGoes_199 rfl rfl ?_
        refine g_X12_340 rfl sh_226 (by exact ltG hG (by decide)) dX12_beatGoes_200 ?_
        refine v_if_ne 210 dX12_beatGoes_203 (by decide) (fun c22 => ?_) (fun c22 => ?_)
        · rw [if_neg c22] at hF
          refine v_return rfl dX12_beatGoes_210 ?_
          obtain rfl := Option.some.inj hF
          exact ⟨rfl, rfl, hG⟩
        · rw [if_pos c22] at hF
          refine v_aload_n (i := 0) dX12_beatGoes_206 rfl rfl ?_
          obtain ⟨q23, q23_e, hF⟩ := Option.bind_eq_some_iff.mp hF
          refine c_X12_397 rfl sh_226 (by exact ltG hG (by decide)) (Nat.le_of_ble_eq_true rfl) dX12_beatGoes_207 (s_X12_spreads _ q23_e hG) (fun r1 h1 hq => ?_)
          obtain ⟨rfl, hq, hG⟩ := hq
          replace hq := hq.symm
          subst hq
          simp only [Option.toList, List.nil_append]
          refine v_return rfl dX12_beatGoes_210 ?_
          obtain rfl := Option.some.inj hF
          exact ⟨rfl, rfl, hG⟩
      · rw [if_neg c21] at hF
        refine v_aload_n (i := 0) dX12_beatGoes_153 rfl rfl ?_
        refine g_X12_134 (q := 265) rfl sh_226 (by exact ltG hG (by decide)) (by exact rG hG r0_226_58) dX12_beatGoes_154 ?_
        refine v_iload_n (i := 1) dX12_beatGoes_157 rfl rfl ?_
        obtain ⟨k25, hF⟩ := ck_some hF
        refine v_iaload sh_265 (by exact ltG hG (by decide)) (ixO k25) dX12_beatGoes_158 ?_
        refine v_if_ge 165 dX12_beatGoes_159 (by decide) (fun c26 => ?_) (fun c26 => ?_)
        · rw [if_pos c26] at hF
          refine v_aload_n (i := 0) dX12_beatGoes_165 rfl rfl ?_
          refine g_X12_128 (q := 263) rfl sh_226 (by exact ltG hG (by decide)) (by exact rG hG r0_226_54) dX12_beatGoes_166 ?_
          refine v_bipush (v := 51) dX12_beatGoes_169 (by decide) ?_
          refine v_iload_n (i := 1) dX12_beatGoes_171 rfl rfl ?_
          refine v_iadd dX12_beatGoes_172 ?_
          refine v_aload_n (i := 0) dX12_beatGoes_173 rfl rfl ?_
          refine g_X12_134 (q := 265) rfl sh_226 (by exact ltG hG (by decide)) (by exact rG hG r0_226_58) dX12_beatGoes_174 ?_
          refine v_iload_n (i := 1) dX12_beatGoes_177 rfl rfl ?_
          obtain ⟨k27, hF⟩ := ck_some hF
          refine v_iaload sh_265 (by exact ltG hG (by decide)) (ixO k27) dX12_beatGoes_178 ?_
          obtain ⟨k28, hF⟩ := ck_some hF
          refine v_iastore sh_263 (by exact ltG hG (by decide)) (ixO k28) dX12_beatGoes_179 ?_
          refine v_aload_n (i := 0) dX12_beatGoes_180 rfl rfl ?_
          refine g_X12_128 (q := 263) rfl sh_226 (by exact ltG hG (by decide)) (by exact rG hG r0_226_54) dX12_beatGoes_181 ?_
          refine v_bipush (v := 56) dX12_beatGoes_184 (by decide) ?_
          refine v_iload_n (i := 1) dX12_beatGoes_186 rfl rfl ?_
          refine v_iadd dX12_beatGoes_187 ?_
          refine v_dup2 dX12_beatGoes_188 rfl rfl ?_
          obtain ⟨k29, hF⟩ := ck_some hF
          refine v_iaload sh_263 (by exact ltG hG (by decide)) (ixO k29) dX12_beatGoes_189 ?_
          refine v_iconst (v := 1) dX12_beatGoes_190 (by decide) ?_
          refine v_iadd dX12_beatGoes_191 ?_
          obtain ⟨k30, hF⟩ := ck_some hF
          refine v_iastore sh_263 (by exact ltG hG (by decide)) (ixO k30) dX12_beatGoes_192 ?_
          refine v_iinc (i := 1) (v := (l1 + 1)) dX12_beatGoes_193 rfl rfl (by decide) (nlT rfl) ?_
          simp only [List.set_cons_zero, List.set_cons_succ]
          refine v_goto 140 dX12_beatGoes_196 (by decide) ?_
          refine V.weak (la2 := [some (.ref 226), some (.int (l1 + 1))]) (by simp [wk]) ?_
          exact (s_X12_beatGoes_IH_140) _ _ _ hF hG
        · rw [if_neg c26] at hF
          refine v_goto 193 dX12_beatGoes_162 (by decide) ?_
          refine v_iinc (i := 1) (v := (l1 + 1)) dX12_beatGoes_193 rfl rfl (by decide) (nlT rfl) ?_
          simp only [List.set_cons_zero, List.set_cons_succ]
          refine v_goto 140 dX12_beatGoes_196 (by decide) ?_
          refine V.weak (la2 := [some (.ref 226), some (.int (l1 + 1))]) (by simp [wk]) ?_
          exact (s_X12_beatGoes_IH_140) _ _ _ hF hG
def F_X12_beatGoes (n : Nat) (h : Hp) : Option Hp := W_X12_beatGoes n 2 h  0
set_option maxRecDepth 100000 in
set_option maxHeartbeats 4000000 in
theorem s_X12_beatGoes (d : Nat) {n : Nat} {h : Hp}  {q0 : Hp} (hF : F_X12_beatGoes n h  = some q0) (hG : G h)  : Kc mX12_beatGoes (d + 5) [.ref 226] h (fun r1 h1 => r1 = none ∧ h1 = q0 ∧ G q0) := by
  obtain ⟨h', rfl⟩ : ∃ z, z = q0 := ⟨_, rfl⟩
  obtain ⟨s_X12_beatGoes_IH_2, s_X12_beatGoes_IH_34, s_X12_beatGoes_IH_81, s_X12_beatGoes_IH_140⟩ := sw_X12_beatGoes d   n
  unfold F_X12_beatGoes at hF
  refine Kc.of [some (.ref 226), none] ok_X12_beatGoes rfl (Nat.le_of_ble_eq_true rfl) ?_
  refine v_iconst (v := 0) dX12_beatGoes_0 (by decide) ?_
  refine v_istore_n (i := 1) dX12_beatGoes_1 rfl (by decide) (nlT rfl) ?_
  simp only [List.set_cons_zero, List.set_cons_succ]
  refine V.weak (la2 := [some (.ref 226), some (.int 0)]) (by simp [wk]) ?_
  exact (s_X12_beatGoes_IH_2) _ _ _ hF hG
def F_X12_cell (n : Nat) (h : Hp) (x1 : Int32) (x2 : Int32) : Option (Int32 × Hp) := ((F_X12_isCell n h x1).bind (fun q1 => (if (q1.1 : Int32) = 0 then some ((-1), q1.2) else ((F_X12_copies n q1.2).bind (fun q4 => (if x2 = 0 then (if ixOK x1 63 = true then (if ((hi q4 263 (Int32.toNatClampNeg x1)) : Int32) = 0 then some ((-2), q4) else (if ixOK x1 63 = true then some ((hi q4 263 (Int32.toNatClampNeg x1)), q4) else none)) else none) else (if x2 = 1 then (if ixOK x1 63 = true then (if ((hi q4 263 (Int32.toNatClampNeg x1)) : Int32) = 0 then some ((-2), q4) else (if ixOK (25 + x1) 63 = true then some ((hi q4 263 (Int32.toNatClampNeg (25 + x1))), q4) else none)) else none) else (if x2 = 2 then ((F_X12_isLoud n q4 x1 (hi q4 263 61)).bind (fun q15 => (if (q15.1 : Int32) = 0 then some (0, q15.2) else some (1, q15.2)))) else (if x2 = 3 then ((F_X12_isRoped n q4 x1).bind (fun q19 => (if (q19.1 : Int32) = 0 then some (0, q19.2) else some (1, q19.2)))) else (if x2 = 4 then ((F_X12_whoAt n q4 x1).bind (fun q23 => some (q23.1, q23.2))) else (if x2 = 5 then ((F_X12_costsOf n q4 x1).bind (fun q26 => some (q26.1, q26.2))) else some ((-1), q4))))))))))))
set_option maxRecDepth 100000 in
set_option maxHeartbeats 4000000 in
theorem s_X12_cell (d : Nat) {n : Nat} {h : Hp} {x1 : Int32} {x2 : Int32} {q0 : (Int32 × Hp)} (hF : F_X12_cell n h x1 x2 = some q0) (hG : G h)  : Kc mX12_cell (d + 4) [.ref 226, .int x1, .int x2] h (fun r1 h1 => r1 = some (.int q0.1) ∧ h1 = q0.2 ∧ G q0.2) := by
  obtain ⟨r, h'⟩ := q0
  unfold F_X12_cell at hF
  refine Kc.of [some (.ref 226), some (.int x1), some (.int x2)] ok_X12_cell rfl (Nat.le_of_ble_eq_true rfl) ?_
  refine v_aload_n (i := 0) dX12_cell_0 rfl rfl ?_
  refine v_iload_n (i := 1) dX12_cell_1 rfl rfl ?_
  obtain ⟨q1, q1_e, hF⟩ := Option.bind_eq_some_iff.mp hF
  refine c_X12_403 rfl sh_226 (by exact ltG hG (by decide)) (Nat.le_of_ble_eq_true rfl) dX12_cell_2 (s_X12_isCell _ q1_e hG) (fun r1 h1 hq => ?_)
  obtain ⟨rfl, hq, hG⟩ := hq
  replace hq := hq.symm
  subst hq
  show V _ _ _ _ (_ :: _) _ _
  refine v_if_ne 10 dX12_cell_5 (by decide) (fun c3 => ?_) (fun c3 => ?_)
  · rw [if_neg c3] at hF
    refine v_aload_n (i := 0) dX12_cell_10 rfl rfl ?_
    obtain ⟨q4, q4_e, hF⟩ := Option.bind_eq_some_iff.mp hF
    refine c_X12_346 rfl sh_226 (by exact ltG hG (by decide)) (Nat.le_of_ble_eq_true rfl) dX12_cell_11 (s_X12_copies _ q4_e hG) (fun r1 h1 hq => ?_)
    obtain ⟨rfl, hq, hG⟩ := hq
    replace hq := hq.symm
    subst hq
    simp only [Option.toList, List.nil_append]
    refine v_iload_n (i := 2) dX12_cell_14 rfl rfl ?_
    by_cases c6 : x2 = 0
    · rw [if_pos c6] at hF
      refine v_tableIn (off := 37) 52 dX12_cell_15 (by rw [c6]; decide) (by rw [c6]; decide) (by rw [c6]; decide +kernel) (by decide) ?_
      refine v_aload_n (i := 0) dX12_cell_52 rfl rfl ?_
      refine g_X12_128 (q := 263) rfl sh_226 (by exact ltG hG (by decide)) (by exact rG hG r0_226_54) dX12_cell_53 ?_
      refine v_iload_n (i := 1) dX12_cell_56 rfl rfl ?_
      obtain ⟨k7, hF⟩ := ck_some hF
      refine v_iaload sh_263 (by exact ltG hG (by decide)) (ixO k7) dX12_cell_57 ?_
      refine v_if_ne 66 dX12_cell_58 (by decide) (fun c8 => ?_) (fun c8 => ?_)
      · rw [if_neg c8] at hF
        refine v_aload_n (i := 0) dX12_cell_66 rfl rfl ?_
        refine g_X12_128 (q := 263) rfl sh_226 (by exact ltG hG (by decide)) (by exact rG hG r0_226_54) dX12_cell_67 ?_
        refine v_iload_n (i := 1) dX12_cell_70 rfl rfl ?_
        obtain ⟨k9, hF⟩ := ck_some hF
        refine v_iaload sh_263 (by exact ltG hG (by decide)) (ixO k9) dX12_cell_71 ?_
        refine v_ireturn rfl dX12_cell_72 ?_
        obtain ⟨rfl, rfl⟩ := Prod.mk.inj (Option.some.inj hF)
        exact ⟨rfl, rfl, hG⟩
      · rw [if_pos c8] at hF
        refine v_bipush (v := (-2)) dX12_cell_61 (by decide) ?_
        refine v_goto 72 dX12_cell_63 (by decide) ?_
        refine v_ireturn rfl dX12_cell_72 ?_
        obtain ⟨rfl, rfl⟩ := Prod.mk.inj (Option.some.inj hF)
        exact ⟨rfl, rfl, hG⟩
    rw [if_neg c6] at hF
    by_cases c10 : x2 = 1
    · rw [if_pos c10] at hF
      refine v_tableIn (off := 58) 73 dX12_cell_15 (by rw [c10]; decide) (by rw [c10]; decide) (by rw [c10]; decide +kernel) (by decide) ?_
      refine v_aload_n (i := 0) dX12_cell_73 rfl rfl ?_
      refine g_X12_128 (q := 263) rfl sh_226 (by exact ltG hG (by decide)) (by exact rG hG r0_226_54) dX12_cell_74 ?_
      refine v_iload_n (i := 1) dX12_cell_77 rfl rfl ?_
      obtain ⟨k11, hF⟩ := ck_some hF
      refine v_iaload sh_263 (by exact ltG hG (by decide)) (ixO k11) dX12_cell_78 ?_
      refine v_if_ne 87 dX12_cell_79 (by decide) (fun c12 => ?_) (fun c12 => ?_)
      · rw [if_neg c12] at hF
        refine v_aload_n (i := 0) dX12_cell_87 rfl rfl ?_
        refine g_X12_128 (q := 263) rfl sh_226 (by exact ltG hG (by decide)) (by exact rG hG r0_226_54) dX12_cell_88 ?_
        refine v_bipush (v := 25) dX12_cell_91 (by decide) ?_
        refine v_iload_n (i := 1) dX12_cell_93 rfl rfl ?_
        refine v_iadd dX12_cell_94 ?_
        obtain ⟨k13, hF⟩ := ck_some hF
        refine v_iaload sh_263 (by exact ltG hG (by decide)) (ixO k13) dX12_cell_95 ?_
        refine v_ireturn rfl dX12_cell_96 ?_
        obtain ⟨rfl, rfl⟩ := Prod.mk.inj (Option.some.inj hF)
        exact ⟨rfl, rfl, hG⟩
      · rw [if_pos c12] at hF
        refine v_bipush (v := (-2)) dX12_cell_82 (by decide) ?_
        refine v_goto 96 dX12_cell_84 (by decide) ?_
        refine v_ireturn rfl dX12_cell_96 ?_
        obtain ⟨rfl, rfl⟩ := Prod.mk.inj (Option.some.inj hF)
        exact ⟨rfl, rfl, hG⟩
    rw [if_neg c10] at hF
    by_cases c14 : x2 = 2
    · rw [if_pos c14] at hF
      refine v_tableIn (off := 82) 97 dX12_cell_15 (by rw [c14]; decide) (by rw [c14]; decide) (by rw [c14]; decide +kernel) (by decide) ?_
      refine v_aload_n (i := 0) dX12_cell_97 rfl rfl ?_
      refine v_iload_n (i := 1) dX12_cell_98 rfl rfl ?_
      refine v_aload_n (i := 0) dX12_cell_99 rfl rfl ?_
      refine g_X12_128 (q := 263) rfl sh_226 (by exact ltG hG (by decide)) (by exact rG hG r0_226_54) dX12_cell_100 ?_
      refine v_bipush (v := 61) dX12_cell_103 (by decide) ?_
      refine v_iaload sh_263 (by exact ltG hG (by decide)) (ixK 61 (by decide)) dX12_cell_105 ?_
      obtain ⟨q15, q15_e, hF⟩ := Option.bind_eq_some_iff.mp hF
      refine c_X12_353 rfl sh_226 (by exact ltG hG (by decide)) (Nat.le_of_ble_eq_true rfl) dX12_cell_106 (s_X12_isLoud _ q15_e hG) (fun r1 h1 hq => ?_)
      obtain ⟨rfl, hq, hG⟩ := hq
      replace hq := hq.symm
      subst hq
      show V _ _ _ _ (_ :: _) _ _
      refine v_if_eq 116 dX12_cell_109 (by decide) (fun c17 => ?_) (fun c17 => ?_)
      · rw [if_pos c17] at hF
        refine v_iconst (v := 0) dX12_cell_116 (by decide) ?_
        refine v_ireturn rfl dX12_cell_117 ?_
        obtain ⟨rfl, rfl⟩ := Prod.mk.inj (Option.some.inj hF)
        exact ⟨rfl, rfl, hG⟩
      · rw [if_neg c17] at hF
        refine v_iconst (v := 1) dX12_cell_112 (by decide) ?_
        refine v_goto 117 dX12_cell_113 (by decide) ?_
        refine v_ireturn rfl dX12_cell_117 ?_
        obtain ⟨rfl, rfl⟩ := Prod.mk.inj (Option.some.inj hF)
        exact ⟨rfl, rfl, hG⟩
    rw [if_neg c14] at hF
    by_cases c18 : x2 = 3
    · rw [if_pos c18] at hF
      refine v_tableIn (off := 103) 118 dX12_cell_15 (by rw [c18]; decide) (by rw [c18]; decide) (by rw [c18]; decide +kernel) (by decide) ?_
      refine v_aload_n (i := 0) dX12_cell_118 rfl rfl ?_
      refine v_iload_n (i := 1) dX12_cell_119 rfl rfl ?_
      obtain ⟨q19, q19_e, hF⟩ := Option.bind_eq_some_iff.mp hF
      refine c_X12_372 rfl sh_226 (by exact ltG hG (by decide)) (Nat.le_of_ble_eq_true rfl) dX12_cell_120 (s_X12_isRoped _ q19_e hG) (fun r1 h1 hq => ?_)
      obtain ⟨rfl, hq, hG⟩ := hq
      replace hq := hq.symm
      subst hq
      show V _ _ _ _ (_ :: _) _ _
      refine v_if_eq 130 dX12_cell_123 (by decide) (fun c21 => ?_) (fun c21 => ?_)
      · rw [if_pos c21] at hF
        refine v_iconst (v := 0) dX12_cell_130 (by decide) ?_
        refine v_ireturn rfl dX12_cell_131 ?_
        obtain ⟨rfl, rfl⟩ := Prod.mk.inj (Option.some.inj hF)
        exact ⟨rfl, rfl, hG⟩
      · rw [if_neg c21] at hF
        refine v_iconst (v := 1) dX12_cell_126 (by decide) ?_
        refine v_goto 131 dX12_cell_127 (by decide) ?_
        refine v_ireturn rfl dX12_cell_131 ?_
        obtain ⟨rfl, rfl⟩ := Prod.mk.inj (Option.some.inj hF)
        exact ⟨rfl, rfl, hG⟩
    rw [if_neg c18] at hF
    by_cases c22 : x2 = 4
    · rw [if_pos c22] at hF
      refine v_tableIn (off := 117) 132 dX12_cell_15 (by rw [c22]; decide) (by rw [c22]; decide) (by rw [c22]; decide +kernel) (by decide) ?_
      refine v_aload_n (i := 0) dX12_cell_132 rfl rfl ?_
      refine v_iload_n (i := 1) dX12_cell_133 rfl rfl ?_
      obtain ⟨q23, q23_e, hF⟩ := Option.bind_eq_some_iff.mp hF
      refine c_X12_406 rfl sh_226 (by exact ltG hG (by decide)) (Nat.le_of_ble_eq_true rfl) dX12_cell_134 (s_X12_whoAt _ q23_e hG) (fun r1 h1 hq => ?_)
      obtain ⟨rfl, hq, hG⟩ := hq
      replace hq := hq.symm
      subst hq
      show V _ _ _ _ (_ :: _) _ _
      refine v_ireturn rfl dX12_cell_137 ?_
      obtain ⟨rfl, rfl⟩ := Prod.mk.inj (Option.some.inj hF)
      exact ⟨rfl, rfl, hG⟩
    rw [if_neg c22] at hF
    by_cases c25 : x2 = 5
    · rw [if_pos c25] at hF
      refine v_tableIn (off := 123) 138 dX12_cell_15 (by rw [c25]; decide) (by rw [c25]; decide) (by rw [c25]; decide +kernel) (by decide) ?_
      refine v_aload_n (i := 0) dX12_cell_138 rfl rfl ?_
      refine v_iload_n (i := 1) dX12_cell_139 rfl rfl ?_
      obtain ⟨q26, q26_e, hF⟩ := Option.bind_eq_some_iff.mp hF
      refine c_X12_382 rfl sh_226 (by exact ltG hG (by decide)) (Nat.le_of_ble_eq_true rfl) dX12_cell_140 (s_X12_costsOf _ q26_e hG) (fun r1 h1 hq => ?_)
      obtain ⟨rfl, hq, hG⟩ := hq
      replace hq := hq.symm
      subst hq
      show V _ _ _ _ (_ :: _) _ _
      refine v_ireturn rfl dX12_cell_143 ?_
      obtain ⟨rfl, rfl⟩ := Prod.mk.inj (Option.some.inj hF)
      exact ⟨rfl, rfl, hG⟩
    rw [if_neg c25] at hF
    have e_c6 : ¬ (x2 : Int32).toInt = 0 := fun q => c6 (Int32.toInt_inj.mp (q.trans (by decide)))
    have e_c10 : ¬ (x2 : Int32).toInt = 1 := fun q => c10 (Int32.toInt_inj.mp (q.trans (by decide)))
    have e_c14 : ¬ (x2 : Int32).toInt = 2 := fun q => c14 (Int32.toInt_inj.mp (q.trans (by decide)))
    have e_c18 : ¬ (x2 : Int32).toInt = 3 := fun q => c18 (Int32.toInt_inj.mp (q.trans (by decide)))
    have e_c22 : ¬ (x2 : Int32).toInt = 4 := fun q => c22 (Int32.toInt_inj.mp (q.trans (by decide)))
    have e_c25 : ¬ (x2 : Int32).toInt = 5 := fun q => c25 (Int32.toInt_inj.mp (q.trans (by decide)))
    refine v_tableOut 144 dX12_cell_15 (by omega) (by decide) ?_
    refine v_iconst (v := (-1)) dX12_cell_144 (by decide) ?_
    refine v_ireturn rfl dX12_cell_145 ?_
    obtain ⟨rfl, rfl⟩ := Prod.mk.inj (Option.some.inj hF)
    exact ⟨rfl, rfl, hG⟩
  · rw [if_pos c3] at hF
    refine v_iconst (v := (-1)) dX12_cell_8 (by decide) ?_
    refine v_ireturn rfl dX12_cell_9 ?_
    obtain ⟨rfl, rfl⟩ := Prod.mk.inj (Option.some.inj hF)
    exact ⟨rfl, rfl, hG⟩
def W_X12_costsAll : Nat → Nat → Hp → Int32 → Int32 → Option (Int32 × Hp)
  | 0 => fun _ _ _ _ => none
  | n + 1 => fun hd h l1 l2 => (if hd = 4 then ((F_X12_cells n h).bind (fun q1 => (if (q1.1 : Int32) ≤ (l2 : Int32) then some (l1, q1.2) else (if ixOK l2 63 = true then (if ((hi q1.2 263 (Int32.toNatClampNeg l2)) : Int32) ≤ 0 then W_X12_costsAll n 4 q1.2  l1 (l2 + 1) else ((F_X12_costsOf n q1.2 l2).bind (fun q6 => W_X12_costsAll n 4 q6.2  (l1 + q6.1) (l2 + 1)))) else none)))) else none)
set_option maxRecDepth 100000 in
set_option maxHeartbeats 4000000 in
theorem sw_X12_costsAll (d : Nat)  (n : Nat) : (∀ (l1 : Int32) (l2 : Int32) (h : Hp), ∀ (r : Int32) (h' : Hp), W_X12_costsAll n 4 h  l1 l2 = some (r, h') → G h → V mX12_costsAll (d + 4) 4 [some (.ref 226), some (.int l1), some (.int l2)] [] h (fun r1 h1 => r1 = some (.int r) ∧ h1 = h' ∧ G h')) := by
  induction n with
  | zero => exact by intros; contradiction
  | succ n ih =>
    have s_X12_costsAll_IH_4 := ih
    intro l1 l2 h r h' hF hG
    unfold W_X12_costsAll at hF
    rw [if_pos rfl] at hF
    refine v_iload_n (i := 2) dX12_costsAll_4 rfl rfl ?_
    refine v_aload_n (i := 0) dX12_costsAll_5 rfl rfl ?_
    obtain ⟨q1, q1_e, hF⟩ := Option.bind_eq_some_iff.mp hF
    refine c_X12_326 rfl sh_226 (by exact ltG hG (by decide)) (Nat.le_of_ble_eq_true rfl) dX12_costsAll_6 (s_X12_cells _ q1_e hG) (fun r1 h1 hq => ?_)
    obtain ⟨rfl, hq, hG⟩ := hq
    replace hq := hq.symm
    subst hq
    show V _ _ _ _ (_ :: _) _ _
    refine v_icmp_ge 35 dX12_costsAll_9 (by decide) (fun c3 => ?_) (fun c3 => ?_)
    · rw [if_pos c3] at hF
      refine v_iload_n (i := 1) dX12_costsAll_35 rfl rfl ?_
      refine v_ireturn rfl dX12_costsAll_36 ?_
      obtain ⟨rfl, rfl⟩ := Prod.mk.inj (Option.some.inj hF)
      exact ⟨rfl, rfl, hG⟩
    · rw [if_neg c3] at hF
      refine v_aload_n (i := 0) dX12_costsAll_12 rfl rfl ?_
      refine g_X12_128 (q := 263) rfl sh_226 (by exact ltG hG (by decide)) (by exact rG hG r0_226_54) dX12_costsAll_13 ?_
      refine v_iload_n (i := 2) dX12_costsAll_16 rfl rfl ?_
      obtain ⟨k4, hF⟩ := ck_some hF
      refine v_iaload sh_263 (by exact ltG hG (by decide)) (ixO k4) dX12_costsAll_17 ?_
      refine v_if_le 29 dX12_costsAll_18 (by decide) (fun c5 => ?_) (fun c5 => ?_)
      · rw [if_pos c5] at hF
        refine v_iinc (i := 2) (v := (l2 + 1)) dX12_costsAll_29 rfl rfl (by decide) (nlT rfl) ?_
        simp only [List.set_cons_zero, List.set_cons_succ]
        refine v_goto 4 dX12_costsAll_32 (by decide) ?_
        refine V.weak (la2 := [some (.ref 226), some (.int l1), some (.int (l2 + 1))]) (by simp [wk]) ?_
        exact (s_X12_costsAll_IH_4) _ _ _ _ _ hF hG
      · rw [if_neg c5] at hF
        refine v_iload_n (i := 1) dX12_costsAll_21 rfl rfl ?_
        refine v_aload_n (i := 0) dX12_costsAll_22 rfl rfl ?_
        refine v_iload_n (i := 2) dX12_costsAll_23 rfl rfl ?_
        obtain ⟨q6, q6_e, hF⟩ := Option.bind_eq_some_iff.mp hF
        refine c_X12_382 rfl sh_226 (by exact ltG hG (by decide)) (Nat.le_of_ble_eq_true rfl) dX12_costsAll_24 (s_X12_costsOf _ q6_e hG) (fun r1 h1 hq => ?_)
        obtain ⟨rfl, hq, hG⟩ := hq
        replace hq := hq.symm
        subst hq
        show V _ _ _ _ (_ :: _) _ _
        refine v_iadd dX12_costsAll_27 ?_
        refine v_istore_n (i := 1) dX12_costsAll_28 rfl (by decide) (nlT rfl) ?_
        simp only [List.set_cons_zero, List.set_cons_succ]
        refine v_iinc (i := 2) (v := (l2 + 1)) dX12_costsAll_29 rfl rfl (by decide) (nlT rfl) ?_
        simp only [List.set_cons_zero, List.set_cons_succ]
        refine v_goto 4 dX12_costsAll_32 (by decide) ?_
        refine V.weak (la2 := [some (.ref 226), some (.int (l1 + q6.1)), some (.int (l2 + 1))]) (by simp [wk]) ?_
        exact (s_X12_costsAll_IH_4) _ _ _ _ _ hF hG
def F_X12_costsAll (n : Nat) (h : Hp) : Option (Int32 × Hp) := W_X12_costsAll n 4 h  0 0
set_option maxRecDepth 100000 in
set_option maxHeartbeats 4000000 in
theorem s_X12_costsAll (d : Nat) {n : Nat} {h : Hp}  {q0 : (Int32 × Hp)} (hF : F_X12_costsAll n h  = some q0) (hG : G h)  : Kc mX12_costsAll (d + 4) [.ref 226] h (fun r1 h1 => r1 = some (.int q0.1) ∧ h1 = q0.2 ∧ G q0.2) := by
  obtain ⟨r, h'⟩ := q0
  have s_X12_costsAll_IH_4 := sw_X12_costsAll d   n
  unfold F_X12_costsAll at hF
  refine Kc.of [some (.ref 226), none, none] ok_X12_costsAll rfl (Nat.le_of_ble_eq_true rfl) ?_
  refine v_iconst (v := 0) dX12_costsAll_0 (by decide) ?_
  refine v_istore_n (i := 1) dX12_costsAll_1 rfl (by decide) (nlT rfl) ?_
  simp only [List.set_cons_zero, List.set_cons_succ]
  refine v_iconst (v := 0) dX12_costsAll_2 (by decide) ?_
  refine v_istore_n (i := 2) dX12_costsAll_3 rfl (by decide) (nlT rfl) ?_
  simp only [List.set_cons_zero, List.set_cons_succ]
  refine V.weak (la2 := [some (.ref 226), some (.int 0), some (.int 0)]) (by simp [wk]) ?_
  exact (s_X12_costsAll_IH_4) _ _ _ _ _ hF hG
def W_X12_count : Nat → Nat → Hp → Int32 → Int32 → Int32 → Option (Int32 × Hp)
  | 0 => fun _ _ _ _ _ => none
  | n + 1 => fun hd h l1 l2 l3 => (if hd = 321 then (if ixOK (hi h 226 18) 2 = true then (if ((hi h 242 (Int32.toNatClampNeg (hi h 226 18))) : Int32) ≤ (l3 : Int32) then some (l2, h) else (if ixOK (56 + l3) 63 = true then (if ((hi h 263 (Int32.toNatClampNeg (56 + l3))) : Int32) ≤ 0 then W_X12_count n 321 h  l1 l2 (l3 + 1) else W_X12_count n 321 h  l1 ((l2 : Int32) ||| (((1 : Int32) <<< ((l3 : Int32) &&& 31)) : Int32)) (l3 + 1)) else none)) else none) else none)
set_option maxRecDepth 100000 in
set_option maxHeartbeats 4000000 in
theorem sw_X12_count (d : Nat)  (n : Nat) : (∀ (l1 : Int32) (l2 : Int32) (l3 : Int32) (h : Hp), ∀ (r : Int32) (h' : Hp), W_X12_count n 321 h  l1 l2 l3 = some (r, h') → G h → V mX12_count (d + 5) 321 [some (.ref 226), some (.int l1), some (.int l2), some (.int l3)] [] h (fun r1 h1 => r1 = some (.int r) ∧ h1 = h' ∧ G h')) := by
  induction n with
  | zero => exact by intros; contradiction
  | succ n ih =>
    have s_X12_count_IH_321 := ih
    intro l1 l2 l3 h r h' hF hG
    unfold W_X12_count at hF
    rw [if_pos rfl] at hF
    refine v_iload_n (i := 3) dX12_count_321 rfl rfl ?_
    refine v_aload_n (i := 0) dX12_count_322 rfl rfl ?_
    refine g_X12_64 (q := 242) rfl sh_226 (by exact ltG hG (by decide)) (by exact rG hG r0_226_29) dX12_count_323 ?_
    refine v_aload_n (i := 0) dX12_count_326 rfl rfl ?_
    refine g_X12_245 rfl sh_226 (by exact ltG hG (by decide)) dX12_count_327 ?_
    obtain ⟨k1, hF⟩ := ck_some hF
    refine v_iaload sh_242 (by exact ltG hG (by decide)) (ixO k1) dX12_count_330 ?_
    refine v_icmp_ge 358 dX12_count_331 (by decide) (fun c2 => ?_) (fun c2 => ?_)
    · rw [if_pos c2] at hF
      refine v_iload_n (i := 2) dX12_count_358 rfl rfl ?_
      refine v_ireturn rfl dX12_count_359 ?_
      obtain ⟨rfl, rfl⟩ := Prod.mk.inj (Option.some.inj hF)
      exact ⟨rfl, rfl, hG⟩
    · rw [if_neg c2] at hF
      refine v_aload_n (i := 0) dX12_count_334 rfl rfl ?_
      refine g_X12_128 (q := 263) rfl sh_226 (by exact ltG hG (by decide)) (by exact rG hG r0_226_54) dX12_count_335 ?_
      refine v_bipush (v := 56) dX12_count_338 (by decide) ?_
      refine v_iload_n (i := 3) dX12_count_340 rfl rfl ?_
      refine v_iadd dX12_count_341 ?_
      obtain ⟨k3, hF⟩ := ck_some hF
      refine v_iaload sh_263 (by exact ltG hG (by decide)) (ixO k3) dX12_count_342 ?_
      refine v_if_le 352 dX12_count_343 (by decide) (fun c4 => ?_) (fun c4 => ?_)
      · rw [if_pos c4] at hF
        refine v_iinc (i := 3) (v := (l3 + 1)) dX12_count_352 rfl rfl (by decide) (nlT rfl) ?_
        simp only [List.set_cons_zero, List.set_cons_succ]
        refine v_goto 321 dX12_count_355 (by decide) ?_
        refine V.weak (la2 := [some (.ref 226), some (.int l1), some (.int l2), some (.int (l3 + 1))]) (by simp [wk]) ?_
        exact (s_X12_count_IH_321) _ _ _ _ _ _ hF hG
      · rw [if_neg c4] at hF
        refine v_iload_n (i := 2) dX12_count_346 rfl rfl ?_
        refine v_iconst (v := 1) dX12_count_347 (by decide) ?_
        refine v_iload_n (i := 3) dX12_count_348 rfl rfl ?_
        refine v_ishl dX12_count_349 ?_
        refine v_ior dX12_count_350 ?_
        refine v_istore_n (i := 2) dX12_count_351 rfl (by decide) (nlT rfl) ?_
        simp only [List.set_cons_zero, List.set_cons_succ]
        refine v_iinc (i := 3) (v := (l3 + 1)) dX12_count_352 rfl rfl (by decide) (nlT rfl) ?_
        simp only [List.set_cons_zero, List.set_cons_succ]
        refine v_goto 321 dX12_count_355 (by decide) ?_
        refine V.weak (la2 := [some (.ref 226), some (.int l1), some (.int ((l2 : Int32) ||| (((1 : Int32) <<< ((l3 : Int32) &&& 31)) : Int32))), some (.int (l3 + 1))]) (by simp [wk]) ?_
        exact (s_X12_count_IH_321) _ _ _ _ _ _ hF hG
def F_X12_count (n : Nat) (h : Hp) (x1 : Int32) : Option (Int32 × Hp) := ((F_X12_copies n h).bind (fun q5 => (if x1 = 0 then (if ixOK (hi q5 226 18) 2 = true then some ((hi q5 235 (Int32.toNatClampNeg (hi q5 226 18))), q5) else none) else (if x1 = 1 then (if ixOK (hi q5 226 18) 2 = true then some ((hi q5 236 (Int32.toNatClampNeg (hi q5 226 18))), q5) else none) else (if x1 = 2 then (if ixOK (hi q5 226 18) 2 = true then some ((hi q5 242 (Int32.toNatClampNeg (hi q5 226 18))), q5) else none) else (if x1 = 3 then some ((hi q5 263 61), q5) else (if x1 = 4 then some ((hi q5 263 62), q5) else (if x1 = 5 then ((F_X12_tuneBits n q5).bind (fun q16 => some (q16.1, q16.2))) else (if x1 = 6 then some ((hi q5 263 50), q5) else (if x1 = 7 then ((F_X12_goerBits n q5).bind (fun q20 => some (q20.1, q20.2))) else (if x1 = 8 then some ((hi q5 226 2), q5) else (if x1 = 9 then some ((hi q5 226 59), q5) else (if x1 = 10 then some ((hi q5 226 65), q5) else (if x1 = 11 then (if ((vp_nar .boolean (hi q5 273 0)) : Int32) = 0 then (if ((vp_nar .boolean (hi q5 273 1)) : Int32) = 0 then (if ((vp_nar .boolean (hi q5 273 2)) : Int32) = 0 then some (((0 + 0) + 0), q5) else some (((0 + 0) + 1), q5)) else (if ((vp_nar .boolean (hi q5 273 2)) : Int32) = 0 then some (((0 + 1) + 0), q5) else some (((0 + 1) + 1), q5))) else (if ((vp_nar .boolean (hi q5 273 1)) : Int32) = 0 then (if ((vp_nar .boolean (hi q5 273 2)) : Int32) = 0 then some (((1 + 0) + 0), q5) else some (((1 + 0) + 1), q5)) else (if ((vp_nar .boolean (hi q5 273 2)) : Int32) = 0 then some (((1 + 1) + 0), q5) else some (((1 + 1) + 1), q5)))) else (if x1 = 12 then ((F_X12_loudBits n q5 (hi q5 263 61)).bind (fun q34 => some (q34.1, q34.2))) else (if x1 = 13 then some ((((((hi q5 263 56) + (hi q5 263 57)) + (hi q5 263 58)) + (hi q5 263 59)) + (hi q5 263 60)), q5) else (if x1 = 14 then ((F_X12_tuneBits n q5).bind (fun q38 => ((F_X12_bits n q38.2 q38.1).bind (fun q40 => some (q40.1, q40.2))))) else (if x1 = 15 then ((F_X12_costsAll n q5).bind (fun q43 => some (q43.1, q43.2))) else (if x1 = 16 then ((F_X12_freeBits n q5).bind (fun q46 => ((F_X12_tuneBits n q46.2).bind (fun q48 => ((F_X12_goerBits n q48.2).bind (fun q50 => some (((((q46.1 : Int32) &&& (((q48.1 : Int32) ^^^ ((-1) : Int32)) : Int32)) : Int32) &&& (((q50.1 : Int32) ^^^ ((-1) : Int32)) : Int32)), q50.2))))))) else (if x1 = 17 then ((F_X12_bits n q5 (hi q5 263 50)).bind (fun q53 => some (q53.1, q53.2))) else (if x1 = 18 then W_X12_count n 321 q5  x1 0 0 else (if x1 = 19 then (if ixOK (hi q5 226 18) 2 = true then some ((hi q5 248 (Int32.toNatClampNeg (hi q5 226 18))), q5) else none) else some ((-1), q5)))))))))))))))))))))))
set_option maxRecDepth 100000 in
set_option maxHeartbeats 4000000 in
theorem s_X12_count (d : Nat) {n : Nat} {h : Hp} {x1 : Int32} {q0 : (Int32 × Hp)} (hF : F_X12_count n h x1 = some q0) (hG : G h)  : Kc mX12_count (d + 5) [.ref 226, .int x1] h (fun r1 h1 => r1 = some (.int q0.1) ∧ h1 = q0.2 ∧ G q0.2) := by
  obtain ⟨r, h'⟩ := q0
  have s_X12_count_IH_321 := sw_X12_count d   n
  unfold F_X12_count at hF
  refine Kc.of [some (.ref 226), some (.int x1), none, none] ok_X12_count rfl (Nat.le_of_ble_eq_true rfl) ?_
  refine v_aload_n (i := 0) dX12_count_0 rfl rfl ?_
  obtain ⟨q5, q5_e, hF⟩ := Option.bind_eq_some_iff.mp hF
  refine c_X12_346 rfl sh_226 (by exact ltG hG (by decide)) (Nat.le_of_ble_eq_true rfl) dX12_count_1 (s_X12_copies _ q5_e hG) (fun r1 h1 hq => ?_)
  obtain ⟨rfl, hq, hG⟩ := hq
  replace hq := hq.symm
  subst hq
  simp only [Option.toList, List.nil_append]
  refine v_iconst (v := 0) dX12_count_4 (by decide) ?_
  refine v_istore_n (i := 2) dX12_count_5 rfl (by decide) (nlT rfl) ?_
  simp only [List.set_cons_zero, List.set_cons_succ]
  refine v_iload_n (i := 1) dX12_count_6 rfl rfl ?_
  by_cases c7 : x1 = 0
  · rw [if_pos c7] at hF
    refine v_tableIn (off := 93) 100 dX12_count_7 (by rw [c7]; decide) (by rw [c7]; decide) (by rw [c7]; decide +kernel) (by decide) ?_
    refine v_aload_n (i := 0) dX12_count_100 rfl rfl ?_
    refine g_X12_43 (q := 235) rfl sh_226 (by exact ltG hG (by decide)) (by exact rG hG r0_226_22) dX12_count_101 ?_
    refine v_aload_n (i := 0) dX12_count_104 rfl rfl ?_
    refine g_X12_245 rfl sh_226 (by exact ltG hG (by decide)) dX12_count_105 ?_
    obtain ⟨k8, hF⟩ := ck_some hF
    refine v_iaload sh_235 (by exact ltG hG (by decide)) (ixO k8) dX12_count_108 ?_
    refine v_ireturn rfl dX12_count_109 ?_
    obtain ⟨rfl, rfl⟩ := Prod.mk.inj (Option.some.inj hF)
    exact ⟨rfl, rfl, hG⟩
  rw [if_neg c7] at hF
  by_cases c9 : x1 = 1
  · rw [if_pos c9] at hF
    refine v_tableIn (off := 103) 110 dX12_count_7 (by rw [c9]; decide) (by rw [c9]; decide) (by rw [c9]; decide +kernel) (by decide) ?_
    refine v_aload_n (i := 0) dX12_count_110 rfl rfl ?_
    refine g_X12_46 (q := 236) rfl sh_226 (by exact ltG hG (by decide)) (by exact rG hG r0_226_23) dX12_count_111 ?_
    refine v_aload_n (i := 0) dX12_count_114 rfl rfl ?_
    refine g_X12_245 rfl sh_226 (by exact ltG hG (by decide)) dX12_count_115 ?_
    obtain ⟨k10, hF⟩ := ck_some hF
    refine v_iaload sh_236 (by exact ltG hG (by decide)) (ixO k10) dX12_count_118 ?_
    refine v_ireturn rfl dX12_count_119 ?_
    obtain ⟨rfl, rfl⟩ := Prod.mk.inj (Option.some.inj hF)
    exact ⟨rfl, rfl, hG⟩
  rw [if_neg c9] at hF
  by_cases c11 : x1 = 2
  · rw [if_pos c11] at hF
    refine v_tableIn (off := 113) 120 dX12_count_7 (by rw [c11]; decide) (by rw [c11]; decide) (by rw [c11]; decide +kernel) (by decide) ?_
    refine v_aload_n (i := 0) dX12_count_120 rfl rfl ?_
    refine g_X12_64 (q := 242) rfl sh_226 (by exact ltG hG (by decide)) (by exact rG hG r0_226_29) dX12_count_121 ?_
    refine v_aload_n (i := 0) dX12_count_124 rfl rfl ?_
    refine g_X12_245 rfl sh_226 (by exact ltG hG (by decide)) dX12_count_125 ?_
    obtain ⟨k12, hF⟩ := ck_some hF
    refine v_iaload sh_242 (by exact ltG hG (by decide)) (ixO k12) dX12_count_128 ?_
    refine v_ireturn rfl dX12_count_129 ?_
    obtain ⟨rfl, rfl⟩ := Prod.mk.inj (Option.some.inj hF)
    exact ⟨rfl, rfl, hG⟩
  rw [if_neg c11] at hF
  by_cases c13 : x1 = 3
  · rw [if_pos c13] at hF
    refine v_tableIn (off := 123) 130 dX12_count_7 (by rw [c13]; decide) (by rw [c13]; decide) (by rw [c13]; decide +kernel) (by decide) ?_
    refine v_aload_n (i := 0) dX12_count_130 rfl rfl ?_
    refine g_X12_128 (q := 263) rfl sh_226 (by exact ltG hG (by decide)) (by exact rG hG r0_226_54) dX12_count_131 ?_
    refine v_bipush (v := 61) dX12_count_134 (by decide) ?_
    refine v_iaload sh_263 (by exact ltG hG (by decide)) (ixK 61 (by decide)) dX12_count_136 ?_
    refine v_ireturn rfl dX12_count_137 ?_
    obtain ⟨rfl, rfl⟩ := Prod.mk.inj (Option.some.inj hF)
    exact ⟨rfl, rfl, hG⟩
  rw [if_neg c13] at hF
  by_cases c14 : x1 = 4
  · rw [if_pos c14] at hF
    refine v_tableIn (off := 131) 138 dX12_count_7 (by rw [c14]; decide) (by rw [c14]; decide) (by rw [c14]; decide +kernel) (by decide) ?_
    refine v_aload_n (i := 0) dX12_count_138 rfl rfl ?_
    refine g_X12_128 (q := 263) rfl sh_226 (by exact ltG hG (by decide)) (by exact rG hG r0_226_54) dX12_count_139 ?_
    refine v_bipush (v := 62) dX12_count_142 (by decide) ?_
    refine v_iaload sh_263 (by exact ltG hG (by decide)) (ixK 62 (by decide)) dX12_count_144 ?_
    refine v_ireturn rfl dX12_count_145 ?_
    obtain ⟨rfl, rfl⟩ := Prod.mk.inj (Option.some.inj hF)
    exact ⟨rfl, rfl, hG⟩
  rw [if_neg c14] at hF
  by_cases c15 : x1 = 5
  · rw [if_pos c15] at hF
    refine v_tableIn (off := 139) 146 dX12_count_7 (by rw [c15]; decide) (by rw [c15]; decide) (by rw [c15]; decide +kernel) (by decide) ?_
    refine v_aload_n (i := 0) dX12_count_146 rfl rfl ?_
    obtain ⟨q16, q16_e, hF⟩ := Option.bind_eq_some_iff.mp hF
    refine c_X12_359 rfl sh_226 (by exact ltG hG (by decide)) (Nat.le_of_ble_eq_true rfl) dX12_count_147 (s_X12_tuneBits _ q16_e hG) (fun r1 h1 hq => ?_)
    obtain ⟨rfl, hq, hG⟩ := hq
    replace hq := hq.symm
    subst hq
    show V _ _ _ _ (_ :: _) _ _
    refine v_ireturn rfl dX12_count_150 ?_
    obtain ⟨rfl, rfl⟩ := Prod.mk.inj (Option.some.inj hF)
    exact ⟨rfl, rfl, hG⟩
  rw [if_neg c15] at hF
  by_cases c18 : x1 = 6
  · rw [if_pos c18] at hF
    refine v_tableIn (off := 144) 151 dX12_count_7 (by rw [c18]; decide) (by rw [c18]; decide) (by rw [c18]; decide +kernel) (by decide) ?_
    refine v_aload_n (i := 0) dX12_count_151 rfl rfl ?_
    refine g_X12_128 (q := 263) rfl sh_226 (by exact ltG hG (by decide)) (by exact rG hG r0_226_54) dX12_count_152 ?_
    refine v_bipush (v := 50) dX12_count_155 (by decide) ?_
    refine v_iaload sh_263 (by exact ltG hG (by decide)) (ixK 50 (by decide)) dX12_count_157 ?_
    refine v_ireturn rfl dX12_count_158 ?_
    obtain ⟨rfl, rfl⟩ := Prod.mk.inj (Option.some.inj hF)
    exact ⟨rfl, rfl, hG⟩
  rw [if_neg c18] at hF
  by_cases c19 : x1 = 7
  · rw [if_pos c19] at hF
    refine v_tableIn (off := 152) 159 dX12_count_7 (by rw [c19]; decide) (by rw [c19]; decide) (by rw [c19]; decide +kernel) (by decide) ?_
    refine v_aload_n (i := 0) dX12_count_159 rfl rfl ?_
    obtain ⟨q20, q20_e, hF⟩ := Option.bind_eq_some_iff.mp hF
    refine c_X12_477 rfl sh_226 (by exact ltG hG (by decide)) (Nat.le_of_ble_eq_true rfl) dX12_count_160 (s_X12_goerBits _ q20_e hG) (fun r1 h1 hq => ?_)
    obtain ⟨rfl, hq, hG⟩ := hq
    replace hq := hq.symm
    subst hq
    show V _ _ _ _ (_ :: _) _ _
    refine v_ireturn rfl dX12_count_163 ?_
    obtain ⟨rfl, rfl⟩ := Prod.mk.inj (Option.some.inj hF)
    exact ⟨rfl, rfl, hG⟩
  rw [if_neg c19] at hF
  by_cases c22 : x1 = 8
  · rw [if_pos c22] at hF
    refine v_tableIn (off := 157) 164 dX12_count_7 (by rw [c22]; decide) (by rw [c22]; decide) (by rw [c22]; decide +kernel) (by decide) ?_
    refine v_aload_n (i := 0) dX12_count_164 rfl rfl ?_
    refine g_X12_178 rfl sh_226 (by exact ltG hG (by decide)) dX12_count_165 ?_
    refine v_ireturn rfl dX12_count_168 ?_
    obtain ⟨rfl, rfl⟩ := Prod.mk.inj (Option.some.inj hF)
    exact ⟨rfl, rfl, hG⟩
  rw [if_neg c22] at hF
  by_cases c23 : x1 = 9
  · rw [if_pos c23] at hF
    refine v_tableIn (off := 162) 169 dX12_count_7 (by rw [c23]; decide) (by rw [c23]; decide) (by rw [c23]; decide +kernel) (by decide) ?_
    refine v_aload_n (i := 0) dX12_count_169 rfl rfl ?_
    refine g_X12_271 rfl sh_226 (by exact ltG hG (by decide)) dX12_count_170 ?_
    refine v_ireturn rfl dX12_count_173 ?_
    obtain ⟨rfl, rfl⟩ := Prod.mk.inj (Option.some.inj hF)
    exact ⟨rfl, rfl, hG⟩
  rw [if_neg c23] at hF
  by_cases c24 : x1 = 10
  · rw [if_pos c24] at hF
    refine v_tableIn (off := 167) 174 dX12_count_7 (by rw [c24]; decide) (by rw [c24]; decide) (by rw [c24]; decide +kernel) (by decide) ?_
    refine v_aload_n (i := 0) dX12_count_174 rfl rfl ?_
    refine g_X12_274 rfl sh_226 (by exact ltG hG (by decide)) dX12_count_175 ?_
    refine v_ireturn rfl dX12_count_178 ?_
    obtain ⟨rfl, rfl⟩ := Prod.mk.inj (Option.some.inj hF)
    exact ⟨rfl, rfl, hG⟩
  rw [if_neg c24] at hF
  by_cases c25 : x1 = 11
  · rw [if_pos c25] at hF
    refine v_tableIn (off := 172) 179 dX12_count_7 (by rw [c25]; decide) (by rw [c25]; decide) (by rw [c25]; decide +kernel) (by decide) ?_
    refine v_aload_n (i := 0) dX12_count_179 rfl rfl ?_
    refine g_X12_158 (q := 273) rfl sh_226 (by exact ltG hG (by decide)) (by exact rG hG r0_226_68) dX12_count_180 ?_
    refine v_iconst (v := 0) dX12_count_183 (by decide) ?_
    refine v_zaload sh_273 (by exact ltG hG (by decide)) (ixK 0 (by decide)) dX12_count_184 ?_
    refine v_if_eq 192 dX12_count_185 (by decide) (fun c26 => ?_) (fun c26 => ?_)
    · rw [if_pos c26] at hF
      refine v_iconst (v := 0) dX12_count_192 (by decide) ?_
      refine v_aload_n (i := 0) dX12_count_193 rfl rfl ?_
      refine g_X12_158 (q := 273) rfl sh_226 (by exact ltG hG (by decide)) (by exact rG hG r0_226_68) dX12_count_194 ?_
      refine v_iconst (v := 1) dX12_count_197 (by decide) ?_
      refine v_zaload sh_273 (by exact ltG hG (by decide)) (ixK 1 (by decide)) dX12_count_198 ?_
      refine v_if_eq 206 dX12_count_199 (by decide) (fun c27 => ?_) (fun c27 => ?_)
      · rw [if_pos c27] at hF
        refine v_iconst (v := 0) dX12_count_206 (by decide) ?_
        refine v_iadd dX12_count_207 ?_
        refine v_aload_n (i := 0) dX12_count_208 rfl rfl ?_
        refine g_X12_158 (q := 273) rfl sh_226 (by exact ltG hG (by decide)) (by exact rG hG r0_226_68) dX12_count_209 ?_
        refine v_iconst (v := 2) dX12_count_212 (by decide) ?_
        refine v_zaload sh_273 (by exact ltG hG (by decide)) (ixK 2 (by decide)) dX12_count_213 ?_
        refine v_if_eq 221 dX12_count_214 (by decide) (fun c28 => ?_) (fun c28 => ?_)
        · rw [if_pos c28] at hF
          refine v_iconst (v := 0) dX12_count_221 (by decide) ?_
          refine v_iadd dX12_count_222 ?_
          refine v_ireturn rfl dX12_count_223 ?_
          obtain ⟨rfl, rfl⟩ := Prod.mk.inj (Option.some.inj hF)
          exact ⟨rfl, rfl, hG⟩
        · rw [if_neg c28] at hF
          refine v_iconst (v := 1) dX12_count_217 (by decide) ?_
          refine v_goto 222 dX12_count_218 (by decide) ?_
          refine v_iadd dX12_count_222 ?_
          refine v_ireturn rfl dX12_count_223 ?_
          obtain ⟨rfl, rfl⟩ := Prod.mk.inj (Option.some.inj hF)
          exact ⟨rfl, rfl, hG⟩
      · rw [if_neg c27] at hF
        refine v_iconst (v := 1) dX12_count_202 (by decide) ?_
        refine v_goto 207 dX12_count_203 (by decide) ?_
        refine v_iadd dX12_count_207 ?_
        refine v_aload_n (i := 0) dX12_count_208 rfl rfl ?_
        refine g_X12_158 (q := 273) rfl sh_226 (by exact ltG hG (by decide)) (by exact rG hG r0_226_68) dX12_count_209 ?_
        refine v_iconst (v := 2) dX12_count_212 (by decide) ?_
        refine v_zaload sh_273 (by exact ltG hG (by decide)) (ixK 2 (by decide)) dX12_count_213 ?_
        refine v_if_eq 221 dX12_count_214 (by decide) (fun c29 => ?_) (fun c29 => ?_)
        · rw [if_pos c29] at hF
          refine v_iconst (v := 0) dX12_count_221 (by decide) ?_
          refine v_iadd dX12_count_222 ?_
          refine v_ireturn rfl dX12_count_223 ?_
          obtain ⟨rfl, rfl⟩ := Prod.mk.inj (Option.some.inj hF)
          exact ⟨rfl, rfl, hG⟩
        · rw [if_neg c29] at hF
          refine v_iconst (v := 1) dX12_count_217 (by decide) ?_
          refine v_goto 222 dX12_count_218 (by decide) ?_
          refine v_iadd dX12_count_222 ?_
          refine v_ireturn rfl dX12_count_223 ?_
          obtain ⟨rfl, rfl⟩ := Prod.mk.inj (Option.some.inj hF)
          exact ⟨rfl, rfl, hG⟩
    · rw [if_neg c26] at hF
      refine v_iconst (v := 1) dX12_count_188 (by decide) ?_
      refine v_goto 193 dX12_count_189 (by decide) ?_
      refine v_aload_n (i := 0) dX12_count_193 rfl rfl ?_
      refine g_X12_158 (q := 273) rfl sh_226 (by exact ltG hG (by decide)) (by exact rG hG r0_226_68) dX12_count_194 ?_
      refine v_iconst (v := 1) dX12_count_197 (by decide) ?_
      refine v_zaload sh_273 (by exact ltG hG (by decide)) (ixK 1 (by decide)) dX12_count_198 ?_
      refine v_if_eq 206 dX12_count_199 (by decide) (fun c30 => ?_) (fun c30 => ?_)
      · rw [if_pos c30] at hF
        refine v_iconst (v := 0) dX12_count_206 (by decide) ?_
        refine v_iadd dX12_count_207 ?_
        refine v_aload_n (i := 0) dX12_count_208 rfl rfl ?_
        refine g_X12_158 (q := 273) rfl sh_226 (by exact ltG hG (by decide)) (by exact rG hG r0_226_68) dX12_count_209 ?_
        refine v_iconst (v := 2) dX12_count_212 (by decide) ?_
        refine v_zaload sh_273 (by exact ltG hG (by decide)) (ixK 2 (by decide)) dX12_count_213 ?_
        refine v_if_eq 221 dX12_count_214 (by decide) (fun c31 => ?_) (fun c31 => ?_)
        · rw [if_pos c31] at hF
          refine v_iconst (v := 0) dX12_count_221 (by decide) ?_
          refine v_iadd dX12_count_222 ?_
          refine v_ireturn rfl dX12_count_223 ?_
          obtain ⟨rfl, rfl⟩ := Prod.mk.inj (Option.some.inj hF)
          exact ⟨rfl, rfl, hG⟩
        · rw [if_neg c31] at hF
          refine v_iconst (v := 1) dX12_count_217 (by decide) ?_
          refine v_goto 222 dX12_count_218 (by decide) ?_
          refine v_iadd dX12_count_222 ?_
          refine v_ireturn rfl dX12_count_223 ?_
          obtain ⟨rfl, rfl⟩ := Prod.mk.inj (Option.some.inj hF)
          exact ⟨rfl, rfl, hG⟩
      · rw [if_neg c30] at hF
        refine v_iconst (v := 1) dX12_count_202 (by decide) ?_
        refine v_goto 207 dX12_count_203 (by decide) ?_
        refine v_iadd dX12_count_207 ?_
        refine v_aload_n (i := 0) dX12_count_208 rfl rfl ?_
        refine g_X12_158 (q := 273) rfl sh_226 (by exact ltG hG (by decide)) (by exact rG hG r0_226_68) dX12_count_209 ?_
        refine v_iconst (v := 2) dX12_count_212 (by decide) ?_
        refine v_zaload sh_273 (by exact ltG hG (by decide)) (ixK 2 (by decide)) dX12_count_213 ?_
        refine v_if_eq 221 dX12_count_214 (by decide) (fun c32 => ?_) (fun c32 => ?_)
        · rw [if_pos c32] at hF
          refine v_iconst (v := 0) dX12_count_221 (by decide) ?_
          refine v_iadd dX12_count_222 ?_
          refine v_ireturn rfl dX12_count_223 ?_
          obtain ⟨rfl, rfl⟩ := Prod.mk.inj (Option.some.inj hF)
          exact ⟨rfl, rfl, hG⟩
        · rw [if_neg c32] at hF
          refine v_iconst (v := 1) dX12_count_217 (by decide) ?_
          refine v_goto 222 dX12_count_218 (by decide) ?_
          refine v_iadd dX12_count_222 ?_
          refine v_ireturn rfl dX12_count_223 ?_
          obtain ⟨rfl, rfl⟩ := Prod.mk.inj (Option.some.inj hF)
          exact ⟨rfl, rfl, hG⟩
  rw [if_neg c25] at hF
  by_cases c33 : x1 = 12
  · rw [if_pos c33] at hF
    refine v_tableIn (off := 217) 224 dX12_count_7 (by rw [c33]; decide) (by rw [c33]; decide) (by rw [c33]; decide +kernel) (by decide) ?_
    refine v_aload_n (i := 0) dX12_count_224 rfl rfl ?_
    refine v_aload_n (i := 0) dX12_count_225 rfl rfl ?_
    refine g_X12_128 (q := 263) rfl sh_226 (by exact ltG hG (by decide)) (by exact rG hG r0_226_54) dX12_count_226 ?_
    refine v_bipush (v := 61) dX12_count_229 (by decide) ?_
    refine v_iaload sh_263 (by exact ltG hG (by decide)) (ixK 61 (by decide)) dX12_count_231 ?_
    obtain ⟨q34, q34_e, hF⟩ := Option.bind_eq_some_iff.mp hF
    refine c_X12_421 rfl sh_226 (by exact ltG hG (by decide)) (Nat.le_of_ble_eq_true rfl) dX12_count_232 (s_X12_loudBits _ q34_e hG) (fun r1 h1 hq => ?_)
    obtain ⟨rfl, hq, hG⟩ := hq
    replace hq := hq.symm
    subst hq
    show V _ _ _ _ (_ :: _) _ _
    refine v_ireturn rfl dX12_count_235 ?_
    obtain ⟨rfl, rfl⟩ := Prod.mk.inj (Option.some.inj hF)
    exact ⟨rfl, rfl, hG⟩
  rw [if_neg c33] at hF
  by_cases c36 : x1 = 13
  · rw [if_pos c36] at hF
    refine v_tableIn (off := 229) 236 dX12_count_7 (by rw [c36]; decide) (by rw [c36]; decide) (by rw [c36]; decide +kernel) (by decide) ?_
    refine v_aload_n (i := 0) dX12_count_236 rfl rfl ?_
    refine g_X12_128 (q := 263) rfl sh_226 (by exact ltG hG (by decide)) (by exact rG hG r0_226_54) dX12_count_237 ?_
    refine v_bipush (v := 56) dX12_count_240 (by decide) ?_
    refine v_iaload sh_263 (by exact ltG hG (by decide)) (ixK 56 (by decide)) dX12_count_242 ?_
    refine v_aload_n (i := 0) dX12_count_243 rfl rfl ?_
    refine g_X12_128 (q := 263) rfl sh_226 (by exact ltG hG (by decide)) (by exact rG hG r0_226_54) dX12_count_244 ?_
    refine v_bipush (v := 57) dX12_count_247 (by decide) ?_
    refine v_iaload sh_263 (by exact ltG hG (by decide)) (ixK 57 (by decide)) dX12_count_249 ?_
    refine v_iadd dX12_count_250 ?_
    refine v_aload_n (i := 0) dX12_count_251 rfl rfl ?_
    refine g_X12_128 (q := 263) rfl sh_226 (by exact ltG hG (by decide)) (by exact rG hG r0_226_54) dX12_count_252 ?_
    refine v_bipush (v := 58) dX12_count_255 (by decide) ?_
    refine v_iaload sh_263 (by exact ltG hG (by decide)) (ixK 58 (by decide)) dX12_count_257 ?_
    refine v_iadd dX12_count_258 ?_
    refine v_aload_n (i := 0) dX12_count_259 rfl rfl ?_
    refine g_X12_128 (q := 263) rfl sh_226 (by exact ltG hG (by decide)) (by exact rG hG r0_226_54) dX12_count_260 ?_
    refine v_bipush (v := 59) dX12_count_263 (by decide) ?_
    refine v_iaload sh_263 (by exact ltG hG (by decide)) (ixK 59 (by decide)) dX12_count_265 ?_
    refine v_iadd dX12_count_266 ?_
    refine v_aload_n (i := 0) dX12_count_267 rfl rfl ?_
    refine g_X12_128 (q := 263) rfl sh_226 (by exact ltG hG (by decide)) (by exact rG hG r0_226_54) dX12_count_268 ?_
    refine v_bipush (v := 60) dX12_count_271 (by decide) ?_
    refine v_iaload sh_263 (by exact ltG hG (by decide)) (ixK 60 (by decide)) dX12_count_273 ?_
    refine v_iadd dX12_count_274 ?_
    refine v_ireturn rfl dX12_count_275 ?_
    obtain ⟨rfl, rfl⟩ := Prod.mk.inj (Option.some.inj hF)
    exact ⟨rfl, rfl, hG⟩
  rw [if_neg c36] at hF
  by_cases c37 : x1 = 14
  · rw [if_pos c37] at hF
    refine v_tableIn (off := 269) 276 dX12_count_7 (by rw [c37]; decide) (by rw [c37]; decide) (by rw [c37]; decide +kernel) (by decide) ?_
    refine v_aload_n (i := 0) dX12_count_276 rfl rfl ?_
    obtain ⟨q38, q38_e, hF⟩ := Option.bind_eq_some_iff.mp hF
    refine c_X12_359 rfl sh_226 (by exact ltG hG (by decide)) (Nat.le_of_ble_eq_true rfl) dX12_count_277 (s_X12_tuneBits _ q38_e hG) (fun r1 h1 hq => ?_)
    obtain ⟨rfl, hq, hG⟩ := hq
    replace hq := hq.symm
    subst hq
    show V _ _ _ _ (_ :: _) _ _
    obtain ⟨q40, q40_e, hF⟩ := Option.bind_eq_some_iff.mp hF
    refine c_X12_362 rfl (Nat.le_of_ble_eq_true rfl) dX12_count_280 (s_X12_bits _ q40_e hG) (fun r1 h1 hq => ?_)
    obtain ⟨rfl, hq, hG⟩ := hq
    replace hq := hq.symm
    subst hq
    show V _ _ _ _ (_ :: _) _ _
    refine v_ireturn rfl dX12_count_283 ?_
    obtain ⟨rfl, rfl⟩ := Prod.mk.inj (Option.some.inj hF)
    exact ⟨rfl, rfl, hG⟩
  rw [if_neg c37] at hF
  by_cases c42 : x1 = 15
  · rw [if_pos c42] at hF
    refine v_tableIn (off := 277) 284 dX12_count_7 (by rw [c42]; decide) (by rw [c42]; decide) (by rw [c42]; decide +kernel) (by decide) ?_
    refine v_aload_n (i := 0) dX12_count_284 rfl rfl ?_
    obtain ⟨q43, q43_e, hF⟩ := Option.bind_eq_some_iff.mp hF
    refine c_X12_507 rfl sh_226 (by exact ltG hG (by decide)) (Nat.le_of_ble_eq_true rfl) dX12_count_285 (s_X12_costsAll _ q43_e hG) (fun r1 h1 hq => ?_)
    obtain ⟨rfl, hq, hG⟩ := hq
    replace hq := hq.symm
    subst hq
    show V _ _ _ _ (_ :: _) _ _
    refine v_ireturn rfl dX12_count_288 ?_
    obtain ⟨rfl, rfl⟩ := Prod.mk.inj (Option.some.inj hF)
    exact ⟨rfl, rfl, hG⟩
  rw [if_neg c42] at hF
  by_cases c45 : x1 = 16
  · rw [if_pos c45] at hF
    refine v_tableIn (off := 282) 289 dX12_count_7 (by rw [c45]; decide) (by rw [c45]; decide) (by rw [c45]; decide +kernel) (by decide) ?_
    refine v_aload_n (i := 0) dX12_count_289 rfl rfl ?_
    obtain ⟨q46, q46_e, hF⟩ := Option.bind_eq_some_iff.mp hF
    refine c_X12_427 rfl sh_226 (by exact ltG hG (by decide)) (Nat.le_of_ble_eq_true rfl) dX12_count_290 (s_X12_freeBits _ q46_e hG) (fun r1 h1 hq => ?_)
    obtain ⟨rfl, hq, hG⟩ := hq
    replace hq := hq.symm
    subst hq
    show V _ _ _ _ (_ :: _) _ _
    refine v_aload_n (i := 0) dX12_count_293 rfl rfl ?_
    obtain ⟨q48, q48_e, hF⟩ := Option.bind_eq_some_iff.mp hF
    refine c_X12_359 rfl sh_226 (by exact ltG hG (by decide)) (Nat.le_of_ble_eq_true rfl) dX12_count_294 (s_X12_tuneBits _ q48_e hG) (fun r1 h1 hq => ?_)
    obtain ⟨rfl, hq, hG⟩ := hq
    replace hq := hq.symm
    subst hq
    show V _ _ _ _ (_ :: _) _ _
    refine v_iconst (v := (-1)) dX12_count_297 (by decide) ?_
    refine v_ixor dX12_count_298 ?_
    refine v_iand dX12_count_299 ?_
    refine v_aload_n (i := 0) dX12_count_300 rfl rfl ?_
    obtain ⟨q50, q50_e, hF⟩ := Option.bind_eq_some_iff.mp hF
    refine c_X12_477 rfl sh_226 (by exact ltG hG (by decide)) (Nat.le_of_ble_eq_true rfl) dX12_count_301 (s_X12_goerBits _ q50_e hG) (fun r1 h1 hq => ?_)
    obtain ⟨rfl, hq, hG⟩ := hq
    replace hq := hq.symm
    subst hq
    show V _ _ _ _ (_ :: _) _ _
    refine v_iconst (v := (-1)) dX12_count_304 (by decide) ?_
    refine v_ixor dX12_count_305 ?_
    refine v_iand dX12_count_306 ?_
    refine v_ireturn rfl dX12_count_307 ?_
    obtain ⟨rfl, rfl⟩ := Prod.mk.inj (Option.some.inj hF)
    exact ⟨rfl, rfl, hG⟩
  rw [if_neg c45] at hF
  by_cases c52 : x1 = 17
  · rw [if_pos c52] at hF
    refine v_tableIn (off := 301) 308 dX12_count_7 (by rw [c52]; decide) (by rw [c52]; decide) (by rw [c52]; decide +kernel) (by decide) ?_
    refine v_aload_n (i := 0) dX12_count_308 rfl rfl ?_
    refine g_X12_128 (q := 263) rfl sh_226 (by exact ltG hG (by decide)) (by exact rG hG r0_226_54) dX12_count_309 ?_
    refine v_bipush (v := 50) dX12_count_312 (by decide) ?_
    refine v_iaload sh_263 (by exact ltG hG (by decide)) (ixK 50 (by decide)) dX12_count_314 ?_
    obtain ⟨q53, q53_e, hF⟩ := Option.bind_eq_some_iff.mp hF
    refine c_X12_362 rfl (Nat.le_of_ble_eq_true rfl) dX12_count_315 (s_X12_bits _ q53_e hG) (fun r1 h1 hq => ?_)
    obtain ⟨rfl, hq, hG⟩ := hq
    replace hq := hq.symm
    subst hq
    show V _ _ _ _ (_ :: _) _ _
    refine v_ireturn rfl dX12_count_318 ?_
    obtain ⟨rfl, rfl⟩ := Prod.mk.inj (Option.some.inj hF)
    exact ⟨rfl, rfl, hG⟩
  rw [if_neg c52] at hF
  by_cases c55 : x1 = 18
  · rw [if_pos c55] at hF
    refine v_tableIn (off := 312) 319 dX12_count_7 (by rw [c55]; decide) (by rw [c55]; decide) (by rw [c55]; decide +kernel) (by decide) ?_
    refine v_iconst (v := 0) dX12_count_319 (by decide) ?_
    refine v_istore_n (i := 3) dX12_count_320 rfl (by decide) (nlT rfl) ?_
    simp only [List.set_cons_zero, List.set_cons_succ]
    refine V.weak (la2 := [some (.ref 226), some (.int x1), some (.int 0), some (.int 0)]) (by simp [wk]) ?_
    exact (s_X12_count_IH_321) _ _ _ _ _ _ hF hG
  rw [if_neg c55] at hF
  by_cases c56 : x1 = 19
  · rw [if_pos c56] at hF
    refine v_tableIn (off := 353) 360 dX12_count_7 (by rw [c56]; decide) (by rw [c56]; decide) (by rw [c56]; decide +kernel) (by decide) ?_
    refine v_aload_n (i := 0) dX12_count_360 rfl rfl ?_
    refine g_X12_82 (q := 248) rfl sh_226 (by exact ltG hG (by decide)) (by exact rG hG r0_226_35) dX12_count_361 ?_
    refine v_aload_n (i := 0) dX12_count_364 rfl rfl ?_
    refine g_X12_245 rfl sh_226 (by exact ltG hG (by decide)) dX12_count_365 ?_
    obtain ⟨k57, hF⟩ := ck_some hF
    refine v_iaload sh_248 (by exact ltG hG (by decide)) (ixO k57) dX12_count_368 ?_
    refine v_ireturn rfl dX12_count_369 ?_
    obtain ⟨rfl, rfl⟩ := Prod.mk.inj (Option.some.inj hF)
    exact ⟨rfl, rfl, hG⟩
  rw [if_neg c56] at hF
  have e_c7 : ¬ (x1 : Int32).toInt = 0 := fun q => c7 (Int32.toInt_inj.mp (q.trans (by decide)))
  have e_c9 : ¬ (x1 : Int32).toInt = 1 := fun q => c9 (Int32.toInt_inj.mp (q.trans (by decide)))
  have e_c11 : ¬ (x1 : Int32).toInt = 2 := fun q => c11 (Int32.toInt_inj.mp (q.trans (by decide)))
  have e_c13 : ¬ (x1 : Int32).toInt = 3 := fun q => c13 (Int32.toInt_inj.mp (q.trans (by decide)))
  have e_c14 : ¬ (x1 : Int32).toInt = 4 := fun q => c14 (Int32.toInt_inj.mp (q.trans (by decide)))
  have e_c15 : ¬ (x1 : Int32).toInt = 5 := fun q => c15 (Int32.toInt_inj.mp (q.trans (by decide)))
  have e_c18 : ¬ (x1 : Int32).toInt = 6 := fun q => c18 (Int32.toInt_inj.mp (q.trans (by decide)))
  have e_c19 : ¬ (x1 : Int32).toInt = 7 := fun q => c19 (Int32.toInt_inj.mp (q.trans (by decide)))
  have e_c22 : ¬ (x1 : Int32).toInt = 8 := fun q => c22 (Int32.toInt_inj.mp (q.trans (by decide)))
  have e_c23 : ¬ (x1 : Int32).toInt = 9 := fun q => c23 (Int32.toInt_inj.mp (q.trans (by decide)))
  have e_c24 : ¬ (x1 : Int32).toInt = 10 := fun q => c24 (Int32.toInt_inj.mp (q.trans (by decide)))
  have e_c25 : ¬ (x1 : Int32).toInt = 11 := fun q => c25 (Int32.toInt_inj.mp (q.trans (by decide)))
  have e_c33 : ¬ (x1 : Int32).toInt = 12 := fun q => c33 (Int32.toInt_inj.mp (q.trans (by decide)))
  have e_c36 : ¬ (x1 : Int32).toInt = 13 := fun q => c36 (Int32.toInt_inj.mp (q.trans (by decide)))
  have e_c37 : ¬ (x1 : Int32).toInt = 14 := fun q => c37 (Int32.toInt_inj.mp (q.trans (by decide)))
  have e_c42 : ¬ (x1 : Int32).toInt = 15 := fun q => c42 (Int32.toInt_inj.mp (q.trans (by decide)))
  have e_c45 : ¬ (x1 : Int32).toInt = 16 := fun q => c45 (Int32.toInt_inj.mp (q.trans (by decide)))
  have e_c52 : ¬ (x1 : Int32).toInt = 17 := fun q => c52 (Int32.toInt_inj.mp (q.trans (by decide)))
  have e_c55 : ¬ (x1 : Int32).toInt = 18 := fun q => c55 (Int32.toInt_inj.mp (q.trans (by decide)))
  have e_c56 : ¬ (x1 : Int32).toInt = 19 := fun q => c56 (Int32.toInt_inj.mp (q.trans (by decide)))
  refine v_tableOut 370 dX12_count_7 (by omega) (by decide) ?_
  refine v_iconst (v := (-1)) dX12_count_370 (by decide) ?_
  refine v_ireturn rfl dX12_count_371 ?_
  obtain ⟨rfl, rfl⟩ := Prod.mk.inj (Option.some.inj hF)
  exact ⟨rfl, rfl, hG⟩
def F_X12_goer (n : Nat) (h : Hp) (x1 : Int32) (x2 : Int32) : Option (Int32 × Hp) := ((F_X12_isGoer n h x1).bind (fun q1 => (if (q1.1 : Int32) = 0 then some ((-1), q1.2) else ((F_X12_copies n q1.2).bind (fun q4 => (if x2 = 0 then (if ixOK (51 + x1) 63 = true then some ((hi q4 263 (Int32.toNatClampNeg (51 + x1))), q4) else none) else (if x2 = 1 then (if ixOK (56 + x1) 63 = true then some ((hi q4 263 (Int32.toNatClampNeg (56 + x1))), q4) else none) else (if x2 = 2 then ((F_X12_stepOf n q4 x1).bind (fun q11 => some (q11.1, q11.2))) else (if x2 = 3 then ((F_X12_moveOf n q4 x1).bind (fun q14 => some (q14.1, q14.2))) else some ((-1), q4))))))))))
set_option maxRecDepth 100000 in
set_option maxHeartbeats 4000000 in
theorem s_X12_goer (d : Nat) {n : Nat} {h : Hp} {x1 : Int32} {x2 : Int32} {q0 : (Int32 × Hp)} (hF : F_X12_goer n h x1 x2 = some q0) (hG : G h)  : Kc mX12_goer (d + 5) [.ref 226, .int x1, .int x2] h (fun r1 h1 => r1 = some (.int q0.1) ∧ h1 = q0.2 ∧ G q0.2) := by
  obtain ⟨r, h'⟩ := q0
  unfold F_X12_goer at hF
  refine Kc.of [some (.ref 226), some (.int x1), some (.int x2)] ok_X12_goer rfl (Nat.le_of_ble_eq_true rfl) ?_
  refine v_aload_n (i := 0) dX12_goer_0 rfl rfl ?_
  refine v_iload_n (i := 1) dX12_goer_1 rfl rfl ?_
  obtain ⟨q1, q1_e, hF⟩ := Option.bind_eq_some_iff.mp hF
  refine c_X12_409 rfl sh_226 (by exact ltG hG (by decide)) (Nat.le_of_ble_eq_true rfl) dX12_goer_2 (s_X12_isGoer _ q1_e hG) (fun r1 h1 hq => ?_)
  obtain ⟨rfl, hq, hG⟩ := hq
  replace hq := hq.symm
  subst hq
  show V _ _ _ _ (_ :: _) _ _
  refine v_if_ne 10 dX12_goer_5 (by decide) (fun c3 => ?_) (fun c3 => ?_)
  · rw [if_neg c3] at hF
    refine v_aload_n (i := 0) dX12_goer_10 rfl rfl ?_
    obtain ⟨q4, q4_e, hF⟩ := Option.bind_eq_some_iff.mp hF
    refine c_X12_346 rfl sh_226 (by exact ltG hG (by decide)) (Nat.le_of_ble_eq_true rfl) dX12_goer_11 (s_X12_copies _ q4_e hG) (fun r1 h1 hq => ?_)
    obtain ⟨rfl, hq, hG⟩ := hq
    replace hq := hq.symm
    subst hq
    simp only [Option.toList, List.nil_append]
    refine v_iload_n (i := 2) dX12_goer_14 rfl rfl ?_
    by_cases c6 : x2 = 0
    · rw [if_pos c6] at hF
      refine v_tableIn (off := 29) 44 dX12_goer_15 (by rw [c6]; decide) (by rw [c6]; decide) (by rw [c6]; decide +kernel) (by decide) ?_
      refine v_aload_n (i := 0) dX12_goer_44 rfl rfl ?_
      refine g_X12_128 (q := 263) rfl sh_226 (by exact ltG hG (by decide)) (by exact rG hG r0_226_54) dX12_goer_45 ?_
      refine v_bipush (v := 51) dX12_goer_48 (by decide) ?_
      refine v_iload_n (i := 1) dX12_goer_50 rfl rfl ?_
      refine v_iadd dX12_goer_51 ?_
      obtain ⟨k7, hF⟩ := ck_some hF
      refine v_iaload sh_263 (by exact ltG hG (by decide)) (ixO k7) dX12_goer_52 ?_
      refine v_ireturn rfl dX12_goer_53 ?_
      obtain ⟨rfl, rfl⟩ := Prod.mk.inj (Option.some.inj hF)
      exact ⟨rfl, rfl, hG⟩
    rw [if_neg c6] at hF
    by_cases c8 : x2 = 1
    · rw [if_pos c8] at hF
      refine v_tableIn (off := 39) 54 dX12_goer_15 (by rw [c8]; decide) (by rw [c8]; decide) (by rw [c8]; decide +kernel) (by decide) ?_
      refine v_aload_n (i := 0) dX12_goer_54 rfl rfl ?_
      refine g_X12_128 (q := 263) rfl sh_226 (by exact ltG hG (by decide)) (by exact rG hG r0_226_54) dX12_goer_55 ?_
      refine v_bipush (v := 56) dX12_goer_58 (by decide) ?_
      refine v_iload_n (i := 1) dX12_goer_60 rfl rfl ?_
      refine v_iadd dX12_goer_61 ?_
      obtain ⟨k9, hF⟩ := ck_some hF
      refine v_iaload sh_263 (by exact ltG hG (by decide)) (ixO k9) dX12_goer_62 ?_
      refine v_ireturn rfl dX12_goer_63 ?_
      obtain ⟨rfl, rfl⟩ := Prod.mk.inj (Option.some.inj hF)
      exact ⟨rfl, rfl, hG⟩
    rw [if_neg c8] at hF
    by_cases c10 : x2 = 2
    · rw [if_pos c10] at hF
      refine v_tableIn (off := 49) 64 dX12_goer_15 (by rw [c10]; decide) (by rw [c10]; decide) (by rw [c10]; decide +kernel) (by decide) ?_
      refine v_aload_n (i := 0) dX12_goer_64 rfl rfl ?_
      refine v_iload_n (i := 1) dX12_goer_65 rfl rfl ?_
      obtain ⟨q11, q11_e, hF⟩ := Option.bind_eq_some_iff.mp hF
      refine c_X12_391 rfl sh_226 (by exact ltG hG (by decide)) (Nat.le_of_ble_eq_true rfl) dX12_goer_66 (s_X12_stepOf _ q11_e hG) (fun r1 h1 hq => ?_)
      obtain ⟨rfl, hq, hG⟩ := hq
      replace hq := hq.symm
      subst hq
      show V _ _ _ _ (_ :: _) _ _
      refine v_ireturn rfl dX12_goer_69 ?_
      obtain ⟨rfl, rfl⟩ := Prod.mk.inj (Option.some.inj hF)
      exact ⟨rfl, rfl, hG⟩
    rw [if_neg c10] at hF
    by_cases c13 : x2 = 3
    · rw [if_pos c13] at hF
      refine v_tableIn (off := 55) 70 dX12_goer_15 (by rw [c13]; decide) (by rw [c13]; decide) (by rw [c13]; decide +kernel) (by decide) ?_
      refine v_aload_n (i := 0) dX12_goer_70 rfl rfl ?_
      refine v_iload_n (i := 1) dX12_goer_71 rfl rfl ?_
      obtain ⟨q14, q14_e, hF⟩ := Option.bind_eq_some_iff.mp hF
      refine c_X12_394 rfl sh_226 (by exact ltG hG (by decide)) (Nat.le_of_ble_eq_true rfl) dX12_goer_72 (s_X12_moveOf _ q14_e hG) (fun r1 h1 hq => ?_)
      obtain ⟨rfl, hq, hG⟩ := hq
      replace hq := hq.symm
      subst hq
      show V _ _ _ _ (_ :: _) _ _
      refine v_ireturn rfl dX12_goer_75 ?_
      obtain ⟨rfl, rfl⟩ := Prod.mk.inj (Option.some.inj hF)
      exact ⟨rfl, rfl, hG⟩
    rw [if_neg c13] at hF
    have e_c6 : ¬ (x2 : Int32).toInt = 0 := fun q => c6 (Int32.toInt_inj.mp (q.trans (by decide)))
    have e_c8 : ¬ (x2 : Int32).toInt = 1 := fun q => c8 (Int32.toInt_inj.mp (q.trans (by decide)))
    have e_c10 : ¬ (x2 : Int32).toInt = 2 := fun q => c10 (Int32.toInt_inj.mp (q.trans (by decide)))
    have e_c13 : ¬ (x2 : Int32).toInt = 3 := fun q => c13 (Int32.toInt_inj.mp (q.trans (by decide)))
    refine v_tableOut 76 dX12_goer_15 (by omega) (by decide) ?_
    refine v_iconst (v := (-1)) dX12_goer_76 (by decide) ?_
    refine v_ireturn rfl dX12_goer_77 ?_
    obtain ⟨rfl, rfl⟩ := Prod.mk.inj (Option.some.inj hF)
    exact ⟨rfl, rfl, hG⟩
  · rw [if_pos c3] at hF
    refine v_iconst (v := (-1)) dX12_goer_8 (by decide) ?_
    refine v_ireturn rfl dX12_goer_9 ?_
    obtain ⟨rfl, rfl⟩ := Prod.mk.inj (Option.some.inj hF)
    exact ⟨rfl, rfl, hG⟩
def W_X12_goes : Nat → Nat → Hp → Int32 → Int32 → Option Hp
  | 0 => fun _ _ _ _ => none
  | n + 1 => fun hd h l1 l2 => (if hd = 2 then (if (l1 : Int32) ≤ (l2 : Int32) then some h else ((F_X12_beatGoes n h).bind (fun q2 => W_X12_goes n 2 q2  l1 (l2 + 1)))) else none)
set_option maxRecDepth 100000 in
set_option maxHeartbeats 4000000 in
theorem sw_X12_goes (d : Nat)  (n : Nat) : (∀ (l1 : Int32) (l2 : Int32) (h : Hp), ∀ (h' : Hp), W_X12_goes n 2 h  l1 l2 = some h' → G h → V mX12_goes (d + 6) 2 [some (.ref 226), some (.int l1), some (.int l2)] [] h (fun r1 h1 => r1 = none ∧ h1 = h' ∧ G h')) := by
  induction n with
  | zero => exact by intros; contradiction
  | succ n ih =>
    have s_X12_goes_IH_2 := ih
    intro l1 l2 h h' hF hG
    unfold W_X12_goes at hF
    rw [if_pos rfl] at hF
    refine v_iload_n (i := 2) dX12_goes_2 rfl rfl ?_
    refine v_iload_n (i := 1) dX12_goes_3 rfl rfl ?_
    refine v_icmp_ge 17 dX12_goes_4 (by decide) (fun c1 => ?_) (fun c1 => ?_)
    · rw [if_pos c1] at hF
      refine v_return rfl dX12_goes_17 ?_
      obtain rfl := Option.some.inj hF
      exact ⟨rfl, rfl, hG⟩
    · rw [if_neg c1] at hF
      refine v_aload_n (i := 0) dX12_goes_7 rfl rfl ?_
      obtain ⟨q2, q2_e, hF⟩ := Option.bind_eq_some_iff.mp hF
      refine c_X12_400 rfl sh_226 (by exact ltG hG (by decide)) (Nat.le_of_ble_eq_true rfl) dX12_goes_8 (s_X12_beatGoes _ q2_e hG) (fun r1 h1 hq => ?_)
      obtain ⟨rfl, hq, hG⟩ := hq
      replace hq := hq.symm
      subst hq
      simp only [Option.toList, List.nil_append]
      refine v_iinc (i := 2) (v := (l2 + 1)) dX12_goes_11 rfl rfl (by decide) (nlT rfl) ?_
      simp only [List.set_cons_zero, List.set_cons_succ]
      refine v_goto 2 dX12_goes_14 (by decide) ?_
      refine V.weak (la2 := [some (.ref 226), some (.int l1), some (.int (l2 + 1))]) (by simp [wk]) ?_
      exact (s_X12_goes_IH_2) _ _ _ _ hF hG
def F_X12_goes (n : Nat) (h : Hp) (x1 : Int32) : Option Hp := W_X12_goes n 2 h  x1 0
set_option maxRecDepth 100000 in
set_option maxHeartbeats 4000000 in
theorem s_X12_goes (d : Nat) {n : Nat} {h : Hp} {x1 : Int32} {q0 : Hp} (hF : F_X12_goes n h x1 = some q0) (hG : G h)  : Kc mX12_goes (d + 6) [.ref 226, .int x1] h (fun r1 h1 => r1 = none ∧ h1 = q0 ∧ G q0) := by
  obtain ⟨h', rfl⟩ : ∃ z, z = q0 := ⟨_, rfl⟩
  have s_X12_goes_IH_2 := sw_X12_goes d   n
  unfold F_X12_goes at hF
  refine Kc.of [some (.ref 226), some (.int x1), none] ok_X12_goes rfl (Nat.le_of_ble_eq_true rfl) ?_
  refine v_iconst (v := 0) dX12_goes_0 (by decide) ?_
  refine v_istore_n (i := 2) dX12_goes_1 rfl (by decide) (nlT rfl) ?_
  simp only [List.set_cons_zero, List.set_cons_succ]
  refine V.weak (la2 := [some (.ref 226), some (.int x1), some (.int 0)]) (by simp [wk]) ?_
  exact (s_X12_goes_IH_2) _ _ _ _ hF hG
def W_X12_never : Nat → Nat → Hp → Int32 → Int32 → Int32 → Option (Int32 × Hp)
  | 0 => fun _ _ _ _ _ => none
  | n + 1 => fun hd h l1 l2 l3 => (if hd = 31 then (if (l1 : Int32) ≤ (l3 : Int32) then some (l2, h) else ((F_X12_beatGoes n h).bind (fun q2 => ((F_X12_goerBits n q2).bind (fun q4 => W_X12_never n 31 q4.2  l1 ((l2 : Int32) &&& (((q4.1 : Int32) ^^^ ((-1) : Int32)) : Int32)) (l3 + 1)))))) else none)
set_option maxRecDepth 100000 in
set_option maxHeartbeats 4000000 in
theorem sw_X12_never (d : Nat)  (n : Nat) : (∀ (l1 : Int32) (l2 : Int32) (l3 : Int32) (h : Hp), ∀ (r : Int32) (h' : Hp), W_X12_never n 31 h  l1 l2 l3 = some (r, h') → G h → V mX12_never (d + 6) 31 [some (.ref 226), some (.int l1), some (.int l2), some (.int l3)] [] h (fun r1 h1 => r1 = some (.int r) ∧ h1 = h' ∧ G h')) := by
  induction n with
  | zero => exact by intros; contradiction
  | succ n ih =>
    have s_X12_never_IH_31 := ih
    intro l1 l2 l3 h r h' hF hG
    unfold W_X12_never at hF
    rw [if_pos rfl] at hF
    refine v_iload_n (i := 3) dX12_never_31 rfl rfl ?_
    refine v_iload_n (i := 1) dX12_never_32 rfl rfl ?_
    refine v_icmp_ge 55 dX12_never_33 (by decide) (fun c1 => ?_) (fun c1 => ?_)
    · rw [if_pos c1] at hF
      refine v_iload_n (i := 2) dX12_never_55 rfl rfl ?_
      refine v_ireturn rfl dX12_never_56 ?_
      obtain ⟨rfl, rfl⟩ := Prod.mk.inj (Option.some.inj hF)
      exact ⟨rfl, rfl, hG⟩
    · rw [if_neg c1] at hF
      refine v_aload_n (i := 0) dX12_never_36 rfl rfl ?_
      obtain ⟨q2, q2_e, hF⟩ := Option.bind_eq_some_iff.mp hF
      refine c_X12_400 rfl sh_226 (by exact ltG hG (by decide)) (Nat.le_of_ble_eq_true rfl) dX12_never_37 (s_X12_beatGoes _ q2_e hG) (fun r1 h1 hq => ?_)
      obtain ⟨rfl, hq, hG⟩ := hq
      replace hq := hq.symm
      subst hq
      simp only [Option.toList, List.nil_append]
      refine v_iload_n (i := 2) dX12_never_40 rfl rfl ?_
      refine v_aload_n (i := 0) dX12_never_41 rfl rfl ?_
      obtain ⟨q4, q4_e, hF⟩ := Option.bind_eq_some_iff.mp hF
      refine c_X12_477 rfl sh_226 (by exact ltG hG (by decide)) (Nat.le_of_ble_eq_true rfl) dX12_never_42 (s_X12_goerBits _ q4_e hG) (fun r1 h1 hq => ?_)
      obtain ⟨rfl, hq, hG⟩ := hq
      replace hq := hq.symm
      subst hq
      show V _ _ _ _ (_ :: _) _ _
      refine v_iconst (v := (-1)) dX12_never_45 (by decide) ?_
      refine v_ixor dX12_never_46 ?_
      refine v_iand dX12_never_47 ?_
      refine v_istore_n (i := 2) dX12_never_48 rfl (by decide) (nlT rfl) ?_
      simp only [List.set_cons_zero, List.set_cons_succ]
      refine v_iinc (i := 3) (v := (l3 + 1)) dX12_never_49 rfl rfl (by decide) (nlT rfl) ?_
      simp only [List.set_cons_zero, List.set_cons_succ]
      refine v_goto 31 dX12_never_52 (by decide) ?_
      refine V.weak (la2 := [some (.ref 226), some (.int l1), some (.int ((l2 : Int32) &&& (((q4.1 : Int32) ^^^ ((-1) : Int32)) : Int32))), some (.int (l3 + 1))]) (by simp [wk]) ?_
      exact (s_X12_never_IH_31) _ _ _ _ _ _ hF hG
def F_X12_never (n : Nat) (h : Hp) (x1 : Int32) : Option (Int32 × Hp) := ((F_X12_isLong n h x1).bind (fun q6 => (if (q6.1 : Int32) = 0 then some ((-1), q6.2) else ((F_X12_copiesStill n q6.2).bind (fun q9 => ((F_X12_cells n q9).bind (fun q11 => ((F_X12_goerBits n q11.2).bind (fun q13 => W_X12_never n 31 q13.2  x1 (((((1 : Int32) <<< ((q11.1 : Int32) &&& 31)) - 1) : Int32) &&& (((q13.1 : Int32) ^^^ ((-1) : Int32)) : Int32)) 0)))))))))
set_option maxRecDepth 100000 in
set_option maxHeartbeats 4000000 in
theorem s_X12_never (d : Nat) {n : Nat} {h : Hp} {x1 : Int32} {q0 : (Int32 × Hp)} (hF : F_X12_never n h x1 = some q0) (hG : G h)  : Kc mX12_never (d + 6) [.ref 226, .int x1] h (fun r1 h1 => r1 = some (.int q0.1) ∧ h1 = q0.2 ∧ G q0.2) := by
  obtain ⟨r, h'⟩ := q0
  have s_X12_never_IH_31 := sw_X12_never d   n
  unfold F_X12_never at hF
  refine Kc.of [some (.ref 226), some (.int x1), none, none] ok_X12_never rfl (Nat.le_of_ble_eq_true rfl) ?_
  refine v_iload_n (i := 1) dX12_never_0 rfl rfl ?_
  obtain ⟨q6, q6_e, hF⟩ := Option.bind_eq_some_iff.mp hF
  refine c_X12_415 rfl (Nat.le_of_ble_eq_true rfl) dX12_never_1 (s_X12_isLong _ q6_e hG) (fun r1 h1 hq => ?_)
  obtain ⟨rfl, hq, hG⟩ := hq
  replace hq := hq.symm
  subst hq
  show V _ _ _ _ (_ :: _) _ _
  refine v_if_ne 9 dX12_never_4 (by decide) (fun c8 => ?_) (fun c8 => ?_)
  · rw [if_neg c8] at hF
    refine v_aload_n (i := 0) dX12_never_9 rfl rfl ?_
    obtain ⟨q9, q9_e, hF⟩ := Option.bind_eq_some_iff.mp hF
    refine c_X12_474 rfl sh_226 (by exact ltG hG (by decide)) (Nat.le_of_ble_eq_true rfl) dX12_never_10 (s_X12_copiesStill _ q9_e hG) (fun r1 h1 hq => ?_)
    obtain ⟨rfl, hq, hG⟩ := hq
    replace hq := hq.symm
    subst hq
    simp only [Option.toList, List.nil_append]
    refine v_iconst (v := 1) dX12_never_13 (by decide) ?_
    refine v_aload_n (i := 0) dX12_never_14 rfl rfl ?_
    obtain ⟨q11, q11_e, hF⟩ := Option.bind_eq_some_iff.mp hF
    refine c_X12_326 rfl sh_226 (by exact ltG hG (by decide)) (Nat.le_of_ble_eq_true rfl) dX12_never_15 (s_X12_cells _ q11_e hG) (fun r1 h1 hq => ?_)
    obtain ⟨rfl, hq, hG⟩ := hq
    replace hq := hq.symm
    subst hq
    show V _ _ _ _ (_ :: _) _ _
    refine v_ishl dX12_never_18 ?_
    refine v_iconst (v := 1) dX12_never_19 (by decide) ?_
    refine v_isub dX12_never_20 ?_
    refine v_aload_n (i := 0) dX12_never_21 rfl rfl ?_
    obtain ⟨q13, q13_e, hF⟩ := Option.bind_eq_some_iff.mp hF
    refine c_X12_477 rfl sh_226 (by exact ltG hG (by decide)) (Nat.le_of_ble_eq_true rfl) dX12_never_22 (s_X12_goerBits _ q13_e hG) (fun r1 h1 hq => ?_)
    obtain ⟨rfl, hq, hG⟩ := hq
    replace hq := hq.symm
    subst hq
    show V _ _ _ _ (_ :: _) _ _
    refine v_iconst (v := (-1)) dX12_never_25 (by decide) ?_
    refine v_ixor dX12_never_26 ?_
    refine v_iand dX12_never_27 ?_
    refine v_istore_n (i := 2) dX12_never_28 rfl (by decide) (nlT rfl) ?_
    simp only [List.set_cons_zero, List.set_cons_succ]
    refine v_iconst (v := 0) dX12_never_29 (by decide) ?_
    refine v_istore_n (i := 3) dX12_never_30 rfl (by decide) (nlT rfl) ?_
    simp only [List.set_cons_zero, List.set_cons_succ]
    refine V.weak (la2 := [some (.ref 226), some (.int x1), some (.int (((((1 : Int32) <<< ((q11.1 : Int32) &&& 31)) - 1) : Int32) &&& (((q13.1 : Int32) ^^^ ((-1) : Int32)) : Int32))), some (.int 0)]) (by simp [wk]) ?_
    exact (s_X12_never_IH_31) _ _ _ _ _ _ hF hG
  · rw [if_pos c8] at hF
    refine v_iconst (v := (-1)) dX12_never_7 (by decide) ?_
    refine v_ireturn rfl dX12_never_8 ?_
    obtain ⟨rfl, rfl⟩ := Prod.mk.inj (Option.some.inj hF)
    exact ⟨rfl, rfl, hG⟩
def W_X12_returns : Nat → Nat → Hp → Int32 → Int32 → Option (Int32 × Hp)
  | 0 => fun _ _ _ _ => none
  | n + 1 => fun hd h l1 l2 => (if hd = 16 then (if (100 : Int32) < (l2 : Int32) then some ((-2), h) else ((F_X12_beatGoes n h).bind (fun q2 => (if ixOK (51 + l1) 63 = true then (if ixOK (51 + l1) 63 = true then (if ((hi q2 263 (Int32.toNatClampNeg (51 + l1))) : Int32) = ((hi q2 262 (Int32.toNatClampNeg (51 + l1))) : Int32) then some (l2, q2) else W_X12_returns n 16 q2  l1 (l2 + 1)) else none) else none)))) else none)
set_option maxRecDepth 100000 in
set_option maxHeartbeats 4000000 in
theorem sw_X12_returns (d : Nat)  (n : Nat) : (∀ (l1 : Int32) (l2 : Int32) (h : Hp), ∀ (r : Int32) (h' : Hp), W_X12_returns n 16 h  l1 l2 = some (r, h') → G h → V mX12_returns (d + 6) 16 [some (.ref 226), some (.int l1), some (.int l2)] [] h (fun r1 h1 => r1 = some (.int r) ∧ h1 = h' ∧ G h')) := by
  induction n with
  | zero => exact by intros; contradiction
  | succ n ih =>
    have s_X12_returns_IH_16 := ih
    intro l1 l2 h r h' hF hG
    unfold W_X12_returns at hF
    rw [if_pos rfl] at hF
    refine v_iload_n (i := 2) dX12_returns_16 rfl rfl ?_
    refine v_bipush (v := 100) dX12_returns_17 (by decide) ?_
    refine v_icmp_gt 55 dX12_returns_19 (by decide) (fun c1 => ?_) (fun c1 => ?_)
    · rw [if_pos c1] at hF
      refine v_bipush (v := (-2)) dX12_returns_55 (by decide) ?_
      refine v_ireturn rfl dX12_returns_57 ?_
      obtain ⟨rfl, rfl⟩ := Prod.mk.inj (Option.some.inj hF)
      exact ⟨rfl, rfl, hG⟩
    · rw [if_neg c1] at hF
      refine v_aload_n (i := 0) dX12_returns_22 rfl rfl ?_
      obtain ⟨q2, q2_e, hF⟩ := Option.bind_eq_some_iff.mp hF
      refine c_X12_400 rfl sh_226 (by exact ltG hG (by decide)) (Nat.le_of_ble_eq_true rfl) dX12_returns_23 (s_X12_beatGoes _ q2_e hG) (fun r1 h1 hq => ?_)
      obtain ⟨rfl, hq, hG⟩ := hq
      replace hq := hq.symm
      subst hq
      simp only [Option.toList, List.nil_append]
      refine v_aload_n (i := 0) dX12_returns_26 rfl rfl ?_
      refine g_X12_128 (q := 263) rfl sh_226 (by exact ltG hG (by decide)) (by exact rG hG r0_226_54) dX12_returns_27 ?_
      refine v_bipush (v := 51) dX12_returns_30 (by decide) ?_
      refine v_iload_n (i := 1) dX12_returns_32 rfl rfl ?_
      refine v_iadd dX12_returns_33 ?_
      obtain ⟨k4, hF⟩ := ck_some hF
      refine v_iaload sh_263 (by exact ltG hG (by decide)) (ixO k4) dX12_returns_34 ?_
      refine v_aload_n (i := 0) dX12_returns_35 rfl rfl ?_
      refine g_X12_125 (q := 262) rfl sh_226 (by exact ltG hG (by decide)) (by exact rG hG r0_226_53) dX12_returns_36 ?_
      refine v_bipush (v := 51) dX12_returns_39 (by decide) ?_
      refine v_iload_n (i := 1) dX12_returns_41 rfl rfl ?_
      refine v_iadd dX12_returns_42 ?_
      obtain ⟨k5, hF⟩ := ck_some hF
      refine v_iaload sh_262 (by exact ltG hG (by decide)) (ixO k5) dX12_returns_43 ?_
      refine v_icmp_ne 49 dX12_returns_44 (by decide) (fun c6 => ?_) (fun c6 => ?_)
      · rw [if_neg c6] at hF
        refine v_iinc (i := 2) (v := (l2 + 1)) dX12_returns_49 rfl rfl (by decide) (nlT rfl) ?_
        simp only [List.set_cons_zero, List.set_cons_succ]
        refine v_goto 16 dX12_returns_52 (by decide) ?_
        refine V.weak (la2 := [some (.ref 226), some (.int l1), some (.int (l2 + 1))]) (by simp [wk]) ?_
        exact (s_X12_returns_IH_16) _ _ _ _ _ hF hG
      · rw [if_pos c6] at hF
        refine v_iload_n (i := 2) dX12_returns_47 rfl rfl ?_
        refine v_ireturn rfl dX12_returns_48 ?_
        obtain ⟨rfl, rfl⟩ := Prod.mk.inj (Option.some.inj hF)
        exact ⟨rfl, rfl, hG⟩
def F_X12_returns (n : Nat) (h : Hp) (x1 : Int32) : Option (Int32 × Hp) := ((F_X12_isGoer n h x1).bind (fun q7 => (if (q7.1 : Int32) = 0 then some ((-1), q7.2) else ((F_X12_copiesStill n q7.2).bind (fun q10 => W_X12_returns n 16 q10  x1 1)))))
set_option maxRecDepth 100000 in
set_option maxHeartbeats 4000000 in
theorem s_X12_returns (d : Nat) {n : Nat} {h : Hp} {x1 : Int32} {q0 : (Int32 × Hp)} (hF : F_X12_returns n h x1 = some q0) (hG : G h)  : Kc mX12_returns (d + 6) [.ref 226, .int x1] h (fun r1 h1 => r1 = some (.int q0.1) ∧ h1 = q0.2 ∧ G q0.2) := by
  obtain ⟨r, h'⟩ := q0
  have s_X12_returns_IH_16 := sw_X12_returns d   n
  unfold F_X12_returns at hF
  refine Kc.of [some (.ref 226), some (.int x1), none] ok_X12_returns rfl (Nat.le_of_ble_eq_true rfl) ?_
  refine v_aload_n (i := 0) dX12_returns_0 rfl rfl ?_
  refine v_iload_n (i := 1) dX12_returns_1 rfl rfl ?_
  obtain ⟨q7, q7_e, hF⟩ := Option.bind_eq_some_iff.mp hF
  refine c_X12_409 rfl sh_226 (by exact ltG hG (by decide)) (Nat.le_of_ble_eq_true rfl) dX12_returns_2 (s_X12_isGoer _ q7_e hG) (fun r1 h1 hq => ?_)
  obtain ⟨rfl, hq, hG⟩ := hq
  replace hq := hq.symm
  subst hq
  show V _ _ _ _ (_ :: _) _ _
  refine v_if_ne 10 dX12_returns_5 (by decide) (fun c9 => ?_) (fun c9 => ?_)
  · rw [if_neg c9] at hF
    refine v_aload_n (i := 0) dX12_returns_10 rfl rfl ?_
    obtain ⟨q10, q10_e, hF⟩ := Option.bind_eq_some_iff.mp hF
    refine c_X12_474 rfl sh_226 (by exact ltG hG (by decide)) (Nat.le_of_ble_eq_true rfl) dX12_returns_11 (s_X12_copiesStill _ q10_e hG) (fun r1 h1 hq => ?_)
    obtain ⟨rfl, hq, hG⟩ := hq
    replace hq := hq.symm
    subst hq
    simp only [Option.toList, List.nil_append]
    refine v_iconst (v := 1) dX12_returns_14 (by decide) ?_
    refine v_istore_n (i := 2) dX12_returns_15 rfl (by decide) (nlT rfl) ?_
    simp only [List.set_cons_zero, List.set_cons_succ]
    refine V.weak (la2 := [some (.ref 226), some (.int x1), some (.int 1)]) (by simp [wk]) ?_
    exact (s_X12_returns_IH_16) _ _ _ _ _ hF hG
  · rw [if_pos c9] at hF
    refine v_iconst (v := (-1)) dX12_returns_8 (by decide) ?_
    refine v_ireturn rfl dX12_returns_9 ?_
    obtain ⟨rfl, rfl⟩ := Prod.mk.inj (Option.some.inj hF)
    exact ⟨rfl, rfl, hG⟩
def W_X12_stood : Nat → Nat → Hp → Int32 → Int32 → Int32 → Int32 → Int32 → Option (Int32 × Hp)
  | 0 => fun _ _ _ _ _ _ _ => none
  | n + 1 => fun hd h l1 l2 l3 l4 l5 => (if hd = 35 then (if (l3 : Int32) < (l5 : Int32) then some (l4, h) else (if ixOK (51 + l1) 63 = true then (if ((hi h 263 (Int32.toNatClampNeg (51 + l1))) : Int32) = (l2 : Int32) then ((F_X12_beatGoes n h).bind (fun q6 => W_X12_stood n 35 q6  l1 l2 l3 (l4 + 1) (l5 + 1))) else ((F_X12_beatGoes n h).bind (fun q4 => W_X12_stood n 35 q4  l1 l2 l3 l4 (l5 + 1)))) else none)) else none)
set_option maxRecDepth 100000 in
set_option maxHeartbeats 4000000 in
theorem sw_X12_stood (d : Nat)  (n : Nat) : (∀ (l1 : Int32) (l2 : Int32) (l3 : Int32) (l4 : Int32) (l5 : Int32) (h : Hp), ∀ (r : Int32) (h' : Hp), W_X12_stood n 35 h  l1 l2 l3 l4 l5 = some (r, h') → G h → V mX12_stood (d + 6) 35 [some (.ref 226), some (.int l1), some (.int l2), some (.int l3), some (.int l4), some (.int l5)] [] h (fun r1 h1 => r1 = some (.int r) ∧ h1 = h' ∧ G h')) := by
  induction n with
  | zero => exact by intros; contradiction
  | succ n ih =>
    have s_X12_stood_IH_35 := ih
    intro l1 l2 l3 l4 l5 h r h' hF hG
    unfold W_X12_stood at hF
    rw [if_pos rfl] at hF
    refine v_iload (i := 5) dX12_stood_35 rfl ?_
    refine v_iload_n (i := 3) dX12_stood_37 rfl rfl ?_
    refine v_icmp_gt 67 dX12_stood_38 (by decide) (fun c1 => ?_) (fun c1 => ?_)
    · rw [if_pos c1] at hF
      refine v_iload (i := 4) dX12_stood_67 rfl ?_
      refine v_ireturn rfl dX12_stood_69 ?_
      obtain ⟨rfl, rfl⟩ := Prod.mk.inj (Option.some.inj hF)
      exact ⟨rfl, rfl, hG⟩
    · rw [if_neg c1] at hF
      refine v_aload_n (i := 0) dX12_stood_41 rfl rfl ?_
      refine g_X12_128 (q := 263) rfl sh_226 (by exact ltG hG (by decide)) (by exact rG hG r0_226_54) dX12_stood_42 ?_
      refine v_bipush (v := 51) dX12_stood_45 (by decide) ?_
      refine v_iload_n (i := 1) dX12_stood_47 rfl rfl ?_
      refine v_iadd dX12_stood_48 ?_
      obtain ⟨k2, hF⟩ := ck_some hF
      refine v_iaload sh_263 (by exact ltG hG (by decide)) (ixO k2) dX12_stood_49 ?_
      refine v_iload_n (i := 2) dX12_stood_50 rfl rfl ?_
      refine v_icmp_ne 57 dX12_stood_51 (by decide) (fun c3 => ?_) (fun c3 => ?_)
      · rw [if_neg c3] at hF
        refine v_aload_n (i := 0) dX12_stood_57 rfl rfl ?_
        obtain ⟨q4, q4_e, hF⟩ := Option.bind_eq_some_iff.mp hF
        refine c_X12_400 rfl sh_226 (by exact ltG hG (by decide)) (Nat.le_of_ble_eq_true rfl) dX12_stood_58 (s_X12_beatGoes _ q4_e hG) (fun r1 h1 hq => ?_)
        obtain ⟨rfl, hq, hG⟩ := hq
        replace hq := hq.symm
        subst hq
        simp only [Option.toList, List.nil_append]
        refine v_iinc (i := 5) (v := (l5 + 1)) dX12_stood_61 rfl rfl (by decide) (nlT rfl) ?_
        simp only [List.set_cons_zero, List.set_cons_succ]
        refine v_goto 35 dX12_stood_64 (by decide) ?_
        refine V.weak (la2 := [some (.ref 226), some (.int l1), some (.int l2), some (.int l3), some (.int l4), some (.int (l5 + 1))]) (by simp [wk]) ?_
        exact (s_X12_stood_IH_35) _ _ _ _ _ _ _ _ hF hG
      · rw [if_pos c3] at hF
        refine v_iinc (i := 4) (v := (l4 + 1)) dX12_stood_54 rfl rfl (by decide) (nlT rfl) ?_
        simp only [List.set_cons_zero, List.set_cons_succ]
        refine v_aload_n (i := 0) dX12_stood_57 rfl rfl ?_
        obtain ⟨q6, q6_e, hF⟩ := Option.bind_eq_some_iff.mp hF
        refine c_X12_400 rfl sh_226 (by exact ltG hG (by decide)) (Nat.le_of_ble_eq_true rfl) dX12_stood_58 (s_X12_beatGoes _ q6_e hG) (fun r1 h1 hq => ?_)
        obtain ⟨rfl, hq, hG⟩ := hq
        replace hq := hq.symm
        subst hq
        simp only [Option.toList, List.nil_append]
        refine v_iinc (i := 5) (v := (l5 + 1)) dX12_stood_61 rfl rfl (by decide) (nlT rfl) ?_
        simp only [List.set_cons_zero, List.set_cons_succ]
        refine v_goto 35 dX12_stood_64 (by decide) ?_
        refine V.weak (la2 := [some (.ref 226), some (.int l1), some (.int l2), some (.int l3), some (.int (l4 + 1)), some (.int (l5 + 1))]) (by simp [wk]) ?_
        exact (s_X12_stood_IH_35) _ _ _ _ _ _ _ _ hF hG
def F_X12_stood (n : Nat) (h : Hp) (x1 : Int32) (x2 : Int32) (x3 : Int32) : Option (Int32 × Hp) := ((F_X12_isGoer n h x1).bind (fun q8 => (if (q8.1 : Int32) = 0 then some ((-1), q8.2) else ((F_X12_isCell n q8.2 x2).bind (fun q11 => (if (q11.1 : Int32) = 0 then some ((-1), q11.2) else ((F_X12_isLong n q11.2 x3).bind (fun q14 => (if (q14.1 : Int32) = 0 then some ((-1), q14.2) else ((F_X12_copiesStill n q14.2).bind (fun q17 => W_X12_stood n 35 q17  x1 x2 x3 0 0)))))))))))
set_option maxRecDepth 100000 in
set_option maxHeartbeats 4000000 in
theorem s_X12_stood (d : Nat) {n : Nat} {h : Hp} {x1 : Int32} {x2 : Int32} {x3 : Int32} {q0 : (Int32 × Hp)} (hF : F_X12_stood n h x1 x2 x3 = some q0) (hG : G h)  : Kc mX12_stood (d + 6) [.ref 226, .int x1, .int x2, .int x3] h (fun r1 h1 => r1 = some (.int q0.1) ∧ h1 = q0.2 ∧ G q0.2) := by
  obtain ⟨r, h'⟩ := q0
  have s_X12_stood_IH_35 := sw_X12_stood d   n
  unfold F_X12_stood at hF
  refine Kc.of [some (.ref 226), some (.int x1), some (.int x2), some (.int x3), none, none] ok_X12_stood rfl (Nat.le_of_ble_eq_true rfl) ?_
  refine v_aload_n (i := 0) dX12_stood_0 rfl rfl ?_
  refine v_iload_n (i := 1) dX12_stood_1 rfl rfl ?_
  obtain ⟨q8, q8_e, hF⟩ := Option.bind_eq_some_iff.mp hF
  refine c_X12_409 rfl sh_226 (by exact ltG hG (by decide)) (Nat.le_of_ble_eq_true rfl) dX12_stood_2 (s_X12_isGoer _ q8_e hG) (fun r1 h1 hq => ?_)
  obtain ⟨rfl, hq, hG⟩ := hq
  replace hq := hq.symm
  subst hq
  show V _ _ _ _ (_ :: _) _ _
  refine v_if_eq 23 dX12_stood_5 (by decide) (fun c10 => ?_) (fun c10 => ?_)
  · rw [if_pos c10] at hF
    refine v_iconst (v := (-1)) dX12_stood_23 (by decide) ?_
    refine v_ireturn rfl dX12_stood_24 ?_
    obtain ⟨rfl, rfl⟩ := Prod.mk.inj (Option.some.inj hF)
    exact ⟨rfl, rfl, hG⟩
  · rw [if_neg c10] at hF
    refine v_aload_n (i := 0) dX12_stood_8 rfl rfl ?_
    refine v_iload_n (i := 2) dX12_stood_9 rfl rfl ?_
    obtain ⟨q11, q11_e, hF⟩ := Option.bind_eq_some_iff.mp hF
    refine c_X12_403 rfl sh_226 (by exact ltG hG (by decide)) (Nat.le_of_ble_eq_true rfl) dX12_stood_10 (s_X12_isCell _ q11_e hG) (fun r1 h1 hq => ?_)
    obtain ⟨rfl, hq, hG⟩ := hq
    replace hq := hq.symm
    subst hq
    show V _ _ _ _ (_ :: _) _ _
    refine v_if_eq 23 dX12_stood_13 (by decide) (fun c13 => ?_) (fun c13 => ?_)
    · rw [if_pos c13] at hF
      refine v_iconst (v := (-1)) dX12_stood_23 (by decide) ?_
      refine v_ireturn rfl dX12_stood_24 ?_
      obtain ⟨rfl, rfl⟩ := Prod.mk.inj (Option.some.inj hF)
      exact ⟨rfl, rfl, hG⟩
    · rw [if_neg c13] at hF
      refine v_iload_n (i := 3) dX12_stood_16 rfl rfl ?_
      obtain ⟨q14, q14_e, hF⟩ := Option.bind_eq_some_iff.mp hF
      refine c_X12_415 rfl (Nat.le_of_ble_eq_true rfl) dX12_stood_17 (s_X12_isLong _ q14_e hG) (fun r1 h1 hq => ?_)
      obtain ⟨rfl, hq, hG⟩ := hq
      replace hq := hq.symm
      subst hq
      show V _ _ _ _ (_ :: _) _ _
      refine v_if_ne 25 dX12_stood_20 (by decide) (fun c16 => ?_) (fun c16 => ?_)
      · rw [if_neg c16] at hF
        refine v_aload_n (i := 0) dX12_stood_25 rfl rfl ?_
        obtain ⟨q17, q17_e, hF⟩ := Option.bind_eq_some_iff.mp hF
        refine c_X12_474 rfl sh_226 (by exact ltG hG (by decide)) (Nat.le_of_ble_eq_true rfl) dX12_stood_26 (s_X12_copiesStill _ q17_e hG) (fun r1 h1 hq => ?_)
        obtain ⟨rfl, hq, hG⟩ := hq
        replace hq := hq.symm
        subst hq
        simp only [Option.toList, List.nil_append]
        refine v_iconst (v := 0) dX12_stood_29 (by decide) ?_
        refine v_istore (i := 4) dX12_stood_30 (by decide) (nlT rfl) ?_
        simp only [List.set_cons_zero, List.set_cons_succ]
        refine v_iconst (v := 0) dX12_stood_32 (by decide) ?_
        refine v_istore (i := 5) dX12_stood_33 (by decide) (nlT rfl) ?_
        simp only [List.set_cons_zero, List.set_cons_succ]
        refine V.weak (la2 := [some (.ref 226), some (.int x1), some (.int x2), some (.int x3), some (.int 0), some (.int 0)]) (by simp [wk]) ?_
        exact (s_X12_stood_IH_35) _ _ _ _ _ _ _ _ hF hG
      · rw [if_pos c16] at hF
        refine v_iconst (v := (-1)) dX12_stood_23 (by decide) ?_
        refine v_ireturn rfl dX12_stood_24 ?_
        obtain ⟨rfl, rfl⟩ := Prod.mk.inj (Option.some.inj hF)
        exact ⟨rfl, rfl, hG⟩
def F_X12_then (n : Nat) (h : Hp) (x1 : Int32) (x2 : Int32) (x3 : Int32) : Option (Int32 × Hp) := ((F_X12_isGoer n h x1).bind (fun q1 => (if (q1.1 : Int32) = 0 then some ((-1), q1.2) else ((F_X12_isLong n q1.2 x2).bind (fun q4 => (if (q4.1 : Int32) = 0 then some ((-1), q4.2) else ((F_X12_in n q4.2 x3 0 1).bind (fun q7 => (if (q7.1 : Int32) = 0 then some ((-1), q7.2) else ((F_X12_copies n q7.2).bind (fun q10 => ((F_X12_goes n q10 x2).bind (fun q12 => (if (x3 : Int32) = 0 then (if ixOK (51 + x1) 63 = true then some ((hi q12 263 (Int32.toNatClampNeg (51 + x1))), q12) else none) else (if ixOK (56 + x1) 63 = true then some ((hi q12 263 (Int32.toNatClampNeg (56 + x1))), q12) else none)))))))))))))))
set_option maxRecDepth 100000 in
set_option maxHeartbeats 4000000 in
theorem s_X12_then (d : Nat) {n : Nat} {h : Hp} {x1 : Int32} {x2 : Int32} {x3 : Int32} {q0 : (Int32 × Hp)} (hF : F_X12_then n h x1 x2 x3 = some q0) (hG : G h)  : Kc mX12_then (d + 7) [.ref 226, .int x1, .int x2, .int x3] h (fun r1 h1 => r1 = some (.int q0.1) ∧ h1 = q0.2 ∧ G q0.2) := by
  obtain ⟨r, h'⟩ := q0
  unfold F_X12_then at hF
  refine Kc.of [some (.ref 226), some (.int x1), some (.int x2), some (.int x3)] ok_X12_then rfl (Nat.le_of_ble_eq_true rfl) ?_
  refine v_aload_n (i := 0) dX12_then_0 rfl rfl ?_
  refine v_iload_n (i := 1) dX12_then_1 rfl rfl ?_
  obtain ⟨q1, q1_e, hF⟩ := Option.bind_eq_some_iff.mp hF
  refine c_X12_409 rfl sh_226 (by exact ltG hG (by decide)) (Nat.le_of_ble_eq_true rfl) dX12_then_2 (s_X12_isGoer _ q1_e hG) (fun r1 h1 hq => ?_)
  obtain ⟨rfl, hq, hG⟩ := hq
  replace hq := hq.symm
  subst hq
  show V _ _ _ _ (_ :: _) _ _
  refine v_if_eq 24 dX12_then_5 (by decide) (fun c3 => ?_) (fun c3 => ?_)
  · rw [if_pos c3] at hF
    refine v_iconst (v := (-1)) dX12_then_24 (by decide) ?_
    refine v_ireturn rfl dX12_then_25 ?_
    obtain ⟨rfl, rfl⟩ := Prod.mk.inj (Option.some.inj hF)
    exact ⟨rfl, rfl, hG⟩
  · rw [if_neg c3] at hF
    refine v_iload_n (i := 2) dX12_then_8 rfl rfl ?_
    obtain ⟨q4, q4_e, hF⟩ := Option.bind_eq_some_iff.mp hF
    refine c_X12_415 rfl (Nat.le_of_ble_eq_true rfl) dX12_then_9 (s_X12_isLong _ q4_e hG) (fun r1 h1 hq => ?_)
    obtain ⟨rfl, hq, hG⟩ := hq
    replace hq := hq.symm
    subst hq
    show V _ _ _ _ (_ :: _) _ _
    refine v_if_eq 24 dX12_then_12 (by decide) (fun c6 => ?_) (fun c6 => ?_)
    · rw [if_pos c6] at hF
      refine v_iconst (v := (-1)) dX12_then_24 (by decide) ?_
      refine v_ireturn rfl dX12_then_25 ?_
      obtain ⟨rfl, rfl⟩ := Prod.mk.inj (Option.some.inj hF)
      exact ⟨rfl, rfl, hG⟩
    · rw [if_neg c6] at hF
      refine v_iload_n (i := 3) dX12_then_15 rfl rfl ?_
      refine v_iconst (v := 0) dX12_then_16 (by decide) ?_
      refine v_iconst (v := 1) dX12_then_17 (by decide) ?_
      obtain ⟨q7, q7_e, hF⟩ := Option.bind_eq_some_iff.mp hF
      refine c_X12_330 rfl (Nat.le_of_ble_eq_true rfl) dX12_then_18 (s_X12_in _ q7_e hG) (fun r1 h1 hq => ?_)
      obtain ⟨rfl, hq, hG⟩ := hq
      replace hq := hq.symm
      subst hq
      show V _ _ _ _ (_ :: _) _ _
      refine v_if_ne 26 dX12_then_21 (by decide) (fun c9 => ?_) (fun c9 => ?_)
      · rw [if_neg c9] at hF
        refine v_aload_n (i := 0) dX12_then_26 rfl rfl ?_
        obtain ⟨q10, q10_e, hF⟩ := Option.bind_eq_some_iff.mp hF
        refine c_X12_346 rfl sh_226 (by exact ltG hG (by decide)) (Nat.le_of_ble_eq_true rfl) dX12_then_27 (s_X12_copies _ q10_e hG) (fun r1 h1 hq => ?_)
        obtain ⟨rfl, hq, hG⟩ := hq
        replace hq := hq.symm
        subst hq
        simp only [Option.toList, List.nil_append]
        refine v_aload_n (i := 0) dX12_then_30 rfl rfl ?_
        refine v_iload_n (i := 2) dX12_then_31 rfl rfl ?_
        obtain ⟨q12, q12_e, hF⟩ := Option.bind_eq_some_iff.mp hF
        refine c_X12_418 rfl sh_226 (by exact ltG hG (by decide)) (Nat.le_of_ble_eq_true rfl) dX12_then_32 (s_X12_goes _ q12_e hG) (fun r1 h1 hq => ?_)
        obtain ⟨rfl, hq, hG⟩ := hq
        replace hq := hq.symm
        subst hq
        simp only [Option.toList, List.nil_append]
        refine v_iload_n (i := 3) dX12_then_35 rfl rfl ?_
        refine v_if_ne 51 dX12_then_36 (by decide) (fun c14 => ?_) (fun c14 => ?_)
        · rw [if_neg c14] at hF
          refine v_aload_n (i := 0) dX12_then_51 rfl rfl ?_
          refine g_X12_128 (q := 263) rfl sh_226 (by exact ltG hG (by decide)) (by exact rG hG r0_226_54) dX12_then_52 ?_
          refine v_bipush (v := 56) dX12_then_55 (by decide) ?_
          refine v_iload_n (i := 1) dX12_then_57 rfl rfl ?_
          refine v_iadd dX12_then_58 ?_
          obtain ⟨k15, hF⟩ := ck_some hF
          refine v_iaload sh_263 (by exact ltG hG (by decide)) (ixO k15) dX12_then_59 ?_
          refine v_ireturn rfl dX12_then_60 ?_
          obtain ⟨rfl, rfl⟩ := Prod.mk.inj (Option.some.inj hF)
          exact ⟨rfl, rfl, hG⟩
        · rw [if_pos c14] at hF
          refine v_aload_n (i := 0) dX12_then_39 rfl rfl ?_
          refine g_X12_128 (q := 263) rfl sh_226 (by exact ltG hG (by decide)) (by exact rG hG r0_226_54) dX12_then_40 ?_
          refine v_bipush (v := 51) dX12_then_43 (by decide) ?_
          refine v_iload_n (i := 1) dX12_then_45 rfl rfl ?_
          refine v_iadd dX12_then_46 ?_
          obtain ⟨k16, hF⟩ := ck_some hF
          refine v_iaload sh_263 (by exact ltG hG (by decide)) (ixO k16) dX12_then_47 ?_
          refine v_goto 60 dX12_then_48 (by decide) ?_
          refine v_ireturn rfl dX12_then_60 ?_
          obtain ⟨rfl, rfl⟩ := Prod.mk.inj (Option.some.inj hF)
          exact ⟨rfl, rfl, hG⟩
      · rw [if_pos c9] at hF
        refine v_iconst (v := (-1)) dX12_then_24 (by decide) ?_
        refine v_ireturn rfl dX12_then_25 ?_
        obtain ⟨rfl, rfl⟩ := Prod.mk.inj (Option.some.inj hF)
        exact ⟨rfl, rfl, hG⟩
def F_X12_tunesIn (n : Nat) (h : Hp) (x1 : Int32) : Option (Int32 × Hp) := ((F_X12_isLong n h x1).bind (fun q1 => (if (q1.1 : Int32) = 0 then some ((-1), q1.2) else ((F_X12_copies n q1.2).bind (fun q4 => ((F_X12_goes n q4 x1).bind (fun q6 => ((F_X12_tuneBits n q6).bind (fun q8 => some (q8.1, q8.2))))))))))
set_option maxRecDepth 100000 in
set_option maxHeartbeats 4000000 in
theorem s_X12_tunesIn (d : Nat) {n : Nat} {h : Hp} {x1 : Int32} {q0 : (Int32 × Hp)} (hF : F_X12_tunesIn n h x1 = some q0) (hG : G h)  : Kc mX12_tunesIn (d + 7) [.ref 226, .int x1] h (fun r1 h1 => r1 = some (.int q0.1) ∧ h1 = q0.2 ∧ G q0.2) := by
  obtain ⟨r, h'⟩ := q0
  unfold F_X12_tunesIn at hF
  refine Kc.of [some (.ref 226), some (.int x1)] ok_X12_tunesIn rfl (Nat.le_of_ble_eq_true rfl) ?_
  refine v_iload_n (i := 1) dX12_tunesIn_0 rfl rfl ?_
  obtain ⟨q1, q1_e, hF⟩ := Option.bind_eq_some_iff.mp hF
  refine c_X12_415 rfl (Nat.le_of_ble_eq_true rfl) dX12_tunesIn_1 (s_X12_isLong _ q1_e hG) (fun r1 h1 hq => ?_)
  obtain ⟨rfl, hq, hG⟩ := hq
  replace hq := hq.symm
  subst hq
  show V _ _ _ _ (_ :: _) _ _
  refine v_if_ne 9 dX12_tunesIn_4 (by decide) (fun c3 => ?_) (fun c3 => ?_)
  · rw [if_neg c3] at hF
    refine v_aload_n (i := 0) dX12_tunesIn_9 rfl rfl ?_
    obtain ⟨q4, q4_e, hF⟩ := Option.bind_eq_some_iff.mp hF
    refine c_X12_346 rfl sh_226 (by exact ltG hG (by decide)) (Nat.le_of_ble_eq_true rfl) dX12_tunesIn_10 (s_X12_copies _ q4_e hG) (fun r1 h1 hq => ?_)
    obtain ⟨rfl, hq, hG⟩ := hq
    replace hq := hq.symm
    subst hq
    simp only [Option.toList, List.nil_append]
    refine v_aload_n (i := 0) dX12_tunesIn_13 rfl rfl ?_
    refine v_iload_n (i := 1) dX12_tunesIn_14 rfl rfl ?_
    obtain ⟨q6, q6_e, hF⟩ := Option.bind_eq_some_iff.mp hF
    refine c_X12_418 rfl sh_226 (by exact ltG hG (by decide)) (Nat.le_of_ble_eq_true rfl) dX12_tunesIn_15 (s_X12_goes _ q6_e hG) (fun r1 h1 hq => ?_)
    obtain ⟨rfl, hq, hG⟩ := hq
    replace hq := hq.symm
    subst hq
    simp only [Option.toList, List.nil_append]
    refine v_aload_n (i := 0) dX12_tunesIn_18 rfl rfl ?_
    obtain ⟨q8, q8_e, hF⟩ := Option.bind_eq_some_iff.mp hF
    refine c_X12_359 rfl sh_226 (by exact ltG hG (by decide)) (Nat.le_of_ble_eq_true rfl) dX12_tunesIn_19 (s_X12_tuneBits _ q8_e hG) (fun r1 h1 hq => ?_)
    obtain ⟨rfl, hq, hG⟩ := hq
    replace hq := hq.symm
    subst hq
    show V _ _ _ _ (_ :: _) _ _
    refine v_ireturn rfl dX12_tunesIn_22 ?_
    obtain ⟨rfl, rfl⟩ := Prod.mk.inj (Option.some.inj hF)
    exact ⟨rfl, rfl, hG⟩
  · rw [if_pos c3] at hF
    refine v_iconst (v := (-1)) dX12_tunesIn_7 (by decide) ?_
    refine v_ireturn rfl dX12_tunesIn_8 ?_
    obtain ⟨rfl, rfl⟩ := Prod.mk.inj (Option.some.inj hF)
    exact ⟨rfl, rfl, hG⟩
def W_X12_year : Nat → Nat → Hp → Int32 → Int32 → Int32 → Int32 → Int32 → Option (Int32 × Hp)
  | 0 => fun _ _ _ _ _ _ _ => none
  | n + 1 => fun hd h l1 l2 l3 l4 l5 => (if hd = 33 then (if (l3 : Int32) ≤ (l5 : Int32) then some (l4, h) else ((F_X12_copies n h).bind (fun q2 => ((F_X12_goes n (wrI q2 226 55 ((hi q2 226 55) + l5)) l2).bind (fun q4 => (if ixOK l1 63 = true then (if ((hi q4 263 (Int32.toNatClampNeg l1)) : Int32) ≤ 0 then W_X12_year n 33 q4  l1 l2 l3 l4 (l5 + 1) else W_X12_year n 33 q4  l1 l2 l3 (l4 + 1) (l5 + 1)) else none)))))) else none)
set_option maxRecDepth 100000 in
set_option maxHeartbeats 4000000 in
theorem sw_X12_year (d : Nat)  (n : Nat) : (∀ (l1 : Int32) (l2 : Int32) (l3 : Int32) (l4 : Int32) (l5 : Int32) (h : Hp), ∀ (r : Int32) (h' : Hp), W_X12_year n 33 h  l1 l2 l3 l4 l5 = some (r, h') → G h → V mX12_year (d + 7) 33 [some (.ref 226), some (.int l1), some (.int l2), some (.int l3), some (.int l4), some (.int l5)] [] h (fun r1 h1 => r1 = some (.int r) ∧ h1 = h' ∧ G h')) := by
  induction n with
  | zero => exact by intros; contradiction
  | succ n ih =>
    have s_X12_year_IH_33 := ih
    intro l1 l2 l3 l4 l5 h r h' hF hG
    unfold W_X12_year at hF
    rw [if_pos rfl] at hF
    refine v_iload (i := 5) dX12_year_33 rfl ?_
    refine v_iload_n (i := 3) dX12_year_35 rfl rfl ?_
    refine v_icmp_ge 77 dX12_year_36 (by decide) (fun c1 => ?_) (fun c1 => ?_)
    · rw [if_pos c1] at hF
      refine v_iload (i := 4) dX12_year_77 rfl ?_
      refine v_ireturn rfl dX12_year_79 ?_
      obtain ⟨rfl, rfl⟩ := Prod.mk.inj (Option.some.inj hF)
      exact ⟨rfl, rfl, hG⟩
    · rw [if_neg c1] at hF
      refine v_aload_n (i := 0) dX12_year_39 rfl rfl ?_
      obtain ⟨q2, q2_e, hF⟩ := Option.bind_eq_some_iff.mp hF
      refine c_X12_346 rfl sh_226 (by exact ltG hG (by decide)) (Nat.le_of_ble_eq_true rfl) dX12_year_40 (s_X12_copies _ q2_e hG) (fun r1 h1 hq => ?_)
      obtain ⟨rfl, hq, hG⟩ := hq
      replace hq := hq.symm
      subst hq
      simp only [Option.toList, List.nil_append]
      refine v_aload_n (i := 0) dX12_year_43 rfl rfl ?_
      refine v_dup dX12_year_44 rfl ?_
      refine g_X12_337 rfl sh_226 (by exact ltG hG (by decide)) dX12_year_45 ?_
      refine v_iload (i := 5) dX12_year_48 rfl ?_
      refine v_iadd dX12_year_50 ?_
      refine p_X12_337 rfl sh_226 (by exact ltG hG (by decide)) dX12_year_51 ?_
      refine v_aload_n (i := 0) dX12_year_54 rfl rfl ?_
      refine v_iload_n (i := 2) dX12_year_55 rfl rfl ?_
      obtain ⟨q4, q4_e, hF⟩ := Option.bind_eq_some_iff.mp hF
      refine c_X12_418 rfl sh_226 (by exact ltG hG (by decide)) (Nat.le_of_ble_eq_true rfl) dX12_year_56 (s_X12_goes _ q4_e hG) (fun r1 h1 hq => ?_)
      obtain ⟨rfl, hq, hG⟩ := hq
      replace hq := hq.symm
      subst hq
      simp only [Option.toList, List.nil_append]
      refine v_aload_n (i := 0) dX12_year_59 rfl rfl ?_
      refine g_X12_128 (q := 263) rfl sh_226 (by exact ltG hG (by decide)) (by exact rG hG r0_226_54) dX12_year_60 ?_
      refine v_iload_n (i := 1) dX12_year_63 rfl rfl ?_
      obtain ⟨k6, hF⟩ := ck_some hF
      refine v_iaload sh_263 (by exact ltG hG (by decide)) (ixO k6) dX12_year_64 ?_
      refine v_if_le 71 dX12_year_65 (by decide) (fun c7 => ?_) (fun c7 => ?_)
      · rw [if_pos c7] at hF
        refine v_iinc (i := 5) (v := (l5 + 1)) dX12_year_71 rfl rfl (by decide) (nlT rfl) ?_
        simp only [List.set_cons_zero, List.set_cons_succ]
        refine v_goto 33 dX12_year_74 (by decide) ?_
        refine V.weak (la2 := [some (.ref 226), some (.int l1), some (.int l2), some (.int l3), some (.int l4), some (.int (l5 + 1))]) (by simp [wk]) ?_
        exact (s_X12_year_IH_33) _ _ _ _ _ _ _ _ hF hG
      · rw [if_neg c7] at hF
        refine v_iinc (i := 4) (v := (l4 + 1)) dX12_year_68 rfl rfl (by decide) (nlT rfl) ?_
        simp only [List.set_cons_zero, List.set_cons_succ]
        refine v_iinc (i := 5) (v := (l5 + 1)) dX12_year_71 rfl rfl (by decide) (nlT rfl) ?_
        simp only [List.set_cons_zero, List.set_cons_succ]
        refine v_goto 33 dX12_year_74 (by decide) ?_
        refine V.weak (la2 := [some (.ref 226), some (.int l1), some (.int l2), some (.int l3), some (.int (l4 + 1)), some (.int (l5 + 1))]) (by simp [wk]) ?_
        exact (s_X12_year_IH_33) _ _ _ _ _ _ _ _ hF hG
def F_X12_year (n : Nat) (h : Hp) (x1 : Int32) (x2 : Int32) (x3 : Int32) : Option (Int32 × Hp) := ((F_X12_isCell n h x1).bind (fun q8 => (if (q8.1 : Int32) = 0 then some ((-1), q8.2) else ((F_X12_isLong n q8.2 x2).bind (fun q11 => (if (q11.1 : Int32) = 0 then some ((-1), q11.2) else ((F_X12_in n q11.2 x3 1 20).bind (fun q14 => (if (q14.1 : Int32) = 0 then some ((-1), q14.2) else W_X12_year n 33 q14.2  x1 x2 x3 0 0)))))))))
set_option maxRecDepth 100000 in
set_option maxHeartbeats 4000000 in
theorem s_X12_year (d : Nat) {n : Nat} {h : Hp} {x1 : Int32} {x2 : Int32} {x3 : Int32} {q0 : (Int32 × Hp)} (hF : F_X12_year n h x1 x2 x3 = some q0) (hG : G h)  : Kc mX12_year (d + 7) [.ref 226, .int x1, .int x2, .int x3] h (fun r1 h1 => r1 = some (.int q0.1) ∧ h1 = q0.2 ∧ G q0.2) := by
  obtain ⟨r, h'⟩ := q0
  have s_X12_year_IH_33 := sw_X12_year d   n
  unfold F_X12_year at hF
  refine Kc.of [some (.ref 226), some (.int x1), some (.int x2), some (.int x3), none, none] ok_X12_year rfl (Nat.le_of_ble_eq_true rfl) ?_
  refine v_aload_n (i := 0) dX12_year_0 rfl rfl ?_
  refine v_iload_n (i := 1) dX12_year_1 rfl rfl ?_
  obtain ⟨q8, q8_e, hF⟩ := Option.bind_eq_some_iff.mp hF
  refine c_X12_403 rfl sh_226 (by exact ltG hG (by decide)) (Nat.le_of_ble_eq_true rfl) dX12_year_2 (s_X12_isCell _ q8_e hG) (fun r1 h1 hq => ?_)
  obtain ⟨rfl, hq, hG⟩ := hq
  replace hq := hq.symm
  subst hq
  show V _ _ _ _ (_ :: _) _ _
  refine v_if_eq 25 dX12_year_5 (by decide) (fun c10 => ?_) (fun c10 => ?_)
  · rw [if_pos c10] at hF
    refine v_iconst (v := (-1)) dX12_year_25 (by decide) ?_
    refine v_ireturn rfl dX12_year_26 ?_
    obtain ⟨rfl, rfl⟩ := Prod.mk.inj (Option.some.inj hF)
    exact ⟨rfl, rfl, hG⟩
  · rw [if_neg c10] at hF
    refine v_iload_n (i := 2) dX12_year_8 rfl rfl ?_
    obtain ⟨q11, q11_e, hF⟩ := Option.bind_eq_some_iff.mp hF
    refine c_X12_415 rfl (Nat.le_of_ble_eq_true rfl) dX12_year_9 (s_X12_isLong _ q11_e hG) (fun r1 h1 hq => ?_)
    obtain ⟨rfl, hq, hG⟩ := hq
    replace hq := hq.symm
    subst hq
    show V _ _ _ _ (_ :: _) _ _
    refine v_if_eq 25 dX12_year_12 (by decide) (fun c13 => ?_) (fun c13 => ?_)
    · rw [if_pos c13] at hF
      refine v_iconst (v := (-1)) dX12_year_25 (by decide) ?_
      refine v_ireturn rfl dX12_year_26 ?_
      obtain ⟨rfl, rfl⟩ := Prod.mk.inj (Option.some.inj hF)
      exact ⟨rfl, rfl, hG⟩
    · rw [if_neg c13] at hF
      refine v_iload_n (i := 3) dX12_year_15 rfl rfl ?_
      refine v_iconst (v := 1) dX12_year_16 (by decide) ?_
      refine v_bipush (v := 20) dX12_year_17 (by decide) ?_
      obtain ⟨q14, q14_e, hF⟩ := Option.bind_eq_some_iff.mp hF
      refine c_X12_330 rfl (Nat.le_of_ble_eq_true rfl) dX12_year_19 (s_X12_in _ q14_e hG) (fun r1 h1 hq => ?_)
      obtain ⟨rfl, hq, hG⟩ := hq
      replace hq := hq.symm
      subst hq
      show V _ _ _ _ (_ :: _) _ _
      refine v_if_ne 27 dX12_year_22 (by decide) (fun c16 => ?_) (fun c16 => ?_)
      · rw [if_neg c16] at hF
        refine v_iconst (v := 0) dX12_year_27 (by decide) ?_
        refine v_istore (i := 4) dX12_year_28 (by decide) (nlT rfl) ?_
        simp only [List.set_cons_zero, List.set_cons_succ]
        refine v_iconst (v := 0) dX12_year_30 (by decide) ?_
        refine v_istore (i := 5) dX12_year_31 (by decide) (nlT rfl) ?_
        simp only [List.set_cons_zero, List.set_cons_succ]
        refine V.weak (la2 := [some (.ref 226), some (.int x1), some (.int x2), some (.int x3), some (.int 0), some (.int 0)]) (by simp [wk]) ?_
        exact (s_X12_year_IH_33) _ _ _ _ _ _ _ _ hF hG
      · rw [if_pos c16] at hF
        refine v_iconst (v := (-1)) dX12_year_25 (by decide) ?_
        refine v_ireturn rfl dX12_year_26 ?_
        obtain ⟨rfl, rfl⟩ := Prod.mk.inj (Option.some.inj hF)
        exact ⟨rfl, rfl, hG⟩
def W_X0_goOn : Nat → Nat → Hp → Nat → Nat → Int32 → Int32 → Option Hp
  | 0 => fun _ _ _ _ _ _ => none
  | n + 1 => fun hd h a b1 l2 l3 => (if hd = 2 then (if (l2 : Int32) ≤ (l3 : Int32) then some h else ((F_X0_walk n h a b1).bind (fun q2 => ((F_X0_spread n q2 a b1 (hi q2 a 4)).bind (fun q4 => W_X0_goOn n 2 q4 a b1 l2 (l3 + 1)))))) else none)
set_option maxRecDepth 100000 in
set_option maxHeartbeats 4000000 in
theorem sw_X0_goOn (d : Nat) (a : Nat) (b1 : Nat) (hs : IsBd a) (ht1 : Sc b1) (n : Nat) : (∀ (l2 : Int32) (l3 : Int32) (h : Hp), ∀ (h' : Hp), W_X0_goOn n 2 h a b1 l2 l3 = some h' → G h → V mX0_goOn (d + 5) 2 [some (.ref a), some (.ref b1), some (.int l2), some (.int l3)] [] h (fun r1 h1 => r1 = none ∧ h1 = h' ∧ G h')) := by
  obtain ⟨s0, sF, sL, s3, s4, s5, s6, s7⟩ := id hs
  obtain ⟨sf0, sf4⟩ := id sF
  obtain ⟨sl0, sl1, sl2, sl3, sl4, sl5, sl6, sl7⟩ := id sL
  obtain ⟨t10, t11, t12, t13, t14, t15, t16, t17⟩ := id ht1
  induction n with
  | zero => exact by intros; contradiction
  | succ n ih =>
    have s_X0_goOn_IH_2 := ih
    intro l2 l3 h h' hF hG
    unfold W_X0_goOn at hF
    rw [if_pos rfl] at hF
    refine v_iload_n (i := 3) dX0_goOn_2 rfl rfl ?_
    refine v_iload_n (i := 2) dX0_goOn_3 rfl rfl ?_
    refine v_icmp_ge 27 dX0_goOn_4 (by decide) (fun c1 => ?_) (fun c1 => ?_)
    · rw [if_pos c1] at hF
      refine v_return rfl dX0_goOn_27 ?_
      obtain rfl := Option.some.inj hF
      exact ⟨rfl, rfl, hG⟩
    · rw [if_neg c1] at hF
      refine v_aload_n (i := 0) dX0_goOn_7 rfl rfl ?_
      refine v_aload_n (i := 1) dX0_goOn_8 rfl rfl ?_
      obtain ⟨q2, q2_e, hF⟩ := Option.bind_eq_some_iff.mp hF
      refine c_X0_123 rfl s0 (by exact ltG hG (by omega)) (Nat.le_of_ble_eq_true rfl) dX0_goOn_9 (s_X0_walk _ q2_e hG (by first | assumption | exact sc_30 | exact sc_34 | exact sc_10 | exact fd_24 | exact fd_4 | exact lw_25 | exact lw_5 | exact bd_23 | exact bd_3 | exact ⟨by first | assumption | rfl, by first | decide | omega⟩) (by first | assumption | exact sc_30 | exact sc_34 | exact sc_10 | exact fd_24 | exact fd_4 | exact lw_25 | exact lw_5 | exact bd_23 | exact bd_3 | exact ⟨by first | assumption | rfl, by first | decide | omega⟩)) (fun r1 h1 hq => ?_)
      obtain ⟨rfl, hq, hG⟩ := hq
      replace hq := hq.symm
      subst hq
      simp only [Option.toList, List.nil_append]
      refine v_aload_n (i := 0) dX0_goOn_12 rfl rfl ?_
      refine v_aload_n (i := 1) dX0_goOn_13 rfl rfl ?_
      refine v_aload_n (i := 0) dX0_goOn_14 rfl rfl ?_
      refine g_X0_32 rfl s0 (by exact ltG hG (by omega)) dX0_goOn_15 ?_
      obtain ⟨q4, q4_e, hF⟩ := Option.bind_eq_some_iff.mp hF
      refine c_X0_127 rfl s0 (by exact ltG hG (by omega)) (Nat.le_of_ble_eq_true rfl) dX0_goOn_18 (s_X0_spread _ q4_e hG (by first | assumption | exact sc_30 | exact sc_34 | exact sc_10 | exact fd_24 | exact fd_4 | exact lw_25 | exact lw_5 | exact bd_23 | exact bd_3 | exact ⟨by first | assumption | rfl, by first | decide | omega⟩) (by first | assumption | exact sc_30 | exact sc_34 | exact sc_10 | exact fd_24 | exact fd_4 | exact lw_25 | exact lw_5 | exact bd_23 | exact bd_3 | exact ⟨by first | assumption | rfl, by first | decide | omega⟩)) (fun r1 h1 hq => ?_)
      obtain ⟨rfl, hq, hG⟩ := hq
      replace hq := hq.symm
      subst hq
      simp only [Option.toList, List.nil_append]
      refine v_iinc (i := 3) (v := (l3 + 1)) dX0_goOn_21 rfl rfl (by decide) (nlT rfl) ?_
      simp only [List.set_cons_zero, List.set_cons_succ]
      refine v_goto 2 dX0_goOn_24 (by decide) ?_
      refine V.weak (la2 := [some (.ref a), some (.ref b1), some (.int l2), some (.int (l3 + 1))]) (by simp [wk]) ?_
      exact (s_X0_goOn_IH_2) _ _ _ _ hF hG
def F_X0_goOn (n : Nat) (h : Hp) (a : Nat) (b1 : Nat) (x2 : Int32) : Option Hp := W_X0_goOn n 2 h a b1 x2 0
set_option maxRecDepth 100000 in
set_option maxHeartbeats 4000000 in
theorem s_X0_goOn (d : Nat) {n : Nat} {h : Hp} {a : Nat} {b1 : Nat} {x2 : Int32} {q0 : Hp} (hF : F_X0_goOn n h a b1 x2 = some q0) (hG : G h) (hs : IsBd a) (ht1 : Sc b1) : Kc mX0_goOn (d + 5) [.ref a, .ref b1, .int x2] h (fun r1 h1 => r1 = none ∧ h1 = q0 ∧ G q0) := by
  obtain ⟨s0, sF, sL, s3, s4, s5, s6, s7⟩ := id hs
  obtain ⟨sf0, sf4⟩ := id sF
  obtain ⟨sl0, sl1, sl2, sl3, sl4, sl5, sl6, sl7⟩ := id sL
  obtain ⟨t10, t11, t12, t13, t14, t15, t16, t17⟩ := id ht1
  obtain ⟨h', rfl⟩ : ∃ z, z = q0 := ⟨_, rfl⟩
  have s_X0_goOn_IH_2 := sw_X0_goOn d a b1 hs ht1 n
  unfold F_X0_goOn at hF
  refine Kc.of [some (.ref a), some (.ref b1), some (.int x2), none] ok_X0_goOn rfl (Nat.le_of_ble_eq_true rfl) ?_
  refine v_iconst (v := 0) dX0_goOn_0 (by decide) ?_
  refine v_istore_n (i := 3) dX0_goOn_1 rfl (by decide) (nlT rfl) ?_
  simp only [List.set_cons_zero, List.set_cons_succ]
  refine V.weak (la2 := [some (.ref a), some (.ref b1), some (.int x2), some (.int 0)]) (by simp [wk]) ?_
  exact (s_X0_goOn_IH_2) _ _ _ _ hF hG
def F_X11_beats (n : Nat) (h : Hp) (x1 : Int32) : Option (Int32 × Hp) := ((F_X11_isSpan n h x1).bind (fun q1 => (if (q1.1 : Int32) = 0 then some ((-1), q1.2) else (if (x1 : Int32) ≤ 0 then some ((hi q1.2 30 0), q1.2) else ((F_X6_keep n q1.2 30).bind (fun q5 => ((F_X0_goOn n q5 23 30 x1).bind (fun q7 => some ((hi q7 30 0), q7)))))))))
set_option maxRecDepth 100000 in
set_option maxHeartbeats 4000000 in
theorem s_X11_beats (d : Nat) {n : Nat} {h : Hp} {x1 : Int32} {q0 : (Int32 × Hp)} (hF : F_X11_beats n h x1 = some q0) (hG : G h)  : Kc mX11_beats (d + 6) [.ref 0, .int x1] h (fun r1 h1 => r1 = some (.int q0.1) ∧ h1 = q0.2 ∧ G q0.2) := by
  obtain ⟨r, h'⟩ := q0
  unfold F_X11_beats at hF
  refine Kc.of [some (.ref 0), some (.int x1)] ok_X11_beats rfl (Nat.le_of_ble_eq_true rfl) ?_
  refine v_iload_n (i := 1) dX11_beats_0 rfl rfl ?_
  obtain ⟨q1, q1_e, hF⟩ := Option.bind_eq_some_iff.mp hF
  refine c_X11_226 rfl (Nat.le_of_ble_eq_true rfl) dX11_beats_1 (s_X11_isSpan _ q1_e hG) (fun r1 h1 hq => ?_)
  obtain ⟨rfl, hq, hG⟩ := hq
  replace hq := hq.symm
  subst hq
  show V _ _ _ _ (_ :: _) _ _
  refine v_if_ne 9 dX11_beats_4 (by decide) (fun c3 => ?_) (fun c3 => ?_)
  · rw [if_neg c3] at hF
    refine v_iload_n (i := 1) dX11_beats_9 rfl rfl ?_
    refine v_if_le 36 dX11_beats_10 (by decide) (fun c4 => ?_) (fun c4 => ?_)
    · rw [if_pos c4] at hF
      refine v_aload_n (i := 0) dX11_beats_36 rfl rfl ?_
      refine g_X11_44 (q := 30) rfl sh_0 (by exact ltG hG (by decide)) (by exact rG hG r0_0_6) dX11_beats_37 ?_
      refine g_X11_139 rfl sh_30 (by exact ltG hG (by decide)) dX11_beats_40 ?_
      refine v_ireturn rfl dX11_beats_43 ?_
      obtain ⟨rfl, rfl⟩ := Prod.mk.inj (Option.some.inj hF)
      exact ⟨rfl, rfl, hG⟩
    · rw [if_neg c4] at hF
      refine v_aload_n (i := 0) dX11_beats_13 rfl rfl ?_
      refine g_X11_54 (q := 38) rfl sh_0 (by exact ltG hG (by decide)) (by exact rG hG r0_0_8) dX11_beats_14 ?_
      refine v_aload_n (i := 0) dX11_beats_17 rfl rfl ?_
      refine g_X11_44 (q := 30) rfl sh_0 (by exact ltG hG (by decide)) (by exact rG hG r0_0_6) dX11_beats_18 ?_
      obtain ⟨q5, q5_e, hF⟩ := Option.bind_eq_some_iff.mp hF
      refine c_X11_220 rfl sh_38 (by exact ltG hG (by decide)) (Nat.le_of_ble_eq_true rfl) dX11_beats_21 (s_X6_keep _ q5_e hG (by first | assumption | exact sc_30 | exact sc_34 | exact sc_10 | exact fd_24 | exact fd_4 | exact lw_25 | exact lw_5 | exact bd_23 | exact bd_3 | exact ⟨by first | assumption | rfl, by first | decide | omega⟩)) (fun r1 h1 hq => ?_)
      obtain ⟨rfl, hq, hG⟩ := hq
      replace hq := hq.symm
      subst hq
      simp only [Option.toList, List.nil_append]
      refine v_aload_n (i := 0) dX11_beats_24 rfl rfl ?_
      refine g_X11_32 (q := 23) rfl sh_0 (by exact ltG hG (by decide)) (by exact rG hG r0_0_4) dX11_beats_25 ?_
      refine v_aload_n (i := 0) dX11_beats_28 rfl rfl ?_
      refine g_X11_44 (q := 30) rfl sh_0 (by exact ltG hG (by decide)) (by exact rG hG r0_0_6) dX11_beats_29 ?_
      refine v_iload_n (i := 1) dX11_beats_32 rfl rfl ?_
      obtain ⟨q7, q7_e, hF⟩ := Option.bind_eq_some_iff.mp hF
      refine c_X11_229 rfl sh_23 (by exact ltG hG (by decide)) (Nat.le_of_ble_eq_true rfl) dX11_beats_33 (s_X0_goOn _ q7_e hG (by first | assumption | exact sc_30 | exact sc_34 | exact sc_10 | exact fd_24 | exact fd_4 | exact lw_25 | exact lw_5 | exact bd_23 | exact bd_3 | exact ⟨by first | assumption | rfl, by first | decide | omega⟩) (by first | assumption | exact sc_30 | exact sc_34 | exact sc_10 | exact fd_24 | exact fd_4 | exact lw_25 | exact lw_5 | exact bd_23 | exact bd_3 | exact ⟨by first | assumption | rfl, by first | decide | omega⟩)) (fun r1 h1 hq => ?_)
      obtain ⟨rfl, hq, hG⟩ := hq
      replace hq := hq.symm
      subst hq
      simp only [Option.toList, List.nil_append]
      refine v_aload_n (i := 0) dX11_beats_36 rfl rfl ?_
      refine g_X11_44 (q := 30) rfl sh_0 (by exact ltG hG (by decide)) (by exact rG hG r0_0_6) dX11_beats_37 ?_
      refine g_X11_139 rfl sh_30 (by exact ltG hG (by decide)) dX11_beats_40 ?_
      refine v_ireturn rfl dX11_beats_43 ?_
      obtain ⟨rfl, rfl⟩ := Prod.mk.inj (Option.some.inj hF)
      exact ⟨rfl, rfl, hG⟩
  · rw [if_pos c3] at hF
    refine v_iconst (v := (-1)) dX11_beats_7 (by decide) ?_
    refine v_ireturn rfl dX11_beats_8 ?_
    obtain ⟨rfl, rfl⟩ := Prod.mk.inj (Option.some.inj hF)
    exact ⟨rfl, rfl, hG⟩
def F_X11_then (n : Nat) (h : Hp) (x1 : Int32) (x2 : Int32) (x3 : Int32) : Option (Int32 × Hp) := ((F_X0_hasGoer n h 23 x1).bind (fun q1 => (if (q1.1 : Int32) = 0 then some ((-1), q1.2) else ((F_X11_isSpan n q1.2 x2).bind (fun q4 => (if (q4.1 : Int32) = 0 then some ((-1), q4.2) else ((F_X11_isNoughtOrOne n q4.2 x3).bind (fun q7 => (if (q7.1 : Int32) = 0 then some ((-1), q7.2) else ((F_X8_become n q7.2 34 30).bind (fun q10 => ((F_X0_goOn n q10 23 34 x2).bind (fun q12 => (if (x3 : Int32) = 0 then (if ixOK x1 5 = true then some ((hi q12 36 (Int32.toNatClampNeg x1)), q12) else none) else (if ixOK x1 5 = true then some ((hi q12 37 (Int32.toNatClampNeg x1)), q12) else none)))))))))))))))
set_option maxRecDepth 100000 in
set_option maxHeartbeats 4000000 in
theorem s_X11_then (d : Nat) {n : Nat} {h : Hp} {x1 : Int32} {x2 : Int32} {x3 : Int32} {q0 : (Int32 × Hp)} (hF : F_X11_then n h x1 x2 x3 = some q0) (hG : G h)  : Kc mX11_then (d + 6) [.ref 0, .int x1, .int x2, .int x3] h (fun r1 h1 => r1 = some (.int q0.1) ∧ h1 = q0.2 ∧ G q0.2) := by
  obtain ⟨r, h'⟩ := q0
  unfold F_X11_then at hF
  refine Kc.of [some (.ref 0), some (.int x1), some (.int x2), some (.int x3)] ok_X11_then rfl (Nat.le_of_ble_eq_true rfl) ?_
  refine v_aload_n (i := 0) dX11_then_0 rfl rfl ?_
  refine g_X11_32 (q := 23) rfl sh_0 (by exact ltG hG (by decide)) (by exact rG hG r0_0_4) dX11_then_1 ?_
  refine v_iload_n (i := 1) dX11_then_4 rfl rfl ?_
  obtain ⟨q1, q1_e, hF⟩ := Option.bind_eq_some_iff.mp hF
  refine c_X11_160 rfl sh_23 (by exact ltG hG (by decide)) (Nat.le_of_ble_eq_true rfl) dX11_then_5 (s_X0_hasGoer _ q1_e hG (by first | assumption | exact sc_30 | exact sc_34 | exact sc_10 | exact fd_24 | exact fd_4 | exact lw_25 | exact lw_5 | exact bd_23 | exact bd_3 | exact ⟨by first | assumption | rfl, by first | decide | omega⟩)) (fun r1 h1 hq => ?_)
  obtain ⟨rfl, hq, hG⟩ := hq
  replace hq := hq.symm
  subst hq
  show V _ _ _ _ (_ :: _) _ _
  refine v_if_eq 25 dX11_then_8 (by decide) (fun c3 => ?_) (fun c3 => ?_)
  · rw [if_pos c3] at hF
    refine v_iconst (v := (-1)) dX11_then_25 (by decide) ?_
    refine v_ireturn rfl dX11_then_26 ?_
    obtain ⟨rfl, rfl⟩ := Prod.mk.inj (Option.some.inj hF)
    exact ⟨rfl, rfl, hG⟩
  · rw [if_neg c3] at hF
    refine v_iload_n (i := 2) dX11_then_11 rfl rfl ?_
    obtain ⟨q4, q4_e, hF⟩ := Option.bind_eq_some_iff.mp hF
    refine c_X11_226 rfl (Nat.le_of_ble_eq_true rfl) dX11_then_12 (s_X11_isSpan _ q4_e hG) (fun r1 h1 hq => ?_)
    obtain ⟨rfl, hq, hG⟩ := hq
    replace hq := hq.symm
    subst hq
    show V _ _ _ _ (_ :: _) _ _
    refine v_if_eq 25 dX11_then_15 (by decide) (fun c6 => ?_) (fun c6 => ?_)
    · rw [if_pos c6] at hF
      refine v_iconst (v := (-1)) dX11_then_25 (by decide) ?_
      refine v_ireturn rfl dX11_then_26 ?_
      obtain ⟨rfl, rfl⟩ := Prod.mk.inj (Option.some.inj hF)
      exact ⟨rfl, rfl, hG⟩
    · rw [if_neg c6] at hF
      refine v_iload_n (i := 3) dX11_then_18 rfl rfl ?_
      obtain ⟨q7, q7_e, hF⟩ := Option.bind_eq_some_iff.mp hF
      refine c_X11_237 rfl (Nat.le_of_ble_eq_true rfl) dX11_then_19 (s_X11_isNoughtOrOne _ q7_e hG) (fun r1 h1 hq => ?_)
      obtain ⟨rfl, hq, hG⟩ := hq
      replace hq := hq.symm
      subst hq
      show V _ _ _ _ (_ :: _) _ _
      refine v_if_ne 27 dX11_then_22 (by decide) (fun c9 => ?_) (fun c9 => ?_)
      · rw [if_neg c9] at hF
        refine v_aload_n (i := 0) dX11_then_27 rfl rfl ?_
        refine g_X11_48 (q := 34) rfl sh_0 (by exact ltG hG (by decide)) (by exact rG hG r0_0_7) dX11_then_28 ?_
        refine v_aload_n (i := 0) dX11_then_31 rfl rfl ?_
        refine g_X11_44 (q := 30) rfl sh_0 (by exact ltG hG (by decide)) (by exact rG hG r0_0_6) dX11_then_32 ?_
        obtain ⟨q10, q10_e, hF⟩ := Option.bind_eq_some_iff.mp hF
        refine c_X11_119 rfl sh_34 (by exact ltG hG (by decide)) (Nat.le_of_ble_eq_true rfl) dX11_then_35 (s_X8_become _ q10_e hG (by first | assumption | exact sc_30 | exact sc_34 | exact sc_10 | exact fd_24 | exact fd_4 | exact lw_25 | exact lw_5 | exact bd_23 | exact bd_3 | exact ⟨by first | assumption | rfl, by first | decide | omega⟩) (by first | assumption | exact sc_30 | exact sc_34 | exact sc_10 | exact fd_24 | exact fd_4 | exact lw_25 | exact lw_5 | exact bd_23 | exact bd_3 | exact ⟨by first | assumption | rfl, by first | decide | omega⟩)) (fun r1 h1 hq => ?_)
        obtain ⟨rfl, hq, hG⟩ := hq
        replace hq := hq.symm
        subst hq
        simp only [Option.toList, List.nil_append]
        refine v_aload_n (i := 0) dX11_then_38 rfl rfl ?_
        refine g_X11_32 (q := 23) rfl sh_0 (by exact ltG hG (by decide)) (by exact rG hG r0_0_4) dX11_then_39 ?_
        refine v_aload_n (i := 0) dX11_then_42 rfl rfl ?_
        refine g_X11_48 (q := 34) rfl sh_0 (by exact ltG hG (by decide)) (by exact rG hG r0_0_7) dX11_then_43 ?_
        refine v_iload_n (i := 2) dX11_then_46 rfl rfl ?_
        obtain ⟨q12, q12_e, hF⟩ := Option.bind_eq_some_iff.mp hF
        refine c_X11_229 rfl sh_23 (by exact ltG hG (by decide)) (Nat.le_of_ble_eq_true rfl) dX11_then_47 (s_X0_goOn _ q12_e hG (by first | assumption | exact sc_30 | exact sc_34 | exact sc_10 | exact fd_24 | exact fd_4 | exact lw_25 | exact lw_5 | exact bd_23 | exact bd_3 | exact ⟨by first | assumption | rfl, by first | decide | omega⟩) (by first | assumption | exact sc_30 | exact sc_34 | exact sc_10 | exact fd_24 | exact fd_4 | exact lw_25 | exact lw_5 | exact bd_23 | exact bd_3 | exact ⟨by first | assumption | rfl, by first | decide | omega⟩)) (fun r1 h1 hq => ?_)
        obtain ⟨rfl, hq, hG⟩ := hq
        replace hq := hq.symm
        subst hq
        simp only [Option.toList, List.nil_append]
        refine v_iload_n (i := 3) dX11_then_50 rfl rfl ?_
        refine v_if_ne 66 dX11_then_51 (by decide) (fun c14 => ?_) (fun c14 => ?_)
        · rw [if_neg c14] at hF
          refine v_aload_n (i := 0) dX11_then_66 rfl rfl ?_
          refine g_X11_48 (q := 34) rfl sh_0 (by exact ltG hG (by decide)) (by exact rG hG r0_0_7) dX11_then_67 ?_
          refine g_X11_167 (q := 37) rfl sh_34 (by exact ltG hG (by decide)) (by exact rG hG r0_34_6) dX11_then_70 ?_
          refine v_iload_n (i := 1) dX11_then_73 rfl rfl ?_
          obtain ⟨k15, hF⟩ := ck_some hF
          refine v_iaload sh_37 (by exact ltG hG (by decide)) (ixO k15) dX11_then_74 ?_
          refine v_ireturn rfl dX11_then_75 ?_
          obtain ⟨rfl, rfl⟩ := Prod.mk.inj (Option.some.inj hF)
          exact ⟨rfl, rfl, hG⟩
        · rw [if_pos c14] at hF
          refine v_aload_n (i := 0) dX11_then_54 rfl rfl ?_
          refine g_X11_48 (q := 34) rfl sh_0 (by exact ltG hG (by decide)) (by exact rG hG r0_0_7) dX11_then_55 ?_
          refine g_X11_163 (q := 36) rfl sh_34 (by exact ltG hG (by decide)) (by exact rG hG r0_34_5) dX11_then_58 ?_
          refine v_iload_n (i := 1) dX11_then_61 rfl rfl ?_
          obtain ⟨k16, hF⟩ := ck_some hF
          refine v_iaload sh_36 (by exact ltG hG (by decide)) (ixO k16) dX11_then_62 ?_
          refine v_goto 75 dX11_then_63 (by decide) ?_
          refine v_ireturn rfl dX11_then_75 ?_
          obtain ⟨rfl, rfl⟩ := Prod.mk.inj (Option.some.inj hF)
          exact ⟨rfl, rfl, hG⟩
      · rw [if_pos c9] at hF
        refine v_iconst (v := (-1)) dX11_then_25 (by decide) ?_
        refine v_ireturn rfl dX11_then_26 ?_
        obtain ⟨rfl, rfl⟩ := Prod.mk.inj (Option.some.inj hF)
        exact ⟨rfl, rfl, hG⟩
def F_X12_beats (n : Nat) (h : Hp) (x1 : Int32) : Option (Int32 × Hp) := ((F_X12_isLong n h x1).bind (fun q1 => (if (q1.1 : Int32) = 0 then some ((-1), q1.2) else (if (x1 : Int32) = 0 then some ((hi q1.2 262 61), q1.2) else ((F_X12_copies n q1.2).bind (fun q5 => ((F_X12_goes n q5 x1).bind (fun q7 => ((F_X12_records n q7).bind (fun q9 => some ((hi q9 262 61), q9)))))))))))
set_option maxRecDepth 100000 in
set_option maxHeartbeats 4000000 in
theorem s_X12_beats (d : Nat) {n : Nat} {h : Hp} {x1 : Int32} {q0 : (Int32 × Hp)} (hF : F_X12_beats n h x1 = some q0) (hG : G h)  : Kc mX12_beats (d + 7) [.ref 226, .int x1] h (fun r1 h1 => r1 = some (.int q0.1) ∧ h1 = q0.2 ∧ G q0.2) := by
  obtain ⟨r, h'⟩ := q0
  unfold F_X12_beats at hF
  refine Kc.of [some (.ref 226), some (.int x1)] ok_X12_beats rfl (Nat.le_of_ble_eq_true rfl) ?_
  refine v_iload_n (i := 1) dX12_beats_0 rfl rfl ?_
  obtain ⟨q1, q1_e, hF⟩ := Option.bind_eq_some_iff.mp hF
  refine c_X12_415 rfl (Nat.le_of_ble_eq_true rfl) dX12_beats_1 (s_X12_isLong _ q1_e hG) (fun r1 h1 hq => ?_)
  obtain ⟨rfl, hq, hG⟩ := hq
  replace hq := hq.symm
  subst hq
  show V _ _ _ _ (_ :: _) _ _
  refine v_if_ne 9 dX12_beats_4 (by decide) (fun c3 => ?_) (fun c3 => ?_)
  · rw [if_neg c3] at hF
    refine v_iload_n (i := 1) dX12_beats_9 rfl rfl ?_
    refine v_if_ne 21 dX12_beats_10 (by decide) (fun c4 => ?_) (fun c4 => ?_)
    · rw [if_neg c4] at hF
      refine v_aload_n (i := 0) dX12_beats_21 rfl rfl ?_
      obtain ⟨q5, q5_e, hF⟩ := Option.bind_eq_some_iff.mp hF
      refine c_X12_346 rfl sh_226 (by exact ltG hG (by decide)) (Nat.le_of_ble_eq_true rfl) dX12_beats_22 (s_X12_copies _ q5_e hG) (fun r1 h1 hq => ?_)
      obtain ⟨rfl, hq, hG⟩ := hq
      replace hq := hq.symm
      subst hq
      simp only [Option.toList, List.nil_append]
      refine v_aload_n (i := 0) dX12_beats_25 rfl rfl ?_
      refine v_iload_n (i := 1) dX12_beats_26 rfl rfl ?_
      obtain ⟨q7, q7_e, hF⟩ := Option.bind_eq_some_iff.mp hF
      refine c_X12_418 rfl sh_226 (by exact ltG hG (by decide)) (Nat.le_of_ble_eq_true rfl) dX12_beats_27 (s_X12_goes _ q7_e hG) (fun r1 h1 hq => ?_)
      obtain ⟨rfl, hq, hG⟩ := hq
      replace hq := hq.symm
      subst hq
      simp only [Option.toList, List.nil_append]
      refine v_aload_n (i := 0) dX12_beats_30 rfl rfl ?_
      obtain ⟨q9, q9_e, hF⟩ := Option.bind_eq_some_iff.mp hF
      refine c_X12_412 rfl sh_226 (by exact ltG hG (by decide)) (Nat.le_of_ble_eq_true rfl) dX12_beats_31 (s_X12_records _ q9_e hG) (fun r1 h1 hq => ?_)
      obtain ⟨rfl, hq, hG⟩ := hq
      replace hq := hq.symm
      subst hq
      simp only [Option.toList, List.nil_append]
      refine v_aload_n (i := 0) dX12_beats_34 rfl rfl ?_
      refine g_X12_125 (q := 262) rfl sh_226 (by exact ltG hG (by decide)) (by exact rG hG r0_226_53) dX12_beats_35 ?_
      refine v_bipush (v := 61) dX12_beats_38 (by decide) ?_
      refine v_iaload sh_262 (by exact ltG hG (by decide)) (ixK 61 (by decide)) dX12_beats_40 ?_
      refine v_ireturn rfl dX12_beats_41 ?_
      obtain ⟨rfl, rfl⟩ := Prod.mk.inj (Option.some.inj hF)
      exact ⟨rfl, rfl, hG⟩
    · rw [if_pos c4] at hF
      refine v_aload_n (i := 0) dX12_beats_13 rfl rfl ?_
      refine g_X12_125 (q := 262) rfl sh_226 (by exact ltG hG (by decide)) (by exact rG hG r0_226_53) dX12_beats_14 ?_
      refine v_bipush (v := 61) dX12_beats_17 (by decide) ?_
      refine v_iaload sh_262 (by exact ltG hG (by decide)) (ixK 61 (by decide)) dX12_beats_19 ?_
      refine v_ireturn rfl dX12_beats_20 ?_
      obtain ⟨rfl, rfl⟩ := Prod.mk.inj (Option.some.inj hF)
      exact ⟨rfl, rfl, hG⟩
  · rw [if_pos c3] at hF
    refine v_iconst (v := (-1)) dX12_beats_7 (by decide) ?_
    refine v_ireturn rfl dX12_beats_8 ?_
    obtain ⟨rfl, rfl⟩ := Prod.mk.inj (Option.some.inj hF)
    exact ⟨rfl, rfl, hG⟩
