def W_X12_fillsPaired : Nat → Nat → Hp → Int32 → Int32 → Int32 → Int32 → Option Hp
  | 0 => fun _ _ _ _ _ _ => none
  | n + 1 => fun hd h l1 l2 l3 l4 => (if hd = 9 then (if ixOK (hi h 226 18) 2 = true then (if (((1 : Int32) <<< (((hi h 242 (Int32.toNatClampNeg (hi h 226 18))) : Int32) &&& 31)) : Int32) ≤ (l1 : Int32) then some h else ((F_X12_lowestOf n h l1).bind (fun q3 => (if ixOK ((l1 : Int32) &&& (((((1 : Int32) <<< ((q3.1 : Int32) &&& 31)) : Int32) ^^^ ((-1) : Int32)) : Int32)) 32 = true then (if ixOK l1 32 = true then W_X12_fillsPaired n 54 (wrI q3.2 270 (Int32.toNatClampNeg l1) (hi q3.2 270 (Int32.toNatClampNeg ((l1 : Int32) &&& (((((1 : Int32) <<< ((q3.1 : Int32) &&& 31)) : Int32) ^^^ ((-1) : Int32)) : Int32)))))  l1 q3.1 ((l1 : Int32) &&& (((((1 : Int32) <<< ((q3.1 : Int32) &&& 31)) : Int32) ^^^ ((-1) : Int32)) : Int32)) (q3.1 + 1) else none) else none)))) else none) else (if hd = 54 then (if (5 : Int32) ≤ (l4 : Int32) then W_X12_fillsPaired n 9 h  (l1 + 1) 0 0 0 else (if (((((l3 : Int32) >>> ((l4 : Int32) &&& 31)) : Int32) &&& (1 : Int32)) : Int32) = (1 : Int32) then ((F_X12_pairedWith n h l2 l4 l3).bind (fun q9 => (if ixOK l1 32 = true then (if ((hi q9.2 270 (Int32.toNatClampNeg l1)) : Int32) ≤ (q9.1 : Int32) then W_X12_fillsPaired n 54 q9.2  l1 l2 l3 (l4 + 1) else ((F_X12_pairedWith n q9.2 l2 l4 l3).bind (fun q13 => (if ixOK l1 32 = true then W_X12_fillsPaired n 54 (wrI q13.2 270 (Int32.toNatClampNeg l1) q13.1)  l1 l2 l3 (l4 + 1) else none)))) else none))) else W_X12_fillsPaired n 54 h  l1 l2 l3 (l4 + 1))) else none))
set_option maxRecDepth 100000 in
set_option maxHeartbeats 4000000 in
theorem sw_X12_fillsPaired (d : Nat)  (n : Nat) : (∀ (l1 : Int32) (h : Hp), ∀ (h' : Hp), W_X12_fillsPaired n 9 h  l1 0 0 0 = some h' → G h → V mX12_fillsPaired (d + 3) 9 [some (.ref 226), some (.int l1), none, none, none] [] h (fun r1 h1 => r1 = none ∧ h1 = h' ∧ G h')) ∧ (∀ (l1 : Int32) (l2 : Int32) (l3 : Int32) (l4 : Int32) (h : Hp), ∀ (h' : Hp), W_X12_fillsPaired n 54 h  l1 l2 l3 l4 = some h' → G h → V mX12_fillsPaired (d + 3) 54 [some (.ref 226), some (.int l1), some (.int l2), some (.int l3), some (.int l4)] [] h (fun r1 h1 => r1 = none ∧ h1 = h' ∧ G h')) := by
  induction n with
  | zero => exact ⟨by intros; contradiction, by intros; contradiction⟩
  | succ n ih =>
    obtain ⟨s_X12_fillsPaired_IH_9, s_X12_fillsPaired_IH_54⟩ := ih
    refine ⟨?_, ?_⟩
    · intro l1 h h' hF hG
      unfold W_X12_fillsPaired at hF
      rw [if_pos rfl] at hF
      refine v_iload_n (i := 1) dX12_fillsPaired_9 rfl rfl ?_
      refine v_iconst (v := 1) dX12_fillsPaired_10 (by decide) ?_
      refine v_aload_n (i := 0) dX12_fillsPaired_11 rfl rfl ?_
      refine g_X12_64 (q := 242) rfl sh_226 (by exact ltG hG (by decide)) (by exact rG hG r0_226_29) dX12_fillsPaired_12 ?_
      refine v_aload_n (i := 0) dX12_fillsPaired_15 rfl rfl ?_
      refine g_X12_245 rfl sh_226 (by exact ltG hG (by decide)) dX12_fillsPaired_16 ?_
      obtain ⟨k1, hF⟩ := ck_some hF
      refine v_iaload sh_242 (by exact ltG hG (by decide)) (ixO k1) dX12_fillsPaired_19 ?_
      refine v_ishl dX12_fillsPaired_20 ?_
      refine v_icmp_ge 113 dX12_fillsPaired_21 (by decide) (fun c2 => ?_) (fun c2 => ?_)
      · rw [if_pos c2] at hF
        refine v_return rfl dX12_fillsPaired_113 ?_
        obtain rfl := Option.some.inj hF
        exact ⟨rfl, rfl, hG⟩
      · rw [if_neg c2] at hF
        refine v_iload_n (i := 1) dX12_fillsPaired_24 rfl rfl ?_
        obtain ⟨q3, q3_e, hF⟩ := Option.bind_eq_some_iff.mp hF
        refine c_X12_436 rfl (Nat.le_of_ble_eq_true rfl) dX12_fillsPaired_25 (s_X12_lowestOf _ q3_e hG) (fun r1 h1 hq => ?_)
        obtain ⟨rfl, hq, hG⟩ := hq
        replace hq := hq.symm
        subst hq
        show V _ _ _ _ (_ :: _) _ _
        refine v_istore_n (i := 2) dX12_fillsPaired_28 rfl (by decide) (nlT rfl) ?_
        simp only [List.set_cons_zero, List.set_cons_succ]
        refine v_iload_n (i := 1) dX12_fillsPaired_29 rfl rfl ?_
        refine v_iconst (v := 1) dX12_fillsPaired_30 (by decide) ?_
        refine v_iload_n (i := 2) dX12_fillsPaired_31 rfl rfl ?_
        refine v_ishl dX12_fillsPaired_32 ?_
        refine v_iconst (v := (-1)) dX12_fillsPaired_33 (by decide) ?_
        refine v_ixor dX12_fillsPaired_34 ?_
        refine v_iand dX12_fillsPaired_35 ?_
        refine v_istore_n (i := 3) dX12_fillsPaired_36 rfl (by decide) (nlT rfl) ?_
        simp only [List.set_cons_zero, List.set_cons_succ]
        refine v_aload_n (i := 0) dX12_fillsPaired_37 rfl rfl ?_
        refine g_X12_149 (q := 270) rfl sh_226 (by exact ltG hG (by decide)) (by exact rG hG r0_226_64) dX12_fillsPaired_38 ?_
        refine v_iload_n (i := 1) dX12_fillsPaired_41 rfl rfl ?_
        refine v_aload_n (i := 0) dX12_fillsPaired_42 rfl rfl ?_
        refine g_X12_149 (q := 270) rfl sh_226 (by exact ltG hG (by decide)) (by exact rG hG r0_226_64) dX12_fillsPaired_43 ?_
        refine v_iload_n (i := 3) dX12_fillsPaired_46 rfl rfl ?_
        obtain ⟨k5, hF⟩ := ck_some hF
        refine v_iaload sh_270 (by exact ltG hG (by decide)) (ixO k5) dX12_fillsPaired_47 ?_
        obtain ⟨k6, hF⟩ := ck_some hF
        refine v_iastore sh_270 (by exact ltG hG (by decide)) (ixO k6) dX12_fillsPaired_48 ?_
        refine v_iload_n (i := 2) dX12_fillsPaired_49 rfl rfl ?_
        refine v_iconst (v := 1) dX12_fillsPaired_50 (by decide) ?_
        refine v_iadd dX12_fillsPaired_51 ?_
        refine v_istore (i := 4) dX12_fillsPaired_52 (by decide) (nlT rfl) ?_
        simp only [List.set_cons_zero, List.set_cons_succ]
        refine V.weak (la2 := [some (.ref 226), some (.int l1), some (.int q3.1), some (.int ((l1 : Int32) &&& (((((1 : Int32) <<< ((q3.1 : Int32) &&& 31)) : Int32) ^^^ ((-1) : Int32)) : Int32))), some (.int (q3.1 + 1))]) (by simp [wk]) ?_
        exact (s_X12_fillsPaired_IH_54) _ _ _ _ _ _ hF hG
    · intro l1 l2 l3 l4 h h' hF hG
      unfold W_X12_fillsPaired at hF
      rw [if_neg (by decide)] at hF
      rw [if_pos rfl] at hF
      refine v_iload (i := 4) dX12_fillsPaired_54 rfl ?_
      refine v_iconst (v := 5) dX12_fillsPaired_56 (by decide) ?_
      refine v_icmp_ge 107 dX12_fillsPaired_57 (by decide) (fun c7 => ?_) (fun c7 => ?_)
      · rw [if_pos c7] at hF
        refine v_iinc (i := 1) (v := (l1 + 1)) dX12_fillsPaired_107 rfl rfl (by decide) (nlT rfl) ?_
        simp only [List.set_cons_zero, List.set_cons_succ]
        refine v_goto 9 dX12_fillsPaired_110 (by decide) ?_
        refine V.weak (la2 := [some (.ref 226), some (.int (l1 + 1)), none, none, none]) (by simp [wk]) ?_
        exact (s_X12_fillsPaired_IH_9) _ _ _ hF hG
      · rw [if_neg c7] at hF
        refine v_iload_n (i := 3) dX12_fillsPaired_60 rfl rfl ?_
        refine v_iload (i := 4) dX12_fillsPaired_61 rfl ?_
        refine v_ishr dX12_fillsPaired_63 ?_
        refine v_iconst (v := 1) dX12_fillsPaired_64 (by decide) ?_
        refine v_iand dX12_fillsPaired_65 ?_
        refine v_iconst (v := 1) dX12_fillsPaired_66 (by decide) ?_
        refine v_icmp_ne 101 dX12_fillsPaired_67 (by decide) (fun c8 => ?_) (fun c8 => ?_)
        · rw [if_neg c8] at hF
          refine v_iinc (i := 4) (v := (l4 + 1)) dX12_fillsPaired_101 rfl rfl (by decide) (nlT rfl) ?_
          simp only [List.set_cons_zero, List.set_cons_succ]
          refine v_goto 54 dX12_fillsPaired_104 (by decide) ?_
          refine V.weak (la2 := [some (.ref 226), some (.int l1), some (.int l2), some (.int l3), some (.int (l4 + 1))]) (by simp [wk]) ?_
          exact (s_X12_fillsPaired_IH_54) _ _ _ _ _ _ hF hG
        · rw [if_pos c8] at hF
          refine v_aload_n (i := 0) dX12_fillsPaired_70 rfl rfl ?_
          refine v_iload_n (i := 2) dX12_fillsPaired_71 rfl rfl ?_
          refine v_iload (i := 4) dX12_fillsPaired_72 rfl ?_
          refine v_iload_n (i := 3) dX12_fillsPaired_74 rfl rfl ?_
          obtain ⟨q9, q9_e, hF⟩ := Option.bind_eq_some_iff.mp hF
          refine c_X12_486 rfl sh_226 (by exact ltG hG (by decide)) (Nat.le_of_ble_eq_true rfl) dX12_fillsPaired_75 (s_X12_pairedWith _ q9_e hG) (fun r1 h1 hq => ?_)
          obtain ⟨rfl, hq, hG⟩ := hq
          replace hq := hq.symm
          subst hq
          show V _ _ _ _ (_ :: _) _ _
          refine v_aload_n (i := 0) dX12_fillsPaired_78 rfl rfl ?_
          refine g_X12_149 (q := 270) rfl sh_226 (by exact ltG hG (by decide)) (by exact rG hG r0_226_64) dX12_fillsPaired_79 ?_
          refine v_iload_n (i := 1) dX12_fillsPaired_82 rfl rfl ?_
          obtain ⟨k11, hF⟩ := ck_some hF
          refine v_iaload sh_270 (by exact ltG hG (by decide)) (ixO k11) dX12_fillsPaired_83 ?_
          refine v_icmp_ge 101 dX12_fillsPaired_84 (by decide) (fun c12 => ?_) (fun c12 => ?_)
          · rw [if_pos c12] at hF
            refine v_iinc (i := 4) (v := (l4 + 1)) dX12_fillsPaired_101 rfl rfl (by decide) (nlT rfl) ?_
            simp only [List.set_cons_zero, List.set_cons_succ]
            refine v_goto 54 dX12_fillsPaired_104 (by decide) ?_
            refine V.weak (la2 := [some (.ref 226), some (.int l1), some (.int l2), some (.int l3), some (.int (l4 + 1))]) (by simp [wk]) ?_
            exact (s_X12_fillsPaired_IH_54) _ _ _ _ _ _ hF hG
          · rw [if_neg c12] at hF
            refine v_aload_n (i := 0) dX12_fillsPaired_87 rfl rfl ?_
            refine g_X12_149 (q := 270) rfl sh_226 (by exact ltG hG (by decide)) (by exact rG hG r0_226_64) dX12_fillsPaired_88 ?_
            refine v_iload_n (i := 1) dX12_fillsPaired_91 rfl rfl ?_
            refine v_aload_n (i := 0) dX12_fillsPaired_92 rfl rfl ?_
            refine v_iload_n (i := 2) dX12_fillsPaired_93 rfl rfl ?_
            refine v_iload (i := 4) dX12_fillsPaired_94 rfl ?_
            refine v_iload_n (i := 3) dX12_fillsPaired_96 rfl rfl ?_
            obtain ⟨q13, q13_e, hF⟩ := Option.bind_eq_some_iff.mp hF
            refine c_X12_486 rfl sh_226 (by exact ltG hG (by decide)) (Nat.le_of_ble_eq_true rfl) dX12_fillsPaired_97 (s_X12_pairedWith _ q13_e hG) (fun r1 h1 hq => ?_)
            obtain ⟨rfl, hq, hG⟩ := hq
            replace hq := hq.symm
            subst hq
            show V _ _ _ _ (_ :: _) _ _
            obtain ⟨k15, hF⟩ := ck_some hF
            refine v_iastore sh_270 (by exact ltG hG (by decide)) (ixO k15) dX12_fillsPaired_100 ?_
            refine v_iinc (i := 4) (v := (l4 + 1)) dX12_fillsPaired_101 rfl rfl (by decide) (nlT rfl) ?_
            simp only [List.set_cons_zero, List.set_cons_succ]
            refine v_goto 54 dX12_fillsPaired_104 (by decide) ?_
            refine V.weak (la2 := [some (.ref 226), some (.int l1), some (.int l2), some (.int l3), some (.int (l4 + 1))]) (by simp [wk]) ?_
            exact (s_X12_fillsPaired_IH_54) _ _ _ _ _ _ hF hG
def F_X12_fillsPaired (n : Nat) (h : Hp) : Option Hp := W_X12_fillsPaired n 9 (wrI h 270 0 0)  1 0 0 0
set_option maxRecDepth 100000 in
set_option maxHeartbeats 4000000 in
theorem s_X12_fillsPaired (d : Nat) {n : Nat} {h : Hp}  {q0 : Hp} (hF : F_X12_fillsPaired n h  = some q0) (hG : G h)  : Kc mX12_fillsPaired (d + 3) [.ref 226] h (fun r1 h1 => r1 = none ∧ h1 = q0 ∧ G q0) := by
  obtain ⟨h', rfl⟩ : ∃ z, z = q0 := ⟨_, rfl⟩
  obtain ⟨s_X12_fillsPaired_IH_9, s_X12_fillsPaired_IH_54⟩ := sw_X12_fillsPaired d   n
  unfold F_X12_fillsPaired at hF
  refine Kc.of [some (.ref 226), none, none, none, none] ok_X12_fillsPaired rfl (Nat.le_of_ble_eq_true rfl) ?_
  refine v_aload_n (i := 0) dX12_fillsPaired_0 rfl rfl ?_
  refine g_X12_149 (q := 270) rfl sh_226 (by exact ltG hG (by decide)) (by exact rG hG r0_226_64) dX12_fillsPaired_1 ?_
  refine v_iconst (v := 0) dX12_fillsPaired_4 (by decide) ?_
  refine v_iconst (v := 0) dX12_fillsPaired_5 (by decide) ?_
  refine v_iastore sh_270 (by exact ltG hG (by decide)) (ixK 0 (by decide)) dX12_fillsPaired_6 ?_
  refine v_iconst (v := 1) dX12_fillsPaired_7 (by decide) ?_
  refine v_istore_n (i := 1) dX12_fillsPaired_8 rfl (by decide) (nlT rfl) ?_
  simp only [List.set_cons_zero, List.set_cons_succ]
  refine V.weak (la2 := [some (.ref 226), some (.int 1), none, none, none]) (by simp [wk]) ?_
  exact (s_X12_fillsPaired_IH_9) _ _ _ hF hG
def F_X12_moveOf (n : Nat) (h : Hp) (x1 : Int32) : Option (Int32 × Hp) := (if ixOK (51 + x1) 63 = true then ((F_X12_wayOf n h x1 (hi h 263 (Int32.toNatClampNeg (51 + x1))) 1 1).bind (fun q2 => some (q2.1, q2.2))) else none)
set_option maxRecDepth 100000 in
set_option maxHeartbeats 4000000 in
theorem s_X12_moveOf (d : Nat) {n : Nat} {h : Hp} {x1 : Int32} {q0 : (Int32 × Hp)} (hF : F_X12_moveOf n h x1 = some q0) (hG : G h)  : Kc mX12_moveOf (d + 4) [.ref 226, .int x1] h (fun r1 h1 => r1 = some (.int q0.1) ∧ h1 = q0.2 ∧ G q0.2) := by
  obtain ⟨r, h'⟩ := q0
  unfold F_X12_moveOf at hF
  refine Kc.of [some (.ref 226), some (.int x1)] ok_X12_moveOf rfl (Nat.le_of_ble_eq_true rfl) ?_
  refine v_aload_n (i := 0) dX12_moveOf_0 rfl rfl ?_
  refine v_iload_n (i := 1) dX12_moveOf_1 rfl rfl ?_
  refine v_aload_n (i := 0) dX12_moveOf_2 rfl rfl ?_
  refine g_X12_128 (q := 263) rfl sh_226 (by exact ltG hG (by decide)) (by exact rG hG r0_226_54) dX12_moveOf_3 ?_
  refine v_bipush (v := 51) dX12_moveOf_6 (by decide) ?_
  refine v_iload_n (i := 1) dX12_moveOf_8 rfl rfl ?_
  refine v_iadd dX12_moveOf_9 ?_
  obtain ⟨k1, hF⟩ := ck_some hF
  refine v_iaload sh_263 (by exact ltG hG (by decide)) (ixO k1) dX12_moveOf_10 ?_
  refine v_iconst (v := 1) dX12_moveOf_11 (by decide) ?_
  refine v_iconst (v := 1) dX12_moveOf_12 (by decide) ?_
  obtain ⟨q2, q2_e, hF⟩ := Option.bind_eq_some_iff.mp hF
  refine c_X12_375 rfl sh_226 (by exact ltG hG (by decide)) (Nat.le_of_ble_eq_true rfl) dX12_moveOf_13 (s_X12_wayOf _ q2_e hG) (fun r1 h1 hq => ?_)
  obtain ⟨rfl, hq, hG⟩ := hq
  replace hq := hq.symm
  subst hq
  show V _ _ _ _ (_ :: _) _ _
  refine v_ireturn rfl dX12_moveOf_16 ?_
  obtain ⟨rfl, rfl⟩ := Prod.mk.inj (Option.some.inj hF)
  exact ⟨rfl, rfl, hG⟩
def F_X12_mow (n : Nat) (h : Hp) (x1 : Int32) : Option (Int32 × Hp) := ((F_X12_isCell n h x1).bind (fun q1 => (if (q1.1 : Int32) = 0 then some ((-1), q1.2) else (if ixOK x1 63 = true then (if ((hi q1.2 262 (Int32.toNatClampNeg x1)) : Int32) = 0 then some ((-1), q1.2) else ((F_X12_copies n q1.2).bind (fun q6 => ((F_X12_costsOf n q6 x1).bind (fun q8 => (if ixOK x1 63 = true then (if ixOK (25 + x1) 63 = true then ((F_X12_records n (wrI (wrI (wrI q8.2 263 62 ((hi q8.2 263 62) + q8.1)) 263 (Int32.toNatClampNeg x1) 0) 263 (Int32.toNatClampNeg (25 + x1)) 0)).bind (fun q12 => some (q8.1, q12))) else none) else none)))))) else none))))
set_option maxRecDepth 100000 in
set_option maxHeartbeats 4000000 in
theorem s_X12_mow (d : Nat) {n : Nat} {h : Hp} {x1 : Int32} {q0 : (Int32 × Hp)} (hF : F_X12_mow n h x1 = some q0) (hG : G h)  : Kc mX12_mow (d + 4) [.ref 226, .int x1] h (fun r1 h1 => r1 = some (.int q0.1) ∧ h1 = q0.2 ∧ G q0.2) := by
  obtain ⟨r, h'⟩ := q0
  unfold F_X12_mow at hF
  refine Kc.of [some (.ref 226), some (.int x1), none] ok_X12_mow rfl (Nat.le_of_ble_eq_true rfl) ?_
  refine v_aload_n (i := 0) dX12_mow_0 rfl rfl ?_
  refine v_iload_n (i := 1) dX12_mow_1 rfl rfl ?_
  obtain ⟨q1, q1_e, hF⟩ := Option.bind_eq_some_iff.mp hF
  refine c_X12_403 rfl sh_226 (by exact ltG hG (by decide)) (Nat.le_of_ble_eq_true rfl) dX12_mow_2 (s_X12_isCell _ q1_e hG) (fun r1 h1 hq => ?_)
  obtain ⟨rfl, hq, hG⟩ := hq
  replace hq := hq.symm
  subst hq
  show V _ _ _ _ (_ :: _) _ _
  refine v_if_eq 17 dX12_mow_5 (by decide) (fun c3 => ?_) (fun c3 => ?_)
  · rw [if_pos c3] at hF
    refine v_iconst (v := (-1)) dX12_mow_17 (by decide) ?_
    refine v_ireturn rfl dX12_mow_18 ?_
    obtain ⟨rfl, rfl⟩ := Prod.mk.inj (Option.some.inj hF)
    exact ⟨rfl, rfl, hG⟩
  · rw [if_neg c3] at hF
    refine v_aload_n (i := 0) dX12_mow_8 rfl rfl ?_
    refine g_X12_125 (q := 262) rfl sh_226 (by exact ltG hG (by decide)) (by exact rG hG r0_226_53) dX12_mow_9 ?_
    refine v_iload_n (i := 1) dX12_mow_12 rfl rfl ?_
    obtain ⟨k4, hF⟩ := ck_some hF
    refine v_iaload sh_262 (by exact ltG hG (by decide)) (ixO k4) dX12_mow_13 ?_
    refine v_if_ne 19 dX12_mow_14 (by decide) (fun c5 => ?_) (fun c5 => ?_)
    · rw [if_neg c5] at hF
      refine v_aload_n (i := 0) dX12_mow_19 rfl rfl ?_
      obtain ⟨q6, q6_e, hF⟩ := Option.bind_eq_some_iff.mp hF
      refine c_X12_346 rfl sh_226 (by exact ltG hG (by decide)) (Nat.le_of_ble_eq_true rfl) dX12_mow_20 (s_X12_copies _ q6_e hG) (fun r1 h1 hq => ?_)
      obtain ⟨rfl, hq, hG⟩ := hq
      replace hq := hq.symm
      subst hq
      simp only [Option.toList, List.nil_append]
      refine v_aload_n (i := 0) dX12_mow_23 rfl rfl ?_
      refine v_iload_n (i := 1) dX12_mow_24 rfl rfl ?_
      obtain ⟨q8, q8_e, hF⟩ := Option.bind_eq_some_iff.mp hF
      refine c_X12_382 rfl sh_226 (by exact ltG hG (by decide)) (Nat.le_of_ble_eq_true rfl) dX12_mow_25 (s_X12_costsOf _ q8_e hG) (fun r1 h1 hq => ?_)
      obtain ⟨rfl, hq, hG⟩ := hq
      replace hq := hq.symm
      subst hq
      show V _ _ _ _ (_ :: _) _ _
      refine v_istore_n (i := 2) dX12_mow_28 rfl (by decide) (nlT rfl) ?_
      simp only [List.set_cons_zero, List.set_cons_succ]
      refine v_aload_n (i := 0) dX12_mow_29 rfl rfl ?_
      refine g_X12_128 (q := 263) rfl sh_226 (by exact ltG hG (by decide)) (by exact rG hG r0_226_54) dX12_mow_30 ?_
      refine v_bipush (v := 62) dX12_mow_33 (by decide) ?_
      refine v_dup2 dX12_mow_35 rfl rfl ?_
      refine v_iaload sh_263 (by exact ltG hG (by decide)) (ixK 62 (by decide)) dX12_mow_36 ?_
      refine v_iload_n (i := 2) dX12_mow_37 rfl rfl ?_
      refine v_iadd dX12_mow_38 ?_
      refine v_iastore sh_263 (by exact ltG hG (by decide)) (ixK 62 (by decide)) dX12_mow_39 ?_
      refine v_aload_n (i := 0) dX12_mow_40 rfl rfl ?_
      refine g_X12_128 (q := 263) rfl sh_226 (by exact ltG hG (by decide)) (by exact rG hG r0_226_54) dX12_mow_41 ?_
      refine v_iload_n (i := 1) dX12_mow_44 rfl rfl ?_
      refine v_iconst (v := 0) dX12_mow_45 (by decide) ?_
      obtain ⟨k10, hF⟩ := ck_some hF
      refine v_iastore sh_263 (by exact ltG hG (by decide)) (ixO k10) dX12_mow_46 ?_
      refine v_aload_n (i := 0) dX12_mow_47 rfl rfl ?_
      refine g_X12_128 (q := 263) rfl sh_226 (by exact ltG hG (by decide)) (by exact rG hG r0_226_54) dX12_mow_48 ?_
      refine v_bipush (v := 25) dX12_mow_51 (by decide) ?_
      refine v_iload_n (i := 1) dX12_mow_53 rfl rfl ?_
      refine v_iadd dX12_mow_54 ?_
      refine v_iconst (v := 0) dX12_mow_55 (by decide) ?_
      obtain ⟨k11, hF⟩ := ck_some hF
      refine v_iastore sh_263 (by exact ltG hG (by decide)) (ixO k11) dX12_mow_56 ?_
      refine v_aload_n (i := 0) dX12_mow_57 rfl rfl ?_
      obtain ⟨q12, q12_e, hF⟩ := Option.bind_eq_some_iff.mp hF
      refine c_X12_412 rfl sh_226 (by exact ltG hG (by decide)) (Nat.le_of_ble_eq_true rfl) dX12_mow_58 (s_X12_records _ q12_e hG) (fun r1 h1 hq => ?_)
      obtain ⟨rfl, hq, hG⟩ := hq
      replace hq := hq.symm
      subst hq
      simp only [Option.toList, List.nil_append]
      refine v_iload_n (i := 2) dX12_mow_61 rfl rfl ?_
      refine v_ireturn rfl dX12_mow_62 ?_
      obtain ⟨rfl, rfl⟩ := Prod.mk.inj (Option.some.inj hF)
      exact ⟨rfl, rfl, hG⟩
    · rw [if_pos c5] at hF
      refine v_iconst (v := (-1)) dX12_mow_17 (by decide) ?_
      refine v_ireturn rfl dX12_mow_18 ?_
      obtain ⟨rfl, rfl⟩ := Prod.mk.inj (Option.some.inj hF)
      exact ⟨rfl, rfl, hG⟩
def F_X12_mows (n : Nat) (h : Hp) (x1 : Int32) (x2 : Int32) (x3 : Int32) (x4 : Int32) : Option (Int32 × Hp) := ((F_X12_areFree n h x1 x2).bind (fun q1 => (if (q1.1 : Int32) = 0 then some ((-1), q1.2) else ((F_X12_isLong n q1.2 x3).bind (fun q4 => (if (q4.1 : Int32) = 0 then some ((-1), q4.2) else ((F_X12_in n q4.2 x4 0 1).bind (fun q7 => (if (q7.1 : Int32) = 0 then some ((-1), q7.2) else ((F_X12_fewestMown n q7.2 x1 x2 x3).bind (fun q10 => (if (q10.1 : Int32) < 0 then some (q10.1, q10.2) else (if (x4 : Int32) = (1 : Int32) then some (q10.1, q10.2) else ((F_X12_bits n q10.2 q10.1).bind (fun q14 => some (q14.1, q14.2))))))))))))))))
set_option maxRecDepth 100000 in
set_option maxHeartbeats 4000000 in
theorem s_X12_mows (d : Nat) {n : Nat} {h : Hp} {x1 : Int32} {x2 : Int32} {x3 : Int32} {x4 : Int32} {q0 : (Int32 × Hp)} (hF : F_X12_mows n h x1 x2 x3 x4 = some q0) (hG : G h)  : Kc mX12_mows (d + 6) [.ref 226, .int x1, .int x2, .int x3, .int x4] h (fun r1 h1 => r1 = some (.int q0.1) ∧ h1 = q0.2 ∧ G q0.2) := by
  obtain ⟨r, h'⟩ := q0
  unfold F_X12_mows at hF
  refine Kc.of [some (.ref 226), some (.int x1), some (.int x2), some (.int x3), some (.int x4), none] ok_X12_mows rfl (Nat.le_of_ble_eq_true rfl) ?_
  refine v_aload_n (i := 0) dX12_mows_0 rfl rfl ?_
  refine v_iload_n (i := 1) dX12_mows_1 rfl rfl ?_
  refine v_iload_n (i := 2) dX12_mows_2 rfl rfl ?_
  obtain ⟨q1, q1_e, hF⟩ := Option.bind_eq_some_iff.mp hF
  refine c_X12_439 rfl sh_226 (by exact ltG hG (by decide)) (Nat.le_of_ble_eq_true rfl) dX12_mows_3 (s_X12_areFree _ q1_e hG) (fun r1 h1 hq => ?_)
  obtain ⟨rfl, hq, hG⟩ := hq
  replace hq := hq.symm
  subst hq
  show V _ _ _ _ (_ :: _) _ _
  refine v_if_eq 26 dX12_mows_6 (by decide) (fun c3 => ?_) (fun c3 => ?_)
  · rw [if_pos c3] at hF
    refine v_iconst (v := (-1)) dX12_mows_26 (by decide) ?_
    refine v_ireturn rfl dX12_mows_27 ?_
    obtain ⟨rfl, rfl⟩ := Prod.mk.inj (Option.some.inj hF)
    exact ⟨rfl, rfl, hG⟩
  · rw [if_neg c3] at hF
    refine v_iload_n (i := 3) dX12_mows_9 rfl rfl ?_
    obtain ⟨q4, q4_e, hF⟩ := Option.bind_eq_some_iff.mp hF
    refine c_X12_415 rfl (Nat.le_of_ble_eq_true rfl) dX12_mows_10 (s_X12_isLong _ q4_e hG) (fun r1 h1 hq => ?_)
    obtain ⟨rfl, hq, hG⟩ := hq
    replace hq := hq.symm
    subst hq
    show V _ _ _ _ (_ :: _) _ _
    refine v_if_eq 26 dX12_mows_13 (by decide) (fun c6 => ?_) (fun c6 => ?_)
    · rw [if_pos c6] at hF
      refine v_iconst (v := (-1)) dX12_mows_26 (by decide) ?_
      refine v_ireturn rfl dX12_mows_27 ?_
      obtain ⟨rfl, rfl⟩ := Prod.mk.inj (Option.some.inj hF)
      exact ⟨rfl, rfl, hG⟩
    · rw [if_neg c6] at hF
      refine v_iload (i := 4) dX12_mows_16 rfl ?_
      refine v_iconst (v := 0) dX12_mows_18 (by decide) ?_
      refine v_iconst (v := 1) dX12_mows_19 (by decide) ?_
      obtain ⟨q7, q7_e, hF⟩ := Option.bind_eq_some_iff.mp hF
      refine c_X12_330 rfl (Nat.le_of_ble_eq_true rfl) dX12_mows_20 (s_X12_in _ q7_e hG) (fun r1 h1 hq => ?_)
      obtain ⟨rfl, hq, hG⟩ := hq
      replace hq := hq.symm
      subst hq
      show V _ _ _ _ (_ :: _) _ _
      refine v_if_ne 28 dX12_mows_23 (by decide) (fun c9 => ?_) (fun c9 => ?_)
      · rw [if_neg c9] at hF
        refine v_aload_n (i := 0) dX12_mows_28 rfl rfl ?_
        refine v_iload_n (i := 1) dX12_mows_29 rfl rfl ?_
        refine v_iload_n (i := 2) dX12_mows_30 rfl rfl ?_
        refine v_iload_n (i := 3) dX12_mows_31 rfl rfl ?_
        obtain ⟨q10, q10_e, hF⟩ := Option.bind_eq_some_iff.mp hF
        refine c_X12_459 rfl sh_226 (by exact ltG hG (by decide)) (Nat.le_of_ble_eq_true rfl) dX12_mows_32 (s_X12_fewestMown _ q10_e hG) (fun r1 h1 hq => ?_)
        obtain ⟨rfl, hq, hG⟩ := hq
        replace hq := hq.symm
        subst hq
        show V _ _ _ _ (_ :: _) _ _
        refine v_istore (i := 5) dX12_mows_35 (by decide) (nlT rfl) ?_
        simp only [List.set_cons_zero, List.set_cons_succ]
        refine v_iload (i := 5) dX12_mows_37 rfl ?_
        refine v_if_lt 48 dX12_mows_39 (by decide) (fun c12 => ?_) (fun c12 => ?_)
        · rw [if_pos c12] at hF
          refine v_iload (i := 5) dX12_mows_48 rfl ?_
          refine v_goto 58 dX12_mows_50 (by decide) ?_
          refine v_ireturn rfl dX12_mows_58 ?_
          obtain ⟨rfl, rfl⟩ := Prod.mk.inj (Option.some.inj hF)
          exact ⟨rfl, rfl, hG⟩
        · rw [if_neg c12] at hF
          refine v_iload (i := 4) dX12_mows_42 rfl ?_
          refine v_iconst (v := 1) dX12_mows_44 (by decide) ?_
          refine v_icmp_ne 53 dX12_mows_45 (by decide) (fun c13 => ?_) (fun c13 => ?_)
          · rw [if_neg c13] at hF
            refine v_iload (i := 5) dX12_mows_53 rfl ?_
            obtain ⟨q14, q14_e, hF⟩ := Option.bind_eq_some_iff.mp hF
            refine c_X12_362 rfl (Nat.le_of_ble_eq_true rfl) dX12_mows_55 (s_X12_bits _ q14_e hG) (fun r1 h1 hq => ?_)
            obtain ⟨rfl, hq, hG⟩ := hq
            replace hq := hq.symm
            subst hq
            show V _ _ _ _ (_ :: _) _ _
            refine v_ireturn rfl dX12_mows_58 ?_
            obtain ⟨rfl, rfl⟩ := Prod.mk.inj (Option.some.inj hF)
            exact ⟨rfl, rfl, hG⟩
          · rw [if_pos c13] at hF
            refine v_iload (i := 5) dX12_mows_48 rfl ?_
            refine v_goto 58 dX12_mows_50 (by decide) ?_
            refine v_ireturn rfl dX12_mows_58 ?_
            obtain ⟨rfl, rfl⟩ := Prod.mk.inj (Option.some.inj hF)
            exact ⟨rfl, rfl, hG⟩
      · rw [if_pos c9] at hF
        refine v_iconst (v := (-1)) dX12_mows_26 (by decide) ?_
        refine v_ireturn rfl dX12_mows_27 ?_
        obtain ⟨rfl, rfl⟩ := Prod.mk.inj (Option.some.inj hF)
        exact ⟨rfl, rfl, hG⟩
def W_X12_pairedOf : Nat → Nat → Hp → Int32 → Int32 → Int32 → Int32 → Option (Int32 × Hp)
  | 0 => fun _ _ _ _ _ _ => none
  | n + 1 => fun hd h l1 l2 l3 l4 => (if hd = 18 then (if (5 : Int32) ≤ (l4 : Int32) then some ((-2), h) else (if (((((l3 : Int32) >>> ((l4 : Int32) &&& 31)) : Int32) &&& (1 : Int32)) : Int32) = (1 : Int32) then ((F_X12_pairedWith n h l2 l4 l3).bind (fun q3 => (if ixOK l1 32 = true then (if (q3.1 : Int32) = ((hi q3.2 270 (Int32.toNatClampNeg l1)) : Int32) then some (l4, q3.2) else W_X12_pairedOf n 18 q3.2  l1 l2 l3 (l4 + 1)) else none))) else W_X12_pairedOf n 18 h  l1 l2 l3 (l4 + 1))) else none)
set_option maxRecDepth 100000 in
set_option maxHeartbeats 4000000 in
theorem sw_X12_pairedOf (d : Nat)  (n : Nat) : (∀ (l1 : Int32) (l2 : Int32) (l3 : Int32) (l4 : Int32) (h : Hp), ∀ (r : Int32) (h' : Hp), W_X12_pairedOf n 18 h  l1 l2 l3 l4 = some (r, h') → G h → V mX12_pairedOf (d + 3) 18 [some (.ref 226), some (.int l1), some (.int l2), some (.int l3), some (.int l4)] [] h (fun r1 h1 => r1 = some (.int r) ∧ h1 = h' ∧ G h')) := by
  induction n with
  | zero => exact by intros; contradiction
  | succ n ih =>
    have s_X12_pairedOf_IH_18 := ih
    intro l1 l2 l3 l4 h r h' hF hG
    unfold W_X12_pairedOf at hF
    rw [if_pos rfl] at hF
    refine v_iload (i := 4) dX12_pairedOf_18 rfl ?_
    refine v_iconst (v := 5) dX12_pairedOf_20 (by decide) ?_
    refine v_icmp_ge 60 dX12_pairedOf_21 (by decide) (fun c1 => ?_) (fun c1 => ?_)
    · rw [if_pos c1] at hF
      refine v_bipush (v := (-2)) dX12_pairedOf_60 (by decide) ?_
      refine v_ireturn rfl dX12_pairedOf_62 ?_
      obtain ⟨rfl, rfl⟩ := Prod.mk.inj (Option.some.inj hF)
      exact ⟨rfl, rfl, hG⟩
    · rw [if_neg c1] at hF
      refine v_iload_n (i := 3) dX12_pairedOf_24 rfl rfl ?_
      refine v_iload (i := 4) dX12_pairedOf_25 rfl ?_
      refine v_ishr dX12_pairedOf_27 ?_
      refine v_iconst (v := 1) dX12_pairedOf_28 (by decide) ?_
      refine v_iand dX12_pairedOf_29 ?_
      refine v_iconst (v := 1) dX12_pairedOf_30 (by decide) ?_
      refine v_icmp_ne 54 dX12_pairedOf_31 (by decide) (fun c2 => ?_) (fun c2 => ?_)
      · rw [if_neg c2] at hF
        refine v_iinc (i := 4) (v := (l4 + 1)) dX12_pairedOf_54 rfl rfl (by decide) (nlT rfl) ?_
        simp only [List.set_cons_zero, List.set_cons_succ]
        refine v_goto 18 dX12_pairedOf_57 (by decide) ?_
        refine V.weak (la2 := [some (.ref 226), some (.int l1), some (.int l2), some (.int l3), some (.int (l4 + 1))]) (by simp [wk]) ?_
        exact (s_X12_pairedOf_IH_18) _ _ _ _ _ _ _ hF hG
      · rw [if_pos c2] at hF
        refine v_aload_n (i := 0) dX12_pairedOf_34 rfl rfl ?_
        refine v_iload_n (i := 2) dX12_pairedOf_35 rfl rfl ?_
        refine v_iload (i := 4) dX12_pairedOf_36 rfl ?_
        refine v_iload_n (i := 3) dX12_pairedOf_38 rfl rfl ?_
        obtain ⟨q3, q3_e, hF⟩ := Option.bind_eq_some_iff.mp hF
        refine c_X12_486 rfl sh_226 (by exact ltG hG (by decide)) (Nat.le_of_ble_eq_true rfl) dX12_pairedOf_39 (s_X12_pairedWith _ q3_e hG) (fun r1 h1 hq => ?_)
        obtain ⟨rfl, hq, hG⟩ := hq
        replace hq := hq.symm
        subst hq
        show V _ _ _ _ (_ :: _) _ _
        refine v_aload_n (i := 0) dX12_pairedOf_42 rfl rfl ?_
        refine g_X12_149 (q := 270) rfl sh_226 (by exact ltG hG (by decide)) (by exact rG hG r0_226_64) dX12_pairedOf_43 ?_
        refine v_iload_n (i := 1) dX12_pairedOf_46 rfl rfl ?_
        obtain ⟨k5, hF⟩ := ck_some hF
        refine v_iaload sh_270 (by exact ltG hG (by decide)) (ixO k5) dX12_pairedOf_47 ?_
        refine v_icmp_ne 54 dX12_pairedOf_48 (by decide) (fun c6 => ?_) (fun c6 => ?_)
        · rw [if_neg c6] at hF
          refine v_iinc (i := 4) (v := (l4 + 1)) dX12_pairedOf_54 rfl rfl (by decide) (nlT rfl) ?_
          simp only [List.set_cons_zero, List.set_cons_succ]
          refine v_goto 18 dX12_pairedOf_57 (by decide) ?_
          refine V.weak (la2 := [some (.ref 226), some (.int l1), some (.int l2), some (.int l3), some (.int (l4 + 1))]) (by simp [wk]) ?_
          exact (s_X12_pairedOf_IH_18) _ _ _ _ _ _ _ hF hG
        · rw [if_pos c6] at hF
          refine v_iload (i := 4) dX12_pairedOf_51 rfl ?_
          refine v_ireturn rfl dX12_pairedOf_53 ?_
          obtain ⟨rfl, rfl⟩ := Prod.mk.inj (Option.some.inj hF)
          exact ⟨rfl, rfl, hG⟩
def F_X12_pairedOf (n : Nat) (h : Hp) (x1 : Int32) : Option (Int32 × Hp) := ((F_X12_lowestOf n h x1).bind (fun q7 => W_X12_pairedOf n 18 q7.2  x1 q7.1 ((x1 : Int32) &&& (((((1 : Int32) <<< ((q7.1 : Int32) &&& 31)) : Int32) ^^^ ((-1) : Int32)) : Int32)) (q7.1 + 1)))
set_option maxRecDepth 100000 in
set_option maxHeartbeats 4000000 in
theorem s_X12_pairedOf (d : Nat) {n : Nat} {h : Hp} {x1 : Int32} {q0 : (Int32 × Hp)} (hF : F_X12_pairedOf n h x1 = some q0) (hG : G h)  : Kc mX12_pairedOf (d + 3) [.ref 226, .int x1] h (fun r1 h1 => r1 = some (.int q0.1) ∧ h1 = q0.2 ∧ G q0.2) := by
  obtain ⟨r, h'⟩ := q0
  have s_X12_pairedOf_IH_18 := sw_X12_pairedOf d   n
  unfold F_X12_pairedOf at hF
  refine Kc.of [some (.ref 226), some (.int x1), none, none, none] ok_X12_pairedOf rfl (Nat.le_of_ble_eq_true rfl) ?_
  refine v_iload_n (i := 1) dX12_pairedOf_0 rfl rfl ?_
  obtain ⟨q7, q7_e, hF⟩ := Option.bind_eq_some_iff.mp hF
  refine c_X12_436 rfl (Nat.le_of_ble_eq_true rfl) dX12_pairedOf_1 (s_X12_lowestOf _ q7_e hG) (fun r1 h1 hq => ?_)
  obtain ⟨rfl, hq, hG⟩ := hq
  replace hq := hq.symm
  subst hq
  show V _ _ _ _ (_ :: _) _ _
  refine v_istore_n (i := 2) dX12_pairedOf_4 rfl (by decide) (nlT rfl) ?_
  simp only [List.set_cons_zero, List.set_cons_succ]
  refine v_iload_n (i := 1) dX12_pairedOf_5 rfl rfl ?_
  refine v_iconst (v := 1) dX12_pairedOf_6 (by decide) ?_
  refine v_iload_n (i := 2) dX12_pairedOf_7 rfl rfl ?_
  refine v_ishl dX12_pairedOf_8 ?_
  refine v_iconst (v := (-1)) dX12_pairedOf_9 (by decide) ?_
  refine v_ixor dX12_pairedOf_10 ?_
  refine v_iand dX12_pairedOf_11 ?_
  refine v_istore_n (i := 3) dX12_pairedOf_12 rfl (by decide) (nlT rfl) ?_
  simp only [List.set_cons_zero, List.set_cons_succ]
  refine v_iload_n (i := 2) dX12_pairedOf_13 rfl rfl ?_
  refine v_iconst (v := 1) dX12_pairedOf_14 (by decide) ?_
  refine v_iadd dX12_pairedOf_15 ?_
  refine v_istore (i := 4) dX12_pairedOf_16 (by decide) (nlT rfl) ?_
  simp only [List.set_cons_zero, List.set_cons_succ]
  refine V.weak (la2 := [some (.ref 226), some (.int x1), some (.int q7.1), some (.int ((x1 : Int32) &&& (((((1 : Int32) <<< ((q7.1 : Int32) &&& 31)) : Int32) ^^^ ((-1) : Int32)) : Int32))), some (.int (q7.1 + 1))]) (by simp [wk]) ?_
  exact (s_X12_pairedOf_IH_18) _ _ _ _ _ _ _ hF hG
def W_X12_pairs : Nat → Nat → Hp → Int32 → Int32 → Option (Int32 × Hp)
  | 0 => fun _ _ _ _ => none
  | n + 1 => fun hd h l1 l2 => (if hd = 61 then ((F_X12_lowestOf n h l2).bind (fun q1 => ((F_X12_pairedOf n q1.2 l2).bind (fun q3 => (if (q1.1 : Int32) = (l1 : Int32) then some (q3.1, q3.2) else (if (q3.1 : Int32) = (l1 : Int32) then some (q1.1, q3.2) else (if (q3.1 : Int32) < 0 then W_X12_pairs n 61 q3.2  l1 ((l2 : Int32) &&& (((((1 : Int32) <<< ((q1.1 : Int32) &&& 31)) : Int32) ^^^ ((-1) : Int32)) : Int32)) else W_X12_pairs n 61 q3.2  l1 ((((l2 : Int32) &&& (((((1 : Int32) <<< ((q1.1 : Int32) &&& 31)) : Int32) ^^^ ((-1) : Int32)) : Int32)) : Int32) &&& (((((1 : Int32) <<< ((q3.1 : Int32) &&& 31)) : Int32) ^^^ ((-1) : Int32)) : Int32))))))))) else none)
set_option maxRecDepth 100000 in
set_option maxHeartbeats 4000000 in
theorem sw_X12_pairs (d : Nat)  (n : Nat) : (∀ (l1 : Int32) (l2 : Int32) (h : Hp), ∀ (r : Int32) (h' : Hp), W_X12_pairs n 61 h  l1 l2 = some (r, h') → G h → V mX12_pairs (d + 4) 61 [some (.ref 226), some (.int l1), some (.int l2), none, none] [] h (fun r1 h1 => r1 = some (.int r) ∧ h1 = h' ∧ G h')) := by
  induction n with
  | zero => exact by intros; contradiction
  | succ n ih =>
    have s_X12_pairs_IH_61 := ih
    intro l1 l2 h r h' hF hG
    unfold W_X12_pairs at hF
    rw [if_pos rfl] at hF
    refine v_iload_n (i := 2) dX12_pairs_61 rfl rfl ?_
    obtain ⟨q1, q1_e, hF⟩ := Option.bind_eq_some_iff.mp hF
    refine c_X12_436 rfl (Nat.le_of_ble_eq_true rfl) dX12_pairs_62 (s_X12_lowestOf _ q1_e hG) (fun r1 h1 hq => ?_)
    obtain ⟨rfl, hq, hG⟩ := hq
    replace hq := hq.symm
    subst hq
    show V _ _ _ _ (_ :: _) _ _
    refine v_istore_n (i := 3) dX12_pairs_65 rfl (by decide) (nlT rfl) ?_
    simp only [List.set_cons_zero, List.set_cons_succ]
    refine v_aload_n (i := 0) dX12_pairs_66 rfl rfl ?_
    refine v_iload_n (i := 2) dX12_pairs_67 rfl rfl ?_
    obtain ⟨q3, q3_e, hF⟩ := Option.bind_eq_some_iff.mp hF
    refine c_X12_492 rfl sh_226 (by exact ltG hG (by decide)) (Nat.le_of_ble_eq_true rfl) dX12_pairs_68 (s_X12_pairedOf _ q3_e hG) (fun r1 h1 hq => ?_)
    obtain ⟨rfl, hq, hG⟩ := hq
    replace hq := hq.symm
    subst hq
    show V _ _ _ _ (_ :: _) _ _
    refine v_istore (i := 4) dX12_pairs_71 (by decide) (nlT rfl) ?_
    simp only [List.set_cons_zero, List.set_cons_succ]
    refine v_iload_n (i := 3) dX12_pairs_73 rfl rfl ?_
    refine v_iload_n (i := 1) dX12_pairs_74 rfl rfl ?_
    refine v_icmp_ne 81 dX12_pairs_75 (by decide) (fun c5 => ?_) (fun c5 => ?_)
    · rw [if_neg c5] at hF
      refine v_iload (i := 4) dX12_pairs_81 rfl ?_
      refine v_iload_n (i := 1) dX12_pairs_83 rfl rfl ?_
      refine v_icmp_ne 89 dX12_pairs_84 (by decide) (fun c6 => ?_) (fun c6 => ?_)
      · rw [if_neg c6] at hF
        refine v_iload_n (i := 2) dX12_pairs_89 rfl rfl ?_
        refine v_iconst (v := 1) dX12_pairs_90 (by decide) ?_
        refine v_iload_n (i := 3) dX12_pairs_91 rfl rfl ?_
        refine v_ishl dX12_pairs_92 ?_
        refine v_iconst (v := (-1)) dX12_pairs_93 (by decide) ?_
        refine v_ixor dX12_pairs_94 ?_
        refine v_iand dX12_pairs_95 ?_
        refine v_istore_n (i := 2) dX12_pairs_96 rfl (by decide) (nlT rfl) ?_
        simp only [List.set_cons_zero, List.set_cons_succ]
        refine v_iload (i := 4) dX12_pairs_97 rfl ?_
        refine v_if_lt 111 dX12_pairs_99 (by decide) (fun c7 => ?_) (fun c7 => ?_)
        · rw [if_pos c7] at hF
          refine v_goto 61 dX12_pairs_111 (by decide) ?_
          refine V.weak (la2 := [some (.ref 226), some (.int l1), some (.int ((l2 : Int32) &&& (((((1 : Int32) <<< ((q1.1 : Int32) &&& 31)) : Int32) ^^^ ((-1) : Int32)) : Int32))), none, none]) (by simp [wk]) ?_
          exact (s_X12_pairs_IH_61) _ _ _ _ _ hF hG
        · rw [if_neg c7] at hF
          refine v_iload_n (i := 2) dX12_pairs_102 rfl rfl ?_
          refine v_iconst (v := 1) dX12_pairs_103 (by decide) ?_
          refine v_iload (i := 4) dX12_pairs_104 rfl ?_
          refine v_ishl dX12_pairs_106 ?_
          refine v_iconst (v := (-1)) dX12_pairs_107 (by decide) ?_
          refine v_ixor dX12_pairs_108 ?_
          refine v_iand dX12_pairs_109 ?_
          refine v_istore_n (i := 2) dX12_pairs_110 rfl (by decide) (nlT rfl) ?_
          simp only [List.set_cons_zero, List.set_cons_succ]
          refine v_goto 61 dX12_pairs_111 (by decide) ?_
          refine V.weak (la2 := [some (.ref 226), some (.int l1), some (.int ((((l2 : Int32) &&& (((((1 : Int32) <<< ((q1.1 : Int32) &&& 31)) : Int32) ^^^ ((-1) : Int32)) : Int32)) : Int32) &&& (((((1 : Int32) <<< ((q3.1 : Int32) &&& 31)) : Int32) ^^^ ((-1) : Int32)) : Int32))), none, none]) (by simp [wk]) ?_
          exact (s_X12_pairs_IH_61) _ _ _ _ _ hF hG
      · rw [if_pos c6] at hF
        refine v_iload_n (i := 3) dX12_pairs_87 rfl rfl ?_
        refine v_ireturn rfl dX12_pairs_88 ?_
        obtain ⟨rfl, rfl⟩ := Prod.mk.inj (Option.some.inj hF)
        exact ⟨rfl, rfl, hG⟩
    · rw [if_pos c5] at hF
      refine v_iload (i := 4) dX12_pairs_78 rfl ?_
      refine v_ireturn rfl dX12_pairs_80 ?_
      obtain ⟨rfl, rfl⟩ := Prod.mk.inj (Option.some.inj hF)
      exact ⟨rfl, rfl, hG⟩
def F_X12_pairs (n : Nat) (h : Hp) (x1 : Int32) : Option (Int32 × Hp) := (if (x1 : Int32) = ((-1) : Int32) then ((F_X12_fillsPaired n h).bind (fun q9 => (if ixOK (hi q9 226 18) 2 = true then (if (x1 : Int32) = ((-1) : Int32) then (if ixOK (((1 : Int32) <<< (((hi q9 242 (Int32.toNatClampNeg (hi q9 226 18))) : Int32) &&& 31)) - 1) 32 = true then (if ixOK (hi q9 226 18) 2 = true then some (((hi q9 270 (Int32.toNatClampNeg (((1 : Int32) <<< (((hi q9 242 (Int32.toNatClampNeg (hi q9 226 18))) : Int32) &&& 31)) - 1))) + (10000 * ((hi q9 242 (Int32.toNatClampNeg (hi q9 226 18))) / 2))), q9) else none) else none) else W_X12_pairs n 61 q9  x1 (((1 : Int32) <<< (((hi q9 242 (Int32.toNatClampNeg (hi q9 226 18))) : Int32) &&& 31)) - 1)) else none))) else ((F_X12_isGoer n h x1).bind (fun q15 => (if (q15.1 : Int32) = 0 then some ((-1), q15.2) else ((F_X12_fillsPaired n q15.2).bind (fun q18 => (if ixOK (hi q18 226 18) 2 = true then (if (x1 : Int32) = ((-1) : Int32) then (if ixOK (((1 : Int32) <<< (((hi q18 242 (Int32.toNatClampNeg (hi q18 226 18))) : Int32) &&& 31)) - 1) 32 = true then (if ixOK (hi q18 226 18) 2 = true then some (((hi q18 270 (Int32.toNatClampNeg (((1 : Int32) <<< (((hi q18 242 (Int32.toNatClampNeg (hi q18 226 18))) : Int32) &&& 31)) - 1))) + (10000 * ((hi q18 242 (Int32.toNatClampNeg (hi q18 226 18))) / 2))), q18) else none) else none) else W_X12_pairs n 61 q18  x1 (((1 : Int32) <<< (((hi q18 242 (Int32.toNatClampNeg (hi q18 226 18))) : Int32) &&& 31)) - 1)) else none)))))))
set_option maxRecDepth 100000 in
set_option maxHeartbeats 4000000 in
theorem s_X12_pairs (d : Nat) {n : Nat} {h : Hp} {x1 : Int32} {q0 : (Int32 × Hp)} (hF : F_X12_pairs n h x1 = some q0) (hG : G h)  : Kc mX12_pairs (d + 4) [.ref 226, .int x1] h (fun r1 h1 => r1 = some (.int q0.1) ∧ h1 = q0.2 ∧ G q0.2) := by
  obtain ⟨r, h'⟩ := q0
  have s_X12_pairs_IH_61 := sw_X12_pairs d   n
  unfold F_X12_pairs at hF
  refine Kc.of [some (.ref 226), some (.int x1), none, none, none] ok_X12_pairs rfl (Nat.le_of_ble_eq_true rfl) ?_
  refine v_iload_n (i := 1) dX12_pairs_0 rfl rfl ?_
  refine v_iconst (v := (-1)) dX12_pairs_1 (by decide) ?_
  refine v_icmp_eq 15 dX12_pairs_2 (by decide) (fun c8 => ?_) (fun c8 => ?_)
  · rw [if_pos c8] at hF
    refine v_aload_n (i := 0) dX12_pairs_15 rfl rfl ?_
    obtain ⟨q9, q9_e, hF⟩ := Option.bind_eq_some_iff.mp hF
    refine c_X12_489 rfl sh_226 (by exact ltG hG (by decide)) (Nat.le_of_ble_eq_true rfl) dX12_pairs_16 (s_X12_fillsPaired _ q9_e hG) (fun r1 h1 hq => ?_)
    obtain ⟨rfl, hq, hG⟩ := hq
    replace hq := hq.symm
    subst hq
    simp only [Option.toList, List.nil_append]
    refine v_iconst (v := 1) dX12_pairs_19 (by decide) ?_
    refine v_aload_n (i := 0) dX12_pairs_20 rfl rfl ?_
    refine g_X12_64 (q := 242) rfl sh_226 (by exact ltG hG (by decide)) (by exact rG hG r0_226_29) dX12_pairs_21 ?_
    refine v_aload_n (i := 0) dX12_pairs_24 rfl rfl ?_
    refine g_X12_245 rfl sh_226 (by exact ltG hG (by decide)) dX12_pairs_25 ?_
    obtain ⟨k11, hF⟩ := ck_some hF
    refine v_iaload sh_242 (by exact ltG hG (by decide)) (ixO k11) dX12_pairs_28 ?_
    refine v_ishl dX12_pairs_29 ?_
    refine v_iconst (v := 1) dX12_pairs_30 (by decide) ?_
    refine v_isub dX12_pairs_31 ?_
    refine v_istore_n (i := 2) dX12_pairs_32 rfl (by decide) (nlT rfl) ?_
    simp only [List.set_cons_zero, List.set_cons_succ]
    refine v_iload_n (i := 1) dX12_pairs_33 rfl rfl ?_
    refine v_iconst (v := (-1)) dX12_pairs_34 (by decide) ?_
    refine v_icmp_ne 61 dX12_pairs_35 (by decide) (fun c12 => ?_) (fun c12 => ?_)
    · rw [if_neg c12] at hF
      refine V.weak (la2 := [some (.ref 226), some (.int x1), some (.int (((1 : Int32) <<< (((hi q9 242 (Int32.toNatClampNeg (hi q9 226 18))) : Int32) &&& 31)) - 1)), none, none]) (by simp [wk]) ?_
      exact (s_X12_pairs_IH_61) _ _ _ _ _ hF hG
    · rw [if_pos c12] at hF
      refine v_aload_n (i := 0) dX12_pairs_38 rfl rfl ?_
      refine g_X12_149 (q := 270) rfl sh_226 (by exact ltG hG (by decide)) (by exact rG hG r0_226_64) dX12_pairs_39 ?_
      refine v_iload_n (i := 2) dX12_pairs_42 rfl rfl ?_
      obtain ⟨k13, hF⟩ := ck_some hF
      refine v_iaload sh_270 (by exact ltG hG (by decide)) (ixO k13) dX12_pairs_43 ?_
      refine v_sipush (v := 10000) dX12_pairs_44 (by decide) ?_
      refine v_aload_n (i := 0) dX12_pairs_47 rfl rfl ?_
      refine g_X12_64 (q := 242) rfl sh_226 (by exact ltG hG (by decide)) (by exact rG hG r0_226_29) dX12_pairs_48 ?_
      refine v_aload_n (i := 0) dX12_pairs_51 rfl rfl ?_
      refine g_X12_245 rfl sh_226 (by exact ltG hG (by decide)) dX12_pairs_52 ?_
      obtain ⟨k14, hF⟩ := ck_some hF
      refine v_iaload sh_242 (by exact ltG hG (by decide)) (ixO k14) dX12_pairs_55 ?_
      refine v_iconst (v := 2) dX12_pairs_56 (by decide) ?_
      refine v_idiv dX12_pairs_57 (by decide) ?_
      refine v_imul dX12_pairs_58 ?_
      refine v_iadd dX12_pairs_59 ?_
      refine v_ireturn rfl dX12_pairs_60 ?_
      obtain ⟨rfl, rfl⟩ := Prod.mk.inj (Option.some.inj hF)
      exact ⟨rfl, rfl, hG⟩
  · rw [if_neg c8] at hF
    refine v_aload_n (i := 0) dX12_pairs_5 rfl rfl ?_
    refine v_iload_n (i := 1) dX12_pairs_6 rfl rfl ?_
    obtain ⟨q15, q15_e, hF⟩ := Option.bind_eq_some_iff.mp hF
    refine c_X12_409 rfl sh_226 (by exact ltG hG (by decide)) (Nat.le_of_ble_eq_true rfl) dX12_pairs_7 (s_X12_isGoer _ q15_e hG) (fun r1 h1 hq => ?_)
    obtain ⟨rfl, hq, hG⟩ := hq
    replace hq := hq.symm
    subst hq
    show V _ _ _ _ (_ :: _) _ _
    refine v_if_ne 15 dX12_pairs_10 (by decide) (fun c17 => ?_) (fun c17 => ?_)
    · rw [if_neg c17] at hF
      refine v_aload_n (i := 0) dX12_pairs_15 rfl rfl ?_
      obtain ⟨q18, q18_e, hF⟩ := Option.bind_eq_some_iff.mp hF
      refine c_X12_489 rfl sh_226 (by exact ltG hG (by decide)) (Nat.le_of_ble_eq_true rfl) dX12_pairs_16 (s_X12_fillsPaired _ q18_e hG) (fun r1 h1 hq => ?_)
      obtain ⟨rfl, hq, hG⟩ := hq
      replace hq := hq.symm
      subst hq
      simp only [Option.toList, List.nil_append]
      refine v_iconst (v := 1) dX12_pairs_19 (by decide) ?_
      refine v_aload_n (i := 0) dX12_pairs_20 rfl rfl ?_
      refine g_X12_64 (q := 242) rfl sh_226 (by exact ltG hG (by decide)) (by exact rG hG r0_226_29) dX12_pairs_21 ?_
      refine v_aload_n (i := 0) dX12_pairs_24 rfl rfl ?_
      refine g_X12_245 rfl sh_226 (by exact ltG hG (by decide)) dX12_pairs_25 ?_
      obtain ⟨k20, hF⟩ := ck_some hF
      refine v_iaload sh_242 (by exact ltG hG (by decide)) (ixO k20) dX12_pairs_28 ?_
      refine v_ishl dX12_pairs_29 ?_
      refine v_iconst (v := 1) dX12_pairs_30 (by decide) ?_
      refine v_isub dX12_pairs_31 ?_
      refine v_istore_n (i := 2) dX12_pairs_32 rfl (by decide) (nlT rfl) ?_
      simp only [List.set_cons_zero, List.set_cons_succ]
      refine v_iload_n (i := 1) dX12_pairs_33 rfl rfl ?_
      refine v_iconst (v := (-1)) dX12_pairs_34 (by decide) ?_
      refine v_icmp_ne 61 dX12_pairs_35 (by decide) (fun c21 => ?_) (fun c21 => ?_)
      · rw [if_neg c21] at hF
        refine V.weak (la2 := [some (.ref 226), some (.int x1), some (.int (((1 : Int32) <<< (((hi q18 242 (Int32.toNatClampNeg (hi q18 226 18))) : Int32) &&& 31)) - 1)), none, none]) (by simp [wk]) ?_
        exact (s_X12_pairs_IH_61) _ _ _ _ _ hF hG
      · rw [if_pos c21] at hF
        refine v_aload_n (i := 0) dX12_pairs_38 rfl rfl ?_
        refine g_X12_149 (q := 270) rfl sh_226 (by exact ltG hG (by decide)) (by exact rG hG r0_226_64) dX12_pairs_39 ?_
        refine v_iload_n (i := 2) dX12_pairs_42 rfl rfl ?_
        obtain ⟨k22, hF⟩ := ck_some hF
        refine v_iaload sh_270 (by exact ltG hG (by decide)) (ixO k22) dX12_pairs_43 ?_
        refine v_sipush (v := 10000) dX12_pairs_44 (by decide) ?_
        refine v_aload_n (i := 0) dX12_pairs_47 rfl rfl ?_
        refine g_X12_64 (q := 242) rfl sh_226 (by exact ltG hG (by decide)) (by exact rG hG r0_226_29) dX12_pairs_48 ?_
        refine v_aload_n (i := 0) dX12_pairs_51 rfl rfl ?_
        refine g_X12_245 rfl sh_226 (by exact ltG hG (by decide)) dX12_pairs_52 ?_
        obtain ⟨k23, hF⟩ := ck_some hF
        refine v_iaload sh_242 (by exact ltG hG (by decide)) (ixO k23) dX12_pairs_55 ?_
        refine v_iconst (v := 2) dX12_pairs_56 (by decide) ?_
        refine v_idiv dX12_pairs_57 (by decide) ?_
        refine v_imul dX12_pairs_58 ?_
        refine v_iadd dX12_pairs_59 ?_
        refine v_ireturn rfl dX12_pairs_60 ?_
        obtain ⟨rfl, rfl⟩ := Prod.mk.inj (Option.some.inj hF)
        exact ⟨rfl, rfl, hG⟩
    · rw [if_pos c17] at hF
      refine v_iconst (v := (-1)) dX12_pairs_13 (by decide) ?_
      refine v_ireturn rfl dX12_pairs_14 ?_
      obtain ⟨rfl, rfl⟩ := Prod.mk.inj (Option.some.inj hF)
      exact ⟨rfl, rfl, hG⟩
def W_X12_spreadBits : Nat → Nat → Hp → Int32 → Int32 → Int32 → Option (Int32 × Hp)
  | 0 => fun _ _ _ _ _ => none
  | n + 1 => fun hd h l1 l2 l3 => (if hd = 9 then ((F_X12_cells n h).bind (fun q1 => (if (q1.1 : Int32) ≤ (l3 : Int32) then some (l2, q1.2) else (if ixOK ((5 * l3) + 1) 125 = true then (if (((((l1 : Int32) >>> ((l3 : Int32) &&& 31)) : Int32) &&& (1 : Int32)) : Int32) = 0 then W_X12_spreadBits n 9 q1.2  l1 l2 (l3 + 1) else (if (((((l1 : Int32) >>> (((hi q1.2 264 (Int32.toNatClampNeg ((5 * l3) + 1))) : Int32) &&& 31)) : Int32) &&& (1 : Int32)) : Int32) = (1 : Int32) then W_X12_spreadBits n 9 q1.2  l1 l2 (l3 + 1) else ((F_X12_toldOf n q1.2 l3 0 0 2 0).bind (fun q7 => (if (q7.1 : Int32) ≤ 0 then W_X12_spreadBits n 9 q7.2  l1 l2 (l3 + 1) else ((F_X12_lotOf n q7.2 ((32 * (hi q7.2 263 61)) + l3)).bind (fun q10 => (if ixOK (hi q10.2 226 18) 2 = true then (if ((hi q10.2 248 (Int32.toNatClampNeg (hi q10.2 226 18))) : Int32) ≤ (q10.1 : Int32) then W_X12_spreadBits n 9 q10.2  l1 l2 (l3 + 1) else W_X12_spreadBits n 9 q10.2  l1 ((l2 : Int32) ||| (((1 : Int32) <<< ((l3 : Int32) &&& 31)) : Int32)) (l3 + 1)) else none)))))))) else none)))) else none)
set_option maxRecDepth 100000 in
set_option maxHeartbeats 4000000 in
theorem sw_X12_spreadBits (d : Nat)  (n : Nat) : (∀ (l1 : Int32) (l2 : Int32) (l3 : Int32) (h : Hp), ∀ (r : Int32) (h' : Hp), W_X12_spreadBits n 9 h  l1 l2 l3 = some (r, h') → G h → V mX12_spreadBits (d + 3) 9 [some (.ref 226), some (.int l1), some (.int l2), some (.int l3), none] [] h (fun r1 h1 => r1 = some (.int r) ∧ h1 = h' ∧ G h')) := by
  induction n with
  | zero => exact by intros; contradiction
  | succ n ih =>
    have s_X12_spreadBits_IH_9 := ih
    intro l1 l2 l3 h r h' hF hG
    unfold W_X12_spreadBits at hF
    rw [if_pos rfl] at hF
    refine v_iload_n (i := 3) dX12_spreadBits_9 rfl rfl ?_
    refine v_aload_n (i := 0) dX12_spreadBits_10 rfl rfl ?_
    obtain ⟨q1, q1_e, hF⟩ := Option.bind_eq_some_iff.mp hF
    refine c_X12_326 rfl sh_226 (by exact ltG hG (by decide)) (Nat.le_of_ble_eq_true rfl) dX12_spreadBits_11 (s_X12_cells _ q1_e hG) (fun r1 h1 hq => ?_)
    obtain ⟨rfl, hq, hG⟩ := hq
    replace hq := hq.symm
    subst hq
    show V _ _ _ _ (_ :: _) _ _
    refine v_icmp_ge 102 dX12_spreadBits_14 (by decide) (fun c3 => ?_) (fun c3 => ?_)
    · rw [if_pos c3] at hF
      refine v_iload_n (i := 2) dX12_spreadBits_102 rfl rfl ?_
      refine v_ireturn rfl dX12_spreadBits_103 ?_
      obtain ⟨rfl, rfl⟩ := Prod.mk.inj (Option.some.inj hF)
      exact ⟨rfl, rfl, hG⟩
    · rw [if_neg c3] at hF
      refine v_aload_n (i := 0) dX12_spreadBits_17 rfl rfl ?_
      refine g_X12_131 (q := 264) rfl sh_226 (by exact ltG hG (by decide)) (by exact rG hG r0_226_57) dX12_spreadBits_18 ?_
      refine v_iconst (v := 5) dX12_spreadBits_21 (by decide) ?_
      refine v_iload_n (i := 3) dX12_spreadBits_22 rfl rfl ?_
      refine v_imul dX12_spreadBits_23 ?_
      refine v_iconst (v := 1) dX12_spreadBits_24 (by decide) ?_
      refine v_iadd dX12_spreadBits_25 ?_
      obtain ⟨k4, hF⟩ := ck_some hF
      refine v_iaload sh_264 (by exact ltG hG (by decide)) (ixO k4) dX12_spreadBits_26 ?_
      refine v_istore (i := 4) dX12_spreadBits_27 (by decide) (nlT rfl) ?_
      simp only [List.set_cons_zero, List.set_cons_succ]
      refine v_iload_n (i := 1) dX12_spreadBits_29 rfl rfl ?_
      refine v_iload_n (i := 3) dX12_spreadBits_30 rfl rfl ?_
      refine v_ishr dX12_spreadBits_31 ?_
      refine v_iconst (v := 1) dX12_spreadBits_32 (by decide) ?_
      refine v_iand dX12_spreadBits_33 ?_
      refine v_if_eq 96 dX12_spreadBits_34 (by decide) (fun c5 => ?_) (fun c5 => ?_)
      · rw [if_pos c5] at hF
        refine v_iinc (i := 3) (v := (l3 + 1)) dX12_spreadBits_96 rfl rfl (by decide) (nlT rfl) ?_
        simp only [List.set_cons_zero, List.set_cons_succ]
        refine v_goto 9 dX12_spreadBits_99 (by decide) ?_
        refine V.weak (la2 := [some (.ref 226), some (.int l1), some (.int l2), some (.int (l3 + 1)), none]) (by simp [wk]) ?_
        exact (s_X12_spreadBits_IH_9) _ _ _ _ _ _ hF hG
      · rw [if_neg c5] at hF
        refine v_iload_n (i := 1) dX12_spreadBits_37 rfl rfl ?_
        refine v_iload (i := 4) dX12_spreadBits_38 rfl ?_
        refine v_ishr dX12_spreadBits_40 ?_
        refine v_iconst (v := 1) dX12_spreadBits_41 (by decide) ?_
        refine v_iand dX12_spreadBits_42 ?_
        refine v_iconst (v := 1) dX12_spreadBits_43 (by decide) ?_
        refine v_icmp_ne 50 dX12_spreadBits_44 (by decide) (fun c6 => ?_) (fun c6 => ?_)
        · rw [if_neg c6] at hF
          refine v_aload_n (i := 0) dX12_spreadBits_50 rfl rfl ?_
          refine v_iload_n (i := 3) dX12_spreadBits_51 rfl rfl ?_
          refine v_iconst (v := 0) dX12_spreadBits_52 (by decide) ?_
          refine v_iconst (v := 0) dX12_spreadBits_53 (by decide) ?_
          refine v_iconst (v := 2) dX12_spreadBits_54 (by decide) ?_
          refine v_iconst (v := 0) dX12_spreadBits_55 (by decide) ?_
          obtain ⟨q7, q7_e, hF⟩ := Option.bind_eq_some_iff.mp hF
          refine c_X12_368 rfl sh_226 (by exact ltG hG (by decide)) (Nat.le_of_ble_eq_true rfl) dX12_spreadBits_56 (s_X12_toldOf _ q7_e hG) (fun r1 h1 hq => ?_)
          obtain ⟨rfl, hq, hG⟩ := hq
          replace hq := hq.symm
          subst hq
          show V _ _ _ _ (_ :: _) _ _
          refine v_if_le 96 dX12_spreadBits_59 (by decide) (fun c9 => ?_) (fun c9 => ?_)
          · rw [if_pos c9] at hF
            refine v_iinc (i := 3) (v := (l3 + 1)) dX12_spreadBits_96 rfl rfl (by decide) (nlT rfl) ?_
            simp only [List.set_cons_zero, List.set_cons_succ]
            refine v_goto 9 dX12_spreadBits_99 (by decide) ?_
            refine V.weak (la2 := [some (.ref 226), some (.int l1), some (.int l2), some (.int (l3 + 1)), none]) (by simp [wk]) ?_
            exact (s_X12_spreadBits_IH_9) _ _ _ _ _ _ hF hG
          · rw [if_neg c9] at hF
            refine v_aload_n (i := 0) dX12_spreadBits_62 rfl rfl ?_
            refine v_bipush (v := 32) dX12_spreadBits_63 (by decide) ?_
            refine v_aload_n (i := 0) dX12_spreadBits_65 rfl rfl ?_
            refine g_X12_128 (q := 263) rfl sh_226 (by exact ltG hG (by decide)) (by exact rG hG r0_226_54) dX12_spreadBits_66 ?_
            refine v_bipush (v := 61) dX12_spreadBits_69 (by decide) ?_
            refine v_iaload sh_263 (by exact ltG hG (by decide)) (ixK 61 (by decide)) dX12_spreadBits_71 ?_
            refine v_imul dX12_spreadBits_72 ?_
            refine v_iload_n (i := 3) dX12_spreadBits_73 rfl rfl ?_
            refine v_iadd dX12_spreadBits_74 ?_
            obtain ⟨q10, q10_e, hF⟩ := Option.bind_eq_some_iff.mp hF
            refine c_X12_385 rfl sh_226 (by exact ltG hG (by decide)) (Nat.le_of_ble_eq_true rfl) dX12_spreadBits_75 (s_X12_lotOf _ q10_e hG) (fun r1 h1 hq => ?_)
            obtain ⟨rfl, hq, hG⟩ := hq
            replace hq := hq.symm
            subst hq
            show V _ _ _ _ (_ :: _) _ _
            refine v_aload_n (i := 0) dX12_spreadBits_78 rfl rfl ?_
            refine g_X12_82 (q := 248) rfl sh_226 (by exact ltG hG (by decide)) (by exact rG hG r0_226_35) dX12_spreadBits_79 ?_
            refine v_aload_n (i := 0) dX12_spreadBits_82 rfl rfl ?_
            refine g_X12_245 rfl sh_226 (by exact ltG hG (by decide)) dX12_spreadBits_83 ?_
            obtain ⟨k12, hF⟩ := ck_some hF
            refine v_iaload sh_248 (by exact ltG hG (by decide)) (ixO k12) dX12_spreadBits_86 ?_
            refine v_icmp_ge 96 dX12_spreadBits_87 (by decide) (fun c13 => ?_) (fun c13 => ?_)
            · rw [if_pos c13] at hF
              refine v_iinc (i := 3) (v := (l3 + 1)) dX12_spreadBits_96 rfl rfl (by decide) (nlT rfl) ?_
              simp only [List.set_cons_zero, List.set_cons_succ]
              refine v_goto 9 dX12_spreadBits_99 (by decide) ?_
              refine V.weak (la2 := [some (.ref 226), some (.int l1), some (.int l2), some (.int (l3 + 1)), none]) (by simp [wk]) ?_
              exact (s_X12_spreadBits_IH_9) _ _ _ _ _ _ hF hG
            · rw [if_neg c13] at hF
              refine v_iload_n (i := 2) dX12_spreadBits_90 rfl rfl ?_
              refine v_iconst (v := 1) dX12_spreadBits_91 (by decide) ?_
              refine v_iload_n (i := 3) dX12_spreadBits_92 rfl rfl ?_
              refine v_ishl dX12_spreadBits_93 ?_
              refine v_ior dX12_spreadBits_94 ?_
              refine v_istore_n (i := 2) dX12_spreadBits_95 rfl (by decide) (nlT rfl) ?_
              simp only [List.set_cons_zero, List.set_cons_succ]
              refine v_iinc (i := 3) (v := (l3 + 1)) dX12_spreadBits_96 rfl rfl (by decide) (nlT rfl) ?_
              simp only [List.set_cons_zero, List.set_cons_succ]
              refine v_goto 9 dX12_spreadBits_99 (by decide) ?_
              refine V.weak (la2 := [some (.ref 226), some (.int l1), some (.int ((l2 : Int32) ||| (((1 : Int32) <<< ((l3 : Int32) &&& 31)) : Int32))), some (.int (l3 + 1)), none]) (by simp [wk]) ?_
              exact (s_X12_spreadBits_IH_9) _ _ _ _ _ _ hF hG
        · rw [if_pos c6] at hF
          refine v_goto 96 dX12_spreadBits_47 (by decide) ?_
          refine v_iinc (i := 3) (v := (l3 + 1)) dX12_spreadBits_96 rfl rfl (by decide) (nlT rfl) ?_
          simp only [List.set_cons_zero, List.set_cons_succ]
          refine v_goto 9 dX12_spreadBits_99 (by decide) ?_
          refine V.weak (la2 := [some (.ref 226), some (.int l1), some (.int l2), some (.int (l3 + 1)), none]) (by simp [wk]) ?_
          exact (s_X12_spreadBits_IH_9) _ _ _ _ _ _ hF hG
def F_X12_spreadBits (n : Nat) (h : Hp) : Option (Int32 × Hp) := ((F_X12_tuneBits n h).bind (fun q14 => W_X12_spreadBits n 9 q14.2  q14.1 0 0))
set_option maxRecDepth 100000 in
set_option maxHeartbeats 4000000 in
theorem s_X12_spreadBits (d : Nat) {n : Nat} {h : Hp}  {q0 : (Int32 × Hp)} (hF : F_X12_spreadBits n h  = some q0) (hG : G h)  : Kc mX12_spreadBits (d + 3) [.ref 226] h (fun r1 h1 => r1 = some (.int q0.1) ∧ h1 = q0.2 ∧ G q0.2) := by
  obtain ⟨r, h'⟩ := q0
  have s_X12_spreadBits_IH_9 := sw_X12_spreadBits d   n
  unfold F_X12_spreadBits at hF
  refine Kc.of [some (.ref 226), none, none, none, none] ok_X12_spreadBits rfl (Nat.le_of_ble_eq_true rfl) ?_
  refine v_aload_n (i := 0) dX12_spreadBits_0 rfl rfl ?_
  obtain ⟨q14, q14_e, hF⟩ := Option.bind_eq_some_iff.mp hF
  refine c_X12_359 rfl sh_226 (by exact ltG hG (by decide)) (Nat.le_of_ble_eq_true rfl) dX12_spreadBits_1 (s_X12_tuneBits _ q14_e hG) (fun r1 h1 hq => ?_)
  obtain ⟨rfl, hq, hG⟩ := hq
  replace hq := hq.symm
  subst hq
  show V _ _ _ _ (_ :: _) _ _
  refine v_istore_n (i := 1) dX12_spreadBits_4 rfl (by decide) (nlT rfl) ?_
  simp only [List.set_cons_zero, List.set_cons_succ]
  refine v_iconst (v := 0) dX12_spreadBits_5 (by decide) ?_
  refine v_istore_n (i := 2) dX12_spreadBits_6 rfl (by decide) (nlT rfl) ?_
  simp only [List.set_cons_zero, List.set_cons_succ]
  refine v_iconst (v := 0) dX12_spreadBits_7 (by decide) ?_
  refine v_istore_n (i := 3) dX12_spreadBits_8 rfl (by decide) (nlT rfl) ?_
  simp only [List.set_cons_zero, List.set_cons_succ]
  refine V.weak (la2 := [some (.ref 226), some (.int q14.1), some (.int 0), some (.int 0), none]) (by simp [wk]) ?_
  exact (s_X12_spreadBits_IH_9) _ _ _ _ _ _ hF hG
def W_X12_spreads : Nat → Nat → Hp → Int32 → Int32 → Option Hp
  | 0 => fun _ _ _ _ => none
  | n + 1 => fun hd h l1 l2 => (if hd = 7 then ((F_X12_cells n h).bind (fun q1 => (if (q1.1 : Int32) ≤ (l2 : Int32) then some q1.2 else (if (((((l1 : Int32) >>> ((l2 : Int32) &&& 31)) : Int32) &&& (1 : Int32)) : Int32) = 0 then W_X12_spreads n 7 q1.2  l1 (l2 + 1) else ((F_X12_tuneBits n q1.2).bind (fun q5 => ((F_X12_bits n q5.2 q5.1).bind (fun q7 => (if (q7.1 : Int32) < (8 : Int32) then (if ixOK l2 63 = true then (if ixOK (l2 + 1) 63 = true then (if ixOK (25 + l2) 63 = true then (if ixOK l2 63 = true then (if (hi (wrI q7.2 263 (Int32.toNatClampNeg (l2 + 1)) (hi q7.2 263 (Int32.toNatClampNeg l2))) 263 (Int32.toNatClampNeg l2)) = 0 then none else (if ixOK (l2 + 26) 63 = true then W_X12_spreads n 7 (wrI (wrI q7.2 263 (Int32.toNatClampNeg (l2 + 1)) (hi q7.2 263 (Int32.toNatClampNeg l2))) 263 (Int32.toNatClampNeg (l2 + 26)) (((hi (wrI q7.2 263 (Int32.toNatClampNeg (l2 + 1)) (hi q7.2 263 (Int32.toNatClampNeg l2))) 263 (Int32.toNatClampNeg (25 + l2))) + 1) - ((hi (wrI q7.2 263 (Int32.toNatClampNeg (l2 + 1)) (hi q7.2 263 (Int32.toNatClampNeg l2))) 263 (Int32.toNatClampNeg (25 + l2))) + 1) / (hi (wrI q7.2 263 (Int32.toNatClampNeg (l2 + 1)) (hi q7.2 263 (Int32.toNatClampNeg l2))) 263 (Int32.toNatClampNeg l2)) * (hi (wrI q7.2 263 (Int32.toNatClampNeg (l2 + 1)) (hi q7.2 263 (Int32.toNatClampNeg l2))) 263 (Int32.toNatClampNeg l2))))  l1 (l2 + 1) else none)) else none) else none) else none) else none) else W_X12_spreads n 7 q7.2  l1 (l2 + 1)))))))))) else none)
set_option maxRecDepth 100000 in
set_option maxHeartbeats 4000000 in
theorem sw_X12_spreads (d : Nat)  (n : Nat) : (∀ (l1 : Int32) (l2 : Int32) (h : Hp), ∀ (h' : Hp), W_X12_spreads n 7 h  l1 l2 = some h' → G h → V mX12_spreads (d + 4) 7 [some (.ref 226), some (.int l1), some (.int l2)] [] h (fun r1 h1 => r1 = none ∧ h1 = h' ∧ G h')) := by
  induction n with
  | zero => exact by intros; contradiction
  | succ n ih =>
    have s_X12_spreads_IH_7 := ih
    intro l1 l2 h h' hF hG
    unfold W_X12_spreads at hF
    rw [if_pos rfl] at hF
    refine v_iload_n (i := 2) dX12_spreads_7 rfl rfl ?_
    refine v_aload_n (i := 0) dX12_spreads_8 rfl rfl ?_
    obtain ⟨q1, q1_e, hF⟩ := Option.bind_eq_some_iff.mp hF
    refine c_X12_326 rfl sh_226 (by exact ltG hG (by decide)) (Nat.le_of_ble_eq_true rfl) dX12_spreads_9 (s_X12_cells _ q1_e hG) (fun r1 h1 hq => ?_)
    obtain ⟨rfl, hq, hG⟩ := hq
    replace hq := hq.symm
    subst hq
    show V _ _ _ _ (_ :: _) _ _
    refine v_icmp_ge 85 dX12_spreads_12 (by decide) (fun c3 => ?_) (fun c3 => ?_)
    · rw [if_pos c3] at hF
      refine v_return rfl dX12_spreads_85 ?_
      obtain rfl := Option.some.inj hF
      exact ⟨rfl, rfl, hG⟩
    · rw [if_neg c3] at hF
      refine v_iload_n (i := 1) dX12_spreads_15 rfl rfl ?_
      refine v_iload_n (i := 2) dX12_spreads_16 rfl rfl ?_
      refine v_ishr dX12_spreads_17 ?_
      refine v_iconst (v := 1) dX12_spreads_18 (by decide) ?_
      refine v_iand dX12_spreads_19 ?_
      refine v_if_eq 79 dX12_spreads_20 (by decide) (fun c4 => ?_) (fun c4 => ?_)
      · rw [if_pos c4] at hF
        refine v_iinc (i := 2) (v := (l2 + 1)) dX12_spreads_79 rfl rfl (by decide) (nlT rfl) ?_
        simp only [List.set_cons_zero, List.set_cons_succ]
        refine v_goto 7 dX12_spreads_82 (by decide) ?_
        refine V.weak (la2 := [some (.ref 226), some (.int l1), some (.int (l2 + 1))]) (by simp [wk]) ?_
        exact (s_X12_spreads_IH_7) _ _ _ _ hF hG
      · rw [if_neg c4] at hF
        refine v_aload_n (i := 0) dX12_spreads_23 rfl rfl ?_
        obtain ⟨q5, q5_e, hF⟩ := Option.bind_eq_some_iff.mp hF
        refine c_X12_359 rfl sh_226 (by exact ltG hG (by decide)) (Nat.le_of_ble_eq_true rfl) dX12_spreads_24 (s_X12_tuneBits _ q5_e hG) (fun r1 h1 hq => ?_)
        obtain ⟨rfl, hq, hG⟩ := hq
        replace hq := hq.symm
        subst hq
        show V _ _ _ _ (_ :: _) _ _
        obtain ⟨q7, q7_e, hF⟩ := Option.bind_eq_some_iff.mp hF
        refine c_X12_362 rfl (Nat.le_of_ble_eq_true rfl) dX12_spreads_27 (s_X12_bits _ q7_e hG) (fun r1 h1 hq => ?_)
        obtain ⟨rfl, hq, hG⟩ := hq
        replace hq := hq.symm
        subst hq
        show V _ _ _ _ (_ :: _) _ _
        refine v_bipush (v := 8) dX12_spreads_30 (by decide) ?_
        refine v_icmp_lt 38 dX12_spreads_32 (by decide) (fun c9 => ?_) (fun c9 => ?_)
        · rw [if_pos c9] at hF
          refine v_aload_n (i := 0) dX12_spreads_38 rfl rfl ?_
          refine g_X12_128 (q := 263) rfl sh_226 (by exact ltG hG (by decide)) (by exact rG hG r0_226_54) dX12_spreads_39 ?_
          refine v_iload_n (i := 2) dX12_spreads_42 rfl rfl ?_
          refine v_iconst (v := 1) dX12_spreads_43 (by decide) ?_
          refine v_iadd dX12_spreads_44 ?_
          refine v_aload_n (i := 0) dX12_spreads_45 rfl rfl ?_
          refine g_X12_128 (q := 263) rfl sh_226 (by exact ltG hG (by decide)) (by exact rG hG r0_226_54) dX12_spreads_46 ?_
          refine v_iload_n (i := 2) dX12_spreads_49 rfl rfl ?_
          obtain ⟨k10, hF⟩ := ck_some hF
          refine v_iaload sh_263 (by exact ltG hG (by decide)) (ixO k10) dX12_spreads_50 ?_
          obtain ⟨k11, hF⟩ := ck_some hF
          refine v_iastore sh_263 (by exact ltG hG (by decide)) (ixO k11) dX12_spreads_51 ?_
          refine v_aload_n (i := 0) dX12_spreads_52 rfl rfl ?_
          refine g_X12_128 (q := 263) rfl sh_226 (by exact ltG hG (by decide)) (by exact rG hG r0_226_54) dX12_spreads_53 ?_
          refine v_iload_n (i := 2) dX12_spreads_56 rfl rfl ?_
          refine v_bipush (v := 26) dX12_spreads_57 (by decide) ?_
          refine v_iadd dX12_spreads_59 ?_
          refine v_aload_n (i := 0) dX12_spreads_60 rfl rfl ?_
          refine g_X12_128 (q := 263) rfl sh_226 (by exact ltG hG (by decide)) (by exact rG hG r0_226_54) dX12_spreads_61 ?_
          refine v_bipush (v := 25) dX12_spreads_64 (by decide) ?_
          refine v_iload_n (i := 2) dX12_spreads_66 rfl rfl ?_
          refine v_iadd dX12_spreads_67 ?_
          obtain ⟨k12, hF⟩ := ck_some hF
          refine v_iaload sh_263 (by exact ltG hG (by decide)) (ixO k12) dX12_spreads_68 ?_
          refine v_iconst (v := 1) dX12_spreads_69 (by decide) ?_
          refine v_iadd dX12_spreads_70 ?_
          refine v_aload_n (i := 0) dX12_spreads_71 rfl rfl ?_
          refine g_X12_128 (q := 263) rfl sh_226 (by exact ltG hG (by decide)) (by exact rG hG r0_226_54) dX12_spreads_72 ?_
          refine v_iload_n (i := 2) dX12_spreads_75 rfl rfl ?_
          obtain ⟨k13, hF⟩ := ck_some hF
          refine v_iaload sh_263 (by exact ltG hG (by decide)) (ixO k13) dX12_spreads_76 ?_
          obtain ⟨k14, hF⟩ := ck_none hF
          refine v_irem dX12_spreads_77 k14 ?_
          obtain ⟨k15, hF⟩ := ck_some hF
          refine v_iastore sh_263 (by exact ltG hG (by decide)) (ixO k15) dX12_spreads_78 ?_
          refine v_iinc (i := 2) (v := (l2 + 1)) dX12_spreads_79 rfl rfl (by decide) (nlT rfl) ?_
          simp only [List.set_cons_zero, List.set_cons_succ]
          refine v_goto 7 dX12_spreads_82 (by decide) ?_
          refine V.weak (la2 := [some (.ref 226), some (.int l1), some (.int (l2 + 1))]) (by simp [wk]) ?_
          exact (s_X12_spreads_IH_7) _ _ _ _ hF hG
        · rw [if_neg c9] at hF
          refine v_goto 79 dX12_spreads_35 (by decide) ?_
          refine v_iinc (i := 2) (v := (l2 + 1)) dX12_spreads_79 rfl rfl (by decide) (nlT rfl) ?_
          simp only [List.set_cons_zero, List.set_cons_succ]
          refine v_goto 7 dX12_spreads_82 (by decide) ?_
          refine V.weak (la2 := [some (.ref 226), some (.int l1), some (.int (l2 + 1))]) (by simp [wk]) ?_
          exact (s_X12_spreads_IH_7) _ _ _ _ hF hG
def F_X12_spreads (n : Nat) (h : Hp) : Option Hp := ((F_X12_spreadBits n h).bind (fun q16 => W_X12_spreads n 7 q16.2  q16.1 0))
set_option maxRecDepth 100000 in
set_option maxHeartbeats 4000000 in
theorem s_X12_spreads (d : Nat) {n : Nat} {h : Hp}  {q0 : Hp} (hF : F_X12_spreads n h  = some q0) (hG : G h)  : Kc mX12_spreads (d + 4) [.ref 226] h (fun r1 h1 => r1 = none ∧ h1 = q0 ∧ G q0) := by
  obtain ⟨h', rfl⟩ : ∃ z, z = q0 := ⟨_, rfl⟩
  have s_X12_spreads_IH_7 := sw_X12_spreads d   n
  unfold F_X12_spreads at hF
  refine Kc.of [some (.ref 226), none, none] ok_X12_spreads rfl (Nat.le_of_ble_eq_true rfl) ?_
  refine v_aload_n (i := 0) dX12_spreads_0 rfl rfl ?_
  obtain ⟨q16, q16_e, hF⟩ := Option.bind_eq_some_iff.mp hF
  refine c_X12_388 rfl sh_226 (by exact ltG hG (by decide)) (Nat.le_of_ble_eq_true rfl) dX12_spreads_1 (s_X12_spreadBits _ q16_e hG) (fun r1 h1 hq => ?_)
  obtain ⟨rfl, hq, hG⟩ := hq
  replace hq := hq.symm
  subst hq
  show V _ _ _ _ (_ :: _) _ _
  refine v_istore_n (i := 1) dX12_spreads_4 rfl (by decide) (nlT rfl) ?_
  simp only [List.set_cons_zero, List.set_cons_succ]
  refine v_iconst (v := 0) dX12_spreads_5 (by decide) ?_
  refine v_istore_n (i := 2) dX12_spreads_6 rfl (by decide) (nlT rfl) ?_
  simp only [List.set_cons_zero, List.set_cons_succ]
  refine V.weak (la2 := [some (.ref 226), some (.int q16.1), some (.int 0)]) (by simp [wk]) ?_
  exact (s_X12_spreads_IH_7) _ _ _ _ hF hG
def F_X12_stepOf (n : Nat) (h : Hp) (x1 : Int32) : Option (Int32 × Hp) := (if ixOK (51 + x1) 63 = true then ((F_X12_wayOf n h x1 (hi h 263 (Int32.toNatClampNeg (51 + x1))) 0 0).bind (fun q2 => some (q2.1, q2.2))) else none)
set_option maxRecDepth 100000 in
set_option maxHeartbeats 4000000 in
theorem s_X12_stepOf (d : Nat) {n : Nat} {h : Hp} {x1 : Int32} {q0 : (Int32 × Hp)} (hF : F_X12_stepOf n h x1 = some q0) (hG : G h)  : Kc mX12_stepOf (d + 4) [.ref 226, .int x1] h (fun r1 h1 => r1 = some (.int q0.1) ∧ h1 = q0.2 ∧ G q0.2) := by
  obtain ⟨r, h'⟩ := q0
  unfold F_X12_stepOf at hF
  refine Kc.of [some (.ref 226), some (.int x1)] ok_X12_stepOf rfl (Nat.le_of_ble_eq_true rfl) ?_
  refine v_aload_n (i := 0) dX12_stepOf_0 rfl rfl ?_
  refine v_iload_n (i := 1) dX12_stepOf_1 rfl rfl ?_
  refine v_aload_n (i := 0) dX12_stepOf_2 rfl rfl ?_
  refine g_X12_128 (q := 263) rfl sh_226 (by exact ltG hG (by decide)) (by exact rG hG r0_226_54) dX12_stepOf_3 ?_
  refine v_bipush (v := 51) dX12_stepOf_6 (by decide) ?_
  refine v_iload_n (i := 1) dX12_stepOf_8 rfl rfl ?_
  refine v_iadd dX12_stepOf_9 ?_
  obtain ⟨k1, hF⟩ := ck_some hF
  refine v_iaload sh_263 (by exact ltG hG (by decide)) (ixO k1) dX12_stepOf_10 ?_
  refine v_iconst (v := 0) dX12_stepOf_11 (by decide) ?_
  refine v_iconst (v := 0) dX12_stepOf_12 (by decide) ?_
  obtain ⟨q2, q2_e, hF⟩ := Option.bind_eq_some_iff.mp hF
  refine c_X12_375 rfl sh_226 (by exact ltG hG (by decide)) (Nat.le_of_ble_eq_true rfl) dX12_stepOf_13 (s_X12_wayOf _ q2_e hG) (fun r1 h1 hq => ?_)
  obtain ⟨rfl, hq, hG⟩ := hq
  replace hq := hq.symm
  subst hq
  show V _ _ _ _ (_ :: _) _ _
  refine v_ireturn rfl dX12_stepOf_16 ?_
  obtain ⟨rfl, rfl⟩ := Prod.mk.inj (Option.some.inj hF)
  exact ⟨rfl, rfl, hG⟩
def W_X12_tellLaw : Nat → Nat → Hp → Int32 → Int32 → Int32 → Option Hp
  | 0 => fun _ _ _ _ _ => none
  | n + 1 => fun hd h l1 l2 l3 => (if hd = 12 then (if ((hi h 226 13) : Int32) = 0 then ((F_X12_is n h 30).bind (fun q10 => (if (q10.1 : Int32) = 0 then (if ixOK (hi q10.2 226 39) 260 = true then ((F_X12_term n (wrI q10.2 252 (Int32.toNatClampNeg (hi q10.2 226 39)) 0)).bind (fun q14 => ((F_X12_must n q14 4).bind (fun q16 => (if ((hi q16 226 13) : Int32) ≤ 0 then (if ixOK ((4 * (hi q16 226 19)) + l1) 8 = true then (if ixOK ((4 * (hi (wrI q16 250 (Int32.toNatClampNeg ((4 * (hi q16 226 19)) + l1)) l2) 226 19)) + l1) 8 = true then some (wrI (wrI q16 250 (Int32.toNatClampNeg ((4 * (hi q16 226 19)) + l1)) l2) 251 (Int32.toNatClampNeg ((4 * (hi (wrI q16 250 (Int32.toNatClampNeg ((4 * (hi q16 226 19)) + l1)) l2) 226 19)) + l1)) (hi (wrI q16 250 (Int32.toNatClampNeg ((4 * (hi q16 226 19)) + l1)) l2) 226 39)) else none) else none) else some q16))))) else none) else (if (l3 : Int32) = (4 : Int32) then ((F_X12_fail n q10.2 2).bind (fun q47 => (if ((hi q47 226 13) : Int32) ≤ 0 then ((F_X12_goesOn n q47).bind (fun q50 => (if ixOK (hi q50 226 39) 260 = true then (if ixOK (hi (wrI q50 252 (Int32.toNatClampNeg (hi q50 226 39)) 1) 226 39) 260 = true then ((F_X12_expression n (wrI (wrI q50 252 (Int32.toNatClampNeg (hi q50 226 39)) 1) 253 (Int32.toNatClampNeg (hi (wrI q50 252 (Int32.toNatClampNeg (hi q50 226 39)) 1) 226 39)) (hi (wrI q50 252 (Int32.toNatClampNeg (hi q50 226 39)) 1) 226 45))).bind (fun q54 => ((F_X12_must n q54 13).bind (fun q56 => (if ixOK (hi q56 226 39) 260 = true then (if ((hi (wrI q56 254 (Int32.toNatClampNeg (hi q56 226 39)) (hi q56 226 45)) 226 13) : Int32) = 0 then ((F_X12_expression n (wrI q56 254 (Int32.toNatClampNeg (hi q56 226 39)) (hi q56 226 45))).bind (fun q66 => ((F_X12_must n q66 31).bind (fun q68 => ((F_X12_term n q68).bind (fun q70 => ((F_X12_must n q70 32).bind (fun q72 => W_X12_tellLaw n 12 q72  l1 l2 (l3 + 1))))))))) else ((F_X12_must n (wrI q56 254 (Int32.toNatClampNeg (hi q56 226 39)) (hi q56 226 45)) 31).bind (fun q60 => ((F_X12_term n q60).bind (fun q62 => ((F_X12_must n q62 32).bind (fun q64 => W_X12_tellLaw n 12 q64  l1 l2 (l3 + 1)))))))) else none))))) else none) else none))) else some q47))) else (if ((hi q10.2 226 13) : Int32) ≤ 0 then ((F_X12_goesOn n q10.2).bind (fun q23 => (if ixOK (hi q23 226 39) 260 = true then (if ixOK (hi (wrI q23 252 (Int32.toNatClampNeg (hi q23 226 39)) 1) 226 39) 260 = true then ((F_X12_expression n (wrI (wrI q23 252 (Int32.toNatClampNeg (hi q23 226 39)) 1) 253 (Int32.toNatClampNeg (hi (wrI q23 252 (Int32.toNatClampNeg (hi q23 226 39)) 1) 226 39)) (hi (wrI q23 252 (Int32.toNatClampNeg (hi q23 226 39)) 1) 226 45))).bind (fun q27 => ((F_X12_must n q27 13).bind (fun q29 => (if ixOK (hi q29 226 39) 260 = true then (if ((hi (wrI q29 254 (Int32.toNatClampNeg (hi q29 226 39)) (hi q29 226 45)) 226 13) : Int32) = 0 then ((F_X12_expression n (wrI q29 254 (Int32.toNatClampNeg (hi q29 226 39)) (hi q29 226 45))).bind (fun q39 => ((F_X12_must n q39 31).bind (fun q41 => ((F_X12_term n q41).bind (fun q43 => ((F_X12_must n q43 32).bind (fun q45 => W_X12_tellLaw n 12 q45  l1 l2 (l3 + 1))))))))) else ((F_X12_must n (wrI q29 254 (Int32.toNatClampNeg (hi q29 226 39)) (hi q29 226 45)) 31).bind (fun q33 => ((F_X12_term n q33).bind (fun q35 => ((F_X12_must n q35 32).bind (fun q37 => W_X12_tellLaw n 12 q37  l1 l2 (l3 + 1)))))))) else none))))) else none) else none))) else some q10.2))))) else (if ixOK (hi h 226 39) 260 = true then ((F_X12_term n (wrI h 252 (Int32.toNatClampNeg (hi h 226 39)) 0)).bind (fun q3 => ((F_X12_must n q3 4).bind (fun q5 => (if ((hi q5 226 13) : Int32) ≤ 0 then (if ixOK ((4 * (hi q5 226 19)) + l1) 8 = true then (if ixOK ((4 * (hi (wrI q5 250 (Int32.toNatClampNeg ((4 * (hi q5 226 19)) + l1)) l2) 226 19)) + l1) 8 = true then some (wrI (wrI q5 250 (Int32.toNatClampNeg ((4 * (hi q5 226 19)) + l1)) l2) 251 (Int32.toNatClampNeg ((4 * (hi (wrI q5 250 (Int32.toNatClampNeg ((4 * (hi q5 226 19)) + l1)) l2) 226 19)) + l1)) (hi (wrI q5 250 (Int32.toNatClampNeg ((4 * (hi q5 226 19)) + l1)) l2) 226 39)) else none) else none) else some q5))))) else none)) else none)
set_option maxRecDepth 100000 in
set_option maxHeartbeats 4000000 in
theorem sw_X12_tellLaw (d : Nat)  (n : Nat) : (∀ (l1 : Int32) (l2 : Int32) (l3 : Int32) (h : Hp), ∀ (h' : Hp), W_X12_tellLaw n 12 h  l1 l2 l3 = some h' → G h → V mX12_tellLaw (d + 5) 12 [some (.ref 226), some (.int l1), some (.int l2), some (.int l3)] [] h (fun r1 h1 => r1 = none ∧ h1 = h' ∧ G h')) := by
  induction n with
  | zero => exact by intros; contradiction
  | succ n ih =>
    have s_X12_tellLaw_IH_12 := ih
    intro l1 l2 l3 h h' hF hG
    unfold W_X12_tellLaw at hF
    rw [if_pos rfl] at hF
    refine v_aload_n (i := 0) dX12_tellLaw_12 rfl rfl ?_
    refine g_X12_215 rfl sh_226 (by exact ltG hG (by decide)) dX12_tellLaw_13 ?_
    refine v_if_ne 129 dX12_tellLaw_16 (by decide) (fun c1 => ?_) (fun c1 => ?_)
    · rw [if_neg c1] at hF
      refine v_aload_n (i := 0) dX12_tellLaw_129 rfl rfl ?_
      refine g_X12_94 (q := 252) rfl sh_226 (by exact ltG hG (by decide)) (by exact rG hG r0_226_40) dX12_tellLaw_130 ?_
      refine v_aload_n (i := 0) dX12_tellLaw_133 rfl rfl ?_
      refine g_X12_254 rfl sh_226 (by exact ltG hG (by decide)) dX12_tellLaw_134 ?_
      refine v_iconst (v := 0) dX12_tellLaw_137 (by decide) ?_
      obtain ⟨k2, hF⟩ := ck_some hF
      refine v_zastore sh_252 (by exact ltG hG (by decide)) (ixO k2) dX12_tellLaw_138 ?_
      refine v_aload_n (i := 0) dX12_tellLaw_139 rfl rfl ?_
      obtain ⟨q3, q3_e, hF⟩ := Option.bind_eq_some_iff.mp hF
      refine c_X12_306 rfl sh_226 (by exact ltG hG (by decide)) (Nat.le_of_ble_eq_true rfl) dX12_tellLaw_140 (s_X12_term _ q3_e hG) (fun r1 h1 hq => ?_)
      obtain ⟨rfl, hq, hG⟩ := hq
      replace hq := hq.symm
      subst hq
      simp only [Option.toList, List.nil_append]
      refine v_aload_n (i := 0) dX12_tellLaw_143 rfl rfl ?_
      refine v_iconst (v := 4) dX12_tellLaw_144 (by decide) ?_
      obtain ⟨q5, q5_e, hF⟩ := Option.bind_eq_some_iff.mp hF
      refine c_X12_285 rfl sh_226 (by exact ltG hG (by decide)) (Nat.le_of_ble_eq_true rfl) dX12_tellLaw_145 (s_X12_must _ q5_e hG) (fun r1 h1 hq => ?_)
      obtain ⟨rfl, hq, hG⟩ := hq
      replace hq := hq.symm
      subst hq
      simp only [Option.toList, List.nil_append]
      refine v_aload_n (i := 0) dX12_tellLaw_148 rfl rfl ?_
      refine g_X12_215 rfl sh_226 (by exact ltG hG (by decide)) dX12_tellLaw_149 ?_
      refine v_if_le 156 dX12_tellLaw_152 (by decide) (fun c7 => ?_) (fun c7 => ?_)
      · rw [if_pos c7] at hF
        refine v_aload_n (i := 0) dX12_tellLaw_156 rfl rfl ?_
        refine g_X12_88 (q := 250) rfl sh_226 (by exact ltG hG (by decide)) (by exact rG hG r0_226_37) dX12_tellLaw_157 ?_
        refine v_iconst (v := 4) dX12_tellLaw_160 (by decide) ?_
        refine v_aload_n (i := 0) dX12_tellLaw_161 rfl rfl ?_
        refine g_X12_248 rfl sh_226 (by exact ltG hG (by decide)) dX12_tellLaw_162 ?_
        refine v_imul dX12_tellLaw_165 ?_
        refine v_iload_n (i := 1) dX12_tellLaw_166 rfl rfl ?_
        refine v_iadd dX12_tellLaw_167 ?_
        refine v_iload_n (i := 2) dX12_tellLaw_168 rfl rfl ?_
        obtain ⟨k8, hF⟩ := ck_some hF
        refine v_iastore sh_250 (by exact ltG hG (by decide)) (ixO k8) dX12_tellLaw_169 ?_
        refine v_aload_n (i := 0) dX12_tellLaw_170 rfl rfl ?_
        refine g_X12_91 (q := 251) rfl sh_226 (by exact ltG hG (by decide)) (by exact rG hG r0_226_38) dX12_tellLaw_171 ?_
        refine v_iconst (v := 4) dX12_tellLaw_174 (by decide) ?_
        refine v_aload_n (i := 0) dX12_tellLaw_175 rfl rfl ?_
        refine g_X12_248 rfl sh_226 (by exact ltG hG (by decide)) dX12_tellLaw_176 ?_
        refine v_imul dX12_tellLaw_179 ?_
        refine v_iload_n (i := 1) dX12_tellLaw_180 rfl rfl ?_
        refine v_iadd dX12_tellLaw_181 ?_
        refine v_aload_n (i := 0) dX12_tellLaw_182 rfl rfl ?_
        refine g_X12_254 rfl sh_226 (by exact ltG hG (by decide)) dX12_tellLaw_183 ?_
        obtain ⟨k9, hF⟩ := ck_some hF
        refine v_iastore sh_251 (by exact ltG hG (by decide)) (ixO k9) dX12_tellLaw_186 ?_
        refine v_return rfl dX12_tellLaw_187 ?_
        obtain rfl := Option.some.inj hF
        exact ⟨rfl, rfl, hG⟩
      · rw [if_neg c7] at hF
        refine v_return rfl dX12_tellLaw_155 ?_
        obtain rfl := Option.some.inj hF
        exact ⟨rfl, rfl, hG⟩
    · rw [if_pos c1] at hF
      refine v_aload_n (i := 0) dX12_tellLaw_19 rfl rfl ?_
      refine v_bipush (v := 30) dX12_tellLaw_20 (by decide) ?_
      obtain ⟨q10, q10_e, hF⟩ := Option.bind_eq_some_iff.mp hF
      refine c_X12_233 rfl sh_226 (by exact ltG hG (by decide)) (Nat.le_of_ble_eq_true rfl) dX12_tellLaw_22 (s_X12_is _ q10_e hG) (fun r1 h1 hq => ?_)
      obtain ⟨rfl, hq, hG⟩ := hq
      replace hq := hq.symm
      subst hq
      show V _ _ _ _ (_ :: _) _ _
      refine v_if_eq 129 dX12_tellLaw_25 (by decide) (fun c12 => ?_) (fun c12 => ?_)
      · rw [if_pos c12] at hF
        refine v_aload_n (i := 0) dX12_tellLaw_129 rfl rfl ?_
        refine g_X12_94 (q := 252) rfl sh_226 (by exact ltG hG (by decide)) (by exact rG hG r0_226_40) dX12_tellLaw_130 ?_
        refine v_aload_n (i := 0) dX12_tellLaw_133 rfl rfl ?_
        refine g_X12_254 rfl sh_226 (by exact ltG hG (by decide)) dX12_tellLaw_134 ?_
        refine v_iconst (v := 0) dX12_tellLaw_137 (by decide) ?_
        obtain ⟨k13, hF⟩ := ck_some hF
        refine v_zastore sh_252 (by exact ltG hG (by decide)) (ixO k13) dX12_tellLaw_138 ?_
        refine v_aload_n (i := 0) dX12_tellLaw_139 rfl rfl ?_
        obtain ⟨q14, q14_e, hF⟩ := Option.bind_eq_some_iff.mp hF
        refine c_X12_306 rfl sh_226 (by exact ltG hG (by decide)) (Nat.le_of_ble_eq_true rfl) dX12_tellLaw_140 (s_X12_term _ q14_e hG) (fun r1 h1 hq => ?_)
        obtain ⟨rfl, hq, hG⟩ := hq
        replace hq := hq.symm
        subst hq
        simp only [Option.toList, List.nil_append]
        refine v_aload_n (i := 0) dX12_tellLaw_143 rfl rfl ?_
        refine v_iconst (v := 4) dX12_tellLaw_144 (by decide) ?_
        obtain ⟨q16, q16_e, hF⟩ := Option.bind_eq_some_iff.mp hF
        refine c_X12_285 rfl sh_226 (by exact ltG hG (by decide)) (Nat.le_of_ble_eq_true rfl) dX12_tellLaw_145 (s_X12_must _ q16_e hG) (fun r1 h1 hq => ?_)
        obtain ⟨rfl, hq, hG⟩ := hq
        replace hq := hq.symm
        subst hq
        simp only [Option.toList, List.nil_append]
        refine v_aload_n (i := 0) dX12_tellLaw_148 rfl rfl ?_
        refine g_X12_215 rfl sh_226 (by exact ltG hG (by decide)) dX12_tellLaw_149 ?_
        refine v_if_le 156 dX12_tellLaw_152 (by decide) (fun c18 => ?_) (fun c18 => ?_)
        · rw [if_pos c18] at hF
          refine v_aload_n (i := 0) dX12_tellLaw_156 rfl rfl ?_
          refine g_X12_88 (q := 250) rfl sh_226 (by exact ltG hG (by decide)) (by exact rG hG r0_226_37) dX12_tellLaw_157 ?_
          refine v_iconst (v := 4) dX12_tellLaw_160 (by decide) ?_
          refine v_aload_n (i := 0) dX12_tellLaw_161 rfl rfl ?_
          refine g_X12_248 rfl sh_226 (by exact ltG hG (by decide)) dX12_tellLaw_162 ?_
          refine v_imul dX12_tellLaw_165 ?_
          refine v_iload_n (i := 1) dX12_tellLaw_166 rfl rfl ?_
          refine v_iadd dX12_tellLaw_167 ?_
          refine v_iload_n (i := 2) dX12_tellLaw_168 rfl rfl ?_
          obtain ⟨k19, hF⟩ := ck_some hF
          refine v_iastore sh_250 (by exact ltG hG (by decide)) (ixO k19) dX12_tellLaw_169 ?_
          refine v_aload_n (i := 0) dX12_tellLaw_170 rfl rfl ?_
          refine g_X12_91 (q := 251) rfl sh_226 (by exact ltG hG (by decide)) (by exact rG hG r0_226_38) dX12_tellLaw_171 ?_
          refine v_iconst (v := 4) dX12_tellLaw_174 (by decide) ?_
          refine v_aload_n (i := 0) dX12_tellLaw_175 rfl rfl ?_
          refine g_X12_248 rfl sh_226 (by exact ltG hG (by decide)) dX12_tellLaw_176 ?_
          refine v_imul dX12_tellLaw_179 ?_
          refine v_iload_n (i := 1) dX12_tellLaw_180 rfl rfl ?_
          refine v_iadd dX12_tellLaw_181 ?_
          refine v_aload_n (i := 0) dX12_tellLaw_182 rfl rfl ?_
          refine g_X12_254 rfl sh_226 (by exact ltG hG (by decide)) dX12_tellLaw_183 ?_
          obtain ⟨k20, hF⟩ := ck_some hF
          refine v_iastore sh_251 (by exact ltG hG (by decide)) (ixO k20) dX12_tellLaw_186 ?_
          refine v_return rfl dX12_tellLaw_187 ?_
          obtain rfl := Option.some.inj hF
          exact ⟨rfl, rfl, hG⟩
        · rw [if_neg c18] at hF
          refine v_return rfl dX12_tellLaw_155 ?_
          obtain rfl := Option.some.inj hF
          exact ⟨rfl, rfl, hG⟩
      · rw [if_neg c12] at hF
        refine v_iload_n (i := 3) dX12_tellLaw_28 rfl rfl ?_
        refine v_iconst (v := 4) dX12_tellLaw_29 (by decide) ?_
        refine v_icmp_ne 38 dX12_tellLaw_30 (by decide) (fun c21 => ?_) (fun c21 => ?_)
        · rw [if_neg c21] at hF
          refine v_aload_n (i := 0) dX12_tellLaw_38 rfl rfl ?_
          refine g_X12_215 rfl sh_226 (by exact ltG hG (by decide)) dX12_tellLaw_39 ?_
          refine v_if_le 46 dX12_tellLaw_42 (by decide) (fun c22 => ?_) (fun c22 => ?_)
          · rw [if_pos c22] at hF
            refine v_iinc (i := 3) (v := (l3 + 1)) dX12_tellLaw_46 rfl rfl (by decide) (nlT rfl) ?_
            simp only [List.set_cons_zero, List.set_cons_succ]
            refine v_aload_n (i := 0) dX12_tellLaw_49 rfl rfl ?_
            obtain ⟨q23, q23_e, hF⟩ := Option.bind_eq_some_iff.mp hF
            refine c_X12_236 rfl sh_226 (by exact ltG hG (by decide)) (Nat.le_of_ble_eq_true rfl) dX12_tellLaw_50 (s_X12_goesOn _ q23_e hG) (fun r1 h1 hq => ?_)
            obtain ⟨rfl, hq, hG⟩ := hq
            replace hq := hq.symm
            subst hq
            simp only [Option.toList, List.nil_append]
            refine v_aload_n (i := 0) dX12_tellLaw_53 rfl rfl ?_
            refine g_X12_94 (q := 252) rfl sh_226 (by exact ltG hG (by decide)) (by exact rG hG r0_226_40) dX12_tellLaw_54 ?_
            refine v_aload_n (i := 0) dX12_tellLaw_57 rfl rfl ?_
            refine g_X12_254 rfl sh_226 (by exact ltG hG (by decide)) dX12_tellLaw_58 ?_
            refine v_iconst (v := 1) dX12_tellLaw_61 (by decide) ?_
            obtain ⟨k25, hF⟩ := ck_some hF
            refine v_zastore sh_252 (by exact ltG hG (by decide)) (ixO k25) dX12_tellLaw_62 ?_
            refine v_aload_n (i := 0) dX12_tellLaw_63 rfl rfl ?_
            refine g_X12_98 (q := 253) rfl sh_226 (by exact ltG hG (by decide)) (by exact rG hG r0_226_41) dX12_tellLaw_64 ?_
            refine v_aload_n (i := 0) dX12_tellLaw_67 rfl rfl ?_
            refine g_X12_254 rfl sh_226 (by exact ltG hG (by decide)) dX12_tellLaw_68 ?_
            refine v_aload_n (i := 0) dX12_tellLaw_71 rfl rfl ?_
            refine g_X12_257 rfl sh_226 (by exact ltG hG (by decide)) dX12_tellLaw_72 ?_
            obtain ⟨k26, hF⟩ := ck_some hF
            refine v_iastore sh_253 (by exact ltG hG (by decide)) (ixO k26) dX12_tellLaw_75 ?_
            refine v_aload_n (i := 0) dX12_tellLaw_76 rfl rfl ?_
            obtain ⟨q27, q27_e, hF⟩ := Option.bind_eq_some_iff.mp hF
            refine c_X12_303 rfl sh_226 (by exact ltG hG (by decide)) (Nat.le_of_ble_eq_true rfl) dX12_tellLaw_77 (s_X12_expression _ q27_e hG) (fun r1 h1 hq => ?_)
            obtain ⟨rfl, hq, hG⟩ := hq
            replace hq := hq.symm
            subst hq
            simp only [Option.toList, List.nil_append]
            refine v_aload_n (i := 0) dX12_tellLaw_80 rfl rfl ?_
            refine v_bipush (v := 13) dX12_tellLaw_81 (by decide) ?_
            obtain ⟨q29, q29_e, hF⟩ := Option.bind_eq_some_iff.mp hF
            refine c_X12_285 rfl sh_226 (by exact ltG hG (by decide)) (Nat.le_of_ble_eq_true rfl) dX12_tellLaw_83 (s_X12_must _ q29_e hG) (fun r1 h1 hq => ?_)
            obtain ⟨rfl, hq, hG⟩ := hq
            replace hq := hq.symm
            subst hq
            simp only [Option.toList, List.nil_append]
            refine v_aload_n (i := 0) dX12_tellLaw_86 rfl rfl ?_
            refine g_X12_101 (q := 254) rfl sh_226 (by exact ltG hG (by decide)) (by exact rG hG r0_226_42) dX12_tellLaw_87 ?_
            refine v_aload_n (i := 0) dX12_tellLaw_90 rfl rfl ?_
            refine g_X12_254 rfl sh_226 (by exact ltG hG (by decide)) dX12_tellLaw_91 ?_
            refine v_aload_n (i := 0) dX12_tellLaw_94 rfl rfl ?_
            refine g_X12_257 rfl sh_226 (by exact ltG hG (by decide)) dX12_tellLaw_95 ?_
            obtain ⟨k31, hF⟩ := ck_some hF
            refine v_iastore sh_254 (by exact ltG hG (by decide)) (ixO k31) dX12_tellLaw_98 ?_
            refine v_aload_n (i := 0) dX12_tellLaw_99 rfl rfl ?_
            refine g_X12_215 rfl sh_226 (by exact ltG hG (by decide)) dX12_tellLaw_100 ?_
            refine v_if_ne 110 dX12_tellLaw_103 (by decide) (fun c32 => ?_) (fun c32 => ?_)
            · rw [if_neg c32] at hF
              refine v_aload_n (i := 0) dX12_tellLaw_110 rfl rfl ?_
              refine v_bipush (v := 31) dX12_tellLaw_111 (by decide) ?_
              obtain ⟨q33, q33_e, hF⟩ := Option.bind_eq_some_iff.mp hF
              refine c_X12_285 rfl sh_226 (by exact ltG hG (by decide)) (Nat.le_of_ble_eq_true rfl) dX12_tellLaw_113 (s_X12_must _ q33_e hG) (fun r1 h1 hq => ?_)
              obtain ⟨rfl, hq, hG⟩ := hq
              replace hq := hq.symm
              subst hq
              simp only [Option.toList, List.nil_append]
              refine v_aload_n (i := 0) dX12_tellLaw_116 rfl rfl ?_
              obtain ⟨q35, q35_e, hF⟩ := Option.bind_eq_some_iff.mp hF
              refine c_X12_306 rfl sh_226 (by exact ltG hG (by decide)) (Nat.le_of_ble_eq_true rfl) dX12_tellLaw_117 (s_X12_term _ q35_e hG) (fun r1 h1 hq => ?_)
              obtain ⟨rfl, hq, hG⟩ := hq
              replace hq := hq.symm
              subst hq
              simp only [Option.toList, List.nil_append]
              refine v_aload_n (i := 0) dX12_tellLaw_120 rfl rfl ?_
              refine v_bipush (v := 32) dX12_tellLaw_121 (by decide) ?_
              obtain ⟨q37, q37_e, hF⟩ := Option.bind_eq_some_iff.mp hF
              refine c_X12_285 rfl sh_226 (by exact ltG hG (by decide)) (Nat.le_of_ble_eq_true rfl) dX12_tellLaw_123 (s_X12_must _ q37_e hG) (fun r1 h1 hq => ?_)
              obtain ⟨rfl, hq, hG⟩ := hq
              replace hq := hq.symm
              subst hq
              simp only [Option.toList, List.nil_append]
              refine v_goto 12 dX12_tellLaw_126 (by decide) ?_
              refine V.weak (la2 := [some (.ref 226), some (.int l1), some (.int l2), some (.int (l3 + 1))]) (by simp [wk]) ?_
              exact (s_X12_tellLaw_IH_12) _ _ _ _ _ hF hG
            · rw [if_pos c32] at hF
              refine v_aload_n (i := 0) dX12_tellLaw_106 rfl rfl ?_
              obtain ⟨q39, q39_e, hF⟩ := Option.bind_eq_some_iff.mp hF
              refine c_X12_303 rfl sh_226 (by exact ltG hG (by decide)) (Nat.le_of_ble_eq_true rfl) dX12_tellLaw_107 (s_X12_expression _ q39_e hG) (fun r1 h1 hq => ?_)
              obtain ⟨rfl, hq, hG⟩ := hq
              replace hq := hq.symm
              subst hq
              simp only [Option.toList, List.nil_append]
              refine v_aload_n (i := 0) dX12_tellLaw_110 rfl rfl ?_
              refine v_bipush (v := 31) dX12_tellLaw_111 (by decide) ?_
              obtain ⟨q41, q41_e, hF⟩ := Option.bind_eq_some_iff.mp hF
              refine c_X12_285 rfl sh_226 (by exact ltG hG (by decide)) (Nat.le_of_ble_eq_true rfl) dX12_tellLaw_113 (s_X12_must _ q41_e hG) (fun r1 h1 hq => ?_)
              obtain ⟨rfl, hq, hG⟩ := hq
              replace hq := hq.symm
              subst hq
              simp only [Option.toList, List.nil_append]
              refine v_aload_n (i := 0) dX12_tellLaw_116 rfl rfl ?_
              obtain ⟨q43, q43_e, hF⟩ := Option.bind_eq_some_iff.mp hF
              refine c_X12_306 rfl sh_226 (by exact ltG hG (by decide)) (Nat.le_of_ble_eq_true rfl) dX12_tellLaw_117 (s_X12_term _ q43_e hG) (fun r1 h1 hq => ?_)
              obtain ⟨rfl, hq, hG⟩ := hq
              replace hq := hq.symm
              subst hq
              simp only [Option.toList, List.nil_append]
              refine v_aload_n (i := 0) dX12_tellLaw_120 rfl rfl ?_
              refine v_bipush (v := 32) dX12_tellLaw_121 (by decide) ?_
              obtain ⟨q45, q45_e, hF⟩ := Option.bind_eq_some_iff.mp hF
              refine c_X12_285 rfl sh_226 (by exact ltG hG (by decide)) (Nat.le_of_ble_eq_true rfl) dX12_tellLaw_123 (s_X12_must _ q45_e hG) (fun r1 h1 hq => ?_)
              obtain ⟨rfl, hq, hG⟩ := hq
              replace hq := hq.symm
              subst hq
              simp only [Option.toList, List.nil_append]
              refine v_goto 12 dX12_tellLaw_126 (by decide) ?_
              refine V.weak (la2 := [some (.ref 226), some (.int l1), some (.int l2), some (.int (l3 + 1))]) (by simp [wk]) ?_
              exact (s_X12_tellLaw_IH_12) _ _ _ _ _ hF hG
          · rw [if_neg c22] at hF
            refine v_return rfl dX12_tellLaw_45 ?_
            obtain rfl := Option.some.inj hF
            exact ⟨rfl, rfl, hG⟩
        · rw [if_pos c21] at hF
          refine v_aload_n (i := 0) dX12_tellLaw_33 rfl rfl ?_
          refine v_iconst (v := 2) dX12_tellLaw_34 (by decide) ?_
          obtain ⟨q47, q47_e, hF⟩ := Option.bind_eq_some_iff.mp hF
          refine c_X12_230 rfl sh_226 (by exact ltG hG (by decide)) (Nat.le_of_ble_eq_true rfl) dX12_tellLaw_35 (s_X12_fail _ q47_e hG) (fun r1 h1 hq => ?_)
          obtain ⟨rfl, hq, hG⟩ := hq
          replace hq := hq.symm
          subst hq
          simp only [Option.toList, List.nil_append]
          refine v_aload_n (i := 0) dX12_tellLaw_38 rfl rfl ?_
          refine g_X12_215 rfl sh_226 (by exact ltG hG (by decide)) dX12_tellLaw_39 ?_
          refine v_if_le 46 dX12_tellLaw_42 (by decide) (fun c49 => ?_) (fun c49 => ?_)
          · rw [if_pos c49] at hF
            refine v_iinc (i := 3) (v := (l3 + 1)) dX12_tellLaw_46 rfl rfl (by decide) (nlT rfl) ?_
            simp only [List.set_cons_zero, List.set_cons_succ]
            refine v_aload_n (i := 0) dX12_tellLaw_49 rfl rfl ?_
            obtain ⟨q50, q50_e, hF⟩ := Option.bind_eq_some_iff.mp hF
            refine c_X12_236 rfl sh_226 (by exact ltG hG (by decide)) (Nat.le_of_ble_eq_true rfl) dX12_tellLaw_50 (s_X12_goesOn _ q50_e hG) (fun r1 h1 hq => ?_)
            obtain ⟨rfl, hq, hG⟩ := hq
            replace hq := hq.symm
            subst hq
            simp only [Option.toList, List.nil_append]
            refine v_aload_n (i := 0) dX12_tellLaw_53 rfl rfl ?_
            refine g_X12_94 (q := 252) rfl sh_226 (by exact ltG hG (by decide)) (by exact rG hG r0_226_40) dX12_tellLaw_54 ?_
            refine v_aload_n (i := 0) dX12_tellLaw_57 rfl rfl ?_
            refine g_X12_254 rfl sh_226 (by exact ltG hG (by decide)) dX12_tellLaw_58 ?_
            refine v_iconst (v := 1) dX12_tellLaw_61 (by decide) ?_
            obtain ⟨k52, hF⟩ := ck_some hF
            refine v_zastore sh_252 (by exact ltG hG (by decide)) (ixO k52) dX12_tellLaw_62 ?_
            refine v_aload_n (i := 0) dX12_tellLaw_63 rfl rfl ?_
            refine g_X12_98 (q := 253) rfl sh_226 (by exact ltG hG (by decide)) (by exact rG hG r0_226_41) dX12_tellLaw_64 ?_
            refine v_aload_n (i := 0) dX12_tellLaw_67 rfl rfl ?_
            refine g_X12_254 rfl sh_226 (by exact ltG hG (by decide)) dX12_tellLaw_68 ?_
            refine v_aload_n (i := 0) dX12_tellLaw_71 rfl rfl ?_
            refine g_X12_257 rfl sh_226 (by exact ltG hG (by decide)) dX12_tellLaw_72 ?_
            obtain ⟨k53, hF⟩ := ck_some hF
            refine v_iastore sh_253 (by exact ltG hG (by decide)) (ixO k53) dX12_tellLaw_75 ?_
            refine v_aload_n (i := 0) dX12_tellLaw_76 rfl rfl ?_
            obtain ⟨q54, q54_e, hF⟩ := Option.bind_eq_some_iff.mp hF
            refine c_X12_303 rfl sh_226 (by exact ltG hG (by decide)) (Nat.le_of_ble_eq_true rfl) dX12_tellLaw_77 (s_X12_expression _ q54_e hG) (fun r1 h1 hq => ?_)
            obtain ⟨rfl, hq, hG⟩ := hq
            replace hq := hq.symm
            subst hq
            simp only [Option.toList, List.nil_append]
            refine v_aload_n (i := 0) dX12_tellLaw_80 rfl rfl ?_
            refine v_bipush (v := 13) dX12_tellLaw_81 (by decide) ?_
            obtain ⟨q56, q56_e, hF⟩ := Option.bind_eq_some_iff.mp hF
            refine c_X12_285 rfl sh_226 (by exact ltG hG (by decide)) (Nat.le_of_ble_eq_true rfl) dX12_tellLaw_83 (s_X12_must _ q56_e hG) (fun r1 h1 hq => ?_)
            obtain ⟨rfl, hq, hG⟩ := hq
            replace hq := hq.symm
            subst hq
            simp only [Option.toList, List.nil_append]
            refine v_aload_n (i := 0) dX12_tellLaw_86 rfl rfl ?_
            refine g_X12_101 (q := 254) rfl sh_226 (by exact ltG hG (by decide)) (by exact rG hG r0_226_42) dX12_tellLaw_87 ?_
            refine v_aload_n (i := 0) dX12_tellLaw_90 rfl rfl ?_
            refine g_X12_254 rfl sh_226 (by exact ltG hG (by decide)) dX12_tellLaw_91 ?_
            refine v_aload_n (i := 0) dX12_tellLaw_94 rfl rfl ?_
            refine g_X12_257 rfl sh_226 (by exact ltG hG (by decide)) dX12_tellLaw_95 ?_
            obtain ⟨k58, hF⟩ := ck_some hF
            refine v_iastore sh_254 (by exact ltG hG (by decide)) (ixO k58) dX12_tellLaw_98 ?_
            refine v_aload_n (i := 0) dX12_tellLaw_99 rfl rfl ?_
            refine g_X12_215 rfl sh_226 (by exact ltG hG (by decide)) dX12_tellLaw_100 ?_
            refine v_if_ne 110 dX12_tellLaw_103 (by decide) (fun c59 => ?_) (fun c59 => ?_)
            · rw [if_neg c59] at hF
              refine v_aload_n (i := 0) dX12_tellLaw_110 rfl rfl ?_
              refine v_bipush (v := 31) dX12_tellLaw_111 (by decide) ?_
              obtain ⟨q60, q60_e, hF⟩ := Option.bind_eq_some_iff.mp hF
              refine c_X12_285 rfl sh_226 (by exact ltG hG (by decide)) (Nat.le_of_ble_eq_true rfl) dX12_tellLaw_113 (s_X12_must _ q60_e hG) (fun r1 h1 hq => ?_)
              obtain ⟨rfl, hq, hG⟩ := hq
              replace hq := hq.symm
              subst hq
              simp only [Option.toList, List.nil_append]
              refine v_aload_n (i := 0) dX12_tellLaw_116 rfl rfl ?_
              obtain ⟨q62, q62_e, hF⟩ := Option.bind_eq_some_iff.mp hF
              refine c_X12_306 rfl sh_226 (by exact ltG hG (by decide)) (Nat.le_of_ble_eq_true rfl) dX12_tellLaw_117 (s_X12_term _ q62_e hG) (fun r1 h1 hq => ?_)
              obtain ⟨rfl, hq, hG⟩ := hq
              replace hq := hq.symm
              subst hq
              simp only [Option.toList, List.nil_append]
              refine v_aload_n (i := 0) dX12_tellLaw_120 rfl rfl ?_
              refine v_bipush (v := 32) dX12_tellLaw_121 (by decide) ?_
              obtain ⟨q64, q64_e, hF⟩ := Option.bind_eq_some_iff.mp hF
              refine c_X12_285 rfl sh_226 (by exact ltG hG (by decide)) (Nat.le_of_ble_eq_true rfl) dX12_tellLaw_123 (s_X12_must _ q64_e hG) (fun r1 h1 hq => ?_)
              obtain ⟨rfl, hq, hG⟩ := hq
              replace hq := hq.symm
              subst hq
              simp only [Option.toList, List.nil_append]
              refine v_goto 12 dX12_tellLaw_126 (by decide) ?_
              refine V.weak (la2 := [some (.ref 226), some (.int l1), some (.int l2), some (.int (l3 + 1))]) (by simp [wk]) ?_
              exact (s_X12_tellLaw_IH_12) _ _ _ _ _ hF hG
            · rw [if_pos c59] at hF
              refine v_aload_n (i := 0) dX12_tellLaw_106 rfl rfl ?_
              obtain ⟨q66, q66_e, hF⟩ := Option.bind_eq_some_iff.mp hF
              refine c_X12_303 rfl sh_226 (by exact ltG hG (by decide)) (Nat.le_of_ble_eq_true rfl) dX12_tellLaw_107 (s_X12_expression _ q66_e hG) (fun r1 h1 hq => ?_)
              obtain ⟨rfl, hq, hG⟩ := hq
              replace hq := hq.symm
              subst hq
              simp only [Option.toList, List.nil_append]
              refine v_aload_n (i := 0) dX12_tellLaw_110 rfl rfl ?_
              refine v_bipush (v := 31) dX12_tellLaw_111 (by decide) ?_
              obtain ⟨q68, q68_e, hF⟩ := Option.bind_eq_some_iff.mp hF
              refine c_X12_285 rfl sh_226 (by exact ltG hG (by decide)) (Nat.le_of_ble_eq_true rfl) dX12_tellLaw_113 (s_X12_must _ q68_e hG) (fun r1 h1 hq => ?_)
              obtain ⟨rfl, hq, hG⟩ := hq
              replace hq := hq.symm
              subst hq
              simp only [Option.toList, List.nil_append]
              refine v_aload_n (i := 0) dX12_tellLaw_116 rfl rfl ?_
              obtain ⟨q70, q70_e, hF⟩ := Option.bind_eq_some_iff.mp hF
              refine c_X12_306 rfl sh_226 (by exact ltG hG (by decide)) (Nat.le_of_ble_eq_true rfl) dX12_tellLaw_117 (s_X12_term _ q70_e hG) (fun r1 h1 hq => ?_)
              obtain ⟨rfl, hq, hG⟩ := hq
              replace hq := hq.symm
              subst hq
              simp only [Option.toList, List.nil_append]
              refine v_aload_n (i := 0) dX12_tellLaw_120 rfl rfl ?_
              refine v_bipush (v := 32) dX12_tellLaw_121 (by decide) ?_
              obtain ⟨q72, q72_e, hF⟩ := Option.bind_eq_some_iff.mp hF
              refine c_X12_285 rfl sh_226 (by exact ltG hG (by decide)) (Nat.le_of_ble_eq_true rfl) dX12_tellLaw_123 (s_X12_must _ q72_e hG) (fun r1 h1 hq => ?_)
              obtain ⟨rfl, hq, hG⟩ := hq
              replace hq := hq.symm
              subst hq
              simp only [Option.toList, List.nil_append]
              refine v_goto 12 dX12_tellLaw_126 (by decide) ?_
              refine V.weak (la2 := [some (.ref 226), some (.int l1), some (.int l2), some (.int (l3 + 1))]) (by simp [wk]) ?_
              exact (s_X12_tellLaw_IH_12) _ _ _ _ _ hF hG
          · rw [if_neg c49] at hF
            refine v_return rfl dX12_tellLaw_45 ?_
            obtain rfl := Option.some.inj hF
            exact ⟨rfl, rfl, hG⟩
def F_X12_tellLaw (n : Nat) (h : Hp) (x1 : Int32) : Option Hp := ((F_X12_must n h 5).bind (fun q74 => W_X12_tellLaw n 12 q74  x1 (hi q74 226 39) 0))
set_option maxRecDepth 100000 in
set_option maxHeartbeats 4000000 in
theorem s_X12_tellLaw (d : Nat) {n : Nat} {h : Hp} {x1 : Int32} {q0 : Hp} (hF : F_X12_tellLaw n h x1 = some q0) (hG : G h)  : Kc mX12_tellLaw (d + 5) [.ref 226, .int x1] h (fun r1 h1 => r1 = none ∧ h1 = q0 ∧ G q0) := by
  obtain ⟨h', rfl⟩ : ∃ z, z = q0 := ⟨_, rfl⟩
  have s_X12_tellLaw_IH_12 := sw_X12_tellLaw d   n
  unfold F_X12_tellLaw at hF
  refine Kc.of [some (.ref 226), some (.int x1), none, none] ok_X12_tellLaw rfl (Nat.le_of_ble_eq_true rfl) ?_
  refine v_aload_n (i := 0) dX12_tellLaw_0 rfl rfl ?_
  refine v_iconst (v := 5) dX12_tellLaw_1 (by decide) ?_
  obtain ⟨q74, q74_e, hF⟩ := Option.bind_eq_some_iff.mp hF
  refine c_X12_285 rfl sh_226 (by exact ltG hG (by decide)) (Nat.le_of_ble_eq_true rfl) dX12_tellLaw_2 (s_X12_must _ q74_e hG) (fun r1 h1 hq => ?_)
  obtain ⟨rfl, hq, hG⟩ := hq
  replace hq := hq.symm
  subst hq
  simp only [Option.toList, List.nil_append]
  refine v_aload_n (i := 0) dX12_tellLaw_5 rfl rfl ?_
  refine g_X12_254 rfl sh_226 (by exact ltG hG (by decide)) dX12_tellLaw_6 ?_
  refine v_istore_n (i := 2) dX12_tellLaw_9 rfl (by decide) (nlT rfl) ?_
  simp only [List.set_cons_zero, List.set_cons_succ]
  refine v_iconst (v := 0) dX12_tellLaw_10 (by decide) ?_
  refine v_istore_n (i := 3) dX12_tellLaw_11 rfl (by decide) (nlT rfl) ?_
  simp only [List.set_cons_zero, List.set_cons_succ]
  refine V.weak (la2 := [some (.ref 226), some (.int x1), some (.int (hi q74 226 39)), some (.int 0)]) (by simp [wk]) ?_
  exact (s_X12_tellLaw_IH_12) _ _ _ _ _ hF hG
def F_X12_tellOne (n : Nat) (h : Hp) : Option Hp := (if ixOK (hi h 226 11) 403 = true then (if (hi h 229 (Int32.toNatClampNeg (hi h 226 11))) = 20 then ((F_X12_goesOn n h).bind (fun q3 => ((F_X12_bounded n q3 2 5).bind (fun q5 => (if ixOK (hi q3 226 19) 2 = true then ((F_X12_bounded n (wrI q5.2 235 (Int32.toNatClampNeg (hi q3 226 19)) q5.1) 2 5).bind (fun q8 => (if ixOK (hi (wrI q5.2 235 (Int32.toNatClampNeg (hi q3 226 19)) q5.1) 226 19) 2 = true then ((F_X12_must n (wrI q8.2 236 (Int32.toNatClampNeg (hi (wrI q5.2 235 (Int32.toNatClampNeg (hi q3 226 19)) q5.1) 226 19)) q8.1) 4).bind (fun q11 => some q11)) else none))) else none))))) else (if (hi h 229 (Int32.toNatClampNeg (hi h 226 11))) = 21 then (if ixOK (hi h 226 19) 2 = true then ((F_X12_roomFor n h (hi h 237 (Int32.toNatClampNeg (hi h 226 19))) 8).bind (fun q15 => (if ((hi q15 226 13) : Int32) = 0 then ((F_X12_tellTune n q15).bind (fun q18 => some q18)) else some q15))) else none) else (if (hi h 229 (Int32.toNatClampNeg (hi h 226 11))) = 22 then (if ixOK (hi h 226 19) 2 = true then ((F_X12_roomFor n h (hi h 242 (Int32.toNatClampNeg (hi h 226 19))) 5).bind (fun q22 => (if ((hi q22 226 13) : Int32) = 0 then ((F_X12_tellGoer n q22).bind (fun q25 => some q25)) else some q22))) else none) else (if (hi h 229 (Int32.toNatClampNeg (hi h 226 11))) = 23 then (if ixOK (hi h 226 19) 2 = true then ((F_X12_roomFor n h (hi h 245 (Int32.toNatClampNeg (hi h 226 19))) 8).bind (fun q29 => (if ((hi q29 226 13) : Int32) = 0 then ((F_X12_tellRope n q29).bind (fun q32 => some q32)) else some q29))) else none) else (if (hi h 229 (Int32.toNatClampNeg (hi h 226 11))) = 24 then (if ixOK (hi h 226 11) 403 = true then (if (((hi h 229 (Int32.toNatClampNeg (hi h 226 11))) - 24) : Int32) < 0 then ((F_X12_fail n h 1).bind (fun q37 => (if ((hi q37 226 13) : Int32) ≤ 0 then ((F_X12_goesOn n q37).bind (fun q40 => ((F_X12_tellLaw n q40 ((hi h 229 (Int32.toNatClampNeg (hi h 226 11))) - 24)).bind (fun q42 => some q42)))) else some q37))) else (if ixOK (hi h 226 11) 403 = true then (if ((hi h 229 (Int32.toNatClampNeg (hi h 226 11))) : Int32) ≤ (27 : Int32) then (if ((hi h 226 13) : Int32) ≤ 0 then ((F_X12_goesOn n h).bind (fun q47 => ((F_X12_tellLaw n q47 ((hi h 229 (Int32.toNatClampNeg (hi h 226 11))) - 24)).bind (fun q49 => some q49)))) else some h) else ((F_X12_fail n h 1).bind (fun q51 => (if ((hi q51 226 13) : Int32) ≤ 0 then ((F_X12_goesOn n q51).bind (fun q54 => ((F_X12_tellLaw n q54 ((hi h 229 (Int32.toNatClampNeg (hi h 226 11))) - 24)).bind (fun q56 => some q56)))) else some q51)))) else none)) else none) else (if (hi h 229 (Int32.toNatClampNeg (hi h 226 11))) = 25 then (if ixOK (hi h 226 11) 403 = true then (if (((hi h 229 (Int32.toNatClampNeg (hi h 226 11))) - 24) : Int32) < 0 then ((F_X12_fail n h 1).bind (fun q61 => (if ((hi q61 226 13) : Int32) ≤ 0 then ((F_X12_goesOn n q61).bind (fun q64 => ((F_X12_tellLaw n q64 ((hi h 229 (Int32.toNatClampNeg (hi h 226 11))) - 24)).bind (fun q66 => some q66)))) else some q61))) else (if ixOK (hi h 226 11) 403 = true then (if ((hi h 229 (Int32.toNatClampNeg (hi h 226 11))) : Int32) ≤ (27 : Int32) then (if ((hi h 226 13) : Int32) ≤ 0 then ((F_X12_goesOn n h).bind (fun q71 => ((F_X12_tellLaw n q71 ((hi h 229 (Int32.toNatClampNeg (hi h 226 11))) - 24)).bind (fun q73 => some q73)))) else some h) else ((F_X12_fail n h 1).bind (fun q75 => (if ((hi q75 226 13) : Int32) ≤ 0 then ((F_X12_goesOn n q75).bind (fun q78 => ((F_X12_tellLaw n q78 ((hi h 229 (Int32.toNatClampNeg (hi h 226 11))) - 24)).bind (fun q80 => some q80)))) else some q75)))) else none)) else none) else (if (hi h 229 (Int32.toNatClampNeg (hi h 226 11))) = 26 then (if ixOK (hi h 226 11) 403 = true then (if (((hi h 229 (Int32.toNatClampNeg (hi h 226 11))) - 24) : Int32) < 0 then ((F_X12_fail n h 1).bind (fun q85 => (if ((hi q85 226 13) : Int32) ≤ 0 then ((F_X12_goesOn n q85).bind (fun q88 => ((F_X12_tellLaw n q88 ((hi h 229 (Int32.toNatClampNeg (hi h 226 11))) - 24)).bind (fun q90 => some q90)))) else some q85))) else (if ixOK (hi h 226 11) 403 = true then (if ((hi h 229 (Int32.toNatClampNeg (hi h 226 11))) : Int32) ≤ (27 : Int32) then (if ((hi h 226 13) : Int32) ≤ 0 then ((F_X12_goesOn n h).bind (fun q95 => ((F_X12_tellLaw n q95 ((hi h 229 (Int32.toNatClampNeg (hi h 226 11))) - 24)).bind (fun q97 => some q97)))) else some h) else ((F_X12_fail n h 1).bind (fun q99 => (if ((hi q99 226 13) : Int32) ≤ 0 then ((F_X12_goesOn n q99).bind (fun q102 => ((F_X12_tellLaw n q102 ((hi h 229 (Int32.toNatClampNeg (hi h 226 11))) - 24)).bind (fun q104 => some q104)))) else some q99)))) else none)) else none) else (if (hi h 229 (Int32.toNatClampNeg (hi h 226 11))) = 27 then (if ixOK (hi h 226 11) 403 = true then (if (((hi h 229 (Int32.toNatClampNeg (hi h 226 11))) - 24) : Int32) < 0 then ((F_X12_fail n h 1).bind (fun q109 => (if ((hi q109 226 13) : Int32) ≤ 0 then ((F_X12_goesOn n q109).bind (fun q112 => ((F_X12_tellLaw n q112 ((hi h 229 (Int32.toNatClampNeg (hi h 226 11))) - 24)).bind (fun q114 => some q114)))) else some q109))) else (if ixOK (hi h 226 11) 403 = true then (if ((hi h 229 (Int32.toNatClampNeg (hi h 226 11))) : Int32) ≤ (27 : Int32) then (if ((hi h 226 13) : Int32) ≤ 0 then ((F_X12_goesOn n h).bind (fun q119 => ((F_X12_tellLaw n q119 ((hi h 229 (Int32.toNatClampNeg (hi h 226 11))) - 24)).bind (fun q121 => some q121)))) else some h) else ((F_X12_fail n h 1).bind (fun q123 => (if ((hi q123 226 13) : Int32) ≤ 0 then ((F_X12_goesOn n q123).bind (fun q126 => ((F_X12_tellLaw n q126 ((hi h 229 (Int32.toNatClampNeg (hi h 226 11))) - 24)).bind (fun q128 => some q128)))) else some q123)))) else none)) else none) else (if (hi h 229 (Int32.toNatClampNeg (hi h 226 11))) = 28 then ((F_X12_goesOn n h).bind (fun q131 => ((F_X12_bounded n q131 0 100).bind (fun q133 => (if ixOK (hi q131 226 19) 2 = true then ((F_X12_must n (wrI q133.2 248 (Int32.toNatClampNeg (hi q131 226 19)) q133.1) 4).bind (fun q136 => some q136)) else none))))) else (if (hi h 229 (Int32.toNatClampNeg (hi h 226 11))) = 29 then ((F_X12_goesOn n h).bind (fun q139 => ((F_X12_bounded n q139 0 9999).bind (fun q141 => (if ixOK (hi q139 226 19) 2 = true then ((F_X12_must n (wrI q141.2 249 (Int32.toNatClampNeg (hi q139 226 19)) q141.1) 4).bind (fun q144 => some q144)) else none))))) else (if ixOK (hi h 226 11) 403 = true then (if (((hi h 229 (Int32.toNatClampNeg (hi h 226 11))) - 24) : Int32) < 0 then ((F_X12_fail n h 1).bind (fun q148 => (if ((hi q148 226 13) : Int32) ≤ 0 then ((F_X12_goesOn n q148).bind (fun q151 => ((F_X12_tellLaw n q151 ((hi h 229 (Int32.toNatClampNeg (hi h 226 11))) - 24)).bind (fun q153 => some q153)))) else some q148))) else (if ixOK (hi h 226 11) 403 = true then (if ((hi h 229 (Int32.toNatClampNeg (hi h 226 11))) : Int32) ≤ (27 : Int32) then (if ((hi h 226 13) : Int32) ≤ 0 then ((F_X12_goesOn n h).bind (fun q158 => ((F_X12_tellLaw n q158 ((hi h 229 (Int32.toNatClampNeg (hi h 226 11))) - 24)).bind (fun q160 => some q160)))) else some h) else ((F_X12_fail n h 1).bind (fun q162 => (if ((hi q162 226 13) : Int32) ≤ 0 then ((F_X12_goesOn n q162).bind (fun q165 => ((F_X12_tellLaw n q165 ((hi h 229 (Int32.toNatClampNeg (hi h 226 11))) - 24)).bind (fun q167 => some q167)))) else some q162)))) else none)) else none))))))))))) else none)
set_option maxRecDepth 100000 in
set_option maxHeartbeats 4000000 in
theorem s_X12_tellOne (d : Nat) {n : Nat} {h : Hp}  {q0 : Hp} (hF : F_X12_tellOne n h  = some q0) (hG : G h)  : Kc mX12_tellOne (d + 6) [.ref 226] h (fun r1 h1 => r1 = none ∧ h1 = q0 ∧ G q0) := by
  obtain ⟨h', rfl⟩ : ∃ z, z = q0 := ⟨_, rfl⟩
  unfold F_X12_tellOne at hF
  refine Kc.of [some (.ref 226), none] ok_X12_tellOne rfl (Nat.le_of_ble_eq_true rfl) ?_
  refine v_aload_n (i := 0) dX12_tellOne_0 rfl rfl ?_
  refine g_X12_20 (q := 229) rfl sh_226 (by exact ltG hG (by decide)) (by exact rG hG r0_226_5) dX12_tellOne_1 ?_
  refine v_aload_n (i := 0) dX12_tellOne_4 rfl rfl ?_
  refine g_X12_218 rfl sh_226 (by exact ltG hG (by decide)) dX12_tellOne_5 ?_
  obtain ⟨k1, hF⟩ := ck_some hF
  refine v_iaload sh_229 (by exact ltG hG (by decide)) (ixO k1) dX12_tellOne_8 ?_
  by_cases c2 : (hi h 229 (Int32.toNatClampNeg (hi h 226 11))) = 20
  · rw [if_pos c2] at hF
    refine v_tableIn (off := 55) 64 dX12_tellOne_9 (by rw [c2]; decide) (by rw [c2]; decide) (by rw [c2]; decide +kernel) (by decide) ?_
    refine v_aload_n (i := 0) dX12_tellOne_64 rfl rfl ?_
    obtain ⟨q3, q3_e, hF⟩ := Option.bind_eq_some_iff.mp hF
    refine c_X12_236 rfl sh_226 (by exact ltG hG (by decide)) (Nat.le_of_ble_eq_true rfl) dX12_tellOne_65 (s_X12_goesOn _ q3_e hG) (fun r1 h1 hq => ?_)
    obtain ⟨rfl, hq, hG⟩ := hq
    replace hq := hq.symm
    subst hq
    simp only [Option.toList, List.nil_append]
    refine v_aload_n (i := 0) dX12_tellOne_68 rfl rfl ?_
    refine g_X12_43 (q := 235) rfl sh_226 (by exact ltG hG (by decide)) (by exact rG hG r0_226_22) dX12_tellOne_69 ?_
    refine v_aload_n (i := 0) dX12_tellOne_72 rfl rfl ?_
    refine g_X12_248 rfl sh_226 (by exact ltG hG (by decide)) dX12_tellOne_73 ?_
    refine v_aload_n (i := 0) dX12_tellOne_76 rfl rfl ?_
    refine v_iconst (v := 2) dX12_tellOne_77 (by decide) ?_
    refine v_iconst (v := 5) dX12_tellOne_78 (by decide) ?_
    obtain ⟨q5, q5_e, hF⟩ := Option.bind_eq_some_iff.mp hF
    refine c_X12_281 rfl sh_226 (by exact ltG hG (by decide)) (Nat.le_of_ble_eq_true rfl) dX12_tellOne_79 (s_X12_bounded _ q5_e hG) (fun r1 h1 hq => ?_)
    obtain ⟨rfl, hq, hG⟩ := hq
    replace hq := hq.symm
    subst hq
    show V _ _ _ _ (_ :: _) _ _
    obtain ⟨k7, hF⟩ := ck_some hF
    refine v_iastore sh_235 (by exact ltG hG (by decide)) (ixO k7) dX12_tellOne_82 ?_
    refine v_aload_n (i := 0) dX12_tellOne_83 rfl rfl ?_
    refine g_X12_46 (q := 236) rfl sh_226 (by exact ltG hG (by decide)) (by exact rG hG r0_226_23) dX12_tellOne_84 ?_
    refine v_aload_n (i := 0) dX12_tellOne_87 rfl rfl ?_
    refine g_X12_248 rfl sh_226 (by exact ltG hG (by decide)) dX12_tellOne_88 ?_
    refine v_aload_n (i := 0) dX12_tellOne_91 rfl rfl ?_
    refine v_iconst (v := 2) dX12_tellOne_92 (by decide) ?_
    refine v_iconst (v := 5) dX12_tellOne_93 (by decide) ?_
    obtain ⟨q8, q8_e, hF⟩ := Option.bind_eq_some_iff.mp hF
    refine c_X12_281 rfl sh_226 (by exact ltG hG (by decide)) (Nat.le_of_ble_eq_true rfl) dX12_tellOne_94 (s_X12_bounded _ q8_e hG) (fun r1 h1 hq => ?_)
    obtain ⟨rfl, hq, hG⟩ := hq
    replace hq := hq.symm
    subst hq
    show V _ _ _ _ (_ :: _) _ _
    obtain ⟨k10, hF⟩ := ck_some hF
    refine v_iastore sh_236 (by exact ltG hG (by decide)) (ixO k10) dX12_tellOne_97 ?_
    refine v_aload_n (i := 0) dX12_tellOne_98 rfl rfl ?_
    refine v_iconst (v := 4) dX12_tellOne_99 (by decide) ?_
    obtain ⟨q11, q11_e, hF⟩ := Option.bind_eq_some_iff.mp hF
    refine c_X12_285 rfl sh_226 (by exact ltG hG (by decide)) (Nat.le_of_ble_eq_true rfl) dX12_tellOne_100 (s_X12_must _ q11_e hG) (fun r1 h1 hq => ?_)
    obtain ⟨rfl, hq, hG⟩ := hq
    replace hq := hq.symm
    subst hq
    simp only [Option.toList, List.nil_append]
    refine v_goto 302 dX12_tellOne_103 (by decide) ?_
    refine v_return rfl dX12_tellOne_302 ?_
    obtain rfl := Option.some.inj hF
    exact ⟨rfl, rfl, hG⟩
  rw [if_neg c2] at hF
  by_cases c13 : (hi h 229 (Int32.toNatClampNeg (hi h 226 11))) = 21
  · rw [if_pos c13] at hF
    refine v_tableIn (off := 97) 106 dX12_tellOne_9 (by rw [c13]; decide) (by rw [c13]; decide) (by rw [c13]; decide +kernel) (by decide) ?_
    refine v_aload_n (i := 0) dX12_tellOne_106 rfl rfl ?_
    refine v_aload_n (i := 0) dX12_tellOne_107 rfl rfl ?_
    refine g_X12_49 (q := 237) rfl sh_226 (by exact ltG hG (by decide)) (by exact rG hG r0_226_24) dX12_tellOne_108 ?_
    refine v_aload_n (i := 0) dX12_tellOne_111 rfl rfl ?_
    refine g_X12_248 rfl sh_226 (by exact ltG hG (by decide)) dX12_tellOne_112 ?_
    obtain ⟨k14, hF⟩ := ck_some hF
    refine v_iaload sh_237 (by exact ltG hG (by decide)) (ixO k14) dX12_tellOne_115 ?_
    refine v_bipush (v := 8) dX12_tellOne_116 (by decide) ?_
    obtain ⟨q15, q15_e, hF⟩ := Option.bind_eq_some_iff.mp hF
    refine c_X12_288 rfl sh_226 (by exact ltG hG (by decide)) (Nat.le_of_ble_eq_true rfl) dX12_tellOne_118 (s_X12_roomFor _ q15_e hG) (fun r1 h1 hq => ?_)
    obtain ⟨rfl, hq, hG⟩ := hq
    replace hq := hq.symm
    subst hq
    simp only [Option.toList, List.nil_append]
    refine v_aload_n (i := 0) dX12_tellOne_121 rfl rfl ?_
    refine g_X12_215 rfl sh_226 (by exact ltG hG (by decide)) dX12_tellOne_122 ?_
    refine v_if_ne 302 dX12_tellOne_125 (by decide) (fun c17 => ?_) (fun c17 => ?_)
    · rw [if_neg c17] at hF
      refine v_return rfl dX12_tellOne_302 ?_
      obtain rfl := Option.some.inj hF
      exact ⟨rfl, rfl, hG⟩
    · rw [if_pos c17] at hF
      refine v_aload_n (i := 0) dX12_tellOne_128 rfl rfl ?_
      obtain ⟨q18, q18_e, hF⟩ := Option.bind_eq_some_iff.mp hF
      refine c_X12_291 rfl sh_226 (by exact ltG hG (by decide)) (Nat.le_of_ble_eq_true rfl) dX12_tellOne_129 (s_X12_tellTune _ q18_e hG) (fun r1 h1 hq => ?_)
      obtain ⟨rfl, hq, hG⟩ := hq
      replace hq := hq.symm
      subst hq
      simp only [Option.toList, List.nil_append]
      refine v_goto 302 dX12_tellOne_132 (by decide) ?_
      refine v_return rfl dX12_tellOne_302 ?_
      obtain rfl := Option.some.inj hF
      exact ⟨rfl, rfl, hG⟩
  rw [if_neg c13] at hF
  by_cases c20 : (hi h 229 (Int32.toNatClampNeg (hi h 226 11))) = 22
  · rw [if_pos c20] at hF
    refine v_tableIn (off := 126) 135 dX12_tellOne_9 (by rw [c20]; decide) (by rw [c20]; decide) (by rw [c20]; decide +kernel) (by decide) ?_
    refine v_aload_n (i := 0) dX12_tellOne_135 rfl rfl ?_
    refine v_aload_n (i := 0) dX12_tellOne_136 rfl rfl ?_
    refine g_X12_64 (q := 242) rfl sh_226 (by exact ltG hG (by decide)) (by exact rG hG r0_226_29) dX12_tellOne_137 ?_
    refine v_aload_n (i := 0) dX12_tellOne_140 rfl rfl ?_
    refine g_X12_248 rfl sh_226 (by exact ltG hG (by decide)) dX12_tellOne_141 ?_
    obtain ⟨k21, hF⟩ := ck_some hF
    refine v_iaload sh_242 (by exact ltG hG (by decide)) (ixO k21) dX12_tellOne_144 ?_
    refine v_iconst (v := 5) dX12_tellOne_145 (by decide) ?_
    obtain ⟨q22, q22_e, hF⟩ := Option.bind_eq_some_iff.mp hF
    refine c_X12_288 rfl sh_226 (by exact ltG hG (by decide)) (Nat.le_of_ble_eq_true rfl) dX12_tellOne_146 (s_X12_roomFor _ q22_e hG) (fun r1 h1 hq => ?_)
    obtain ⟨rfl, hq, hG⟩ := hq
    replace hq := hq.symm
    subst hq
    simp only [Option.toList, List.nil_append]
    refine v_aload_n (i := 0) dX12_tellOne_149 rfl rfl ?_
    refine g_X12_215 rfl sh_226 (by exact ltG hG (by decide)) dX12_tellOne_150 ?_
    refine v_if_ne 302 dX12_tellOne_153 (by decide) (fun c24 => ?_) (fun c24 => ?_)
    · rw [if_neg c24] at hF
      refine v_return rfl dX12_tellOne_302 ?_
      obtain rfl := Option.some.inj hF
      exact ⟨rfl, rfl, hG⟩
    · rw [if_pos c24] at hF
      refine v_aload_n (i := 0) dX12_tellOne_156 rfl rfl ?_
      obtain ⟨q25, q25_e, hF⟩ := Option.bind_eq_some_iff.mp hF
      refine c_X12_294 rfl sh_226 (by exact ltG hG (by decide)) (Nat.le_of_ble_eq_true rfl) dX12_tellOne_157 (s_X12_tellGoer _ q25_e hG) (fun r1 h1 hq => ?_)
      obtain ⟨rfl, hq, hG⟩ := hq
      replace hq := hq.symm
      subst hq
      simp only [Option.toList, List.nil_append]
      refine v_goto 302 dX12_tellOne_160 (by decide) ?_
      refine v_return rfl dX12_tellOne_302 ?_
      obtain rfl := Option.some.inj hF
      exact ⟨rfl, rfl, hG⟩
  rw [if_neg c20] at hF
  by_cases c27 : (hi h 229 (Int32.toNatClampNeg (hi h 226 11))) = 23
  · rw [if_pos c27] at hF
    refine v_tableIn (off := 154) 163 dX12_tellOne_9 (by rw [c27]; decide) (by rw [c27]; decide) (by rw [c27]; decide +kernel) (by decide) ?_
    refine v_aload_n (i := 0) dX12_tellOne_163 rfl rfl ?_
    refine v_aload_n (i := 0) dX12_tellOne_164 rfl rfl ?_
    refine g_X12_73 (q := 245) rfl sh_226 (by exact ltG hG (by decide)) (by exact rG hG r0_226_32) dX12_tellOne_165 ?_
    refine v_aload_n (i := 0) dX12_tellOne_168 rfl rfl ?_
    refine g_X12_248 rfl sh_226 (by exact ltG hG (by decide)) dX12_tellOne_169 ?_
    obtain ⟨k28, hF⟩ := ck_some hF
    refine v_iaload sh_245 (by exact ltG hG (by decide)) (ixO k28) dX12_tellOne_172 ?_
    refine v_bipush (v := 8) dX12_tellOne_173 (by decide) ?_
    obtain ⟨q29, q29_e, hF⟩ := Option.bind_eq_some_iff.mp hF
    refine c_X12_288 rfl sh_226 (by exact ltG hG (by decide)) (Nat.le_of_ble_eq_true rfl) dX12_tellOne_175 (s_X12_roomFor _ q29_e hG) (fun r1 h1 hq => ?_)
    obtain ⟨rfl, hq, hG⟩ := hq
    replace hq := hq.symm
    subst hq
    simp only [Option.toList, List.nil_append]
    refine v_aload_n (i := 0) dX12_tellOne_178 rfl rfl ?_
    refine g_X12_215 rfl sh_226 (by exact ltG hG (by decide)) dX12_tellOne_179 ?_
    refine v_if_ne 302 dX12_tellOne_182 (by decide) (fun c31 => ?_) (fun c31 => ?_)
    · rw [if_neg c31] at hF
      refine v_return rfl dX12_tellOne_302 ?_
      obtain rfl := Option.some.inj hF
      exact ⟨rfl, rfl, hG⟩
    · rw [if_pos c31] at hF
      refine v_aload_n (i := 0) dX12_tellOne_185 rfl rfl ?_
      obtain ⟨q32, q32_e, hF⟩ := Option.bind_eq_some_iff.mp hF
      refine c_X12_297 rfl sh_226 (by exact ltG hG (by decide)) (Nat.le_of_ble_eq_true rfl) dX12_tellOne_186 (s_X12_tellRope _ q32_e hG) (fun r1 h1 hq => ?_)
      obtain ⟨rfl, hq, hG⟩ := hq
      replace hq := hq.symm
      subst hq
      simp only [Option.toList, List.nil_append]
      refine v_goto 302 dX12_tellOne_189 (by decide) ?_
      refine v_return rfl dX12_tellOne_302 ?_
      obtain rfl := Option.some.inj hF
      exact ⟨rfl, rfl, hG⟩
  rw [if_neg c27] at hF
  by_cases c34 : (hi h 229 (Int32.toNatClampNeg (hi h 226 11))) = 24
  · rw [if_pos c34] at hF
    refine v_tableIn (off := 240) 249 dX12_tellOne_9 (by rw [c34]; decide) (by rw [c34]; decide) (by rw [c34]; decide +kernel) (by decide) ?_
    refine v_aload_n (i := 0) dX12_tellOne_249 rfl rfl ?_
    refine g_X12_20 (q := 229) rfl sh_226 (by exact ltG hG (by decide)) (by exact rG hG r0_226_5) dX12_tellOne_250 ?_
    refine v_aload_n (i := 0) dX12_tellOne_253 rfl rfl ?_
    refine g_X12_218 rfl sh_226 (by exact ltG hG (by decide)) dX12_tellOne_254 ?_
    obtain ⟨k35, hF⟩ := ck_some hF
    refine v_iaload sh_229 (by exact ltG hG (by decide)) (ixO k35) dX12_tellOne_257 ?_
    refine v_bipush (v := 24) dX12_tellOne_258 (by decide) ?_
    refine v_isub dX12_tellOne_260 ?_
    refine v_istore_n (i := 1) dX12_tellOne_261 rfl (by decide) (nlT rfl) ?_
    simp only [List.set_cons_zero, List.set_cons_succ]
    refine v_iload_n (i := 1) dX12_tellOne_262 rfl rfl ?_
    refine v_if_lt 280 dX12_tellOne_263 (by decide) (fun c36 => ?_) (fun c36 => ?_)
    · rw [if_pos c36] at hF
      refine v_aload_n (i := 0) dX12_tellOne_280 rfl rfl ?_
      refine v_iconst (v := 1) dX12_tellOne_281 (by decide) ?_
      obtain ⟨q37, q37_e, hF⟩ := Option.bind_eq_some_iff.mp hF
      refine c_X12_230 rfl sh_226 (by exact ltG hG (by decide)) (Nat.le_of_ble_eq_true rfl) dX12_tellOne_282 (s_X12_fail _ q37_e hG) (fun r1 h1 hq => ?_)
      obtain ⟨rfl, hq, hG⟩ := hq
      replace hq := hq.symm
      subst hq
      simp only [Option.toList, List.nil_append]
      refine v_aload_n (i := 0) dX12_tellOne_285 rfl rfl ?_
      refine g_X12_215 rfl sh_226 (by exact ltG hG (by decide)) dX12_tellOne_286 ?_
      refine v_if_le 293 dX12_tellOne_289 (by decide) (fun c39 => ?_) (fun c39 => ?_)
      · rw [if_pos c39] at hF
        refine v_aload_n (i := 0) dX12_tellOne_293 rfl rfl ?_
        obtain ⟨q40, q40_e, hF⟩ := Option.bind_eq_some_iff.mp hF
        refine c_X12_236 rfl sh_226 (by exact ltG hG (by decide)) (Nat.le_of_ble_eq_true rfl) dX12_tellOne_294 (s_X12_goesOn _ q40_e hG) (fun r1 h1 hq => ?_)
        obtain ⟨rfl, hq, hG⟩ := hq
        replace hq := hq.symm
        subst hq
        simp only [Option.toList, List.nil_append]
        refine v_aload_n (i := 0) dX12_tellOne_297 rfl rfl ?_
        refine v_iload_n (i := 1) dX12_tellOne_298 rfl rfl ?_
        obtain ⟨q42, q42_e, hF⟩ := Option.bind_eq_some_iff.mp hF
        refine c_X12_300 rfl sh_226 (by exact ltG hG (by decide)) (Nat.le_of_ble_eq_true rfl) dX12_tellOne_299 (s_X12_tellLaw _ q42_e hG) (fun r1 h1 hq => ?_)
        obtain ⟨rfl, hq, hG⟩ := hq
        replace hq := hq.symm
        subst hq
        simp only [Option.toList, List.nil_append]
        refine v_return rfl dX12_tellOne_302 ?_
        obtain rfl := Option.some.inj hF
        exact ⟨rfl, rfl, hG⟩
      · rw [if_neg c39] at hF
        refine v_return rfl dX12_tellOne_292 ?_
        obtain rfl := Option.some.inj hF
        exact ⟨rfl, rfl, hG⟩
    · rw [if_neg c36] at hF
      refine v_aload_n (i := 0) dX12_tellOne_266 rfl rfl ?_
      refine g_X12_20 (q := 229) rfl sh_226 (by exact ltG hG (by decide)) (by exact rG hG r0_226_5) dX12_tellOne_267 ?_
      refine v_aload_n (i := 0) dX12_tellOne_270 rfl rfl ?_
      refine g_X12_218 rfl sh_226 (by exact ltG hG (by decide)) dX12_tellOne_271 ?_
      obtain ⟨k44, hF⟩ := ck_some hF
      refine v_iaload sh_229 (by exact ltG hG (by decide)) (ixO k44) dX12_tellOne_274 ?_
      refine v_bipush (v := 27) dX12_tellOne_275 (by decide) ?_
      refine v_icmp_le 285 dX12_tellOne_277 (by decide) (fun c45 => ?_) (fun c45 => ?_)
      · rw [if_pos c45] at hF
        refine v_aload_n (i := 0) dX12_tellOne_285 rfl rfl ?_
        refine g_X12_215 rfl sh_226 (by exact ltG hG (by decide)) dX12_tellOne_286 ?_
        refine v_if_le 293 dX12_tellOne_289 (by decide) (fun c46 => ?_) (fun c46 => ?_)
        · rw [if_pos c46] at hF
          refine v_aload_n (i := 0) dX12_tellOne_293 rfl rfl ?_
          obtain ⟨q47, q47_e, hF⟩ := Option.bind_eq_some_iff.mp hF
          refine c_X12_236 rfl sh_226 (by exact ltG hG (by decide)) (Nat.le_of_ble_eq_true rfl) dX12_tellOne_294 (s_X12_goesOn _ q47_e hG) (fun r1 h1 hq => ?_)
          obtain ⟨rfl, hq, hG⟩ := hq
          replace hq := hq.symm
          subst hq
          simp only [Option.toList, List.nil_append]
          refine v_aload_n (i := 0) dX12_tellOne_297 rfl rfl ?_
          refine v_iload_n (i := 1) dX12_tellOne_298 rfl rfl ?_
          obtain ⟨q49, q49_e, hF⟩ := Option.bind_eq_some_iff.mp hF
          refine c_X12_300 rfl sh_226 (by exact ltG hG (by decide)) (Nat.le_of_ble_eq_true rfl) dX12_tellOne_299 (s_X12_tellLaw _ q49_e hG) (fun r1 h1 hq => ?_)
          obtain ⟨rfl, hq, hG⟩ := hq
          replace hq := hq.symm
          subst hq
          simp only [Option.toList, List.nil_append]
          refine v_return rfl dX12_tellOne_302 ?_
          obtain rfl := Option.some.inj hF
          exact ⟨rfl, rfl, hG⟩
        · rw [if_neg c46] at hF
          refine v_return rfl dX12_tellOne_292 ?_
          obtain rfl := Option.some.inj hF
          exact ⟨rfl, rfl, hG⟩
      · rw [if_neg c45] at hF
        refine v_aload_n (i := 0) dX12_tellOne_280 rfl rfl ?_
        refine v_iconst (v := 1) dX12_tellOne_281 (by decide) ?_
        obtain ⟨q51, q51_e, hF⟩ := Option.bind_eq_some_iff.mp hF
        refine c_X12_230 rfl sh_226 (by exact ltG hG (by decide)) (Nat.le_of_ble_eq_true rfl) dX12_tellOne_282 (s_X12_fail _ q51_e hG) (fun r1 h1 hq => ?_)
        obtain ⟨rfl, hq, hG⟩ := hq
        replace hq := hq.symm
        subst hq
        simp only [Option.toList, List.nil_append]
        refine v_aload_n (i := 0) dX12_tellOne_285 rfl rfl ?_
        refine g_X12_215 rfl sh_226 (by exact ltG hG (by decide)) dX12_tellOne_286 ?_
        refine v_if_le 293 dX12_tellOne_289 (by decide) (fun c53 => ?_) (fun c53 => ?_)
        · rw [if_pos c53] at hF
          refine v_aload_n (i := 0) dX12_tellOne_293 rfl rfl ?_
          obtain ⟨q54, q54_e, hF⟩ := Option.bind_eq_some_iff.mp hF
          refine c_X12_236 rfl sh_226 (by exact ltG hG (by decide)) (Nat.le_of_ble_eq_true rfl) dX12_tellOne_294 (s_X12_goesOn _ q54_e hG) (fun r1 h1 hq => ?_)
          obtain ⟨rfl, hq, hG⟩ := hq
          replace hq := hq.symm
          subst hq
          simp only [Option.toList, List.nil_append]
          refine v_aload_n (i := 0) dX12_tellOne_297 rfl rfl ?_
          refine v_iload_n (i := 1) dX12_tellOne_298 rfl rfl ?_
          obtain ⟨q56, q56_e, hF⟩ := Option.bind_eq_some_iff.mp hF
          refine c_X12_300 rfl sh_226 (by exact ltG hG (by decide)) (Nat.le_of_ble_eq_true rfl) dX12_tellOne_299 (s_X12_tellLaw _ q56_e hG) (fun r1 h1 hq => ?_)
          obtain ⟨rfl, hq, hG⟩ := hq
          replace hq := hq.symm
          subst hq
          simp only [Option.toList, List.nil_append]
          refine v_return rfl dX12_tellOne_302 ?_
          obtain rfl := Option.some.inj hF
          exact ⟨rfl, rfl, hG⟩
        · rw [if_neg c53] at hF
          refine v_return rfl dX12_tellOne_292 ?_
          obtain rfl := Option.some.inj hF
          exact ⟨rfl, rfl, hG⟩
  rw [if_neg c34] at hF
  by_cases c58 : (hi h 229 (Int32.toNatClampNeg (hi h 226 11))) = 25
  · rw [if_pos c58] at hF
    refine v_tableIn (off := 240) 249 dX12_tellOne_9 (by rw [c58]; decide) (by rw [c58]; decide) (by rw [c58]; decide +kernel) (by decide) ?_
    refine v_aload_n (i := 0) dX12_tellOne_249 rfl rfl ?_
    refine g_X12_20 (q := 229) rfl sh_226 (by exact ltG hG (by decide)) (by exact rG hG r0_226_5) dX12_tellOne_250 ?_
    refine v_aload_n (i := 0) dX12_tellOne_253 rfl rfl ?_
    refine g_X12_218 rfl sh_226 (by exact ltG hG (by decide)) dX12_tellOne_254 ?_
    obtain ⟨k59, hF⟩ := ck_some hF
    refine v_iaload sh_229 (by exact ltG hG (by decide)) (ixO k59) dX12_tellOne_257 ?_
    refine v_bipush (v := 24) dX12_tellOne_258 (by decide) ?_
    refine v_isub dX12_tellOne_260 ?_
    refine v_istore_n (i := 1) dX12_tellOne_261 rfl (by decide) (nlT rfl) ?_
    simp only [List.set_cons_zero, List.set_cons_succ]
    refine v_iload_n (i := 1) dX12_tellOne_262 rfl rfl ?_
    refine v_if_lt 280 dX12_tellOne_263 (by decide) (fun c60 => ?_) (fun c60 => ?_)
    · rw [if_pos c60] at hF
      refine v_aload_n (i := 0) dX12_tellOne_280 rfl rfl ?_
      refine v_iconst (v := 1) dX12_tellOne_281 (by decide) ?_
      obtain ⟨q61, q61_e, hF⟩ := Option.bind_eq_some_iff.mp hF
      refine c_X12_230 rfl sh_226 (by exact ltG hG (by decide)) (Nat.le_of_ble_eq_true rfl) dX12_tellOne_282 (s_X12_fail _ q61_e hG) (fun r1 h1 hq => ?_)
      obtain ⟨rfl, hq, hG⟩ := hq
      replace hq := hq.symm
      subst hq
      simp only [Option.toList, List.nil_append]
      refine v_aload_n (i := 0) dX12_tellOne_285 rfl rfl ?_
      refine g_X12_215 rfl sh_226 (by exact ltG hG (by decide)) dX12_tellOne_286 ?_
      refine v_if_le 293 dX12_tellOne_289 (by decide) (fun c63 => ?_) (fun c63 => ?_)
      · rw [if_pos c63] at hF
        refine v_aload_n (i := 0) dX12_tellOne_293 rfl rfl ?_
        obtain ⟨q64, q64_e, hF⟩ := Option.bind_eq_some_iff.mp hF
        refine c_X12_236 rfl sh_226 (by exact ltG hG (by decide)) (Nat.le_of_ble_eq_true rfl) dX12_tellOne_294 (s_X12_goesOn _ q64_e hG) (fun r1 h1 hq => ?_)
        obtain ⟨rfl, hq, hG⟩ := hq
        replace hq := hq.symm
        subst hq
        simp only [Option.toList, List.nil_append]
        refine v_aload_n (i := 0) dX12_tellOne_297 rfl rfl ?_
        refine v_iload_n (i := 1) dX12_tellOne_298 rfl rfl ?_
        obtain ⟨q66, q66_e, hF⟩ := Option.bind_eq_some_iff.mp hF
        refine c_X12_300 rfl sh_226 (by exact ltG hG (by decide)) (Nat.le_of_ble_eq_true rfl) dX12_tellOne_299 (s_X12_tellLaw _ q66_e hG) (fun r1 h1 hq => ?_)
        obtain ⟨rfl, hq, hG⟩ := hq
        replace hq := hq.symm
        subst hq
        simp only [Option.toList, List.nil_append]
        refine v_return rfl dX12_tellOne_302 ?_
        obtain rfl := Option.some.inj hF
        exact ⟨rfl, rfl, hG⟩
      · rw [if_neg c63] at hF
        refine v_return rfl dX12_tellOne_292 ?_
        obtain rfl := Option.some.inj hF
        exact ⟨rfl, rfl, hG⟩
    · rw [if_neg c60] at hF
      refine v_aload_n (i := 0) dX12_tellOne_266 rfl rfl ?_
      refine g_X12_20 (q := 229) rfl sh_226 (by exact ltG hG (by decide)) (by exact rG hG r0_226_5) dX12_tellOne_267 ?_
      refine v_aload_n (i := 0) dX12_tellOne_270 rfl rfl ?_
      refine g_X12_218 rfl sh_226 (by exact ltG hG (by decide)) dX12_tellOne_271 ?_
      obtain ⟨k68, hF⟩ := ck_some hF
      refine v_iaload sh_229 (by exact ltG hG (by decide)) (ixO k68) dX12_tellOne_274 ?_
      refine v_bipush (v := 27) dX12_tellOne_275 (by decide) ?_
      refine v_icmp_le 285 dX12_tellOne_277 (by decide) (fun c69 => ?_) (fun c69 => ?_)
      · rw [if_pos c69] at hF
        refine v_aload_n (i := 0) dX12_tellOne_285 rfl rfl ?_
        refine g_X12_215 rfl sh_226 (by exact ltG hG (by decide)) dX12_tellOne_286 ?_
        refine v_if_le 293 dX12_tellOne_289 (by decide) (fun c70 => ?_) (fun c70 => ?_)
        · rw [if_pos c70] at hF
          refine v_aload_n (i := 0) dX12_tellOne_293 rfl rfl ?_
          obtain ⟨q71, q71_e, hF⟩ := Option.bind_eq_some_iff.mp hF
          refine c_X12_236 rfl sh_226 (by exact ltG hG (by decide)) (Nat.le_of_ble_eq_true rfl) dX12_tellOne_294 (s_X12_goesOn _ q71_e hG) (fun r1 h1 hq => ?_)
          obtain ⟨rfl, hq, hG⟩ := hq
          replace hq := hq.symm
          subst hq
          simp only [Option.toList, List.nil_append]
          refine v_aload_n (i := 0) dX12_tellOne_297 rfl rfl ?_
          refine v_iload_n (i := 1) dX12_tellOne_298 rfl rfl ?_
          obtain ⟨q73, q73_e, hF⟩ := Option.bind_eq_some_iff.mp hF
          refine c_X12_300 rfl sh_226 (by exact ltG hG (by decide)) (Nat.le_of_ble_eq_true rfl) dX12_tellOne_299 (s_X12_tellLaw _ q73_e hG) (fun r1 h1 hq => ?_)
          obtain ⟨rfl, hq, hG⟩ := hq
          replace hq := hq.symm
          subst hq
          simp only [Option.toList, List.nil_append]
          refine v_return rfl dX12_tellOne_302 ?_
          obtain rfl := Option.some.inj hF
          exact ⟨rfl, rfl, hG⟩
        · rw [if_neg c70] at hF
          refine v_return rfl dX12_tellOne_292 ?_
          obtain rfl := Option.some.inj hF
          exact ⟨rfl, rfl, hG⟩
      · rw [if_neg c69] at hF
        refine v_aload_n (i := 0) dX12_tellOne_280 rfl rfl ?_
        refine v_iconst (v := 1) dX12_tellOne_281 (by decide) ?_
        obtain ⟨q75, q75_e, hF⟩ := Option.bind_eq_some_iff.mp hF
        refine c_X12_230 rfl sh_226 (by exact ltG hG (by decide)) (Nat.le_of_ble_eq_true rfl) dX12_tellOne_282 (s_X12_fail _ q75_e hG) (fun r1 h1 hq => ?_)
        obtain ⟨rfl, hq, hG⟩ := hq
        replace hq := hq.symm
        subst hq
        simp only [Option.toList, List.nil_append]
        refine v_aload_n (i := 0) dX12_tellOne_285 rfl rfl ?_
        refine g_X12_215 rfl sh_226 (by exact ltG hG (by decide)) dX12_tellOne_286 ?_
        refine v_if_le 293 dX12_tellOne_289 (by decide) (fun c77 => ?_) (fun c77 => ?_)
        · rw [if_pos c77] at hF
          refine v_aload_n (i := 0) dX12_tellOne_293 rfl rfl ?_
          obtain ⟨q78, q78_e, hF⟩ := Option.bind_eq_some_iff.mp hF
          refine c_X12_236 rfl sh_226 (by exact ltG hG (by decide)) (Nat.le_of_ble_eq_true rfl) dX12_tellOne_294 (s_X12_goesOn _ q78_e hG) (fun r1 h1 hq => ?_)
          obtain ⟨rfl, hq, hG⟩ := hq
          replace hq := hq.symm
          subst hq
          simp only [Option.toList, List.nil_append]
          refine v_aload_n (i := 0) dX12_tellOne_297 rfl rfl ?_
          refine v_iload_n (i := 1) dX12_tellOne_298 rfl rfl ?_
          obtain ⟨q80, q80_e, hF⟩ := Option.bind_eq_some_iff.mp hF
          refine c_X12_300 rfl sh_226 (by exact ltG hG (by decide)) (Nat.le_of_ble_eq_true rfl) dX12_tellOne_299 (s_X12_tellLaw _ q80_e hG) (fun r1 h1 hq => ?_)
          obtain ⟨rfl, hq, hG⟩ := hq
          replace hq := hq.symm
          subst hq
          simp only [Option.toList, List.nil_append]
          refine v_return rfl dX12_tellOne_302 ?_
          obtain rfl := Option.some.inj hF
          exact ⟨rfl, rfl, hG⟩
        · rw [if_neg c77] at hF
          refine v_return rfl dX12_tellOne_292 ?_
          obtain rfl := Option.some.inj hF
          exact ⟨rfl, rfl, hG⟩
  rw [if_neg c58] at hF
  by_cases c82 : (hi h 229 (Int32.toNatClampNeg (hi h 226 11))) = 26
  · rw [if_pos c82] at hF
    refine v_tableIn (off := 240) 249 dX12_tellOne_9 (by rw [c82]; decide) (by rw [c82]; decide) (by rw [c82]; decide +kernel) (by decide) ?_
    refine v_aload_n (i := 0) dX12_tellOne_249 rfl rfl ?_
    refine g_X12_20 (q := 229) rfl sh_226 (by exact ltG hG (by decide)) (by exact rG hG r0_226_5) dX12_tellOne_250 ?_
    refine v_aload_n (i := 0) dX12_tellOne_253 rfl rfl ?_
    refine g_X12_218 rfl sh_226 (by exact ltG hG (by decide)) dX12_tellOne_254 ?_
    obtain ⟨k83, hF⟩ := ck_some hF
    refine v_iaload sh_229 (by exact ltG hG (by decide)) (ixO k83) dX12_tellOne_257 ?_
    refine v_bipush (v := 24) dX12_tellOne_258 (by decide) ?_
    refine v_isub dX12_tellOne_260 ?_
    refine v_istore_n (i := 1) dX12_tellOne_261 rfl (by decide) (nlT rfl) ?_
    simp only [List.set_cons_zero, List.set_cons_succ]
    refine v_iload_n (i := 1) dX12_tellOne_262 rfl rfl ?_
    refine v_if_lt 280 dX12_tellOne_263 (by decide) (fun c84 => ?_) (fun c84 => ?_)
    · rw [if_pos c84] at hF
      refine v_aload_n (i := 0) dX12_tellOne_280 rfl rfl ?_
      refine v_iconst (v := 1) dX12_tellOne_281 (by decide) ?_
      obtain ⟨q85, q85_e, hF⟩ := Option.bind_eq_some_iff.mp hF
      refine c_X12_230 rfl sh_226 (by exact ltG hG (by decide)) (Nat.le_of_ble_eq_true rfl) dX12_tellOne_282 (s_X12_fail _ q85_e hG) (fun r1 h1 hq => ?_)
      obtain ⟨rfl, hq, hG⟩ := hq
      replace hq := hq.symm
      subst hq
      simp only [Option.toList, List.nil_append]
      refine v_aload_n (i := 0) dX12_tellOne_285 rfl rfl ?_
      refine g_X12_215 rfl sh_226 (by exact ltG hG (by decide)) dX12_tellOne_286 ?_
      refine v_if_le 293 dX12_tellOne_289 (by decide) (fun c87 => ?_) (fun c87 => ?_)
      · rw [if_pos c87] at hF
        refine v_aload_n (i := 0) dX12_tellOne_293 rfl rfl ?_
        obtain ⟨q88, q88_e, hF⟩ := Option.bind_eq_some_iff.mp hF
        refine c_X12_236 rfl sh_226 (by exact ltG hG (by decide)) (Nat.le_of_ble_eq_true rfl) dX12_tellOne_294 (s_X12_goesOn _ q88_e hG) (fun r1 h1 hq => ?_)
        obtain ⟨rfl, hq, hG⟩ := hq
        replace hq := hq.symm
        subst hq
        simp only [Option.toList, List.nil_append]
        refine v_aload_n (i := 0) dX12_tellOne_297 rfl rfl ?_
        refine v_iload_n (i := 1) dX12_tellOne_298 rfl rfl ?_
        obtain ⟨q90, q90_e, hF⟩ := Option.bind_eq_some_iff.mp hF
        refine c_X12_300 rfl sh_226 (by exact ltG hG (by decide)) (Nat.le_of_ble_eq_true rfl) dX12_tellOne_299 (s_X12_tellLaw _ q90_e hG) (fun r1 h1 hq => ?_)
        obtain ⟨rfl, hq, hG⟩ := hq
        replace hq := hq.symm
        subst hq
        simp only [Option.toList, List.nil_append]
        refine v_return rfl dX12_tellOne_302 ?_
        obtain rfl := Option.some.inj hF
        exact ⟨rfl, rfl, hG⟩
      · rw [if_neg c87] at hF
        refine v_return rfl dX12_tellOne_292 ?_
        obtain rfl := Option.some.inj hF
        exact ⟨rfl, rfl, hG⟩
    · rw [if_neg c84] at hF
      refine v_aload_n (i := 0) dX12_tellOne_266 rfl rfl ?_
      refine g_X12_20 (q := 229) rfl sh_226 (by exact ltG hG (by decide)) (by exact rG hG r0_226_5) dX12_tellOne_267 ?_
      refine v_aload_n (i := 0) dX12_tellOne_270 rfl rfl ?_
      refine g_X12_218 rfl sh_226 (by exact ltG hG (by decide)) dX12_tellOne_271 ?_
      obtain ⟨k92, hF⟩ := ck_some hF
      refine v_iaload sh_229 (by exact ltG hG (by decide)) (ixO k92) dX12_tellOne_274 ?_
      refine v_bipush (v := 27) dX12_tellOne_275 (by decide) ?_
      refine v_icmp_le 285 dX12_tellOne_277 (by decide) (fun c93 => ?_) (fun c93 => ?_)
      · rw [if_pos c93] at hF
        refine v_aload_n (i := 0) dX12_tellOne_285 rfl rfl ?_
        refine g_X12_215 rfl sh_226 (by exact ltG hG (by decide)) dX12_tellOne_286 ?_
        refine v_if_le 293 dX12_tellOne_289 (by decide) (fun c94 => ?_) (fun c94 => ?_)
        · rw [if_pos c94] at hF
          refine v_aload_n (i := 0) dX12_tellOne_293 rfl rfl ?_
          obtain ⟨q95, q95_e, hF⟩ := Option.bind_eq_some_iff.mp hF
          refine c_X12_236 rfl sh_226 (by exact ltG hG (by decide)) (Nat.le_of_ble_eq_true rfl) dX12_tellOne_294 (s_X12_goesOn _ q95_e hG) (fun r1 h1 hq => ?_)
          obtain ⟨rfl, hq, hG⟩ := hq
          replace hq := hq.symm
          subst hq
          simp only [Option.toList, List.nil_append]
          refine v_aload_n (i := 0) dX12_tellOne_297 rfl rfl ?_
          refine v_iload_n (i := 1) dX12_tellOne_298 rfl rfl ?_
          obtain ⟨q97, q97_e, hF⟩ := Option.bind_eq_some_iff.mp hF
          refine c_X12_300 rfl sh_226 (by exact ltG hG (by decide)) (Nat.le_of_ble_eq_true rfl) dX12_tellOne_299 (s_X12_tellLaw _ q97_e hG) (fun r1 h1 hq => ?_)
          obtain ⟨rfl, hq, hG⟩ := hq
          replace hq := hq.symm
          subst hq
          simp only [Option.toList, List.nil_append]
          refine v_return rfl dX12_tellOne_302 ?_
          obtain rfl := Option.some.inj hF
          exact ⟨rfl, rfl, hG⟩
        · rw [if_neg c94] at hF
          refine v_return rfl dX12_tellOne_292 ?_
          obtain rfl := Option.some.inj hF
          exact ⟨rfl, rfl, hG⟩
      · rw [if_neg c93] at hF
        refine v_aload_n (i := 0) dX12_tellOne_280 rfl rfl ?_
        refine v_iconst (v := 1) dX12_tellOne_281 (by decide) ?_
        obtain ⟨q99, q99_e, hF⟩ := Option.bind_eq_some_iff.mp hF
        refine c_X12_230 rfl sh_226 (by exact ltG hG (by decide)) (Nat.le_of_ble_eq_true rfl) dX12_tellOne_282 (s_X12_fail _ q99_e hG) (fun r1 h1 hq => ?_)
        obtain ⟨rfl, hq, hG⟩ := hq
        replace hq := hq.symm
        subst hq
        simp only [Option.toList, List.nil_append]
        refine v_aload_n (i := 0) dX12_tellOne_285 rfl rfl ?_
        refine g_X12_215 rfl sh_226 (by exact ltG hG (by decide)) dX12_tellOne_286 ?_
        refine v_if_le 293 dX12_tellOne_289 (by decide) (fun c101 => ?_) (fun c101 => ?_)
        · rw [if_pos c101] at hF
          refine v_aload_n (i := 0) dX12_tellOne_293 rfl rfl ?_
          obtain ⟨q102, q102_e, hF⟩ := Option.bind_eq_some_iff.mp hF
          refine c_X12_236 rfl sh_226 (by exact ltG hG (by decide)) (Nat.le_of_ble_eq_true rfl) dX12_tellOne_294 (s_X12_goesOn _ q102_e hG) (fun r1 h1 hq => ?_)
          obtain ⟨rfl, hq, hG⟩ := hq
          replace hq := hq.symm
          subst hq
          simp only [Option.toList, List.nil_append]
          refine v_aload_n (i := 0) dX12_tellOne_297 rfl rfl ?_
          refine v_iload_n (i := 1) dX12_tellOne_298 rfl rfl ?_
          obtain ⟨q104, q104_e, hF⟩ := Option.bind_eq_some_iff.mp hF
          refine c_X12_300 rfl sh_226 (by exact ltG hG (by decide)) (Nat.le_of_ble_eq_true rfl) dX12_tellOne_299 (s_X12_tellLaw _ q104_e hG) (fun r1 h1 hq => ?_)
          obtain ⟨rfl, hq, hG⟩ := hq
          replace hq := hq.symm
          subst hq
          simp only [Option.toList, List.nil_append]
          refine v_return rfl dX12_tellOne_302 ?_
          obtain rfl := Option.some.inj hF
          exact ⟨rfl, rfl, hG⟩
        · rw [if_neg c101] at hF
          refine v_return rfl dX12_tellOne_292 ?_
          obtain rfl := Option.some.inj hF
          exact ⟨rfl, rfl, hG⟩
  rw [if_neg c82] at hF
  by_cases c106 : (hi h 229 (Int32.toNatClampNeg (hi h 226 11))) = 27
  · rw [if_pos c106] at hF
    refine v_tableIn (off := 240) 249 dX12_tellOne_9 (by rw [c106]; decide) (by rw [c106]; decide) (by rw [c106]; decide +kernel) (by decide) ?_
    refine v_aload_n (i := 0) dX12_tellOne_249 rfl rfl ?_
    refine g_X12_20 (q := 229) rfl sh_226 (by exact ltG hG (by decide)) (by exact rG hG r0_226_5) dX12_tellOne_250 ?_
    refine v_aload_n (i := 0) dX12_tellOne_253 rfl rfl ?_
    refine g_X12_218 rfl sh_226 (by exact ltG hG (by decide)) dX12_tellOne_254 ?_
    obtain ⟨k107, hF⟩ := ck_some hF
    refine v_iaload sh_229 (by exact ltG hG (by decide)) (ixO k107) dX12_tellOne_257 ?_
    refine v_bipush (v := 24) dX12_tellOne_258 (by decide) ?_
    refine v_isub dX12_tellOne_260 ?_
    refine v_istore_n (i := 1) dX12_tellOne_261 rfl (by decide) (nlT rfl) ?_
    simp only [List.set_cons_zero, List.set_cons_succ]
    refine v_iload_n (i := 1) dX12_tellOne_262 rfl rfl ?_
    refine v_if_lt 280 dX12_tellOne_263 (by decide) (fun c108 => ?_) (fun c108 => ?_)
    · rw [if_pos c108] at hF
      refine v_aload_n (i := 0) dX12_tellOne_280 rfl rfl ?_
      refine v_iconst (v := 1) dX12_tellOne_281 (by decide) ?_
      obtain ⟨q109, q109_e, hF⟩ := Option.bind_eq_some_iff.mp hF
      refine c_X12_230 rfl sh_226 (by exact ltG hG (by decide)) (Nat.le_of_ble_eq_true rfl) dX12_tellOne_282 (s_X12_fail _ q109_e hG) (fun r1 h1 hq => ?_)
      obtain ⟨rfl, hq, hG⟩ := hq
      replace hq := hq.symm
      subst hq
      simp only [Option.toList, List.nil_append]
      refine v_aload_n (i := 0) dX12_tellOne_285 rfl rfl ?_
      refine g_X12_215 rfl sh_226 (by exact ltG hG (by decide)) dX12_tellOne_286 ?_
      refine v_if_le 293 dX12_tellOne_289 (by decide) (fun c111 => ?_) (fun c111 => ?_)
      · rw [if_pos c111] at hF
        refine v_aload_n (i := 0) dX12_tellOne_293 rfl rfl ?_
        obtain ⟨q112, q112_e, hF⟩ := Option.bind_eq_some_iff.mp hF
        refine c_X12_236 rfl sh_226 (by exact ltG hG (by decide)) (Nat.le_of_ble_eq_true rfl) dX12_tellOne_294 (s_X12_goesOn _ q112_e hG) (fun r1 h1 hq => ?_)
        obtain ⟨rfl, hq, hG⟩ := hq
        replace hq := hq.symm
        subst hq
        simp only [Option.toList, List.nil_append]
        refine v_aload_n (i := 0) dX12_tellOne_297 rfl rfl ?_
        refine v_iload_n (i := 1) dX12_tellOne_298 rfl rfl ?_
        obtain ⟨q114, q114_e, hF⟩ := Option.bind_eq_some_iff.mp hF
        refine c_X12_300 rfl sh_226 (by exact ltG hG (by decide)) (Nat.le_of_ble_eq_true rfl) dX12_tellOne_299 (s_X12_tellLaw _ q114_e hG) (fun r1 h1 hq => ?_)
        obtain ⟨rfl, hq, hG⟩ := hq
        replace hq := hq.symm
        subst hq
        simp only [Option.toList, List.nil_append]
        refine v_return rfl dX12_tellOne_302 ?_
        obtain rfl := Option.some.inj hF
        exact ⟨rfl, rfl, hG⟩
      · rw [if_neg c111] at hF
        refine v_return rfl dX12_tellOne_292 ?_
        obtain rfl := Option.some.inj hF
        exact ⟨rfl, rfl, hG⟩
    · rw [if_neg c108] at hF
      refine v_aload_n (i := 0) dX12_tellOne_266 rfl rfl ?_
      refine g_X12_20 (q := 229) rfl sh_226 (by exact ltG hG (by decide)) (by exact rG hG r0_226_5) dX12_tellOne_267 ?_
      refine v_aload_n (i := 0) dX12_tellOne_270 rfl rfl ?_
      refine g_X12_218 rfl sh_226 (by exact ltG hG (by decide)) dX12_tellOne_271 ?_
      obtain ⟨k116, hF⟩ := ck_some hF
      refine v_iaload sh_229 (by exact ltG hG (by decide)) (ixO k116) dX12_tellOne_274 ?_
      refine v_bipush (v := 27) dX12_tellOne_275 (by decide) ?_
      refine v_icmp_le 285 dX12_tellOne_277 (by decide) (fun c117 => ?_) (fun c117 => ?_)
      · rw [if_pos c117] at hF
        refine v_aload_n (i := 0) dX12_tellOne_285 rfl rfl ?_
        refine g_X12_215 rfl sh_226 (by exact ltG hG (by decide)) dX12_tellOne_286 ?_
        refine v_if_le 293 dX12_tellOne_289 (by decide) (fun c118 => ?_) (fun c118 => ?_)
        · rw [if_pos c118] at hF
          refine v_aload_n (i := 0) dX12_tellOne_293 rfl rfl ?_
          obtain ⟨q119, q119_e, hF⟩ := Option.bind_eq_some_iff.mp hF
          refine c_X12_236 rfl sh_226 (by exact ltG hG (by decide)) (Nat.le_of_ble_eq_true rfl) dX12_tellOne_294 (s_X12_goesOn _ q119_e hG) (fun r1 h1 hq => ?_)
          obtain ⟨rfl, hq, hG⟩ := hq
          replace hq := hq.symm
          subst hq
          simp only [Option.toList, List.nil_append]
          refine v_aload_n (i := 0) dX12_tellOne_297 rfl rfl ?_
          refine v_iload_n (i := 1) dX12_tellOne_298 rfl rfl ?_
          obtain ⟨q121, q121_e, hF⟩ := Option.bind_eq_some_iff.mp hF
          refine c_X12_300 rfl sh_226 (by exact ltG hG (by decide)) (Nat.le_of_ble_eq_true rfl) dX12_tellOne_299 (s_X12_tellLaw _ q121_e hG) (fun r1 h1 hq => ?_)
          obtain ⟨rfl, hq, hG⟩ := hq
          replace hq := hq.symm
          subst hq
          simp only [Option.toList, List.nil_append]
          refine v_return rfl dX12_tellOne_302 ?_
          obtain rfl := Option.some.inj hF
          exact ⟨rfl, rfl, hG⟩
        · rw [if_neg c118] at hF
          refine v_return rfl dX12_tellOne_292 ?_
          obtain rfl := Option.some.inj hF
          exact ⟨rfl, rfl, hG⟩
      · rw [if_neg c117] at hF
        refine v_aload_n (i := 0) dX12_tellOne_280 rfl rfl ?_
        refine v_iconst (v := 1) dX12_tellOne_281 (by decide) ?_
        obtain ⟨q123, q123_e, hF⟩ := Option.bind_eq_some_iff.mp hF
        refine c_X12_230 rfl sh_226 (by exact ltG hG (by decide)) (Nat.le_of_ble_eq_true rfl) dX12_tellOne_282 (s_X12_fail _ q123_e hG) (fun r1 h1 hq => ?_)
        obtain ⟨rfl, hq, hG⟩ := hq
        replace hq := hq.symm
        subst hq
        simp only [Option.toList, List.nil_append]
        refine v_aload_n (i := 0) dX12_tellOne_285 rfl rfl ?_
        refine g_X12_215 rfl sh_226 (by exact ltG hG (by decide)) dX12_tellOne_286 ?_
        refine v_if_le 293 dX12_tellOne_289 (by decide) (fun c125 => ?_) (fun c125 => ?_)
        · rw [if_pos c125] at hF
          refine v_aload_n (i := 0) dX12_tellOne_293 rfl rfl ?_
          obtain ⟨q126, q126_e, hF⟩ := Option.bind_eq_some_iff.mp hF
          refine c_X12_236 rfl sh_226 (by exact ltG hG (by decide)) (Nat.le_of_ble_eq_true rfl) dX12_tellOne_294 (s_X12_goesOn _ q126_e hG) (fun r1 h1 hq => ?_)
          obtain ⟨rfl, hq, hG⟩ := hq
          replace hq := hq.symm
          subst hq
          simp only [Option.toList, List.nil_append]
          refine v_aload_n (i := 0) dX12_tellOne_297 rfl rfl ?_
          refine v_iload_n (i := 1) dX12_tellOne_298 rfl rfl ?_
          obtain ⟨q128, q128_e, hF⟩ := Option.bind_eq_some_iff.mp hF
          refine c_X12_300 rfl sh_226 (by exact ltG hG (by decide)) (Nat.le_of_ble_eq_true rfl) dX12_tellOne_299 (s_X12_tellLaw _ q128_e hG) (fun r1 h1 hq => ?_)
          obtain ⟨rfl, hq, hG⟩ := hq
          replace hq := hq.symm
          subst hq
          simp only [Option.toList, List.nil_append]
          refine v_return rfl dX12_tellOne_302 ?_
          obtain rfl := Option.some.inj hF
          exact ⟨rfl, rfl, hG⟩
        · rw [if_neg c125] at hF
          refine v_return rfl dX12_tellOne_292 ?_
          obtain rfl := Option.some.inj hF
          exact ⟨rfl, rfl, hG⟩
  rw [if_neg c106] at hF
  by_cases c130 : (hi h 229 (Int32.toNatClampNeg (hi h 226 11))) = 28
  · rw [if_pos c130] at hF
    refine v_tableIn (off := 183) 192 dX12_tellOne_9 (by rw [c130]; decide) (by rw [c130]; decide) (by rw [c130]; decide +kernel) (by decide) ?_
    refine v_aload_n (i := 0) dX12_tellOne_192 rfl rfl ?_
    obtain ⟨q131, q131_e, hF⟩ := Option.bind_eq_some_iff.mp hF
    refine c_X12_236 rfl sh_226 (by exact ltG hG (by decide)) (Nat.le_of_ble_eq_true rfl) dX12_tellOne_193 (s_X12_goesOn _ q131_e hG) (fun r1 h1 hq => ?_)
    obtain ⟨rfl, hq, hG⟩ := hq
    replace hq := hq.symm
    subst hq
    simp only [Option.toList, List.nil_append]
    refine v_aload_n (i := 0) dX12_tellOne_196 rfl rfl ?_
    refine g_X12_82 (q := 248) rfl sh_226 (by exact ltG hG (by decide)) (by exact rG hG r0_226_35) dX12_tellOne_197 ?_
    refine v_aload_n (i := 0) dX12_tellOne_200 rfl rfl ?_
    refine g_X12_248 rfl sh_226 (by exact ltG hG (by decide)) dX12_tellOne_201 ?_
    refine v_aload_n (i := 0) dX12_tellOne_204 rfl rfl ?_
    refine v_iconst (v := 0) dX12_tellOne_205 (by decide) ?_
    refine v_bipush (v := 100) dX12_tellOne_206 (by decide) ?_
    obtain ⟨q133, q133_e, hF⟩ := Option.bind_eq_some_iff.mp hF
    refine c_X12_281 rfl sh_226 (by exact ltG hG (by decide)) (Nat.le_of_ble_eq_true rfl) dX12_tellOne_208 (s_X12_bounded _ q133_e hG) (fun r1 h1 hq => ?_)
    obtain ⟨rfl, hq, hG⟩ := hq
    replace hq := hq.symm
    subst hq
    show V _ _ _ _ (_ :: _) _ _
    obtain ⟨k135, hF⟩ := ck_some hF
    refine v_iastore sh_248 (by exact ltG hG (by decide)) (ixO k135) dX12_tellOne_211 ?_
    refine v_aload_n (i := 0) dX12_tellOne_212 rfl rfl ?_
    refine v_iconst (v := 4) dX12_tellOne_213 (by decide) ?_
    obtain ⟨q136, q136_e, hF⟩ := Option.bind_eq_some_iff.mp hF
    refine c_X12_285 rfl sh_226 (by exact ltG hG (by decide)) (Nat.le_of_ble_eq_true rfl) dX12_tellOne_214 (s_X12_must _ q136_e hG) (fun r1 h1 hq => ?_)
    obtain ⟨rfl, hq, hG⟩ := hq
    replace hq := hq.symm
    subst hq
    simp only [Option.toList, List.nil_append]
    refine v_goto 302 dX12_tellOne_217 (by decide) ?_
    refine v_return rfl dX12_tellOne_302 ?_
    obtain rfl := Option.some.inj hF
    exact ⟨rfl, rfl, hG⟩
  rw [if_neg c130] at hF
  by_cases c138 : (hi h 229 (Int32.toNatClampNeg (hi h 226 11))) = 29
  · rw [if_pos c138] at hF
    refine v_tableIn (off := 211) 220 dX12_tellOne_9 (by rw [c138]; decide) (by rw [c138]; decide) (by rw [c138]; decide +kernel) (by decide) ?_
    refine v_aload_n (i := 0) dX12_tellOne_220 rfl rfl ?_
    obtain ⟨q139, q139_e, hF⟩ := Option.bind_eq_some_iff.mp hF
    refine c_X12_236 rfl sh_226 (by exact ltG hG (by decide)) (Nat.le_of_ble_eq_true rfl) dX12_tellOne_221 (s_X12_goesOn _ q139_e hG) (fun r1 h1 hq => ?_)
    obtain ⟨rfl, hq, hG⟩ := hq
    replace hq := hq.symm
    subst hq
    simp only [Option.toList, List.nil_append]
    refine v_aload_n (i := 0) dX12_tellOne_224 rfl rfl ?_
    refine g_X12_85 (q := 249) rfl sh_226 (by exact ltG hG (by decide)) (by exact rG hG r0_226_36) dX12_tellOne_225 ?_
    refine v_aload_n (i := 0) dX12_tellOne_228 rfl rfl ?_
    refine g_X12_248 rfl sh_226 (by exact ltG hG (by decide)) dX12_tellOne_229 ?_
    refine v_aload_n (i := 0) dX12_tellOne_232 rfl rfl ?_
    refine v_iconst (v := 0) dX12_tellOne_233 (by decide) ?_
    refine v_sipush (v := 9999) dX12_tellOne_234 (by decide) ?_
    obtain ⟨q141, q141_e, hF⟩ := Option.bind_eq_some_iff.mp hF
    refine c_X12_281 rfl sh_226 (by exact ltG hG (by decide)) (Nat.le_of_ble_eq_true rfl) dX12_tellOne_237 (s_X12_bounded _ q141_e hG) (fun r1 h1 hq => ?_)
    obtain ⟨rfl, hq, hG⟩ := hq
    replace hq := hq.symm
    subst hq
    show V _ _ _ _ (_ :: _) _ _
    obtain ⟨k143, hF⟩ := ck_some hF
    refine v_iastore sh_249 (by exact ltG hG (by decide)) (ixO k143) dX12_tellOne_240 ?_
    refine v_aload_n (i := 0) dX12_tellOne_241 rfl rfl ?_
    refine v_iconst (v := 4) dX12_tellOne_242 (by decide) ?_
    obtain ⟨q144, q144_e, hF⟩ := Option.bind_eq_some_iff.mp hF
    refine c_X12_285 rfl sh_226 (by exact ltG hG (by decide)) (Nat.le_of_ble_eq_true rfl) dX12_tellOne_243 (s_X12_must _ q144_e hG) (fun r1 h1 hq => ?_)
    obtain ⟨rfl, hq, hG⟩ := hq
    replace hq := hq.symm
    subst hq
    simp only [Option.toList, List.nil_append]
    refine v_goto 302 dX12_tellOne_246 (by decide) ?_
    refine v_return rfl dX12_tellOne_302 ?_
    obtain rfl := Option.some.inj hF
    exact ⟨rfl, rfl, hG⟩
  rw [if_neg c138] at hF
  have e_c2 : ¬ ((hi h 229 (Int32.toNatClampNeg (hi h 226 11))) : Int32).toInt = 20 := fun q => c2 (Int32.toInt_inj.mp (q.trans (by decide)))
  have e_c13 : ¬ ((hi h 229 (Int32.toNatClampNeg (hi h 226 11))) : Int32).toInt = 21 := fun q => c13 (Int32.toInt_inj.mp (q.trans (by decide)))
  have e_c20 : ¬ ((hi h 229 (Int32.toNatClampNeg (hi h 226 11))) : Int32).toInt = 22 := fun q => c20 (Int32.toInt_inj.mp (q.trans (by decide)))
  have e_c27 : ¬ ((hi h 229 (Int32.toNatClampNeg (hi h 226 11))) : Int32).toInt = 23 := fun q => c27 (Int32.toInt_inj.mp (q.trans (by decide)))
  have e_c34 : ¬ ((hi h 229 (Int32.toNatClampNeg (hi h 226 11))) : Int32).toInt = 24 := fun q => c34 (Int32.toInt_inj.mp (q.trans (by decide)))
  have e_c58 : ¬ ((hi h 229 (Int32.toNatClampNeg (hi h 226 11))) : Int32).toInt = 25 := fun q => c58 (Int32.toInt_inj.mp (q.trans (by decide)))
  have e_c82 : ¬ ((hi h 229 (Int32.toNatClampNeg (hi h 226 11))) : Int32).toInt = 26 := fun q => c82 (Int32.toInt_inj.mp (q.trans (by decide)))
  have e_c106 : ¬ ((hi h 229 (Int32.toNatClampNeg (hi h 226 11))) : Int32).toInt = 27 := fun q => c106 (Int32.toInt_inj.mp (q.trans (by decide)))
  have e_c130 : ¬ ((hi h 229 (Int32.toNatClampNeg (hi h 226 11))) : Int32).toInt = 28 := fun q => c130 (Int32.toInt_inj.mp (q.trans (by decide)))
  have e_c138 : ¬ ((hi h 229 (Int32.toNatClampNeg (hi h 226 11))) : Int32).toInt = 29 := fun q => c138 (Int32.toInt_inj.mp (q.trans (by decide)))
  refine v_tableOut 249 dX12_tellOne_9 (by omega) (by decide) ?_
  refine v_aload_n (i := 0) dX12_tellOne_249 rfl rfl ?_
  refine g_X12_20 (q := 229) rfl sh_226 (by exact ltG hG (by decide)) (by exact rG hG r0_226_5) dX12_tellOne_250 ?_
  refine v_aload_n (i := 0) dX12_tellOne_253 rfl rfl ?_
  refine g_X12_218 rfl sh_226 (by exact ltG hG (by decide)) dX12_tellOne_254 ?_
  obtain ⟨k146, hF⟩ := ck_some hF
  refine v_iaload sh_229 (by exact ltG hG (by decide)) (ixO k146) dX12_tellOne_257 ?_
  refine v_bipush (v := 24) dX12_tellOne_258 (by decide) ?_
  refine v_isub dX12_tellOne_260 ?_
  refine v_istore_n (i := 1) dX12_tellOne_261 rfl (by decide) (nlT rfl) ?_
  simp only [List.set_cons_zero, List.set_cons_succ]
  refine v_iload_n (i := 1) dX12_tellOne_262 rfl rfl ?_
  refine v_if_lt 280 dX12_tellOne_263 (by decide) (fun c147 => ?_) (fun c147 => ?_)
  · rw [if_pos c147] at hF
    refine v_aload_n (i := 0) dX12_tellOne_280 rfl rfl ?_
    refine v_iconst (v := 1) dX12_tellOne_281 (by decide) ?_
    obtain ⟨q148, q148_e, hF⟩ := Option.bind_eq_some_iff.mp hF
    refine c_X12_230 rfl sh_226 (by exact ltG hG (by decide)) (Nat.le_of_ble_eq_true rfl) dX12_tellOne_282 (s_X12_fail _ q148_e hG) (fun r1 h1 hq => ?_)
    obtain ⟨rfl, hq, hG⟩ := hq
    replace hq := hq.symm
    subst hq
    simp only [Option.toList, List.nil_append]
    refine v_aload_n (i := 0) dX12_tellOne_285 rfl rfl ?_
    refine g_X12_215 rfl sh_226 (by exact ltG hG (by decide)) dX12_tellOne_286 ?_
    refine v_if_le 293 dX12_tellOne_289 (by decide) (fun c150 => ?_) (fun c150 => ?_)
    · rw [if_pos c150] at hF
      refine v_aload_n (i := 0) dX12_tellOne_293 rfl rfl ?_
      obtain ⟨q151, q151_e, hF⟩ := Option.bind_eq_some_iff.mp hF
      refine c_X12_236 rfl sh_226 (by exact ltG hG (by decide)) (Nat.le_of_ble_eq_true rfl) dX12_tellOne_294 (s_X12_goesOn _ q151_e hG) (fun r1 h1 hq => ?_)
      obtain ⟨rfl, hq, hG⟩ := hq
      replace hq := hq.symm
      subst hq
      simp only [Option.toList, List.nil_append]
      refine v_aload_n (i := 0) dX12_tellOne_297 rfl rfl ?_
      refine v_iload_n (i := 1) dX12_tellOne_298 rfl rfl ?_
      obtain ⟨q153, q153_e, hF⟩ := Option.bind_eq_some_iff.mp hF
      refine c_X12_300 rfl sh_226 (by exact ltG hG (by decide)) (Nat.le_of_ble_eq_true rfl) dX12_tellOne_299 (s_X12_tellLaw _ q153_e hG) (fun r1 h1 hq => ?_)
      obtain ⟨rfl, hq, hG⟩ := hq
      replace hq := hq.symm
      subst hq
      simp only [Option.toList, List.nil_append]
      refine v_return rfl dX12_tellOne_302 ?_
      obtain rfl := Option.some.inj hF
      exact ⟨rfl, rfl, hG⟩
    · rw [if_neg c150] at hF
      refine v_return rfl dX12_tellOne_292 ?_
      obtain rfl := Option.some.inj hF
      exact ⟨rfl, rfl, hG⟩
  · rw [if_neg c147] at hF
    refine v_aload_n (i := 0) dX12_tellOne_266 rfl rfl ?_
    refine g_X12_20 (q := 229) rfl sh_226 (by exact ltG hG (by decide)) (by exact rG hG r0_226_5) dX12_tellOne_267 ?_
    refine v_aload_n (i := 0) dX12_tellOne_270 rfl rfl ?_
    refine g_X12_218 rfl sh_226 (by exact ltG hG (by decide)) dX12_tellOne_271 ?_
    obtain ⟨k155, hF⟩ := ck_some hF
    refine v_iaload sh_229 (by exact ltG hG (by decide)) (ixO k155) dX12_tellOne_274 ?_
    refine v_bipush (v := 27) dX12_tellOne_275 (by decide) ?_
    refine v_icmp_le 285 dX12_tellOne_277 (by decide) (fun c156 => ?_) (fun c156 => ?_)
    · rw [if_pos c156] at hF
      refine v_aload_n (i := 0) dX12_tellOne_285 rfl rfl ?_
      refine g_X12_215 rfl sh_226 (by exact ltG hG (by decide)) dX12_tellOne_286 ?_
      refine v_if_le 293 dX12_tellOne_289 (by decide) (fun c157 => ?_) (fun c157 => ?_)
      · rw [if_pos c157] at hF
        refine v_aload_n (i := 0) dX12_tellOne_293 rfl rfl ?_
        obtain ⟨q158, q158_e, hF⟩ := Option.bind_eq_some_iff.mp hF
        refine c_X12_236 rfl sh_226 (by exact ltG hG (by decide)) (Nat.le_of_ble_eq_true rfl) dX12_tellOne_294 (s_X12_goesOn _ q158_e hG) (fun r1 h1 hq => ?_)
        obtain ⟨rfl, hq, hG⟩ := hq
        replace hq := hq.symm
        subst hq
        simp only [Option.toList, List.nil_append]
        refine v_aload_n (i := 0) dX12_tellOne_297 rfl rfl ?_
        refine v_iload_n (i := 1) dX12_tellOne_298 rfl rfl ?_
        obtain ⟨q160, q160_e, hF⟩ := Option.bind_eq_some_iff.mp hF
        refine c_X12_300 rfl sh_226 (by exact ltG hG (by decide)) (Nat.le_of_ble_eq_true rfl) dX12_tellOne_299 (s_X12_tellLaw _ q160_e hG) (fun r1 h1 hq => ?_)
        obtain ⟨rfl, hq, hG⟩ := hq
        replace hq := hq.symm
        subst hq
        simp only [Option.toList, List.nil_append]
        refine v_return rfl dX12_tellOne_302 ?_
        obtain rfl := Option.some.inj hF
        exact ⟨rfl, rfl, hG⟩
      · rw [if_neg c157] at hF
        refine v_return rfl dX12_tellOne_292 ?_
        obtain rfl := Option.some.inj hF
        exact ⟨rfl, rfl, hG⟩
    · rw [if_neg c156] at hF
      refine v_aload_n (i := 0) dX12_tellOne_280 rfl rfl ?_
      refine v_iconst (v := 1) dX12_tellOne_281 (by decide) ?_
      obtain ⟨q162, q162_e, hF⟩ := Option.bind_eq_some_iff.mp hF
      refine c_X12_230 rfl sh_226 (by exact ltG hG (by decide)) (Nat.le_of_ble_eq_true rfl) dX12_tellOne_282 (s_X12_fail _ q162_e hG) (fun r1 h1 hq => ?_)
      obtain ⟨rfl, hq, hG⟩ := hq
      replace hq := hq.symm
      subst hq
      simp only [Option.toList, List.nil_append]
      refine v_aload_n (i := 0) dX12_tellOne_285 rfl rfl ?_
      refine g_X12_215 rfl sh_226 (by exact ltG hG (by decide)) dX12_tellOne_286 ?_
      refine v_if_le 293 dX12_tellOne_289 (by decide) (fun c164 => ?_) (fun c164 => ?_)
      · rw [if_pos c164] at hF
        refine v_aload_n (i := 0) dX12_tellOne_293 rfl rfl ?_
        obtain ⟨q165, q165_e, hF⟩ := Option.bind_eq_some_iff.mp hF
        refine c_X12_236 rfl sh_226 (by exact ltG hG (by decide)) (Nat.le_of_ble_eq_true rfl) dX12_tellOne_294 (s_X12_goesOn _ q165_e hG) (fun r1 h1 hq => ?_)
        obtain ⟨rfl, hq, hG⟩ := hq
        replace hq := hq.symm
        subst hq
        simp only [Option.toList, List.nil_append]
        refine v_aload_n (i := 0) dX12_tellOne_297 rfl rfl ?_
        refine v_iload_n (i := 1) dX12_tellOne_298 rfl rfl ?_
        obtain ⟨q167, q167_e, hF⟩ := Option.bind_eq_some_iff.mp hF
        refine c_X12_300 rfl sh_226 (by exact ltG hG (by decide)) (Nat.le_of_ble_eq_true rfl) dX12_tellOne_299 (s_X12_tellLaw _ q167_e hG) (fun r1 h1 hq => ?_)
        obtain ⟨rfl, hq, hG⟩ := hq
        replace hq := hq.symm
        subst hq
        simp only [Option.toList, List.nil_append]
        refine v_return rfl dX12_tellOne_302 ?_
        obtain rfl := Option.some.inj hF
        exact ⟨rfl, rfl, hG⟩
      · rw [if_neg c164] at hF
        refine v_return rfl dX12_tellOne_292 ?_
        obtain rfl := Option.some.inj hF
        exact ⟨rfl, rfl, hG⟩
def W_X1_fewestRopes : Nat → Nat → Hp → Int32 → Int32 → Int32 → Int32 → Int32 → Option (Int32 × Hp)
  | 0 => fun _ _ _ _ _ _ _ => none
  | n + 1 => fun hd h l1 l2 l3 l4 l5 => (if hd = 14 then (if (4 : Int32) ≤ (l5 : Int32) then some (l4, h) else ((F_X1_search n h l1 l2 l3).bind (fun q2 => (if (q2.1 : Int32) = 0 then some (l4, q2.2) else ((F_X1_layWay n q2.2 l2 l3).bind (fun q5 => W_X1_fewestRopes n 14 q5  l1 l2 l3 (l4 + 1) (l5 + 1))))))) else none)
set_option maxRecDepth 100000 in
set_option maxHeartbeats 4000000 in
theorem sw_X1_fewestRopes (d : Nat)  (n : Nat) : (∀ (l1 : Int32) (l2 : Int32) (l3 : Int32) (l4 : Int32) (l5 : Int32) (h : Hp), ∀ (r : Int32) (h' : Hp), W_X1_fewestRopes n 14 h  l1 l2 l3 l4 l5 = some (r, h') → G h → V mX1_fewestRopes (d + 3) 14 [some (.ref 207), some (.int l1), some (.int l2), some (.int l3), some (.int l4), some (.int l5)] [] h (fun r1 h1 => r1 = some (.int r) ∧ h1 = h' ∧ G h')) := by
  induction n with
  | zero => exact by intros; contradiction
  | succ n ih =>
    have s_X1_fewestRopes_IH_14 := ih
    intro l1 l2 l3 l4 l5 h r h' hF hG
    unfold W_X1_fewestRopes at hF
    rw [if_pos rfl] at hF
    refine v_iload (i := 5) dX1_fewestRopes_14 rfl ?_
    refine v_iconst (v := 4) dX1_fewestRopes_16 (by decide) ?_
    refine v_icmp_ge 45 dX1_fewestRopes_17 (by decide) (fun c1 => ?_) (fun c1 => ?_)
    · rw [if_pos c1] at hF
      refine v_iload (i := 4) dX1_fewestRopes_45 rfl ?_
      refine v_ireturn rfl dX1_fewestRopes_47 ?_
      obtain ⟨rfl, rfl⟩ := Prod.mk.inj (Option.some.inj hF)
      exact ⟨rfl, rfl, hG⟩
    · rw [if_neg c1] at hF
      refine v_aload_n (i := 0) dX1_fewestRopes_20 rfl rfl ?_
      refine v_iload_n (i := 1) dX1_fewestRopes_21 rfl rfl ?_
      refine v_iload_n (i := 2) dX1_fewestRopes_22 rfl rfl ?_
      refine v_iload_n (i := 3) dX1_fewestRopes_23 rfl rfl ?_
      obtain ⟨q2, q2_e, hF⟩ := Option.bind_eq_some_iff.mp hF
      refine c_X1_35 rfl sh_207 (by exact ltG hG (by decide)) (Nat.le_of_ble_eq_true rfl) dX1_fewestRopes_24 (s_X1_search _ q2_e hG) (fun r1 h1 hq => ?_)
      obtain ⟨rfl, hq, hG⟩ := hq
      replace hq := hq.symm
      subst hq
      show V _ _ _ _ (_ :: _) _ _
      refine v_if_eq 45 dX1_fewestRopes_27 (by decide) (fun c4 => ?_) (fun c4 => ?_)
      · rw [if_pos c4] at hF
        refine v_iload (i := 4) dX1_fewestRopes_45 rfl ?_
        refine v_ireturn rfl dX1_fewestRopes_47 ?_
        obtain ⟨rfl, rfl⟩ := Prod.mk.inj (Option.some.inj hF)
        exact ⟨rfl, rfl, hG⟩
      · rw [if_neg c4] at hF
        refine v_aload_n (i := 0) dX1_fewestRopes_30 rfl rfl ?_
        refine v_iload_n (i := 2) dX1_fewestRopes_31 rfl rfl ?_
        refine v_iload_n (i := 3) dX1_fewestRopes_32 rfl rfl ?_
        obtain ⟨q5, q5_e, hF⟩ := Option.bind_eq_some_iff.mp hF
        refine c_X1_39 rfl sh_207 (by exact ltG hG (by decide)) (Nat.le_of_ble_eq_true rfl) dX1_fewestRopes_33 (s_X1_layWay _ q5_e hG) (fun r1 h1 hq => ?_)
        obtain ⟨rfl, hq, hG⟩ := hq
        replace hq := hq.symm
        subst hq
        simp only [Option.toList, List.nil_append]
        refine v_iinc (i := 4) (v := (l4 + 1)) dX1_fewestRopes_36 rfl rfl (by decide) (nlT rfl) ?_
        simp only [List.set_cons_zero, List.set_cons_succ]
        refine v_iinc (i := 5) (v := (l5 + 1)) dX1_fewestRopes_39 rfl rfl (by decide) (nlT rfl) ?_
        simp only [List.set_cons_zero, List.set_cons_succ]
        refine v_goto 14 dX1_fewestRopes_42 (by decide) ?_
        refine V.weak (la2 := [some (.ref 207), some (.int l1), some (.int l2), some (.int l3), some (.int (l4 + 1)), some (.int (l5 + 1))]) (by simp [wk]) ?_
        exact (s_X1_fewestRopes_IH_14) _ _ _ _ _ _ _ _ hF hG
def F_X1_fewestRopes (n : Nat) (h : Hp) (x1 : Int32) (x2 : Int32) (x3 : Int32) : Option (Int32 × Hp) := ((F_J7_fill_25 n h 208 (-1)).bind (fun q7 => W_X1_fewestRopes n 14 q7  x1 x2 x3 0 0))
set_option maxRecDepth 100000 in
set_option maxHeartbeats 4000000 in
theorem s_X1_fewestRopes (d : Nat) {n : Nat} {h : Hp} {x1 : Int32} {x2 : Int32} {x3 : Int32} {q0 : (Int32 × Hp)} (hF : F_X1_fewestRopes n h x1 x2 x3 = some q0) (hG : G h)  : Kc mX1_fewestRopes (d + 3) [.ref 207, .int x1, .int x2, .int x3] h (fun r1 h1 => r1 = some (.int q0.1) ∧ h1 = q0.2 ∧ G q0.2) := by
  obtain ⟨r, h'⟩ := q0
  have s_X1_fewestRopes_IH_14 := sw_X1_fewestRopes d   n
  unfold F_X1_fewestRopes at hF
  refine Kc.of [some (.ref 207), some (.int x1), some (.int x2), some (.int x3), none, none] ok_X1_fewestRopes rfl (Nat.le_of_ble_eq_true rfl) ?_
  refine v_aload_n (i := 0) dX1_fewestRopes_0 rfl rfl ?_
  refine g_X1_9 (q := 208) rfl sh_207 (by exact ltG hG (by decide)) (by exact rG hG r0_207_1) dX1_fewestRopes_1 ?_
  refine v_iconst (v := (-1)) dX1_fewestRopes_4 (by decide) ?_
  obtain ⟨q7, q7_e, hF⟩ := Option.bind_eq_some_iff.mp hF
  refine c_X1_29 rfl (Nat.le_of_ble_eq_true rfl) dX1_fewestRopes_5 (s_J7_fill_25 _ q7_e hG (by first | assumption | exact sc_30 | exact sc_34 | exact sc_10 | exact fd_24 | exact fd_4 | exact lw_25 | exact lw_5 | exact bd_23 | exact bd_3 | exact ⟨by first | assumption | rfl, by first | decide | omega⟩)) (fun r1 h1 hq => ?_)
  obtain ⟨rfl, hq, hG⟩ := hq
  replace hq := hq.symm
  subst hq
  simp only [Option.toList, List.nil_append]
  refine v_iconst (v := 0) dX1_fewestRopes_8 (by decide) ?_
  refine v_istore (i := 4) dX1_fewestRopes_9 (by decide) (nlT rfl) ?_
  simp only [List.set_cons_zero, List.set_cons_succ]
  refine v_iconst (v := 0) dX1_fewestRopes_11 (by decide) ?_
  refine v_istore (i := 5) dX1_fewestRopes_12 (by decide) (nlT rfl) ?_
  simp only [List.set_cons_zero, List.set_cons_succ]
  refine V.weak (la2 := [some (.ref 207), some (.int x1), some (.int x2), some (.int x3), some (.int 0), some (.int 0)]) (by simp [wk]) ?_
  exact (s_X1_fewestRopes_IH_14) _ _ _ _ _ _ _ _ hF hG
def W_X7_readGoer : Nat → Nat → Hp → Int32 → Int32 → Int32 → Option Hp
  | 0 => fun _ _ _ _ _ => none
  | n + 1 => fun hd h l1 l2 l3 => (if hd = 64 then (if (l1 : Int32) ≤ (l3 : Int32) then ((F_X7_takeSpot n h).bind (fun q2 => (if ixOK l1 5 = true then some (wrI (wrI q2.2 15 (Int32.toNatClampNeg l1) q2.1) 3 2 ((hi (wrI q2.2 15 (Int32.toNatClampNeg l1) q2.1) 3 2) + 1)) else none))) else (if ixOK l3 5 = true then (if ixOK l1 5 = true then (if ((lg_cmp (hl h 14 (Int32.toNatClampNeg l3)) (hl h 14 (Int32.toNatClampNeg l1))) : Int32) = 0 then ((F_X7_blame n h 3 l2).bind (fun q8 => W_X7_readGoer n 64 q8  l1 l2 (l3 + 1))) else W_X7_readGoer n 64 h  l1 l2 (l3 + 1)) else none) else none)) else none)
set_option maxRecDepth 100000 in
set_option maxHeartbeats 4000000 in
theorem sw_X7_readGoer (d : Nat)  (n : Nat) : (∀ (l1 : Int32) (l2 : Int32) (l3 : Int32) (h : Hp), ∀ (h' : Hp), W_X7_readGoer n 64 h  l1 l2 l3 = some h' → G h → V mX7_readGoer (d + 4) 64 [some (.ref 2), some (.int l1), some (.int l2), some (.int l3)] [] h (fun r1 h1 => r1 = none ∧ h1 = h' ∧ G h')) := by
  induction n with
  | zero => exact by intros; contradiction
  | succ n ih =>
    have s_X7_readGoer_IH_64 := ih
    intro l1 l2 l3 h h' hF hG
    unfold W_X7_readGoer at hF
    rw [if_pos rfl] at hF
    refine v_iload_n (i := 3) dX7_readGoer_64 rfl rfl ?_
    refine v_iload_n (i := 1) dX7_readGoer_65 rfl rfl ?_
    refine v_icmp_ge 97 dX7_readGoer_66 (by decide) (fun c1 => ?_) (fun c1 => ?_)
    · rw [if_pos c1] at hF
      refine v_aload_n (i := 0) dX7_readGoer_97 rfl rfl ?_
      refine g_X7_45 (q := 15) rfl sh_2 (by exact ltG hG (by decide)) (by exact rG hG r0_2_9) dX7_readGoer_98 ?_
      refine v_iload_n (i := 1) dX7_readGoer_101 rfl rfl ?_
      refine v_aload_n (i := 0) dX7_readGoer_102 rfl rfl ?_
      obtain ⟨q2, q2_e, hF⟩ := Option.bind_eq_some_iff.mp hF
      refine c_X7_162 rfl sh_2 (by exact ltG hG (by decide)) (Nat.le_of_ble_eq_true rfl) dX7_readGoer_103 (s_X7_takeSpot _ q2_e hG) (fun r1 h1 hq => ?_)
      obtain ⟨rfl, hq, hG⟩ := hq
      replace hq := hq.symm
      subst hq
      show V _ _ _ _ (_ :: _) _ _
      obtain ⟨k4, hF⟩ := ck_some hF
      refine v_iastore sh_15 (by exact ltG hG (by decide)) (ixO k4) dX7_readGoer_106 ?_
      refine v_aload_n (i := 0) dX7_readGoer_107 rfl rfl ?_
      refine g_X7_12 (q := 3) rfl sh_2 (by exact ltG hG (by decide)) (by exact rG hG r0_2_0) dX7_readGoer_108 ?_
      refine v_dup dX7_readGoer_111 rfl ?_
      refine g_X7_165 rfl sh_3 (by exact ltG hG (by decide)) dX7_readGoer_112 ?_
      refine v_iconst (v := 1) dX7_readGoer_115 (by decide) ?_
      refine v_iadd dX7_readGoer_116 ?_
      refine p_X7_165 rfl sh_3 (by exact ltG hG (by decide)) dX7_readGoer_117 ?_
      refine v_return rfl dX7_readGoer_120 ?_
      obtain rfl := Option.some.inj hF
      exact ⟨rfl, rfl, hG⟩
    · rw [if_neg c1] at hF
      refine v_aload_n (i := 0) dX7_readGoer_69 rfl rfl ?_
      refine g_X7_41 (q := 14) rfl sh_2 (by exact ltG hG (by decide)) (by exact rG hG r0_2_8) dX7_readGoer_70 ?_
      refine v_iload_n (i := 3) dX7_readGoer_73 rfl rfl ?_
      obtain ⟨k5, hF⟩ := ck_some hF
      refine v_laload sh_14 (by exact ltG hG (by decide)) (ixO k5) dX7_readGoer_74 ?_
      refine v_aload_n (i := 0) dX7_readGoer_75 rfl rfl ?_
      refine g_X7_41 (q := 14) rfl sh_2 (by exact ltG hG (by decide)) (by exact rG hG r0_2_8) dX7_readGoer_76 ?_
      refine v_iload_n (i := 1) dX7_readGoer_79 rfl rfl ?_
      obtain ⟨k6, hF⟩ := ck_some hF
      refine v_laload sh_14 (by exact ltG hG (by decide)) (ixO k6) dX7_readGoer_80 ?_
      refine v_lcmp dX7_readGoer_81 ?_
      refine v_if_ne 91 dX7_readGoer_82 (by decide) (fun c7 => ?_) (fun c7 => ?_)
      · rw [if_neg c7] at hF
        refine v_iinc (i := 3) (v := (l3 + 1)) dX7_readGoer_91 rfl rfl (by decide) (nlT rfl) ?_
        simp only [List.set_cons_zero, List.set_cons_succ]
        refine v_goto 64 dX7_readGoer_94 (by decide) ?_
        refine V.weak (la2 := [some (.ref 2), some (.int l1), some (.int l2), some (.int (l3 + 1))]) (by simp [wk]) ?_
        exact (s_X7_readGoer_IH_64) _ _ _ _ _ hF hG
      · rw [if_pos c7] at hF
        refine v_aload_n (i := 0) dX7_readGoer_85 rfl rfl ?_
        refine v_iconst (v := 3) dX7_readGoer_86 (by decide) ?_
        refine v_iload_n (i := 2) dX7_readGoer_87 rfl rfl ?_
        obtain ⟨q8, q8_e, hF⟩ := Option.bind_eq_some_iff.mp hF
        refine c_X7_141 rfl sh_2 (by exact ltG hG (by decide)) (Nat.le_of_ble_eq_true rfl) dX7_readGoer_88 (s_X7_blame _ q8_e hG) (fun r1 h1 hq => ?_)
        obtain ⟨rfl, hq, hG⟩ := hq
        replace hq := hq.symm
        subst hq
        simp only [Option.toList, List.nil_append]
        refine v_iinc (i := 3) (v := (l3 + 1)) dX7_readGoer_91 rfl rfl (by decide) (nlT rfl) ?_
        simp only [List.set_cons_zero, List.set_cons_succ]
        refine v_goto 64 dX7_readGoer_94 (by decide) ?_
        refine V.weak (la2 := [some (.ref 2), some (.int l1), some (.int l2), some (.int (l3 + 1))]) (by simp [wk]) ?_
        exact (s_X7_readGoer_IH_64) _ _ _ _ _ hF hG
def F_X7_readGoer (n : Nat) (h : Hp) : Option Hp := (if ((hi h 3 2) : Int32) < (5 : Int32) then ((F_X7_take n h 11).bind (fun q11 => ((F_X9_valueOf n q11.2 (hi q11.2 2 4)).bind (fun q13 => (if ixOK (hi h 3 2) 5 = true then ((F_X9_placeOf n (wrL q13.2 14 (Int32.toNatClampNeg (hi h 3 2)) q13.1) (hi (wrL q13.2 14 (Int32.toNatClampNeg (hi h 3 2)) q13.1) 2 4)).bind (fun q16 => ((F_X7_take n q16.2 31).bind (fun q18 => W_X7_readGoer n 64 q18.2  (hi h 3 2) q16.1 0)))) else none))))) else ((F_X7_stop n h 2).bind (fun q20 => some q20)))
set_option maxRecDepth 100000 in
set_option maxHeartbeats 4000000 in
theorem s_X7_readGoer (d : Nat) {n : Nat} {h : Hp}  {q0 : Hp} (hF : F_X7_readGoer n h  = some q0) (hG : G h)  : Kc mX7_readGoer (d + 4) [.ref 2] h (fun r1 h1 => r1 = none ∧ h1 = q0 ∧ G q0) := by
  obtain ⟨h', rfl⟩ : ∃ z, z = q0 := ⟨_, rfl⟩
  have s_X7_readGoer_IH_64 := sw_X7_readGoer d   n
  unfold F_X7_readGoer at hF
  refine Kc.of [some (.ref 2), none, none, none] ok_X7_readGoer rfl (Nat.le_of_ble_eq_true rfl) ?_
  refine v_aload_n (i := 0) dX7_readGoer_0 rfl rfl ?_
  refine g_X7_12 (q := 3) rfl sh_2 (by exact ltG hG (by decide)) (by exact rG hG r0_2_0) dX7_readGoer_1 ?_
  refine g_X7_165 rfl sh_3 (by exact ltG hG (by decide)) dX7_readGoer_4 ?_
  refine v_istore_n (i := 1) dX7_readGoer_7 rfl (by decide) (nlT rfl) ?_
  simp only [List.set_cons_zero, List.set_cons_succ]
  refine v_iload_n (i := 1) dX7_readGoer_8 rfl rfl ?_
  refine v_iconst (v := 5) dX7_readGoer_9 (by decide) ?_
  refine v_icmp_lt 19 dX7_readGoer_10 (by decide) (fun c10 => ?_) (fun c10 => ?_)
  · rw [if_pos c10] at hF
    refine v_aload_n (i := 0) dX7_readGoer_19 rfl rfl ?_
    refine v_bipush (v := 11) dX7_readGoer_20 (by decide) ?_
    obtain ⟨q11, q11_e, hF⟩ := Option.bind_eq_some_iff.mp hF
    refine c_X7_120 rfl sh_2 (by exact ltG hG (by decide)) (Nat.le_of_ble_eq_true rfl) dX7_readGoer_22 (s_X7_take _ q11_e hG) (fun r1 h1 hq => ?_)
    obtain ⟨rfl, hq, hG⟩ := hq
    replace hq := hq.symm
    subst hq
    show V _ _ _ _ (_ :: _) _ _
    refine v_pop dX7_readGoer_25 rfl ?_
    refine v_aload_n (i := 0) dX7_readGoer_26 rfl rfl ?_
    refine g_X7_41 (q := 14) rfl sh_2 (by exact ltG hG (by decide)) (by exact rG hG r0_2_8) dX7_readGoer_27 ?_
    refine v_iload_n (i := 1) dX7_readGoer_30 rfl rfl ?_
    refine v_aload_n (i := 0) dX7_readGoer_31 rfl rfl ?_
    refine g_X7_69 (q := 18) rfl sh_2 (by exact ltG hG (by decide)) (by exact rG hG r0_2_3) dX7_readGoer_32 ?_
    refine v_aload_n (i := 0) dX7_readGoer_35 rfl rfl ?_
    refine g_X7_29 rfl sh_2 (by exact ltG hG (by decide)) dX7_readGoer_36 ?_
    obtain ⟨q13, q13_e, hF⟩ := Option.bind_eq_some_iff.mp hF
    refine c_X7_137 rfl sh_18 (by exact ltG hG (by decide)) (Nat.le_of_ble_eq_true rfl) dX7_readGoer_39 (s_X9_valueOf _ q13_e hG) (fun r1 h1 hq => ?_)
    obtain ⟨rfl, hq, hG⟩ := hq
    replace hq := hq.symm
    subst hq
    show V _ _ _ _ (_ :: _) _ _
    obtain ⟨k15, hF⟩ := ck_some hF
    refine v_lastore sh_14 (by exact ltG hG (by decide)) (ixO k15) dX7_readGoer_42 ?_
    refine v_aload_n (i := 0) dX7_readGoer_43 rfl rfl ?_
    refine g_X7_69 (q := 18) rfl sh_2 (by exact ltG hG (by decide)) (by exact rG hG r0_2_3) dX7_readGoer_44 ?_
    refine v_aload_n (i := 0) dX7_readGoer_47 rfl rfl ?_
    refine g_X7_29 rfl sh_2 (by exact ltG hG (by decide)) dX7_readGoer_48 ?_
    obtain ⟨q16, q16_e, hF⟩ := Option.bind_eq_some_iff.mp hF
    refine c_X7_87 rfl sh_18 (by exact ltG hG (by decide)) (Nat.le_of_ble_eq_true rfl) dX7_readGoer_51 (s_X9_placeOf _ q16_e hG) (fun r1 h1 hq => ?_)
    obtain ⟨rfl, hq, hG⟩ := hq
    replace hq := hq.symm
    subst hq
    show V _ _ _ _ (_ :: _) _ _
    refine v_istore_n (i := 2) dX7_readGoer_54 rfl (by decide) (nlT rfl) ?_
    simp only [List.set_cons_zero, List.set_cons_succ]
    refine v_aload_n (i := 0) dX7_readGoer_55 rfl rfl ?_
    refine v_bipush (v := 31) dX7_readGoer_56 (by decide) ?_
    obtain ⟨q18, q18_e, hF⟩ := Option.bind_eq_some_iff.mp hF
    refine c_X7_120 rfl sh_2 (by exact ltG hG (by decide)) (Nat.le_of_ble_eq_true rfl) dX7_readGoer_58 (s_X7_take _ q18_e hG) (fun r1 h1 hq => ?_)
    obtain ⟨rfl, hq, hG⟩ := hq
    replace hq := hq.symm
    subst hq
    show V _ _ _ _ (_ :: _) _ _
    refine v_pop dX7_readGoer_61 rfl ?_
    refine v_iconst (v := 0) dX7_readGoer_62 (by decide) ?_
    refine v_istore_n (i := 3) dX7_readGoer_63 rfl (by decide) (nlT rfl) ?_
    simp only [List.set_cons_zero, List.set_cons_succ]
    refine V.weak (la2 := [some (.ref 2), some (.int (hi h 3 2)), some (.int q16.1), some (.int 0)]) (by simp [wk]) ?_
    exact (s_X7_readGoer_IH_64) _ _ _ _ _ hF hG
  · rw [if_neg c10] at hF
    refine v_aload_n (i := 0) dX7_readGoer_13 rfl rfl ?_
    refine v_iconst (v := 2) dX7_readGoer_14 (by decide) ?_
    obtain ⟨q20, q20_e, hF⟩ := Option.bind_eq_some_iff.mp hF
    refine c_X7_105 rfl sh_2 (by exact ltG hG (by decide)) (Nat.le_of_ble_eq_true rfl) dX7_readGoer_15 (s_X7_stop _ q20_e hG) (fun r1 h1 hq => ?_)
    obtain ⟨rfl, hq, hG⟩ := hq
    replace hq := hq.symm
    subst hq
    simp only [Option.toList, List.nil_append]
    refine v_return rfl dX7_readGoer_18 ?_
    obtain rfl := Option.some.inj hF
    exact ⟨rfl, rfl, hG⟩
