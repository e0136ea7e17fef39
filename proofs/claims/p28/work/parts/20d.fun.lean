def F_X0_canSpread (n : Nat) (h : Hp) (a : Nat) (b1 : Nat) : Option (Int32 × Hp) := (if ((hi h a 3) : Int32) ≤ 0 then some (0, h) else ((F_X3_quietOnTheRight n h (a + 1) (hi h b1 3)).bind (fun q2 => (if (q2.1 : Int32) = 0 then some (0, q2.2) else ((F_J6_bitCount_0f7a4 n q2.2 (hi q2.2 b1 3)).bind (fun q5 => (if (8 : Int32) ≤ (q5.1 : Int32) then some (0, q5.2) else some (1, q5.2))))))))
set_option maxRecDepth 100000 in
set_option maxHeartbeats 4000000 in
theorem s_X0_canSpread (d : Nat) {n : Nat} {h : Hp} {a : Nat} {b1 : Nat} {q0 : (Int32 × Hp)} (hF : F_X0_canSpread n h a b1 = some q0) (hG : G h) (hs : IsBd a) (ht1 : Sc b1) : Kc mX0_canSpread (d + 1) [.ref a, .ref b1] h (fun r1 h1 => r1 = some (.int q0.1) ∧ h1 = q0.2 ∧ G q0.2) := by
  obtain ⟨s0, sF, sL, s3, s4, s5, s6, s7⟩ := id hs
  obtain ⟨sf0, sf4⟩ := id sF
  obtain ⟨sl0, sl1, sl2, sl3, sl4, sl5, sl6, sl7⟩ := id sL
  obtain ⟨t10, t11, t12, t13, t14, t15, t16, t17⟩ := id ht1
  obtain ⟨r, h'⟩ := q0
  unfold F_X0_canSpread at hF
  refine Kc.of [some (.ref a), some (.ref b1)] ok_X0_canSpread rfl (Nat.le_of_ble_eq_true rfl) ?_
  refine v_aload_n (i := 0) dX0_canSpread_0 rfl rfl ?_
  refine g_X0_29 rfl s0 (by exact ltG hG (by omega)) dX0_canSpread_1 ?_
  refine v_if_le 37 dX0_canSpread_4 (by decide) (fun c1 => ?_) (fun c1 => ?_)
  · rw [if_pos c1] at hF
    refine v_iconst (v := 0) dX0_canSpread_37 (by decide) ?_
    refine v_zreturn rfl (by decide) dX0_canSpread_38 ?_
    obtain ⟨rfl, rfl⟩ := Prod.mk.inj (Option.some.inj hF)
    exact ⟨rfl, rfl, hG⟩
  · rw [if_neg c1] at hF
    refine v_aload_n (i := 0) dX0_canSpread_7 rfl rfl ?_
    refine g_X0_12 (q := (a + 1)) rfl s0 (by exact ltG hG (by omega)) (by exact rG hG s5) dX0_canSpread_8 ?_
    refine v_aload_n (i := 1) dX0_canSpread_11 rfl rfl ?_
    refine g_X0_74 rfl t10 (by exact ltG hG (by omega)) dX0_canSpread_12 ?_
    obtain ⟨q2, q2_e, hF⟩ := Option.bind_eq_some_iff.mp hF
    refine c_X0_135 rfl sf0 (by exact ltG hG (by omega)) (Nat.le_of_ble_eq_true rfl) dX0_canSpread_15 (s_X3_quietOnTheRight _ q2_e hG (by first | assumption | exact sc_30 | exact sc_34 | exact sc_10 | exact fd_24 | exact fd_4 | exact lw_25 | exact lw_5 | exact bd_23 | exact bd_3 | exact ⟨by first | assumption | rfl, by first | decide | omega⟩)) (fun r1 h1 hq => ?_)
    obtain ⟨rfl, hq, hG⟩ := hq
    replace hq := hq.symm
    subst hq
    show V _ _ _ _ (_ :: _) _ _
    refine v_if_eq 37 dX0_canSpread_18 (by decide) (fun c4 => ?_) (fun c4 => ?_)
    · rw [if_pos c4] at hF
      refine v_iconst (v := 0) dX0_canSpread_37 (by decide) ?_
      refine v_zreturn rfl (by decide) dX0_canSpread_38 ?_
      obtain ⟨rfl, rfl⟩ := Prod.mk.inj (Option.some.inj hF)
      exact ⟨rfl, rfl, hG⟩
    · rw [if_neg c4] at hF
      refine v_aload_n (i := 1) dX0_canSpread_21 rfl rfl ?_
      refine g_X0_74 rfl t10 (by exact ltG hG (by omega)) dX0_canSpread_22 ?_
      obtain ⟨q5, q5_e, hF⟩ := Option.bind_eq_some_iff.mp hF
      refine c_X0_77 rfl (Nat.le_of_ble_eq_true rfl) dX0_canSpread_25 (s_J6_bitCount_0f7a4 _ q5_e hG) (fun r1 h1 hq => ?_)
      obtain ⟨rfl, hq, hG⟩ := hq
      replace hq := hq.symm
      subst hq
      show V _ _ _ _ (_ :: _) _ _
      refine v_bipush (v := 8) dX0_canSpread_28 (by decide) ?_
      refine v_icmp_ge 37 dX0_canSpread_30 (by decide) (fun c7 => ?_) (fun c7 => ?_)
      · rw [if_pos c7] at hF
        refine v_iconst (v := 0) dX0_canSpread_37 (by decide) ?_
        refine v_zreturn rfl (by decide) dX0_canSpread_38 ?_
        obtain ⟨rfl, rfl⟩ := Prod.mk.inj (Option.some.inj hF)
        exact ⟨rfl, rfl, hG⟩
      · rw [if_neg c7] at hF
        refine v_iconst (v := 1) dX0_canSpread_33 (by decide) ?_
        refine v_goto 38 dX0_canSpread_34 (by decide) ?_
        refine v_zreturn rfl (by decide) dX0_canSpread_38 ?_
        obtain ⟨rfl, rfl⟩ := Prod.mk.inj (Option.some.inj hF)
        exact ⟨rfl, rfl, hG⟩
def F_X0_clear (n : Nat) (h : Hp) (a : Nat) : Option Hp := ((F_X3_lay n h (a + 1) 4 4).bind (fun q1 => ((F_X4_clear n q1 (a + 2)).bind (fun q3 => some (wrI (wrI (wrI q3 a 2 0) a 3 0) a 4 0)))))
set_option maxRecDepth 100000 in
set_option maxHeartbeats 4000000 in
theorem s_X0_clear (d : Nat) {n : Nat} {h : Hp} {a : Nat} {q0 : Hp} (hF : F_X0_clear n h a = some q0) (hG : G h) (hs : IsBd a) : Kc mX0_clear (d + 2) [.ref a] h (fun r1 h1 => r1 = none ∧ h1 = q0 ∧ G q0) := by
  obtain ⟨s0, sF, sL, s3, s4, s5, s6, s7⟩ := id hs
  obtain ⟨sf0, sf4⟩ := id sF
  obtain ⟨sl0, sl1, sl2, sl3, sl4, sl5, sl6, sl7⟩ := id sL
  obtain ⟨h', rfl⟩ : ∃ z, z = q0 := ⟨_, rfl⟩
  unfold F_X0_clear at hF
  refine Kc.of [some (.ref a)] ok_X0_clear rfl (Nat.le_of_ble_eq_true rfl) ?_
  refine v_aload_n (i := 0) dX0_clear_0 rfl rfl ?_
  refine g_X0_12 (q := (a + 1)) rfl s0 (by exact ltG hG (by omega)) (by exact rG hG s5) dX0_clear_1 ?_
  refine v_iconst (v := 4) dX0_clear_4 (by decide) ?_
  refine v_iconst (v := 4) dX0_clear_5 (by decide) ?_
  obtain ⟨q1, q1_e, hF⟩ := Option.bind_eq_some_iff.mp hF
  refine c_X0_39 rfl sf0 (by exact ltG hG (by omega)) (Nat.le_of_ble_eq_true rfl) dX0_clear_6 (s_X3_lay _ q1_e hG (by first | assumption | exact sc_30 | exact sc_34 | exact sc_10 | exact fd_24 | exact fd_4 | exact lw_25 | exact lw_5 | exact bd_23 | exact bd_3 | exact ⟨by first | assumption | rfl, by first | decide | omega⟩)) (fun r1 h1 hq => ?_)
  obtain ⟨rfl, hq, hG⟩ := hq
  replace hq := hq.symm
  subst hq
  simp only [Option.toList, List.nil_append]
  refine v_aload_n (i := 0) dX0_clear_9 rfl rfl ?_
  refine g_X0_21 (q := (a + 2)) rfl s0 (by exact ltG hG (by omega)) (by exact rG hG s6) dX0_clear_10 ?_
  obtain ⟨q3, q3_e, hF⟩ := Option.bind_eq_some_iff.mp hF
  refine c_X0_43 rfl sl0 (by exact ltG hG (by omega)) (Nat.le_of_ble_eq_true rfl) dX0_clear_13 (s_X4_clear _ q3_e hG (by first | assumption | exact sc_30 | exact sc_34 | exact sc_10 | exact fd_24 | exact fd_4 | exact lw_25 | exact lw_5 | exact bd_23 | exact bd_3 | exact ⟨by first | assumption | rfl, by first | decide | omega⟩)) (fun r1 h1 hq => ?_)
  obtain ⟨rfl, hq, hG⟩ := hq
  replace hq := hq.symm
  subst hq
  simp only [Option.toList, List.nil_append]
  refine v_aload_n (i := 0) dX0_clear_16 rfl rfl ?_
  refine v_iconst (v := 0) dX0_clear_17 (by decide) ?_
  refine p_X0_25 rfl s0 (by exact ltG hG (by omega)) dX0_clear_18 ?_
  refine v_aload_n (i := 0) dX0_clear_21 rfl rfl ?_
  refine v_iconst (v := 0) dX0_clear_22 (by decide) ?_
  refine p_X0_29 rfl s0 (by exact ltG hG (by omega)) dX0_clear_23 ?_
  refine v_aload_n (i := 0) dX0_clear_26 rfl rfl ?_
  refine v_iconst (v := 0) dX0_clear_27 (by decide) ?_
  refine p_X0_32 rfl s0 (by exact ltG hG (by omega)) dX0_clear_28 ?_
  refine v_return rfl dX0_clear_31 ?_
  obtain rfl := Option.some.inj hF
  exact ⟨rfl, rfl, hG⟩
def F_X0_lot (n : Nat) (h : Hp) (x1 : Int32) (x2 : Int32) (x3 : Int32) : Option (Int32 × Hp) := ((F_X0_stirred n h x2 197).bind (fun q1 => ((F_X0_stirred n q1.2 q1.1 x3).bind (fun q3 => (if (x1 : Int32) ≤ 0 then some (0, q3.2) else (if x1 = 0 then none else some (((((q3.1 : Int32).toUInt32 >>> ((1 : Int32).toUInt32 &&& Int32.toUInt32 31)).toInt32) - (((q3.1 : Int32).toUInt32 >>> ((1 : Int32).toUInt32 &&& Int32.toUInt32 31)).toInt32) / x1 * x1), q3.2)))))))
set_option maxRecDepth 100000 in
set_option maxHeartbeats 4000000 in
theorem s_X0_lot (d : Nat) {n : Nat} {h : Hp} {x1 : Int32} {x2 : Int32} {x3 : Int32} {q0 : (Int32 × Hp)} (hF : F_X0_lot n h x1 x2 x3 = some q0) (hG : G h)  : Kc mX0_lot (d + 1) [.int x1, .int x2, .int x3] h (fun r1 h1 => r1 = some (.int q0.1) ∧ h1 = q0.2 ∧ G q0.2) := by
  obtain ⟨r, h'⟩ := q0
  unfold F_X0_lot at hF
  refine Kc.of [some (.int x1), some (.int x2), some (.int x3), none] ok_X0_lot rfl (Nat.le_of_ble_eq_true rfl) ?_
  refine v_iload_n (i := 1) dX0_lot_0 rfl rfl ?_
  refine v_sipush (v := 197) dX0_lot_1 (by decide) ?_
  obtain ⟨q1, q1_e, hF⟩ := Option.bind_eq_some_iff.mp hF
  refine c_X0_153 rfl (Nat.le_of_ble_eq_true rfl) dX0_lot_4 (s_X0_stirred _ q1_e hG) (fun r1 h1 hq => ?_)
  obtain ⟨rfl, hq, hG⟩ := hq
  replace hq := hq.symm
  subst hq
  show V _ _ _ _ (_ :: _) _ _
  refine v_iload_n (i := 2) dX0_lot_7 rfl rfl ?_
  obtain ⟨q3, q3_e, hF⟩ := Option.bind_eq_some_iff.mp hF
  refine c_X0_153 rfl (Nat.le_of_ble_eq_true rfl) dX0_lot_8 (s_X0_stirred _ q3_e hG) (fun r1 h1 hq => ?_)
  obtain ⟨rfl, hq, hG⟩ := hq
  replace hq := hq.symm
  subst hq
  show V _ _ _ _ (_ :: _) _ _
  refine v_istore_n (i := 3) dX0_lot_11 rfl (by decide) (nlT rfl) ?_
  simp only [List.set_cons_zero, List.set_cons_succ]
  refine v_iload_n (i := 0) dX0_lot_12 rfl rfl ?_
  refine v_if_le 24 dX0_lot_13 (by decide) (fun c5 => ?_) (fun c5 => ?_)
  · rw [if_pos c5] at hF
    refine v_iconst (v := 0) dX0_lot_24 (by decide) ?_
    refine v_ireturn rfl dX0_lot_25 ?_
    obtain ⟨rfl, rfl⟩ := Prod.mk.inj (Option.some.inj hF)
    exact ⟨rfl, rfl, hG⟩
  · rw [if_neg c5] at hF
    refine v_iload_n (i := 3) dX0_lot_16 rfl rfl ?_
    refine v_iconst (v := 1) dX0_lot_17 (by decide) ?_
    refine v_iushr dX0_lot_18 ?_
    refine v_iload_n (i := 0) dX0_lot_19 rfl rfl ?_
    obtain ⟨k6, hF⟩ := ck_none hF
    refine v_irem dX0_lot_20 k6 ?_
    refine v_goto 25 dX0_lot_21 (by decide) ?_
    refine v_ireturn rfl dX0_lot_25 ?_
    obtain ⟨rfl, rfl⟩ := Prod.mk.inj (Option.some.inj hF)
    exact ⟨rfl, rfl, hG⟩
def F_X11_far (n : Nat) (h : Hp) (x1 : Int32) (x2 : Int32) : Option (Int32 × Hp) := ((F_X3_has n h 24 x1).bind (fun q1 => (if (q1.1 : Int32) = 0 then some ((-1), q1.2) else ((F_X3_has n q1.2 24 x2).bind (fun q4 => (if (q4.1 : Int32) = 0 then some ((-1), q4.2) else ((F_X3_steps n q4.2 24 x1 x2 (((((hi q4.2 24 2) : Int32) &&& ((((hi q4.2 30 2) : Int32) ^^^ ((-1) : Int32)) : Int32)) : Int32) ||| (((1 : Int32) <<< ((x2 : Int32) &&& 31)) : Int32))).bind (fun q7 => (if (q7.1 : Int32) = ((-1) : Int32) then some ((-2), q7.2) else some (q7.1, q7.2))))))))))
set_option maxRecDepth 100000 in
set_option maxHeartbeats 4000000 in
theorem s_X11_far (d : Nat) {n : Nat} {h : Hp} {x1 : Int32} {x2 : Int32} {q0 : (Int32 × Hp)} (hF : F_X11_far n h x1 x2 = some q0) (hG : G h)  : Kc mX11_far (d + 2) [.ref 0, .int x1, .int x2] h (fun r1 h1 => r1 = some (.int q0.1) ∧ h1 = q0.2 ∧ G q0.2) := by
  obtain ⟨r, h'⟩ := q0
  unfold F_X11_far at hF
  refine Kc.of [some (.ref 0), some (.int x1), some (.int x2), none] ok_X11_far rfl (Nat.le_of_ble_eq_true rfl) ?_
  refine v_aload_n (i := 0) dX11_far_0 rfl rfl ?_
  refine g_X11_40 (q := 24) rfl sh_0 (by exact ltG hG (by decide)) (by exact rG hG r0_0_5) dX11_far_1 ?_
  refine v_iload_n (i := 1) dX11_far_4 rfl rfl ?_
  obtain ⟨q1, q1_e, hF⟩ := Option.bind_eq_some_iff.mp hF
  refine c_X11_124 rfl sh_24 (by exact ltG hG (by decide)) (Nat.le_of_ble_eq_true rfl) dX11_far_5 (s_X3_has _ q1_e hG (by first | assumption | exact sc_30 | exact sc_34 | exact sc_10 | exact fd_24 | exact fd_4 | exact lw_25 | exact lw_5 | exact bd_23 | exact bd_3 | exact ⟨by first | assumption | rfl, by first | decide | omega⟩)) (fun r1 h1 hq => ?_)
  obtain ⟨rfl, hq, hG⟩ := hq
  replace hq := hq.symm
  subst hq
  show V _ _ _ _ (_ :: _) _ _
  refine v_if_eq 22 dX11_far_8 (by decide) (fun c3 => ?_) (fun c3 => ?_)
  · rw [if_pos c3] at hF
    refine v_iconst (v := (-1)) dX11_far_22 (by decide) ?_
    refine v_ireturn rfl dX11_far_23 ?_
    obtain ⟨rfl, rfl⟩ := Prod.mk.inj (Option.some.inj hF)
    exact ⟨rfl, rfl, hG⟩
  · rw [if_neg c3] at hF
    refine v_aload_n (i := 0) dX11_far_11 rfl rfl ?_
    refine g_X11_40 (q := 24) rfl sh_0 (by exact ltG hG (by decide)) (by exact rG hG r0_0_5) dX11_far_12 ?_
    refine v_iload_n (i := 2) dX11_far_15 rfl rfl ?_
    obtain ⟨q4, q4_e, hF⟩ := Option.bind_eq_some_iff.mp hF
    refine c_X11_124 rfl sh_24 (by exact ltG hG (by decide)) (Nat.le_of_ble_eq_true rfl) dX11_far_16 (s_X3_has _ q4_e hG (by first | assumption | exact sc_30 | exact sc_34 | exact sc_10 | exact fd_24 | exact fd_4 | exact lw_25 | exact lw_5 | exact bd_23 | exact bd_3 | exact ⟨by first | assumption | rfl, by first | decide | omega⟩)) (fun r1 h1 hq => ?_)
    obtain ⟨rfl, hq, hG⟩ := hq
    replace hq := hq.symm
    subst hq
    show V _ _ _ _ (_ :: _) _ _
    refine v_if_ne 24 dX11_far_19 (by decide) (fun c6 => ?_) (fun c6 => ?_)
    · rw [if_neg c6] at hF
      refine v_aload_n (i := 0) dX11_far_24 rfl rfl ?_
      refine g_X11_40 (q := 24) rfl sh_0 (by exact ltG hG (by decide)) (by exact rG hG r0_0_5) dX11_far_25 ?_
      refine v_iload_n (i := 1) dX11_far_28 rfl rfl ?_
      refine v_iload_n (i := 2) dX11_far_29 rfl rfl ?_
      refine v_aload_n (i := 0) dX11_far_30 rfl rfl ?_
      refine g_X11_40 (q := 24) rfl sh_0 (by exact ltG hG (by decide)) (by exact rG hG r0_0_5) dX11_far_31 ?_
      refine g_X11_211 rfl sh_24 (by exact ltG hG (by decide)) dX11_far_34 ?_
      refine v_aload_n (i := 0) dX11_far_37 rfl rfl ?_
      refine g_X11_44 (q := 30) rfl sh_0 (by exact ltG hG (by decide)) (by exact rG hG r0_0_6) dX11_far_38 ?_
      refine g_X11_186 rfl sh_30 (by exact ltG hG (by decide)) dX11_far_41 ?_
      refine v_iconst (v := (-1)) dX11_far_44 (by decide) ?_
      refine v_ixor dX11_far_45 ?_
      refine v_iand dX11_far_46 ?_
      refine v_iconst (v := 1) dX11_far_47 (by decide) ?_
      refine v_iload_n (i := 2) dX11_far_48 rfl rfl ?_
      refine v_ishl dX11_far_49 ?_
      refine v_ior dX11_far_50 ?_
      obtain ⟨q7, q7_e, hF⟩ := Option.bind_eq_some_iff.mp hF
      refine c_X11_279 rfl sh_24 (by exact ltG hG (by decide)) (Nat.le_of_ble_eq_true rfl) dX11_far_51 (s_X3_steps _ q7_e hG (by first | assumption | exact sc_30 | exact sc_34 | exact sc_10 | exact fd_24 | exact fd_4 | exact lw_25 | exact lw_5 | exact bd_23 | exact bd_3 | exact ⟨by first | assumption | rfl, by first | decide | omega⟩)) (fun r1 h1 hq => ?_)
      obtain ⟨rfl, hq, hG⟩ := hq
      replace hq := hq.symm
      subst hq
      show V _ _ _ _ (_ :: _) _ _
      refine v_istore_n (i := 3) dX11_far_54 rfl (by decide) (nlT rfl) ?_
      simp only [List.set_cons_zero, List.set_cons_succ]
      refine v_iload_n (i := 3) dX11_far_55 rfl rfl ?_
      refine v_iconst (v := (-1)) dX11_far_56 (by decide) ?_
      refine v_icmp_ne 65 dX11_far_57 (by decide) (fun c9 => ?_) (fun c9 => ?_)
      · rw [if_neg c9] at hF
        refine v_iload_n (i := 3) dX11_far_65 rfl rfl ?_
        refine v_ireturn rfl dX11_far_66 ?_
        obtain ⟨rfl, rfl⟩ := Prod.mk.inj (Option.some.inj hF)
        exact ⟨rfl, rfl, hG⟩
      · rw [if_pos c9] at hF
        refine v_bipush (v := (-2)) dX11_far_60 (by decide) ?_
        refine v_goto 66 dX11_far_62 (by decide) ?_
        refine v_ireturn rfl dX11_far_66 ?_
        obtain ⟨rfl, rfl⟩ := Prod.mk.inj (Option.some.inj hF)
        exact ⟨rfl, rfl, hG⟩
    · rw [if_pos c6] at hF
      refine v_iconst (v := (-1)) dX11_far_22 (by decide) ?_
      refine v_ireturn rfl dX11_far_23 ?_
      obtain ⟨rfl, rfl⟩ := Prod.mk.inj (Option.some.inj hF)
      exact ⟨rfl, rfl, hG⟩
def F_X11_feed (n : Nat) (h : Hp) (x1 : Int32) (x2 : Int32) (x3 : Int32) (x4 : Int32) (x5 : Int32) : Option (Int32 × Hp) := (if (((hi h 0 1) + 20) : Int32) ≤ (2000 : Int32) then ((F_X11_putOnTape n h x1).bind (fun q2 => ((F_X11_putOnTape n q2 x2).bind (fun q4 => ((F_X11_putOnTape n q4 x3).bind (fun q6 => ((F_X11_putOnTape n q6 x4).bind (fun q8 => ((F_X11_putOnTape n q8 x5).bind (fun q10 => some ((hi q10 0 1), q10))))))))))) else some ((-1), h))
set_option maxRecDepth 100000 in
set_option maxHeartbeats 4000000 in
theorem s_X11_feed (d : Nat) {n : Nat} {h : Hp} {x1 : Int32} {x2 : Int32} {x3 : Int32} {x4 : Int32} {x5 : Int32} {q0 : (Int32 × Hp)} (hF : F_X11_feed n h x1 x2 x3 x4 x5 = some q0) (hG : G h)  : Kc mX11_feed (d + 1) [.ref 0, .int x1, .int x2, .int x3, .int x4, .int x5] h (fun r1 h1 => r1 = some (.int q0.1) ∧ h1 = q0.2 ∧ G q0.2) := by
  obtain ⟨r, h'⟩ := q0
  unfold F_X11_feed at hF
  refine Kc.of [some (.ref 0), some (.int x1), some (.int x2), some (.int x3), some (.int x4), some (.int x5)] ok_X11_feed rfl (Nat.le_of_ble_eq_true rfl) ?_
  refine v_aload_n (i := 0) dX11_feed_0 rfl rfl ?_
  refine g_X11_13 rfl sh_0 (by exact ltG hG (by decide)) dX11_feed_1 ?_
  refine v_bipush (v := 20) dX11_feed_4 (by decide) ?_
  refine v_iadd dX11_feed_6 ?_
  refine v_sipush (v := 2000) dX11_feed_7 (by decide) ?_
  refine v_icmp_le 15 dX11_feed_10 (by decide) (fun c1 => ?_) (fun c1 => ?_)
  · rw [if_pos c1] at hF
    refine v_aload_n (i := 0) dX11_feed_15 rfl rfl ?_
    refine v_iload_n (i := 1) dX11_feed_16 rfl rfl ?_
    obtain ⟨q2, q2_e, hF⟩ := Option.bind_eq_some_iff.mp hF
    refine c_X11_98 rfl sh_0 (by exact ltG hG (by decide)) (Nat.le_of_ble_eq_true rfl) dX11_feed_17 (s_X11_putOnTape _ q2_e hG) (fun r1 h1 hq => ?_)
    obtain ⟨rfl, hq, hG⟩ := hq
    replace hq := hq.symm
    subst hq
    simp only [Option.toList, List.nil_append]
    refine v_aload_n (i := 0) dX11_feed_20 rfl rfl ?_
    refine v_iload_n (i := 2) dX11_feed_21 rfl rfl ?_
    obtain ⟨q4, q4_e, hF⟩ := Option.bind_eq_some_iff.mp hF
    refine c_X11_98 rfl sh_0 (by exact ltG hG (by decide)) (Nat.le_of_ble_eq_true rfl) dX11_feed_22 (s_X11_putOnTape _ q4_e hG) (fun r1 h1 hq => ?_)
    obtain ⟨rfl, hq, hG⟩ := hq
    replace hq := hq.symm
    subst hq
    simp only [Option.toList, List.nil_append]
    refine v_aload_n (i := 0) dX11_feed_25 rfl rfl ?_
    refine v_iload_n (i := 3) dX11_feed_26 rfl rfl ?_
    obtain ⟨q6, q6_e, hF⟩ := Option.bind_eq_some_iff.mp hF
    refine c_X11_98 rfl sh_0 (by exact ltG hG (by decide)) (Nat.le_of_ble_eq_true rfl) dX11_feed_27 (s_X11_putOnTape _ q6_e hG) (fun r1 h1 hq => ?_)
    obtain ⟨rfl, hq, hG⟩ := hq
    replace hq := hq.symm
    subst hq
    simp only [Option.toList, List.nil_append]
    refine v_aload_n (i := 0) dX11_feed_30 rfl rfl ?_
    refine v_iload (i := 4) dX11_feed_31 rfl ?_
    obtain ⟨q8, q8_e, hF⟩ := Option.bind_eq_some_iff.mp hF
    refine c_X11_98 rfl sh_0 (by exact ltG hG (by decide)) (Nat.le_of_ble_eq_true rfl) dX11_feed_33 (s_X11_putOnTape _ q8_e hG) (fun r1 h1 hq => ?_)
    obtain ⟨rfl, hq, hG⟩ := hq
    replace hq := hq.symm
    subst hq
    simp only [Option.toList, List.nil_append]
    refine v_aload_n (i := 0) dX11_feed_36 rfl rfl ?_
    refine v_iload (i := 5) dX11_feed_37 rfl ?_
    obtain ⟨q10, q10_e, hF⟩ := Option.bind_eq_some_iff.mp hF
    refine c_X11_98 rfl sh_0 (by exact ltG hG (by decide)) (Nat.le_of_ble_eq_true rfl) dX11_feed_39 (s_X11_putOnTape _ q10_e hG) (fun r1 h1 hq => ?_)
    obtain ⟨rfl, hq, hG⟩ := hq
    replace hq := hq.symm
    subst hq
    simp only [Option.toList, List.nil_append]
    refine v_aload_n (i := 0) dX11_feed_42 rfl rfl ?_
    refine g_X11_13 rfl sh_0 (by exact ltG hG (by decide)) dX11_feed_43 ?_
    refine v_ireturn rfl dX11_feed_46 ?_
    obtain ⟨rfl, rfl⟩ := Prod.mk.inj (Option.some.inj hF)
    exact ⟨rfl, rfl, hG⟩
  · rw [if_neg c1] at hF
    refine v_iconst (v := (-1)) dX11_feed_13 (by decide) ?_
    refine v_ireturn rfl dX11_feed_14 ?_
    obtain ⟨rfl, rfl⟩ := Prod.mk.inj (Option.some.inj hF)
    exact ⟨rfl, rfl, hG⟩
def F_X11_forget (n : Nat) (h : Hp) : Option (Int32 × Hp) := ((F_X2_clear n h).bind (fun q1 => some ((hi h 201 2), q1)))
set_option maxRecDepth 100000 in
set_option maxHeartbeats 4000000 in
theorem s_X11_forget (d : Nat) {n : Nat} {h : Hp}  {q0 : (Int32 × Hp)} (hF : F_X11_forget n h  = some q0) (hG : G h)  : Kc mX11_forget (d + 1) [.ref 0] h (fun r1 h1 => r1 = some (.int q0.1) ∧ h1 = q0.2 ∧ G q0.2) := by
  obtain ⟨r, h'⟩ := q0
  unfold F_X11_forget at hF
  refine Kc.of [some (.ref 0), none] ok_X11_forget rfl (Nat.le_of_ble_eq_true rfl) ?_
  refine v_aload_n (i := 0) dX11_forget_0 rfl rfl ?_
  refine g_X11_68 (q := 201) rfl sh_0 (by exact ltG hG (by decide)) (by exact rG hG r0_0_11) dX11_forget_1 ?_
  refine g_X11_195 rfl sh_201 (by exact ltG hG (by decide)) dX11_forget_4 ?_
  refine v_istore_n (i := 1) dX11_forget_7 rfl (by decide) (nlT rfl) ?_
  simp only [List.set_cons_zero, List.set_cons_succ]
  refine v_aload_n (i := 0) dX11_forget_8 rfl rfl ?_
  refine g_X11_68 (q := 201) rfl sh_0 (by exact ltG hG (by decide)) (by exact rG hG r0_0_11) dX11_forget_9 ?_
  obtain ⟨q1, q1_e, hF⟩ := Option.bind_eq_some_iff.mp hF
  refine c_X11_123 rfl sh_201 (by exact ltG hG (by decide)) (Nat.le_of_ble_eq_true rfl) dX11_forget_12 (s_X2_clear _ q1_e hG) (fun r1 h1 hq => ?_)
  obtain ⟨rfl, hq, hG⟩ := hq
  replace hq := hq.symm
  subst hq
  simp only [Option.toList, List.nil_append]
  refine v_iload_n (i := 1) dX11_forget_15 rfl rfl ?_
  refine v_ireturn rfl dX11_forget_16 ?_
  obtain ⟨rfl, rfl⟩ := Prod.mk.inj (Option.some.inj hF)
  exact ⟨rfl, rfl, hG⟩
def F_X11_hold (n : Nat) (h : Hp) (x1 : Int32) : Option (Int32 × Hp) := (if (x1 : Int32) < 0 then some (0, h) else (if (x1 : Int32) < (3 : Int32) then (if ixOK x1 3 = true then ((F_X8_become n h (214 + 4 * (Int32.toNatClampNeg x1)) 30).bind (fun q4 => some (1, (wrI q4 0 10 (((hi q4 0 10) : Int32) ||| (((1 : Int32) <<< ((x1 : Int32) &&& 31)) : Int32)))))) else none) else some (0, h)))
set_option maxRecDepth 100000 in
set_option maxHeartbeats 4000000 in
theorem s_X11_hold (d : Nat) {n : Nat} {h : Hp} {x1 : Int32} {q0 : (Int32 × Hp)} (hF : F_X11_hold n h x1 = some q0) (hG : G h)  : Kc mX11_hold (d + 2) [.ref 0, .int x1] h (fun r1 h1 => r1 = some (.int q0.1) ∧ h1 = q0.2 ∧ G q0.2) := by
  obtain ⟨r, h'⟩ := q0
  unfold F_X11_hold at hF
  refine Kc.of [some (.ref 0), some (.int x1)] ok_X11_hold rfl (Nat.le_of_ble_eq_true rfl) ?_
  refine v_iload_n (i := 1) dX11_hold_0 rfl rfl ?_
  refine v_if_lt 9 dX11_hold_1 (by decide) (fun c1 => ?_) (fun c1 => ?_)
  · rw [if_pos c1] at hF
    refine v_iconst (v := 0) dX11_hold_9 (by decide) ?_
    refine v_zreturn rfl (by decide) dX11_hold_10 ?_
    obtain ⟨rfl, rfl⟩ := Prod.mk.inj (Option.some.inj hF)
    exact ⟨rfl, rfl, hG⟩
  · rw [if_neg c1] at hF
    refine v_iload_n (i := 1) dX11_hold_4 rfl rfl ?_
    refine v_iconst (v := 3) dX11_hold_5 (by decide) ?_
    refine v_icmp_lt 11 dX11_hold_6 (by decide) (fun c2 => ?_) (fun c2 => ?_)
    · rw [if_pos c2] at hF
      refine v_aload_n (i := 0) dX11_hold_11 rfl rfl ?_
      refine g_X11_58 (q := 200) rfl sh_0 (by exact ltG hG (by decide)) (by exact rG hG r0_0_9) dX11_hold_12 ?_
      refine v_iload_n (i := 1) dX11_hold_15 rfl rfl ?_
      obtain ⟨k3, hF⟩ := ck_some hF
      have hsc_k3 := scSlot (ixO_lt k3)
      refine v_aaload (q := (214 + 4 * (Int32.toNatClampNeg x1))) sh_200 (by exact ltG hG (by decide)) (ixO k3) (rSlot hG (ixO_lt k3)) dX11_hold_16 ?_
      refine v_aload_n (i := 0) dX11_hold_17 rfl rfl ?_
      refine g_X11_44 (q := 30) rfl sh_0 (by exact ltG hG (by decide)) (by exact rG hG r0_0_6) dX11_hold_18 ?_
      obtain ⟨q4, q4_e, hF⟩ := Option.bind_eq_some_iff.mp hF
      refine c_X11_119 rfl hsc_k3.1 (by exact ltG hG (by have := hsc_k3.2.2.2.2.1; omega)) (Nat.le_of_ble_eq_true rfl) dX11_hold_21 (s_X8_become _ q4_e hG (by first | assumption | exact sc_30 | exact sc_34 | exact sc_10 | exact fd_24 | exact fd_4 | exact lw_25 | exact lw_5 | exact bd_23 | exact bd_3 | exact ⟨by first | assumption | rfl, by first | decide | omega⟩) (by first | assumption | exact sc_30 | exact sc_34 | exact sc_10 | exact fd_24 | exact fd_4 | exact lw_25 | exact lw_5 | exact bd_23 | exact bd_3 | exact ⟨by first | assumption | rfl, by first | decide | omega⟩)) (fun r1 h1 hq => ?_)
      obtain ⟨rfl, hq, hG⟩ := hq
      replace hq := hq.symm
      subst hq
      simp only [Option.toList, List.nil_append]
      refine v_aload_n (i := 0) dX11_hold_24 rfl rfl ?_
      refine v_dup dX11_hold_25 rfl ?_
      refine g_X11_62 rfl sh_0 (by exact ltG hG (by decide)) dX11_hold_26 ?_
      refine v_iconst (v := 1) dX11_hold_29 (by decide) ?_
      refine v_iload_n (i := 1) dX11_hold_30 rfl rfl ?_
      refine v_ishl dX11_hold_31 ?_
      refine v_ior dX11_hold_32 ?_
      refine p_X11_62 rfl sh_0 (by exact ltG hG (by decide)) dX11_hold_33 ?_
      refine v_iconst (v := 1) dX11_hold_36 (by decide) ?_
      refine v_zreturn rfl (by decide) dX11_hold_37 ?_
      obtain ⟨rfl, rfl⟩ := Prod.mk.inj (Option.some.inj hF)
      exact ⟨rfl, rfl, hG⟩
    · rw [if_neg c2] at hF
      refine v_iconst (v := 0) dX11_hold_9 (by decide) ?_
      refine v_zreturn rfl (by decide) dX11_hold_10 ?_
      obtain ⟨rfl, rfl⟩ := Prod.mk.inj (Option.some.inj hF)
      exact ⟨rfl, rfl, hG⟩
def F_X11_isFree (n : Nat) (h : Hp) (x1 : Int32) : Option (Int32 × Hp) := ((F_X3_has n h 24 x1).bind (fun q1 => (if (q1.1 : Int32) = 0 then some (0, q1.2) else ((F_X8_isRoped n q1.2 30 x1).bind (fun q4 => (if (q4.1 : Int32) = 0 then some (1, q4.2) else some (0, q4.2)))))))
set_option maxRecDepth 100000 in
set_option maxHeartbeats 4000000 in
theorem s_X11_isFree (d : Nat) {n : Nat} {h : Hp} {x1 : Int32} {q0 : (Int32 × Hp)} (hF : F_X11_isFree n h x1 = some q0) (hG : G h)  : Kc mX11_isFree (d + 1) [.ref 0, .int x1] h (fun r1 h1 => r1 = some (.int q0.1) ∧ h1 = q0.2 ∧ G q0.2) := by
  obtain ⟨r, h'⟩ := q0
  unfold F_X11_isFree at hF
  refine Kc.of [some (.ref 0), some (.int x1)] ok_X11_isFree rfl (Nat.le_of_ble_eq_true rfl) ?_
  refine v_aload_n (i := 0) dX11_isFree_0 rfl rfl ?_
  refine g_X11_40 (q := 24) rfl sh_0 (by exact ltG hG (by decide)) (by exact rG hG r0_0_5) dX11_isFree_1 ?_
  refine v_iload_n (i := 1) dX11_isFree_4 rfl rfl ?_
  obtain ⟨q1, q1_e, hF⟩ := Option.bind_eq_some_iff.mp hF
  refine c_X11_124 rfl sh_24 (by exact ltG hG (by decide)) (Nat.le_of_ble_eq_true rfl) dX11_isFree_5 (s_X3_has _ q1_e hG (by first | assumption | exact sc_30 | exact sc_34 | exact sc_10 | exact fd_24 | exact fd_4 | exact lw_25 | exact lw_5 | exact bd_23 | exact bd_3 | exact ⟨by first | assumption | rfl, by first | decide | omega⟩)) (fun r1 h1 hq => ?_)
  obtain ⟨rfl, hq, hG⟩ := hq
  replace hq := hq.symm
  subst hq
  show V _ _ _ _ (_ :: _) _ _
  refine v_if_eq 26 dX11_isFree_8 (by decide) (fun c3 => ?_) (fun c3 => ?_)
  · rw [if_pos c3] at hF
    refine v_iconst (v := 0) dX11_isFree_26 (by decide) ?_
    refine v_zreturn rfl (by decide) dX11_isFree_27 ?_
    obtain ⟨rfl, rfl⟩ := Prod.mk.inj (Option.some.inj hF)
    exact ⟨rfl, rfl, hG⟩
  · rw [if_neg c3] at hF
    refine v_aload_n (i := 0) dX11_isFree_11 rfl rfl ?_
    refine g_X11_44 (q := 30) rfl sh_0 (by exact ltG hG (by decide)) (by exact rG hG r0_0_6) dX11_isFree_12 ?_
    refine v_iload_n (i := 1) dX11_isFree_15 rfl rfl ?_
    obtain ⟨q4, q4_e, hF⟩ := Option.bind_eq_some_iff.mp hF
    refine c_X11_146 rfl sh_30 (by exact ltG hG (by decide)) (Nat.le_of_ble_eq_true rfl) dX11_isFree_16 (s_X8_isRoped _ q4_e hG (by first | assumption | exact sc_30 | exact sc_34 | exact sc_10 | exact fd_24 | exact fd_4 | exact lw_25 | exact lw_5 | exact bd_23 | exact bd_3 | exact ⟨by first | assumption | rfl, by first | decide | omega⟩)) (fun r1 h1 hq => ?_)
    obtain ⟨rfl, hq, hG⟩ := hq
    replace hq := hq.symm
    subst hq
    show V _ _ _ _ (_ :: _) _ _
    refine v_if_ne 26 dX11_isFree_19 (by decide) (fun c6 => ?_) (fun c6 => ?_)
    · rw [if_neg c6] at hF
      refine v_iconst (v := 0) dX11_isFree_26 (by decide) ?_
      refine v_zreturn rfl (by decide) dX11_isFree_27 ?_
      obtain ⟨rfl, rfl⟩ := Prod.mk.inj (Option.some.inj hF)
      exact ⟨rfl, rfl, hG⟩
    · rw [if_pos c6] at hF
      refine v_iconst (v := 1) dX11_isFree_22 (by decide) ?_
      refine v_goto 27 dX11_isFree_23 (by decide) ?_
      refine v_zreturn rfl (by decide) dX11_isFree_27 ?_
      obtain ⟨rfl, rfl⟩ := Prod.mk.inj (Option.some.inj hF)
      exact ⟨rfl, rfl, hG⟩
def F_X11_restore (n : Nat) (h : Hp) (x1 : Int32) : Option (Int32 × Hp) := (if (x1 : Int32) < 0 then some (0, h) else (if (3 : Int32) ≤ (x1 : Int32) then some (0, h) else (if (((((((hi h 0 10) : Int32).toUInt32 >>> ((x1 : Int32).toUInt32 &&& Int32.toUInt32 31)).toInt32) : Int32) &&& (1 : Int32)) : Int32) = 0 then some (0, h) else (if ixOK x1 3 = true then ((F_X8_become n h 30 (214 + 4 * (Int32.toNatClampNeg x1))).bind (fun q5 => ((F_X6_clear n q5).bind (fun q7 => some (1, q7))))) else none))))
set_option maxRecDepth 100000 in
set_option maxHeartbeats 4000000 in
theorem s_X11_restore (d : Nat) {n : Nat} {h : Hp} {x1 : Int32} {q0 : (Int32 × Hp)} (hF : F_X11_restore n h x1 = some q0) (hG : G h)  : Kc mX11_restore (d + 2) [.ref 0, .int x1] h (fun r1 h1 => r1 = some (.int q0.1) ∧ h1 = q0.2 ∧ G q0.2) := by
  obtain ⟨r, h'⟩ := q0
  unfold F_X11_restore at hF
  refine Kc.of [some (.ref 0), some (.int x1)] ok_X11_restore rfl (Nat.le_of_ble_eq_true rfl) ?_
  refine v_iload_n (i := 1) dX11_restore_0 rfl rfl ?_
  refine v_if_lt 20 dX11_restore_1 (by decide) (fun c1 => ?_) (fun c1 => ?_)
  · rw [if_pos c1] at hF
    refine v_iconst (v := 0) dX11_restore_20 (by decide) ?_
    refine v_zreturn rfl (by decide) dX11_restore_21 ?_
    obtain ⟨rfl, rfl⟩ := Prod.mk.inj (Option.some.inj hF)
    exact ⟨rfl, rfl, hG⟩
  · rw [if_neg c1] at hF
    refine v_iload_n (i := 1) dX11_restore_4 rfl rfl ?_
    refine v_iconst (v := 3) dX11_restore_5 (by decide) ?_
    refine v_icmp_ge 20 dX11_restore_6 (by decide) (fun c2 => ?_) (fun c2 => ?_)
    · rw [if_pos c2] at hF
      refine v_iconst (v := 0) dX11_restore_20 (by decide) ?_
      refine v_zreturn rfl (by decide) dX11_restore_21 ?_
      obtain ⟨rfl, rfl⟩ := Prod.mk.inj (Option.some.inj hF)
      exact ⟨rfl, rfl, hG⟩
    · rw [if_neg c2] at hF
      refine v_aload_n (i := 0) dX11_restore_9 rfl rfl ?_
      refine g_X11_62 rfl sh_0 (by exact ltG hG (by decide)) dX11_restore_10 ?_
      refine v_iload_n (i := 1) dX11_restore_13 rfl rfl ?_
      refine v_iushr dX11_restore_14 ?_
      refine v_iconst (v := 1) dX11_restore_15 (by decide) ?_
      refine v_iand dX11_restore_16 ?_
      refine v_if_ne 22 dX11_restore_17 (by decide) (fun c3 => ?_) (fun c3 => ?_)
      · rw [if_neg c3] at hF
        refine v_aload_n (i := 0) dX11_restore_22 rfl rfl ?_
        refine g_X11_44 (q := 30) rfl sh_0 (by exact ltG hG (by decide)) (by exact rG hG r0_0_6) dX11_restore_23 ?_
        refine v_aload_n (i := 0) dX11_restore_26 rfl rfl ?_
        refine g_X11_58 (q := 200) rfl sh_0 (by exact ltG hG (by decide)) (by exact rG hG r0_0_9) dX11_restore_27 ?_
        refine v_iload_n (i := 1) dX11_restore_30 rfl rfl ?_
        obtain ⟨k4, hF⟩ := ck_some hF
        have hsc_k4 := scSlot (ixO_lt k4)
        refine v_aaload (q := (214 + 4 * (Int32.toNatClampNeg x1))) sh_200 (by exact ltG hG (by decide)) (ixO k4) (rSlot hG (ixO_lt k4)) dX11_restore_31 ?_
        obtain ⟨q5, q5_e, hF⟩ := Option.bind_eq_some_iff.mp hF
        refine c_X11_119 rfl sh_30 (by exact ltG hG (by decide)) (Nat.le_of_ble_eq_true rfl) dX11_restore_32 (s_X8_become _ q5_e hG (by first | assumption | exact sc_30 | exact sc_34 | exact sc_10 | exact fd_24 | exact fd_4 | exact lw_25 | exact lw_5 | exact bd_23 | exact bd_3 | exact ⟨by first | assumption | rfl, by first | decide | omega⟩) (by first | assumption | exact sc_30 | exact sc_34 | exact sc_10 | exact fd_24 | exact fd_4 | exact lw_25 | exact lw_5 | exact bd_23 | exact bd_3 | exact ⟨by first | assumption | rfl, by first | decide | omega⟩)) (fun r1 h1 hq => ?_)
        obtain ⟨rfl, hq, hG⟩ := hq
        replace hq := hq.symm
        subst hq
        simp only [Option.toList, List.nil_append]
        refine v_aload_n (i := 0) dX11_restore_35 rfl rfl ?_
        refine g_X11_54 (q := 38) rfl sh_0 (by exact ltG hG (by decide)) (by exact rG hG r0_0_8) dX11_restore_36 ?_
        obtain ⟨q7, q7_e, hF⟩ := Option.bind_eq_some_iff.mp hF
        refine c_X11_122 rfl sh_38 (by exact ltG hG (by decide)) (Nat.le_of_ble_eq_true rfl) dX11_restore_39 (s_X6_clear _ q7_e hG) (fun r1 h1 hq => ?_)
        obtain ⟨rfl, hq, hG⟩ := hq
        replace hq := hq.symm
        subst hq
        simp only [Option.toList, List.nil_append]
        refine v_iconst (v := 1) dX11_restore_42 (by decide) ?_
        refine v_zreturn rfl (by decide) dX11_restore_43 ?_
        obtain ⟨rfl, rfl⟩ := Prod.mk.inj (Option.some.inj hF)
        exact ⟨rfl, rfl, hG⟩
      · rw [if_pos c3] at hF
        refine v_iconst (v := 0) dX11_restore_20 (by decide) ?_
        refine v_zreturn rfl (by decide) dX11_restore_21 ?_
        obtain ⟨rfl, rfl⟩ := Prod.mk.inj (Option.some.inj hF)
        exact ⟨rfl, rfl, hG⟩
def F_X11_tell (n : Nat) (h : Hp) (x1 : Int32) (x2 : Int32) : Option (Int32 × Hp) := ((F_X2_keep n h x1 x2).bind (fun q1 => some (q1.1, q1.2)))
set_option maxRecDepth 100000 in
set_option maxHeartbeats 4000000 in
theorem s_X11_tell (d : Nat) {n : Nat} {h : Hp} {x1 : Int32} {x2 : Int32} {q0 : (Int32 × Hp)} (hF : F_X11_tell n h x1 x2 = some q0) (hG : G h)  : Kc mX11_tell (d + 1) [.ref 0, .int x1, .int x2] h (fun r1 h1 => r1 = some (.int q0.1) ∧ h1 = q0.2 ∧ G q0.2) := by
  obtain ⟨r, h'⟩ := q0
  unfold F_X11_tell at hF
  refine Kc.of [some (.ref 0), some (.int x1), some (.int x2)] ok_X11_tell rfl (Nat.le_of_ble_eq_true rfl) ?_
  refine v_aload_n (i := 0) dX11_tell_0 rfl rfl ?_
  refine g_X11_68 (q := 201) rfl sh_0 (by exact ltG hG (by decide)) (by exact rG hG r0_0_11) dX11_tell_1 ?_
  refine v_iload_n (i := 1) dX11_tell_4 rfl rfl ?_
  refine v_iload_n (i := 2) dX11_tell_5 rfl rfl ?_
  obtain ⟨q1, q1_e, hF⟩ := Option.bind_eq_some_iff.mp hF
  refine c_X11_304 rfl sh_201 (by exact ltG hG (by decide)) (Nat.le_of_ble_eq_true rfl) dX11_tell_6 (s_X2_keep _ q1_e hG) (fun r1 h1 hq => ?_)
  obtain ⟨rfl, hq, hG⟩ := hq
  replace hq := hq.symm
  subst hq
  show V _ _ _ _ (_ :: _) _ _
  refine v_ireturn rfl dX11_tell_9 ?_
  obtain ⟨rfl, rfl⟩ := Prod.mk.inj (Option.some.inj hF)
  exact ⟨rfl, rfl, hG⟩
def F_X12_areFree (n : Nat) (h : Hp) (x1 : Int32) (x2 : Int32) : Option (Int32 × Hp) := ((F_X12_isCell n h x1).bind (fun q1 => (if (q1.1 : Int32) = 0 then some (0, q1.2) else ((F_X12_isCell n q1.2 x2).bind (fun q4 => (if (q4.1 : Int32) = 0 then some (0, q4.2) else (if ((((((hi q4.2 262 50) : Int32) >>> ((x1 : Int32) &&& 31)) : Int32) &&& (1 : Int32)) : Int32) = 0 then (if ((((((hi q4.2 262 50) : Int32) >>> ((x2 : Int32) &&& 31)) : Int32) &&& (1 : Int32)) : Int32) = 0 then some (1, q4.2) else some (0, q4.2)) else some (0, q4.2))))))))
set_option maxRecDepth 100000 in
set_option maxHeartbeats 4000000 in
theorem s_X12_areFree (d : Nat) {n : Nat} {h : Hp} {x1 : Int32} {x2 : Int32} {q0 : (Int32 × Hp)} (hF : F_X12_areFree n h x1 x2 = some q0) (hG : G h)  : Kc mX12_areFree (d + 2) [.ref 226, .int x1, .int x2] h (fun r1 h1 => r1 = some (.int q0.1) ∧ h1 = q0.2 ∧ G q0.2) := by
  obtain ⟨r, h'⟩ := q0
  unfold F_X12_areFree at hF
  refine Kc.of [some (.ref 226), some (.int x1), some (.int x2)] ok_X12_areFree rfl (Nat.le_of_ble_eq_true rfl) ?_
  refine v_aload_n (i := 0) dX12_areFree_0 rfl rfl ?_
  refine v_iload_n (i := 1) dX12_areFree_1 rfl rfl ?_
  obtain ⟨q1, q1_e, hF⟩ := Option.bind_eq_some_iff.mp hF
  refine c_X12_403 rfl sh_226 (by exact ltG hG (by decide)) (Nat.le_of_ble_eq_true rfl) dX12_areFree_2 (s_X12_isCell _ q1_e hG) (fun r1 h1 hq => ?_)
  obtain ⟨rfl, hq, hG⟩ := hq
  replace hq := hq.symm
  subst hq
  show V _ _ _ _ (_ :: _) _ _
  refine v_if_eq 48 dX12_areFree_5 (by decide) (fun c3 => ?_) (fun c3 => ?_)
  · rw [if_pos c3] at hF
    refine v_iconst (v := 0) dX12_areFree_48 (by decide) ?_
    refine v_zreturn rfl (by decide) dX12_areFree_49 ?_
    obtain ⟨rfl, rfl⟩ := Prod.mk.inj (Option.some.inj hF)
    exact ⟨rfl, rfl, hG⟩
  · rw [if_neg c3] at hF
    refine v_aload_n (i := 0) dX12_areFree_8 rfl rfl ?_
    refine v_iload_n (i := 2) dX12_areFree_9 rfl rfl ?_
    obtain ⟨q4, q4_e, hF⟩ := Option.bind_eq_some_iff.mp hF
    refine c_X12_403 rfl sh_226 (by exact ltG hG (by decide)) (Nat.le_of_ble_eq_true rfl) dX12_areFree_10 (s_X12_isCell _ q4_e hG) (fun r1 h1 hq => ?_)
    obtain ⟨rfl, hq, hG⟩ := hq
    replace hq := hq.symm
    subst hq
    show V _ _ _ _ (_ :: _) _ _
    refine v_if_eq 48 dX12_areFree_13 (by decide) (fun c6 => ?_) (fun c6 => ?_)
    · rw [if_pos c6] at hF
      refine v_iconst (v := 0) dX12_areFree_48 (by decide) ?_
      refine v_zreturn rfl (by decide) dX12_areFree_49 ?_
      obtain ⟨rfl, rfl⟩ := Prod.mk.inj (Option.some.inj hF)
      exact ⟨rfl, rfl, hG⟩
    · rw [if_neg c6] at hF
      refine v_aload_n (i := 0) dX12_areFree_16 rfl rfl ?_
      refine g_X12_125 (q := 262) rfl sh_226 (by exact ltG hG (by decide)) (by exact rG hG r0_226_53) dX12_areFree_17 ?_
      refine v_bipush (v := 50) dX12_areFree_20 (by decide) ?_
      refine v_iaload sh_262 (by exact ltG hG (by decide)) (ixK 50 (by decide)) dX12_areFree_22 ?_
      refine v_iload_n (i := 1) dX12_areFree_23 rfl rfl ?_
      refine v_ishr dX12_areFree_24 ?_
      refine v_iconst (v := 1) dX12_areFree_25 (by decide) ?_
      refine v_iand dX12_areFree_26 ?_
      refine v_if_ne 48 dX12_areFree_27 (by decide) (fun c7 => ?_) (fun c7 => ?_)
      · rw [if_neg c7] at hF
        refine v_iconst (v := 0) dX12_areFree_48 (by decide) ?_
        refine v_zreturn rfl (by decide) dX12_areFree_49 ?_
        obtain ⟨rfl, rfl⟩ := Prod.mk.inj (Option.some.inj hF)
        exact ⟨rfl, rfl, hG⟩
      · rw [if_pos c7] at hF
        refine v_aload_n (i := 0) dX12_areFree_30 rfl rfl ?_
        refine g_X12_125 (q := 262) rfl sh_226 (by exact ltG hG (by decide)) (by exact rG hG r0_226_53) dX12_areFree_31 ?_
        refine v_bipush (v := 50) dX12_areFree_34 (by decide) ?_
        refine v_iaload sh_262 (by exact ltG hG (by decide)) (ixK 50 (by decide)) dX12_areFree_36 ?_
        refine v_iload_n (i := 2) dX12_areFree_37 rfl rfl ?_
        refine v_ishr dX12_areFree_38 ?_
        refine v_iconst (v := 1) dX12_areFree_39 (by decide) ?_
        refine v_iand dX12_areFree_40 ?_
        refine v_if_ne 48 dX12_areFree_41 (by decide) (fun c8 => ?_) (fun c8 => ?_)
        · rw [if_neg c8] at hF
          refine v_iconst (v := 0) dX12_areFree_48 (by decide) ?_
          refine v_zreturn rfl (by decide) dX12_areFree_49 ?_
          obtain ⟨rfl, rfl⟩ := Prod.mk.inj (Option.some.inj hF)
          exact ⟨rfl, rfl, hG⟩
        · rw [if_pos c8] at hF
          refine v_iconst (v := 1) dX12_areFree_44 (by decide) ?_
          refine v_goto 49 dX12_areFree_45 (by decide) ?_
          refine v_zreturn rfl (by decide) dX12_areFree_49 ?_
          obtain ⟨rfl, rfl⟩ := Prod.mk.inj (Option.some.inj hF)
          exact ⟨rfl, rfl, hG⟩
def W_X12_begins : Nat → Nat → Hp → Int32 → Option Hp
  | 0 => fun _ _ _ => none
  | n + 1 => fun hd h l1 => (if hd = 2 then (if (63 : Int32) ≤ (l1 : Int32) then W_X12_begins n 29 h  (8 * (hi h 226 18)) else (if ixOK l1 63 = true then W_X12_begins n 2 (wrI h 263 (Int32.toNatClampNeg l1) 0)  (l1 + 1) else none)) else (if hd = 29 then (if ixOK (hi h 226 18) 2 = true then (if (((8 * (hi h 226 18)) + (hi h 237 (Int32.toNatClampNeg (hi h 226 18)))) : Int32) ≤ (l1 : Int32) then W_X12_begins n 121 h  (8 * (hi h 226 18)) else (if ixOK l1 16 = true then (if ixOK l1 16 = true then ((F_X12_cellAt n h (hi h 238 (Int32.toNatClampNeg l1)) (hi h 239 (Int32.toNatClampNeg l1))).bind (fun q7 => (if ixOK l1 16 = true then (if ixOK q7.1 63 = true then (if ixOK l1 16 = true then (if ixOK l1 16 = true then ((F_X12_cellAt n (wrI q7.2 263 (Int32.toNatClampNeg q7.1) (hi q7.2 240 (Int32.toNatClampNeg l1))) (hi (wrI q7.2 263 (Int32.toNatClampNeg q7.1) (hi q7.2 240 (Int32.toNatClampNeg l1))) 238 (Int32.toNatClampNeg l1)) (hi (wrI q7.2 263 (Int32.toNatClampNeg q7.1) (hi q7.2 240 (Int32.toNatClampNeg l1))) 239 (Int32.toNatClampNeg l1))).bind (fun q13 => (if ixOK l1 16 = true then (if ixOK (25 + q13.1) 63 = true then W_X12_begins n 29 (wrI q13.2 263 (Int32.toNatClampNeg (25 + q13.1)) (hi q13.2 241 (Int32.toNatClampNeg l1)))  (l1 + 1) else none) else none))) else none) else none) else none) else none))) else none) else none)) else none) else (if hd = 121 then (if ixOK (hi h 226 18) 2 = true then (if (((8 * (hi h 226 18)) + (hi h 245 (Int32.toNatClampNeg (hi h 226 18)))) : Int32) ≤ (l1 : Int32) then W_X12_begins n 178 h  0 else (if ixOK l1 16 = true then (if ixOK l1 16 = true then ((F_X12_cellAt n h (hi h 246 (Int32.toNatClampNeg l1)) (hi h 247 (Int32.toNatClampNeg l1))).bind (fun q21 => W_X12_begins n 121 (wrI q21.2 263 50 (((hi h 263 50) : Int32) ||| (((1 : Int32) <<< ((q21.1 : Int32) &&& 31)) : Int32)))  (l1 + 1))) else none) else none)) else none) else (if hd = 178 then (if ixOK (hi h 226 18) 2 = true then (if ((hi h 242 (Int32.toNatClampNeg (hi h 226 18))) : Int32) ≤ (l1 : Int32) then (if ixOK (hi h 226 18) 2 = true then ((F_X12_fillsSides n (wrI (wrI h 226 55 (hi h 249 (Int32.toNatClampNeg (hi h 226 18)))) 226 56 0)).bind (fun q26 => some q26)) else none) else (if ixOK ((5 * (hi h 226 18)) + l1) 10 = true then (if ixOK ((5 * (hi h 226 18)) + l1) 10 = true then ((F_X12_cellAt n h (hi h 243 (Int32.toNatClampNeg ((5 * (hi h 226 18)) + l1))) (hi h 244 (Int32.toNatClampNeg ((5 * (hi h 226 18)) + l1)))).bind (fun q30 => (if ixOK (51 + l1) 63 = true then W_X12_begins n 178 (wrI q30.2 263 (Int32.toNatClampNeg (51 + l1)) q30.1)  (l1 + 1) else none))) else none) else none)) else none) else none))))
set_option maxRecDepth 100000 in
set_option maxHeartbeats 4000000 in
theorem sw_X12_begins (d : Nat)  (n : Nat) : (∀ (l1 : Int32) (h : Hp), ∀ (h' : Hp), W_X12_begins n 2 h  l1 = some h' → G h → V mX12_begins (d + 2) 2 [some (.ref 226), some (.int l1)] [] h (fun r1 h1 => r1 = none ∧ h1 = h' ∧ G h')) ∧ (∀ (l1 : Int32) (h : Hp), ∀ (h' : Hp), W_X12_begins n 29 h  l1 = some h' → G h → V mX12_begins (d + 2) 29 [some (.ref 226), some (.int l1)] [] h (fun r1 h1 => r1 = none ∧ h1 = h' ∧ G h')) ∧ (∀ (l1 : Int32) (h : Hp), ∀ (h' : Hp), W_X12_begins n 121 h  l1 = some h' → G h → V mX12_begins (d + 2) 121 [some (.ref 226), some (.int l1)] [] h (fun r1 h1 => r1 = none ∧ h1 = h' ∧ G h')) ∧ (∀ (l1 : Int32) (h : Hp), ∀ (h' : Hp), W_X12_begins n 178 h  l1 = some h' → G h → V mX12_begins (d + 2) 178 [some (.ref 226), some (.int l1)] [] h (fun r1 h1 => r1 = none ∧ h1 = h' ∧ G h')) := by
  induction n with
  | zero => exact ⟨by intros; contradiction, by intros; contradiction, by intros; contradiction, by intros; contradiction⟩
  | succ n ih =>
    obtain ⟨s_X12_begins_IH_2, s_X12_begins_IH_29, s_X12_begins_IH_121, s_X12_begins_IH_178⟩ := ih
    refine ⟨?_, ?_, ?_, ?_⟩
    · intro l1 h h' hF hG
      unfold W_X12_begins at hF
      rw [if_pos rfl] at hF
      refine v_iload_n (i := 1) dX12_begins_2 rfl rfl ?_
      refine v_bipush (v := 63) dX12_begins_3 (by decide) ?_
      refine v_icmp_ge 21 dX12_begins_5 (by decide) (fun c1 => ?_) (fun c1 => ?_)
      · rw [if_pos c1] at hF
        refine v_bipush (v := 8) dX12_begins_21 (by decide) ?_
        refine v_aload_n (i := 0) dX12_begins_23 rfl rfl ?_
        refine g_X12_245 rfl sh_226 (by exact ltG hG (by decide)) dX12_begins_24 ?_
        refine v_imul dX12_begins_27 ?_
        refine v_istore_n (i := 1) dX12_begins_28 rfl (by decide) (nlT rfl) ?_
        simp only [List.set_cons_zero, List.set_cons_succ]
        refine V.weak (la2 := [some (.ref 226), some (.int (8 * (hi h 226 18)))]) (by simp [wk]) ?_
        exact (s_X12_begins_IH_29) _ _ _ hF hG
      · rw [if_neg c1] at hF
        refine v_aload_n (i := 0) dX12_begins_8 rfl rfl ?_
        refine g_X12_128 (q := 263) rfl sh_226 (by exact ltG hG (by decide)) (by exact rG hG r0_226_54) dX12_begins_9 ?_
        refine v_iload_n (i := 1) dX12_begins_12 rfl rfl ?_
        refine v_iconst (v := 0) dX12_begins_13 (by decide) ?_
        obtain ⟨k2, hF⟩ := ck_some hF
        refine v_iastore sh_263 (by exact ltG hG (by decide)) (ixO k2) dX12_begins_14 ?_
        refine v_iinc (i := 1) (v := (l1 + 1)) dX12_begins_15 rfl rfl (by decide) (nlT rfl) ?_
        simp only [List.set_cons_zero, List.set_cons_succ]
        refine v_goto 2 dX12_begins_18 (by decide) ?_
        refine V.weak (la2 := [some (.ref 226), some (.int (l1 + 1))]) (by simp [wk]) ?_
        exact (s_X12_begins_IH_2) _ _ _ hF hG
    · intro l1 h h' hF hG
      unfold W_X12_begins at hF
      rw [if_neg (by decide)] at hF
      rw [if_pos rfl] at hF
      refine v_iload_n (i := 1) dX12_begins_29 rfl rfl ?_
      refine v_bipush (v := 8) dX12_begins_30 (by decide) ?_
      refine v_aload_n (i := 0) dX12_begins_32 rfl rfl ?_
      refine g_X12_245 rfl sh_226 (by exact ltG hG (by decide)) dX12_begins_33 ?_
      refine v_imul dX12_begins_36 ?_
      refine v_aload_n (i := 0) dX12_begins_37 rfl rfl ?_
      refine g_X12_49 (q := 237) rfl sh_226 (by exact ltG hG (by decide)) (by exact rG hG r0_226_24) dX12_begins_38 ?_
      refine v_aload_n (i := 0) dX12_begins_41 rfl rfl ?_
      refine g_X12_245 rfl sh_226 (by exact ltG hG (by decide)) dX12_begins_42 ?_
      obtain ⟨k3, hF⟩ := ck_some hF
      refine v_iaload sh_237 (by exact ltG hG (by decide)) (ixO k3) dX12_begins_45 ?_
      refine v_iadd dX12_begins_46 ?_
      refine v_icmp_ge 113 dX12_begins_47 (by decide) (fun c4 => ?_) (fun c4 => ?_)
      · rw [if_pos c4] at hF
        refine v_bipush (v := 8) dX12_begins_113 (by decide) ?_
        refine v_aload_n (i := 0) dX12_begins_115 rfl rfl ?_
        refine g_X12_245 rfl sh_226 (by exact ltG hG (by decide)) dX12_begins_116 ?_
        refine v_imul dX12_begins_119 ?_
        refine v_istore_n (i := 1) dX12_begins_120 rfl (by decide) (nlT rfl) ?_
        simp only [List.set_cons_zero, List.set_cons_succ]
        refine V.weak (la2 := [some (.ref 226), some (.int (8 * (hi h 226 18)))]) (by simp [wk]) ?_
        exact (s_X12_begins_IH_121) _ _ _ hF hG
      · rw [if_neg c4] at hF
        refine v_aload_n (i := 0) dX12_begins_50 rfl rfl ?_
        refine g_X12_128 (q := 263) rfl sh_226 (by exact ltG hG (by decide)) (by exact rG hG r0_226_54) dX12_begins_51 ?_
        refine v_aload_n (i := 0) dX12_begins_54 rfl rfl ?_
        refine v_aload_n (i := 0) dX12_begins_55 rfl rfl ?_
        refine g_X12_52 (q := 238) rfl sh_226 (by exact ltG hG (by decide)) (by exact rG hG r0_226_25) dX12_begins_56 ?_
        refine v_iload_n (i := 1) dX12_begins_59 rfl rfl ?_
        obtain ⟨k5, hF⟩ := ck_some hF
        refine v_iaload sh_238 (by exact ltG hG (by decide)) (ixO k5) dX12_begins_60 ?_
        refine v_aload_n (i := 0) dX12_begins_61 rfl rfl ?_
        refine g_X12_55 (q := 239) rfl sh_226 (by exact ltG hG (by decide)) (by exact rG hG r0_226_26) dX12_begins_62 ?_
        refine v_iload_n (i := 1) dX12_begins_65 rfl rfl ?_
        obtain ⟨k6, hF⟩ := ck_some hF
        refine v_iaload sh_239 (by exact ltG hG (by decide)) (ixO k6) dX12_begins_66 ?_
        obtain ⟨q7, q7_e, hF⟩ := Option.bind_eq_some_iff.mp hF
        refine c_X12_334 rfl sh_226 (by exact ltG hG (by decide)) (Nat.le_of_ble_eq_true rfl) dX12_begins_67 (s_X12_cellAt _ q7_e hG) (fun r1 h1 hq => ?_)
        obtain ⟨rfl, hq, hG⟩ := hq
        replace hq := hq.symm
        subst hq
        show V _ _ _ _ (_ :: _) _ _
        refine v_aload_n (i := 0) dX12_begins_70 rfl rfl ?_
        refine g_X12_58 (q := 240) rfl sh_226 (by exact ltG hG (by decide)) (by exact rG hG r0_226_27) dX12_begins_71 ?_
        refine v_iload_n (i := 1) dX12_begins_74 rfl rfl ?_
        obtain ⟨k9, hF⟩ := ck_some hF
        refine v_iaload sh_240 (by exact ltG hG (by decide)) (ixO k9) dX12_begins_75 ?_
        obtain ⟨k10, hF⟩ := ck_some hF
        refine v_iastore sh_263 (by exact ltG hG (by decide)) (ixO k10) dX12_begins_76 ?_
        refine v_aload_n (i := 0) dX12_begins_77 rfl rfl ?_
        refine g_X12_128 (q := 263) rfl sh_226 (by exact ltG hG (by decide)) (by exact rG hG r0_226_54) dX12_begins_78 ?_
        refine v_bipush (v := 25) dX12_begins_81 (by decide) ?_
        refine v_aload_n (i := 0) dX12_begins_83 rfl rfl ?_
        refine v_aload_n (i := 0) dX12_begins_84 rfl rfl ?_
        refine g_X12_52 (q := 238) rfl sh_226 (by exact ltG hG (by decide)) (by exact rG hG r0_226_25) dX12_begins_85 ?_
        refine v_iload_n (i := 1) dX12_begins_88 rfl rfl ?_
        obtain ⟨k11, hF⟩ := ck_some hF
        refine v_iaload sh_238 (by exact ltG hG (by decide)) (ixO k11) dX12_begins_89 ?_
        refine v_aload_n (i := 0) dX12_begins_90 rfl rfl ?_
        refine g_X12_55 (q := 239) rfl sh_226 (by exact ltG hG (by decide)) (by exact rG hG r0_226_26) dX12_begins_91 ?_
        refine v_iload_n (i := 1) dX12_begins_94 rfl rfl ?_
        obtain ⟨k12, hF⟩ := ck_some hF
        refine v_iaload sh_239 (by exact ltG hG (by decide)) (ixO k12) dX12_begins_95 ?_
        obtain ⟨q13, q13_e, hF⟩ := Option.bind_eq_some_iff.mp hF
        refine c_X12_334 rfl sh_226 (by exact ltG hG (by decide)) (Nat.le_of_ble_eq_true rfl) dX12_begins_96 (s_X12_cellAt _ q13_e hG) (fun r1 h1 hq => ?_)
        obtain ⟨rfl, hq, hG⟩ := hq
        replace hq := hq.symm
        subst hq
        show V _ _ _ _ (_ :: _) _ _
        refine v_iadd dX12_begins_99 ?_
        refine v_aload_n (i := 0) dX12_begins_100 rfl rfl ?_
        refine g_X12_61 (q := 241) rfl sh_226 (by exact ltG hG (by decide)) (by exact rG hG r0_226_28) dX12_begins_101 ?_
        refine v_iload_n (i := 1) dX12_begins_104 rfl rfl ?_
        obtain ⟨k15, hF⟩ := ck_some hF
        refine v_iaload sh_241 (by exact ltG hG (by decide)) (ixO k15) dX12_begins_105 ?_
        obtain ⟨k16, hF⟩ := ck_some hF
        refine v_iastore sh_263 (by exact ltG hG (by decide)) (ixO k16) dX12_begins_106 ?_
        refine v_iinc (i := 1) (v := (l1 + 1)) dX12_begins_107 rfl rfl (by decide) (nlT rfl) ?_
        simp only [List.set_cons_zero, List.set_cons_succ]
        refine v_goto 29 dX12_begins_110 (by decide) ?_
        refine V.weak (la2 := [some (.ref 226), some (.int (l1 + 1))]) (by simp [wk]) ?_
        exact (s_X12_begins_IH_29) _ _ _ hF hG
    · intro l1 h h' hF hG
      unfold W_X12_begins at hF
      rw [if_neg (by decide)] at hF
      rw [if_neg (by decide)] at hF
      rw [if_pos rfl] at hF
      refine v_iload_n (i := 1) dX12_begins_121 rfl rfl ?_
      refine v_bipush (v := 8) dX12_begins_122 (by decide) ?_
      refine v_aload_n (i := 0) dX12_begins_124 rfl rfl ?_
      refine g_X12_245 rfl sh_226 (by exact ltG hG (by decide)) dX12_begins_125 ?_
      refine v_imul dX12_begins_128 ?_
      refine v_aload_n (i := 0) dX12_begins_129 rfl rfl ?_
      refine g_X12_73 (q := 245) rfl sh_226 (by exact ltG hG (by decide)) (by exact rG hG r0_226_32) dX12_begins_130 ?_
      refine v_aload_n (i := 0) dX12_begins_133 rfl rfl ?_
      refine g_X12_245 rfl sh_226 (by exact ltG hG (by decide)) dX12_begins_134 ?_
      obtain ⟨k17, hF⟩ := ck_some hF
      refine v_iaload sh_245 (by exact ltG hG (by decide)) (ixO k17) dX12_begins_137 ?_
      refine v_iadd dX12_begins_138 ?_
      refine v_icmp_ge 176 dX12_begins_139 (by decide) (fun c18 => ?_) (fun c18 => ?_)
      · rw [if_pos c18] at hF
        refine v_iconst (v := 0) dX12_begins_176 (by decide) ?_
        refine v_istore_n (i := 1) dX12_begins_177 rfl (by decide) (nlT rfl) ?_
        simp only [List.set_cons_zero, List.set_cons_succ]
        refine V.weak (la2 := [some (.ref 226), some (.int 0)]) (by simp [wk]) ?_
        exact (s_X12_begins_IH_178) _ _ _ hF hG
      · rw [if_neg c18] at hF
        refine v_aload_n (i := 0) dX12_begins_142 rfl rfl ?_
        refine g_X12_128 (q := 263) rfl sh_226 (by exact ltG hG (by decide)) (by exact rG hG r0_226_54) dX12_begins_143 ?_
        refine v_bipush (v := 50) dX12_begins_146 (by decide) ?_
        refine v_dup2 dX12_begins_148 rfl rfl ?_
        refine v_iaload sh_263 (by exact ltG hG (by decide)) (ixK 50 (by decide)) dX12_begins_149 ?_
        refine v_iconst (v := 1) dX12_begins_150 (by decide) ?_
        refine v_aload_n (i := 0) dX12_begins_151 rfl rfl ?_
        refine v_aload_n (i := 0) dX12_begins_152 rfl rfl ?_
        refine g_X12_76 (q := 246) rfl sh_226 (by exact ltG hG (by decide)) (by exact rG hG r0_226_33) dX12_begins_153 ?_
        refine v_iload_n (i := 1) dX12_begins_156 rfl rfl ?_
        obtain ⟨k19, hF⟩ := ck_some hF
        refine v_iaload sh_246 (by exact ltG hG (by decide)) (ixO k19) dX12_begins_157 ?_
        refine v_aload_n (i := 0) dX12_begins_158 rfl rfl ?_
        refine g_X12_79 (q := 247) rfl sh_226 (by exact ltG hG (by decide)) (by exact rG hG r0_226_34) dX12_begins_159 ?_
        refine v_iload_n (i := 1) dX12_begins_162 rfl rfl ?_
        obtain ⟨k20, hF⟩ := ck_some hF
        refine v_iaload sh_247 (by exact ltG hG (by decide)) (ixO k20) dX12_begins_163 ?_
        obtain ⟨q21, q21_e, hF⟩ := Option.bind_eq_some_iff.mp hF
        refine c_X12_334 rfl sh_226 (by exact ltG hG (by decide)) (Nat.le_of_ble_eq_true rfl) dX12_begins_164 (s_X12_cellAt _ q21_e hG) (fun r1 h1 hq => ?_)
        obtain ⟨rfl, hq, hG⟩ := hq
        replace hq := hq.symm
        subst hq
        show V _ _ _ _ (_ :: _) _ _
        refine v_ishl dX12_begins_167 ?_
        refine v_ior dX12_begins_168 ?_
        refine v_iastore sh_263 (by exact ltG hG (by decide)) (ixK 50 (by decide)) dX12_begins_169 ?_
        refine v_iinc (i := 1) (v := (l1 + 1)) dX12_begins_170 rfl rfl (by decide) (nlT rfl) ?_
        simp only [List.set_cons_zero, List.set_cons_succ]
        refine v_goto 121 dX12_begins_173 (by decide) ?_
        refine V.weak (la2 := [some (.ref 226), some (.int (l1 + 1))]) (by simp [wk]) ?_
        exact (s_X12_begins_IH_121) _ _ _ hF hG
    · intro l1 h h' hF hG
      unfold W_X12_begins at hF
      rw [if_neg (by decide)] at hF
      rw [if_neg (by decide)] at hF
      rw [if_neg (by decide)] at hF
      rw [if_pos rfl] at hF
      refine v_iload_n (i := 1) dX12_begins_178 rfl rfl ?_
      refine v_aload_n (i := 0) dX12_begins_179 rfl rfl ?_
      refine g_X12_64 (q := 242) rfl sh_226 (by exact ltG hG (by decide)) (by exact rG hG r0_226_29) dX12_begins_180 ?_
      refine v_aload_n (i := 0) dX12_begins_183 rfl rfl ?_
      refine g_X12_245 rfl sh_226 (by exact ltG hG (by decide)) dX12_begins_184 ?_
      obtain ⟨k23, hF⟩ := ck_some hF
      refine v_iaload sh_242 (by exact ltG hG (by decide)) (ixO k23) dX12_begins_187 ?_
      refine v_icmp_ge 236 dX12_begins_188 (by decide) (fun c24 => ?_) (fun c24 => ?_)
      · rw [if_pos c24] at hF
        refine v_aload_n (i := 0) dX12_begins_236 rfl rfl ?_
        refine v_aload_n (i := 0) dX12_begins_237 rfl rfl ?_
        refine g_X12_85 (q := 249) rfl sh_226 (by exact ltG hG (by decide)) (by exact rG hG r0_226_36) dX12_begins_238 ?_
        refine v_aload_n (i := 0) dX12_begins_241 rfl rfl ?_
        refine g_X12_245 rfl sh_226 (by exact ltG hG (by decide)) dX12_begins_242 ?_
        obtain ⟨k25, hF⟩ := ck_some hF
        refine v_iaload sh_249 (by exact ltG hG (by decide)) (ixO k25) dX12_begins_245 ?_
        refine p_X12_337 rfl sh_226 (by exact ltG hG (by decide)) dX12_begins_246 ?_
        refine v_aload_n (i := 0) dX12_begins_249 rfl rfl ?_
        refine v_iconst (v := 0) dX12_begins_250 (by decide) ?_
        refine p_X12_340 rfl sh_226 (by exact ltG hG (by decide)) (by decide) dX12_begins_251 ?_
        refine v_aload_n (i := 0) dX12_begins_254 rfl rfl ?_
        obtain ⟨q26, q26_e, hF⟩ := Option.bind_eq_some_iff.mp hF
        refine c_X12_343 rfl sh_226 (by exact ltG hG (by decide)) (Nat.le_of_ble_eq_true rfl) dX12_begins_255 (s_X12_fillsSides _ q26_e hG) (fun r1 h1 hq => ?_)
        obtain ⟨rfl, hq, hG⟩ := hq
        replace hq := hq.symm
        subst hq
        simp only [Option.toList, List.nil_append]
        refine v_return rfl dX12_begins_258 ?_
        obtain rfl := Option.some.inj hF
        exact ⟨rfl, rfl, hG⟩
      · rw [if_neg c24] at hF
        refine v_aload_n (i := 0) dX12_begins_191 rfl rfl ?_
        refine g_X12_128 (q := 263) rfl sh_226 (by exact ltG hG (by decide)) (by exact rG hG r0_226_54) dX12_begins_192 ?_
        refine v_bipush (v := 51) dX12_begins_195 (by decide) ?_
        refine v_iload_n (i := 1) dX12_begins_197 rfl rfl ?_
        refine v_iadd dX12_begins_198 ?_
        refine v_aload_n (i := 0) dX12_begins_199 rfl rfl ?_
        refine v_aload_n (i := 0) dX12_begins_200 rfl rfl ?_
        refine g_X12_67 (q := 243) rfl sh_226 (by exact ltG hG (by decide)) (by exact rG hG r0_226_30) dX12_begins_201 ?_
        refine v_iconst (v := 5) dX12_begins_204 (by decide) ?_
        refine v_aload_n (i := 0) dX12_begins_205 rfl rfl ?_
        refine g_X12_245 rfl sh_226 (by exact ltG hG (by decide)) dX12_begins_206 ?_
        refine v_imul dX12_begins_209 ?_
        refine v_iload_n (i := 1) dX12_begins_210 rfl rfl ?_
        refine v_iadd dX12_begins_211 ?_
        obtain ⟨k28, hF⟩ := ck_some hF
        refine v_iaload sh_243 (by exact ltG hG (by decide)) (ixO k28) dX12_begins_212 ?_
        refine v_aload_n (i := 0) dX12_begins_213 rfl rfl ?_
        refine g_X12_70 (q := 244) rfl sh_226 (by exact ltG hG (by decide)) (by exact rG hG r0_226_31) dX12_begins_214 ?_
        refine v_iconst (v := 5) dX12_begins_217 (by decide) ?_
        refine v_aload_n (i := 0) dX12_begins_218 rfl rfl ?_
        refine g_X12_245 rfl sh_226 (by exact ltG hG (by decide)) dX12_begins_219 ?_
        refine v_imul dX12_begins_222 ?_
        refine v_iload_n (i := 1) dX12_begins_223 rfl rfl ?_
        refine v_iadd dX12_begins_224 ?_
        obtain ⟨k29, hF⟩ := ck_some hF
        refine v_iaload sh_244 (by exact ltG hG (by decide)) (ixO k29) dX12_begins_225 ?_
        obtain ⟨q30, q30_e, hF⟩ := Option.bind_eq_some_iff.mp hF
        refine c_X12_334 rfl sh_226 (by exact ltG hG (by decide)) (Nat.le_of_ble_eq_true rfl) dX12_begins_226 (s_X12_cellAt _ q30_e hG) (fun r1 h1 hq => ?_)
        obtain ⟨rfl, hq, hG⟩ := hq
        replace hq := hq.symm
        subst hq
        show V _ _ _ _ (_ :: _) _ _
        obtain ⟨k32, hF⟩ := ck_some hF
        refine v_iastore sh_263 (by exact ltG hG (by decide)) (ixO k32) dX12_begins_229 ?_
        refine v_iinc (i := 1) (v := (l1 + 1)) dX12_begins_230 rfl rfl (by decide) (nlT rfl) ?_
        simp only [List.set_cons_zero, List.set_cons_succ]
        refine v_goto 178 dX12_begins_233 (by decide) ?_
        refine V.weak (la2 := [some (.ref 226), some (.int (l1 + 1))]) (by simp [wk]) ?_
        exact (s_X12_begins_IH_178) _ _ _ hF hG
def F_X12_begins (n : Nat) (h : Hp) : Option Hp := W_X12_begins n 2 h  0
set_option maxRecDepth 100000 in
set_option maxHeartbeats 4000000 in
theorem s_X12_begins (d : Nat) {n : Nat} {h : Hp}  {q0 : Hp} (hF : F_X12_begins n h  = some q0) (hG : G h)  : Kc mX12_begins (d + 2) [.ref 226] h (fun r1 h1 => r1 = none ∧ h1 = q0 ∧ G q0) := by
  obtain ⟨h', rfl⟩ : ∃ z, z = q0 := ⟨_, rfl⟩
  obtain ⟨s_X12_begins_IH_2, s_X12_begins_IH_29, s_X12_begins_IH_121, s_X12_begins_IH_178⟩ := sw_X12_begins d   n
  unfold F_X12_begins at hF
  refine Kc.of [some (.ref 226), none] ok_X12_begins rfl (Nat.le_of_ble_eq_true rfl) ?_
  refine v_iconst (v := 0) dX12_begins_0 (by decide) ?_
  refine v_istore_n (i := 1) dX12_begins_1 rfl (by decide) (nlT rfl) ?_
  simp only [List.set_cons_zero, List.set_cons_succ]
  refine V.weak (la2 := [some (.ref 226), some (.int 0)]) (by simp [wk]) ?_
  exact (s_X12_begins_IH_2) _ _ _ hF hG
def F_X12_bounded (n : Nat) (h : Hp) (x1 : Int32) (x2 : Int32) : Option (Int32 × Hp) := (if 0 < ((hi h 226 13) : Int32) then ((F_X12_fail n h 1).bind (fun q2 => some (x1, q2))) else ((F_X12_is n h 2).bind (fun q4 => (if (q4.1 : Int32) = 0 then ((F_X12_fail n q4.2 1).bind (fun q20 => some (x1, q20))) else (if ixOK (hi q4.2 226 11) 403 = true then (if ((hi q4.2 231 (Int32.toNatClampNeg (hi q4.2 226 11))) : Int32) < (x1 : Int32) then ((F_X12_wrong n q4.2 5 (hi q4.2 226 11)).bind (fun q9 => ((F_X12_goesOn n q9).bind (fun q11 => some ((hi q4.2 231 (Int32.toNatClampNeg (hi q4.2 226 11))), q11))))) else (if ((hi q4.2 231 (Int32.toNatClampNeg (hi q4.2 226 11))) : Int32) ≤ (x2 : Int32) then ((F_X12_goesOn n q4.2).bind (fun q14 => some ((hi q4.2 231 (Int32.toNatClampNeg (hi q4.2 226 11))), q14))) else ((F_X12_wrong n q4.2 5 (hi q4.2 226 11)).bind (fun q16 => ((F_X12_goesOn n q16).bind (fun q18 => some ((hi q4.2 231 (Int32.toNatClampNeg (hi q4.2 226 11))), q18))))))) else none)))))
set_option maxRecDepth 100000 in
set_option maxHeartbeats 4000000 in
theorem s_X12_bounded (d : Nat) {n : Nat} {h : Hp} {x1 : Int32} {x2 : Int32} {q0 : (Int32 × Hp)} (hF : F_X12_bounded n h x1 x2 = some q0) (hG : G h)  : Kc mX12_bounded (d + 2) [.ref 226, .int x1, .int x2] h (fun r1 h1 => r1 = some (.int q0.1) ∧ h1 = q0.2 ∧ G q0.2) := by
  obtain ⟨r, h'⟩ := q0
  unfold F_X12_bounded at hF
  refine Kc.of [some (.ref 226), some (.int x1), some (.int x2), none] ok_X12_bounded rfl (Nat.le_of_ble_eq_true rfl) ?_
  refine v_aload_n (i := 0) dX12_bounded_0 rfl rfl ?_
  refine g_X12_215 rfl sh_226 (by exact ltG hG (by decide)) dX12_bounded_1 ?_
  refine v_if_gt 15 dX12_bounded_4 (by decide) (fun c1 => ?_) (fun c1 => ?_)
  · rw [if_pos c1] at hF
    refine v_aload_n (i := 0) dX12_bounded_15 rfl rfl ?_
    refine v_iconst (v := 1) dX12_bounded_16 (by decide) ?_
    obtain ⟨q2, q2_e, hF⟩ := Option.bind_eq_some_iff.mp hF
    refine c_X12_230 rfl sh_226 (by exact ltG hG (by decide)) (Nat.le_of_ble_eq_true rfl) dX12_bounded_17 (s_X12_fail _ q2_e hG) (fun r1 h1 hq => ?_)
    obtain ⟨rfl, hq, hG⟩ := hq
    replace hq := hq.symm
    subst hq
    simp only [Option.toList, List.nil_append]
    refine v_iload_n (i := 1) dX12_bounded_20 rfl rfl ?_
    refine v_ireturn rfl dX12_bounded_21 ?_
    obtain ⟨rfl, rfl⟩ := Prod.mk.inj (Option.some.inj hF)
    exact ⟨rfl, rfl, hG⟩
  · rw [if_neg c1] at hF
    refine v_aload_n (i := 0) dX12_bounded_7 rfl rfl ?_
    refine v_iconst (v := 2) dX12_bounded_8 (by decide) ?_
    obtain ⟨q4, q4_e, hF⟩ := Option.bind_eq_some_iff.mp hF
    refine c_X12_233 rfl sh_226 (by exact ltG hG (by decide)) (Nat.le_of_ble_eq_true rfl) dX12_bounded_9 (s_X12_is _ q4_e hG) (fun r1 h1 hq => ?_)
    obtain ⟨rfl, hq, hG⟩ := hq
    replace hq := hq.symm
    subst hq
    show V _ _ _ _ (_ :: _) _ _
    refine v_if_ne 22 dX12_bounded_12 (by decide) (fun c6 => ?_) (fun c6 => ?_)
    · rw [if_neg c6] at hF
      refine v_aload_n (i := 0) dX12_bounded_22 rfl rfl ?_
      refine g_X12_27 (q := 231) rfl sh_226 (by exact ltG hG (by decide)) (by exact rG hG r0_226_7) dX12_bounded_23 ?_
      refine v_aload_n (i := 0) dX12_bounded_26 rfl rfl ?_
      refine g_X12_218 rfl sh_226 (by exact ltG hG (by decide)) dX12_bounded_27 ?_
      obtain ⟨k7, hF⟩ := ck_some hF
      refine v_iaload sh_231 (by exact ltG hG (by decide)) (ixO k7) dX12_bounded_30 ?_
      refine v_istore_n (i := 3) dX12_bounded_31 rfl (by decide) (nlT rfl) ?_
      simp only [List.set_cons_zero, List.set_cons_succ]
      refine v_iload_n (i := 3) dX12_bounded_32 rfl rfl ?_
      refine v_iload_n (i := 1) dX12_bounded_33 rfl rfl ?_
      refine v_icmp_lt 42 dX12_bounded_34 (by decide) (fun c8 => ?_) (fun c8 => ?_)
      · rw [if_pos c8] at hF
        refine v_aload_n (i := 0) dX12_bounded_42 rfl rfl ?_
        refine v_iconst (v := 5) dX12_bounded_43 (by decide) ?_
        refine v_aload_n (i := 0) dX12_bounded_44 rfl rfl ?_
        refine g_X12_218 rfl sh_226 (by exact ltG hG (by decide)) dX12_bounded_45 ?_
        obtain ⟨q9, q9_e, hF⟩ := Option.bind_eq_some_iff.mp hF
        refine c_X12_267 rfl sh_226 (by exact ltG hG (by decide)) (Nat.le_of_ble_eq_true rfl) dX12_bounded_48 (s_X12_wrong _ q9_e hG) (fun r1 h1 hq => ?_)
        obtain ⟨rfl, hq, hG⟩ := hq
        replace hq := hq.symm
        subst hq
        simp only [Option.toList, List.nil_append]
        refine v_aload_n (i := 0) dX12_bounded_51 rfl rfl ?_
        obtain ⟨q11, q11_e, hF⟩ := Option.bind_eq_some_iff.mp hF
        refine c_X12_236 rfl sh_226 (by exact ltG hG (by decide)) (Nat.le_of_ble_eq_true rfl) dX12_bounded_52 (s_X12_goesOn _ q11_e hG) (fun r1 h1 hq => ?_)
        obtain ⟨rfl, hq, hG⟩ := hq
        replace hq := hq.symm
        subst hq
        simp only [Option.toList, List.nil_append]
        refine v_iload_n (i := 3) dX12_bounded_55 rfl rfl ?_
        refine v_ireturn rfl dX12_bounded_56 ?_
        obtain ⟨rfl, rfl⟩ := Prod.mk.inj (Option.some.inj hF)
        exact ⟨rfl, rfl, hG⟩
      · rw [if_neg c8] at hF
        refine v_iload_n (i := 3) dX12_bounded_37 rfl rfl ?_
        refine v_iload_n (i := 2) dX12_bounded_38 rfl rfl ?_
        refine v_icmp_le 51 dX12_bounded_39 (by decide) (fun c13 => ?_) (fun c13 => ?_)
        · rw [if_pos c13] at hF
          refine v_aload_n (i := 0) dX12_bounded_51 rfl rfl ?_
          obtain ⟨q14, q14_e, hF⟩ := Option.bind_eq_some_iff.mp hF
          refine c_X12_236 rfl sh_226 (by exact ltG hG (by decide)) (Nat.le_of_ble_eq_true rfl) dX12_bounded_52 (s_X12_goesOn _ q14_e hG) (fun r1 h1 hq => ?_)
          obtain ⟨rfl, hq, hG⟩ := hq
          replace hq := hq.symm
          subst hq
          simp only [Option.toList, List.nil_append]
          refine v_iload_n (i := 3) dX12_bounded_55 rfl rfl ?_
          refine v_ireturn rfl dX12_bounded_56 ?_
          obtain ⟨rfl, rfl⟩ := Prod.mk.inj (Option.some.inj hF)
          exact ⟨rfl, rfl, hG⟩
        · rw [if_neg c13] at hF
          refine v_aload_n (i := 0) dX12_bounded_42 rfl rfl ?_
          refine v_iconst (v := 5) dX12_bounded_43 (by decide) ?_
          refine v_aload_n (i := 0) dX12_bounded_44 rfl rfl ?_
          refine g_X12_218 rfl sh_226 (by exact ltG hG (by decide)) dX12_bounded_45 ?_
          obtain ⟨q16, q16_e, hF⟩ := Option.bind_eq_some_iff.mp hF
          refine c_X12_267 rfl sh_226 (by exact ltG hG (by decide)) (Nat.le_of_ble_eq_true rfl) dX12_bounded_48 (s_X12_wrong _ q16_e hG) (fun r1 h1 hq => ?_)
          obtain ⟨rfl, hq, hG⟩ := hq
          replace hq := hq.symm
          subst hq
          simp only [Option.toList, List.nil_append]
          refine v_aload_n (i := 0) dX12_bounded_51 rfl rfl ?_
          obtain ⟨q18, q18_e, hF⟩ := Option.bind_eq_some_iff.mp hF
          refine c_X12_236 rfl sh_226 (by exact ltG hG (by decide)) (Nat.le_of_ble_eq_true rfl) dX12_bounded_52 (s_X12_goesOn _ q18_e hG) (fun r1 h1 hq => ?_)
          obtain ⟨rfl, hq, hG⟩ := hq
          replace hq := hq.symm
          subst hq
          simp only [Option.toList, List.nil_append]
          refine v_iload_n (i := 3) dX12_bounded_55 rfl rfl ?_
          refine v_ireturn rfl dX12_bounded_56 ?_
          obtain ⟨rfl, rfl⟩ := Prod.mk.inj (Option.some.inj hF)
          exact ⟨rfl, rfl, hG⟩
    · rw [if_pos c6] at hF
      refine v_aload_n (i := 0) dX12_bounded_15 rfl rfl ?_
      refine v_iconst (v := 1) dX12_bounded_16 (by decide) ?_
      obtain ⟨q20, q20_e, hF⟩ := Option.bind_eq_some_iff.mp hF
      refine c_X12_230 rfl sh_226 (by exact ltG hG (by decide)) (Nat.le_of_ble_eq_true rfl) dX12_bounded_17 (s_X12_fail _ q20_e hG) (fun r1 h1 hq => ?_)
      obtain ⟨rfl, hq, hG⟩ := hq
      replace hq := hq.symm
      subst hq
      simp only [Option.toList, List.nil_append]
      refine v_iload_n (i := 1) dX12_bounded_20 rfl rfl ?_
      refine v_ireturn rfl dX12_bounded_21 ?_
      obtain ⟨rfl, rfl⟩ := Prod.mk.inj (Option.some.inj hF)
      exact ⟨rfl, rfl, hG⟩
def F_X12_carry (n : Nat) (h : Hp) (x1 : Int32) (x2 : Int32) : Option (Int32 × Hp) := ((F_X12_copies n h).bind (fun q1 => ((F_X12_isGoer n q1 x1).bind (fun q3 => (if (q3.1 : Int32) = 0 then some (0, q3.2) else ((F_X12_isCell n q3.2 x2).bind (fun q6 => (if (q6.1 : Int32) = 0 then some (0, q6.2) else ((F_X12_isRoped n q6.2 x2).bind (fun q9 => (if (q9.1 : Int32) = 0 then (if ixOK (51 + x1) 63 = true then (if ((hi q9.2 263 (Int32.toNatClampNeg (51 + x1))) : Int32) = (x2 : Int32) then some (0, q9.2) else (if ixOK (51 + x1) 63 = true then ((F_X12_records n (wrI q9.2 263 (Int32.toNatClampNeg (51 + x1)) x2)).bind (fun q15 => some (1, q15))) else none)) else none) else some (0, q9.2))))))))))))
set_option maxRecDepth 100000 in
set_option maxHeartbeats 4000000 in
theorem s_X12_carry (d : Nat) {n : Nat} {h : Hp} {x1 : Int32} {x2 : Int32} {q0 : (Int32 × Hp)} (hF : F_X12_carry n h x1 x2 = some q0) (hG : G h)  : Kc mX12_carry (d + 2) [.ref 226, .int x1, .int x2] h (fun r1 h1 => r1 = some (.int q0.1) ∧ h1 = q0.2 ∧ G q0.2) := by
  obtain ⟨r, h'⟩ := q0
  unfold F_X12_carry at hF
  refine Kc.of [some (.ref 226), some (.int x1), some (.int x2)] ok_X12_carry rfl (Nat.le_of_ble_eq_true rfl) ?_
  refine v_aload_n (i := 0) dX12_carry_0 rfl rfl ?_
  obtain ⟨q1, q1_e, hF⟩ := Option.bind_eq_some_iff.mp hF
  refine c_X12_346 rfl sh_226 (by exact ltG hG (by decide)) (Nat.le_of_ble_eq_true rfl) dX12_carry_1 (s_X12_copies _ q1_e hG) (fun r1 h1 hq => ?_)
  obtain ⟨rfl, hq, hG⟩ := hq
  replace hq := hq.symm
  subst hq
  simp only [Option.toList, List.nil_append]
  refine v_aload_n (i := 0) dX12_carry_4 rfl rfl ?_
  refine v_iload_n (i := 1) dX12_carry_5 rfl rfl ?_
  obtain ⟨q3, q3_e, hF⟩ := Option.bind_eq_some_iff.mp hF
  refine c_X12_409 rfl sh_226 (by exact ltG hG (by decide)) (Nat.le_of_ble_eq_true rfl) dX12_carry_6 (s_X12_isGoer _ q3_e hG) (fun r1 h1 hq => ?_)
  obtain ⟨rfl, hq, hG⟩ := hq
  replace hq := hq.symm
  subst hq
  show V _ _ _ _ (_ :: _) _ _
  refine v_if_eq 41 dX12_carry_9 (by decide) (fun c5 => ?_) (fun c5 => ?_)
  · rw [if_pos c5] at hF
    refine v_iconst (v := 0) dX12_carry_41 (by decide) ?_
    refine v_zreturn rfl (by decide) dX12_carry_42 ?_
    obtain ⟨rfl, rfl⟩ := Prod.mk.inj (Option.some.inj hF)
    exact ⟨rfl, rfl, hG⟩
  · rw [if_neg c5] at hF
    refine v_aload_n (i := 0) dX12_carry_12 rfl rfl ?_
    refine v_iload_n (i := 2) dX12_carry_13 rfl rfl ?_
    obtain ⟨q6, q6_e, hF⟩ := Option.bind_eq_some_iff.mp hF
    refine c_X12_403 rfl sh_226 (by exact ltG hG (by decide)) (Nat.le_of_ble_eq_true rfl) dX12_carry_14 (s_X12_isCell _ q6_e hG) (fun r1 h1 hq => ?_)
    obtain ⟨rfl, hq, hG⟩ := hq
    replace hq := hq.symm
    subst hq
    show V _ _ _ _ (_ :: _) _ _
    refine v_if_eq 41 dX12_carry_17 (by decide) (fun c8 => ?_) (fun c8 => ?_)
    · rw [if_pos c8] at hF
      refine v_iconst (v := 0) dX12_carry_41 (by decide) ?_
      refine v_zreturn rfl (by decide) dX12_carry_42 ?_
      obtain ⟨rfl, rfl⟩ := Prod.mk.inj (Option.some.inj hF)
      exact ⟨rfl, rfl, hG⟩
    · rw [if_neg c8] at hF
      refine v_aload_n (i := 0) dX12_carry_20 rfl rfl ?_
      refine v_iload_n (i := 2) dX12_carry_21 rfl rfl ?_
      obtain ⟨q9, q9_e, hF⟩ := Option.bind_eq_some_iff.mp hF
      refine c_X12_372 rfl sh_226 (by exact ltG hG (by decide)) (Nat.le_of_ble_eq_true rfl) dX12_carry_22 (s_X12_isRoped _ q9_e hG) (fun r1 h1 hq => ?_)
      obtain ⟨rfl, hq, hG⟩ := hq
      replace hq := hq.symm
      subst hq
      show V _ _ _ _ (_ :: _) _ _
      refine v_if_ne 41 dX12_carry_25 (by decide) (fun c11 => ?_) (fun c11 => ?_)
      · rw [if_neg c11] at hF
        refine v_iconst (v := 0) dX12_carry_41 (by decide) ?_
        refine v_zreturn rfl (by decide) dX12_carry_42 ?_
        obtain ⟨rfl, rfl⟩ := Prod.mk.inj (Option.some.inj hF)
        exact ⟨rfl, rfl, hG⟩
      · rw [if_pos c11] at hF
        refine v_aload_n (i := 0) dX12_carry_28 rfl rfl ?_
        refine g_X12_128 (q := 263) rfl sh_226 (by exact ltG hG (by decide)) (by exact rG hG r0_226_54) dX12_carry_29 ?_
        refine v_bipush (v := 51) dX12_carry_32 (by decide) ?_
        refine v_iload_n (i := 1) dX12_carry_34 rfl rfl ?_
        refine v_iadd dX12_carry_35 ?_
        obtain ⟨k12, hF⟩ := ck_some hF
        refine v_iaload sh_263 (by exact ltG hG (by decide)) (ixO k12) dX12_carry_36 ?_
        refine v_iload_n (i := 2) dX12_carry_37 rfl rfl ?_
        refine v_icmp_ne 43 dX12_carry_38 (by decide) (fun c13 => ?_) (fun c13 => ?_)
        · rw [if_neg c13] at hF
          refine v_aload_n (i := 0) dX12_carry_43 rfl rfl ?_
          refine g_X12_128 (q := 263) rfl sh_226 (by exact ltG hG (by decide)) (by exact rG hG r0_226_54) dX12_carry_44 ?_
          refine v_bipush (v := 51) dX12_carry_47 (by decide) ?_
          refine v_iload_n (i := 1) dX12_carry_49 rfl rfl ?_
          refine v_iadd dX12_carry_50 ?_
          refine v_iload_n (i := 2) dX12_carry_51 rfl rfl ?_
          obtain ⟨k14, hF⟩ := ck_some hF
          refine v_iastore sh_263 (by exact ltG hG (by decide)) (ixO k14) dX12_carry_52 ?_
          refine v_aload_n (i := 0) dX12_carry_53 rfl rfl ?_
          obtain ⟨q15, q15_e, hF⟩ := Option.bind_eq_some_iff.mp hF
          refine c_X12_412 rfl sh_226 (by exact ltG hG (by decide)) (Nat.le_of_ble_eq_true rfl) dX12_carry_54 (s_X12_records _ q15_e hG) (fun r1 h1 hq => ?_)
          obtain ⟨rfl, hq, hG⟩ := hq
          replace hq := hq.symm
          subst hq
          simp only [Option.toList, List.nil_append]
          refine v_iconst (v := 1) dX12_carry_57 (by decide) ?_
          refine v_zreturn rfl (by decide) dX12_carry_58 ?_
          obtain ⟨rfl, rfl⟩ := Prod.mk.inj (Option.some.inj hF)
          exact ⟨rfl, rfl, hG⟩
        · rw [if_pos c13] at hF
          refine v_iconst (v := 0) dX12_carry_41 (by decide) ?_
          refine v_zreturn rfl (by decide) dX12_carry_42 ?_
          obtain ⟨rfl, rfl⟩ := Prod.mk.inj (Option.some.inj hF)
          exact ⟨rfl, rfl, hG⟩
def W_X12_cellBehind : Nat → Nat → Hp → Int32 → Int32 → Int32 → Int32 → Int32 → Int32 → Option (Int32 × Hp)
  | 0 => fun _ _ _ _ _ _ _ _ => none
  | n + 1 => fun hd h l1 l2 l3 l4 l5 l6 => (if hd = 14 then (if (l5 : Int32) < 0 then W_X12_cellBehind n 59 h  l1 l2 l3 l4 l1 1 else (if ixOK (l5 + 1) 101 = true then ((F_X12_nearBits n h (hi h 269 (Int32.toNatClampNeg (l5 + 1)))).bind (fun q3 => (if ixOK l5 101 = true then (if ixOK l5 101 = true then W_X12_cellBehind n 14 (wrI q3.2 269 (Int32.toNatClampNeg l5) ((q3.1 : Int32) &&& ((hi q3.2 267 (Int32.toNatClampNeg l5)) : Int32)))  l1 l2 l3 l4 (l5 + (-1)) 0 else none) else none))) else none)) else (if hd = 59 then (if (l4 : Int32) < (l6 : Int32) then some (l5, h) else ((F_X12_nearBits n h ((1 : Int32) <<< ((l5 : Int32) &&& 31))).bind (fun q8 => (if ixOK l6 101 = true then ((F_X12_lowestOf n q8.2 ((q8.1 : Int32) &&& ((hi q8.2 269 (Int32.toNatClampNeg l6)) : Int32))).bind (fun q11 => W_X12_cellBehind n 59 q11.2  l1 l2 l3 l4 q11.1 (l6 + 1))) else none)))) else none))
set_option maxRecDepth 100000 in
set_option maxHeartbeats 4000000 in
theorem sw_X12_cellBehind (d : Nat)  (n : Nat) : (∀ (l1 : Int32) (l2 : Int32) (l3 : Int32) (l4 : Int32) (l5 : Int32) (h : Hp), ∀ (r : Int32) (h' : Hp), W_X12_cellBehind n 14 h  l1 l2 l3 l4 l5 0 = some (r, h') → G h → V mX12_cellBehind (d + 2) 14 [some (.ref 226), some (.int l1), some (.int l2), some (.int l3), some (.int l4), some (.int l5), none] [] h (fun r1 h1 => r1 = some (.int r) ∧ h1 = h' ∧ G h')) ∧ (∀ (l1 : Int32) (l2 : Int32) (l3 : Int32) (l4 : Int32) (l5 : Int32) (l6 : Int32) (h : Hp), ∀ (r : Int32) (h' : Hp), W_X12_cellBehind n 59 h  l1 l2 l3 l4 l5 l6 = some (r, h') → G h → V mX12_cellBehind (d + 2) 59 [some (.ref 226), some (.int l1), some (.int l2), some (.int l3), some (.int l4), some (.int l5), some (.int l6)] [] h (fun r1 h1 => r1 = some (.int r) ∧ h1 = h' ∧ G h')) := by
  induction n with
  | zero => exact ⟨by intros; contradiction, by intros; contradiction⟩
  | succ n ih =>
    obtain ⟨s_X12_cellBehind_IH_14, s_X12_cellBehind_IH_59⟩ := ih
    refine ⟨?_, ?_⟩
    · intro l1 l2 l3 l4 l5 h r h' hF hG
      unfold W_X12_cellBehind at hF
      rw [if_pos rfl] at hF
      refine v_iload (i := 5) dX12_cellBehind_14 rfl ?_
      refine v_if_lt 53 dX12_cellBehind_16 (by decide) (fun c1 => ?_) (fun c1 => ?_)
      · rw [if_pos c1] at hF
        refine v_iload_n (i := 1) dX12_cellBehind_53 rfl rfl ?_
        refine v_istore (i := 5) dX12_cellBehind_54 (by decide) (nlT rfl) ?_
        simp only [List.set_cons_zero, List.set_cons_succ]
        refine v_iconst (v := 1) dX12_cellBehind_56 (by decide) ?_
        refine v_istore (i := 6) dX12_cellBehind_57 (by decide) (nlT rfl) ?_
        simp only [List.set_cons_zero, List.set_cons_succ]
        refine V.weak (la2 := [some (.ref 226), some (.int l1), some (.int l2), some (.int l3), some (.int l4), some (.int l1), some (.int 1)]) (by simp [wk]) ?_
        exact (s_X12_cellBehind_IH_59) _ _ _ _ _ _ _ _ _ hF hG
      · rw [if_neg c1] at hF
        refine v_aload_n (i := 0) dX12_cellBehind_19 rfl rfl ?_
        refine g_X12_146 (q := 269) rfl sh_226 (by exact ltG hG (by decide)) (by exact rG hG r0_226_63) dX12_cellBehind_20 ?_
        refine v_iload (i := 5) dX12_cellBehind_23 rfl ?_
        refine v_aload_n (i := 0) dX12_cellBehind_25 rfl rfl ?_
        refine v_aload_n (i := 0) dX12_cellBehind_26 rfl rfl ?_
        refine g_X12_146 (q := 269) rfl sh_226 (by exact ltG hG (by decide)) (by exact rG hG r0_226_63) dX12_cellBehind_27 ?_
        refine v_iload (i := 5) dX12_cellBehind_30 rfl ?_
        refine v_iconst (v := 1) dX12_cellBehind_32 (by decide) ?_
        refine v_iadd dX12_cellBehind_33 ?_
        obtain ⟨k2, hF⟩ := ck_some hF
        refine v_iaload sh_269 (by exact ltG hG (by decide)) (ixO k2) dX12_cellBehind_34 ?_
        obtain ⟨q3, q3_e, hF⟩ := Option.bind_eq_some_iff.mp hF
        refine c_X12_430 rfl sh_226 (by exact ltG hG (by decide)) (Nat.le_of_ble_eq_true rfl) dX12_cellBehind_35 (s_X12_nearBits _ q3_e hG) (fun r1 h1 hq => ?_)
        obtain ⟨rfl, hq, hG⟩ := hq
        replace hq := hq.symm
        subst hq
        show V _ _ _ _ (_ :: _) _ _
        refine v_aload_n (i := 0) dX12_cellBehind_38 rfl rfl ?_
        refine g_X12_140 (q := 267) rfl sh_226 (by exact ltG hG (by decide)) (by exact rG hG r0_226_61) dX12_cellBehind_39 ?_
        refine v_iload (i := 5) dX12_cellBehind_42 rfl ?_
        obtain ⟨k5, hF⟩ := ck_some hF
        refine v_iaload sh_267 (by exact ltG hG (by decide)) (ixO k5) dX12_cellBehind_44 ?_
        refine v_iand dX12_cellBehind_45 ?_
        obtain ⟨k6, hF⟩ := ck_some hF
        refine v_iastore sh_269 (by exact ltG hG (by decide)) (ixO k6) dX12_cellBehind_46 ?_
        refine v_iinc (i := 5) (v := (l5 + (-1))) dX12_cellBehind_47 rfl rfl (by decide) (nlT rfl) ?_
        simp only [List.set_cons_zero, List.set_cons_succ]
        refine v_goto 14 dX12_cellBehind_50 (by decide) ?_
        refine V.weak (la2 := [some (.ref 226), some (.int l1), some (.int l2), some (.int l3), some (.int l4), some (.int (l5 + (-1))), none]) (by simp [wk]) ?_
        exact (s_X12_cellBehind_IH_14) _ _ _ _ _ _ _ _ hF hG
    · intro l1 l2 l3 l4 l5 l6 h r h' hF hG
      unfold W_X12_cellBehind at hF
      rw [if_neg (by decide)] at hF
      rw [if_pos rfl] at hF
      refine v_iload (i := 6) dX12_cellBehind_59 rfl ?_
      refine v_iload (i := 4) dX12_cellBehind_61 rfl ?_
      refine v_icmp_gt 93 dX12_cellBehind_63 (by decide) (fun c7 => ?_) (fun c7 => ?_)
      · rw [if_pos c7] at hF
        refine v_iload (i := 5) dX12_cellBehind_93 rfl ?_
        refine v_ireturn rfl dX12_cellBehind_95 ?_
        obtain ⟨rfl, rfl⟩ := Prod.mk.inj (Option.some.inj hF)
        exact ⟨rfl, rfl, hG⟩
      · rw [if_neg c7] at hF
        refine v_aload_n (i := 0) dX12_cellBehind_66 rfl rfl ?_
        refine v_iconst (v := 1) dX12_cellBehind_67 (by decide) ?_
        refine v_iload (i := 5) dX12_cellBehind_68 rfl ?_
        refine v_ishl dX12_cellBehind_70 ?_
        obtain ⟨q8, q8_e, hF⟩ := Option.bind_eq_some_iff.mp hF
        refine c_X12_430 rfl sh_226 (by exact ltG hG (by decide)) (Nat.le_of_ble_eq_true rfl) dX12_cellBehind_71 (s_X12_nearBits _ q8_e hG) (fun r1 h1 hq => ?_)
        obtain ⟨rfl, hq, hG⟩ := hq
        replace hq := hq.symm
        subst hq
        show V _ _ _ _ (_ :: _) _ _
        refine v_aload_n (i := 0) dX12_cellBehind_74 rfl rfl ?_
        refine g_X12_146 (q := 269) rfl sh_226 (by exact ltG hG (by decide)) (by exact rG hG r0_226_63) dX12_cellBehind_75 ?_
        refine v_iload (i := 6) dX12_cellBehind_78 rfl ?_
        obtain ⟨k10, hF⟩ := ck_some hF
        refine v_iaload sh_269 (by exact ltG hG (by decide)) (ixO k10) dX12_cellBehind_80 ?_
        refine v_iand dX12_cellBehind_81 ?_
        obtain ⟨q11, q11_e, hF⟩ := Option.bind_eq_some_iff.mp hF
        refine c_X12_436 rfl (Nat.le_of_ble_eq_true rfl) dX12_cellBehind_82 (s_X12_lowestOf _ q11_e hG) (fun r1 h1 hq => ?_)
        obtain ⟨rfl, hq, hG⟩ := hq
        replace hq := hq.symm
        subst hq
        show V _ _ _ _ (_ :: _) _ _
        refine v_istore (i := 5) dX12_cellBehind_85 (by decide) (nlT rfl) ?_
        simp only [List.set_cons_zero, List.set_cons_succ]
        refine v_iinc (i := 6) (v := (l6 + 1)) dX12_cellBehind_87 rfl rfl (by decide) (nlT rfl) ?_
        simp only [List.set_cons_zero, List.set_cons_succ]
        refine v_goto 59 dX12_cellBehind_90 (by decide) ?_
        refine V.weak (la2 := [some (.ref 226), some (.int l1), some (.int l2), some (.int l3), some (.int l4), some (.int q11.1), some (.int (l6 + 1))]) (by simp [wk]) ?_
        exact (s_X12_cellBehind_IH_59) _ _ _ _ _ _ _ _ _ hF hG
def F_X12_cellBehind (n : Nat) (h : Hp) (x1 : Int32) (x2 : Int32) (x3 : Int32) (x4 : Int32) : Option (Int32 × Hp) := (if ixOK x3 101 = true then W_X12_cellBehind n 14 (wrI h 269 (Int32.toNatClampNeg x3) ((1 : Int32) <<< ((x2 : Int32) &&& 31)))  x1 x2 x3 x4 (x3 - 1) 0 else none)
set_option maxRecDepth 100000 in
set_option maxHeartbeats 4000000 in
theorem s_X12_cellBehind (d : Nat) {n : Nat} {h : Hp} {x1 : Int32} {x2 : Int32} {x3 : Int32} {x4 : Int32} {q0 : (Int32 × Hp)} (hF : F_X12_cellBehind n h x1 x2 x3 x4 = some q0) (hG : G h)  : Kc mX12_cellBehind (d + 2) [.ref 226, .int x1, .int x2, .int x3, .int x4] h (fun r1 h1 => r1 = some (.int q0.1) ∧ h1 = q0.2 ∧ G q0.2) := by
  obtain ⟨r, h'⟩ := q0
  obtain ⟨s_X12_cellBehind_IH_14, s_X12_cellBehind_IH_59⟩ := sw_X12_cellBehind d   n
  unfold F_X12_cellBehind at hF
  refine Kc.of [some (.ref 226), some (.int x1), some (.int x2), some (.int x3), some (.int x4), none, none] ok_X12_cellBehind rfl (Nat.le_of_ble_eq_true rfl) ?_
  refine v_aload_n (i := 0) dX12_cellBehind_0 rfl rfl ?_
  refine g_X12_146 (q := 269) rfl sh_226 (by exact ltG hG (by decide)) (by exact rG hG r0_226_63) dX12_cellBehind_1 ?_
  refine v_iload_n (i := 3) dX12_cellBehind_4 rfl rfl ?_
  refine v_iconst (v := 1) dX12_cellBehind_5 (by decide) ?_
  refine v_iload_n (i := 2) dX12_cellBehind_6 rfl rfl ?_
  refine v_ishl dX12_cellBehind_7 ?_
  obtain ⟨k13, hF⟩ := ck_some hF
  refine v_iastore sh_269 (by exact ltG hG (by decide)) (ixO k13) dX12_cellBehind_8 ?_
  refine v_iload_n (i := 3) dX12_cellBehind_9 rfl rfl ?_
  refine v_iconst (v := 1) dX12_cellBehind_10 (by decide) ?_
  refine v_isub dX12_cellBehind_11 ?_
  refine v_istore (i := 5) dX12_cellBehind_12 (by decide) (nlT rfl) ?_
  simp only [List.set_cons_zero, List.set_cons_succ]
  refine V.weak (la2 := [some (.ref 226), some (.int x1), some (.int x2), some (.int x3), some (.int x4), some (.int (x3 - 1)), none]) (by simp [wk]) ?_
  exact (s_X12_cellBehind_IH_14) _ _ _ _ _ _ _ _ hF hG
def W_X12_chorus : Nat → Nat → Hp → Int32 → Int32 → Int32 → Int32 → Option (Int32 × Hp)
  | 0 => fun _ _ _ _ _ _ => none
  | n + 1 => fun hd h l1 l2 l3 l4 => (if hd = 22 then (if (60 : Int32) ≤ (l4 : Int32) then (if (l1 : Int32) = 0 then some (l3, h) else some (l2, h)) else ((F_X12_loudBits n h ((hi h 263 61) + l4)).bind (fun q3 => ((F_X12_bits n q3.2 q3.1).bind (fun q5 => (if (l2 : Int32) < (q5.1 : Int32) then W_X12_chorus n 22 q5.2  l1 q5.1 l4 (l4 + 1) else W_X12_chorus n 22 q5.2  l1 l2 l3 (l4 + 1))))))) else none)
set_option maxRecDepth 100000 in
set_option maxHeartbeats 4000000 in
theorem sw_X12_chorus (d : Nat)  (n : Nat) : (∀ (l1 : Int32) (l2 : Int32) (l3 : Int32) (l4 : Int32) (h : Hp), ∀ (r : Int32) (h' : Hp), W_X12_chorus n 22 h  l1 l2 l3 l4 = some (r, h') → G h → V mX12_chorus (d + 2) 22 [some (.ref 226), some (.int l1), some (.int l2), some (.int l3), some (.int l4), none] [] h (fun r1 h1 => r1 = some (.int r) ∧ h1 = h' ∧ G h')) := by
  induction n with
  | zero => exact by intros; contradiction
  | succ n ih =>
    have s_X12_chorus_IH_22 := ih
    intro l1 l2 l3 l4 h r h' hF hG
    unfold W_X12_chorus at hF
    rw [if_pos rfl] at hF
    refine v_iload (i := 4) dX12_chorus_22 rfl ?_
    refine v_bipush (v := 60) dX12_chorus_24 (by decide) ?_
    refine v_icmp_ge 69 dX12_chorus_26 (by decide) (fun c1 => ?_) (fun c1 => ?_)
    · rw [if_pos c1] at hF
      refine v_iload_n (i := 1) dX12_chorus_69 rfl rfl ?_
      refine v_if_ne 77 dX12_chorus_70 (by decide) (fun c2 => ?_) (fun c2 => ?_)
      · rw [if_neg c2] at hF
        refine v_iload_n (i := 2) dX12_chorus_77 rfl rfl ?_
        refine v_ireturn rfl dX12_chorus_78 ?_
        obtain ⟨rfl, rfl⟩ := Prod.mk.inj (Option.some.inj hF)
        exact ⟨rfl, rfl, hG⟩
      · rw [if_pos c2] at hF
        refine v_iload_n (i := 3) dX12_chorus_73 rfl rfl ?_
        refine v_goto 78 dX12_chorus_74 (by decide) ?_
        refine v_ireturn rfl dX12_chorus_78 ?_
        obtain ⟨rfl, rfl⟩ := Prod.mk.inj (Option.some.inj hF)
        exact ⟨rfl, rfl, hG⟩
    · rw [if_neg c1] at hF
      refine v_aload_n (i := 0) dX12_chorus_29 rfl rfl ?_
      refine v_aload_n (i := 0) dX12_chorus_30 rfl rfl ?_
      refine g_X12_128 (q := 263) rfl sh_226 (by exact ltG hG (by decide)) (by exact rG hG r0_226_54) dX12_chorus_31 ?_
      refine v_bipush (v := 61) dX12_chorus_34 (by decide) ?_
      refine v_iaload sh_263 (by exact ltG hG (by decide)) (ixK 61 (by decide)) dX12_chorus_36 ?_
      refine v_iload (i := 4) dX12_chorus_37 rfl ?_
      refine v_iadd dX12_chorus_39 ?_
      obtain ⟨q3, q3_e, hF⟩ := Option.bind_eq_some_iff.mp hF
      refine c_X12_421 rfl sh_226 (by exact ltG hG (by decide)) (Nat.le_of_ble_eq_true rfl) dX12_chorus_40 (s_X12_loudBits _ q3_e hG) (fun r1 h1 hq => ?_)
      obtain ⟨rfl, hq, hG⟩ := hq
      replace hq := hq.symm
      subst hq
      show V _ _ _ _ (_ :: _) _ _
      obtain ⟨q5, q5_e, hF⟩ := Option.bind_eq_some_iff.mp hF
      refine c_X12_362 rfl (Nat.le_of_ble_eq_true rfl) dX12_chorus_43 (s_X12_bits _ q5_e hG) (fun r1 h1 hq => ?_)
      obtain ⟨rfl, hq, hG⟩ := hq
      replace hq := hq.symm
      subst hq
      show V _ _ _ _ (_ :: _) _ _
      refine v_istore (i := 5) dX12_chorus_46 (by decide) (nlT rfl) ?_
      simp only [List.set_cons_zero, List.set_cons_succ]
      refine v_iload (i := 5) dX12_chorus_48 rfl ?_
      refine v_iload_n (i := 2) dX12_chorus_50 rfl rfl ?_
      refine v_icmp_gt 57 dX12_chorus_51 (by decide) (fun c7 => ?_) (fun c7 => ?_)
      · rw [if_pos c7] at hF
        refine v_iload (i := 5) dX12_chorus_57 rfl ?_
        refine v_istore_n (i := 2) dX12_chorus_59 rfl (by decide) (nlT rfl) ?_
        simp only [List.set_cons_zero, List.set_cons_succ]
        refine v_iload (i := 4) dX12_chorus_60 rfl ?_
        refine v_istore_n (i := 3) dX12_chorus_62 rfl (by decide) (nlT rfl) ?_
        simp only [List.set_cons_zero, List.set_cons_succ]
        refine v_iinc (i := 4) (v := (l4 + 1)) dX12_chorus_63 rfl rfl (by decide) (nlT rfl) ?_
        simp only [List.set_cons_zero, List.set_cons_succ]
        refine v_goto 22 dX12_chorus_66 (by decide) ?_
        refine V.weak (la2 := [some (.ref 226), some (.int l1), some (.int q5.1), some (.int l4), some (.int (l4 + 1)), none]) (by simp [wk]) ?_
        exact (s_X12_chorus_IH_22) _ _ _ _ _ _ _ hF hG
      · rw [if_neg c7] at hF
        refine v_goto 63 dX12_chorus_54 (by decide) ?_
        refine v_iinc (i := 4) (v := (l4 + 1)) dX12_chorus_63 rfl rfl (by decide) (nlT rfl) ?_
        simp only [List.set_cons_zero, List.set_cons_succ]
        refine v_goto 22 dX12_chorus_66 (by decide) ?_
        refine V.weak (la2 := [some (.ref 226), some (.int l1), some (.int l2), some (.int l3), some (.int (l4 + 1)), none]) (by simp [wk]) ?_
        exact (s_X12_chorus_IH_22) _ _ _ _ _ _ _ hF hG
def F_X12_chorus (n : Nat) (h : Hp) (x1 : Int32) : Option (Int32 × Hp) := ((F_X12_in n h x1 0 1).bind (fun q8 => (if (q8.1 : Int32) = 0 then some ((-1), q8.2) else ((F_X12_copies n q8.2).bind (fun q11 => W_X12_chorus n 22 q11  x1 (-1) 0 0)))))
set_option maxRecDepth 100000 in
set_option maxHeartbeats 4000000 in
theorem s_X12_chorus (d : Nat) {n : Nat} {h : Hp} {x1 : Int32} {q0 : (Int32 × Hp)} (hF : F_X12_chorus n h x1 = some q0) (hG : G h)  : Kc mX12_chorus (d + 2) [.ref 226, .int x1] h (fun r1 h1 => r1 = some (.int q0.1) ∧ h1 = q0.2 ∧ G q0.2) := by
  obtain ⟨r, h'⟩ := q0
  have s_X12_chorus_IH_22 := sw_X12_chorus d   n
  unfold F_X12_chorus at hF
  refine Kc.of [some (.ref 226), some (.int x1), none, none, none, none] ok_X12_chorus rfl (Nat.le_of_ble_eq_true rfl) ?_
  refine v_iload_n (i := 1) dX12_chorus_0 rfl rfl ?_
  refine v_iconst (v := 0) dX12_chorus_1 (by decide) ?_
  refine v_iconst (v := 1) dX12_chorus_2 (by decide) ?_
  obtain ⟨q8, q8_e, hF⟩ := Option.bind_eq_some_iff.mp hF
  refine c_X12_330 rfl (Nat.le_of_ble_eq_true rfl) dX12_chorus_3 (s_X12_in _ q8_e hG) (fun r1 h1 hq => ?_)
  obtain ⟨rfl, hq, hG⟩ := hq
  replace hq := hq.symm
  subst hq
  show V _ _ _ _ (_ :: _) _ _
  refine v_if_ne 11 dX12_chorus_6 (by decide) (fun c10 => ?_) (fun c10 => ?_)
  · rw [if_neg c10] at hF
    refine v_aload_n (i := 0) dX12_chorus_11 rfl rfl ?_
    obtain ⟨q11, q11_e, hF⟩ := Option.bind_eq_some_iff.mp hF
    refine c_X12_346 rfl sh_226 (by exact ltG hG (by decide)) (Nat.le_of_ble_eq_true rfl) dX12_chorus_12 (s_X12_copies _ q11_e hG) (fun r1 h1 hq => ?_)
    obtain ⟨rfl, hq, hG⟩ := hq
    replace hq := hq.symm
    subst hq
    simp only [Option.toList, List.nil_append]
    refine v_iconst (v := (-1)) dX12_chorus_15 (by decide) ?_
    refine v_istore_n (i := 2) dX12_chorus_16 rfl (by decide) (nlT rfl) ?_
    simp only [List.set_cons_zero, List.set_cons_succ]
    refine v_iconst (v := 0) dX12_chorus_17 (by decide) ?_
    refine v_istore_n (i := 3) dX12_chorus_18 rfl (by decide) (nlT rfl) ?_
    simp only [List.set_cons_zero, List.set_cons_succ]
    refine v_iconst (v := 0) dX12_chorus_19 (by decide) ?_
    refine v_istore (i := 4) dX12_chorus_20 (by decide) (nlT rfl) ?_
    simp only [List.set_cons_zero, List.set_cons_succ]
    refine V.weak (la2 := [some (.ref 226), some (.int x1), some (.int (-1)), some (.int 0), some (.int 0), none]) (by simp [wk]) ?_
    exact (s_X12_chorus_IH_22) _ _ _ _ _ _ _ hF hG
  · rw [if_pos c10] at hF
    refine v_iconst (v := (-1)) dX12_chorus_9 (by decide) ?_
    refine v_ireturn rfl dX12_chorus_10 ?_
    obtain ⟨rfl, rfl⟩ := Prod.mk.inj (Option.some.inj hF)
    exact ⟨rfl, rfl, hG⟩
def W_X12_comesOut : Nat → Nat → Hp → Int32 → Option Hp
  | 0 => fun _ _ _ => none
  | n + 1 => fun hd h l1 => (if hd = 0 then (if ((hi h 226 49) : Int32) ≤ 0 then some h else (if ixOK ((hi h 226 49) - 1) 64 = true then (if ((hi h 259 (Int32.toNatClampNeg ((hi h 226 49) - 1))) : Int32) = (6 : Int32) then some h else (if (l1 : Int32) = 0 then (if ((hi h 259 (Int32.toNatClampNeg ((hi h 226 49) - 1))) : Int32) = (8 : Int32) then ((F_X12_emit n (wrI h 226 49 ((hi h 226 49) - 1)) 2 0).bind (fun q14 => W_X12_comesOut n 0 q14  l1)) else (if ((hi h 259 (Int32.toNatClampNeg ((hi h 226 49) - 1))) : Int32) = (9 : Int32) then ((F_X12_emit n (wrI h 226 49 ((hi h 226 49) - 1)) 3 0).bind (fun q12 => W_X12_comesOut n 0 q12  l1)) else (if ((hi h 259 (Int32.toNatClampNeg ((hi h 226 49) - 1))) : Int32) = (10 : Int32) then ((F_X12_emit n (wrI h 226 49 ((hi h 226 49) - 1)) 4 0).bind (fun q10 => W_X12_comesOut n 0 q10  l1)) else ((F_X12_emit n (wrI h 226 49 ((hi h 226 49) - 1)) 5 0).bind (fun q8 => W_X12_comesOut n 0 q8  l1))))) else (if ((hi h 259 (Int32.toNatClampNeg ((hi h 226 49) - 1))) : Int32) = (8 : Int32) then some h else (if ((hi h 259 (Int32.toNatClampNeg ((hi h 226 49) - 1))) : Int32) = (9 : Int32) then some h else (if ((hi h 259 (Int32.toNatClampNeg ((hi h 226 49) - 1))) : Int32) = (8 : Int32) then ((F_X12_emit n (wrI h 226 49 ((hi h 226 49) - 1)) 2 0).bind (fun q27 => W_X12_comesOut n 0 q27  l1)) else (if ((hi h 259 (Int32.toNatClampNeg ((hi h 226 49) - 1))) : Int32) = (9 : Int32) then ((F_X12_emit n (wrI h 226 49 ((hi h 226 49) - 1)) 3 0).bind (fun q25 => W_X12_comesOut n 0 q25  l1)) else (if ((hi h 259 (Int32.toNatClampNeg ((hi h 226 49) - 1))) : Int32) = (10 : Int32) then ((F_X12_emit n (wrI h 226 49 ((hi h 226 49) - 1)) 4 0).bind (fun q23 => W_X12_comesOut n 0 q23  l1)) else ((F_X12_emit n (wrI h 226 49 ((hi h 226 49) - 1)) 5 0).bind (fun q21 => W_X12_comesOut n 0 q21  l1))))))))) else none)) else none)
set_option maxRecDepth 100000 in
set_option maxHeartbeats 4000000 in
theorem sw_X12_comesOut (d : Nat)  (n : Nat) : (∀ (l1 : Int32) (h : Hp), ∀ (h' : Hp), W_X12_comesOut n 0 h  l1 = some h' → G h → V mX12_comesOut (d + 1) 0 [some (.ref 226), some (.int l1), none] [] h (fun r1 h1 => r1 = none ∧ h1 = h' ∧ G h')) := by
  induction n with
  | zero => exact by intros; contradiction
  | succ n ih =>
    have s_X12_comesOut_IH_0 := ih
    intro l1 h h' hF hG
    unfold W_X12_comesOut at hF
    rw [if_pos rfl] at hF
    refine v_aload_n (i := 0) dX12_comesOut_0 rfl rfl ?_
    refine g_X12_309 rfl sh_226 (by exact ltG hG (by decide)) dX12_comesOut_1 ?_
    refine v_if_le 91 dX12_comesOut_4 (by decide) (fun c1 => ?_) (fun c1 => ?_)
    · rw [if_pos c1] at hF
      refine v_return rfl dX12_comesOut_91 ?_
      obtain rfl := Option.some.inj hF
      exact ⟨rfl, rfl, hG⟩
    · rw [if_neg c1] at hF
      refine v_aload_n (i := 0) dX12_comesOut_7 rfl rfl ?_
      refine g_X12_116 (q := 259) rfl sh_226 (by exact ltG hG (by decide)) (by exact rG hG r0_226_48) dX12_comesOut_8 ?_
      refine v_aload_n (i := 0) dX12_comesOut_11 rfl rfl ?_
      refine g_X12_309 rfl sh_226 (by exact ltG hG (by decide)) dX12_comesOut_12 ?_
      refine v_iconst (v := 1) dX12_comesOut_15 (by decide) ?_
      refine v_isub dX12_comesOut_16 ?_
      obtain ⟨k2, hF⟩ := ck_some hF
      refine v_iaload sh_259 (by exact ltG hG (by decide)) (ixO k2) dX12_comesOut_17 ?_
      refine v_istore_n (i := 2) dX12_comesOut_18 rfl (by decide) (nlT rfl) ?_
      simp only [List.set_cons_zero, List.set_cons_succ]
      refine v_iload_n (i := 2) dX12_comesOut_19 rfl rfl ?_
      refine v_bipush (v := 6) dX12_comesOut_20 (by decide) ?_
      refine v_icmp_eq 41 dX12_comesOut_22 (by decide) (fun c3 => ?_) (fun c3 => ?_)
      · rw [if_pos c3] at hF
        refine v_return rfl dX12_comesOut_41 ?_
        obtain rfl := Option.some.inj hF
        exact ⟨rfl, rfl, hG⟩
      · rw [if_neg c3] at hF
        refine v_iload_n (i := 1) dX12_comesOut_25 rfl rfl ?_
        refine v_if_eq 42 dX12_comesOut_26 (by decide) (fun c4 => ?_) (fun c4 => ?_)
        · rw [if_pos c4] at hF
          refine v_aload_n (i := 0) dX12_comesOut_42 rfl rfl ?_
          refine v_dup dX12_comesOut_43 rfl ?_
          refine g_X12_309 rfl sh_226 (by exact ltG hG (by decide)) dX12_comesOut_44 ?_
          refine v_iconst (v := 1) dX12_comesOut_47 (by decide) ?_
          refine v_isub dX12_comesOut_48 ?_
          refine p_X12_309 rfl sh_226 (by exact ltG hG (by decide)) dX12_comesOut_49 ?_
          refine v_aload_n (i := 0) dX12_comesOut_52 rfl rfl ?_
          refine v_iload_n (i := 2) dX12_comesOut_53 rfl rfl ?_
          refine v_bipush (v := 8) dX12_comesOut_54 (by decide) ?_
          refine v_icmp_ne 63 dX12_comesOut_56 (by decide) (fun c5 => ?_) (fun c5 => ?_)
          · rw [if_neg c5] at hF
            refine v_iload_n (i := 2) dX12_comesOut_63 rfl rfl ?_
            refine v_bipush (v := 9) dX12_comesOut_64 (by decide) ?_
            refine v_icmp_ne 73 dX12_comesOut_66 (by decide) (fun c6 => ?_) (fun c6 => ?_)
            · rw [if_neg c6] at hF
              refine v_iload_n (i := 2) dX12_comesOut_73 rfl rfl ?_
              refine v_bipush (v := 10) dX12_comesOut_74 (by decide) ?_
              refine v_icmp_ne 83 dX12_comesOut_76 (by decide) (fun c7 => ?_) (fun c7 => ?_)
              · rw [if_neg c7] at hF
                refine v_iconst (v := 5) dX12_comesOut_83 (by decide) ?_
                refine v_iconst (v := 0) dX12_comesOut_84 (by decide) ?_
                obtain ⟨q8, q8_e, hF⟩ := Option.bind_eq_some_iff.mp hF
                refine c_X12_312 rfl sh_226 (by exact ltG hG (by decide)) (Nat.le_of_ble_eq_true rfl) dX12_comesOut_85 (s_X12_emit _ q8_e hG) (fun r1 h1 hq => ?_)
                obtain ⟨rfl, hq, hG⟩ := hq
                replace hq := hq.symm
                subst hq
                simp only [Option.toList, List.nil_append]
                refine v_goto 0 dX12_comesOut_88 (by decide) ?_
                refine V.weak (la2 := [some (.ref 226), some (.int l1), none]) (by simp [wk]) ?_
                exact (s_X12_comesOut_IH_0) _ _ _ hF hG
              · rw [if_pos c7] at hF
                refine v_iconst (v := 4) dX12_comesOut_79 (by decide) ?_
                refine v_goto 84 dX12_comesOut_80 (by decide) ?_
                refine v_iconst (v := 0) dX12_comesOut_84 (by decide) ?_
                obtain ⟨q10, q10_e, hF⟩ := Option.bind_eq_some_iff.mp hF
                refine c_X12_312 rfl sh_226 (by exact ltG hG (by decide)) (Nat.le_of_ble_eq_true rfl) dX12_comesOut_85 (s_X12_emit _ q10_e hG) (fun r1 h1 hq => ?_)
                obtain ⟨rfl, hq, hG⟩ := hq
                replace hq := hq.symm
                subst hq
                simp only [Option.toList, List.nil_append]
                refine v_goto 0 dX12_comesOut_88 (by decide) ?_
                refine V.weak (la2 := [some (.ref 226), some (.int l1), none]) (by simp [wk]) ?_
                exact (s_X12_comesOut_IH_0) _ _ _ hF hG
            · rw [if_pos c6] at hF
              refine v_iconst (v := 3) dX12_comesOut_69 (by decide) ?_
              refine v_goto 84 dX12_comesOut_70 (by decide) ?_
              refine v_iconst (v := 0) dX12_comesOut_84 (by decide) ?_
              obtain ⟨q12, q12_e, hF⟩ := Option.bind_eq_some_iff.mp hF
              refine c_X12_312 rfl sh_226 (by exact ltG hG (by decide)) (Nat.le_of_ble_eq_true rfl) dX12_comesOut_85 (s_X12_emit _ q12_e hG) (fun r1 h1 hq => ?_)
              obtain ⟨rfl, hq, hG⟩ := hq
              replace hq := hq.symm
              subst hq
              simp only [Option.toList, List.nil_append]
              refine v_goto 0 dX12_comesOut_88 (by decide) ?_
              refine V.weak (la2 := [some (.ref 226), some (.int l1), none]) (by simp [wk]) ?_
              exact (s_X12_comesOut_IH_0) _ _ _ hF hG
          · rw [if_pos c5] at hF
            refine v_iconst (v := 2) dX12_comesOut_59 (by decide) ?_
            refine v_goto 84 dX12_comesOut_60 (by decide) ?_
            refine v_iconst (v := 0) dX12_comesOut_84 (by decide) ?_
            obtain ⟨q14, q14_e, hF⟩ := Option.bind_eq_some_iff.mp hF
            refine c_X12_312 rfl sh_226 (by exact ltG hG (by decide)) (Nat.le_of_ble_eq_true rfl) dX12_comesOut_85 (s_X12_emit _ q14_e hG) (fun r1 h1 hq => ?_)
            obtain ⟨rfl, hq, hG⟩ := hq
            replace hq := hq.symm
            subst hq
            simp only [Option.toList, List.nil_append]
            refine v_goto 0 dX12_comesOut_88 (by decide) ?_
            refine V.weak (la2 := [some (.ref 226), some (.int l1), none]) (by simp [wk]) ?_
            exact (s_X12_comesOut_IH_0) _ _ _ hF hG
        · rw [if_neg c4] at hF
          refine v_iload_n (i := 2) dX12_comesOut_29 rfl rfl ?_
          refine v_bipush (v := 8) dX12_comesOut_30 (by decide) ?_
          refine v_icmp_eq 41 dX12_comesOut_32 (by decide) (fun c16 => ?_) (fun c16 => ?_)
          · rw [if_pos c16] at hF
            refine v_return rfl dX12_comesOut_41 ?_
            obtain rfl := Option.some.inj hF
            exact ⟨rfl, rfl, hG⟩
          · rw [if_neg c16] at hF
            refine v_iload_n (i := 2) dX12_comesOut_35 rfl rfl ?_
            refine v_bipush (v := 9) dX12_comesOut_36 (by decide) ?_
            refine v_icmp_ne 42 dX12_comesOut_38 (by decide) (fun c17 => ?_) (fun c17 => ?_)
            · rw [if_neg c17] at hF
              refine v_aload_n (i := 0) dX12_comesOut_42 rfl rfl ?_
              refine v_dup dX12_comesOut_43 rfl ?_
              refine g_X12_309 rfl sh_226 (by exact ltG hG (by decide)) dX12_comesOut_44 ?_
              refine v_iconst (v := 1) dX12_comesOut_47 (by decide) ?_
              refine v_isub dX12_comesOut_48 ?_
              refine p_X12_309 rfl sh_226 (by exact ltG hG (by decide)) dX12_comesOut_49 ?_
              refine v_aload_n (i := 0) dX12_comesOut_52 rfl rfl ?_
              refine v_iload_n (i := 2) dX12_comesOut_53 rfl rfl ?_
              refine v_bipush (v := 8) dX12_comesOut_54 (by decide) ?_
              refine v_icmp_ne 63 dX12_comesOut_56 (by decide) (fun c18 => ?_) (fun c18 => ?_)
              · rw [if_neg c18] at hF
                refine v_iload_n (i := 2) dX12_comesOut_63 rfl rfl ?_
                refine v_bipush (v := 9) dX12_comesOut_64 (by decide) ?_
                refine v_icmp_ne 73 dX12_comesOut_66 (by decide) (fun c19 => ?_) (fun c19 => ?_)
                · rw [if_neg c19] at hF
                  refine v_iload_n (i := 2) dX12_comesOut_73 rfl rfl ?_
                  refine v_bipush (v := 10) dX12_comesOut_74 (by decide) ?_
                  refine v_icmp_ne 83 dX12_comesOut_76 (by decide) (fun c20 => ?_) (fun c20 => ?_)
                  · rw [if_neg c20] at hF
                    refine v_iconst (v := 5) dX12_comesOut_83 (by decide) ?_
                    refine v_iconst (v := 0) dX12_comesOut_84 (by decide) ?_
                    obtain ⟨q21, q21_e, hF⟩ := Option.bind_eq_some_iff.mp hF
                    refine c_X12_312 rfl sh_226 (by exact ltG hG (by decide)) (Nat.le_of_ble_eq_true rfl) dX12_comesOut_85 (s_X12_emit _ q21_e hG) (fun r1 h1 hq => ?_)
                    obtain ⟨rfl, hq, hG⟩ := hq
                    replace hq := hq.symm
                    subst hq
                    simp only [Option.toList, List.nil_append]
                    refine v_goto 0 dX12_comesOut_88 (by decide) ?_
                    refine V.weak (la2 := [some (.ref 226), some (.int l1), none]) (by simp [wk]) ?_
                    exact (s_X12_comesOut_IH_0) _ _ _ hF hG
                  · rw [if_pos c20] at hF
                    refine v_iconst (v := 4) dX12_comesOut_79 (by decide) ?_
                    refine v_goto 84 dX12_comesOut_80 (by decide) ?_
                    refine v_iconst (v := 0) dX12_comesOut_84 (by decide) ?_
                    obtain ⟨q23, q23_e, hF⟩ := Option.bind_eq_some_iff.mp hF
                    refine c_X12_312 rfl sh_226 (by exact ltG hG (by decide)) (Nat.le_of_ble_eq_true rfl) dX12_comesOut_85 (s_X12_emit _ q23_e hG) (fun r1 h1 hq => ?_)
                    obtain ⟨rfl, hq, hG⟩ := hq
                    replace hq := hq.symm
                    subst hq
                    simp only [Option.toList, List.nil_append]
                    refine v_goto 0 dX12_comesOut_88 (by decide) ?_
                    refine V.weak (la2 := [some (.ref 226), some (.int l1), none]) (by simp [wk]) ?_
                    exact (s_X12_comesOut_IH_0) _ _ _ hF hG
                · rw [if_pos c19] at hF
                  refine v_iconst (v := 3) dX12_comesOut_69 (by decide) ?_
                  refine v_goto 84 dX12_comesOut_70 (by decide) ?_
                  refine v_iconst (v := 0) dX12_comesOut_84 (by decide) ?_
                  obtain ⟨q25, q25_e, hF⟩ := Option.bind_eq_some_iff.mp hF
                  refine c_X12_312 rfl sh_226 (by exact ltG hG (by decide)) (Nat.le_of_ble_eq_true rfl) dX12_comesOut_85 (s_X12_emit _ q25_e hG) (fun r1 h1 hq => ?_)
                  obtain ⟨rfl, hq, hG⟩ := hq
                  replace hq := hq.symm
                  subst hq
                  simp only [Option.toList, List.nil_append]
                  refine v_goto 0 dX12_comesOut_88 (by decide) ?_
                  refine V.weak (la2 := [some (.ref 226), some (.int l1), none]) (by simp [wk]) ?_
                  exact (s_X12_comesOut_IH_0) _ _ _ hF hG
              · rw [if_pos c18] at hF
                refine v_iconst (v := 2) dX12_comesOut_59 (by decide) ?_
                refine v_goto 84 dX12_comesOut_60 (by decide) ?_
                refine v_iconst (v := 0) dX12_comesOut_84 (by decide) ?_
                obtain ⟨q27, q27_e, hF⟩ := Option.bind_eq_some_iff.mp hF
                refine c_X12_312 rfl sh_226 (by exact ltG hG (by decide)) (Nat.le_of_ble_eq_true rfl) dX12_comesOut_85 (s_X12_emit _ q27_e hG) (fun r1 h1 hq => ?_)
                obtain ⟨rfl, hq, hG⟩ := hq
                replace hq := hq.symm
                subst hq
                simp only [Option.toList, List.nil_append]
                refine v_goto 0 dX12_comesOut_88 (by decide) ?_
                refine V.weak (la2 := [some (.ref 226), some (.int l1), none]) (by simp [wk]) ?_
                exact (s_X12_comesOut_IH_0) _ _ _ hF hG
            · rw [if_pos c17] at hF
              refine v_return rfl dX12_comesOut_41 ?_
              obtain rfl := Option.some.inj hF
              exact ⟨rfl, rfl, hG⟩
def F_X12_comesOut (n : Nat) (h : Hp) (x1 : Int32) : Option Hp := W_X12_comesOut n 0 h  x1
set_option maxRecDepth 100000 in
set_option maxHeartbeats 4000000 in
theorem s_X12_comesOut (d : Nat) {n : Nat} {h : Hp} {x1 : Int32} {q0 : Hp} (hF : F_X12_comesOut n h x1 = some q0) (hG : G h)  : Kc mX12_comesOut (d + 1) [.ref 226, .int x1] h (fun r1 h1 => r1 = none ∧ h1 = q0 ∧ G q0) := by
  obtain ⟨h', rfl⟩ : ∃ z, z = q0 := ⟨_, rfl⟩
  have s_X12_comesOut_IH_0 := sw_X12_comesOut d   n
  unfold F_X12_comesOut at hF
  refine Kc.of [some (.ref 226), some (.int x1), none] ok_X12_comesOut rfl (Nat.le_of_ble_eq_true rfl) ?_
  refine V.weak (la2 := [some (.ref 226), some (.int x1), none]) (by simp [wk]) ?_
  exact (s_X12_comesOut_IH_0) _ _ _ hF hG
