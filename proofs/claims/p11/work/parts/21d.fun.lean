def F_X11_read (n : Nat) (h : Hp) : Option (Int32 × Hp) := ((F_X7_readText n h (hi h 0 1)).bind (fun q1 => (if (q1.1 : Int32) = 0 then (if (q1.1 : Int32) = 0 then ((F_X0_become n (wrI (wrI q1.2 0 1 0) 0 2 (-1)) 23 3).bind (fun q14 => ((F_X8_become n q14 30 10).bind (fun q16 => ((F_X6_clear n q16).bind (fun q18 => ((F_X2_clear n q18).bind (fun q20 => some (q1.1, (wrI q20 0 10 0)))))))))) else some (q1.1, (wrI (wrI q1.2 0 1 0) 0 2 (-1)))) else (if (q1.1 : Int32) = 0 then ((F_X0_become n (wrI (wrI q1.2 0 1 0) 0 2 (hi (wrI q1.2 0 1 0) 2 2)) 23 3).bind (fun q5 => ((F_X8_become n q5 30 10).bind (fun q7 => ((F_X6_clear n q7).bind (fun q9 => ((F_X2_clear n q9).bind (fun q11 => some (q1.1, (wrI q11 0 10 0)))))))))) else some (q1.1, (wrI (wrI q1.2 0 1 0) 0 2 (hi (wrI q1.2 0 1 0) 2 2)))))))
set_option maxRecDepth 100000 in
set_option maxHeartbeats 4000000 in
theorem s_X11_read (d : Nat) {n : Nat} {h : Hp}  {q0 : (Int32 × Hp)} (hF : F_X11_read n h  = some q0) (hG : G h)  : Kc mX11_read (d + 40) [.ref 0] h (fun r1 h1 => r1 = some (.int q0.1) ∧ h1 = q0.2 ∧ G q0.2) := by
  obtain ⟨r, h'⟩ := q0
  unfold F_X11_read at hF
  refine Kc.of [some (.ref 0), none] ok_X11_read rfl (Nat.le_of_ble_eq_true rfl) ?_
  refine v_aload_n (i := 0) dX11_read_0 rfl rfl ?_
  refine g_X11_25 (q := 2) rfl sh_0 (by exact ltG hG (by decide)) (by exact rG hG r0_0_3) dX11_read_1 ?_
  refine v_aload_n (i := 0) dX11_read_4 rfl rfl ?_
  refine g_X11_13 rfl sh_0 (by exact ltG hG (by decide)) dX11_read_5 ?_
  obtain ⟨q1, q1_e, hF⟩ := Option.bind_eq_some_iff.mp hF
  refine c_X11_102 rfl sh_2 (by exact ltG hG (by decide)) (Nat.le_of_ble_eq_true rfl) dX11_read_8 (s_X7_readText _ q1_e hG) (fun r1 h1 hq => ?_)
  obtain ⟨rfl, hq, hG⟩ := hq
  replace hq := hq.symm
  subst hq
  show V _ _ _ _ (_ :: _) _ _
  refine v_istore_n (i := 1) dX11_read_11 rfl (by decide) (nlT rfl) ?_
  simp only [List.set_cons_zero, List.set_cons_succ]
  refine v_aload_n (i := 0) dX11_read_12 rfl rfl ?_
  refine v_iconst (v := 0) dX11_read_13 (by decide) ?_
  refine p_X11_13 rfl sh_0 (by exact ltG hG (by decide)) dX11_read_14 ?_
  refine v_aload_n (i := 0) dX11_read_17 rfl rfl ?_
  refine v_iload_n (i := 1) dX11_read_18 rfl rfl ?_
  refine v_if_ne 26 dX11_read_19 (by decide) (fun c3 => ?_) (fun c3 => ?_)
  · rw [if_neg c3] at hF
    refine v_aload_n (i := 0) dX11_read_26 rfl rfl ?_
    refine g_X11_25 (q := 2) rfl sh_0 (by exact ltG hG (by decide)) (by exact rG hG r0_0_3) dX11_read_27 ?_
    refine g_X11_106 rfl sh_2 (by exact ltG hG (by decide)) dX11_read_30 ?_
    refine p_X11_17 rfl sh_0 (by exact ltG hG (by decide)) dX11_read_33 ?_
    refine v_iload_n (i := 1) dX11_read_36 rfl rfl ?_
    refine v_if_ne 87 dX11_read_37 (by decide) (fun c4 => ?_) (fun c4 => ?_)
    · rw [if_neg c4] at hF
      refine v_iload_n (i := 1) dX11_read_87 rfl rfl ?_
      refine v_ireturn rfl dX11_read_88 ?_
      obtain ⟨rfl, rfl⟩ := Prod.mk.inj (Option.some.inj hF)
      exact ⟨rfl, rfl, hG⟩
    · rw [if_pos c4] at hF
      refine v_aload_n (i := 0) dX11_read_40 rfl rfl ?_
      refine g_X11_32 (q := 23) rfl sh_0 (by exact ltG hG (by decide)) (by exact rG hG r0_0_4) dX11_read_41 ?_
      refine v_aload_n (i := 0) dX11_read_44 rfl rfl ?_
      refine g_X11_25 (q := 2) rfl sh_0 (by exact ltG hG (by decide)) (by exact rG hG r0_0_3) dX11_read_45 ?_
      refine g_X11_109 (q := 3) rfl sh_2 (by exact ltG hG (by decide)) (by exact rG hG r0_2_0) dX11_read_48 ?_
      obtain ⟨q5, q5_e, hF⟩ := Option.bind_eq_some_iff.mp hF
      refine c_X11_112 rfl sh_23 (by exact ltG hG (by decide)) (Nat.le_of_ble_eq_true rfl) dX11_read_51 (s_X0_become _ q5_e hG (by first | assumption | exact sc_30 | exact sc_34 | exact sc_10 | exact fd_24 | exact fd_4 | exact lw_25 | exact lw_5 | exact bd_23 | exact bd_3 | exact ⟨by first | assumption | rfl, by first | decide | omega⟩) (by first | assumption | exact sc_30 | exact sc_34 | exact sc_10 | exact fd_24 | exact fd_4 | exact lw_25 | exact lw_5 | exact bd_23 | exact bd_3 | exact ⟨by first | assumption | rfl, by first | decide | omega⟩)) (fun r1 h1 hq => ?_)
      obtain ⟨rfl, hq, hG⟩ := hq
      replace hq := hq.symm
      subst hq
      simp only [Option.toList, List.nil_append]
      refine v_aload_n (i := 0) dX11_read_54 rfl rfl ?_
      refine g_X11_44 (q := 30) rfl sh_0 (by exact ltG hG (by decide)) (by exact rG hG r0_0_6) dX11_read_55 ?_
      refine v_aload_n (i := 0) dX11_read_58 rfl rfl ?_
      refine g_X11_25 (q := 2) rfl sh_0 (by exact ltG hG (by decide)) (by exact rG hG r0_0_3) dX11_read_59 ?_
      refine g_X11_116 (q := 10) rfl sh_2 (by exact ltG hG (by decide)) (by exact rG hG r0_2_1) dX11_read_62 ?_
      obtain ⟨q7, q7_e, hF⟩ := Option.bind_eq_some_iff.mp hF
      refine c_X11_119 rfl sh_30 (by exact ltG hG (by decide)) (Nat.le_of_ble_eq_true rfl) dX11_read_65 (s_X8_become _ q7_e hG (by first | assumption | exact sc_30 | exact sc_34 | exact sc_10 | exact fd_24 | exact fd_4 | exact lw_25 | exact lw_5 | exact bd_23 | exact bd_3 | exact ⟨by first | assumption | rfl, by first | decide | omega⟩) (by first | assumption | exact sc_30 | exact sc_34 | exact sc_10 | exact fd_24 | exact fd_4 | exact lw_25 | exact lw_5 | exact bd_23 | exact bd_3 | exact ⟨by first | assumption | rfl, by first | decide | omega⟩)) (fun r1 h1 hq => ?_)
      obtain ⟨rfl, hq, hG⟩ := hq
      replace hq := hq.symm
      subst hq
      simp only [Option.toList, List.nil_append]
      refine v_aload_n (i := 0) dX11_read_68 rfl rfl ?_
      refine g_X11_54 (q := 38) rfl sh_0 (by exact ltG hG (by decide)) (by exact rG hG r0_0_8) dX11_read_69 ?_
      obtain ⟨q9, q9_e, hF⟩ := Option.bind_eq_some_iff.mp hF
      refine c_X11_122 rfl sh_38 (by exact ltG hG (by decide)) (Nat.le_of_ble_eq_true rfl) dX11_read_72 (s_X6_clear _ q9_e hG) (fun r1 h1 hq => ?_)
      obtain ⟨rfl, hq, hG⟩ := hq
      replace hq := hq.symm
      subst hq
      simp only [Option.toList, List.nil_append]
      refine v_aload_n (i := 0) dX11_read_75 rfl rfl ?_
      refine g_X11_68 (q := 201) rfl sh_0 (by exact ltG hG (by decide)) (by exact rG hG r0_0_11) dX11_read_76 ?_
      obtain ⟨q11, q11_e, hF⟩ := Option.bind_eq_some_iff.mp hF
      refine c_X11_123 rfl sh_201 (by exact ltG hG (by decide)) (Nat.le_of_ble_eq_true rfl) dX11_read_79 (s_X2_clear _ q11_e hG) (fun r1 h1 hq => ?_)
      obtain ⟨rfl, hq, hG⟩ := hq
      replace hq := hq.symm
      subst hq
      simp only [Option.toList, List.nil_append]
      refine v_aload_n (i := 0) dX11_read_82 rfl rfl ?_
      refine v_iconst (v := 0) dX11_read_83 (by decide) ?_
      refine p_X11_62 rfl sh_0 (by exact ltG hG (by decide)) dX11_read_84 ?_
      refine v_iload_n (i := 1) dX11_read_87 rfl rfl ?_
      refine v_ireturn rfl dX11_read_88 ?_
      obtain ⟨rfl, rfl⟩ := Prod.mk.inj (Option.some.inj hF)
      exact ⟨rfl, rfl, hG⟩
  · rw [if_pos c3] at hF
    refine v_iconst (v := (-1)) dX11_read_22 (by decide) ?_
    refine v_goto 33 dX11_read_23 (by decide) ?_
    refine p_X11_17 rfl sh_0 (by exact ltG hG (by decide)) dX11_read_33 ?_
    refine v_iload_n (i := 1) dX11_read_36 rfl rfl ?_
    refine v_if_ne 87 dX11_read_37 (by decide) (fun c13 => ?_) (fun c13 => ?_)
    · rw [if_neg c13] at hF
      refine v_iload_n (i := 1) dX11_read_87 rfl rfl ?_
      refine v_ireturn rfl dX11_read_88 ?_
      obtain ⟨rfl, rfl⟩ := Prod.mk.inj (Option.some.inj hF)
      exact ⟨rfl, rfl, hG⟩
    · rw [if_pos c13] at hF
      refine v_aload_n (i := 0) dX11_read_40 rfl rfl ?_
      refine g_X11_32 (q := 23) rfl sh_0 (by exact ltG hG (by decide)) (by exact rG hG r0_0_4) dX11_read_41 ?_
      refine v_aload_n (i := 0) dX11_read_44 rfl rfl ?_
      refine g_X11_25 (q := 2) rfl sh_0 (by exact ltG hG (by decide)) (by exact rG hG r0_0_3) dX11_read_45 ?_
      refine g_X11_109 (q := 3) rfl sh_2 (by exact ltG hG (by decide)) (by exact rG hG r0_2_0) dX11_read_48 ?_
      obtain ⟨q14, q14_e, hF⟩ := Option.bind_eq_some_iff.mp hF
      refine c_X11_112 rfl sh_23 (by exact ltG hG (by decide)) (Nat.le_of_ble_eq_true rfl) dX11_read_51 (s_X0_become _ q14_e hG (by first | assumption | exact sc_30 | exact sc_34 | exact sc_10 | exact fd_24 | exact fd_4 | exact lw_25 | exact lw_5 | exact bd_23 | exact bd_3 | exact ⟨by first | assumption | rfl, by first | decide | omega⟩) (by first | assumption | exact sc_30 | exact sc_34 | exact sc_10 | exact fd_24 | exact fd_4 | exact lw_25 | exact lw_5 | exact bd_23 | exact bd_3 | exact ⟨by first | assumption | rfl, by first | decide | omega⟩)) (fun r1 h1 hq => ?_)
      obtain ⟨rfl, hq, hG⟩ := hq
      replace hq := hq.symm
      subst hq
      simp only [Option.toList, List.nil_append]
      refine v_aload_n (i := 0) dX11_read_54 rfl rfl ?_
      refine g_X11_44 (q := 30) rfl sh_0 (by exact ltG hG (by decide)) (by exact rG hG r0_0_6) dX11_read_55 ?_
      refine v_aload_n (i := 0) dX11_read_58 rfl rfl ?_
      refine g_X11_25 (q := 2) rfl sh_0 (by exact ltG hG (by decide)) (by exact rG hG r0_0_3) dX11_read_59 ?_
      refine g_X11_116 (q := 10) rfl sh_2 (by exact ltG hG (by decide)) (by exact rG hG r0_2_1) dX11_read_62 ?_
      obtain ⟨q16, q16_e, hF⟩ := Option.bind_eq_some_iff.mp hF
      refine c_X11_119 rfl sh_30 (by exact ltG hG (by decide)) (Nat.le_of_ble_eq_true rfl) dX11_read_65 (s_X8_become _ q16_e hG (by first | assumption | exact sc_30 | exact sc_34 | exact sc_10 | exact fd_24 | exact fd_4 | exact lw_25 | exact lw_5 | exact bd_23 | exact bd_3 | exact ⟨by first | assumption | rfl, by first | decide | omega⟩) (by first | assumption | exact sc_30 | exact sc_34 | exact sc_10 | exact fd_24 | exact fd_4 | exact lw_25 | exact lw_5 | exact bd_23 | exact bd_3 | exact ⟨by first | assumption | rfl, by first | decide | omega⟩)) (fun r1 h1 hq => ?_)
      obtain ⟨rfl, hq, hG⟩ := hq
      replace hq := hq.symm
      subst hq
      simp only [Option.toList, List.nil_append]
      refine v_aload_n (i := 0) dX11_read_68 rfl rfl ?_
      refine g_X11_54 (q := 38) rfl sh_0 (by exact ltG hG (by decide)) (by exact rG hG r0_0_8) dX11_read_69 ?_
      obtain ⟨q18, q18_e, hF⟩ := Option.bind_eq_some_iff.mp hF
      refine c_X11_122 rfl sh_38 (by exact ltG hG (by decide)) (Nat.le_of_ble_eq_true rfl) dX11_read_72 (s_X6_clear _ q18_e hG) (fun r1 h1 hq => ?_)
      obtain ⟨rfl, hq, hG⟩ := hq
      replace hq := hq.symm
      subst hq
      simp only [Option.toList, List.nil_append]
      refine v_aload_n (i := 0) dX11_read_75 rfl rfl ?_
      refine g_X11_68 (q := 201) rfl sh_0 (by exact ltG hG (by decide)) (by exact rG hG r0_0_11) dX11_read_76 ?_
      obtain ⟨q20, q20_e, hF⟩ := Option.bind_eq_some_iff.mp hF
      refine c_X11_123 rfl sh_201 (by exact ltG hG (by decide)) (Nat.le_of_ble_eq_true rfl) dX11_read_79 (s_X2_clear _ q20_e hG) (fun r1 h1 hq => ?_)
      obtain ⟨rfl, hq, hG⟩ := hq
      replace hq := hq.symm
      subst hq
      simp only [Option.toList, List.nil_append]
      refine v_aload_n (i := 0) dX11_read_82 rfl rfl ?_
      refine v_iconst (v := 0) dX11_read_83 (by decide) ?_
      refine p_X11_62 rfl sh_0 (by exact ltG hG (by decide)) dX11_read_84 ?_
      refine v_iload_n (i := 1) dX11_read_87 rfl rfl ?_
      refine v_ireturn rfl dX11_read_88 ?_
      obtain ⟨rfl, rfl⟩ := Prod.mk.inj (Option.some.inj hF)
      exact ⟨rfl, rfl, hG⟩
