section
def F_X11_read (n : Nat) (h : Hp) : Option (Int32 × Hp) := ((F_X7_readText n h (hi h 0 1)).bind (fun q1 => (if (q1.1 : Int32) = 0 then (if (q1.1 : Int32) = 0 then ((F_X0_become n (wrI (wrI q1.2 0 1 0) 0 2 (-1)) 23 3).bind (fun q14 => ((F_X8_become n q14 30 10).bind (fun q16 => ((F_X6_clear n q16).bind (fun q18 => ((F_X2_clear n q18).bind (fun q20 => some (q1.1, (wrI q20 0 10 0)))))))))) else some (q1.1, (wrI (wrI q1.2 0 1 0) 0 2 (-1)))) else (if (q1.1 : Int32) = 0 then ((F_X0_become n (wrI (wrI q1.2 0 1 0) 0 2 (hi (wrI q1.2 0 1 0) 2 2)) 23 3).bind (fun q5 => ((F_X8_become n q5 30 10).bind (fun q7 => ((F_X6_clear n q7).bind (fun q9 => ((F_X2_clear n q9).bind (fun q11 => some (q1.1, (wrI q11 0 10 0)))))))))) else some (q1.1, (wrI (wrI q1.2 0 1 0) 0 2 (hi (wrI q1.2 0 1 0) 2 2)))))))
set_option maxRecDepth 100000 in
set_option maxHeartbeats 4000000 in
theorem s_X11_read (d : Nat) {n : Nat} {h : Hp}  {q0 : (Int32 × Hp)} (hF : F_X11_read n h  = some q0) (hG : G h)  : Kc mX11_read (d + 40) [.ref 0] h (fun r1 h1 => r1 = some (.int q0.1) ∧ h1 = q0.2 ∧ G q0.2) := by
  obtain ⟨r, h'⟩ := q0
  unfold F_X11_read at hF
  refine Kc.of [some (.ref 0), none] ok_X11_read rfl (Nat.le_of_ble_eq_true rfl) ?_
  refine v_aload_n (i := 0) dX11_read_0 rfl rfl ?_
  refine g_X11_25 (q := 2) rfl sh_0 (by exact ltG hG (by decide)) (by exact rG hG r0_0_3) dX11_read_1 ?_
  refine v_aload_n (i := 0) dX11_read_4 rfl rfl ?_
  refine g_X11_13 rfl sh_0 (by exact ltG hG (by decide)) dX11_read_5 ?_
  obtain ⟨q1, q1_e, hF⟩ := Option.bind_eq_some_iff.mp hF
  refine c_X11_102 rfl sh_2 (by exact ltG hG (by decide)) (Nat.le_of_ble_eq_true rfl) dX11_read_8 (s_X7_readText _ q1_e hG) (fun r1 h1 hq => ?_)
  obtain ⟨rfl, hq, hG⟩ := hq
  replace hq := hq.symm
  subst hq
  show V _ _ _ _ (_ :: _) _ _
  refine v_istore_n (i := 1) dX11_read_11 rfl (by decide) (nlT rfl) ?_
  simp only [List.set_cons_zero, List.set_cons_succ]
  refine v_aload_n (i := 0) dX11_read_12 rfl rfl ?_
  refine v_iconst (v := 0) dX11_read_13 (by decide) ?_
  refine p_X11_13 rfl sh_0 (by exact ltG hG (by decide)) dX11_read_14 ?_
  refine v_aload_n (i := 0) dX11_read_17 rfl rfl ?_
  refine v_iload_n (i := 1) dX11_read_18 rfl rfl ?_
  refine v_if_ne 26 dX11_read_19 (by decide) (fun c3 => ?_) (fun c3 => ?_)
  · rw [if_neg c3] at hF
    refine v_aload_n (i := 0) dX11_read_26 rfl rfl ?_
    refine g_X11_25 (q := 2) rfl sh_0 (by exact ltG hG (by decide)) (by exact rG hG r0_0_3) dX11_read_27 ?_
    refine g_X11_106 rfl sh_2 (by exact ltG hG (by decide)) dX11_read_30 ?_
    refine p_X11_17 rfl sh_0 (by exact ltG hG (by decide)) dX11_read_33 ?_
    refine v_iload_n (i := 1) dX11_read_36 rfl rfl ?_
    refine v_if_ne 87 dX11_read_37 (by decide) (fun c4 => ?_) (fun c4 => ?_)
    · rw [if_neg c4] at hF
      refine v_iload_n (i := 1) dX11_read_87 rfl rfl ?_
      refine v_ireturn rfl dX11_read_88 ?_
      obtain ⟨rfl, rfl⟩ := Prod.mk.inj (Option.some.inj hF)
      exact ⟨rfl, rfl, hG⟩
    · rw [if_pos c4] at hF
      refine v_aload_n (i := 0) dX11_read_40 rfl rfl ?_
      refine g_X11_32 (q := 23) rfl sh_0 (by exact ltG hG (by decide)) (by exact rG hG r0_0_4) dX11_read_41 ?_
      refine v_aload_n (i := 0) dX11_read_44 rfl rfl ?_
      refine g_X11_25 (q := 2) rfl sh_0 (by exact ltG hG (by decide)) (by exact rG hG r0_0_3) dX11_read_45 ?_
      refine g_X11_109 (q := 3) rfl sh_2 (by exact ltG hG (by decide)) (by exact rG hG r0_2_0) dX11_read_48 ?_
      obtain ⟨q5, q5_e, hF⟩ := Option.bind_eq_some_iff.mp hF
      refine c_X11_112 rfl sh_23 (by exact ltG hG (by decide)) (Nat.le_of_ble_eq_true rfl) dX11_read_51 (s_X0_become _ q5_e hG (by first | assumption | exact sc_30 | exact sc_34 | exact sc_10 | exact fd_24 | exact fd_4 | exact lw_25 | exact lw_5 | exact bd_23 | exact bd_3 | exact ⟨by first | assumption | rfl, by first | decide | omega⟩) (by first | assumption | exact sc_30 | exact sc_34 | exact sc_10 | exact fd_24 | exact fd_4 | exact lw_25 | exact lw_5 | exact bd_23 | exact bd_3 | exact ⟨by first | assumption | rfl, by first | decide | omega⟩)) (fun r1 h1 hq => ?_)
      obtain ⟨rfl, hq, hG⟩ := hq
      replace hq := hq.symm
      subst hq
      simp only [Option.toList, List.nil_append]
      refine v_aload_n (i := 0) dX11_read_54 rfl rfl ?_
      refine g_X11_44 (q := 30) rfl sh_0 (by exact ltG hG (by decide)) (by exact rG hG r0_0_6) dX11_read_55 ?_
      refine v_aload_n (i := 0) dX11_read_58 rfl rfl ?_
      refine g_X11_25 (q := 2) rfl sh_0 (by exact ltG hG (by decide)) (by exact rG hG r0_0_3) dX11_read_59 ?_
      refine g_X11_116 (q := 10) rfl sh_2 (by exact ltG hG (by decide)) (by exact rG hG r0_2_1) dX11_read_62 ?_
      obtain ⟨q7, q7_e, hF⟩ := Option.bind_eq_some_iff.mp hF
      refine c_X11_119 rfl sh_30 (by exact ltG hG (by decide)) (Nat.le_of_ble_eq_true rfl) dX11_read_65 (s_X8_become _ q7_e hG (by first | assumption | exact sc_30 | exact sc_34 | exact sc_10 | exact fd_24 | exact fd_4 | exact lw_25 | exact lw_5 | exact bd_23 | exact bd_3 | exact ⟨by first | assumption | rfl, by first | decide | omega⟩) (by first | assumption | exact sc_30 | exact sc_34 | exact sc_10 | exact fd_24 | exact fd_4 | exact lw_25 | exact lw_5 | exact bd_23 | exact bd_3 | exact ⟨by first | assumption | rfl, by first | decide | omega⟩)) (fun r1 h1 hq => ?_)
      obtain ⟨rfl, hq, hG⟩ := hq
      replace hq := hq.symm
      subst hq
      simp only [Option.toList, List.nil_append]
      refine v_aload_n (i := 0) dX11_read_68 rfl rfl ?_
      refine g_X11_54 (q := 38) rfl sh_0 (by exact ltG hG (by decide)) (by exact rG hG r0_0_8) dX11_read_69 ?_
      obtain ⟨q9, q9_e, hF⟩ := Option.bind_eq_some_iff.mp hF
      refine c_X11_122 rfl sh_38 (by exact ltG hG (by decide)) (Nat.le_of_ble_eq_true rfl) dX11_read_72 (s_X6_clear _ q9_e hG) (fun r1 h1 hq => ?_)
      obtain ⟨rfl, hq, hG⟩ := hq
      replace hq := hq.symm
      subst hq
      simp only [Option.toList, List.nil_append]
      refine v_aload_n (i := 0) dX11_read_75 rfl rfl ?_
      refine g_X11_68 (q := 201) rfl sh_0 (by exact ltG hG (by decide)) (by exact rG hG r0_0_11) dX11_read_76 ?_
      obtain ⟨q11, q11_e, hF⟩ := Option.bind_eq_some_iff.mp hF
      refine c_X11_123 rfl sh_201 (by exact ltG hG (by decide)) (Nat.le_of_ble_eq_true rfl) dX11_read_79 (s_X2_clear _ q11_e hG) (fun r1 h1 hq => ?_)
      obtain ⟨rfl, hq, hG⟩ := hq
      replace hq := hq.symm
      subst hq
      simp only [Option.toList, List.nil_append]
      refine v_aload_n (i := 0) dX11_read_82 rfl rfl ?_
      refine v_iconst (v := 0) dX11_read_83 (by decide) ?_
      refine p_X11_62 rfl sh_0 (by exact ltG hG (by decide)) dX11_read_84 ?_
      refine v_iload_n (i := 1) dX11_read_87 rfl rfl ?_
      refine v_ireturn rfl dX11_read_88 ?_
      obtain ⟨rfl, rfl⟩ := Prod.mk.inj (Option.some.inj hF)
      exact ⟨rfl, rfl, hG⟩
  · rw [if_pos c3] at hF
    refine v_iconst (v := (-1)) dX11_read_22 (by decide) ?_
    refine v_goto 33 dX11_read_23 (by decide) ?_
    refine p_X11_17 rfl sh_0 (by exact ltG hG (by decide)) dX11_read_33 ?_
    refine v_iload_n (i := 1) dX11_read_36 rfl rfl ?_
    refine v_if_ne 87 dX11_read_37 (by decide) (fun c13 => ?_) (fun c13 => ?_)
    · rw [if_neg c13] at hF
      refine v_iload_n (i := 1) dX11_read_87 rfl rfl ?_
      refine v_ireturn rfl dX11_read_88 ?_
      obtain ⟨rfl, rfl⟩ := Prod.mk.inj (Option.some.inj hF)
      exact ⟨rfl, rfl, hG⟩
    · rw [if_pos c13] at hF
      refine v_aload_n (i := 0) dX11_read_40 rfl rfl ?_
      refine g_X11_32 (q := 23) rfl sh_0 (by exact ltG hG (by decide)) (by exact rG hG r0_0_4) dX11_read_41 ?_
      refine v_aload_n (i := 0) dX11_read_44 rfl rfl ?_
      refine g_X11_25 (q := 2) rfl sh_0 (by exact ltG hG (by decide)) (by exact rG hG r0_0_3) dX11_read_45 ?_
      refine g_X11_109 (q := 3) rfl sh_2 (by exact ltG hG (by decide)) (by exact rG hG r0_2_0) dX11_read_48 ?_
      obtain ⟨q14, q14_e, hF⟩ := Option.bind_eq_some_iff.mp hF
      refine c_X11_112 rfl sh_23 (by exact ltG hG (by decide)) (Nat.le_of_ble_eq_true rfl) dX11_read_51 (s_X0_become _ q14_e hG (by first | assumption | exact sc_30 | exact sc_34 | exact sc_10 | exact fd_24 | exact fd_4 | exact lw_25 | exact lw_5 | exact bd_23 | exact bd_3 | exact ⟨by first | assumption | rfl, by first | decide | omega⟩) (by first | assumption | exact sc_30 | exact sc_34 | exact sc_10 | exact fd_24 | exact fd_4 | exact lw_25 | exact lw_5 | exact bd_23 | exact bd_3 | exact ⟨by first | assumption | rfl, by first | decide | omega⟩)) (fun r1 h1 hq => ?_)
      obtain ⟨rfl, hq, hG⟩ := hq
      replace hq := hq.symm
      subst hq
      simp only [Option.toList, List.nil_append]
      refine v_aload_n (i := 0) dX11_read_54 rfl rfl ?_
      refine g_X11_44 (q := 30) rfl sh_0 (by exact ltG hG (by decide)) (by exact rG hG r0_0_6) dX11_read_55 ?_
      refine v_aload_n (i := 0) dX11_read_58 rfl rfl ?_
      refine g_X11_25 (q := 2) rfl sh_0 (by exact ltG hG (by decide)) (by exact rG hG r0_0_3) dX11_read_59 ?_
      refine g_X11_116 (q := 10) rfl sh_2 (by exact ltG hG (by decide)) (by exact rG hG r0_2_1) dX11_read_62 ?_
      obtain ⟨q16, q16_e, hF⟩ := Option.bind_eq_some_iff.mp hF
      refine c_X11_119 rfl sh_30 (by exact ltG hG (by decide)) (Nat.le_of_ble_eq_true rfl) dX11_read_65 (s_X8_become _ q16_e hG (by first | assumption | exact sc_30 | exact sc_34 | exact sc_10 | exact fd_24 | exact fd_4 | exact lw_25 | exact lw_5 | exact bd_23 | exact bd_3 | exact ⟨by first | assumption | rfl, by first | decide | omega⟩) (by first | assumption | exact sc_30 | exact sc_34 | exact sc_10 | exact fd_24 | exact fd_4 | exact lw_25 | exact lw_5 | exact bd_23 | exact bd_3 | exact ⟨by first | assumption | rfl, by first | decide | omega⟩)) (fun r1 h1 hq => ?_)
      obtain ⟨rfl, hq, hG⟩ := hq
      replace hq := hq.symm
      subst hq
      simp only [Option.toList, List.nil_append]
      refine v_aload_n (i := 0) dX11_read_68 rfl rfl ?_
      refine g_X11_54 (q := 38) rfl sh_0 (by exact ltG hG (by decide)) (by exact rG hG r0_0_8) dX11_read_69 ?_
      obtain ⟨q18, q18_e, hF⟩ := Option.bind_eq_some_iff.mp hF
      refine c_X11_122 rfl sh_38 (by exact ltG hG (by decide)) (Nat.le_of_ble_eq_true rfl) dX11_read_72 (s_X6_clear _ q18_e hG) (fun r1 h1 hq => ?_)
      obtain ⟨rfl, hq, hG⟩ := hq
      replace hq := hq.symm
      subst hq
      simp only [Option.toList, List.nil_append]
      refine v_aload_n (i := 0) dX11_read_75 rfl rfl ?_
      refine g_X11_68 (q := 201) rfl sh_0 (by exact ltG hG (by decide)) (by exact rG hG r0_0_11) dX11_read_76 ?_
      obtain ⟨q20, q20_e, hF⟩ := Option.bind_eq_some_iff.mp hF
      refine c_X11_123 rfl sh_201 (by exact ltG hG (by decide)) (Nat.le_of_ble_eq_true rfl) dX11_read_79 (s_X2_clear _ q20_e hG) (fun r1 h1 hq => ?_)
      obtain ⟨rfl, hq, hG⟩ := hq
      replace hq := hq.symm
      subst hq
      simp only [Option.toList, List.nil_append]
      refine v_aload_n (i := 0) dX11_read_82 rfl rfl ?_
      refine v_iconst (v := 0) dX11_read_83 (by decide) ?_
      refine p_X11_62 rfl sh_0 (by exact ltG hG (by decide)) dX11_read_84 ?_
      refine v_iload_n (i := 1) dX11_read_87 rfl rfl ?_
      refine v_ireturn rfl dX11_read_88 ?_
      obtain ⟨rfl, rfl⟩ := Prod.mk.inj (Option.some.inj hF)
      exact ⟨rfl, rfl, hG⟩
end
section
/-! constructors -/
section CO
variable {M : MT} {d pc : Nat} {la : List (Option Value)} {st : List Value} {h : Hp} {Q : Option Value → Hp → Prop}
theorem v_atn {h0 : Hp} {q : Nat} (hq : hn h0 = q) (k : V M d pc la (.ref q :: st) h Q) : V M d pc la (.ref (hn h0) :: st) h Q := by subst hq; exact k
theorem v_newarr {n : Int32} {N q : Nat} {atype : ArrayType} {ty : FieldType} (hq : hn h = q) (hty : newarray.typeOf atype = ty) (t0 : Nat) (ht : ∀ g : FieldType → ClassId, (tyl g)[t0]? = some (g ty, ty)) (hs : shp q = .inr (ty, N)) (hw : Cond.arrayClass ty ∈ gw) (hp : ty ≠ .float ∧ ty ≠ .double) (hr0 : ∀ C, ty ≠ .object C) (hr1 : ∀ C, ty ≠ .array C) (hn0 : ¬ n < 0) (hN : n.toNatClampNeg = N) (hbytes : N * componentBytes ty ≤ 536870912) (hd : decode M.2.1 pc = .ok (.newarray atype, 2)) (k : V M d (pc + 2) la (.ref q :: st) (mkH h) Q) : V M d pc la (.int n :: st) h Q := by
  subst hq
  exact v_newarray hty t0 ht hs hw hp hr0 hr1 hn0 hN hbytes hd k
theorem v_anewarr {n : Int32} {N q idx : Nat} (hq : hn h = q) (hs : shp q = .inr (.object RX8, N)) (h1 : Cond.classLink M.1.cls idx RX8 ∈ gw) (hn0 : ¬ n < 0) (hN : n.toNatClampNeg = N) (hbytes : N * 4 ≤ 536870912) (hd : decode M.2.1 pc = .ok (.anewarray idx, 3)) (k : V M d (pc + 3) la (.ref q :: st) (mkH h) Q) : V M d pc la (.int n :: st) h Q := by
  subst hq
  exact v_anewarray hs h1 hn0 hN hbytes hd k
end CO
def hE : Hp := (0, fun _ _ => none, fun _ _ => 0, fun _ _ => 0)
def K8 (h : Hp) (a : Nat) : Hp := (wrR (mkH (wrR (mkH (wrR (mkH (wrI (wrI (wrI (wrI h a 0 0) a 1 0) a 2 0) a 3 0)) a 4 (some (a + 1)))) a 5 (some (a + 2)))) a 6 (some (a + 3)))
theorem k_X8_init (d : Nat) {a : Nat} {h : Hp} (hN : hn h = a + 1) (hS : Sc a) : Kc mX8_init (d + 1) [.ref a] h (fun r h' => r = none ∧ h' = K8 h a) := by
  obtain ⟨s0, s1, s2, s3, s4, s5, s6, s7⟩ := hS
  refine Kc.of [some (.ref a)] ok_X8_init rfl (Nat.le_of_ble_eq_true rfl) ?_
  refine v_aload_n (i := 0) dX8_init_0 rfl rfl ?_
  refine v_objInit ml_X8_3 oi_im oi_code (Nat.le_of_ble_eq_true rfl) dX8_init_1 ?_
  refine v_aload_n (i := 0) dX8_init_4 rfl rfl ?_
  refine v_iconst (v := 0) dX8_init_5 (by decide) ?_
  refine p_X8_9 rfl s0 (by show a < hn h + 0; omega) dX8_init_6 ?_
  refine v_aload_n (i := 0) dX8_init_9 rfl rfl ?_
  refine v_iconst (v := 0) dX8_init_10 (by decide) ?_
  refine p_X8_15 rfl s0 (by show a < hn h + 0; omega) dX8_init_11 ?_
  refine v_aload_n (i := 0) dX8_init_14 rfl rfl ?_
  refine v_iconst (v := 0) dX8_init_15 (by decide) ?_
  refine p_X8_18 rfl s0 (by show a < hn h + 0; omega) dX8_init_16 ?_
  refine v_aload_n (i := 0) dX8_init_19 rfl rfl ?_
  refine v_iconst (v := 0) dX8_init_20 (by decide) ?_
  refine p_X8_21 rfl s0 (by show a < hn h + 0; omega) dX8_init_21 ?_
  refine v_aload_n (i := 0) dX8_init_24 rfl rfl ?_
  refine v_bipush (v := 25) dX8_init_25 (by decide) ?_
  refine v_newarr (q := (a + 1)) (ty := .byte) (N := 25) (by show hn h + 0 = a + 1; omega) rfl 1 (fun _ => rfl) s1 ac_byte ⟨nofun, nofun⟩ (fun _ => nofun) (fun _ => nofun) (by decide) (by decide) (by decide) dX8_init_27 ?_
  refine p_X8_24 rfl s0 (by show a < hn h + 1; omega) rfl dX8_init_29 ?_
  refine v_aload_n (i := 0) dX8_init_32 rfl rfl ?_
  refine v_iconst (v := 5) dX8_init_33 (by decide) ?_
  refine v_newarr (q := (a + 2)) (ty := .int) (N := 5) (by show hn h + 1 = a + 2; omega) rfl 0 (fun _ => rfl) s2 ac_int ⟨nofun, nofun⟩ (fun _ => nofun) (fun _ => nofun) (by decide) (by decide) (by decide) dX8_init_34 ?_
  refine p_X8_28 rfl s0 (by show a < hn h + 2; omega) rfl dX8_init_36 ?_
  refine v_aload_n (i := 0) dX8_init_39 rfl rfl ?_
  refine v_iconst (v := 5) dX8_init_40 (by decide) ?_
  refine v_newarr (q := (a + 3)) (ty := .int) (N := 5) (by show hn h + 2 = a + 3; omega) rfl 0 (fun _ => rfl) s3 ac_int ⟨nofun, nofun⟩ (fun _ => nofun) (fun _ => nofun) (by decide) (by decide) (by decide) dX8_init_41 ?_
  refine p_X8_32 rfl s0 (by show a < hn h + 3; omega) rfl dX8_init_43 ?_
  refine v_return rfl dX8_init_46 ⟨rfl, rfl⟩
end
section
def hk_0 : Hp := mkH hE
def hk_1 : Hp := (mkH (wrI (wrI (wrR (mkH hk_0) 0 0 (some 1)) 0 1 0) 0 2 (-1)))
def hk_2 : Hp := (mkH hk_1)
def hk_3 : Hp := (mkH hk_2)
def hk_4 : Hp := (wrI (wrI (wrI (wrI hk_3 4 0 0) 4 1 0) 4 2 0) 4 3 0)
theorem k_X3_init_4 (d : Nat) : Kc mX3_init (d + 1) [.ref 4] hk_3 (fun r h' => r = none ∧ h' = hk_4) := by
  refine Kc.of [some (.ref 4)] ok_X3_init rfl (Nat.le_of_ble_eq_true rfl) ?_
  refine v_aload_n (i := 0) dX3_init_0 rfl rfl ?_
  refine v_objInit ml_X3_3 oi_im oi_code (Nat.le_of_ble_eq_true rfl) dX3_init_1 ?_
  refine v_aload_n (i := 0) dX3_init_4 rfl rfl ?_
  refine v_iconst (v := 0) dX3_init_5 (by decide) ?_
  refine p_X3_9 rfl sh_4 (by decide +kernel) dX3_init_6 ?_
  refine v_aload_n (i := 0) dX3_init_9 rfl rfl ?_
  refine v_iconst (v := 0) dX3_init_10 (by decide) ?_
  refine p_X3_15 rfl sh_4 (by decide +kernel) dX3_init_11 ?_
  refine v_aload_n (i := 0) dX3_init_14 rfl rfl ?_
  refine v_iconst (v := 0) dX3_init_15 (by decide) ?_
  refine p_X3_18 rfl sh_4 (by decide +kernel) dX3_init_16 ?_
  refine v_aload_n (i := 0) dX3_init_19 rfl rfl ?_
  refine v_iconst (v := 0) dX3_init_20 (by decide) ?_
  refine p_X3_21 rfl sh_4 (by decide +kernel) dX3_init_21 ?_
  refine v_return rfl dX3_init_24 ⟨rfl, rfl⟩
def hk_5 : Hp := (mkH (wrR hk_4 3 0 (some 4)))
def hk_6 : Hp := (wrI (wrR (mkH (wrR (mkH (wrR (mkH hk_5) 5 0 (some 6))) 5 1 (some 7))) 5 2 (some 8)) 5 3 0)
theorem k_X4_init_5 (d : Nat) : Kc mX4_init (d + 1) [.ref 5] hk_5 (fun r h' => r = none ∧ h' = hk_6) := by
  refine Kc.of [some (.ref 5)] ok_X4_init rfl (Nat.le_of_ble_eq_true rfl) ?_
  refine v_aload_n (i := 0) dX4_init_0 rfl rfl ?_
  refine v_objInit ml_X4_3 oi_im oi_code (Nat.le_of_ble_eq_true rfl) dX4_init_1 ?_
  refine v_aload_n (i := 0) dX4_init_4 rfl rfl ?_
  refine v_sipush (v := 404) dX4_init_5 (by decide) ?_
  refine v_newarr (q := 6) (ty := .int) (N := 404) (by decide +kernel) rfl 0 (fun _ => rfl) sh_6 ac_int ⟨nofun, nofun⟩ (fun _ => nofun) (fun _ => nofun) (by decide) (by decide) (by decide) dX4_init_8 ?_
  refine p_X4_11 rfl sh_5 (by decide +kernel) rfl dX4_init_10 ?_
  refine v_aload_n (i := 0) dX4_init_13 rfl rfl ?_
  refine v_iconst (v := 4) dX4_init_14 (by decide) ?_
  refine v_newarr (q := 7) (ty := .int) (N := 4) (by decide +kernel) rfl 0 (fun _ => rfl) sh_7 ac_int ⟨nofun, nofun⟩ (fun _ => nofun) (fun _ => nofun) (by decide) (by decide) (by decide) dX4_init_15 ?_
  refine p_X4_15 rfl sh_5 (by decide +kernel) rfl dX4_init_17 ?_
  refine v_aload_n (i := 0) dX4_init_20 rfl rfl ?_
  refine v_bipush (v := 16) dX4_init_21 (by decide) ?_
  refine v_newarr (q := 8) (ty := .int) (N := 16) (by decide +kernel) rfl 0 (fun _ => rfl) sh_8 ac_int ⟨nofun, nofun⟩ (fun _ => nofun) (fun _ => nofun) (by decide) (by decide) (by decide) dX4_init_23 ?_
  refine p_X4_18 rfl sh_5 (by decide +kernel) rfl dX4_init_25 ?_
  refine v_aload_n (i := 0) dX4_init_28 rfl rfl ?_
  refine v_iconst (v := 0) dX4_init_29 (by decide) ?_
  refine p_X4_21 rfl sh_5 (by decide +kernel) dX4_init_30 ?_
  refine v_return rfl dX4_init_33 ⟨rfl, rfl⟩
def hk_7 : Hp := (wrR (mkH (wrI (wrI (wrI (wrR hk_6 3 1 (some 5)) 3 2 0) 3 3 0) 3 4 0)) 3 5 (some 9))
theorem k_X0_init_3 (d : Nat) : Kc mX0_init (d + 2) [.ref 3] hk_2 (fun r h' => r = none ∧ h' = hk_7) := by
  refine Kc.of [some (.ref 3)] ok_X0_init rfl (Nat.le_of_ble_eq_true rfl) ?_
  refine v_aload_n (i := 0) dX0_init_0 rfl rfl ?_
  refine v_objInit ml_X0_3 oi_im oi_code (Nat.le_of_ble_eq_true rfl) dX0_init_1 ?_
  refine v_aload_n (i := 0) dX0_init_4 rfl rfl ?_
  refine n_X0_9 rfl (by decide +kernel) dX0_init_5 ?_
  refine v_atn (q := 4) (by decide +kernel) ?_
  refine v_dup dX0_init_8 rfl ?_
  refine c_X0_11 rfl (Nat.le_of_ble_eq_true rfl) dX0_init_9 (k_X3_init_4 _) (fun r1 h1 hq => ?_)
  obtain ⟨rfl, rfl⟩ := hq
  simp only [Option.toList, List.nil_append]
  refine p_X0_12 rfl sh_3 (by decide +kernel) rfl dX0_init_12 ?_
  refine v_aload_n (i := 0) dX0_init_15 rfl rfl ?_
  refine n_X0_18 rfl (by decide +kernel) dX0_init_16 ?_
  refine v_atn (q := 5) (by decide +kernel) ?_
  refine v_dup dX0_init_19 rfl ?_
  refine c_X0_20 rfl (Nat.le_of_ble_eq_true rfl) dX0_init_20 (k_X4_init_5 _) (fun r1 h1 hq => ?_)
  obtain ⟨rfl, rfl⟩ := hq
  simp only [Option.toList, List.nil_append]
  refine p_X0_21 rfl sh_3 (by decide +kernel) rfl dX0_init_23 ?_
  refine v_aload_n (i := 0) dX0_init_26 rfl rfl ?_
  refine v_iconst (v := 0) dX0_init_27 (by decide) ?_
  refine p_X0_25 rfl sh_3 (by decide +kernel) dX0_init_28 ?_
  refine v_aload_n (i := 0) dX0_init_31 rfl rfl ?_
  refine v_iconst (v := 0) dX0_init_32 (by decide) ?_
  refine p_X0_29 rfl sh_3 (by decide +kernel) dX0_init_33 ?_
  refine v_aload_n (i := 0) dX0_init_36 rfl rfl ?_
  refine v_iconst (v := 0) dX0_init_37 (by decide) ?_
  refine p_X0_32 rfl sh_3 (by decide +kernel) dX0_init_38 ?_
  refine v_aload_n (i := 0) dX0_init_41 rfl rfl ?_
  refine v_bipush (v := 9) dX0_init_42 (by decide) ?_
  refine v_newarr (q := 9) (ty := .int) (N := 9) (by decide +kernel) rfl 0 (fun _ => rfl) sh_9 ac_int ⟨nofun, nofun⟩ (fun _ => nofun) (fun _ => nofun) (by decide) (by decide) (by decide) dX0_init_44 ?_
  refine p_X0_35 rfl sh_3 (by decide +kernel) rfl dX0_init_46 ?_
  refine v_return rfl dX0_init_49 ⟨rfl, rfl⟩
def hk_8 : Hp := (mkH (wrI (wrI (wrI (wrR (mkH (wrR (mkH (wrR (mkH (wrR (mkH (wrI (wrI (wrI (wrI (wrI (wrR (K8 (mkH (wrR hk_7 2 0 (some 3))) 10) 2 1 (some 10)) 2 2 (-1)) 2 4 0) 2 5 0) 2 6 0) 2 7 (-1))) 2 8 (some 14))) 2 9 (some 15))) 2 10 (some 16))) 2 11 (some 17)) 2 12 0) 2 13 0) 2 14 0))
end
section
theorem dJ0_length_8abf5_0 : decode cJ0_length_8abf5 0 = .ok (.aload_n 0, 1) := by decide +kernel
theorem dJ0_length_8abf5_1 : decode cJ0_length_8abf5 1 = .ok (.getfield 9, 3) := by decide +kernel
theorem dJ0_length_8abf5_4 : decode cJ0_length_8abf5 4 = .ok (.arraylength, 1) := by decide +kernel
theorem dJ0_length_8abf5_5 : decode cJ0_length_8abf5 5 = .ok (.aload_n 0, 1) := by decide +kernel
theorem dJ0_length_8abf5_6 : decode cJ0_length_8abf5 6 = .ok (.invokevirtual 335, 3) := by decide +kernel
theorem dJ0_length_8abf5_9 : decode cJ0_length_8abf5 9 = .ok (.ishr, 1) := by decide +kernel
theorem dJ0_length_8abf5_10 : decode cJ0_length_8abf5 10 = .ok (.ireturn, 1) := by decide +kernel
theorem dJ0_charAt_5068e_0 : decode cJ0_charAt_5068e 0 = .ok (.aload_n 0, 1) := by decide +kernel
theorem dJ0_charAt_5068e_1 : decode cJ0_charAt_5068e 1 = .ok (.invokevirtual 492, 3) := by decide +kernel
theorem dJ0_charAt_5068e_4 : decode cJ0_charAt_5068e 4 = .ok (.ifCond .eq 12, 3) := by decide +kernel
theorem dJ0_charAt_5068e_7 : decode cJ0_charAt_5068e 7 = .ok (.aload_n 0, 1) := by decide +kernel
theorem dJ0_charAt_5068e_8 : decode cJ0_charAt_5068e 8 = .ok (.getfield 9, 3) := by decide +kernel
theorem dJ0_charAt_5068e_11 : decode cJ0_charAt_5068e 11 = .ok (.iload_n 1, 1) := by decide +kernel
theorem dJ0_charAt_5068e_12 : decode cJ0_charAt_5068e 12 = .ok (.invokestatic 495, 3) := by decide +kernel
theorem dJ0_charAt_5068e_15 : decode cJ0_charAt_5068e 15 = .ok (.ireturn, 1) := by decide +kernel
theorem dJ0_charAt_5068e_16 : decode cJ0_charAt_5068e 16 = .ok (.aload_n 0, 1) := by decide +kernel
theorem dJ0_charAt_5068e_17 : decode cJ0_charAt_5068e 17 = .ok (.getfield 9, 3) := by decide +kernel
theorem dJ0_charAt_5068e_20 : decode cJ0_charAt_5068e 20 = .ok (.iload_n 1, 1) := by decide +kernel
theorem dJ0_charAt_5068e_21 : decode cJ0_charAt_5068e 21 = .ok (.invokestatic 498, 3) := by decide +kernel
theorem dJ0_charAt_5068e_24 : decode cJ0_charAt_5068e 24 = .ok (.ireturn, 1) := by decide +kernel
theorem dJ0_coder_7d493_0 : decode cJ0_coder_7d493 0 = .ok (.getstatic 38, 3) := by decide +kernel
theorem dJ0_coder_7d493_3 : decode cJ0_coder_7d493 3 = .ok (.ifCond .eq 10, 3) := by decide +kernel
theorem dJ0_coder_7d493_6 : decode cJ0_coder_7d493 6 = .ok (.aload_n 0, 1) := by decide +kernel
theorem dJ0_coder_7d493_7 : decode cJ0_coder_7d493 7 = .ok (.getfield 15, 3) := by decide +kernel
theorem dJ0_coder_7d493_10 : decode cJ0_coder_7d493 10 = .ok (.goto 4, 3) := by decide +kernel
theorem dJ0_coder_7d493_13 : decode cJ0_coder_7d493 13 = .ok (.iconst 1, 1) := by decide +kernel
theorem dJ0_coder_7d493_14 : decode cJ0_coder_7d493 14 = .ok (.ireturn, 1) := by decide +kernel
theorem dJ0_isLatin1_aae02_0 : decode cJ0_isLatin1_aae02 0 = .ok (.getstatic 38, 3) := by decide +kernel
theorem dJ0_isLatin1_aae02_3 : decode cJ0_isLatin1_aae02 3 = .ok (.ifCond .eq 14, 3) := by decide +kernel
theorem dJ0_isLatin1_aae02_6 : decode cJ0_isLatin1_aae02 6 = .ok (.aload_n 0, 1) := by decide +kernel
theorem dJ0_isLatin1_aae02_7 : decode cJ0_isLatin1_aae02 7 = .ok (.getfield 15, 3) := by decide +kernel
theorem dJ0_isLatin1_aae02_10 : decode cJ0_isLatin1_aae02 10 = .ok (.ifCond .ne 7, 3) := by decide +kernel
theorem dJ0_isLatin1_aae02_13 : decode cJ0_isLatin1_aae02 13 = .ok (.iconst 1, 1) := by decide +kernel
theorem dJ0_isLatin1_aae02_14 : decode cJ0_isLatin1_aae02 14 = .ok (.goto 4, 3) := by decide +kernel
theorem dJ0_isLatin1_aae02_17 : decode cJ0_isLatin1_aae02 17 = .ok (.iconst 0, 1) := by decide +kernel
theorem dJ0_isLatin1_aae02_18 : decode cJ0_isLatin1_aae02 18 = .ok (.ireturn, 1) := by decide +kernel
theorem dJ0_checkIndex_df160_0 : decode cJ0_checkIndex_df160 0 = .ok (.iload_n 0, 1) := by decide +kernel
theorem dJ0_checkIndex_df160_1 : decode cJ0_checkIndex_df160 1 = .ok (.iload_n 1, 1) := by decide +kernel
theorem dJ0_checkIndex_df160_2 : decode cJ0_checkIndex_df160 2 = .ok (.getstatic 1053, 3) := by decide +kernel
theorem dJ0_checkIndex_df160_5 : decode cJ0_checkIndex_df160 5 = .ok (.invokestatic 1059, 3) := by decide +kernel
theorem dJ0_checkIndex_df160_8 : decode cJ0_checkIndex_df160 8 = .ok (.pop, 1) := by decide +kernel
theorem dJ0_checkIndex_df160_9 : decode cJ0_checkIndex_df160 9 = .ok (.return_, 1) := by decide +kernel
theorem dJ1_charAt_3b067_0 : decode cJ1_charAt_3b067 0 = .ok (.iload_n 1, 1) := by decide +kernel
theorem dJ1_charAt_3b067_1 : decode cJ1_charAt_3b067 1 = .ok (.aload_n 0, 1) := by decide +kernel
theorem dJ1_charAt_3b067_2 : decode cJ1_charAt_3b067 2 = .ok (.arraylength, 1) := by decide +kernel
theorem dJ1_charAt_3b067_3 : decode cJ1_charAt_3b067 3 = .ok (.invokestatic 9, 3) := by decide +kernel
theorem dJ1_charAt_3b067_6 : decode cJ1_charAt_3b067 6 = .ok (.aload_n 0, 1) := by decide +kernel
theorem dJ1_charAt_3b067_7 : decode cJ1_charAt_3b067 7 = .ok (.iload_n 1, 1) := by decide +kernel
theorem dJ1_charAt_3b067_8 : decode cJ1_charAt_3b067 8 = .ok (.baload, 1) := by decide +kernel
theorem dJ1_charAt_3b067_9 : decode cJ1_charAt_3b067 9 = .ok (.sipush 255, 3) := by decide +kernel
theorem dJ1_charAt_3b067_12 : decode cJ1_charAt_3b067 12 = .ok (.iand, 1) := by decide +kernel
theorem dJ1_charAt_3b067_13 : decode cJ1_charAt_3b067 13 = .ok (.i2c, 1) := by decide +kernel
theorem dJ1_charAt_3b067_14 : decode cJ1_charAt_3b067 14 = .ok (.ireturn, 1) := by decide +kernel
theorem dJ3_checkIndex_8e157_0 : decode cJ3_checkIndex_8e157 0 = .ok (.iload_n 0, 1) := by decide +kernel
theorem dJ3_checkIndex_8e157_1 : decode cJ3_checkIndex_8e157 1 = .ok (.ifCond .lt 8, 3) := by decide +kernel
theorem dJ3_checkIndex_8e157_4 : decode cJ3_checkIndex_8e157 4 = .ok (.iload_n 0, 1) := by decide +kernel
theorem dJ3_checkIndex_8e157_5 : decode cJ3_checkIndex_8e157 5 = .ok (.iload_n 1, 1) := by decide +kernel
theorem dJ3_checkIndex_8e157_6 : decode cJ3_checkIndex_8e157 6 = .ok (.if_icmp .lt 10, 3) := by decide +kernel
theorem dJ3_checkIndex_8e157_9 : decode cJ3_checkIndex_8e157 9 = .ok (.aload_n 2, 1) := by decide +kernel
theorem dJ3_checkIndex_8e157_10 : decode cJ3_checkIndex_8e157 10 = .ok (.iload_n 0, 1) := by decide +kernel
theorem dJ3_checkIndex_8e157_11 : decode cJ3_checkIndex_8e157 11 = .ok (.iload_n 1, 1) := by decide +kernel
theorem dJ3_checkIndex_8e157_12 : decode cJ3_checkIndex_8e157 12 = .ok (.invokestatic 95, 3) := by decide +kernel
theorem dJ3_checkIndex_8e157_15 : decode cJ3_checkIndex_8e157 15 = .ok (.athrow, 1) := by decide +kernel
theorem dJ3_checkIndex_8e157_16 : decode cJ3_checkIndex_8e157 16 = .ok (.iload_n 0, 1) := by decide +kernel
theorem dJ3_checkIndex_8e157_17 : decode cJ3_checkIndex_8e157 17 = .ok (.ireturn, 1) := by decide +kernel
set_option maxRecDepth 100000 in
theorem fl_J0_9 : Cond.fieldLink RJ0 9 "java/lang/String" "value" "[B" ∈ gw := gw_T8 175 rfl rfl
set_option maxRecDepth 100000 in
theorem fl_J0_15 : Cond.fieldLink RJ0 15 "java/lang/String" "coder" "B" ∈ gw := gw_T8 176 rfl rfl
set_option maxRecDepth 100000 in
theorem fl_J0_38 : Cond.fieldLink RJ0 38 "java/lang/String" "COMPACT_STRINGS" "Z" ∈ gw := gw_T1 177 rfl rfl
set_option maxRecDepth 100000 in
theorem fl_J0_1053 : Cond.fieldLink RJ0 1053 "jdk/internal/util/Preconditions" "SIOOBE_FORMATTER" "Ljava/util/function/BiFunction;" ∈ gw := gw_T1 193 rfl rfl
/-! String.length and String.charAt at the one constant: walks that read cells below the base and write none -/
def Sb (b k v : Nat) (f : Value) (U : State) : Prop := va_O "java/lang/String" k (fun q => b ≤ q) U U.heap ∧ va_OF "java/lang/String" "coder" "B" (.int 0) k (fun q => b ≤ q) U U.heap ∧ va_OF "java/lang/String" "value" "[B" (.ref v) k (fun q => b ≤ q) U U.heap ∧ va_T .byte v 115 (fun j => .int (wByt.getD j 0)) (fun q => b ≤ q) U U.heap ∧ va_Z "java/lang/String" "COMPACT_STRINGS" "Z" (.int 1) (fun q => b ≤ q) U U.heap ∧ va_Z "jdk/internal/util/Preconditions" "SIOOBE_FORMATTER" "Ljava/util/function/BiFunction;" f (fun q => b ≤ q) U U.heap
theorem Sb.warm {b k v : Nat} {f : Value} {s U : State} (h : Sb b k v f s) (hW : s.WarmedH U.vm) (hH : ∀ q : Nat, q < s.heap.size → ¬ b ≤ q → U.heap[q]? = s.heap[q]?) : Sb b k v f U := by
  obtain ⟨h1, h2, h3, h4, h5, h6⟩ := h
  exact ⟨(va_O.moved hW.alike h1).kept hH, (va_OF.moved hW.alike h2).kept hH, (va_OF.moved hW.alike h3).kept hH, (va_T.moved hW.alike h4).kept hH, (va_Z.moved hW.alike h5).kept hH, (va_Z.moved hW.alike h6).kept hH⟩
theorem Sb.call {b k v : Nat} {f : Value} {U : State} {g : JFrame} {mk : MethodId} {a : Array Value} (h : Sb b k v f U) : Sb b k v f (U.calling g mk a) := by
  obtain ⟨h1, h2, h3, h4, h5, h6⟩ := h
  have hA : U.vm.Alike (U.calling g mk a).vm := Vm.Alike.refl U.vm
  exact ⟨va_O.moved (u := U) (U := U.calling g mk a) hA h1, va_OF.moved (u := U) (U := U.calling g mk a) hA h2, va_OF.moved (u := U) (U := U.calling g mk a) hA h3, va_T.moved (u := U) (U := U.calling g mk a) hA h4, va_Z.moved (u := U) (U := U.calling g mk a) hA h5, va_Z.moved (u := U) (U := U.calling g mk a) hA h6⟩
theorem SK.get {b : Nat} {U : State} (h : SK b U) : ∃ (k v : Nat) (f : Value), (f = .null ∨ ∃ t : Nat, f = .ref t) ∧ Sb b k v f U ∧ vk_R RX9 36 wTx k U := by
  obtain ⟨adK, adV, fv, h0, h1, h2, h3, h4⟩ := h
  obtain ⟨g1, g2, g3, g4⟩ := h1.1 0 (by decide)
  exact ⟨adK 0, adV 0, fv, h0, ⟨g1, g2, g3, g4, h3, h4⟩, h2⟩
def QS (r : Option Value) : Array Value → State → Outcome → State → Prop := fun _ st o t => o = .returned r ∧ t.heap = st.heap
def MS (b k v : Nat) (f : Value) (N : MT) (d : Nat) (as : List Value) (r : Option Value) : Prop := ∀ l : Launch, Met l N.1 (wsM N) (rmd d 0 0) (va_Pc as (Sb b k v f)) (QS r) 0 0 (fun q => b ≤ q)
def CS (b k v : Nat) (f : Value) (M : MT) (p : Program) (s : State) (m : MethodId) (args : Array Value) (meth : Method) (c : Code) : Prop := p.tables.exec = Jvm.exec ∧ c.code = M.2.1 ∧ meth.sig.returnType = M.2.2.2 ∧ meth.locks = false ∧ c.maxLocals = M.2.2.1 ∧ s.vm.findClass M.1.cls = some m.cls ∧ (∀ w ∈ wsM M, w.before args s = true) ∧ Sb b k v f s
def lS (ls : Array Slot) (nL : Nat) (la : List (Option Value)) : Prop := ls.size = nL ∧ lv_wf ls ∧ ∀ (i : Nat) (w : Value), la[i]? = some (some w) → ls[i]? = some (.val w)
def XS (b k v : Nat) (f : Value) (M : MT) (d pc : Nat) (la : List (Option Value)) (st : List Value) (r : Option Value) : Prop :=
  ∀ (l : Launch) (p : Program) (e : Env) (s : State) (m : MethodId) (args : Array Value) (below : List Frame) (meth : Method) (c : Code) (ls : Array Slot) (H : Heap) (locs : List Loc),
    CS b k v f M p s m args meth c → lS ls M.2.2.1 la → H = s.heap → (∀ q ∈ locs, b ≤ q.base) → W p l e (rmd d 0 0) s m args below meth c H locs 0 0 (MQ below (QS r) args s 0 0 (fun q => b ≤ q)) (F0 m pc ls st)
theorem vS {A : Nat → Prop} {H0 H : Heap} {locs : List Loc} (h : H = H0) (hl : ∀ q ∈ locs, A q.base) : va_S A H0 H locs := by
  subst h
  exact ⟨Nat.le_refl _, fun _ _ _ => rfl, hl⟩
theorem enS_args (n : Nat) : ∀ (vs : List Value) (off i : Nat) (v : Value), (enL vs ++ List.replicate n none)[i]? = some (some v) → (off + i, v) ∈ lv_args off vs
  | [], off, i, v, h => by
    simp only [enL, List.nil_append] at h
    rw [List.getElem?_replicate] at h
    split at h <;> cases h
  | w :: vs, off, i, v, h => by
    simp only [enL] at h
    show _ ∈ (off, w) :: lv_args (if w.category = 2 then off + 2 else off + 1) vs
    by_cases hc : w.category = 2
    · rw [if_pos hc] at h ⊢
      match i with
      | 0 => simp only [List.cons_append, List.getElem?_cons_zero] at h; cases h; exact List.mem_cons_self
      | 1 => simp only [List.cons_append, List.getElem?_cons_succ, List.getElem?_cons_zero] at h; cases h
      | i + 2 =>
        simp only [List.cons_append, List.getElem?_cons_succ] at h
        have := enS_args n vs (off + 2) i v h
        rw [show off + (i + 2) = off + 2 + i by omega]
        exact List.mem_cons_of_mem _ this
    · rw [if_neg hc] at h ⊢
      match i with
      | 0 => simp only [List.cons_append, List.getElem?_cons_zero] at h; cases h; exact List.mem_cons_self
      | i + 1 =>
        simp only [List.cons_append, List.getElem?_cons_succ] at h
        have := enS_args n vs (off + 1) i v h
        rw [show off + (i + 1) = off + 1 + i by omega]
        exact List.mem_cons_of_mem _ this
theorem lgS_len : ∀ vs : List Value, (lg_sl vs).length = (enL vs).length
  | [] => rfl
  | w :: vs => by
    have ih := lgS_len vs
    show ((if w.category = 2 then [Slot.val w, Slot.second] else [Slot.val w]) ++ lg_sl vs).length = (if w.category = 2 then some w :: none :: enL vs else some w :: enL vs).length
    rw [List.length_append, ih]
    split <;> simp <;> omega
theorem MS.of {b k v : Nat} {f : Value} {M : MT} {d : Nat} {as : List Value} {r : Option Value} (la : List (Option Value)) (ok : okM M) (hla : enL as ++ List.replicate (M.2.2.1 - (enL as).length) none = la) (hlen : (enL as).length ≤ M.2.2.1) (kk : XS b k v f M d 0 la [] r) : MS b k v f M d as r := by
  intro l
  refine Met.ofW (cc := M.2.1) (maxL := M.2.2.1) (ret := M.2.2.2) ok.2.2.2.2.1 rfl ?_
  intro p e s m args below meth c s₁ B hml hv
  obtain ⟨rfl, hK⟩ := hv
  have hts := atoms_spec (ws := wsM M) B.pre
  have hown : s.vm.findClass M.1.cls = some m.cls := findClass_of_methodNamed B.named
  rw [lg_entry_eq]
  have hl := lv_entry as (n := M.2.2.1) (by rw [lgS_len]; exact hlen)
  exact kk l p e s m as.toArray below meth c _ s.heap [] ⟨B.exec, B.bytes, B.returns, B.notSynchronized, hml, hown, hts, hK⟩ ⟨hl.1, hl.2.1, fun i w hi => hl.2.2 (i, w) (by
    rw [← hla] at hi
    have := enS_args _ as 0 i w hi
    rwa [Nat.zero_add] at this)⟩ rfl (fun _ h => by cases h)
section XR
variable {b k v : Nat} {f : Value} {M : MT} {d pc : Nat} {la : List (Option Value)} {st : List Value} {r : Option Value}
theorem x_go {pc2 : Nat} {st2 : List Value} (F : ∀ {l : Launch} {p : Program} {e : Env} {R : Room} {s : State} {m : MethodId} {args : Array Value} {below : List Frame} {meth : Method} {c : Code} {ls : Array Slot} {H : Heap} {locs : List Loc} {Q : State → Prop},
    CS b k v f M p s m args meth c → lS ls M.2.2.1 la → va_S (fun q => b ≤ q) s.heap H locs → W p l e R s m args below meth c H locs 0 0 Q (F0 m pc2 ls st2) → W p l e R s m args below meth c H locs 0 0 Q (F0 m pc ls st)) (kk : XS b k v f M d pc2 la st2 r) : XS b k v f M d pc la st r :=
  fun l p e s m args below meth c ls H locs C L hH hL => F C L (vS hH hL) (kk l p e s m args below meth c ls H locs C L hH hL)
theorem x_aload {i x : Nat} {kf : Fin 4} (hd : decode M.2.1 pc = .ok (.aload_n kf, 1)) (hi : (kf : Nat) = i) (hl : la[i]? = some (some (.ref x))) (kk : XS b k v f M d (pc + 1) la (.ref x :: st) r) : XS b k v f M d pc la st r := x_go (fun C L _ w => lv_aload_n C.1 C.2.1 hd hi (L.2.2 i _ hl) w) kk
theorem x_iload {i : Nat} {x : Int32} {kf : Fin 4} (hd : decode M.2.1 pc = .ok (.iload_n kf, 1)) (hi : (kf : Nat) = i) (hl : la[i]? = some (some (.int x))) (kk : XS b k v f M d (pc + 1) la (.int x :: st) r) : XS b k v f M d pc la st r := x_go (fun C L _ w => lv_iload_n C.1 C.2.1 hd hi (L.2.2 i _ hl) w) kk
theorem x_coder (hM : M.1.cls = RJ0) (hd : decode M.2.1 pc = .ok (.getfield 15, 3)) (kk : XS b k v f M d (pc + 3) la (.int 0 :: st) r) : XS b k v f M d pc la (.ref k :: st) r := x_go (fun C _ S w => vk_getf C.1 C.2.1 C.2.2.2.2.2.2.2.2.1 S C.2.2.2.2.2.1 (hM ▸ C.2.2.2.2.2.2.1 _ (List.mem_cons_of_mem _ fl_J0_15)) (fun _ h => h) hd w) kk
theorem x_value (hM : M.1.cls = RJ0) (hd : decode M.2.1 pc = .ok (.getfield 9, 3)) (kk : XS b k v f M d (pc + 3) la (.ref v :: st) r) : XS b k v f M d pc la (.ref k :: st) r := x_go (fun C _ S w => vk_getf C.1 C.2.1 C.2.2.2.2.2.2.2.2.2.1 S C.2.2.2.2.2.1 (hM ▸ C.2.2.2.2.2.2.1 _ (List.mem_cons_of_mem _ fl_J0_9)) (fun _ h => h) hd w) kk
theorem x_len (hd : decode M.2.1 pc = .ok (.arraylength, 1)) (kk : XS b k v f M d (pc + 1) la (.int 115 :: st) r) : XS b k v f M d pc la (.ref v :: st) r := x_go (fun C _ S w => va_tlen C.1 C.2.1 C.2.2.2.2.2.2.2.2.2.2.1 S (by decide) hd w) kk
theorem x_byte {i : Int32} {j : Nat} (hj : vp_in i 115) (he : i.toNatClampNeg = j) (hd : decode M.2.1 pc = .ok (.baload, 1)) (kk : XS b k v f M d (pc + 1) la (.int (wByt.getD j 0) :: st) r) : XS b k v f M d pc la (.int i :: .ref v :: st) r := x_go (fun C _ S w => va_tb C.1 C.2.1 C.2.2.2.2.2.2.2.2.2.2.1 S hj (by rw [he]) hd w) kk
theorem x_compact (hM : M.1.cls = RJ0) (hd : decode M.2.1 pc = .ok (.getstatic 38, 3)) (kk : XS b k v f M d (pc + 3) la (.int 1 :: st) r) : XS b k v f M d pc la st r := x_go (fun C _ S w => va_gets C.1 C.2.1 C.2.2.2.2.2.2.2.2.2.2.2.1 S C.2.2.2.2.2.1 (hM ▸ C.2.2.2.2.2.2.1 _ (List.mem_cons_of_mem _ fl_J0_38)) (fun _ h => h) hd w) kk
theorem x_form (hM : M.1.cls = RJ0) (hd : decode M.2.1 pc = .ok (.getstatic 1053, 3)) (kk : XS b k v f M d (pc + 3) la (f :: st) r) : XS b k v f M d pc la st r := x_go (fun C _ S w => va_gets C.1 C.2.1 C.2.2.2.2.2.2.2.2.2.2.2.2 S C.2.2.2.2.2.1 (hM ▸ C.2.2.2.2.2.2.1 _ (List.mem_cons_of_mem _ fl_J0_1053)) (fun _ h => h) hd w) kk
theorem x_iconst {n : Int} {w0 : Int32} (hd : decode M.2.1 pc = .ok (.iconst n, 1)) (hv : Int32.ofInt n = w0) (kk : XS b k v f M d (pc + 1) la (.int w0 :: st) r) : XS b k v f M d pc la st r := x_go (fun C _ _ w => lv_iconst C.1 C.2.1 hd hv w) kk
theorem x_sipush {n : Int} {w0 : Int32} (hd : decode M.2.1 pc = .ok (.sipush n, 3)) (hv : (Int16.ofInt n).toInt32 = w0) (kk : XS b k v f M d (pc + 3) la (.int w0 :: st) r) : XS b k v f M d pc la st r := x_go (fun C _ _ w => lv_sipush C.1 C.2.1 hd hv w) kk
theorem x_goto {off : Int} (tgt : Nat) (hd : decode M.2.1 pc = .ok (.goto off, 3)) (ht : (pc : Int) + off = (tgt : Int)) (kk : XS b k v f M d tgt la st r) : XS b k v f M d pc la st r := x_go (fun C _ _ w => lv_goto C.1 C.2.1 hd ht w) kk
theorem x_ifeqN {x : Int32} {off : Int} (tgt : Nat) (hx : ¬ x = 0) (hd : decode M.2.1 pc = .ok (.ifCond .eq off, 3)) (ht : (pc : Int) + off = (tgt : Int)) (kk : XS b k v f M d (pc + 3) la st r) : XS b k v f M d pc la (.int x :: st) r := x_go (fun C _ _ w => lv_if_eq C.1 C.2.1 hd ht (fun q => absurd q hx) (fun _ => w)) kk
theorem x_ifneN {x : Int32} {off : Int} (tgt : Nat) (hx : x = 0) (hd : decode M.2.1 pc = .ok (.ifCond .ne off, 3)) (ht : (pc : Int) + off = (tgt : Int)) (kk : XS b k v f M d (pc + 3) la st r) : XS b k v f M d pc la (.int x :: st) r := x_go (fun C _ _ w => lv_if_ne C.1 C.2.1 hd ht (fun q => absurd hx q) (fun _ => w)) kk
theorem x_ifltN {x : Int32} {off : Int} (tgt : Nat) (hx : ¬ x < 0) (hd : decode M.2.1 pc = .ok (.ifCond .lt off, 3)) (ht : (pc : Int) + off = (tgt : Int)) (kk : XS b k v f M d (pc + 3) la st r) : XS b k v f M d pc la (.int x :: st) r := x_go (fun C _ _ w => lv_if_lt C.1 C.2.1 hd ht (fun q => absurd q hx) (fun _ => w)) kk
theorem x_icmplt {x y : Int32} {off : Int} (tgt : Nat) (hx : x < y) (hd : decode M.2.1 pc = .ok (.if_icmp .lt off, 3)) (ht : (pc : Int) + off = (tgt : Int)) (kk : XS b k v f M d tgt la st r) : XS b k v f M d pc la (.int y :: .int x :: st) r := x_go (fun C _ _ w => lv_icmp_lt C.1 C.2.1 hd ht (fun _ => w) (fun q => absurd hx q)) kk
theorem x_ishr {x y : Int32} (hd : decode M.2.1 pc = .ok (.ishr, 1)) (kk : XS b k v f M d (pc + 1) la (.int (x >>> (y &&& 31)) :: st) r) : XS b k v f M d pc la (.int y :: .int x :: st) r := x_go (fun C _ _ w => lv_ishr C.1 C.2.1 hd w) kk
theorem x_iand {x y : Int32} (hd : decode M.2.1 pc = .ok (.iand, 1)) (kk : XS b k v f M d (pc + 1) la (.int (x &&& y) :: st) r) : XS b k v f M d pc la (.int y :: .int x :: st) r := x_go (fun C _ _ w => lv_iand C.1 C.2.1 hd w) kk
theorem x_i2c {x w0 : Int32} (hd : decode M.2.1 pc = .ok (.i2c, 1)) (hv : (x.toUInt32 % 65536).toInt32 = w0) (kk : XS b k v f M d (pc + 1) la (.int w0 :: st) r) : XS b k v f M d pc la (.int x :: st) r := x_go (fun C _ _ w => lv_i2c C.1 C.2.1 hd hv w) kk
theorem x_pop {x : Value} (hd : decode M.2.1 pc = .ok (.pop, 1)) (hx : x.category = 1) (kk : XS b k v f M d (pc + 1) la st r) : XS b k v f M d pc la (x :: st) r := x_go (fun C _ _ w => lv_pop C.1 C.2.1 hd hx w) kk
theorem x_end (F : ∀ {l : Launch} {p : Program} {e : Env} {R : Room} {s : State} {m : MethodId} {args : Array Value} {below : List Frame} {meth : Method} {c : Code} {ls : Array Slot} {H : Heap} {locs : List Loc}, CS b k v f M p s m args meth c → (∀ t : State, t.heap = H → s.WarmedH t.vm → QS r args s (.returned r) t) → (∀ q ∈ locs, b ≤ q.base) → W p l e R s m args below meth c H locs 0 0 (MQ below (QS r) args s 0 0 (fun q => b ≤ q)) (F0 m pc ls st)) : XS b k v f M d pc la st r :=
  fun l p e s m args below meth c ls H locs C L hH hL => F C (fun t ht _ => ⟨rfl, ht.trans hH⟩) hL
theorem x_iret {x : Int32} (hr : M.2.2.2 = some .int) (hd : decode M.2.1 pc = .ok (.ireturn, 1)) : XS b k v f M d pc la [.int x] (some (.int x)) := x_end (fun C hq hf => W.iret C.1 C.2.1 (C.2.2.1.trans hr) hq hf hd (hlocks := C.2.2.2.1))
theorem x_nret {x : Int32} (ty : FieldType) (hr : M.2.2.2 = some ty) (hn : narrow ty (.int x) = .int x) (hd : decode M.2.1 pc = .ok (.ireturn, 1)) : XS b k v f M d pc la [.int x] (some (.int x)) := x_end (fun C hq hf => W.zret (ty := ty) C.1 C.2.1 (C.2.2.1.trans hr) hn hq hf hd (hlocks := C.2.2.2.1))
theorem x_vret (hr : M.2.2.2 = none) (hd : decode M.2.1 pc = .ok (.return_, 1)) : XS b k v f M d pc la [] none := x_end (fun C hq hf => W.vret C.1 C.2.1 (C.2.2.1.trans hr) hq hf hd (hlocks := C.2.2.2.1))
end XR
theorem Sb_blind {b k v : Nat} {f : Value} {as : List Value} : FrameBlind (va_Pc as (Sb b k v f)) := fun _ _ _ _ q => ⟨q.1, q.2.call⟩
theorem x_callV {b k v : Nat} {f : Value} {M N : MT} {d pc idx n : Nat} {la : List (Option Value)} {st : List Value} {r r1 : Option Value} (As : List Value) {st0 : List Value} (h0 : st0 = As.reverse ++ .ref k :: st) (ok : okM N) (hc : N.1.cls = "java/lang/String") (hl : Cond.methodLink M.1.cls idx N.1 ∈ gw) (h1 : Cond.instanceMethod N.1 ∈ gw) (h2 : Cond.selects N.1.cls N.1 N.1 ∈ gw) (hn1 : (parseMethodDescriptor N.1.desc).map (fun d => d.parameters.length) = some n) (hn2 : As.length = n) (hcat : catS st ≤ 8) (hd : decode M.2.1 pc = .ok (.invokevirtual idx, 3)) (hk : MS b k v f N d (.ref k :: As) r1) (kk : XS b k v f M (d + 1) (pc + 3) la (r1.toList ++ st) r) : XS b k v f M (d + 1) pc la st0 r := by
  subst h0
  intro l p e s m args below meth c ls H locs C L hH hL
  obtain ⟨hx, hb, hret, hlk, hml, hown, hts, hS⟩ := C
  obtain ⟨k1, k2, k3, k4, k5, k6⟩ := ok
  have hrc : ∃ cell : Cell, H[k]? = some cell ∧ cell.vm.isStatics = false ∧ s.vm.findClass N.1.cls = some cell.cls := by
    obtain ⟨cell, g1, g2, g3, -⟩ := hS.1
    exact ⟨cell, by rw [hH]; exact g1, g2, by rw [hc]; exact g3⟩
  have hPr : PreV s H N.1.cls k (va_Pc (.ref k :: As) (Sb b k v f)) As := ⟨Sb_blind, hrc, fun U hU hW => ⟨rfl, hS.warm hW (fun q _ _ => by rw [hU, hH])⟩⟩
  have hsg : ∀ sig, parseMethodDescriptor N.1.desc = some sig → n = sig.parameters.length := fun sig h => by rw [h] at hn1; exact (Option.some.inj hn1).symm
  have hlo : 8 + (N.2.2.1 + 11) + (rmd d 0 0).locals ≤ (rmd (d + 1) 0 0).locals := by
    show 8 + (N.2.2.1 + 11) + 80 * d ≤ 80 * (d + 1)
    omega
  refine W.ofRun (va_runV (cc := M.2.1) (bytes := N.2.1) (maxL := N.2.2.1) (ret := N.2.2.2) (As := As) ⟨hx, hb, hml, hown, hts⟩ (hk l) ⟨⟨rfl, rfl, Nat.le_refl _, hlo, pay_in hts (good_all k1), List.mem_cons_self, hts _ (List.mem_cons_of_mem _ k1), hts _ (List.mem_cons_of_mem _ k2), ⟨k3, k4⟩, hsg, hts _ (List.mem_cons_of_mem _ hl)⟩, hts _ (List.mem_cons_of_mem _ h1), hts _ (List.mem_cons_of_mem _ h2)⟩ hPr rfl hn2 L.1 rfl (lv_room hcat) hd ⟨Nat.le_refl _, Nat.le_refl _⟩) (fun w st₀ t L1 e0 hq hL1 => ?_)
  obtain ⟨hw, ht⟩ := hq
  cases hw
  exact kk l p e s m args below meth c ls t.heap (locs ++ L1) ⟨hx, hb, hret, hlk, hml, hown, hts, hS⟩ L (by rw [ht, e0, hH]) (fun q hq => by
    rcases List.mem_append.mp hq with h | h
    · exact hL q h
    · exact hL1 q h)
theorem x_callS {b k v : Nat} {f : Value} {M N : MT} {d pc idx n : Nat} {la : List (Option Value)} {st : List Value} {r r1 : Option Value} (As : List Value) {st0 : List Value} (h0 : st0 = As.reverse ++ st) (ok : okM N) (hl : Cond.methodLink M.1.cls idx N.1 ∈ gw) (h1 : Cond.static N.1 ∈ gw) (hn1 : (parseMethodDescriptor N.1.desc).map (fun d => d.parameters.length) = some n) (hn2 : As.length = n) (hcat : catS st ≤ 8) (hd : decode M.2.1 pc = .ok (.invokestatic idx, 3)) (hk : MS b k v f N d As r1) (kk : XS b k v f M (d + 1) (pc + 3) la (r1.toList ++ st) r) : XS b k v f M (d + 1) pc la st0 r := by
  subst h0
  intro l p e s m args below meth c ls H locs C L hH hL
  obtain ⟨hx, hb, hret, hlk, hml, hown, hts, hS⟩ := C
  obtain ⟨k1, k2, k3, k4, k5, k6⟩ := ok
  have hPr : PreS s H (va_Pc As (Sb b k v f)) As := ⟨Sb_blind, fun U hU hW => ⟨rfl, hS.warm hW (fun q _ _ => by rw [hU, hH])⟩⟩
  have hsg : ∀ sig, parseMethodDescriptor N.1.desc = some sig → n = sig.parameters.length := fun sig h => by rw [h] at hn1; exact (Option.some.inj hn1).symm
  have hlo : 8 + (N.2.2.1 + 11) + (rmd d 0 0).locals ≤ (rmd (d + 1) 0 0).locals := by
    show 8 + (N.2.2.1 + 11) + 80 * d ≤ 80 * (d + 1)
    omega
  refine W.ofRun (va_runS (cc := M.2.1) (bytes := N.2.1) (maxL := N.2.2.1) (ret := N.2.2.2) (As := As) ⟨hx, hb, hml, hown, hts⟩ (hk l) ⟨⟨rfl, rfl, Nat.le_refl _, hlo, pay_in hts (good_all k1), List.mem_cons_self, hts _ (List.mem_cons_of_mem _ k1), hts _ (List.mem_cons_of_mem _ k2), ⟨k3, k4⟩, hsg, hts _ (List.mem_cons_of_mem _ hl)⟩, hts _ (List.mem_cons_of_mem _ h1)⟩ hPr rfl hn2 L.1 rfl (lv_room hcat) hd ⟨Nat.le_refl _, Nat.le_refl _⟩) (fun w st₀ t L1 e0 hq hL1 => ?_)
  obtain ⟨hw, ht⟩ := hq
  cases hw
  exact kk l p e s m args below meth c ls t.heap (locs ++ L1) ⟨hx, hb, hret, hlk, hml, hown, hts, hS⟩ L (by rw [ht, e0, hH]) (fun q hq => by
    rcases List.mem_append.mp hq with h | h
    · exact hL q h
    · exact hL1 q h)
section MSS
variable {b k v : Nat} {f : Value}
set_option maxRecDepth 100000 in
theorem kl_J0_335 : Cond.methodLink RJ0 335 yJ0_coder_7d493 ∈ gw := gw_T1 173 rfl rfl
set_option maxRecDepth 100000 in
theorem kl_J0_492 : Cond.methodLink RJ0 492 yJ0_isLatin1_aae02 ∈ gw := gw_T1 183 rfl rfl
set_option maxRecDepth 100000 in
theorem kl_J0_495 : Cond.methodLink RJ0 495 yJ1_charAt_3b067 ∈ gw := gw_T1 187 rfl rfl
set_option maxRecDepth 100000 in
theorem kl_J1_9 : Cond.methodLink RJ1 9 yJ0_checkIndex_df160 ∈ gw := gw_T1 190 rfl rfl
set_option maxRecDepth 100000 in
theorem kl_J0_1059 : Cond.methodLink RJ0 1059 yJ3_checkIndex_8e157 ∈ gw := gw_T1 195 rfl rfl
set_option maxRecDepth 100000 in
theorem kl_X9_38 : Cond.methodLink RX9 38 yJ0_length_8abf5 ∈ gw := gw_T1 169 rfl rfl
set_option maxRecDepth 100000 in
theorem kl_X9_43 : Cond.methodLink RX9 43 yJ0_charAt_5068e ∈ gw := gw_T1 179 rfl rfl
theorem ms_coder (d : Nat) : MS b k v f mJ0_coder_7d493 d [.ref k] (some (.int 0)) := by
  refine MS.of [some (.ref k)] ok_J0_coder_7d493 rfl (Nat.le_of_ble_eq_true rfl) ?_
  refine x_compact rfl dJ0_coder_7d493_0 ?_
  refine x_ifeqN 13 (by decide) dJ0_coder_7d493_3 (by decide) ?_
  refine x_aload (i := 0) dJ0_coder_7d493_6 rfl rfl ?_
  refine x_coder rfl dJ0_coder_7d493_7 ?_
  refine x_goto 14 dJ0_coder_7d493_10 (by decide) ?_
  exact x_nret .byte rfl rfl dJ0_coder_7d493_14
theorem ms_isLatin1 (d : Nat) : MS b k v f mJ0_isLatin1_aae02 d [.ref k] (some (.int 1)) := by
  refine MS.of [some (.ref k)] ok_J0_isLatin1_aae02 rfl (Nat.le_of_ble_eq_true rfl) ?_
  refine x_compact rfl dJ0_isLatin1_aae02_0 ?_
  refine x_ifeqN 17 (by decide) dJ0_isLatin1_aae02_3 (by decide) ?_
  refine x_aload (i := 0) dJ0_isLatin1_aae02_6 rfl rfl ?_
  refine x_coder rfl dJ0_isLatin1_aae02_7 ?_
  refine x_ifneN 17 rfl dJ0_isLatin1_aae02_10 (by decide) ?_
  refine x_iconst (w0 := 1) dJ0_isLatin1_aae02_13 (by decide) ?_
  refine x_goto 18 dJ0_isLatin1_aae02_14 (by decide) ?_
  exact x_nret .boolean rfl rfl dJ0_isLatin1_aae02_18
theorem ms_length (d : Nat) : MS b k v f mJ0_length_8abf5 (d + 1) [.ref k] (some (.int 115)) := by
  refine MS.of [some (.ref k)] ok_J0_length_8abf5 rfl (Nat.le_of_ble_eq_true rfl) ?_
  refine x_aload (i := 0) dJ0_length_8abf5_0 rfl rfl ?_
  refine x_value rfl dJ0_length_8abf5_1 ?_
  refine x_len dJ0_length_8abf5_4 ?_
  refine x_aload (i := 0) dJ0_length_8abf5_5 rfl rfl ?_
  refine x_callV (N := mJ0_coder_7d493) (n := 0) [] rfl ok_J0_coder_7d493 rfl kl_J0_335 im_J0_coder_7d493 se_J0_coder_7d493 (by decide +kernel) rfl (Nat.le_of_ble_eq_true rfl) dJ0_length_8abf5_6 (ms_coder d) ?_
  show XS _ _ _ _ _ _ _ _ (_ :: _) _
  refine x_ishr dJ0_length_8abf5_9 ?_
  exact x_iret (x := 115 >>> ((0 : Int32) &&& 31)) rfl dJ0_length_8abf5_10
theorem ms_check3 (d : Nat) {i : Int32} (hf : f = .null ∨ ∃ t : Nat, f = .ref t) (h0 : ¬ i < 0) (h1 : i < 115) : MS b k v f mJ3_checkIndex_8e157 d [.int i, .int 115, f] (some (.int i)) := by
  have hc : enL [.int i, .int 115, f] = [some (.int i), some (.int 115), some f] := by rcases hf with rfl | ⟨t, rfl⟩ <;> rfl
  refine MS.of [some (.int i), some (.int 115), some f] ok_J3_checkIndex_8e157 (by rw [hc]; rfl) (by rw [hc]; exact Nat.le_of_ble_eq_true rfl) ?_
  refine x_iload (i := 0) dJ3_checkIndex_8e157_0 rfl rfl ?_
  refine x_ifltN 9 h0 dJ3_checkIndex_8e157_1 (by decide) ?_
  refine x_iload (i := 0) dJ3_checkIndex_8e157_4 rfl rfl ?_
  refine x_iload (i := 1) dJ3_checkIndex_8e157_5 rfl rfl ?_
  refine x_icmplt 16 h1 dJ3_checkIndex_8e157_6 (by decide) ?_
  refine x_iload (i := 0) dJ3_checkIndex_8e157_16 rfl rfl ?_
  exact x_iret rfl dJ3_checkIndex_8e157_17
theorem ms_check0 (d : Nat) {i : Int32} (hf : f = .null ∨ ∃ t : Nat, f = .ref t) (h0 : ¬ i < 0) (h1 : i < 115) : MS b k v f mJ0_checkIndex_df160 (d + 1) [.int i, .int 115] none := by
  refine MS.of [some (.int i), some (.int 115)] ok_J0_checkIndex_df160 rfl (Nat.le_of_ble_eq_true rfl) ?_
  refine x_iload (i := 0) dJ0_checkIndex_df160_0 rfl rfl ?_
  refine x_iload (i := 1) dJ0_checkIndex_df160_1 rfl rfl ?_
  refine x_form rfl dJ0_checkIndex_df160_2 ?_
  refine x_callS (N := mJ3_checkIndex_8e157) (n := 3) [.int i, .int 115, f] rfl ok_J3_checkIndex_8e157 kl_J0_1059 sm_J3_checkIndex_8e157 (by decide +kernel) rfl (Nat.le_of_ble_eq_true rfl) dJ0_checkIndex_df160_5 (ms_check3 d hf h0 h1) ?_
  show XS _ _ _ _ _ _ _ _ (_ :: _) _
  refine x_pop dJ0_checkIndex_df160_8 rfl ?_
  exact x_vret rfl dJ0_checkIndex_df160_9
/-- the char at j -/
def wCh (j : Nat) : Int32 := wByt.getD j 0
theorem wCh_ok : ∀ j, j < 115 → ((wByt.getD j 0 &&& 255).toUInt32 % 65536).toInt32 = wCh j ∧ narrow .char (.int (wCh j)) = .int (wCh j) := by decide +kernel
theorem ms_charAt1 (d : Nat) {i : Int32} {j : Nat} (hf : f = .null ∨ ∃ t : Nat, f = .ref t) (h0 : ¬ i < 0) (h1 : i < 115) (hj : i.toNatClampNeg = j) (hv : vp_in i 115) (hl : j < 115) : MS b k v f mJ1_charAt_3b067 (d + 2) [.ref v, .int i] (some (.int (wCh j))) := by
  refine MS.of [some (.ref v), some (.int i)] ok_J1_charAt_3b067 rfl (Nat.le_of_ble_eq_true rfl) ?_
  refine x_iload (i := 1) dJ1_charAt_3b067_0 rfl rfl ?_
  refine x_aload (i := 0) dJ1_charAt_3b067_1 rfl rfl ?_
  refine x_len dJ1_charAt_3b067_2 ?_
  refine x_callS (N := mJ0_checkIndex_df160) (n := 2) [.int i, .int 115] rfl ok_J0_checkIndex_df160 kl_J1_9 sm_J0_checkIndex_df160 (by decide +kernel) rfl (Nat.le_of_ble_eq_true rfl) dJ1_charAt_3b067_3 (ms_check0 d hf h0 h1) ?_
  show XS _ _ _ _ _ _ _ _ [] _
  refine x_aload (i := 0) dJ1_charAt_3b067_6 rfl rfl ?_
  refine x_iload (i := 1) dJ1_charAt_3b067_7 rfl rfl ?_
  refine x_byte hv hj dJ1_charAt_3b067_8 ?_
  refine x_sipush (w0 := 255) dJ1_charAt_3b067_9 (by decide) ?_
  refine x_iand dJ1_charAt_3b067_12 ?_
  refine x_i2c dJ1_charAt_3b067_13 (wCh_ok j hl).1 ?_
  exact x_nret .char rfl (wCh_ok j hl).2 dJ1_charAt_3b067_14
theorem ms_charAt (d : Nat) {i : Int32} {j : Nat} (hf : f = .null ∨ ∃ t : Nat, f = .ref t) (h0 : ¬ i < 0) (h1 : i < 115) (hj : i.toNatClampNeg = j) (hv : vp_in i 115) (hl : j < 115) : MS b k v f mJ0_charAt_5068e (d + 3) [.ref k, .int i] (some (.int (wCh j))) := by
  refine MS.of [some (.ref k), some (.int i)] ok_J0_charAt_5068e rfl (Nat.le_of_ble_eq_true rfl) ?_
  refine x_aload (i := 0) dJ0_charAt_5068e_0 rfl rfl ?_
  refine x_callV (N := mJ0_isLatin1_aae02) (n := 0) [] rfl ok_J0_isLatin1_aae02 rfl kl_J0_492 im_J0_isLatin1_aae02 se_J0_isLatin1_aae02 (by decide +kernel) rfl (Nat.le_of_ble_eq_true rfl) dJ0_charAt_5068e_1 (ms_isLatin1 (d + 2)) ?_
  show XS _ _ _ _ _ _ _ _ (_ :: _) _
  refine x_ifeqN 16 (by decide) dJ0_charAt_5068e_4 (by decide) ?_
  refine x_aload (i := 0) dJ0_charAt_5068e_7 rfl rfl ?_
  refine x_value rfl dJ0_charAt_5068e_8 ?_
  refine x_iload (i := 1) dJ0_charAt_5068e_11 rfl rfl ?_
  refine x_callS (N := mJ1_charAt_3b067) (n := 2) [.ref v, .int i] rfl ok_J1_charAt_3b067 kl_J0_495 sm_J1_charAt_3b067 (by decide +kernel) rfl (Nat.le_of_ble_eq_true rfl) dJ0_charAt_5068e_12 (ms_charAt1 d hf h0 h1 hj hv hl) ?_
  show XS _ _ _ _ _ _ _ _ (_ :: _) _
  exact x_nret .char rfl (wCh_ok j hl).2 dJ0_charAt_5068e_15
end MSS
/-- ldc of the constant, some loads, and a call on it -/
theorem V.str {M N : MT} {d d0 pc pc1 pc2 : Nat} {la : List (Option Value)} {st : List Value} {h : Hp} {Q : Option Value → Hp → Prop} {idx n : Nat} {x : Value} (As : List Value) (hM : M.1.cls = RX9) (hAs : ∀ b : Nat, As.map (rl b) = As) (ok : okM N) (hc : N.1.cls = "java/lang/String") (hl : Cond.methodLink RX9 idx N.1 ∈ gw) (h1 : Cond.instanceMethod N.1 ∈ gw) (h2 : Cond.selects N.1.cls N.1 N.1 ∈ gw) (hn1 : (parseMethodDescriptor N.1.desc).map (fun d => d.parameters.length) = some n) (hn2 : As.length = n) (hcat : catS st ≤ 8) (hx : ∀ b : Nat, rl b x = x) (hd0 : decode M.2.1 pc = .ok (.ldc 36, 2)) (hd : decode M.2.1 pc1 = .ok (.invokevirtual idx, 3)) (hpc : pc1 + 3 = pc2) (hdd : d0 ≤ d) (hk : ∀ (b k v : Nat) (f : Value), (f = .null ∨ ∃ t : Nat, f = .ref t) → MS b k v f N d0 (.ref k :: As) (some x))
    (fw : ∀ {l : Launch} {b n0 : Nat} {D : va_G} {g : FieldType → ClassId} {p : Program} {e : Env} {R : Room} {s : State} {m : MethodId} {args : Array Value} {below : List Frame} {meth : Method} {c : Code} {H : Heap} {locs : List Loc} {cells slots k : Nat} {Qm : State → Prop} {ls : Array Slot}, Cx M b n0 D g p s m args meth c → lh b ls M.2.2.1 la → W p l e R s m args below meth c H locs cells slots Qm (F0 m pc1 ls (As.reverse ++ .ref k :: st.map (rl b))) → W p l e R s m args below meth c H locs cells slots Qm (F0 m (pc + 2) ls (.ref k :: st.map (rl b))))
    (kk : V M (d + 1) pc2 la (x :: st) h Q) : V M (d + 1) pc la st h Q := by
  obtain ⟨r, h', hQ, hle, hX⟩ := kk
  refine ⟨r, h', hQ, hle, fun l b n0 D g p e s m args below meth c H locs ls C hn0 hz hP hS hl0 => ?_⟩
  have C0 := C
  obtain ⟨hx0, hb, -, -, hml, hown, hts, hK, hsz, -⟩ := C
  obtain ⟨k1, k2, k3, k4, k5, k6⟩ := ok
  obtain ⟨k, v, f, hf, hSb, hR⟩ := hK.2.2.2.get
  refine va_ldcS hx0 hb (hM ▸ hown) hR hd0 ?_
  refine fw C0 hl0 ?_
  have hrc : ∃ cell : Cell, H[k]? = some cell ∧ cell.vm.isStatics = false ∧ s.vm.findClass N.1.cls = some cell.cls := by
    obtain ⟨cell, g1, g2, g3, -⟩ := hSb.1.kept hS.2.1
    exact ⟨cell, g1, g2, by rw [hc]; exact g3⟩
  have hPr : PreV s H N.1.cls k (va_Pc (.ref k :: As) (Sb b k v f)) As := ⟨Sb_blind, hrc, fun U hU hW => ⟨rfl, hSb.warm hW (by rw [hU]; exact hS.2.1)⟩⟩
  have hsg : ∀ sig, parseMethodDescriptor N.1.desc = some sig → n = sig.parameters.length := fun sig h => by rw [h] at hn1; exact (Option.some.inj hn1).symm
  have hlo : 8 + (N.2.2.1 + 11) + (rmd d0 0 0).locals ≤ (rmd (d + 1) n0 (hn h')).locals := by
    show 8 + (N.2.2.1 + 11) + 80 * d0 ≤ 80 * (d + 1)
    omega
  have hmm := sl_mono hle
  refine W.ofRun (va_runV (cc := M.2.1) (bytes := N.2.1) (maxL := N.2.2.1) (ret := N.2.2.2) (As := As) ⟨hx0, hb, hml, hown, hts⟩ (hk b k v f hf l) ⟨⟨rfl, rfl, (by show d0 + 1 ≤ d + 1; omega), hlo, pay_in hts (good_all k1), List.mem_cons_self, hts _ (List.mem_cons_of_mem _ k1), hts _ (List.mem_cons_of_mem _ k2), ⟨k3, k4⟩, hsg, hM ▸ hts _ (List.mem_cons_of_mem _ hl)⟩, hts _ (List.mem_cons_of_mem _ h1), hts _ (List.mem_cons_of_mem _ h2)⟩ hPr rfl hn2 hl0.1 rfl (lv_room (by rw [catS_rl]; exact hcat)) hd ⟨(by show hn h - n0 + 0 ≤ hn h' - n0; omega), (by show sl (hn h) - sl n0 + 0 ≤ sl (hn h') - sl n0; omega)⟩) (fun w st₀ t L1 e0 hq hL1 => ?_)
  obtain ⟨hw, ht⟩ := hq
  cases hw
  have e1 : t.heap = H := ht.trans e0
  have := hX l b n0 D g p e s m args below meth c H (locs ++ L1) ls C0 hn0 hz hP ⟨hS.1, hS.2.1, fun q hq => by
    rcases List.mem_append.mp hq with h | h
    · exact hS.2.2 q h
    · exact hL1 q h⟩ hl0
  rw [e1, hpc]
  simp only [List.map_cons, hx] at this
  exact this
theorem v_strLen {M : MT} {d pc : Nat} {la : List (Option Value)} {st : List Value} {h : Hp} {Q : Option Value → Hp → Prop} (hM : M.1.cls = RX9) (hcat : catS st ≤ 8) (hd0 : decode M.2.1 pc = .ok (.ldc 36, 2)) (hd : decode M.2.1 (pc + 2) = .ok (.invokevirtual 38, 3)) (kk : V M (d + 5) (pc + 5) la (.int 115 :: st) h Q) : V M (d + 5) pc la st h Q :=
  V.str (N := mJ0_length_8abf5) (d0 := d + 1) (n := 0) [] hM (fun _ => rfl) ok_J0_length_8abf5 rfl kl_X9_38 im_J0_length_8abf5 se_J0_length_8abf5 (by decide +kernel) rfl hcat (fun _ => rfl) hd0 hd rfl (by omega) (fun _ _ _ _ _ => ms_length d) (fun _ _ w => w) kk
theorem v_strAt {M : MT} {d pc : Nat} {la : List (Option Value)} {st : List Value} {h : Hp} {Q : Option Value → Hp → Prop} {i : Int32} (hM : M.1.cls = RX9) (hi : ixOK i 115 = true) (hla : la[3]? = some (some (.int i))) (hcat : catS st ≤ 8) (hd0 : decode M.2.1 pc = .ok (.ldc 36, 2)) (hd1 : decode M.2.1 (pc + 2) = .ok (.iload_n 3, 1)) (hd : decode M.2.1 (pc + 3) = .ok (.invokevirtual 43, 3)) (kk : V M (d + 5) (pc + 6) la (.int (wCh i.toNatClampNeg) :: st) h Q) : V M (d + 5) pc la st h Q := by
  have hv : vp_in i 115 := (ixO hi).1
  have hlt := ixO_lt hi
  have h0 : 0 ≤ i := by
    simp only [ixOK, Bool.and_eq_true, decide_eq_true_eq] at hi
    exact hi.1
  have h1 : i < 115 := by
    obtain ⟨j, hj, rfl⟩ := nI_of (Int32.not_lt.mpr h0)
    have e : (nI j).toNatClampNeg = j := nI_clamp hj
    rw [e] at hlt
    exact nI_lt (b := 115) hlt (by decide)
  exact V.str (N := mJ0_charAt_5068e) (d0 := d + 3) (n := 1) [.int i] hM (fun _ => rfl) ok_J0_charAt_5068e rfl kl_X9_43 im_J0_charAt_5068e se_J0_charAt_5068e (by decide +kernel) rfl hcat (fun _ => rfl) hd0 hd rfl (by omega) (fun _ _ _ _ hf => ms_charAt d hf (Int32.not_lt.mpr h0) h1 rfl hv hlt) (fun C L w => lv_iload_n C.1 C.2.1 hd1 rfl (L.2.2 3 _ hla) w) kk
end
section
/-- while the Tokens are made -/
def G9 (h : Hp) : Prop := hn h = 23 ∧ hr h 18 1 = some 19
theorem ltG9 {h : Hp} {a : Nat} (hG : G9 h) (h1 : a < 23) : a < hn h := by rw [hG.1]; exact h1
theorem Kc.mono {M : MT} {d : Nat} {as : List Value} {h : Hp} {Q Q' : Option Value → Hp → Prop} (k : Kc M d as h Q) (f : ∀ r h', Q r h' → Q' r h') : Kc M d as h Q' := by
  obtain ⟨r, h', hQ, k⟩ := k
  exact ⟨r, h', f r h' hQ, k⟩
theorem V.mono {M : MT} {d pc : Nat} {la : List (Option Value)} {st : List Value} {h : Hp} {Q Q' : Option Value → Hp → Prop} (k : V M d pc la st h Q) (f : ∀ r h', Q r h' → Q' r h') : V M d pc la st h Q' := by
  obtain ⟨r, h', hQ, k⟩ := k
  exact ⟨r, h', f r h' hQ, k⟩
theorem ogetD {α : Type} {o : Option α} (z : α) (h : o.isSome = true) : o = some (o.getD z) := by
  cases o with
  | none => cases h
  | some x => rfl
set_option maxRecDepth 100000 in
set_option maxHeartbeats 4000000 in
theorem s9_X9_withLetter (d : Nat) {n : Nat} {h : Hp} {x1 : Int64} {x2 : Int32} {q0 : (Int64 × Hp)} (hF : F_X9_withLetter n h x1 x2 = some q0) (hG : G9 h)  : Kc mX9_withLetter (d) [.long x1, .int x2] h (fun r1 h1 => r1 = some (.long q0.1) ∧ h1 = q0.2 ∧ G9 q0.2) := by
  obtain ⟨r, h'⟩ := q0
  unfold F_X9_withLetter at hF
  refine Kc.of [some (.long x1), none, some (.int x2)] ok_X9_withLetter rfl (Nat.le_of_ble_eq_true rfl) ?_
  refine v_lload_n (i := 0) dX9_withLetter_0 rfl rfl ?_
  refine v_ldc2 (32) kl_X9_51 dX9_withLetter_1 ?_
  refine v_lmul dX9_withLetter_4 ?_
  refine v_iload_n (i := 2) dX9_withLetter_5 rfl rfl ?_
  refine v_bipush (v := 97) dX9_withLetter_6 (by decide) ?_
  refine v_isub dX9_withLetter_8 ?_
  refine v_iconst (v := 1) dX9_withLetter_9 (by decide) ?_
  refine v_iadd dX9_withLetter_10 ?_
  refine v_i2l dX9_withLetter_11 ?_
  refine v_ladd dX9_withLetter_12 ?_
  refine v_lreturn rfl dX9_withLetter_13 ?_
  obtain ⟨rfl, rfl⟩ := Prod.mk.inj (Option.some.inj hF)
  exact ⟨rfl, rfl, hG⟩
def W_X9_tail : Nat → Nat → Hp → Int32 → Int32 → Option Hp
  | 0 => fun _ _ _ _ => none
  | n + 1 => fun hd h l2 l3 => (if hd = 58 then (if (115 : Int32) ≤ (l3 : Int32) then some h else (if (22 : Int32) ≤ (l2 : Int32) then some h else (if ixOK l3 115 = true then (if ((wCh (Int32.toNatClampNeg l3)) : Int32) = (32 : Int32) then W_X9_tail n 58 h  (l2 + 1) (l3 + 1) else (if ixOK l2 22 = true then (if ixOK l3 115 = true then ((F_X9_withLetter n h (hl h 19 (Int32.toNatClampNeg l2)) (wCh (Int32.toNatClampNeg l3))).bind (fun q7 => (if ixOK l2 22 = true then W_X9_tail n 58 (wrL q7.2 19 (Int32.toNatClampNeg l2) q7.1)  l2 (l3 + 1) else none))) else none) else none)) else none))) else none)
set_option maxRecDepth 100000 in
set_option maxHeartbeats 4000000 in
theorem sw_X9_tail (d : Nat)  (n : Nat) : (∀ (l2 : Int32) (l3 : Int32) (h : Hp), ∀ (h' : Hp), W_X9_tail n 58 h  l2 l3 = some h' → G9 h → V mX9_init (d + 5) 58 [some (.ref 18), some (.ref 1), some (.int l2), some (.int l3)] [] h (fun r1 h1 => r1 = none ∧ h1 = h' ∧ G9 h')) := by
  induction n with
  | zero => exact by intros; contradiction
  | succ n ih =>
    have s9_X9_tail_IH_58 := ih
    intro l2 l3 h h' hF hG
    unfold W_X9_tail at hF
    rw [if_pos rfl] at hF
    refine v_iload_n (i := 3) dX9_init_58 rfl rfl ?_
    refine v_strLen rfl (Nat.le_of_ble_eq_true rfl) dX9_init_59 dX9_init_61 ?_
    refine v_icmp_ge 117 dX9_init_64 (by decide) (fun c1 => ?_) (fun c1 => ?_)
    · rw [if_pos c1] at hF
      refine v_return rfl dX9_init_117 ?_
      obtain rfl := Option.some.inj hF
      exact ⟨rfl, rfl, hG⟩
    · rw [if_neg c1] at hF
      refine v_iload_n (i := 2) dX9_init_67 rfl rfl ?_
      refine v_bipush (v := 22) dX9_init_68 (by decide) ?_
      refine v_icmp_ge 117 dX9_init_70 (by decide) (fun c2 => ?_) (fun c2 => ?_)
      · rw [if_pos c2] at hF
        refine v_return rfl dX9_init_117 ?_
        obtain rfl := Option.some.inj hF
        exact ⟨rfl, rfl, hG⟩
      · rw [if_neg c2] at hF
        obtain ⟨k3, hF⟩ := ck_some hF
        refine v_strAt (i := l3) rfl k3 rfl (Nat.le_of_ble_eq_true rfl) dX9_init_73 dX9_init_75 dX9_init_76 ?_
        refine v_bipush (v := 32) dX9_init_79 (by decide) ?_
        refine v_icmp_ne 90 dX9_init_81 (by decide) (fun c4 => ?_) (fun c4 => ?_)
        · rw [if_neg c4] at hF
          refine v_aload_n (i := 0) dX9_init_90 rfl rfl ?_
          refine g_X9_11 (q := 19) rfl sh_18 (by exact ltG9 hG (by decide)) (by exact hG.2) dX9_init_91 ?_
          refine v_iload_n (i := 2) dX9_init_94 rfl rfl ?_
          refine v_aload_n (i := 0) dX9_init_95 rfl rfl ?_
          refine g_X9_11 (q := 19) rfl sh_18 (by exact ltG9 hG (by decide)) (by exact hG.2) dX9_init_96 ?_
          refine v_iload_n (i := 2) dX9_init_99 rfl rfl ?_
          obtain ⟨k5, hF⟩ := ck_some hF
          refine v_laload sh_19 (by exact ltG9 hG (by decide)) (ixO k5) dX9_init_100 ?_
          obtain ⟨k6, hF⟩ := ck_some hF
          refine v_strAt (i := l3) rfl k6 rfl (Nat.le_of_ble_eq_true rfl) dX9_init_101 dX9_init_103 dX9_init_104 ?_
          obtain ⟨q7, q7_e, hF⟩ := Option.bind_eq_some_iff.mp hF
          refine c_X9_47 rfl (Nat.le_of_ble_eq_true rfl) dX9_init_107 (s9_X9_withLetter _ q7_e hG) (fun r1 h1 hq => ?_)
          obtain ⟨rfl, hq, hG⟩ := hq
          replace hq := hq.symm
          subst hq
          show V _ _ _ _ (_ :: _) _ _
          obtain ⟨k9, hF⟩ := ck_some hF
          refine v_lastore sh_19 (by exact ltG9 hG (by decide)) (ixO k9) dX9_init_110 ?_
          refine v_iinc (i := 3) (v := (l3 + 1)) dX9_init_111 rfl rfl (by decide) (nlT rfl) ?_
          simp only [List.set_cons_zero, List.set_cons_succ]
          refine v_goto 58 dX9_init_114 (by decide) ?_
          refine V.weak (la2 := [some (.ref 18), some (.ref 1), some (.int l2), some (.int (l3 + 1))]) (by simp [wk]) ?_
          exact (s9_X9_tail_IH_58) _ _ _ _ hF hG
        · rw [if_pos c4] at hF
          refine v_iinc (i := 2) (v := (l2 + 1)) dX9_init_84 rfl rfl (by decide) (nlT rfl) ?_
          simp only [List.set_cons_zero, List.set_cons_succ]
          refine v_goto 111 dX9_init_87 (by decide) ?_
          refine v_iinc (i := 3) (v := (l3 + 1)) dX9_init_111 rfl rfl (by decide) (nlT rfl) ?_
          simp only [List.set_cons_zero, List.set_cons_succ]
          refine v_goto 58 dX9_init_114 (by decide) ?_
          refine V.weak (la2 := [some (.ref 18), some (.ref 1), some (.int (l2 + 1)), some (.int (l3 + 1))]) (by simp [wk]) ?_
          exact (s9_X9_tail_IH_58) _ _ _ _ hF hG
def F_X9_tail (n : Nat) (h : Hp) : Option Hp := W_X9_tail n 58 h  0 0
set_option maxRecDepth 100000 in
set_option maxHeartbeats 4000000 in
theorem s9_X9_tail (d : Nat) {n : Nat} {h : Hp}  {q0 : Hp} (hF : F_X9_tail n h  = some q0) (hG : G9 h)  : V mX9_init (d + 5) 54 [some (.ref 18), some (.ref 1), none, none] [] h (fun r1 h1 => r1 = none ∧ h1 = q0 ∧ G9 q0) := by
  obtain ⟨h', rfl⟩ : ∃ z, z = q0 := ⟨_, rfl⟩
  have s9_X9_tail_IH_58 := sw_X9_tail d   n
  unfold F_X9_tail at hF
  refine v_iconst (v := 0) dX9_init_54 (by decide) ?_
  refine v_istore_n (i := 2) dX9_init_55 rfl (by decide) (nlT rfl) ?_
  simp only [List.set_cons_zero, List.set_cons_succ]
  refine v_iconst (v := 0) dX9_init_56 (by decide) ?_
  refine v_istore_n (i := 3) dX9_init_57 rfl (by decide) (nlT rfl) ?_
  simp only [List.set_cons_zero, List.set_cons_succ]
  refine V.weak (la2 := [some (.ref 18), some (.ref 1), some (.int 0), some (.int 0)]) (by simp [wk]) ?_
  exact (s9_X9_tail_IH_58) _ _ _ _ hF hG
def hk_P : Hp := (wrR (wrI (wrI (wrR (mkH (wrR (mkH (wrR (mkH (wrR (mkH hk_8) 18 1 (some 19))) 18 2 (some 20))) 18 3 (some 21))) 18 4 (some 22)) 18 5 0) 18 6 0) 18 0 (some 1))
def wdL : Nat → Int64 := fun k => ([398548, 20976, 664997, 70708, 14145700, 24388712, 763013, 271592, 21674163, 394990, 677317, 244914, 605701, 20583955, 14145715, 20957004947, 3657363, 23732, 627876, 294, 663726, 176741] : List Int64).getD k 0
theorem W9_keep : ∀ (n hd : Nat) (h : Hp) (x2 x3 : Int32) (h' : Hp), W_X9_tail n hd h x2 x3 = some h' → hn h' = hn h ∧ hr h' = hr h ∧ hi h' = hi h ∧ (∀ a, a ≠ 19 → hl h' a = hl h a) ∧ ∀ k, 22 ≤ k → hl h' 19 k = hl h 19 k := by
  intro n
  induction n with
  | zero => intro hd h x2 x3 h' e; cases e
  | succ n ih =>
    intro hd h x2 x3 h' e
    unfold W_X9_tail at e
    obtain ⟨k0, e⟩ := ck_some e
    by_cases c1 : (115 : Int32) ≤ x3
    · rw [if_pos c1] at e; cases e; exact ⟨rfl, rfl, rfl, fun _ _ => rfl, fun _ _ => rfl⟩
    rw [if_neg c1] at e
    by_cases c2 : (22 : Int32) ≤ x2
    · rw [if_pos c2] at e; cases e; exact ⟨rfl, rfl, rfl, fun _ _ => rfl, fun _ _ => rfl⟩
    rw [if_neg c2] at e
    obtain ⟨k1, e⟩ := ck_some e
    by_cases c3 : wCh (Int32.toNatClampNeg x3) = (32 : Int32)
    · rw [if_pos c3] at e; exact ih _ _ _ _ _ e
    rw [if_neg c3] at e
    obtain ⟨k2, e⟩ := ck_some e
    obtain ⟨k3, e⟩ := ck_some e
    obtain ⟨q, e1, e⟩ := Option.bind_eq_some_iff.mp e
    obtain ⟨k4, e⟩ := ck_some e
    have hq : q.2 = h := by unfold F_X9_withLetter at e1; cases e1; rfl
    rw [hq] at e
    obtain ⟨i1, i2, i3, i4, i5⟩ := ih _ _ _ _ _ e
    refine ⟨i1, i2, i3, fun a ha => (i4 a ha).trans ?_, fun k hk => (i5 k hk).trans ?_⟩
    · funext k; exact if_neg (fun z => ha z.1)
    · exact if_neg (fun z => by have := ixO_lt k2; omega)
def hk_T : Hp := (hn hk_P, hr hk_P, hi hk_P, upA (hl hk_P) 19 wdL)
theorem some9 : (F_X9_tail 200 hk_P).isSome = true := by decide +kernel
theorem val9 : ∀ k, k < 22 → hl ((F_X9_tail 200 hk_P).getD hE) 19 k = wdL k := by decide +kernel
theorem zero9 (k : Nat) : hl hk_P 19 k = 0 := rfl
theorem done9 : F_X9_tail 200 hk_P = some hk_T := by
  obtain ⟨h', e⟩ := Option.isSome_iff_exists.mp some9
  have hg : (F_X9_tail 200 hk_P).getD hE = h' := by rw [e]; rfl
  have e2 : W_X9_tail 200 58 hk_P 0 0 = some h' := by unfold F_X9_tail at e; exact e
  obtain ⟨i1, i2, i3, i4, i5⟩ := W9_keep 200 58 hk_P 0 0 h' e2
  have i6 : hl h' = upA (hl hk_P) 19 wdL := by
    funext a k
    by_cases ha : a = 19
    · subst ha
      show _ = (if 19 = 19 then wdL k else _)
      rw [if_pos rfl]
      by_cases hk : k < 22
      · rw [← hg]; exact val9 k hk
      · rw [i5 k (by omega), zero9]
        unfold wdL
        rw [List.getD_eq_getElem?_getD, List.getElem?_eq_none (by simp only [List.length_cons, List.length_nil]; omega)]
        rfl
    · show _ = (if a = 19 then wdL k else hl hk_P a k)
      rw [if_neg ha, i4 a ha]
  have i7 : h' = hk_T := by
    show (hn h', hr h', hi h', hl h') = (hn hk_P, hr hk_P, hi hk_P, upA (hl hk_P) 19 wdL)
    rw [i1, i2, i3, i6]
  rw [e, i7]
theorem k_X9_init_18 (d : Nat) : Kc mX9_init (d + 5) [.ref 18, .ref 1] hk_8 (fun r h' => r = none ∧ h' = hk_T) := by
  refine Kc.of [some (.ref 18), some (.ref 1), none, none] ok_X9_init rfl (Nat.le_of_ble_eq_true rfl) ?_
  refine v_aload_n (i := 0) dX9_init_0 rfl rfl ?_
  refine v_objInit ml_X9_3 oi_im oi_code (Nat.le_of_ble_eq_true rfl) dX9_init_1 ?_
  refine v_aload_n (i := 0) dX9_init_4 rfl rfl ?_
  refine v_bipush (v := 22) dX9_init_5 (by decide) ?_
  refine v_newarr (q := 19) (ty := .long) (N := 22) (by decide +kernel) rfl 4 (fun _ => rfl) sh_19 ac_long ⟨nofun, nofun⟩ (fun _ => nofun) (fun _ => nofun) (by decide) (by decide) (by decide) dX9_init_7 ?_
  refine p_X9_11 rfl sh_18 (by decide +kernel) rfl dX9_init_9 ?_
  refine v_aload_n (i := 0) dX9_init_12 rfl rfl ?_
  refine v_sipush (v := 401) dX9_init_13 (by decide) ?_
  refine v_newarr (q := 20) (ty := .byte) (N := 401) (by decide +kernel) rfl 1 (fun _ => rfl) sh_20 ac_byte ⟨nofun, nofun⟩ (fun _ => nofun) (fun _ => nofun) (by decide) (by decide) (by decide) dX9_init_16 ?_
  refine p_X9_15 rfl sh_18 (by decide +kernel) rfl dX9_init_18 ?_
  refine v_aload_n (i := 0) dX9_init_21 rfl rfl ?_
  refine v_sipush (v := 401) dX9_init_22 (by decide) ?_
  refine v_newarr (q := 21) (ty := .short) (N := 401) (by decide +kernel) rfl 3 (fun _ => rfl) sh_21 ac_short ⟨nofun, nofun⟩ (fun _ => nofun) (fun _ => nofun) (by decide) (by decide) (by decide) dX9_init_25 ?_
  refine p_X9_19 rfl sh_18 (by decide +kernel) rfl dX9_init_27 ?_
  refine v_aload_n (i := 0) dX9_init_30 rfl rfl ?_
  refine v_sipush (v := 401) dX9_init_31 (by decide) ?_
  refine v_newarr (q := 22) (ty := .long) (N := 401) (by decide +kernel) rfl 4 (fun _ => rfl) sh_22 ac_long ⟨nofun, nofun⟩ (fun _ => nofun) (fun _ => nofun) (by decide) (by decide) (by decide) dX9_init_34 ?_
  refine p_X9_23 rfl sh_18 (by decide +kernel) rfl dX9_init_36 ?_
  refine v_aload_n (i := 0) dX9_init_39 rfl rfl ?_
  refine v_iconst (v := 0) dX9_init_40 (by decide) ?_
  refine p_X9_26 rfl sh_18 (by decide +kernel) dX9_init_41 ?_
  refine v_aload_n (i := 0) dX9_init_44 rfl rfl ?_
  refine v_iconst (v := 0) dX9_init_45 (by decide) ?_
  refine p_X9_30 rfl sh_18 (by decide +kernel) dX9_init_46 ?_
  refine v_aload_n (i := 0) dX9_init_49 rfl rfl ?_
  refine v_aload_n (i := 1) dX9_init_50 rfl rfl ?_
  refine p_X9_33 rfl sh_18 (by decide +kernel) rfl dX9_init_51 ?_
  show V _ _ _ _ _ hk_P _
  exact V.mono (s9_X9_tail d done9 ⟨by decide +kernel, by decide +kernel⟩) (fun r h' q => ⟨q.1, q.2.1⟩)
end
