def f_X8_isTuned (h : Hp) (a : Nat) (x1 : Int32) : Int32 := (if x1 < 0 then 0 else (if 25 ≤ x1 then 0 else (if (((((hi h a 3) : Int32).toUInt32 >>> ((x1 : Int32).toUInt32 &&& Int32.toUInt32 31)).toInt32) &&& 1) = 0 then 0 else 1)))
set_option maxRecDepth 100000 in
set_option maxHeartbeats 4000000 in
theorem k_X8_isTuned (d : Nat) {h : Hp} {a : Nat} {x1 : Int32} (hG : G h) (hs : Sc a) : Kc mX8_isTuned (d) [.ref a, .int x1] h (fun r h' => r = some (.int (f_X8_isTuned h a x1)) ∧ h' = h) := by
  obtain ⟨s0, s1, s2, s3, s4, s5, s6, s7⟩ := id hs
  refine Kc.of [some (.ref a), some (.int x1)] ok_X8_isTuned rfl (Nat.le_of_ble_eq_true rfl) ?_
  refine v_iload_n (i := 1) dX8_isTuned_0 rfl rfl ?_
  refine v_if_lt 25 dX8_isTuned_1 (by decide) (fun c_1 => ?_) (fun c_1 => ?_)
  · refine v_iconst (v := 0) dX8_isTuned_25 (by decide) ?_
    refine v_zreturn rfl (by decide) dX8_isTuned_26 ?_
    exact ⟨by first | (simp only [f_X8_isTuned, if_pos c_1]; done) | (unfold f_X8_isTuned; simp [*]; done), rfl⟩
  · refine v_iload_n (i := 1) dX8_isTuned_4 rfl rfl ?_
    refine v_bipush (v := 25) dX8_isTuned_5 (by decide) ?_
    refine v_icmp_ge 25 dX8_isTuned_7 (by decide) (fun c_7 => ?_) (fun c_7 => ?_)
    · refine v_iconst (v := 0) dX8_isTuned_25 (by decide) ?_
      refine v_zreturn rfl (by decide) dX8_isTuned_26 ?_
      exact ⟨by first | (simp only [f_X8_isTuned, if_neg c_1, if_pos c_7]; done) | (unfold f_X8_isTuned; simp [*]; done), rfl⟩
    · refine v_aload_n (i := 0) dX8_isTuned_10 rfl rfl ?_
      refine g_X8_21 rfl (by first | assumption | rfl) (by first | assumption | exact ltG hG (by first | decide | omega)) dX8_isTuned_11 ?_
      refine v_iload_n (i := 1) dX8_isTuned_14 rfl rfl ?_
      refine v_iushr dX8_isTuned_15 ?_
      refine v_iconst (v := 1) dX8_isTuned_16 (by decide) ?_
      refine v_iand dX8_isTuned_17 ?_
      refine v_if_eq 25 dX8_isTuned_18 (by decide) (fun c_18 => ?_) (fun c_18 => ?_)
      · refine v_iconst (v := 0) dX8_isTuned_25 (by decide) ?_
        refine v_zreturn rfl (by decide) dX8_isTuned_26 ?_
        exact ⟨by first | (simp only [f_X8_isTuned, if_neg c_1, if_neg c_7, if_pos c_18]; done) | (unfold f_X8_isTuned; simp [*]; done), rfl⟩
      · refine v_iconst (v := 1) dX8_isTuned_21 (by decide) ?_
        refine v_goto 26 dX8_isTuned_22 (by decide) ?_
        refine v_zreturn rfl (by decide) dX8_isTuned_26 ?_
        exact ⟨by first | (simp only [f_X8_isTuned, if_neg c_1, if_neg c_7, if_neg c_18]; done) | (unfold f_X8_isTuned; simp [*]; done), rfl⟩
theorem z_X8_isTuned {h : Hp} {a : Nat} {x1 : Int32} : f_X8_isTuned h a x1 = 0 ∨ f_X8_isTuned h a x1 = 1 := by
  unfold f_X8_isTuned
  repeat' split
  all_goals first | (simp; done)
theorem tuned_in {h : Hp} {a : Nat} {x : Int32} (q : ¬ f_X8_isTuned h a x = 0) : vp_in x 25 := by
  unfold f_X8_isTuned at q
  split at q
  · exact absurd rfl q
  · split at q
    · exact absurd rfl q
    · exact vp1 (by decide) (by assumption) (by assumption)
def f_J6_bitCount_0f7a4 (h : Hp) (x1 : Int32) : Int32 := ((((((((x1 - ((((x1 : Int32).toUInt32 >>> ((1 : Int32).toUInt32 &&& Int32.toUInt32 31)).toInt32) &&& 1431655765)) &&& 858993459) + (((((x1 - ((((x1 : Int32).toUInt32 >>> ((1 : Int32).toUInt32 &&& Int32.toUInt32 31)).toInt32) &&& 1431655765)) : Int32).toUInt32 >>> ((2 : Int32).toUInt32 &&& Int32.toUInt32 31)).toInt32) &&& 858993459)) + ((((((x1 - ((((x1 : Int32).toUInt32 >>> ((1 : Int32).toUInt32 &&& Int32.toUInt32 31)).toInt32) &&& 1431655765)) &&& 858993459) + (((((x1 - ((((x1 : Int32).toUInt32 >>> ((1 : Int32).toUInt32 &&& Int32.toUInt32 31)).toInt32) &&& 1431655765)) : Int32).toUInt32 >>> ((2 : Int32).toUInt32 &&& Int32.toUInt32 31)).toInt32) &&& 858993459)) : Int32).toUInt32 >>> ((4 : Int32).toUInt32 &&& Int32.toUInt32 31)).toInt32)) &&& 252645135) + ((((((((x1 - ((((x1 : Int32).toUInt32 >>> ((1 : Int32).toUInt32 &&& Int32.toUInt32 31)).toInt32) &&& 1431655765)) &&& 858993459) + (((((x1 - ((((x1 : Int32).toUInt32 >>> ((1 : Int32).toUInt32 &&& Int32.toUInt32 31)).toInt32) &&& 1431655765)) : Int32).toUInt32 >>> ((2 : Int32).toUInt32 &&& Int32.toUInt32 31)).toInt32) &&& 858993459)) + ((((((x1 - ((((x1 : Int32).toUInt32 >>> ((1 : Int32).toUInt32 &&& Int32.toUInt32 31)).toInt32) &&& 1431655765)) &&& 858993459) + (((((x1 - ((((x1 : Int32).toUInt32 >>> ((1 : Int32).toUInt32 &&& Int32.toUInt32 31)).toInt32) &&& 1431655765)) : Int32).toUInt32 >>> ((2 : Int32).toUInt32 &&& Int32.toUInt32 31)).toInt32) &&& 858993459)) : Int32).toUInt32 >>> ((4 : Int32).toUInt32 &&& Int32.toUInt32 31)).toInt32)) &&& 252645135) : Int32).toUInt32 >>> ((8 : Int32).toUInt32 &&& Int32.toUInt32 31)).toInt32)) + (((((((((x1 - ((((x1 : Int32).toUInt32 >>> ((1 : Int32).toUInt32 &&& Int32.toUInt32 31)).toInt32) &&& 1431655765)) &&& 858993459) + (((((x1 - ((((x1 : Int32).toUInt32 >>> ((1 : Int32).toUInt32 &&& Int32.toUInt32 31)).toInt32) &&& 1431655765)) : Int32).toUInt32 >>> ((2 : Int32).toUInt32 &&& Int32.toUInt32 31)).toInt32) &&& 858993459)) + ((((((x1 - ((((x1 : Int32).toUInt32 >>> ((1 : Int32).toUInt32 &&& Int32.toUInt32 31)).toInt32) &&& 1431655765)) &&& 858993459) + (((((x1 - ((((x1 : Int32).toUInt32 >>> ((1 : Int32).toUInt32 &&& Int32.toUInt32 31)).toInt32) &&& 1431655765)) : Int32).toUInt32 >>> ((2 : Int32).toUInt32 &&& Int32.toUInt32 31)).toInt32) &&& 858993459)) : Int32).toUInt32 >>> ((4 : Int32).toUInt32 &&& Int32.toUInt32 31)).toInt32)) &&& 252645135) + ((((((((x1 - ((((x1 : Int32).toUInt32 >>> ((1 : Int32).toUInt32 &&& Int32.toUInt32 31)).toInt32) &&& 1431655765)) &&& 858993459) + (((((x1 - ((((x1 : Int32).toUInt32 >>> ((1 : Int32).toUInt32 &&& Int32.toUInt32 31)).toInt32) &&& 1431655765)) : Int32).toUInt32 >>> ((2 : Int32).toUInt32 &&& Int32.toUInt32 31)).toInt32) &&& 858993459)) + ((((((x1 - ((((x1 : Int32).toUInt32 >>> ((1 : Int32).toUInt32 &&& Int32.toUInt32 31)).toInt32) &&& 1431655765)) &&& 858993459) + (((((x1 - ((((x1 : Int32).toUInt32 >>> ((1 : Int32).toUInt32 &&& Int32.toUInt32 31)).toInt32) &&& 1431655765)) : Int32).toUInt32 >>> ((2 : Int32).toUInt32 &&& Int32.toUInt32 31)).toInt32) &&& 858993459)) : Int32).toUInt32 >>> ((4 : Int32).toUInt32 &&& Int32.toUInt32 31)).toInt32)) &&& 252645135) : Int32).toUInt32 >>> ((8 : Int32).toUInt32 &&& Int32.toUInt32 31)).toInt32)) : Int32).toUInt32 >>> ((16 : Int32).toUInt32 &&& Int32.toUInt32 31)).toInt32)) &&& 63)
set_option maxRecDepth 100000 in
set_option maxHeartbeats 4000000 in
theorem k_J6_bitCount_0f7a4 (d : Nat) {h : Hp} {x1 : Int32} (hG : G h)  : Kc mJ6_bitCount_0f7a4 (d) [.int x1] h (fun r h' => r = some (.int (f_J6_bitCount_0f7a4 h x1)) ∧ h' = h) := by
  refine Kc.of [some (.int x1)] ok_J6_bitCount_0f7a4 rfl (Nat.le_of_ble_eq_true rfl) ?_
  refine v_iload_n (i := 0) dJ6_bitCount_0f7a4_0 rfl rfl ?_
  refine v_iload_n (i := 0) dJ6_bitCount_0f7a4_1 rfl rfl ?_
  refine v_iconst (v := 1) dJ6_bitCount_0f7a4_2 (by decide) ?_
  refine v_iushr dJ6_bitCount_0f7a4_3 ?_
  refine v_ldcw (1431655765) kc_J6_265 dJ6_bitCount_0f7a4_4 ?_
  refine v_iand dJ6_bitCount_0f7a4_7 ?_
  refine v_isub dJ6_bitCount_0f7a4_8 ?_
  refine v_istore_n (i := 0) dJ6_bitCount_0f7a4_9 rfl (by decide) (nlT rfl) ?_
  simp only [List.set_cons_zero, List.set_cons_succ]
  refine v_iload_n (i := 0) dJ6_bitCount_0f7a4_10 rfl rfl ?_
  refine v_ldcw (858993459) kc_J6_266 dJ6_bitCount_0f7a4_11 ?_
  refine v_iand dJ6_bitCount_0f7a4_14 ?_
  refine v_iload_n (i := 0) dJ6_bitCount_0f7a4_15 rfl rfl ?_
  refine v_iconst (v := 2) dJ6_bitCount_0f7a4_16 (by decide) ?_
  refine v_iushr dJ6_bitCount_0f7a4_17 ?_
  refine v_ldcw (858993459) kc_J6_266 dJ6_bitCount_0f7a4_18 ?_
  refine v_iand dJ6_bitCount_0f7a4_21 ?_
  refine v_iadd dJ6_bitCount_0f7a4_22 ?_
  refine v_istore_n (i := 0) dJ6_bitCount_0f7a4_23 rfl (by decide) (nlT rfl) ?_
  simp only [List.set_cons_zero, List.set_cons_succ]
  refine v_iload_n (i := 0) dJ6_bitCount_0f7a4_24 rfl rfl ?_
  refine v_iload_n (i := 0) dJ6_bitCount_0f7a4_25 rfl rfl ?_
  refine v_iconst (v := 4) dJ6_bitCount_0f7a4_26 (by decide) ?_
  refine v_iushr dJ6_bitCount_0f7a4_27 ?_
  refine v_iadd dJ6_bitCount_0f7a4_28 ?_
  refine v_ldcw (252645135) kc_J6_267 dJ6_bitCount_0f7a4_29 ?_
  refine v_iand dJ6_bitCount_0f7a4_32 ?_
  refine v_istore_n (i := 0) dJ6_bitCount_0f7a4_33 rfl (by decide) (nlT rfl) ?_
  simp only [List.set_cons_zero, List.set_cons_succ]
  refine v_iload_n (i := 0) dJ6_bitCount_0f7a4_34 rfl rfl ?_
  refine v_iload_n (i := 0) dJ6_bitCount_0f7a4_35 rfl rfl ?_
  refine v_bipush (v := 8) dJ6_bitCount_0f7a4_36 (by decide) ?_
  refine v_iushr dJ6_bitCount_0f7a4_38 ?_
  refine v_iadd dJ6_bitCount_0f7a4_39 ?_
  refine v_istore_n (i := 0) dJ6_bitCount_0f7a4_40 rfl (by decide) (nlT rfl) ?_
  simp only [List.set_cons_zero, List.set_cons_succ]
  refine v_iload_n (i := 0) dJ6_bitCount_0f7a4_41 rfl rfl ?_
  refine v_iload_n (i := 0) dJ6_bitCount_0f7a4_42 rfl rfl ?_
  refine v_bipush (v := 16) dJ6_bitCount_0f7a4_43 (by decide) ?_
  refine v_iushr dJ6_bitCount_0f7a4_45 ?_
  refine v_iadd dJ6_bitCount_0f7a4_46 ?_
  refine v_istore_n (i := 0) dJ6_bitCount_0f7a4_47 rfl (by decide) (nlT rfl) ?_
  simp only [List.set_cons_zero, List.set_cons_succ]
  refine v_iload_n (i := 0) dJ6_bitCount_0f7a4_48 rfl rfl ?_
  refine v_bipush (v := 63) dJ6_bitCount_0f7a4_49 (by decide) ?_
  refine v_iand dJ6_bitCount_0f7a4_51 ?_
  refine v_ireturn rfl dJ6_bitCount_0f7a4_52 ?_
  exact ⟨rfl, rfl⟩
def f_X0_hasGoer (h : Hp) (a : Nat) (x1 : Int32) : Int32 := (if x1 < 0 then 0 else (if (hi h a 2) ≤ x1 then 0 else (if 5 ≤ x1 then 0 else 1)))
set_option maxRecDepth 100000 in
set_option maxHeartbeats 4000000 in
theorem k_X0_hasGoer (d : Nat) {h : Hp} {a : Nat} {x1 : Int32} (hG : G h) (hs : IsBd a) : Kc mX0_hasGoer (d) [.ref a, .int x1] h (fun r h' => r = some (.int (f_X0_hasGoer h a x1)) ∧ h' = h) := by
  obtain ⟨s0, sF, sL, s3, s4, s5, s6, s7⟩ := id hs
  obtain ⟨sf0, sf4⟩ := id sF
  refine Kc.of [some (.ref a), some (.int x1)] ok_X0_hasGoer rfl (Nat.le_of_ble_eq_true rfl) ?_
  refine v_iload_n (i := 1) dX0_hasGoer_0 rfl rfl ?_
  refine v_if_lt 21 dX0_hasGoer_1 (by decide) (fun c_1 => ?_) (fun c_1 => ?_)
  · refine v_iconst (v := 0) dX0_hasGoer_21 (by decide) ?_
    refine v_zreturn rfl (by decide) dX0_hasGoer_22 ?_
    exact ⟨by first | (simp only [f_X0_hasGoer, if_pos c_1]; done) | (unfold f_X0_hasGoer; simp [*]; done), rfl⟩
  · refine v_iload_n (i := 1) dX0_hasGoer_4 rfl rfl ?_
    refine v_aload_n (i := 0) dX0_hasGoer_5 rfl rfl ?_
    refine g_X0_25 rfl (by first | assumption | rfl) (by first | assumption | exact ltG hG (by first | decide | omega)) dX0_hasGoer_6 ?_
    refine v_icmp_ge 21 dX0_hasGoer_9 (by decide) (fun c_9 => ?_) (fun c_9 => ?_)
    · refine v_iconst (v := 0) dX0_hasGoer_21 (by decide) ?_
      refine v_zreturn rfl (by decide) dX0_hasGoer_22 ?_
      exact ⟨by first | (simp only [f_X0_hasGoer, if_neg c_1, if_pos c_9]; done) | (unfold f_X0_hasGoer; simp [*]; done), rfl⟩
    · refine v_iload_n (i := 1) dX0_hasGoer_12 rfl rfl ?_
      refine v_iconst (v := 5) dX0_hasGoer_13 (by decide) ?_
      refine v_icmp_ge 21 dX0_hasGoer_14 (by decide) (fun c_14 => ?_) (fun c_14 => ?_)
      · refine v_iconst (v := 0) dX0_hasGoer_21 (by decide) ?_
        refine v_zreturn rfl (by decide) dX0_hasGoer_22 ?_
        exact ⟨by first | (simp only [f_X0_hasGoer, if_neg c_1, if_neg c_9, if_pos c_14]; done) | (unfold f_X0_hasGoer; simp [*]; done), rfl⟩
      · refine v_iconst (v := 1) dX0_hasGoer_17 (by decide) ?_
        refine v_goto 22 dX0_hasGoer_18 (by decide) ?_
        refine v_zreturn rfl (by decide) dX0_hasGoer_22 ?_
        exact ⟨by first | (simp only [f_X0_hasGoer, if_neg c_1, if_neg c_9, if_neg c_14]; done) | (unfold f_X0_hasGoer; simp [*]; done), rfl⟩
theorem z_X0_hasGoer {h : Hp} {a : Nat} {x1 : Int32} : f_X0_hasGoer h a x1 = 0 ∨ f_X0_hasGoer h a x1 = 1 := by
  unfold f_X0_hasGoer
  repeat' split
  all_goals first | (simp; done)
def f_X0_stirred (h : Hp) (x1 : Int32) (x2 : Int32) : Int32 := ((((x1 ^^^ x2) * 1103515245) + 12345) ^^^ ((((((x1 ^^^ x2) * 1103515245) + 12345) : Int32).toUInt32 >>> ((15 : Int32).toUInt32 &&& Int32.toUInt32 31)).toInt32))
set_option maxRecDepth 100000 in
set_option maxHeartbeats 4000000 in
theorem k_X0_stirred (d : Nat) {h : Hp} {x1 : Int32} {x2 : Int32} (hG : G h)  : Kc mX0_stirred (d) [.int x1, .int x2] h (fun r h' => r = some (.int (f_X0_stirred h x1 x2)) ∧ h' = h) := by
  refine Kc.of [some (.int x1), some (.int x2), none] ok_X0_stirred rfl (Nat.le_of_ble_eq_true rfl) ?_
  refine v_iload_n (i := 0) dX0_stirred_0 rfl rfl ?_
  refine v_iload_n (i := 1) dX0_stirred_1 rfl rfl ?_
  refine v_ixor dX0_stirred_2 ?_
  refine v_ldc (1103515245) kc_X0_156 dX0_stirred_3 ?_
  refine v_imul dX0_stirred_5 ?_
  refine v_sipush (v := 12345) dX0_stirred_6 (by decide) ?_
  refine v_iadd dX0_stirred_9 ?_
  refine v_istore_n (i := 2) dX0_stirred_10 rfl (by decide) (nlT rfl) ?_
  simp only [List.set_cons_zero, List.set_cons_succ]
  refine v_iload_n (i := 2) dX0_stirred_11 rfl rfl ?_
  refine v_iload_n (i := 2) dX0_stirred_12 rfl rfl ?_
  refine v_bipush (v := 15) dX0_stirred_13 (by decide) ?_
  refine v_iushr dX0_stirred_15 ?_
  refine v_ixor dX0_stirred_16 ?_
  refine v_ireturn rfl dX0_stirred_17 ?_
  exact ⟨rfl, rfl⟩
def f_X11_back (h : Hp) (x1 : Int32) : Int32 := (if x1 < 0 then (-1) else (if x1 ≤ (hi h 0 1) then (hi (wrI h 0 1 ((hi h 0 1) - x1)) 0 1) else (-1)))
def e_X11_back (h : Hp) (x1 : Int32) : Hp := (if x1 < 0 then h else (if x1 ≤ (hi h 0 1) then (wrI h 0 1 ((hi h 0 1) - x1)) else h))
set_option maxRecDepth 100000 in
set_option maxHeartbeats 4000000 in
theorem k_X11_back (d : Nat) {h : Hp} {x1 : Int32} (hG : G h)  : Kc mX11_back (d) [.ref 0, .int x1] h (fun r h' => r = some (.int (f_X11_back h x1)) ∧ h' = e_X11_back h x1) := by
  refine Kc.of [some (.ref 0), some (.int x1)] ok_X11_back rfl (Nat.le_of_ble_eq_true rfl) ?_
  refine v_iload_n (i := 1) dX11_back_0 rfl rfl ?_
  refine v_if_lt 12 dX11_back_1 (by decide) (fun c_1 => ?_) (fun c_1 => ?_)
  · refine v_iconst (v := (-1)) dX11_back_12 (by decide) ?_
    refine v_ireturn rfl dX11_back_13 ?_
    exact ⟨by first | (simp only [f_X11_back, if_pos c_1]; done) | (unfold f_X11_back; simp [*]; done), by first | (simp only [e_X11_back, if_pos c_1]; done) | (unfold e_X11_back; simp [*]; done)⟩
  · refine v_iload_n (i := 1) dX11_back_4 rfl rfl ?_
    refine v_aload_n (i := 0) dX11_back_5 rfl rfl ?_
    refine g_X11_13 rfl (by first | assumption | rfl) (by first | assumption | exact ltG hG (by first | decide | omega)) dX11_back_6 ?_
    refine v_icmp_le 14 dX11_back_9 (by decide) (fun c_9 => ?_) (fun c_9 => ?_)
    · refine v_aload_n (i := 0) dX11_back_14 rfl rfl ?_
      refine v_dup dX11_back_15 rfl ?_
      refine g_X11_13 rfl (by first | assumption | rfl) (by first | assumption | exact ltG hG (by first | decide | omega)) dX11_back_16 ?_
      refine v_iload_n (i := 1) dX11_back_19 rfl rfl ?_
      refine v_isub dX11_back_20 ?_
      refine p_X11_13 rfl (by first | assumption | rfl) (by first | assumption | exact ltG hG (by first | decide | omega)) dX11_back_21 ?_
      refine v_aload_n (i := 0) dX11_back_24 rfl rfl ?_
      refine g_X11_13 rfl (by first | assumption | rfl) (by first | assumption | exact ltG hG (by first | decide | omega)) dX11_back_25 ?_
      refine v_ireturn rfl dX11_back_28 ?_
      exact ⟨by first | (simp only [f_X11_back, if_neg c_1, if_pos c_9]; done) | (unfold f_X11_back; simp [*]; done), by first | (simp only [e_X11_back, if_neg c_1, if_pos c_9]; done) | (unfold e_X11_back; simp [*]; done)⟩
    · refine v_iconst (v := (-1)) dX11_back_12 (by decide) ?_
      refine v_ireturn rfl dX11_back_13 ?_
      exact ⟨by first | (simp only [f_X11_back, if_neg c_1, if_neg c_9]; done) | (unfold f_X11_back; simp [*]; done), by first | (simp only [e_X11_back, if_neg c_1, if_neg c_9]; done) | (unfold e_X11_back; simp [*]; done)⟩
theorem G_X11_back {h : Hp} {x1 : Int32} (hG : G h) : G (e_X11_back h x1) := by
  unfold e_X11_back
  repeat' split
  all_goals (repeat (first | exact hG | apply G_wrI | apply G_wrL | apply G_wrA))
def f_X11_isNoughtOrOne (h : Hp) (x1 : Int32) : Int32 := (if x1 = 0 then 1 else (if x1 = 1 then 1 else 0))
set_option maxRecDepth 100000 in
set_option maxHeartbeats 4000000 in
theorem k_X11_isNoughtOrOne (d : Nat) {h : Hp} {x1 : Int32} (hG : G h)  : Kc mX11_isNoughtOrOne (d) [.int x1] h (fun r h' => r = some (.int (f_X11_isNoughtOrOne h x1)) ∧ h' = h) := by
  refine Kc.of [some (.int x1)] ok_X11_isNoughtOrOne rfl (Nat.le_of_ble_eq_true rfl) ?_
  refine v_iload_n (i := 0) dX11_isNoughtOrOne_0 rfl rfl ?_
  refine v_if_eq 9 dX11_isNoughtOrOne_1 (by decide) (fun c_1 => ?_) (fun c_1 => ?_)
  · refine v_iconst (v := 1) dX11_isNoughtOrOne_9 (by decide) ?_
    refine v_goto 14 dX11_isNoughtOrOne_10 (by decide) ?_
    refine v_zreturn rfl (by decide) dX11_isNoughtOrOne_14 ?_
    exact ⟨by first | (simp only [f_X11_isNoughtOrOne, if_pos c_1]; done) | (unfold f_X11_isNoughtOrOne; simp [*]; done), rfl⟩
  · refine v_iload_n (i := 0) dX11_isNoughtOrOne_4 rfl rfl ?_
    refine v_iconst (v := 1) dX11_isNoughtOrOne_5 (by decide) ?_
    refine v_icmp_ne 13 dX11_isNoughtOrOne_6 (by decide) (fun c_6 => ?_) (fun c_6 => ?_)
    · refine v_iconst (v := 0) dX11_isNoughtOrOne_13 (by decide) ?_
      refine v_zreturn rfl (by decide) dX11_isNoughtOrOne_14 ?_
      exact ⟨by first | (simp only [f_X11_isNoughtOrOne, if_neg c_1, if_neg c_6]; done) | (unfold f_X11_isNoughtOrOne; simp [*]; done), rfl⟩
    · refine v_iconst (v := 1) dX11_isNoughtOrOne_9 (by decide) ?_
      refine v_goto 14 dX11_isNoughtOrOne_10 (by decide) ?_
      refine v_zreturn rfl (by decide) dX11_isNoughtOrOne_14 ?_
      exact ⟨by first | (simp only [f_X11_isNoughtOrOne, if_neg c_1, if_pos c_6]; done) | (unfold f_X11_isNoughtOrOne; simp [*]; done), rfl⟩
theorem z_X11_isNoughtOrOne {h : Hp} {x1 : Int32} : f_X11_isNoughtOrOne h x1 = 0 ∨ f_X11_isNoughtOrOne h x1 = 1 := by
  unfold f_X11_isNoughtOrOne
  repeat' split
  all_goals first | (simp; done)
def f_X11_isSpan (h : Hp) (x1 : Int32) : Int32 := (if x1 < 0 then 0 else (if 100 < x1 then 0 else 1))
set_option maxRecDepth 100000 in
set_option maxHeartbeats 4000000 in
theorem k_X11_isSpan (d : Nat) {h : Hp} {x1 : Int32} (hG : G h)  : Kc mX11_isSpan (d) [.int x1] h (fun r h' => r = some (.int (f_X11_isSpan h x1)) ∧ h' = h) := by
  refine Kc.of [some (.int x1)] ok_X11_isSpan rfl (Nat.le_of_ble_eq_true rfl) ?_
  refine v_iload_n (i := 0) dX11_isSpan_0 rfl rfl ?_
  refine v_if_lt 14 dX11_isSpan_1 (by decide) (fun c_1 => ?_) (fun c_1 => ?_)
  · refine v_iconst (v := 0) dX11_isSpan_14 (by decide) ?_
    refine v_zreturn rfl (by decide) dX11_isSpan_15 ?_
    exact ⟨by first | (simp only [f_X11_isSpan, if_pos c_1]; done) | (unfold f_X11_isSpan; simp [*]; done), rfl⟩
  · refine v_iload_n (i := 0) dX11_isSpan_4 rfl rfl ?_
    refine v_bipush (v := 100) dX11_isSpan_5 (by decide) ?_
    refine v_icmp_gt 14 dX11_isSpan_7 (by decide) (fun c_7 => ?_) (fun c_7 => ?_)
    · refine v_iconst (v := 0) dX11_isSpan_14 (by decide) ?_
      refine v_zreturn rfl (by decide) dX11_isSpan_15 ?_
      exact ⟨by first | (simp only [f_X11_isSpan, if_neg c_1, if_pos c_7]; done) | (unfold f_X11_isSpan; simp [*]; done), rfl⟩
    · refine v_iconst (v := 1) dX11_isSpan_10 (by decide) ?_
      refine v_goto 15 dX11_isSpan_11 (by decide) ?_
      refine v_zreturn rfl (by decide) dX11_isSpan_15 ?_
      exact ⟨by first | (simp only [f_X11_isSpan, if_neg c_1, if_neg c_7]; done) | (unfold f_X11_isSpan; simp [*]; done), rfl⟩
theorem z_X11_isSpan {h : Hp} {x1 : Int32} : f_X11_isSpan h x1 = 0 ∨ f_X11_isSpan h x1 = 1 := by
  unfold f_X11_isSpan
  repeat' split
  all_goals first | (simp; done)
def f_X11_lowest (h : Hp) (x1 : Int32) : Int32 := (f_J6_bitCount_0f7a4 h ((x1 &&& (-x1)) - 1))
set_option maxRecDepth 100000 in
set_option maxHeartbeats 4000000 in
theorem k_X11_lowest (d : Nat) {h : Hp} {x1 : Int32} (hG : G h)  : Kc mX11_lowest (d + 1) [.int x1] h (fun r h' => r = some (.int (f_X11_lowest h x1)) ∧ h' = h) := by
  refine Kc.of [some (.int x1)] ok_X11_lowest rfl (Nat.le_of_ble_eq_true rfl) ?_
  refine v_iload_n (i := 0) dX11_lowest_0 rfl rfl ?_
  refine v_iload_n (i := 0) dX11_lowest_1 rfl rfl ?_
  refine v_ineg dX11_lowest_2 ?_
  refine v_iand dX11_lowest_3 ?_
  refine v_iconst (v := 1) dX11_lowest_4 (by decide) ?_
  refine v_isub dX11_lowest_5 ?_
  refine c_X11_196 rfl (Nat.le_of_ble_eq_true rfl) dX11_lowest_6 (k_J6_bitCount_0f7a4 _ hG) (fun r1 h1 hq => ?_)
  obtain ⟨rfl, hq⟩ := hq
  replace hq := hq.symm
  subst hq
  show V _ _ _ _ (_ :: _) _ _
  refine v_ireturn rfl dX11_lowest_9 ?_
  exact ⟨rfl, rfl⟩
def f_X11_place (h : Hp)  : Int32 := (hi h 0 2)
set_option maxRecDepth 100000 in
set_option maxHeartbeats 4000000 in
theorem k_X11_place (d : Nat) {h : Hp}  (hG : G h)  : Kc mX11_place (d) [.ref 0] h (fun r h' => r = some (.int (f_X11_place h )) ∧ h' = h) := by
  refine Kc.of [some (.ref 0)] ok_X11_place rfl (Nat.le_of_ble_eq_true rfl) ?_
  refine v_aload_n (i := 0) dX11_place_0 rfl rfl ?_
  refine g_X11_17 rfl (by first | assumption | rfl) (by first | assumption | exact ltG hG (by first | decide | omega)) dX11_place_1 ?_
  refine v_ireturn rfl dX11_place_4 ?_
  exact ⟨rfl, rfl⟩
def f_X12_appends (h : Hp) (x1 : Int64) (x2 : Int32) : Int64 := (if x2 = 0 then x1 else ((27 * x1) + (((x2 - 97) + 1) : Int32).toInt64))
set_option maxRecDepth 100000 in
set_option maxHeartbeats 4000000 in
theorem k_X12_appends (d : Nat) {h : Hp} {x1 : Int64} {x2 : Int32} (hG : G h)  : Kc mX12_appends (d) [.long x1, .int x2] h (fun r h' => r = some (.long (f_X12_appends h x1 x2)) ∧ h' = h) := by
  refine Kc.of [some (.long x1), none, some (.int x2)] ok_X12_appends rfl (Nat.le_of_ble_eq_true rfl) ?_
  refine v_iload_n (i := 2) dX12_appends_0 rfl rfl ?_
  refine v_if_ne 8 dX12_appends_1 (by decide) (fun c_1 => ?_) (fun c_1 => ?_)
  · refine v_ldc2 (27) kl_X12_187 dX12_appends_8 ?_
    refine v_lload_n (i := 0) dX12_appends_11 rfl rfl ?_
    refine v_lmul dX12_appends_12 ?_
    refine v_iload_n (i := 2) dX12_appends_13 rfl rfl ?_
    refine v_bipush (v := 97) dX12_appends_14 (by decide) ?_
    refine v_isub dX12_appends_16 ?_
    refine v_iconst (v := 1) dX12_appends_17 (by decide) ?_
    refine v_iadd dX12_appends_18 ?_
    refine v_i2l dX12_appends_19 ?_
    refine v_ladd dX12_appends_20 ?_
    refine v_lreturn rfl dX12_appends_21 ?_
    exact ⟨by first | (simp only [f_X12_appends, if_neg c_1]; done) | (unfold f_X12_appends; simp [*]; done), rfl⟩
  · refine v_lload_n (i := 0) dX12_appends_4 rfl rfl ?_
    refine v_goto 21 dX12_appends_5 (by decide) ?_
    refine v_lreturn rfl dX12_appends_21 ?_
    exact ⟨by first | (simp only [f_X12_appends, if_pos c_1]; done) | (unfold f_X12_appends; simp [*]; done), rfl⟩
def f_X12_back (h : Hp) (x1 : Int32) : Int32 := (if x1 < 0 then (-1) else (if x1 ≤ (hi h 226 2) then (hi (wrI h 226 2 ((hi h 226 2) - x1)) 226 2) else (-1)))
def e_X12_back (h : Hp) (x1 : Int32) : Hp := (if x1 < 0 then h else (if x1 ≤ (hi h 226 2) then (wrI h 226 2 ((hi h 226 2) - x1)) else h))
set_option maxRecDepth 100000 in
set_option maxHeartbeats 4000000 in
theorem k_X12_back (d : Nat) {h : Hp} {x1 : Int32} (hG : G h)  : Kc mX12_back (d) [.ref 226, .int x1] h (fun r h' => r = some (.int (f_X12_back h x1)) ∧ h' = e_X12_back h x1) := by
  refine Kc.of [some (.ref 226), some (.int x1)] ok_X12_back rfl (Nat.le_of_ble_eq_true rfl) ?_
  refine v_iload_n (i := 1) dX12_back_0 rfl rfl ?_
  refine v_if_lt 12 dX12_back_1 (by decide) (fun c_1 => ?_) (fun c_1 => ?_)
  · refine v_iconst (v := (-1)) dX12_back_12 (by decide) ?_
    refine v_ireturn rfl dX12_back_13 ?_
    exact ⟨by first | (simp only [f_X12_back, if_pos c_1]; done) | (unfold f_X12_back; simp [*]; done), by first | (simp only [e_X12_back, if_pos c_1]; done) | (unfold e_X12_back; simp [*]; done)⟩
  · refine v_iload_n (i := 1) dX12_back_4 rfl rfl ?_
    refine v_aload_n (i := 0) dX12_back_5 rfl rfl ?_
    refine g_X12_178 rfl (by first | assumption | rfl) (by first | assumption | exact ltG hG (by first | decide | omega)) dX12_back_6 ?_
    refine v_icmp_le 14 dX12_back_9 (by decide) (fun c_9 => ?_) (fun c_9 => ?_)
    · refine v_aload_n (i := 0) dX12_back_14 rfl rfl ?_
      refine v_dup dX12_back_15 rfl ?_
      refine g_X12_178 rfl (by first | assumption | rfl) (by first | assumption | exact ltG hG (by first | decide | omega)) dX12_back_16 ?_
      refine v_iload_n (i := 1) dX12_back_19 rfl rfl ?_
      refine v_isub dX12_back_20 ?_
      refine p_X12_178 rfl (by first | assumption | rfl) (by first | assumption | exact ltG hG (by first | decide | omega)) dX12_back_21 ?_
      refine v_aload_n (i := 0) dX12_back_24 rfl rfl ?_
      refine g_X12_178 rfl (by first | assumption | rfl) (by first | assumption | exact ltG hG (by first | decide | omega)) dX12_back_25 ?_
      refine v_ireturn rfl dX12_back_28 ?_
      exact ⟨by first | (simp only [f_X12_back, if_neg c_1, if_pos c_9]; done) | (unfold f_X12_back; simp [*]; done), by first | (simp only [e_X12_back, if_neg c_1, if_pos c_9]; done) | (unfold e_X12_back; simp [*]; done)⟩
    · refine v_iconst (v := (-1)) dX12_back_12 (by decide) ?_
      refine v_ireturn rfl dX12_back_13 ?_
      exact ⟨by first | (simp only [f_X12_back, if_neg c_1, if_neg c_9]; done) | (unfold f_X12_back; simp [*]; done), by first | (simp only [e_X12_back, if_neg c_1, if_neg c_9]; done) | (unfold e_X12_back; simp [*]; done)⟩
theorem G_X12_back {h : Hp} {x1 : Int32} (hG : G h) : G (e_X12_back h x1) := by
  unfold e_X12_back
  repeat' split
  all_goals (repeat (first | exact hG | apply G_wrI | apply G_wrL | apply G_wrA))
def f_X12_cellAt (h : Hp) (v : Nat) (x1 : Int32) (x2 : Int32) : Int32 := (((hi h 235 v) * x2) + x1)
set_option maxRecDepth 100000 in
set_option maxHeartbeats 4000000 in
theorem k_X12_cellAt (d : Nat) {h : Hp} {v : Nat} {x1 : Int32} {x2 : Int32} (hG : G h)  (hv : ix (hi h 226 18) 2 v) : Kc mX12_cellAt (d) [.ref 226, .int x1, .int x2] h (fun r h' => r = some (.int (f_X12_cellAt h v x1 x2)) ∧ h' = h) := by
  refine Kc.of [some (.ref 226), some (.int x1), some (.int x2)] ok_X12_cellAt rfl (Nat.le_of_ble_eq_true rfl) ?_
  refine v_aload_n (i := 0) dX12_cellAt_0 rfl rfl ?_
  refine g_X12_43 (q := 235) rfl (by first | assumption | rfl) (by first | assumption | exact ltG hG (by first | decide | omega)) (by first | assumption | exact rG hG (by first | rfl | assumption)) dX12_cellAt_1 ?_
  refine v_aload_n (i := 0) dX12_cellAt_4 rfl rfl ?_
  refine g_X12_245 rfl (by first | assumption | rfl) (by first | assumption | exact ltG hG (by first | decide | omega)) dX12_cellAt_5 ?_
  refine v_iaload (by first | assumption | rfl) (by first | assumption | exact ltG hG (by first | decide | omega)) hv dX12_cellAt_8 ?_
  refine v_iload_n (i := 2) dX12_cellAt_9 rfl rfl ?_
  refine v_imul dX12_cellAt_10 ?_
  refine v_iload_n (i := 1) dX12_cellAt_11 rfl rfl ?_
  refine v_iadd dX12_cellAt_12 ?_
  refine v_ireturn rfl dX12_cellAt_13 ?_
  exact ⟨rfl, rfl⟩
def f_X12_cells (h : Hp) (v : Nat)  : Int32 := ((hi h 235 v) * (hi h 236 v))
set_option maxRecDepth 100000 in
set_option maxHeartbeats 4000000 in
theorem k_X12_cells (d : Nat) {h : Hp} {v : Nat}  (hG : G h)  (hv : ix (hi h 226 18) 2 v) : Kc mX12_cells (d) [.ref 226] h (fun r h' => r = some (.int (f_X12_cells h v)) ∧ h' = h) := by
  refine Kc.of [some (.ref 226)] ok_X12_cells rfl (Nat.le_of_ble_eq_true rfl) ?_
  refine v_aload_n (i := 0) dX12_cells_0 rfl rfl ?_
  refine g_X12_43 (q := 235) rfl (by first | assumption | rfl) (by first | assumption | exact ltG hG (by first | decide | omega)) (by first | assumption | exact rG hG (by first | rfl | assumption)) dX12_cells_1 ?_
  refine v_aload_n (i := 0) dX12_cells_4 rfl rfl ?_
  refine g_X12_245 rfl (by first | assumption | rfl) (by first | assumption | exact ltG hG (by first | decide | omega)) dX12_cells_5 ?_
  refine v_iaload (by first | assumption | rfl) (by first | assumption | exact ltG hG (by first | decide | omega)) hv dX12_cells_8 ?_
  refine v_aload_n (i := 0) dX12_cells_9 rfl rfl ?_
  refine g_X12_46 (q := 236) rfl (by first | assumption | rfl) (by first | assumption | exact ltG hG (by first | decide | omega)) (by first | assumption | exact rG hG (by first | rfl | assumption)) dX12_cells_10 ?_
  refine v_aload_n (i := 0) dX12_cells_13 rfl rfl ?_
  refine g_X12_245 rfl (by first | assumption | rfl) (by first | assumption | exact ltG hG (by first | decide | omega)) dX12_cells_14 ?_
  refine v_iaload (by first | assumption | rfl) (by first | assumption | exact ltG hG (by first | decide | omega)) hv dX12_cells_17 ?_
  refine v_imul dX12_cells_18 ?_
  refine v_ireturn rfl dX12_cells_19 ?_
  exact ⟨rfl, rfl⟩
def f_X12_forget (h : Hp)  : Int32 := (hi h 226 65)
def e_X12_forget (h : Hp)  : Hp := (wrI h 226 65 0)
set_option maxRecDepth 100000 in
set_option maxHeartbeats 4000000 in
theorem k_X12_forget (d : Nat) {h : Hp}  (hG : G h)  : Kc mX12_forget (d) [.ref 226] h (fun r h' => r = some (.int (f_X12_forget h )) ∧ h' = e_X12_forget h ) := by
  refine Kc.of [some (.ref 226), none] ok_X12_forget rfl (Nat.le_of_ble_eq_true rfl) ?_
  refine v_aload_n (i := 0) dX12_forget_0 rfl rfl ?_
  refine g_X12_274 rfl (by first | assumption | rfl) (by first | assumption | exact ltG hG (by first | decide | omega)) dX12_forget_1 ?_
  refine v_istore_n (i := 1) dX12_forget_4 rfl (by decide) (nlT rfl) ?_
  simp only [List.set_cons_zero, List.set_cons_succ]
  refine v_aload_n (i := 0) dX12_forget_5 rfl rfl ?_
  refine v_iconst (v := 0) dX12_forget_6 (by decide) ?_
  refine p_X12_274 rfl (by first | assumption | rfl) (by first | assumption | exact ltG hG (by first | decide | omega)) dX12_forget_7 ?_
  refine v_iload_n (i := 1) dX12_forget_10 rfl rfl ?_
  refine v_ireturn rfl dX12_forget_11 ?_
  exact ⟨rfl, rfl⟩
theorem G_X12_forget {h : Hp}  (hG : G h) : G (e_X12_forget h ) := by
  unfold e_X12_forget
  repeat' split
  all_goals (repeat (first | exact hG | apply G_wrI | apply G_wrL | apply G_wrA))
def f_X12_freeBits (h : Hp) (v : Nat)  : Int32 := (((1 <<< ((f_X12_cells h v) &&& 31)) - 1) &&& ((hi h 263 50) ^^^ (-1)))
set_option maxRecDepth 100000 in
set_option maxHeartbeats 4000000 in
theorem k_X12_freeBits (d : Nat) {h : Hp} {v : Nat}  (hG : G h)  (hv : ix (hi h 226 18) 2 v) : Kc mX12_freeBits (d + 1) [.ref 226] h (fun r h' => r = some (.int (f_X12_freeBits h v)) ∧ h' = h) := by
  refine Kc.of [some (.ref 226)] ok_X12_freeBits rfl (Nat.le_of_ble_eq_true rfl) ?_
  refine v_iconst (v := 1) dX12_freeBits_0 (by decide) ?_
  refine v_aload_n (i := 0) dX12_freeBits_1 rfl rfl ?_
  refine c_X12_326 rfl (by first | assumption | rfl) (by first | assumption | exact ltG hG (by first | decide | omega)) (Nat.le_of_ble_eq_true rfl) dX12_freeBits_2 (k_X12_cells _ hG hv) (fun r1 h1 hq => ?_)
  obtain ⟨rfl, hq⟩ := hq
  replace hq := hq.symm
  subst hq
  show V _ _ _ _ (_ :: _) _ _
  refine v_ishl dX12_freeBits_5 ?_
  refine v_iconst (v := 1) dX12_freeBits_6 (by decide) ?_
  refine v_isub dX12_freeBits_7 ?_
  refine v_aload_n (i := 0) dX12_freeBits_8 rfl rfl ?_
  refine g_X12_128 (q := 263) rfl (by first | assumption | rfl) (by first | assumption | exact ltG hG (by first | decide | omega)) (by first | assumption | exact rG hG (by first | rfl | assumption)) dX12_freeBits_9 ?_
  refine v_bipush (v := 50) dX12_freeBits_12 (by decide) ?_
  refine v_iaload (by first | assumption | rfl) (by first | assumption | exact ltG hG (by first | decide | omega)) (ixK 50 (by decide)) dX12_freeBits_14 ?_
  refine v_iconst (v := (-1)) dX12_freeBits_15 (by decide) ?_
  refine v_ixor dX12_freeBits_16 ?_
  refine v_iand dX12_freeBits_17 ?_
  refine v_ireturn rfl dX12_freeBits_18 ?_
  exact ⟨rfl, rfl⟩
def f_X12_in (h : Hp) (x1 : Int32) (x2 : Int32) (x3 : Int32) : Int32 := (if x1 < x2 then 0 else (if x3 < x1 then 0 else 1))
set_option maxRecDepth 100000 in
set_option maxHeartbeats 4000000 in
theorem k_X12_in (d : Nat) {h : Hp} {x1 : Int32} {x2 : Int32} {x3 : Int32} (hG : G h)  : Kc mX12_in (d) [.int x1, .int x2, .int x3] h (fun r h' => r = some (.int (f_X12_in h x1 x2 x3)) ∧ h' = h) := by
  refine Kc.of [some (.int x1), some (.int x2), some (.int x3)] ok_X12_in rfl (Nat.le_of_ble_eq_true rfl) ?_
  refine v_iload_n (i := 0) dX12_in_0 rfl rfl ?_
  refine v_iload_n (i := 1) dX12_in_1 rfl rfl ?_
  refine v_icmp_lt 14 dX12_in_2 (by decide) (fun c_2 => ?_) (fun c_2 => ?_)
  · refine v_iconst (v := 0) dX12_in_14 (by decide) ?_
    refine v_zreturn rfl (by decide) dX12_in_15 ?_
    exact ⟨by first | (simp only [f_X12_in, if_pos c_2]; done) | (unfold f_X12_in; simp [*]; done), rfl⟩
  · refine v_iload_n (i := 0) dX12_in_5 rfl rfl ?_
    refine v_iload_n (i := 2) dX12_in_6 rfl rfl ?_
    refine v_icmp_gt 14 dX12_in_7 (by decide) (fun c_7 => ?_) (fun c_7 => ?_)
    · refine v_iconst (v := 0) dX12_in_14 (by decide) ?_
      refine v_zreturn rfl (by decide) dX12_in_15 ?_
      exact ⟨by first | (simp only [f_X12_in, if_neg c_2, if_pos c_7]; done) | (unfold f_X12_in; simp [*]; done), rfl⟩
    · refine v_iconst (v := 1) dX12_in_10 (by decide) ?_
      refine v_goto 15 dX12_in_11 (by decide) ?_
      refine v_zreturn rfl (by decide) dX12_in_15 ?_
      exact ⟨by first | (simp only [f_X12_in, if_neg c_2, if_neg c_7]; done) | (unfold f_X12_in; simp [*]; done), rfl⟩
theorem z_X12_in {h : Hp} {x1 : Int32} {x2 : Int32} {x3 : Int32} : f_X12_in h x1 x2 x3 = 0 ∨ f_X12_in h x1 x2 x3 = 1 := by
  unfold f_X12_in
  repeat' split
  all_goals first | (simp; done)
def f_X12_isCell (h : Hp) (v : Nat) (x1 : Int32) : Int32 := (f_X12_in h x1 0 ((f_X12_cells h v) - 1))
set_option maxRecDepth 100000 in
set_option maxHeartbeats 4000000 in
theorem k_X12_isCell (d : Nat) {h : Hp} {v : Nat} {x1 : Int32} (hG : G h)  (hv : ix (hi h 226 18) 2 v) : Kc mX12_isCell (d + 1) [.ref 226, .int x1] h (fun r h' => r = some (.int (f_X12_isCell h v x1)) ∧ h' = h) := by
  refine Kc.of [some (.ref 226), some (.int x1)] ok_X12_isCell rfl (Nat.le_of_ble_eq_true rfl) ?_
  refine v_iload_n (i := 1) dX12_isCell_0 rfl rfl ?_
  refine v_iconst (v := 0) dX12_isCell_1 (by decide) ?_
  refine v_aload_n (i := 0) dX12_isCell_2 rfl rfl ?_
  refine c_X12_326 rfl (by first | assumption | rfl) (by first | assumption | exact ltG hG (by first | decide | omega)) (Nat.le_of_ble_eq_true rfl) dX12_isCell_3 (k_X12_cells _ hG hv) (fun r1 h1 hq => ?_)
  obtain ⟨rfl, hq⟩ := hq
  replace hq := hq.symm
  subst hq
  show V _ _ _ _ (_ :: _) _ _
  refine v_iconst (v := 1) dX12_isCell_6 (by decide) ?_
  refine v_isub dX12_isCell_7 ?_
  refine c_X12_330 rfl (Nat.le_of_ble_eq_true rfl) dX12_isCell_8 (k_X12_in _ hG) (fun r1 h1 hq => ?_)
  obtain ⟨rfl, hq⟩ := hq
  replace hq := hq.symm
  subst hq
  show V _ _ _ _ (_ :: _) _ _
  refine v_zreturn rfl (by exact z_X12_in) dX12_isCell_11 ?_
  exact ⟨rfl, rfl⟩
theorem z_X12_isCell {h : Hp} {v : Nat} {x1 : Int32} : f_X12_isCell h v x1 = 0 ∨ f_X12_isCell h v x1 = 1 := by
  unfold f_X12_isCell
  repeat' split
  all_goals first | (simp; done) | exact z_X12_in
def f_X12_isDigit (h : Hp) (x1 : Int32) : Int32 := (if x1 < 48 then 0 else (if 57 < x1 then 0 else 1))
set_option maxRecDepth 100000 in
set_option maxHeartbeats 4000000 in
theorem k_X12_isDigit (d : Nat) {h : Hp} {x1 : Int32} (hG : G h)  : Kc mX12_isDigit (d) [.int x1] h (fun r h' => r = some (.int (f_X12_isDigit h x1)) ∧ h' = h) := by
  refine Kc.of [some (.int x1)] ok_X12_isDigit rfl (Nat.le_of_ble_eq_true rfl) ?_
  refine v_iload_n (i := 0) dX12_isDigit_0 rfl rfl ?_
  refine v_bipush (v := 48) dX12_isDigit_1 (by decide) ?_
  refine v_icmp_lt 16 dX12_isDigit_3 (by decide) (fun c_3 => ?_) (fun c_3 => ?_)
  · refine v_iconst (v := 0) dX12_isDigit_16 (by decide) ?_
    refine v_zreturn rfl (by decide) dX12_isDigit_17 ?_
    exact ⟨by first | (simp only [f_X12_isDigit, if_pos c_3]; done) | (unfold f_X12_isDigit; simp [*]; done), rfl⟩
  · refine v_iload_n (i := 0) dX12_isDigit_6 rfl rfl ?_
    refine v_bipush (v := 57) dX12_isDigit_7 (by decide) ?_
    refine v_icmp_gt 16 dX12_isDigit_9 (by decide) (fun c_9 => ?_) (fun c_9 => ?_)
    · refine v_iconst (v := 0) dX12_isDigit_16 (by decide) ?_
      refine v_zreturn rfl (by decide) dX12_isDigit_17 ?_
      exact ⟨by first | (simp only [f_X12_isDigit, if_neg c_3, if_pos c_9]; done) | (unfold f_X12_isDigit; simp [*]; done), rfl⟩
    · refine v_iconst (v := 1) dX12_isDigit_12 (by decide) ?_
      refine v_goto 17 dX12_isDigit_13 (by decide) ?_
      refine v_zreturn rfl (by decide) dX12_isDigit_17 ?_
      exact ⟨by first | (simp only [f_X12_isDigit, if_neg c_3, if_neg c_9]; done) | (unfold f_X12_isDigit; simp [*]; done), rfl⟩
theorem z_X12_isDigit {h : Hp} {x1 : Int32} : f_X12_isDigit h x1 = 0 ∨ f_X12_isDigit h x1 = 1 := by
  unfold f_X12_isDigit
  repeat' split
  all_goals first | (simp; done)
def f_X12_isGoer (h : Hp) (v : Nat) (x1 : Int32) : Int32 := (f_X12_in h x1 0 ((hi h 242 v) - 1))
set_option maxRecDepth 100000 in
set_option maxHeartbeats 4000000 in
theorem k_X12_isGoer (d : Nat) {h : Hp} {v : Nat} {x1 : Int32} (hG : G h)  (hv : ix (hi h 226 18) 2 v) : Kc mX12_isGoer (d + 1) [.ref 226, .int x1] h (fun r h' => r = some (.int (f_X12_isGoer h v x1)) ∧ h' = h) := by
  refine Kc.of [some (.ref 226), some (.int x1)] ok_X12_isGoer rfl (Nat.le_of_ble_eq_true rfl) ?_
  refine v_iload_n (i := 1) dX12_isGoer_0 rfl rfl ?_
  refine v_iconst (v := 0) dX12_isGoer_1 (by decide) ?_
  refine v_aload_n (i := 0) dX12_isGoer_2 rfl rfl ?_
  refine g_X12_64 (q := 242) rfl (by first | assumption | rfl) (by first | assumption | exact ltG hG (by first | decide | omega)) (by first | assumption | exact rG hG (by first | rfl | assumption)) dX12_isGoer_3 ?_
  refine v_aload_n (i := 0) dX12_isGoer_6 rfl rfl ?_
  refine g_X12_245 rfl (by first | assumption | rfl) (by first | assumption | exact ltG hG (by first | decide | omega)) dX12_isGoer_7 ?_
  refine v_iaload (by first | assumption | rfl) (by first | assumption | exact ltG hG (by first | decide | omega)) hv dX12_isGoer_10 ?_
  refine v_iconst (v := 1) dX12_isGoer_11 (by decide) ?_
  refine v_isub dX12_isGoer_12 ?_
  refine c_X12_330 rfl (Nat.le_of_ble_eq_true rfl) dX12_isGoer_13 (k_X12_in _ hG) (fun r1 h1 hq => ?_)
  obtain ⟨rfl, hq⟩ := hq
  replace hq := hq.symm
  subst hq
  show V _ _ _ _ (_ :: _) _ _
  refine v_zreturn rfl (by exact z_X12_in) dX12_isGoer_16 ?_
  exact ⟨rfl, rfl⟩
theorem z_X12_isGoer {h : Hp} {v : Nat} {x1 : Int32} : f_X12_isGoer h v x1 = 0 ∨ f_X12_isGoer h v x1 = 1 := by
  unfold f_X12_isGoer
  repeat' split
  all_goals first | (simp; done) | exact z_X12_in
def f_X12_isLetter (h : Hp) (x1 : Int32) : Int32 := (if x1 < 97 then 0 else (if 122 < x1 then 0 else 1))
set_option maxRecDepth 100000 in
set_option maxHeartbeats 4000000 in
theorem k_X12_isLetter (d : Nat) {h : Hp} {x1 : Int32} (hG : G h)  : Kc mX12_isLetter (d) [.int x1] h (fun r h' => r = some (.int (f_X12_isLetter h x1)) ∧ h' = h) := by
  refine Kc.of [some (.int x1)] ok_X12_isLetter rfl (Nat.le_of_ble_eq_true rfl) ?_
  refine v_iload_n (i := 0) dX12_isLetter_0 rfl rfl ?_
  refine v_bipush (v := 97) dX12_isLetter_1 (by decide) ?_
  refine v_icmp_lt 16 dX12_isLetter_3 (by decide) (fun c_3 => ?_) (fun c_3 => ?_)
  · refine v_iconst (v := 0) dX12_isLetter_16 (by decide) ?_
    refine v_zreturn rfl (by decide) dX12_isLetter_17 ?_
    exact ⟨by first | (simp only [f_X12_isLetter, if_pos c_3]; done) | (unfold f_X12_isLetter; simp [*]; done), rfl⟩
  · refine v_iload_n (i := 0) dX12_isLetter_6 rfl rfl ?_
    refine v_bipush (v := 122) dX12_isLetter_7 (by decide) ?_
    refine v_icmp_gt 16 dX12_isLetter_9 (by decide) (fun c_9 => ?_) (fun c_9 => ?_)
    · refine v_iconst (v := 0) dX12_isLetter_16 (by decide) ?_
      refine v_zreturn rfl (by decide) dX12_isLetter_17 ?_
      exact ⟨by first | (simp only [f_X12_isLetter, if_neg c_3, if_pos c_9]; done) | (unfold f_X12_isLetter; simp [*]; done), rfl⟩
    · refine v_iconst (v := 1) dX12_isLetter_12 (by decide) ?_
      refine v_goto 17 dX12_isLetter_13 (by decide) ?_
      refine v_zreturn rfl (by decide) dX12_isLetter_17 ?_
      exact ⟨by first | (simp only [f_X12_isLetter, if_neg c_3, if_neg c_9]; done) | (unfold f_X12_isLetter; simp [*]; done), rfl⟩
theorem z_X12_isLetter {h : Hp} {x1 : Int32} : f_X12_isLetter h x1 = 0 ∨ f_X12_isLetter h x1 = 1 := by
  unfold f_X12_isLetter
  repeat' split
  all_goals first | (simp; done)
def f_X12_isLong (h : Hp) (x1 : Int32) : Int32 := (f_X12_in h x1 0 100)
set_option maxRecDepth 100000 in
set_option maxHeartbeats 4000000 in
theorem k_X12_isLong (d : Nat) {h : Hp} {x1 : Int32} (hG : G h)  : Kc mX12_isLong (d + 1) [.int x1] h (fun r h' => r = some (.int (f_X12_isLong h x1)) ∧ h' = h) := by
  refine Kc.of [some (.int x1)] ok_X12_isLong rfl (Nat.le_of_ble_eq_true rfl) ?_
  refine v_iload_n (i := 0) dX12_isLong_0 rfl rfl ?_
  refine v_iconst (v := 0) dX12_isLong_1 (by decide) ?_
  refine v_bipush (v := 100) dX12_isLong_2 (by decide) ?_
  refine c_X12_330 rfl (Nat.le_of_ble_eq_true rfl) dX12_isLong_4 (k_X12_in _ hG) (fun r1 h1 hq => ?_)
  obtain ⟨rfl, hq⟩ := hq
  replace hq := hq.symm
  subst hq
  show V _ _ _ _ (_ :: _) _ _
  refine v_zreturn rfl (by exact z_X12_in) dX12_isLong_7 ?_
  exact ⟨rfl, rfl⟩
theorem z_X12_isLong {h : Hp} {x1 : Int32} : f_X12_isLong h x1 = 0 ∨ f_X12_isLong h x1 = 1 := by
  unfold f_X12_isLong
  repeat' split
  all_goals first | (simp; done) | exact z_X12_in
def f_X12_isOff (h : Hp) (w : Nat) (x1 : Int32) (x2 : Int32) : Int32 := (if (hi h 235 w) ≤ x1 then 1 else (if x2 < (hi h 236 w) then 0 else 1))
set_option maxRecDepth 100000 in
set_option maxHeartbeats 4000000 in
theorem k_X12_isOff (d : Nat) {h : Hp} {w : Nat} {x1 : Int32} {x2 : Int32} (hG : G h)  (hw : ix (hi h 226 19) 2 w) : Kc mX12_isOff (d) [.ref 226, .int x1, .int x2] h (fun r h' => r = some (.int (f_X12_isOff h w x1 x2)) ∧ h' = h) := by
  refine Kc.of [some (.ref 226), some (.int x1), some (.int x2)] ok_X12_isOff rfl (Nat.le_of_ble_eq_true rfl) ?_
  refine v_iload_n (i := 1) dX12_isOff_0 rfl rfl ?_
  refine v_aload_n (i := 0) dX12_isOff_1 rfl rfl ?_
  refine g_X12_43 (q := 235) rfl (by first | assumption | rfl) (by first | assumption | exact ltG hG (by first | decide | omega)) (by first | assumption | exact rG hG (by first | rfl | assumption)) dX12_isOff_2 ?_
  refine v_aload_n (i := 0) dX12_isOff_5 rfl rfl ?_
  refine g_X12_248 rfl (by first | assumption | rfl) (by first | assumption | exact ltG hG (by first | decide | omega)) dX12_isOff_6 ?_
  refine v_iaload (by first | assumption | rfl) (by first | assumption | exact ltG hG (by first | decide | omega)) hw dX12_isOff_9 ?_
  refine v_icmp_ge 26 dX12_isOff_10 (by decide) (fun c_10 => ?_) (fun c_10 => ?_)
  · refine v_iconst (v := 1) dX12_isOff_26 (by decide) ?_
    refine v_goto 31 dX12_isOff_27 (by decide) ?_
    refine v_zreturn rfl (by decide) dX12_isOff_31 ?_
    exact ⟨by first | (simp only [f_X12_isOff, if_pos c_10]; done) | (unfold f_X12_isOff; simp [*]; done), rfl⟩
  · refine v_iload_n (i := 2) dX12_isOff_13 rfl rfl ?_
    refine v_aload_n (i := 0) dX12_isOff_14 rfl rfl ?_
    refine g_X12_46 (q := 236) rfl (by first | assumption | rfl) (by first | assumption | exact ltG hG (by first | decide | omega)) (by first | assumption | exact rG hG (by first | rfl | assumption)) dX12_isOff_15 ?_
    refine v_aload_n (i := 0) dX12_isOff_18 rfl rfl ?_
    refine g_X12_248 rfl (by first | assumption | rfl) (by first | assumption | exact ltG hG (by first | decide | omega)) dX12_isOff_19 ?_
    refine v_iaload (by first | assumption | rfl) (by first | assumption | exact ltG hG (by first | decide | omega)) hw dX12_isOff_22 ?_
    refine v_icmp_lt 30 dX12_isOff_23 (by decide) (fun c_23 => ?_) (fun c_23 => ?_)
    · refine v_iconst (v := 0) dX12_isOff_30 (by decide) ?_
      refine v_zreturn rfl (by decide) dX12_isOff_31 ?_
      exact ⟨by first | (simp only [f_X12_isOff, if_neg c_10, if_pos c_23]; done) | (unfold f_X12_isOff; simp [*]; done), rfl⟩
    · refine v_iconst (v := 1) dX12_isOff_26 (by decide) ?_
      refine v_goto 31 dX12_isOff_27 (by decide) ?_
      refine v_zreturn rfl (by decide) dX12_isOff_31 ?_
      exact ⟨by first | (simp only [f_X12_isOff, if_neg c_10, if_neg c_23]; done) | (unfold f_X12_isOff; simp [*]; done), rfl⟩
theorem z_X12_isOff {h : Hp} {w : Nat} {x1 : Int32} {x2 : Int32} : f_X12_isOff h w x1 x2 = 0 ∨ f_X12_isOff h w x1 x2 = 1 := by
  unfold f_X12_isOff
  repeat' split
  all_goals first | (simp; done)
def f_X12_isRoped (h : Hp) (x1 : Int32) : Int32 := (if (((hi h 263 50) >>> (x1 &&& 31)) &&& 1) = 1 then 1 else 0)
set_option maxRecDepth 100000 in
set_option maxHeartbeats 4000000 in
theorem k_X12_isRoped (d : Nat) {h : Hp} {x1 : Int32} (hG : G h)  : Kc mX12_isRoped (d) [.ref 226, .int x1] h (fun r h' => r = some (.int (f_X12_isRoped h x1)) ∧ h' = h) := by
  refine Kc.of [some (.ref 226), some (.int x1)] ok_X12_isRoped rfl (Nat.le_of_ble_eq_true rfl) ?_
  refine v_aload_n (i := 0) dX12_isRoped_0 rfl rfl ?_
  refine g_X12_128 (q := 263) rfl (by first | assumption | rfl) (by first | assumption | exact ltG hG (by first | decide | omega)) (by first | assumption | exact rG hG (by first | rfl | assumption)) dX12_isRoped_1 ?_
  refine v_bipush (v := 50) dX12_isRoped_4 (by decide) ?_
  refine v_iaload (by first | assumption | rfl) (by first | assumption | exact ltG hG (by first | decide | omega)) (ixK 50 (by decide)) dX12_isRoped_6 ?_
  refine v_iload_n (i := 1) dX12_isRoped_7 rfl rfl ?_
  refine v_ishr dX12_isRoped_8 ?_
  refine v_iconst (v := 1) dX12_isRoped_9 (by decide) ?_
  refine v_iand dX12_isRoped_10 ?_
  refine v_iconst (v := 1) dX12_isRoped_11 (by decide) ?_
  refine v_icmp_ne 19 dX12_isRoped_12 (by decide) (fun c_12 => ?_) (fun c_12 => ?_)
  · refine v_iconst (v := 0) dX12_isRoped_19 (by decide) ?_
    refine v_zreturn rfl (by decide) dX12_isRoped_20 ?_
    exact ⟨by first | (simp only [f_X12_isRoped, if_neg c_12]; done) | (unfold f_X12_isRoped; simp [*]; done), rfl⟩
  · refine v_iconst (v := 1) dX12_isRoped_15 (by decide) ?_
    refine v_goto 20 dX12_isRoped_16 (by decide) ?_
    refine v_zreturn rfl (by decide) dX12_isRoped_20 ?_
    exact ⟨by first | (simp only [f_X12_isRoped, if_pos c_12]; done) | (unfold f_X12_isRoped; simp [*]; done), rfl⟩
theorem z_X12_isRoped {h : Hp} {x1 : Int32} : f_X12_isRoped h x1 = 0 ∨ f_X12_isRoped h x1 = 1 := by
  unfold f_X12_isRoped
  repeat' split
  all_goals first | (simp; done)
def f_X12_isTime (h : Hp) (x1 : Int32) : Int32 := (f_X12_in h x1 0 59)
set_option maxRecDepth 100000 in
set_option maxHeartbeats 4000000 in
theorem k_X12_isTime (d : Nat) {h : Hp} {x1 : Int32} (hG : G h)  : Kc mX12_isTime (d + 1) [.int x1] h (fun r h' => r = some (.int (f_X12_isTime h x1)) ∧ h' = h) := by
  refine Kc.of [some (.int x1)] ok_X12_isTime rfl (Nat.le_of_ble_eq_true rfl) ?_
  refine v_iload_n (i := 0) dX12_isTime_0 rfl rfl ?_
  refine v_iconst (v := 0) dX12_isTime_1 (by decide) ?_
  refine v_bipush (v := 59) dX12_isTime_2 (by decide) ?_
  refine c_X12_330 rfl (Nat.le_of_ble_eq_true rfl) dX12_isTime_4 (k_X12_in _ hG) (fun r1 h1 hq => ?_)
  obtain ⟨rfl, hq⟩ := hq
  replace hq := hq.symm
  subst hq
  show V _ _ _ _ (_ :: _) _ _
  refine v_zreturn rfl (by exact z_X12_in) dX12_isTime_7 ?_
  exact ⟨rfl, rfl⟩
theorem z_X12_isTime {h : Hp} {x1 : Int32} : f_X12_isTime h x1 = 0 ∨ f_X12_isTime h x1 = 1 := by
  unfold f_X12_isTime
  repeat' split
  all_goals first | (simp; done) | exact z_X12_in
def f_X12_letters (h : Hp) (x1 : Int32) (x2 : Int32) (x3 : Int32) (x4 : Int32) (x5 : Int32) (x6 : Int32) (x7 : Int32) : Int64 := (f_X12_appends h (f_X12_appends h (f_X12_appends h (f_X12_appends h (f_X12_appends h (f_X12_appends h (f_X12_appends h 0 x1) x2) x3) x4) x5) x6) x7)
set_option maxRecDepth 100000 in
set_option maxHeartbeats 4000000 in
theorem k_X12_letters (d : Nat) {h : Hp} {x1 : Int32} {x2 : Int32} {x3 : Int32} {x4 : Int32} {x5 : Int32} {x6 : Int32} {x7 : Int32} (hG : G h)  : Kc mX12_letters (d + 1) [.int x1, .int x2, .int x3, .int x4, .int x5, .int x6, .int x7] h (fun r h' => r = some (.long (f_X12_letters h x1 x2 x3 x4 x5 x6 x7)) ∧ h' = h) := by
  refine Kc.of [some (.int x1), some (.int x2), some (.int x3), some (.int x4), some (.int x5), some (.int x6), some (.int x7)] ok_X12_letters rfl (Nat.le_of_ble_eq_true rfl) ?_
  refine v_lconst (v := 0) dX12_letters_0 (by decide) ?_
  refine v_iload_n (i := 0) dX12_letters_1 rfl rfl ?_
  refine c_X12_189 rfl (Nat.le_of_ble_eq_true rfl) dX12_letters_2 (k_X12_appends _ hG) (fun r1 h1 hq => ?_)
  obtain ⟨rfl, hq⟩ := hq
  replace hq := hq.symm
  subst hq
  show V _ _ _ _ (_ :: _) _ _
  refine v_iload_n (i := 1) dX12_letters_5 rfl rfl ?_
  refine c_X12_189 rfl (Nat.le_of_ble_eq_true rfl) dX12_letters_6 (k_X12_appends _ hG) (fun r1 h1 hq => ?_)
  obtain ⟨rfl, hq⟩ := hq
  replace hq := hq.symm
  subst hq
  show V _ _ _ _ (_ :: _) _ _
  refine v_iload_n (i := 2) dX12_letters_9 rfl rfl ?_
  refine c_X12_189 rfl (Nat.le_of_ble_eq_true rfl) dX12_letters_10 (k_X12_appends _ hG) (fun r1 h1 hq => ?_)
  obtain ⟨rfl, hq⟩ := hq
  replace hq := hq.symm
  subst hq
  show V _ _ _ _ (_ :: _) _ _
  refine v_iload_n (i := 3) dX12_letters_13 rfl rfl ?_
  refine c_X12_189 rfl (Nat.le_of_ble_eq_true rfl) dX12_letters_14 (k_X12_appends _ hG) (fun r1 h1 hq => ?_)
  obtain ⟨rfl, hq⟩ := hq
  replace hq := hq.symm
  subst hq
  show V _ _ _ _ (_ :: _) _ _
  refine v_iload (i := 4) dX12_letters_17 rfl ?_
  refine c_X12_189 rfl (Nat.le_of_ble_eq_true rfl) dX12_letters_19 (k_X12_appends _ hG) (fun r1 h1 hq => ?_)
  obtain ⟨rfl, hq⟩ := hq
  replace hq := hq.symm
  subst hq
  show V _ _ _ _ (_ :: _) _ _
  refine v_iload (i := 5) dX12_letters_22 rfl ?_
  refine c_X12_189 rfl (Nat.le_of_ble_eq_true rfl) dX12_letters_24 (k_X12_appends _ hG) (fun r1 h1 hq => ?_)
  obtain ⟨rfl, hq⟩ := hq
  replace hq := hq.symm
  subst hq
  show V _ _ _ _ (_ :: _) _ _
  refine v_iload (i := 6) dX12_letters_27 rfl ?_
  refine c_X12_189 rfl (Nat.le_of_ble_eq_true rfl) dX12_letters_29 (k_X12_appends _ hG) (fun r1 h1 hq => ?_)
  obtain ⟨rfl, hq⟩ := hq
  replace hq := hq.symm
  subst hq
  show V _ _ _ _ (_ :: _) _ _
  refine v_lreturn rfl dX12_letters_32 ?_
  exact ⟨rfl, rfl⟩
def f_X12_mixed (h : Hp) (x1 : Int32) (x2 : Int32) : Int32 := ((((x1 ^^^ x2) * 1103515245) + 12345) ^^^ ((((((x1 ^^^ x2) * 1103515245) + 12345) : Int32).toUInt32 >>> ((15 : Int32).toUInt32 &&& Int32.toUInt32 31)).toInt32))
set_option maxRecDepth 100000 in
set_option maxHeartbeats 4000000 in
theorem k_X12_mixed (d : Nat) {h : Hp} {x1 : Int32} {x2 : Int32} (hG : G h)  : Kc mX12_mixed (d) [.int x1, .int x2] h (fun r h' => r = some (.int (f_X12_mixed h x1 x2)) ∧ h' = h) := by
  refine Kc.of [some (.int x1), some (.int x2), none] ok_X12_mixed rfl (Nat.le_of_ble_eq_true rfl) ?_
  refine v_iload_n (i := 0) dX12_mixed_0 rfl rfl ?_
  refine v_iload_n (i := 1) dX12_mixed_1 rfl rfl ?_
  refine v_ixor dX12_mixed_2 ?_
  refine v_ldcw (1103515245) kc_X12_349 dX12_mixed_3 ?_
  refine v_imul dX12_mixed_6 ?_
  refine v_sipush (v := 12345) dX12_mixed_7 (by decide) ?_
  refine v_iadd dX12_mixed_10 ?_
  refine v_istore_n (i := 2) dX12_mixed_11 rfl (by decide) (nlT rfl) ?_
  simp only [List.set_cons_zero, List.set_cons_succ]
  refine v_iload_n (i := 2) dX12_mixed_12 rfl rfl ?_
  refine v_iload_n (i := 2) dX12_mixed_13 rfl rfl ?_
  refine v_bipush (v := 15) dX12_mixed_14 (by decide) ?_
  refine v_iushr dX12_mixed_16 ?_
  refine v_ixor dX12_mixed_17 ?_
  refine v_ireturn rfl dX12_mixed_18 ?_
  exact ⟨rfl, rfl⟩
def f_X12_off (h : Hp) (x1 : Int32) (x2 : Int32) : Int32 := (if x2 ≤ x1 then (x1 - x2) else (x2 - x1))
set_option maxRecDepth 100000 in
set_option maxHeartbeats 4000000 in
theorem k_X12_off (d : Nat) {h : Hp} {x1 : Int32} {x2 : Int32} (hG : G h)  : Kc mX12_off (d) [.int x1, .int x2] h (fun r h' => r = some (.int (f_X12_off h x1 x2)) ∧ h' = h) := by
  refine Kc.of [some (.int x1), some (.int x2)] ok_X12_off rfl (Nat.le_of_ble_eq_true rfl) ?_
  refine v_iload_n (i := 0) dX12_off_0 rfl rfl ?_
  refine v_iload_n (i := 1) dX12_off_1 rfl rfl ?_
  refine v_icmp_ge 11 dX12_off_2 (by decide) (fun c_2 => ?_) (fun c_2 => ?_)
  · refine v_iload_n (i := 0) dX12_off_11 rfl rfl ?_
    refine v_iload_n (i := 1) dX12_off_12 rfl rfl ?_
    refine v_isub dX12_off_13 ?_
    refine v_ireturn rfl dX12_off_14 ?_
    exact ⟨by first | (simp only [f_X12_off, if_pos c_2]; done) | (unfold f_X12_off; simp [*]; done), rfl⟩
  · refine v_iload_n (i := 1) dX12_off_5 rfl rfl ?_
    refine v_iload_n (i := 0) dX12_off_6 rfl rfl ?_
    refine v_isub dX12_off_7 ?_
    refine v_goto 14 dX12_off_8 (by decide) ?_
    refine v_ireturn rfl dX12_off_14 ?_
    exact ⟨by first | (simp only [f_X12_off, if_neg c_2]; done) | (unfold f_X12_off; simp [*]; done), rfl⟩
def f_X12_place (h : Hp)  : Int32 := (hi h 226 17)
set_option maxRecDepth 100000 in
set_option maxHeartbeats 4000000 in
theorem k_X12_place (d : Nat) {h : Hp}  (hG : G h)  : Kc mX12_place (d) [.ref 226] h (fun r h' => r = some (.int (f_X12_place h )) ∧ h' = h) := by
  refine Kc.of [some (.ref 226)] ok_X12_place rfl (Nat.le_of_ble_eq_true rfl) ?_
  refine v_aload_n (i := 0) dX12_place_0 rfl rfl ?_
  refine g_X12_37 rfl (by first | assumption | rfl) (by first | assumption | exact ltG hG (by first | decide | omega)) dX12_place_1 ?_
  refine v_ireturn rfl dX12_place_4 ?_
  exact ⟨rfl, rfl⟩
def f_X12_within (h : Hp) (x1 : Int32) (x2 : Int32) (x3 : Int32) : Int32 := (if x2 ≤ x1 then (if x1 ≤ x3 then x1 else x3) else x2)
set_option maxRecDepth 100000 in
set_option maxHeartbeats 4000000 in
theorem k_X12_within (d : Nat) {h : Hp} {x1 : Int32} {x2 : Int32} {x3 : Int32} (hG : G h)  : Kc mX12_within (d) [.int x1, .int x2, .int x3] h (fun r h' => r = some (.int (f_X12_within h x1 x2 x3)) ∧ h' = h) := by
  refine Kc.of [some (.int x1), some (.int x2), some (.int x3)] ok_X12_within rfl (Nat.le_of_ble_eq_true rfl) ?_
  refine v_iload_n (i := 0) dX12_within_0 rfl rfl ?_
  refine v_iload_n (i := 1) dX12_within_1 rfl rfl ?_
  refine v_icmp_ge 9 dX12_within_2 (by decide) (fun c_2 => ?_) (fun c_2 => ?_)
  · refine v_iload_n (i := 0) dX12_within_9 rfl rfl ?_
    refine v_iload_n (i := 2) dX12_within_10 rfl rfl ?_
    refine v_icmp_le 18 dX12_within_11 (by decide) (fun c_11 => ?_) (fun c_11 => ?_)
    · refine v_iload_n (i := 0) dX12_within_18 rfl rfl ?_
      refine v_ireturn rfl dX12_within_19 ?_
      exact ⟨by first | (simp only [f_X12_within, if_pos c_2, if_pos c_11]; done) | (unfold f_X12_within; simp [*]; done), rfl⟩
    · refine v_iload_n (i := 2) dX12_within_14 rfl rfl ?_
      refine v_goto 19 dX12_within_15 (by decide) ?_
      refine v_ireturn rfl dX12_within_19 ?_
      exact ⟨by first | (simp only [f_X12_within, if_pos c_2, if_neg c_11]; done) | (unfold f_X12_within; simp [*]; done), rfl⟩
  · refine v_iload_n (i := 1) dX12_within_5 rfl rfl ?_
    refine v_goto 19 dX12_within_6 (by decide) ?_
    refine v_ireturn rfl dX12_within_19 ?_
    exact ⟨by first | (simp only [f_X12_within, if_neg c_2]; done) | (unfold f_X12_within; simp [*]; done), rfl⟩
def e_X2_clear (h : Hp)  : Hp := (wrI h 201 2 0)
set_option maxRecDepth 100000 in
set_option maxHeartbeats 4000000 in
theorem k_X2_clear (d : Nat) {h : Hp}  (hG : G h)  : Kc mX2_clear (d) [.ref 201] h (fun r h' => r = none ∧ h' = e_X2_clear h ) := by
  refine Kc.of [some (.ref 201)] ok_X2_clear rfl (Nat.le_of_ble_eq_true rfl) ?_
  refine v_aload_n (i := 0) dX2_clear_0 rfl rfl ?_
  refine v_iconst (v := 0) dX2_clear_1 (by decide) ?_
  refine p_X2_19 rfl (by first | assumption | rfl) (by first | assumption | exact ltG hG (by first | decide | omega)) dX2_clear_2 ?_
  refine v_return rfl dX2_clear_5 ?_
  exact ⟨rfl, rfl⟩
theorem G_X2_clear {h : Hp}  (hG : G h) : G (e_X2_clear h ) := by
  unfold e_X2_clear
  repeat' split
  all_goals (repeat (first | exact hG | apply G_wrI | apply G_wrL | apply G_wrA))
def f_X2_knows (h : Hp) (x1 : Int32) : Int32 := (if x1 < 0 then 0 else (if (hi h 201 2) < x1 then 0 else 1))
set_option maxRecDepth 100000 in
set_option maxHeartbeats 4000000 in
theorem k_X2_knows (d : Nat) {h : Hp} {x1 : Int32} (hG : G h)  : Kc mX2_knows (d) [.ref 201, .int x1] h (fun r h' => r = some (.int (f_X2_knows h x1)) ∧ h' = h) := by
  refine Kc.of [some (.ref 201), some (.int x1)] ok_X2_knows rfl (Nat.le_of_ble_eq_true rfl) ?_
  refine v_iload_n (i := 1) dX2_knows_0 rfl rfl ?_
  refine v_if_lt 16 dX2_knows_1 (by decide) (fun c_1 => ?_) (fun c_1 => ?_)
  · refine v_iconst (v := 0) dX2_knows_16 (by decide) ?_
    refine v_zreturn rfl (by decide) dX2_knows_17 ?_
    exact ⟨by first | (simp only [f_X2_knows, if_pos c_1]; done) | (unfold f_X2_knows; simp [*]; done), rfl⟩
  · refine v_iload_n (i := 1) dX2_knows_4 rfl rfl ?_
    refine v_aload_n (i := 0) dX2_knows_5 rfl rfl ?_
    refine g_X2_19 rfl (by first | assumption | rfl) (by first | assumption | exact ltG hG (by first | decide | omega)) dX2_knows_6 ?_
    refine v_icmp_gt 16 dX2_knows_9 (by decide) (fun c_9 => ?_) (fun c_9 => ?_)
    · refine v_iconst (v := 0) dX2_knows_16 (by decide) ?_
      refine v_zreturn rfl (by decide) dX2_knows_17 ?_
      exact ⟨by first | (simp only [f_X2_knows, if_neg c_1, if_pos c_9]; done) | (unfold f_X2_knows; simp [*]; done), rfl⟩
    · refine v_iconst (v := 1) dX2_knows_12 (by decide) ?_
      refine v_goto 17 dX2_knows_13 (by decide) ?_
      refine v_zreturn rfl (by decide) dX2_knows_17 ?_
      exact ⟨by first | (simp only [f_X2_knows, if_neg c_1, if_neg c_9]; done) | (unfold f_X2_knows; simp [*]; done), rfl⟩
theorem z_X2_knows {h : Hp} {x1 : Int32} : f_X2_knows h x1 = 0 ∨ f_X2_knows h x1 = 1 := by
  unfold f_X2_knows
  repeat' split
  all_goals first | (simp; done)
def e_X3_become (h : Hp) (a : Nat) (b1 : Nat) : Hp := (wrI (wrI (wrI (wrI h a 0 (hi h b1 0)) a 1 (hi (wrI h a 0 (hi h b1 0)) b1 1)) a 2 (hi (wrI (wrI h a 0 (hi h b1 0)) a 1 (hi (wrI h a 0 (hi h b1 0)) b1 1)) b1 2)) a 3 (hi (wrI (wrI (wrI h a 0 (hi h b1 0)) a 1 (hi (wrI h a 0 (hi h b1 0)) b1 1)) a 2 (hi (wrI (wrI h a 0 (hi h b1 0)) a 1 (hi (wrI h a 0 (hi h b1 0)) b1 1)) b1 2)) b1 3))
set_option maxRecDepth 100000 in
set_option maxHeartbeats 4000000 in
theorem k_X3_become (d : Nat) {h : Hp} {a : Nat} {b1 : Nat} (hG : G h) (hs : IsFd a) (ht1_ : IsFd b1) : Kc mX3_become (d) [.ref a, .ref b1] h (fun r h' => r = none ∧ h' = e_X3_become h a b1) := by
  obtain ⟨s0, s4⟩ := id hs
  obtain ⟨t1_0, t1_4⟩ := id ht1_
  refine Kc.of [some (.ref a), some (.ref b1)] ok_X3_become rfl (Nat.le_of_ble_eq_true rfl) ?_
  refine v_aload_n (i := 0) dX3_become_0 rfl rfl ?_
  refine v_aload_n (i := 1) dX3_become_1 rfl rfl ?_
  refine g_X3_9 rfl (by first | assumption | rfl) (by first | assumption | exact ltG hG (by first | decide | omega)) dX3_become_2 ?_
  refine p_X3_9 rfl (by first | assumption | rfl) (by first | assumption | exact ltG hG (by first | decide | omega)) dX3_become_5 ?_
  refine v_aload_n (i := 0) dX3_become_8 rfl rfl ?_
  refine v_aload_n (i := 1) dX3_become_9 rfl rfl ?_
  refine g_X3_15 rfl (by first | assumption | rfl) (by first | assumption | exact ltG hG (by first | decide | omega)) dX3_become_10 ?_
  refine p_X3_15 rfl (by first | assumption | rfl) (by first | assumption | exact ltG hG (by first | decide | omega)) dX3_become_13 ?_
  refine v_aload_n (i := 0) dX3_become_16 rfl rfl ?_
  refine v_aload_n (i := 1) dX3_become_17 rfl rfl ?_
  refine g_X3_18 rfl (by first | assumption | rfl) (by first | assumption | exact ltG hG (by first | decide | omega)) dX3_become_18 ?_
  refine p_X3_18 rfl (by first | assumption | rfl) (by first | assumption | exact ltG hG (by first | decide | omega)) dX3_become_21 ?_
  refine v_aload_n (i := 0) dX3_become_24 rfl rfl ?_
  refine v_aload_n (i := 1) dX3_become_25 rfl rfl ?_
  refine g_X3_21 rfl (by first | assumption | rfl) (by first | assumption | exact ltG hG (by first | decide | omega)) dX3_become_26 ?_
  refine p_X3_21 rfl (by first | assumption | rfl) (by first | assumption | exact ltG hG (by first | decide | omega)) dX3_become_29 ?_
  refine v_return rfl dX3_become_32 ?_
  exact ⟨rfl, rfl⟩
theorem G_X3_become {h : Hp} {a : Nat} {b1 : Nat} (hG : G h) : G (e_X3_become h a b1) := by
  unfold e_X3_become
  repeat' split
  all_goals (repeat (first | exact hG | apply G_wrI | apply G_wrL | apply G_wrA))
def f_X3_grown (h : Hp) (a : Nat) (x1 : Int32) : Int32 := (((((x1 ||| ((x1 <<< (1 &&& 31)) &&& ((hi h a 3) ^^^ (-1)))) ||| ((((x1 &&& ((hi h a 3) ^^^ (-1))) : Int32).toUInt32 >>> ((1 : Int32).toUInt32 &&& Int32.toUInt32 31)).toInt32)) ||| (x1 <<< ((hi h a 0) &&& 31))) ||| (((x1 : Int32).toUInt32 >>> (((hi h a 0) : Int32).toUInt32 &&& Int32.toUInt32 31)).toInt32)) &&& (hi h a 2))
set_option maxRecDepth 100000 in
set_option maxHeartbeats 4000000 in
theorem k_X3_grown (d : Nat) {h : Hp} {a : Nat} {x1 : Int32} (hG : G h) (hs : IsFd a) : Kc mX3_grown (d) [.ref a, .int x1] h (fun r h' => r = some (.int (f_X3_grown h a x1)) ∧ h' = h) := by
  obtain ⟨s0, s4⟩ := id hs
  refine Kc.of [some (.ref a), some (.int x1), none, none] ok_X3_grown rfl (Nat.le_of_ble_eq_true rfl) ?_
  refine v_iload_n (i := 1) dX3_grown_0 rfl rfl ?_
  refine v_iconst (v := 1) dX3_grown_1 (by decide) ?_
  refine v_ishl dX3_grown_2 ?_
  refine v_aload_n (i := 0) dX3_grown_3 rfl rfl ?_
  refine g_X3_21 rfl (by first | assumption | rfl) (by first | assumption | exact ltG hG (by first | decide | omega)) dX3_grown_4 ?_
  refine v_iconst (v := (-1)) dX3_grown_7 (by decide) ?_
  refine v_ixor dX3_grown_8 ?_
  refine v_iand dX3_grown_9 ?_
  refine v_istore_n (i := 2) dX3_grown_10 rfl (by decide) (nlT rfl) ?_
  simp only [List.set_cons_zero, List.set_cons_succ]
  refine v_iload_n (i := 1) dX3_grown_11 rfl rfl ?_
  refine v_aload_n (i := 0) dX3_grown_12 rfl rfl ?_
  refine g_X3_21 rfl (by first | assumption | rfl) (by first | assumption | exact ltG hG (by first | decide | omega)) dX3_grown_13 ?_
  refine v_iconst (v := (-1)) dX3_grown_16 (by decide) ?_
  refine v_ixor dX3_grown_17 ?_
  refine v_iand dX3_grown_18 ?_
  refine v_iconst (v := 1) dX3_grown_19 (by decide) ?_
  refine v_iushr dX3_grown_20 ?_
  refine v_istore_n (i := 3) dX3_grown_21 rfl (by decide) (nlT rfl) ?_
  simp only [List.set_cons_zero, List.set_cons_succ]
  refine v_iload_n (i := 1) dX3_grown_22 rfl rfl ?_
  refine v_iload_n (i := 2) dX3_grown_23 rfl rfl ?_
  refine v_ior dX3_grown_24 ?_
  refine v_iload_n (i := 3) dX3_grown_25 rfl rfl ?_
  refine v_ior dX3_grown_26 ?_
  refine v_iload_n (i := 1) dX3_grown_27 rfl rfl ?_
  refine v_aload_n (i := 0) dX3_grown_28 rfl rfl ?_
  refine g_X3_9 rfl (by first | assumption | rfl) (by first | assumption | exact ltG hG (by first | decide | omega)) dX3_grown_29 ?_
  refine v_ishl dX3_grown_32 ?_
  refine v_ior dX3_grown_33 ?_
  refine v_iload_n (i := 1) dX3_grown_34 rfl rfl ?_
  refine v_aload_n (i := 0) dX3_grown_35 rfl rfl ?_
  refine g_X3_9 rfl (by first | assumption | rfl) (by first | assumption | exact ltG hG (by first | decide | omega)) dX3_grown_36 ?_
  refine v_iushr dX3_grown_39 ?_
  refine v_ior dX3_grown_40 ?_
  refine v_aload_n (i := 0) dX3_grown_41 rfl rfl ?_
  refine g_X3_18 rfl (by first | assumption | rfl) (by first | assumption | exact ltG hG (by first | decide | omega)) dX3_grown_42 ?_
  refine v_iand dX3_grown_45 ?_
  refine v_ireturn rfl dX3_grown_46 ?_
  exact ⟨rfl, rfl⟩
def f_X3_has (h : Hp) (a : Nat) (x1 : Int32) : Int32 := (if x1 < 0 then 0 else (if ((hi h a 0) * (hi h a 1)) ≤ x1 then 0 else 1))
set_option maxRecDepth 100000 in
set_option maxHeartbeats 4000000 in
theorem k_X3_has (d : Nat) {h : Hp} {a : Nat} {x1 : Int32} (hG : G h) (hs : IsFd a) : Kc mX3_has (d) [.ref a, .int x1] h (fun r h' => r = some (.int (f_X3_has h a x1)) ∧ h' = h) := by
  obtain ⟨s0, s4⟩ := id hs
  refine Kc.of [some (.ref a), some (.int x1)] ok_X3_has rfl (Nat.le_of_ble_eq_true rfl) ?_
  refine v_iload_n (i := 1) dX3_has_0 rfl rfl ?_
  refine v_if_lt 21 dX3_has_1 (by decide) (fun c_1 => ?_) (fun c_1 => ?_)
  · refine v_iconst (v := 0) dX3_has_21 (by decide) ?_
    refine v_zreturn rfl (by decide) dX3_has_22 ?_
    exact ⟨by first | (simp only [f_X3_has, if_pos c_1]; done) | (unfold f_X3_has; simp [*]; done), rfl⟩
  · refine v_iload_n (i := 1) dX3_has_4 rfl rfl ?_
    refine v_aload_n (i := 0) dX3_has_5 rfl rfl ?_
    refine g_X3_9 rfl (by first | assumption | rfl) (by first | assumption | exact ltG hG (by first | decide | omega)) dX3_has_6 ?_
    refine v_aload_n (i := 0) dX3_has_9 rfl rfl ?_
    refine g_X3_15 rfl (by first | assumption | rfl) (by first | assumption | exact ltG hG (by first | decide | omega)) dX3_has_10 ?_
    refine v_imul dX3_has_13 ?_
    refine v_icmp_ge 21 dX3_has_14 (by decide) (fun c_14 => ?_) (fun c_14 => ?_)
    · refine v_iconst (v := 0) dX3_has_21 (by decide) ?_
      refine v_zreturn rfl (by decide) dX3_has_22 ?_
      exact ⟨by first | (simp only [f_X3_has, if_neg c_1, if_pos c_14]; done) | (unfold f_X3_has; simp [*]; done), rfl⟩
    · refine v_iconst (v := 1) dX3_has_17 (by decide) ?_
      refine v_goto 22 dX3_has_18 (by decide) ?_
      refine v_zreturn rfl (by decide) dX3_has_22 ?_
      exact ⟨by first | (simp only [f_X3_has, if_neg c_1, if_neg c_14]; done) | (unfold f_X3_has; simp [*]; done), rfl⟩
theorem z_X3_has {h : Hp} {a : Nat} {x1 : Int32} : f_X3_has h a x1 = 0 ∨ f_X3_has h a x1 = 1 := by
  unfold f_X3_has
  repeat' split
  all_goals first | (simp; done)
def f_X3_leftOf (h : Hp) (a : Nat) (x1 : Int32) : Int32 := (if (hi h a 0) ≤ 0 then 0 else (x1 - x1 / (hi h a 0) * (hi h a 0)))
set_option maxRecDepth 100000 in
set_option maxHeartbeats 4000000 in
theorem k_X3_leftOf (d : Nat) {h : Hp} {a : Nat} {x1 : Int32} (hG : G h) (hs : IsFd a) : Kc mX3_leftOf (d) [.ref a, .int x1] h (fun r h' => r = some (.int (f_X3_leftOf h a x1)) ∧ h' = h) := by
  obtain ⟨s0, s4⟩ := id hs
  refine Kc.of [some (.ref a), some (.int x1)] ok_X3_leftOf rfl (Nat.le_of_ble_eq_true rfl) ?_
  refine v_aload_n (i := 0) dX3_leftOf_0 rfl rfl ?_
  refine g_X3_9 rfl (by first | assumption | rfl) (by first | assumption | exact ltG hG (by first | decide | omega)) dX3_leftOf_1 ?_
  refine v_if_le 16 dX3_leftOf_4 (by decide) (fun c_4 => ?_) (fun c_4 => ?_)
  · refine v_iconst (v := 0) dX3_leftOf_16 (by decide) ?_
    refine v_ireturn rfl dX3_leftOf_17 ?_
    exact ⟨by first | (simp only [f_X3_leftOf, if_pos c_4]; done) | (unfold f_X3_leftOf; simp [*]; done), rfl⟩
  · refine v_iload_n (i := 1) dX3_leftOf_7 rfl rfl ?_
    refine v_aload_n (i := 0) dX3_leftOf_8 rfl rfl ?_
    refine g_X3_9 rfl (by first | assumption | rfl) (by first | assumption | exact ltG hG (by first | decide | omega)) dX3_leftOf_9 ?_
    refine v_irem dX3_leftOf_12 (by first | assumption | decide | (intro q; simp_all)) ?_
    refine v_goto 17 dX3_leftOf_13 (by decide) ?_
    refine v_ireturn rfl dX3_leftOf_17 ?_
    exact ⟨by first | (simp only [f_X3_leftOf, if_neg c_4]; done) | (unfold f_X3_leftOf; simp [*]; done), rfl⟩
def f_X3_quietOnTheRight (h : Hp) (a : Nat) (x1 : Int32) : Int32 := (x1 &&& ((((((hi h a 2) &&& ((hi h a 3) ^^^ (-1))) &&& (x1 ^^^ (-1))) : Int32).toUInt32 >>> ((1 : Int32).toUInt32 &&& Int32.toUInt32 31)).toInt32))
set_option maxRecDepth 100000 in
set_option maxHeartbeats 4000000 in
theorem k_X3_quietOnTheRight (d : Nat) {h : Hp} {a : Nat} {x1 : Int32} (hG : G h) (hs : IsFd a) : Kc mX3_quietOnTheRight (d) [.ref a, .int x1] h (fun r h' => r = some (.int (f_X3_quietOnTheRight h a x1)) ∧ h' = h) := by
  obtain ⟨s0, s4⟩ := id hs
  refine Kc.of [some (.ref a), some (.int x1), none] ok_X3_quietOnTheRight rfl (Nat.le_of_ble_eq_true rfl) ?_
  refine v_aload_n (i := 0) dX3_quietOnTheRight_0 rfl rfl ?_
  refine g_X3_18 rfl (by first | assumption | rfl) (by first | assumption | exact ltG hG (by first | decide | omega)) dX3_quietOnTheRight_1 ?_
  refine v_aload_n (i := 0) dX3_quietOnTheRight_4 rfl rfl ?_
  refine g_X3_21 rfl (by first | assumption | rfl) (by first | assumption | exact ltG hG (by first | decide | omega)) dX3_quietOnTheRight_5 ?_
  refine v_iconst (v := (-1)) dX3_quietOnTheRight_8 (by decide) ?_
  refine v_ixor dX3_quietOnTheRight_9 ?_
  refine v_iand dX3_quietOnTheRight_10 ?_
  refine v_iload_n (i := 1) dX3_quietOnTheRight_11 rfl rfl ?_
  refine v_iconst (v := (-1)) dX3_quietOnTheRight_12 (by decide) ?_
  refine v_ixor dX3_quietOnTheRight_13 ?_
  refine v_iand dX3_quietOnTheRight_14 ?_
  refine v_istore_n (i := 2) dX3_quietOnTheRight_15 rfl (by decide) (nlT rfl) ?_
  simp only [List.set_cons_zero, List.set_cons_succ]
  refine v_iload_n (i := 1) dX3_quietOnTheRight_16 rfl rfl ?_
  refine v_iload_n (i := 2) dX3_quietOnTheRight_17 rfl rfl ?_
  refine v_iconst (v := 1) dX3_quietOnTheRight_18 (by decide) ?_
  refine v_iushr dX3_quietOnTheRight_19 ?_
  refine v_iand dX3_quietOnTheRight_20 ?_
  refine v_ireturn rfl dX3_quietOnTheRight_21 ?_
  exact ⟨rfl, rfl⟩
def f_X3_topOf (h : Hp) (a : Nat) (x1 : Int32) : Int32 := (if (hi h a 0) ≤ 0 then 0 else (x1 / (hi h a 0)))
set_option maxRecDepth 100000 in
set_option maxHeartbeats 4000000 in
theorem k_X3_topOf (d : Nat) {h : Hp} {a : Nat} {x1 : Int32} (hG : G h) (hs : IsFd a) : Kc mX3_topOf (d) [.ref a, .int x1] h (fun r h' => r = some (.int (f_X3_topOf h a x1)) ∧ h' = h) := by
  obtain ⟨s0, s4⟩ := id hs
  refine Kc.of [some (.ref a), some (.int x1)] ok_X3_topOf rfl (Nat.le_of_ble_eq_true rfl) ?_
  refine v_aload_n (i := 0) dX3_topOf_0 rfl rfl ?_
  refine g_X3_9 rfl (by first | assumption | rfl) (by first | assumption | exact ltG hG (by first | decide | omega)) dX3_topOf_1 ?_
  refine v_if_le 16 dX3_topOf_4 (by decide) (fun c_4 => ?_) (fun c_4 => ?_)
  · refine v_iconst (v := 0) dX3_topOf_16 (by decide) ?_
    refine v_ireturn rfl dX3_topOf_17 ?_
    exact ⟨by first | (simp only [f_X3_topOf, if_pos c_4]; done) | (unfold f_X3_topOf; simp [*]; done), rfl⟩
  · refine v_iload_n (i := 1) dX3_topOf_7 rfl rfl ?_
    refine v_aload_n (i := 0) dX3_topOf_8 rfl rfl ?_
    refine g_X3_9 rfl (by first | assumption | rfl) (by first | assumption | exact ltG hG (by first | decide | omega)) dX3_topOf_9 ?_
    refine v_idiv dX3_topOf_12 (by first | assumption | decide | (intro q; simp_all)) ?_
    refine v_goto 17 dX3_topOf_13 (by decide) ?_
    refine v_ireturn rfl dX3_topOf_17 ?_
    exact ⟨by first | (simp only [f_X3_topOf, if_neg c_4]; done) | (unfold f_X3_topOf; simp [*]; done), rfl⟩
def e_X4_begin (h : Hp) (a : Nat) (x1 : Int32) : Hp := (if x1 < 0 then h else (if 4 ≤ x1 then h else (wrI h (a + 2) (x1).toNatClampNeg (hi h a 3))))
set_option maxRecDepth 100000 in
set_option maxHeartbeats 4000000 in
theorem k_X4_begin (d : Nat) {h : Hp} {a : Nat} {x1 : Int32} (hG : G h) (hs : IsLw a) : Kc mX4_begin (d) [.ref a, .int x1] h (fun r h' => r = none ∧ h' = e_X4_begin h a x1) := by
  obtain ⟨s0, s1, s2, s3, s4, s5, s6, s7⟩ := id hs
  refine Kc.of [some (.ref a), some (.int x1)] ok_X4_begin rfl (Nat.le_of_ble_eq_true rfl) ?_
  refine v_iload_n (i := 1) dX4_begin_0 rfl rfl ?_
  refine v_if_lt 19 dX4_begin_1 (by decide) (fun c_1 => ?_) (fun c_1 => ?_)
  · refine v_return rfl dX4_begin_19 ?_
    exact ⟨rfl, by first | (simp only [e_X4_begin, if_pos c_1]; done) | (unfold e_X4_begin; simp [*]; done)⟩
  · refine v_iload_n (i := 1) dX4_begin_4 rfl rfl ?_
    refine v_iconst (v := 4) dX4_begin_5 (by decide) ?_
    refine v_icmp_ge 19 dX4_begin_6 (by decide) (fun c_6 => ?_) (fun c_6 => ?_)
    · refine v_return rfl dX4_begin_19 ?_
      exact ⟨rfl, by first | (simp only [e_X4_begin, if_neg c_1, if_pos c_6]; done) | (unfold e_X4_begin; simp [*]; done)⟩
    · refine v_aload_n (i := 0) dX4_begin_9 rfl rfl ?_
      refine g_X4_15 (q := (a + 2)) rfl (by first | assumption | rfl) (by first | assumption | exact ltG hG (by first | decide | omega)) (by first | assumption | exact rG hG (by first | rfl | assumption)) dX4_begin_10 ?_
      refine v_iload_n (i := 1) dX4_begin_13 rfl rfl ?_
      refine v_aload_n (i := 0) dX4_begin_14 rfl rfl ?_
      refine g_X4_21 rfl (by first | assumption | rfl) (by first | assumption | exact ltG hG (by first | decide | omega)) dX4_begin_15 ?_
      refine v_iastore (by first | assumption | rfl) (by first | assumption | exact ltG hG (by first | decide | omega)) ⟨by first | assumption | exact vp1 (by decide) (by assumption) (by assumption) | exact vp2 (by decide) (by assumption) (by assumption) | exact vp3 (by decide) (by assumption) (by assumption) | exact vp4 (by decide) (by assumption) (by assumption), rfl⟩ dX4_begin_18 ?_
      refine v_return rfl dX4_begin_19 ?_
      exact ⟨rfl, by first | (simp only [e_X4_begin, if_neg c_1, if_neg c_6]; done) | (unfold e_X4_begin; simp [*]; done)⟩
theorem G_X4_begin {h : Hp} {a : Nat} {x1 : Int32} (hG : G h) : G (e_X4_begin h a x1) := by
  unfold e_X4_begin
  repeat' split
  all_goals (repeat (first | exact hG | apply G_wrI | apply G_wrL | apply G_wrA))
def e_X4_elseHere (h : Hp) (a : Nat) (x1 : Int32) : Hp := (if x1 < 0 then h else (if 404 ≤ x1 then h else (wrI h (a + 1) (x1).toNatClampNeg (hi h a 3))))
set_option maxRecDepth 100000 in
set_option maxHeartbeats 4000000 in
theorem k_X4_elseHere (d : Nat) {h : Hp} {a : Nat} {x1 : Int32} (hG : G h) (hs : IsLw a) : Kc mX4_elseHere (d) [.ref a, .int x1] h (fun r h' => r = none ∧ h' = e_X4_elseHere h a x1) := by
  obtain ⟨s0, s1, s2, s3, s4, s5, s6, s7⟩ := id hs
  refine Kc.of [some (.ref a), some (.int x1)] ok_X4_elseHere rfl (Nat.le_of_ble_eq_true rfl) ?_
  refine v_iload_n (i := 1) dX4_elseHere_0 rfl rfl ?_
  refine v_if_lt 21 dX4_elseHere_1 (by decide) (fun c_1 => ?_) (fun c_1 => ?_)
  · refine v_return rfl dX4_elseHere_21 ?_
    exact ⟨rfl, by first | (simp only [e_X4_elseHere, if_pos c_1]; done) | (unfold e_X4_elseHere; simp [*]; done)⟩
  · refine v_iload_n (i := 1) dX4_elseHere_4 rfl rfl ?_
    refine v_sipush (v := 404) dX4_elseHere_5 (by decide) ?_
    refine v_icmp_ge 21 dX4_elseHere_8 (by decide) (fun c_8 => ?_) (fun c_8 => ?_)
    · refine v_return rfl dX4_elseHere_21 ?_
      exact ⟨rfl, by first | (simp only [e_X4_elseHere, if_neg c_1, if_pos c_8]; done) | (unfold e_X4_elseHere; simp [*]; done)⟩
    · refine v_aload_n (i := 0) dX4_elseHere_11 rfl rfl ?_
      refine g_X4_11 (q := (a + 1)) rfl (by first | assumption | rfl) (by first | assumption | exact ltG hG (by first | decide | omega)) (by first | assumption | exact rG hG (by first | rfl | assumption)) dX4_elseHere_12 ?_
      refine v_iload_n (i := 1) dX4_elseHere_15 rfl rfl ?_
      refine v_aload_n (i := 0) dX4_elseHere_16 rfl rfl ?_
      refine g_X4_21 rfl (by first | assumption | rfl) (by first | assumption | exact ltG hG (by first | decide | omega)) dX4_elseHere_17 ?_
      refine v_iastore (by first | assumption | rfl) (by first | assumption | exact ltG hG (by first | decide | omega)) ⟨by first | assumption | exact vp1 (by decide) (by assumption) (by assumption) | exact vp2 (by decide) (by assumption) (by assumption) | exact vp3 (by decide) (by assumption) (by assumption) | exact vp4 (by decide) (by assumption) (by assumption), rfl⟩ dX4_elseHere_20 ?_
      refine v_return rfl dX4_elseHere_21 ?_
      exact ⟨rfl, by first | (simp only [e_X4_elseHere, if_neg c_1, if_neg c_8]; done) | (unfold e_X4_elseHere; simp [*]; done)⟩
theorem G_X4_elseHere {h : Hp} {a : Nat} {x1 : Int32} (hG : G h) : G (e_X4_elseHere h a x1) := by
  unfold e_X4_elseHere
  repeat' split
  all_goals (repeat (first | exact hG | apply G_wrI | apply G_wrL | apply G_wrA))
def f_X4_reckon (h : Hp) (x1 : Int32) (x2 : Int32) (x3 : Int32) : Int32 := (if x1 = (-13) then (if x3 = 0 then 0 else (x2 / x3)) else (if x1 = (-12) then (x2 * x3) else (if x1 = (-11) then (x2 - x3) else (if x1 = (-10) then (x2 + x3) else 0))))
set_option maxRecDepth 100000 in
set_option maxHeartbeats 4000000 in
theorem k_X4_reckon (d : Nat) {h : Hp} {x1 : Int32} {x2 : Int32} {x3 : Int32} (hG : G h)  : Kc mX4_reckon (d) [.int x1, .int x2, .int x3] h (fun r h' => r = some (.int (f_X4_reckon h x1 x2 x3)) ∧ h' = h) := by
  refine Kc.of [some (.int x1), some (.int x2), some (.int x3)] ok_X4_reckon rfl (Nat.le_of_ble_eq_true rfl) ?_
  refine v_iload_n (i := 0) dX4_reckon_0 rfl rfl ?_
  by_cases c_1_m13 : x1 = (-13)
  · refine v_tableIn (off := 43) 44 dX4_reckon_1 (by rw [c_1_m13]; decide) (by rw [c_1_m13]; decide) (by rw [c_1_m13]; decide +kernel) (by decide) ?_
    refine v_iload_n (i := 2) dX4_reckon_44 rfl rfl ?_
    refine v_if_ne 52 dX4_reckon_45 (by decide) (fun c_45 => ?_) (fun c_45 => ?_)
    · refine v_iload_n (i := 1) dX4_reckon_52 rfl rfl ?_
      refine v_iload_n (i := 2) dX4_reckon_53 rfl rfl ?_
      refine v_idiv dX4_reckon_54 (by first | assumption | decide | (intro q; simp_all)) ?_
      refine v_ireturn rfl dX4_reckon_55 ?_
      exact ⟨by first | (simp only [f_X4_reckon, if_pos c_1_m13, if_neg c_45]; done) | (unfold f_X4_reckon; simp [*]; done), rfl⟩
    · refine v_iconst (v := 0) dX4_reckon_48 (by decide) ?_
      refine v_goto 55 dX4_reckon_49 (by decide) ?_
      refine v_ireturn rfl dX4_reckon_55 ?_
      exact ⟨by first | (simp only [f_X4_reckon, if_pos c_1_m13, if_pos c_45]; done) | (unfold f_X4_reckon; simp [*]; done), rfl⟩
  by_cases c_1_m12 : x1 = (-12)
  · refine v_tableIn (off := 39) 40 dX4_reckon_1 (by rw [c_1_m12]; decide) (by rw [c_1_m12]; decide) (by rw [c_1_m12]; decide +kernel) (by decide) ?_
    refine v_iload_n (i := 1) dX4_reckon_40 rfl rfl ?_
    refine v_iload_n (i := 2) dX4_reckon_41 rfl rfl ?_
    refine v_imul dX4_reckon_42 ?_
    refine v_ireturn rfl dX4_reckon_43 ?_
    exact ⟨by first | (simp only [f_X4_reckon, if_neg c_1_m13, if_pos c_1_m12]; done) | (unfold f_X4_reckon; simp [*]; done), rfl⟩
  by_cases c_1_m11 : x1 = (-11)
  · refine v_tableIn (off := 35) 36 dX4_reckon_1 (by rw [c_1_m11]; decide) (by rw [c_1_m11]; decide) (by rw [c_1_m11]; decide +kernel) (by decide) ?_
    refine v_iload_n (i := 1) dX4_reckon_36 rfl rfl ?_
    refine v_iload_n (i := 2) dX4_reckon_37 rfl rfl ?_
    refine v_isub dX4_reckon_38 ?_
    refine v_ireturn rfl dX4_reckon_39 ?_
    exact ⟨by first | (simp only [f_X4_reckon, if_neg c_1_m13, if_neg c_1_m12, if_pos c_1_m11]; done) | (unfold f_X4_reckon; simp [*]; done), rfl⟩
  by_cases c_1_m10 : x1 = (-10)
  · refine v_tableIn (off := 31) 32 dX4_reckon_1 (by rw [c_1_m10]; decide) (by rw [c_1_m10]; decide) (by rw [c_1_m10]; decide +kernel) (by decide) ?_
    refine v_iload_n (i := 1) dX4_reckon_32 rfl rfl ?_
    refine v_iload_n (i := 2) dX4_reckon_33 rfl rfl ?_
    refine v_iadd dX4_reckon_34 ?_
    refine v_ireturn rfl dX4_reckon_35 ?_
    exact ⟨by first | (simp only [f_X4_reckon, if_neg c_1_m13, if_neg c_1_m12, if_neg c_1_m11, if_pos c_1_m10]; done) | (unfold f_X4_reckon; simp [*]; done), rfl⟩
  have e_1_m13 : ¬ (x1 : Int32).toInt = (-13) := fun q => c_1_m13 (Int32.toInt_inj.mp (q.trans (by decide)))
  have e_1_m12 : ¬ (x1 : Int32).toInt = (-12) := fun q => c_1_m12 (Int32.toInt_inj.mp (q.trans (by decide)))
  have e_1_m11 : ¬ (x1 : Int32).toInt = (-11) := fun q => c_1_m11 (Int32.toInt_inj.mp (q.trans (by decide)))
  have e_1_m10 : ¬ (x1 : Int32).toInt = (-10) := fun q => c_1_m10 (Int32.toInt_inj.mp (q.trans (by decide)))
  refine v_tableOut 56 dX4_reckon_1 (by omega) (by decide) ?_
  refine v_iconst (v := 0) dX4_reckon_56 (by decide) ?_
  refine v_ireturn rfl dX4_reckon_57 ?_
  exact ⟨by first | (simp only [f_X4_reckon, if_neg c_1_m13, if_neg c_1_m12, if_neg c_1_m11, if_neg c_1_m10]; done) | (unfold f_X4_reckon; simp [*]; done), rfl⟩
def f_X5_distance (h : Hp) (x1 : Int32) (x2 : Int32) : Int32 := ((if 0 ≤ ((f_X3_leftOf h 24 x1) - (f_X3_leftOf h 24 x2)) then ((f_X3_leftOf h 24 x1) - (f_X3_leftOf h 24 x2)) else 0 - ((f_X3_leftOf h 24 x1) - (f_X3_leftOf h 24 x2))) + (if 0 ≤ ((f_X3_topOf h 24 x1) - (f_X3_topOf h 24 x2)) then ((f_X3_topOf h 24 x1) - (f_X3_topOf h 24 x2)) else 0 - ((f_X3_topOf h 24 x1) - (f_X3_topOf h 24 x2))))
set_option maxRecDepth 100000 in
set_option maxHeartbeats 4000000 in
theorem k_X5_distance (d : Nat) {h : Hp} {x1 : Int32} {x2 : Int32} (hG : G h)  : Kc mX5_distance (d + 1) [.ref 211, .int x1, .int x2] h (fun r h' => r = some (.int (f_X5_distance h x1 x2)) ∧ h' = h) := by
  refine Kc.of [some (.ref 211), some (.int x1), some (.int x2)] ok_X5_distance rfl (Nat.le_of_ble_eq_true rfl) ?_
  refine v_aload_n (i := 0) dX5_distance_0 rfl rfl ?_
  refine g_X5_22 (q := 24) rfl (by first | assumption | rfl) (by first | assumption | exact ltG hG (by first | decide | omega)) (by first | assumption | exact rG hG (by first | rfl | assumption)) dX5_distance_1 ?_
  refine v_iload_n (i := 1) dX5_distance_4 rfl rfl ?_
  refine c_X5_58 rfl (by first | assumption | rfl) (by first | assumption | exact ltG hG (by first | decide | omega)) (Nat.le_of_ble_eq_true rfl) dX5_distance_5 (k_X3_leftOf _ hG (by first | assumption | exact sc_30 | exact sc_34 | exact sc_10 | exact fd_24 | exact fd_4 | exact lw_25 | exact lw_5 | exact bd_23 | exact bd_3)) (fun r1 h1 hq => ?_)
  obtain ⟨rfl, hq⟩ := hq
  replace hq := hq.symm
  subst hq
  show V _ _ _ _ (_ :: _) _ _
  refine v_aload_n (i := 0) dX5_distance_8 rfl rfl ?_
  refine g_X5_22 (q := 24) rfl (by first | assumption | rfl) (by first | assumption | exact ltG hG (by first | decide | omega)) (by first | assumption | exact rG hG (by first | rfl | assumption)) dX5_distance_9 ?_
  refine v_iload_n (i := 2) dX5_distance_12 rfl rfl ?_
  refine c_X5_58 rfl (by first | assumption | rfl) (by first | assumption | exact ltG hG (by first | decide | omega)) (Nat.le_of_ble_eq_true rfl) dX5_distance_13 (k_X3_leftOf _ hG (by first | assumption | exact sc_30 | exact sc_34 | exact sc_10 | exact fd_24 | exact fd_4 | exact lw_25 | exact lw_5 | exact bd_23 | exact bd_3)) (fun r1 h1 hq => ?_)
  obtain ⟨rfl, hq⟩ := hq
  replace hq := hq.symm
  subst hq
  show V _ _ _ _ (_ :: _) _ _
  refine v_isub dX5_distance_16 ?_
  refine v_abs ml_X5_63 sm_J9_abs_0f7a4 in_J9 cw_J9_abs_0f7a4 (Nat.le_of_ble_eq_true rfl) dX5_distance_17 ?_
  refine v_aload_n (i := 0) dX5_distance_20 rfl rfl ?_
  refine g_X5_22 (q := 24) rfl (by first | assumption | rfl) (by first | assumption | exact ltG hG (by first | decide | omega)) (by first | assumption | exact rG hG (by first | rfl | assumption)) dX5_distance_21 ?_
  refine v_iload_n (i := 1) dX5_distance_24 rfl rfl ?_
  refine c_X5_68 rfl (by first | assumption | rfl) (by first | assumption | exact ltG hG (by first | decide | omega)) (Nat.le_of_ble_eq_true rfl) dX5_distance_25 (k_X3_topOf _ hG (by first | assumption | exact sc_30 | exact sc_34 | exact sc_10 | exact fd_24 | exact fd_4 | exact lw_25 | exact lw_5 | exact bd_23 | exact bd_3)) (fun r1 h1 hq => ?_)
  obtain ⟨rfl, hq⟩ := hq
  replace hq := hq.symm
  subst hq
  show V _ _ _ _ (_ :: _) _ _
  refine v_aload_n (i := 0) dX5_distance_28 rfl rfl ?_
  refine g_X5_22 (q := 24) rfl (by first | assumption | rfl) (by first | assumption | exact ltG hG (by first | decide | omega)) (by first | assumption | exact rG hG (by first | rfl | assumption)) dX5_distance_29 ?_
  refine v_iload_n (i := 2) dX5_distance_32 rfl rfl ?_
  refine c_X5_68 rfl (by first | assumption | rfl) (by first | assumption | exact ltG hG (by first | decide | omega)) (Nat.le_of_ble_eq_true rfl) dX5_distance_33 (k_X3_topOf _ hG (by first | assumption | exact sc_30 | exact sc_34 | exact sc_10 | exact fd_24 | exact fd_4 | exact lw_25 | exact lw_5 | exact bd_23 | exact bd_3)) (fun r1 h1 hq => ?_)
  obtain ⟨rfl, hq⟩ := hq
  replace hq := hq.symm
  subst hq
  show V _ _ _ _ (_ :: _) _ _
  refine v_isub dX5_distance_36 ?_
  refine v_abs ml_X5_63 sm_J9_abs_0f7a4 in_J9 cw_J9_abs_0f7a4 (Nat.le_of_ble_eq_true rfl) dX5_distance_37 ?_
  refine v_iadd dX5_distance_40 ?_
  refine v_ireturn rfl dX5_distance_41 ?_
  exact ⟨rfl, rfl⟩
def e_X6_clear (h : Hp)  : Hp := (wrI h 38 2 0)
set_option maxRecDepth 100000 in
set_option maxHeartbeats 4000000 in
theorem k_X6_clear (d : Nat) {h : Hp}  (hG : G h)  : Kc mX6_clear (d) [.ref 38] h (fun r h' => r = none ∧ h' = e_X6_clear h ) := by
  refine Kc.of [some (.ref 38)] ok_X6_clear rfl (Nat.le_of_ble_eq_true rfl) ?_
  refine v_aload_n (i := 0) dX6_clear_0 rfl rfl ?_
  refine v_iconst (v := 0) dX6_clear_1 (by decide) ?_
  refine p_X6_21 rfl (by first | assumption | rfl) (by first | assumption | exact ltG hG (by first | decide | omega)) dX6_clear_2 ?_
  refine v_return rfl dX6_clear_5 ?_
  exact ⟨rfl, rfl⟩
theorem G_X6_clear {h : Hp}  (hG : G h) : G (e_X6_clear h ) := by
  unfold e_X6_clear
  repeat' split
  all_goals (repeat (first | exact hG | apply G_wrI | apply G_wrL | apply G_wrA))
def f_X8_beatOf (h : Hp) (a : Nat) (x1 : Int32) : Int32 := (if (f_X8_isTuned h a x1) = 0 then 0 else ((vp_nar .byte (hi h (a + 1) (x1).toNatClampNeg)) >>> (3 &&& 31)))
set_option maxRecDepth 100000 in
set_option maxHeartbeats 4000000 in
theorem k_X8_beatOf (d : Nat) {h : Hp} {a : Nat} {x1 : Int32} (hG : G h) (hs : Sc a) : Kc mX8_beatOf (d + 1) [.ref a, .int x1] h (fun r h' => r = some (.int (f_X8_beatOf h a x1)) ∧ h' = h) := by
  obtain ⟨s0, s1, s2, s3, s4, s5, s6, s7⟩ := id hs
  refine Kc.of [some (.ref a), some (.int x1)] ok_X8_beatOf rfl (Nat.le_of_ble_eq_true rfl) ?_
  refine v_aload_n (i := 0) dX8_beatOf_0 rfl rfl ?_
  refine v_iload_n (i := 1) dX8_beatOf_1 rfl rfl ?_
  refine c_X8_47 rfl (by first | assumption | rfl) (by first | assumption | exact ltG hG (by first | decide | omega)) (Nat.le_of_ble_eq_true rfl) dX8_beatOf_2 (k_X8_isTuned _ hG (by first | assumption | exact sc_30 | exact sc_34 | exact sc_10 | exact fd_24 | exact fd_4 | exact lw_25 | exact lw_5 | exact bd_23 | exact bd_3)) (fun r1 h1 hq => ?_)
  obtain ⟨rfl, hq⟩ := hq
  replace hq := hq.symm
  subst hq
  show V _ _ _ _ (_ :: _) _ _
  refine v_if_eq 19 dX8_beatOf_5 (by decide) (fun c_5 => ?_) (fun c_5 => ?_)
  · refine v_iconst (v := 0) dX8_beatOf_19 (by decide) ?_
    refine v_ireturn rfl dX8_beatOf_20 ?_
    exact ⟨by first | (simp only [f_X8_beatOf, if_pos c_5]; done) | (unfold f_X8_beatOf; simp [*]; done), rfl⟩
  · refine v_aload_n (i := 0) dX8_beatOf_8 rfl rfl ?_
    refine g_X8_24 (q := (a + 1)) rfl (by first | assumption | rfl) (by first | assumption | exact ltG hG (by first | decide | omega)) (by first | assumption | exact rG hG (by first | rfl | assumption)) dX8_beatOf_9 ?_
    refine v_iload_n (i := 1) dX8_beatOf_12 rfl rfl ?_
    refine v_baload (by first | assumption | rfl) (by first | assumption | exact ltG hG (by first | decide | omega)) ⟨tuned_in (by assumption), rfl⟩ dX8_beatOf_13 ?_
    refine v_iconst (v := 3) dX8_beatOf_14 (by decide) ?_
    refine v_ishr dX8_beatOf_15 ?_
    refine v_goto 20 dX8_beatOf_16 (by decide) ?_
    refine v_ireturn rfl dX8_beatOf_20 ?_
    exact ⟨by first | (simp only [f_X8_beatOf, if_neg c_5]; done) | (unfold f_X8_beatOf; simp [*]; done), rfl⟩
def e_X8_hush (h : Hp) (a : Nat) (x1 : Int32) : Hp := (wrI h a 3 ((hi h a 3) &&& ((1 <<< (x1 &&& 31)) ^^^ (-1))))
set_option maxRecDepth 100000 in
set_option maxHeartbeats 4000000 in
theorem k_X8_hush (d : Nat) {h : Hp} {a : Nat} {x1 : Int32} (hG : G h) (hs : Sc a) : Kc mX8_hush (d) [.ref a, .int x1] h (fun r h' => r = none ∧ h' = e_X8_hush h a x1) := by
  obtain ⟨s0, s1, s2, s3, s4, s5, s6, s7⟩ := id hs
  refine Kc.of [some (.ref a), some (.int x1)] ok_X8_hush rfl (Nat.le_of_ble_eq_true rfl) ?_
  refine v_aload_n (i := 0) dX8_hush_0 rfl rfl ?_
  refine v_dup dX8_hush_1 rfl ?_
  refine g_X8_21 rfl (by first | assumption | rfl) (by first | assumption | exact ltG hG (by first | decide | omega)) dX8_hush_2 ?_
  refine v_iconst (v := 1) dX8_hush_5 (by decide) ?_
  refine v_iload_n (i := 1) dX8_hush_6 rfl rfl ?_
  refine v_ishl dX8_hush_7 ?_
  refine v_iconst (v := (-1)) dX8_hush_8 (by decide) ?_
  refine v_ixor dX8_hush_9 ?_
  refine v_iand dX8_hush_10 ?_
  refine p_X8_21 rfl (by first | assumption | rfl) (by first | assumption | exact ltG hG (by first | decide | omega)) dX8_hush_11 ?_
  refine v_return rfl dX8_hush_14 ?_
  exact ⟨rfl, rfl⟩
theorem G_X8_hush {h : Hp} {a : Nat} {x1 : Int32} (hG : G h) : G (e_X8_hush h a x1) := by
  unfold e_X8_hush
  repeat' split
  all_goals (repeat (first | exact hG | apply G_wrI | apply G_wrL | apply G_wrA))
def f_X8_isRoped (h : Hp) (a : Nat) (x1 : Int32) : Int32 := (if (((((hi h a 2) : Int32).toUInt32 >>> ((x1 : Int32).toUInt32 &&& Int32.toUInt32 31)).toInt32) &&& 1) = 0 then 0 else 1)
set_option maxRecDepth 100000 in
set_option maxHeartbeats 4000000 in
theorem k_X8_isRoped (d : Nat) {h : Hp} {a : Nat} {x1 : Int32} (hG : G h) (hs : Sc a) : Kc mX8_isRoped (d) [.ref a, .int x1] h (fun r h' => r = some (.int (f_X8_isRoped h a x1)) ∧ h' = h) := by
  obtain ⟨s0, s1, s2, s3, s4, s5, s6, s7⟩ := id hs
  refine Kc.of [some (.ref a), some (.int x1)] ok_X8_isRoped rfl (Nat.le_of_ble_eq_true rfl) ?_
  refine v_aload_n (i := 0) dX8_isRoped_0 rfl rfl ?_
  refine g_X8_18 rfl (by first | assumption | rfl) (by first | assumption | exact ltG hG (by first | decide | omega)) dX8_isRoped_1 ?_
  refine v_iload_n (i := 1) dX8_isRoped_4 rfl rfl ?_
  refine v_iushr dX8_isRoped_5 ?_
  refine v_iconst (v := 1) dX8_isRoped_6 (by decide) ?_
  refine v_iand dX8_isRoped_7 ?_
  refine v_if_eq 15 dX8_isRoped_8 (by decide) (fun c_8 => ?_) (fun c_8 => ?_)
  · refine v_iconst (v := 0) dX8_isRoped_15 (by decide) ?_
    refine v_zreturn rfl (by decide) dX8_isRoped_16 ?_
    exact ⟨by first | (simp only [f_X8_isRoped, if_pos c_8]; done) | (unfold f_X8_isRoped; simp [*]; done), rfl⟩
  · refine v_iconst (v := 1) dX8_isRoped_11 (by decide) ?_
    refine v_goto 16 dX8_isRoped_12 (by decide) ?_
    refine v_zreturn rfl (by decide) dX8_isRoped_16 ?_
    exact ⟨by first | (simp only [f_X8_isRoped, if_neg c_8]; done) | (unfold f_X8_isRoped; simp [*]; done), rfl⟩
theorem z_X8_isRoped {h : Hp} {a : Nat} {x1 : Int32} : f_X8_isRoped h a x1 = 0 ∨ f_X8_isRoped h a x1 = 1 := by
  unfold f_X8_isRoped
  repeat' split
  all_goals first | (simp; done)
def f_X8_offsetOf (h : Hp) (a : Nat) (x1 : Int32) : Int32 := (if (f_X8_isTuned h a x1) = 0 then 0 else ((vp_nar .byte (hi h (a + 1) (x1).toNatClampNeg)) &&& 7))
set_option maxRecDepth 100000 in
set_option maxHeartbeats 4000000 in
theorem k_X8_offsetOf (d : Nat) {h : Hp} {a : Nat} {x1 : Int32} (hG : G h) (hs : Sc a) : Kc mX8_offsetOf (d + 1) [.ref a, .int x1] h (fun r h' => r = some (.int (f_X8_offsetOf h a x1)) ∧ h' = h) := by
  obtain ⟨s0, s1, s2, s3, s4, s5, s6, s7⟩ := id hs
  refine Kc.of [some (.ref a), some (.int x1)] ok_X8_offsetOf rfl (Nat.le_of_ble_eq_true rfl) ?_
  refine v_aload_n (i := 0) dX8_offsetOf_0 rfl rfl ?_
  refine v_iload_n (i := 1) dX8_offsetOf_1 rfl rfl ?_
  refine c_X8_47 rfl (by first | assumption | rfl) (by first | assumption | exact ltG hG (by first | decide | omega)) (Nat.le_of_ble_eq_true rfl) dX8_offsetOf_2 (k_X8_isTuned _ hG (by first | assumption | exact sc_30 | exact sc_34 | exact sc_10 | exact fd_24 | exact fd_4 | exact lw_25 | exact lw_5 | exact bd_23 | exact bd_3)) (fun r1 h1 hq => ?_)
  obtain ⟨rfl, hq⟩ := hq
  replace hq := hq.symm
  subst hq
  show V _ _ _ _ (_ :: _) _ _
  refine v_if_eq 20 dX8_offsetOf_5 (by decide) (fun c_5 => ?_) (fun c_5 => ?_)
  · refine v_iconst (v := 0) dX8_offsetOf_20 (by decide) ?_
    refine v_ireturn rfl dX8_offsetOf_21 ?_
    exact ⟨by first | (simp only [f_X8_offsetOf, if_pos c_5]; done) | (unfold f_X8_offsetOf; simp [*]; done), rfl⟩
  · refine v_aload_n (i := 0) dX8_offsetOf_8 rfl rfl ?_
    refine g_X8_24 (q := (a + 1)) rfl (by first | assumption | rfl) (by first | assumption | exact ltG hG (by first | decide | omega)) (by first | assumption | exact rG hG (by first | rfl | assumption)) dX8_offsetOf_9 ?_
    refine v_iload_n (i := 1) dX8_offsetOf_12 rfl rfl ?_
    refine v_baload (by first | assumption | rfl) (by first | assumption | exact ltG hG (by first | decide | omega)) ⟨tuned_in (by assumption), rfl⟩ dX8_offsetOf_13 ?_
    refine v_bipush (v := 7) dX8_offsetOf_14 (by decide) ?_
    refine v_iand dX8_offsetOf_16 ?_
    refine v_goto 21 dX8_offsetOf_17 (by decide) ?_
    refine v_ireturn rfl dX8_offsetOf_21 ?_
    exact ⟨by first | (simp only [f_X8_offsetOf, if_neg c_5]; done) | (unfold f_X8_offsetOf; simp [*]; done), rfl⟩
def e_X8_soundIn (h : Hp) (a : Nat) (x1 : Int32) (x2 : Int32) (x3 : Int32) : Hp := (if x1 < 0 then h else (if 25 ≤ x1 then h else (wrI (wrI h (a + 1) (x1).toNatClampNeg (((8 * x2) + x3) : Int32).toInt8.toInt32) a 3 ((hi (wrI h (a + 1) (x1).toNatClampNeg (((8 * x2) + x3) : Int32).toInt8.toInt32) a 3) ||| (1 <<< (x1 &&& 31))))))
set_option maxRecDepth 100000 in
set_option maxHeartbeats 4000000 in
theorem k_X8_soundIn (d : Nat) {h : Hp} {a : Nat} {x1 : Int32} {x2 : Int32} {x3 : Int32} (hG : G h) (hs : Sc a) : Kc mX8_soundIn (d) [.ref a, .int x1, .int x2, .int x3] h (fun r h' => r = none ∧ h' = e_X8_soundIn h a x1 x2 x3) := by
  obtain ⟨s0, s1, s2, s3, s4, s5, s6, s7⟩ := id hs
  refine Kc.of [some (.ref a), some (.int x1), some (.int x2), some (.int x3)] ok_X8_soundIn rfl (Nat.le_of_ble_eq_true rfl) ?_
  refine v_iload_n (i := 1) dX8_soundIn_0 rfl rfl ?_
  refine v_if_lt 35 dX8_soundIn_1 (by decide) (fun c_1 => ?_) (fun c_1 => ?_)
  · refine v_return rfl dX8_soundIn_35 ?_
    exact ⟨rfl, by first | (simp only [e_X8_soundIn, if_pos c_1]; done) | (unfold e_X8_soundIn; simp [*]; done)⟩
  · refine v_iload_n (i := 1) dX8_soundIn_4 rfl rfl ?_
    refine v_bipush (v := 25) dX8_soundIn_5 (by decide) ?_
    refine v_icmp_ge 35 dX8_soundIn_7 (by decide) (fun c_7 => ?_) (fun c_7 => ?_)
    · refine v_return rfl dX8_soundIn_35 ?_
      exact ⟨rfl, by first | (simp only [e_X8_soundIn, if_neg c_1, if_pos c_7]; done) | (unfold e_X8_soundIn; simp [*]; done)⟩
    · refine v_aload_n (i := 0) dX8_soundIn_10 rfl rfl ?_
      refine g_X8_24 (q := (a + 1)) rfl (by first | assumption | rfl) (by first | assumption | exact ltG hG (by first | decide | omega)) (by first | assumption | exact rG hG (by first | rfl | assumption)) dX8_soundIn_11 ?_
      refine v_iload_n (i := 1) dX8_soundIn_14 rfl rfl ?_
      refine v_bipush (v := 8) dX8_soundIn_15 (by decide) ?_
      refine v_iload_n (i := 2) dX8_soundIn_17 rfl rfl ?_
      refine v_imul dX8_soundIn_18 ?_
      refine v_iload_n (i := 3) dX8_soundIn_19 rfl rfl ?_
      refine v_iadd dX8_soundIn_20 ?_
      refine v_i2b dX8_soundIn_21 ?_
      refine v_bastore (by first | assumption | rfl) (by first | assumption | exact ltG hG (by first | decide | omega)) ⟨by first | assumption | exact vp1 (by decide) (by assumption) (by assumption) | exact vp2 (by decide) (by assumption) (by assumption) | exact vp3 (by decide) (by assumption) (by assumption) | exact vp4 (by decide) (by assumption) (by assumption), rfl⟩ dX8_soundIn_22 ?_
      refine v_aload_n (i := 0) dX8_soundIn_23 rfl rfl ?_
      refine v_dup dX8_soundIn_24 rfl ?_
      refine g_X8_21 rfl (by first | assumption | rfl) (by first | assumption | exact ltG hG (by first | decide | omega)) dX8_soundIn_25 ?_
      refine v_iconst (v := 1) dX8_soundIn_28 (by decide) ?_
      refine v_iload_n (i := 1) dX8_soundIn_29 rfl rfl ?_
      refine v_ishl dX8_soundIn_30 ?_
      refine v_ior dX8_soundIn_31 ?_
      refine p_X8_21 rfl (by first | assumption | rfl) (by first | assumption | exact ltG hG (by first | decide | omega)) dX8_soundIn_32 ?_
      refine v_return rfl dX8_soundIn_35 ?_
      exact ⟨rfl, by first | (simp only [e_X8_soundIn, if_neg c_1, if_neg c_7]; done) | (unfold e_X8_soundIn; simp [*]; done)⟩
theorem G_X8_soundIn {h : Hp} {a : Nat} {x1 : Int32} {x2 : Int32} {x3 : Int32} (hG : G h) : G (e_X8_soundIn h a x1 x2 x3) := by
  unfold e_X8_soundIn
  repeat' split
  all_goals (repeat (first | exact hG | apply G_wrI | apply G_wrL | apply G_wrA))
def f_X8_soundsAt (h : Hp) (a : Nat) (x1 : Int32) (x2 : Int32) : Int32 := (if (f_X8_beatOf h a x1) ≤ 0 then 0 else (if (x2 - x2 / (f_X8_beatOf h a x1) * (f_X8_beatOf h a x1)) = (f_X8_offsetOf h a x1) then 1 else 0))
set_option maxRecDepth 100000 in
set_option maxHeartbeats 4000000 in
theorem k_X8_soundsAt (d : Nat) {h : Hp} {a : Nat} {x1 : Int32} {x2 : Int32} (hG : G h) (hs : Sc a) : Kc mX8_soundsAt (d + 2) [.ref a, .int x1, .int x2] h (fun r h' => r = some (.int (f_X8_soundsAt h a x1 x2)) ∧ h' = h) := by
  obtain ⟨s0, s1, s2, s3, s4, s5, s6, s7⟩ := id hs
  refine Kc.of [some (.ref a), some (.int x1), some (.int x2), none] ok_X8_soundsAt rfl (Nat.le_of_ble_eq_true rfl) ?_
  refine v_aload_n (i := 0) dX8_soundsAt_0 rfl rfl ?_
  refine v_iload_n (i := 1) dX8_soundsAt_1 rfl rfl ?_
  refine c_X8_51 rfl (by first | assumption | rfl) (by first | assumption | exact ltG hG (by first | decide | omega)) (Nat.le_of_ble_eq_true rfl) dX8_soundsAt_2 (k_X8_beatOf _ hG (by first | assumption | exact sc_30 | exact sc_34 | exact sc_10 | exact fd_24 | exact fd_4 | exact lw_25 | exact lw_5 | exact bd_23 | exact bd_3)) (fun r1 h1 hq => ?_)
  obtain ⟨rfl, hq⟩ := hq
  replace hq := hq.symm
  subst hq
  show V _ _ _ _ (_ :: _) _ _
  refine v_istore_n (i := 3) dX8_soundsAt_5 rfl (by decide) (nlT rfl) ?_
  simp only [List.set_cons_zero, List.set_cons_succ]
  refine v_iload_n (i := 3) dX8_soundsAt_6 rfl rfl ?_
  refine v_if_le 25 dX8_soundsAt_7 (by decide) (fun c_7 => ?_) (fun c_7 => ?_)
  · refine v_iconst (v := 0) dX8_soundsAt_25 (by decide) ?_
    refine v_zreturn rfl (by decide) dX8_soundsAt_26 ?_
    exact ⟨by first | (simp only [f_X8_soundsAt, if_pos c_7]; done) | (unfold f_X8_soundsAt; simp [*]; done), rfl⟩
  · refine v_iload_n (i := 2) dX8_soundsAt_10 rfl rfl ?_
    refine v_iload_n (i := 3) dX8_soundsAt_11 rfl rfl ?_
    refine v_irem dX8_soundsAt_12 (by first | assumption | decide | (intro q; simp_all)) ?_
    refine v_aload_n (i := 0) dX8_soundsAt_13 rfl rfl ?_
    refine v_iload_n (i := 1) dX8_soundsAt_14 rfl rfl ?_
    refine c_X8_55 rfl (by first | assumption | rfl) (by first | assumption | exact ltG hG (by first | decide | omega)) (Nat.le_of_ble_eq_true rfl) dX8_soundsAt_15 (k_X8_offsetOf _ hG (by first | assumption | exact sc_30 | exact sc_34 | exact sc_10 | exact fd_24 | exact fd_4 | exact lw_25 | exact lw_5 | exact bd_23 | exact bd_3)) (fun r1 h1 hq => ?_)
    obtain ⟨rfl, hq⟩ := hq
    replace hq := hq.symm
    subst hq
    show V _ _ _ _ (_ :: _) _ _
    refine v_icmp_ne 25 dX8_soundsAt_18 (by decide) (fun c_18 => ?_) (fun c_18 => ?_)
    · refine v_iconst (v := 0) dX8_soundsAt_25 (by decide) ?_
      refine v_zreturn rfl (by decide) dX8_soundsAt_26 ?_
      exact ⟨by first | (simp only [f_X8_soundsAt, if_neg c_7, if_neg c_18]; done) | (unfold f_X8_soundsAt; simp [*]; done), rfl⟩
    · refine v_iconst (v := 1) dX8_soundsAt_21 (by decide) ?_
      refine v_goto 26 dX8_soundsAt_22 (by decide) ?_
      refine v_zreturn rfl (by decide) dX8_soundsAt_26 ?_
      exact ⟨by first | (simp only [f_X8_soundsAt, if_neg c_7, if_pos c_18]; done) | (unfold f_X8_soundsAt; simp [*]; done), rfl⟩
theorem z_X8_soundsAt {h : Hp} {a : Nat} {x1 : Int32} {x2 : Int32} : f_X8_soundsAt h a x1 x2 = 0 ∨ f_X8_soundsAt h a x1 x2 = 1 := by
  unfold f_X8_soundsAt
  repeat' split
  all_goals first | (simp; done)
def f_X9_isBlank (h : Hp) (x1 : Int32) : Int32 := (if x1 = 9 then 1 else (if x1 = 10 then 1 else (if x1 = 13 then 1 else (if x1 = 32 then 1 else 0))))
set_option maxRecDepth 100000 in
set_option maxHeartbeats 4000000 in
theorem k_X9_isBlank (d : Nat) {h : Hp} {x1 : Int32} (hG : G h)  : Kc mX9_isBlank (d) [.int x1] h (fun r h' => r = some (.int (f_X9_isBlank h x1)) ∧ h' = h) := by
  refine Kc.of [some (.int x1)] ok_X9_isBlank rfl (Nat.le_of_ble_eq_true rfl) ?_
  refine v_iload_n (i := 0) dX9_isBlank_0 rfl rfl ?_
  refine v_bipush (v := 9) dX9_isBlank_1 (by decide) ?_
  refine v_icmp_eq 24 dX9_isBlank_3 (by decide) (fun c_3 => ?_) (fun c_3 => ?_)
  · refine v_iconst (v := 1) dX9_isBlank_24 (by decide) ?_
    refine v_goto 29 dX9_isBlank_25 (by decide) ?_
    refine v_zreturn rfl (by decide) dX9_isBlank_29 ?_
    exact ⟨by first | (simp only [f_X9_isBlank, if_pos c_3]; done) | (unfold f_X9_isBlank; simp [*]; done), rfl⟩
  · refine v_iload_n (i := 0) dX9_isBlank_6 rfl rfl ?_
    refine v_bipush (v := 10) dX9_isBlank_7 (by decide) ?_
    refine v_icmp_eq 24 dX9_isBlank_9 (by decide) (fun c_9 => ?_) (fun c_9 => ?_)
    · refine v_iconst (v := 1) dX9_isBlank_24 (by decide) ?_
      refine v_goto 29 dX9_isBlank_25 (by decide) ?_
      refine v_zreturn rfl (by decide) dX9_isBlank_29 ?_
      exact ⟨by first | (simp only [f_X9_isBlank, if_neg c_3, if_pos c_9]; done) | (unfold f_X9_isBlank; simp [*]; done), rfl⟩
    · refine v_iload_n (i := 0) dX9_isBlank_12 rfl rfl ?_
      refine v_bipush (v := 13) dX9_isBlank_13 (by decide) ?_
      refine v_icmp_eq 24 dX9_isBlank_15 (by decide) (fun c_15 => ?_) (fun c_15 => ?_)
      · refine v_iconst (v := 1) dX9_isBlank_24 (by decide) ?_
        refine v_goto 29 dX9_isBlank_25 (by decide) ?_
        refine v_zreturn rfl (by decide) dX9_isBlank_29 ?_
        exact ⟨by first | (simp only [f_X9_isBlank, if_neg c_3, if_neg c_9, if_pos c_15]; done) | (unfold f_X9_isBlank; simp [*]; done), rfl⟩
      · refine v_iload_n (i := 0) dX9_isBlank_18 rfl rfl ?_
        refine v_bipush (v := 32) dX9_isBlank_19 (by decide) ?_
        refine v_icmp_ne 28 dX9_isBlank_21 (by decide) (fun c_21 => ?_) (fun c_21 => ?_)
        · refine v_iconst (v := 0) dX9_isBlank_28 (by decide) ?_
          refine v_zreturn rfl (by decide) dX9_isBlank_29 ?_
          exact ⟨by first | (simp only [f_X9_isBlank, if_neg c_3, if_neg c_9, if_neg c_15, if_neg c_21]; done) | (unfold f_X9_isBlank; simp [*]; done), rfl⟩
        · refine v_iconst (v := 1) dX9_isBlank_24 (by decide) ?_
          refine v_goto 29 dX9_isBlank_25 (by decide) ?_
          refine v_zreturn rfl (by decide) dX9_isBlank_29 ?_
          exact ⟨by first | (simp only [f_X9_isBlank, if_neg c_3, if_neg c_9, if_neg c_15, if_pos c_21]; done) | (unfold f_X9_isBlank; simp [*]; done), rfl⟩
theorem z_X9_isBlank {h : Hp} {x1 : Int32} : f_X9_isBlank h x1 = 0 ∨ f_X9_isBlank h x1 = 1 := by
  unfold f_X9_isBlank
  repeat' split
  all_goals first | (simp; done)
def f_X9_isDigit (h : Hp) (x1 : Int32) : Int32 := (if x1 < 48 then 0 else (if 57 < x1 then 0 else 1))
set_option maxRecDepth 100000 in
set_option maxHeartbeats 4000000 in
theorem k_X9_isDigit (d : Nat) {h : Hp} {x1 : Int32} (hG : G h)  : Kc mX9_isDigit (d) [.int x1] h (fun r h' => r = some (.int (f_X9_isDigit h x1)) ∧ h' = h) := by
  refine Kc.of [some (.int x1)] ok_X9_isDigit rfl (Nat.le_of_ble_eq_true rfl) ?_
  refine v_iload_n (i := 0) dX9_isDigit_0 rfl rfl ?_
  refine v_bipush (v := 48) dX9_isDigit_1 (by decide) ?_
  refine v_icmp_lt 16 dX9_isDigit_3 (by decide) (fun c_3 => ?_) (fun c_3 => ?_)
  · refine v_iconst (v := 0) dX9_isDigit_16 (by decide) ?_
    refine v_zreturn rfl (by decide) dX9_isDigit_17 ?_
    exact ⟨by first | (simp only [f_X9_isDigit, if_pos c_3]; done) | (unfold f_X9_isDigit; simp [*]; done), rfl⟩
  · refine v_iload_n (i := 0) dX9_isDigit_6 rfl rfl ?_
    refine v_bipush (v := 57) dX9_isDigit_7 (by decide) ?_
    refine v_icmp_gt 16 dX9_isDigit_9 (by decide) (fun c_9 => ?_) (fun c_9 => ?_)
    · refine v_iconst (v := 0) dX9_isDigit_16 (by decide) ?_
      refine v_zreturn rfl (by decide) dX9_isDigit_17 ?_
      exact ⟨by first | (simp only [f_X9_isDigit, if_neg c_3, if_pos c_9]; done) | (unfold f_X9_isDigit; simp [*]; done), rfl⟩
    · refine v_iconst (v := 1) dX9_isDigit_12 (by decide) ?_
      refine v_goto 17 dX9_isDigit_13 (by decide) ?_
      refine v_zreturn rfl (by decide) dX9_isDigit_17 ?_
      exact ⟨by first | (simp only [f_X9_isDigit, if_neg c_3, if_neg c_9]; done) | (unfold f_X9_isDigit; simp [*]; done), rfl⟩
theorem z_X9_isDigit {h : Hp} {x1 : Int32} : f_X9_isDigit h x1 = 0 ∨ f_X9_isDigit h x1 = 1 := by
  unfold f_X9_isDigit
  repeat' split
  all_goals first | (simp; done)
def f_X9_isLetter (h : Hp) (x1 : Int32) : Int32 := (if x1 < 97 then 0 else (if 122 < x1 then 0 else 1))
set_option maxRecDepth 100000 in
set_option maxHeartbeats 4000000 in
theorem k_X9_isLetter (d : Nat) {h : Hp} {x1 : Int32} (hG : G h)  : Kc mX9_isLetter (d) [.int x1] h (fun r h' => r = some (.int (f_X9_isLetter h x1)) ∧ h' = h) := by
  refine Kc.of [some (.int x1)] ok_X9_isLetter rfl (Nat.le_of_ble_eq_true rfl) ?_
  refine v_iload_n (i := 0) dX9_isLetter_0 rfl rfl ?_
  refine v_bipush (v := 97) dX9_isLetter_1 (by decide) ?_
  refine v_icmp_lt 16 dX9_isLetter_3 (by decide) (fun c_3 => ?_) (fun c_3 => ?_)
  · refine v_iconst (v := 0) dX9_isLetter_16 (by decide) ?_
    refine v_zreturn rfl (by decide) dX9_isLetter_17 ?_
    exact ⟨by first | (simp only [f_X9_isLetter, if_pos c_3]; done) | (unfold f_X9_isLetter; simp [*]; done), rfl⟩
  · refine v_iload_n (i := 0) dX9_isLetter_6 rfl rfl ?_
    refine v_bipush (v := 122) dX9_isLetter_7 (by decide) ?_
    refine v_icmp_gt 16 dX9_isLetter_9 (by decide) (fun c_9 => ?_) (fun c_9 => ?_)
    · refine v_iconst (v := 0) dX9_isLetter_16 (by decide) ?_
      refine v_zreturn rfl (by decide) dX9_isLetter_17 ?_
      exact ⟨by first | (simp only [f_X9_isLetter, if_neg c_3, if_pos c_9]; done) | (unfold f_X9_isLetter; simp [*]; done), rfl⟩
    · refine v_iconst (v := 1) dX9_isLetter_12 (by decide) ?_
      refine v_goto 17 dX9_isLetter_13 (by decide) ?_
      refine v_zreturn rfl (by decide) dX9_isLetter_17 ?_
      exact ⟨by first | (simp only [f_X9_isLetter, if_neg c_3, if_neg c_9]; done) | (unfold f_X9_isLetter; simp [*]; done), rfl⟩
theorem z_X9_isLetter {h : Hp} {x1 : Int32} : f_X9_isLetter h x1 = 0 ∨ f_X9_isLetter h x1 = 1 := by
  unfold f_X9_isLetter
  repeat' split
  all_goals first | (simp; done)
def f_X9_withLetter (h : Hp) (x1 : Int64) (x2 : Int32) : Int64 := ((x1 * 32) + (((x2 - 97) + 1) : Int32).toInt64)
set_option maxRecDepth 100000 in
set_option maxHeartbeats 4000000 in
theorem k_X9_withLetter (d : Nat) {h : Hp} {x1 : Int64} {x2 : Int32} (hG : G h)  : Kc mX9_withLetter (d) [.long x1, .int x2] h (fun r h' => r = some (.long (f_X9_withLetter h x1 x2)) ∧ h' = h) := by
  refine Kc.of [some (.long x1), none, some (.int x2)] ok_X9_withLetter rfl (Nat.le_of_ble_eq_true rfl) ?_
  refine v_lload_n (i := 0) dX9_withLetter_0 rfl rfl ?_
  refine v_ldc2 (32) kl_X9_51 dX9_withLetter_1 ?_
  refine v_lmul dX9_withLetter_4 ?_
  refine v_iload_n (i := 2) dX9_withLetter_5 rfl rfl ?_
  refine v_bipush (v := 97) dX9_withLetter_6 (by decide) ?_
  refine v_isub dX9_withLetter_8 ?_
  refine v_iconst (v := 1) dX9_withLetter_9 (by decide) ?_
  refine v_iadd dX9_withLetter_10 ?_
  refine v_i2l dX9_withLetter_11 ?_
  refine v_ladd dX9_withLetter_12 ?_
  refine v_lreturn rfl dX9_withLetter_13 ?_
  exact ⟨rfl, rfl⟩
def f_X0_canSpread (h : Hp) (a : Nat) (b1 : Nat) : Int32 := (if (hi h a 3) ≤ 0 then 0 else (if (f_X3_quietOnTheRight h (a + 1) (hi h b1 3)) = 0 then 0 else (if 8 ≤ (f_J6_bitCount_0f7a4 h (hi h b1 3)) then 0 else 1)))
set_option maxRecDepth 100000 in
set_option maxHeartbeats 4000000 in
theorem k_X0_canSpread (d : Nat) {h : Hp} {a : Nat} {b1 : Nat} (hG : G h) (hs : IsBd a) (ht1_ : Sc b1) : Kc mX0_canSpread (d + 1) [.ref a, .ref b1] h (fun r h' => r = some (.int (f_X0_canSpread h a b1)) ∧ h' = h) := by
  obtain ⟨s0, sF, sL, s3, s4, s5, s6, s7⟩ := id hs
  obtain ⟨sf0, sf4⟩ := id sF
  obtain ⟨t1_0, t1_1, t1_2, t1_3, t1_4, t1_5, t1_6, t1_7⟩ := id ht1_
  refine Kc.of [some (.ref a), some (.ref b1)] ok_X0_canSpread rfl (Nat.le_of_ble_eq_true rfl) ?_
  refine v_aload_n (i := 0) dX0_canSpread_0 rfl rfl ?_
  refine g_X0_29 rfl (by first | assumption | rfl) (by first | assumption | exact ltG hG (by first | decide | omega)) dX0_canSpread_1 ?_
  refine v_if_le 37 dX0_canSpread_4 (by decide) (fun c_4 => ?_) (fun c_4 => ?_)
  · refine v_iconst (v := 0) dX0_canSpread_37 (by decide) ?_
    refine v_zreturn rfl (by decide) dX0_canSpread_38 ?_
    exact ⟨by first | (simp only [f_X0_canSpread, if_pos c_4]; done) | (unfold f_X0_canSpread; simp [*]; done), rfl⟩
  · refine v_aload_n (i := 0) dX0_canSpread_7 rfl rfl ?_
    refine g_X0_12 (q := (a + 1)) rfl (by first | assumption | rfl) (by first | assumption | exact ltG hG (by first | decide | omega)) (by first | assumption | exact rG hG (by first | rfl | assumption)) dX0_canSpread_8 ?_
    refine v_aload_n (i := 1) dX0_canSpread_11 rfl rfl ?_
    refine g_X0_74 rfl (by first | assumption | rfl) (by first | assumption | exact ltG hG (by first | decide | omega)) dX0_canSpread_12 ?_
    refine c_X0_135 rfl (by first | assumption | rfl) (by first | assumption | exact ltG hG (by first | decide | omega)) (Nat.le_of_ble_eq_true rfl) dX0_canSpread_15 (k_X3_quietOnTheRight _ hG (by first | assumption | exact sc_30 | exact sc_34 | exact sc_10 | exact fd_24 | exact fd_4 | exact lw_25 | exact lw_5 | exact bd_23 | exact bd_3)) (fun r1 h1 hq => ?_)
    obtain ⟨rfl, hq⟩ := hq
    replace hq := hq.symm
    subst hq
    show V _ _ _ _ (_ :: _) _ _
    refine v_if_eq 37 dX0_canSpread_18 (by decide) (fun c_18 => ?_) (fun c_18 => ?_)
    · refine v_iconst (v := 0) dX0_canSpread_37 (by decide) ?_
      refine v_zreturn rfl (by decide) dX0_canSpread_38 ?_
      exact ⟨by first | (simp only [f_X0_canSpread, if_neg c_4, if_pos c_18]; done) | (unfold f_X0_canSpread; simp [*]; done), rfl⟩
    · refine v_aload_n (i := 1) dX0_canSpread_21 rfl rfl ?_
      refine g_X0_74 rfl (by first | assumption | rfl) (by first | assumption | exact ltG hG (by first | decide | omega)) dX0_canSpread_22 ?_
      refine c_X0_77 rfl (Nat.le_of_ble_eq_true rfl) dX0_canSpread_25 (k_J6_bitCount_0f7a4 _ hG) (fun r1 h1 hq => ?_)
      obtain ⟨rfl, hq⟩ := hq
      replace hq := hq.symm
      subst hq
      show V _ _ _ _ (_ :: _) _ _
      refine v_bipush (v := 8) dX0_canSpread_28 (by decide) ?_
      refine v_icmp_ge 37 dX0_canSpread_30 (by decide) (fun c_30 => ?_) (fun c_30 => ?_)
      · refine v_iconst (v := 0) dX0_canSpread_37 (by decide) ?_
        refine v_zreturn rfl (by decide) dX0_canSpread_38 ?_
        exact ⟨by first | (simp only [f_X0_canSpread, if_neg c_4, if_neg c_18, if_pos c_30]; done) | (unfold f_X0_canSpread; simp [*]; done), rfl⟩
      · refine v_iconst (v := 1) dX0_canSpread_33 (by decide) ?_
        refine v_goto 38 dX0_canSpread_34 (by decide) ?_
        refine v_zreturn rfl (by decide) dX0_canSpread_38 ?_
        exact ⟨by first | (simp only [f_X0_canSpread, if_neg c_4, if_neg c_18, if_neg c_30]; done) | (unfold f_X0_canSpread; simp [*]; done), rfl⟩
theorem z_X0_canSpread {h : Hp} {a : Nat} {b1 : Nat} : f_X0_canSpread h a b1 = 0 ∨ f_X0_canSpread h a b1 = 1 := by
  unfold f_X0_canSpread
  repeat' split
  all_goals first | (simp; done)
def f_X0_lot (h : Hp) (x1 : Int32) (x2 : Int32) (x3 : Int32) : Int32 := (if x1 ≤ 0 then 0 else (((((f_X0_stirred h (f_X0_stirred h x2 197) x3) : Int32).toUInt32 >>> ((1 : Int32).toUInt32 &&& Int32.toUInt32 31)).toInt32) - ((((f_X0_stirred h (f_X0_stirred h x2 197) x3) : Int32).toUInt32 >>> ((1 : Int32).toUInt32 &&& Int32.toUInt32 31)).toInt32) / x1 * x1))
set_option maxRecDepth 100000 in
set_option maxHeartbeats 4000000 in
theorem k_X0_lot (d : Nat) {h : Hp} {x1 : Int32} {x2 : Int32} {x3 : Int32} (hG : G h)  : Kc mX0_lot (d + 1) [.int x1, .int x2, .int x3] h (fun r h' => r = some (.int (f_X0_lot h x1 x2 x3)) ∧ h' = h) := by
  refine Kc.of [some (.int x1), some (.int x2), some (.int x3), none] ok_X0_lot rfl (Nat.le_of_ble_eq_true rfl) ?_
  refine v_iload_n (i := 1) dX0_lot_0 rfl rfl ?_
  refine v_sipush (v := 197) dX0_lot_1 (by decide) ?_
  refine c_X0_153 rfl (Nat.le_of_ble_eq_true rfl) dX0_lot_4 (k_X0_stirred _ hG) (fun r1 h1 hq => ?_)
  obtain ⟨rfl, hq⟩ := hq
  replace hq := hq.symm
  subst hq
  show V _ _ _ _ (_ :: _) _ _
  refine v_iload_n (i := 2) dX0_lot_7 rfl rfl ?_
  refine c_X0_153 rfl (Nat.le_of_ble_eq_true rfl) dX0_lot_8 (k_X0_stirred _ hG) (fun r1 h1 hq => ?_)
  obtain ⟨rfl, hq⟩ := hq
  replace hq := hq.symm
  subst hq
  show V _ _ _ _ (_ :: _) _ _
  refine v_istore_n (i := 3) dX0_lot_11 rfl (by decide) (nlT rfl) ?_
  simp only [List.set_cons_zero, List.set_cons_succ]
  refine v_iload_n (i := 0) dX0_lot_12 rfl rfl ?_
  refine v_if_le 24 dX0_lot_13 (by decide) (fun c_13 => ?_) (fun c_13 => ?_)
  · refine v_iconst (v := 0) dX0_lot_24 (by decide) ?_
    refine v_ireturn rfl dX0_lot_25 ?_
    exact ⟨by first | (simp only [f_X0_lot, if_pos c_13]; done) | (unfold f_X0_lot; simp [*]; done), rfl⟩
  · refine v_iload_n (i := 3) dX0_lot_16 rfl rfl ?_
    refine v_iconst (v := 1) dX0_lot_17 (by decide) ?_
    refine v_iushr dX0_lot_18 ?_
    refine v_iload_n (i := 0) dX0_lot_19 rfl rfl ?_
    refine v_irem dX0_lot_20 (by first | assumption | decide | (intro q; simp_all)) ?_
    refine v_goto 25 dX0_lot_21 (by decide) ?_
    refine v_ireturn rfl dX0_lot_25 ?_
    exact ⟨by first | (simp only [f_X0_lot, if_neg c_13]; done) | (unfold f_X0_lot; simp [*]; done), rfl⟩
def f_X11_forget (h : Hp)  : Int32 := (hi h 201 2)
def e_X11_forget (h : Hp)  : Hp := (e_X2_clear h )
set_option maxRecDepth 100000 in
set_option maxHeartbeats 4000000 in
theorem k_X11_forget (d : Nat) {h : Hp}  (hG : G h)  : Kc mX11_forget (d + 1) [.ref 0] h (fun r h' => r = some (.int (f_X11_forget h )) ∧ h' = e_X11_forget h ) := by
  refine Kc.of [some (.ref 0), none] ok_X11_forget rfl (Nat.le_of_ble_eq_true rfl) ?_
  refine v_aload_n (i := 0) dX11_forget_0 rfl rfl ?_
  refine g_X11_68 (q := 201) rfl (by first | assumption | rfl) (by first | assumption | exact ltG hG (by first | decide | omega)) (by first | assumption | exact rG hG (by first | rfl | assumption)) dX11_forget_1 ?_
  refine g_X11_195 rfl (by first | assumption | rfl) (by first | assumption | exact ltG hG (by first | decide | omega)) dX11_forget_4 ?_
  refine v_istore_n (i := 1) dX11_forget_7 rfl (by decide) (nlT rfl) ?_
  simp only [List.set_cons_zero, List.set_cons_succ]
  refine v_aload_n (i := 0) dX11_forget_8 rfl rfl ?_
  refine g_X11_68 (q := 201) rfl (by first | assumption | rfl) (by first | assumption | exact ltG hG (by first | decide | omega)) (by first | assumption | exact rG hG (by first | rfl | assumption)) dX11_forget_9 ?_
  refine c_X11_123 rfl (by first | assumption | rfl) (by first | assumption | exact ltG hG (by first | decide | omega)) (Nat.le_of_ble_eq_true rfl) dX11_forget_12 (k_X2_clear _ hG) (fun r1 h1 hq => ?_)
  obtain ⟨rfl, hq⟩ := hq
  replace hq := hq.symm
  subst hq
  simp only [Option.toList, List.nil_append]
  have hG : G (e_X2_clear h ) := G_X2_clear hG
  refine v_iload_n (i := 1) dX11_forget_15 rfl rfl ?_
  refine v_ireturn rfl dX11_forget_16 ?_
  exact ⟨rfl, rfl⟩
theorem G_X11_forget {h : Hp}  (hG : G h) : G (e_X11_forget h ) := by
  unfold e_X11_forget
  repeat' split
  all_goals (repeat (first | with_reducible apply G_X2_clear | exact hG | apply G_wrI | apply G_wrL | apply G_wrA))
def f_X11_isFree (h : Hp) (x1 : Int32) : Int32 := (if (f_X3_has h 24 x1) = 0 then 0 else (if (f_X8_isRoped h 30 x1) = 0 then 1 else 0))
set_option maxRecDepth 100000 in
set_option maxHeartbeats 4000000 in
theorem k_X11_isFree (d : Nat) {h : Hp} {x1 : Int32} (hG : G h)  : Kc mX11_isFree (d + 1) [.ref 0, .int x1] h (fun r h' => r = some (.int (f_X11_isFree h x1)) ∧ h' = h) := by
  refine Kc.of [some (.ref 0), some (.int x1)] ok_X11_isFree rfl (Nat.le_of_ble_eq_true rfl) ?_
  refine v_aload_n (i := 0) dX11_isFree_0 rfl rfl ?_
  refine g_X11_40 (q := 24) rfl (by first | assumption | rfl) (by first | assumption | exact ltG hG (by first | decide | omega)) (by first | assumption | exact rG hG (by first | rfl | assumption)) dX11_isFree_1 ?_
  refine v_iload_n (i := 1) dX11_isFree_4 rfl rfl ?_
  refine c_X11_124 rfl (by first | assumption | rfl) (by first | assumption | exact ltG hG (by first | decide | omega)) (Nat.le_of_ble_eq_true rfl) dX11_isFree_5 (k_X3_has _ hG (by first | assumption | exact sc_30 | exact sc_34 | exact sc_10 | exact fd_24 | exact fd_4 | exact lw_25 | exact lw_5 | exact bd_23 | exact bd_3)) (fun r1 h1 hq => ?_)
  obtain ⟨rfl, hq⟩ := hq
  replace hq := hq.symm
  subst hq
  show V _ _ _ _ (_ :: _) _ _
  refine v_if_eq 26 dX11_isFree_8 (by decide) (fun c_8 => ?_) (fun c_8 => ?_)
  · refine v_iconst (v := 0) dX11_isFree_26 (by decide) ?_
    refine v_zreturn rfl (by decide) dX11_isFree_27 ?_
    exact ⟨by first | (simp only [f_X11_isFree, if_pos c_8]; done) | (unfold f_X11_isFree; simp [*]; done), rfl⟩
  · refine v_aload_n (i := 0) dX11_isFree_11 rfl rfl ?_
    refine g_X11_44 (q := 30) rfl (by first | assumption | rfl) (by first | assumption | exact ltG hG (by first | decide | omega)) (by first | assumption | exact rG hG (by first | rfl | assumption)) dX11_isFree_12 ?_
    refine v_iload_n (i := 1) dX11_isFree_15 rfl rfl ?_
    refine c_X11_146 rfl (by first | assumption | rfl) (by first | assumption | exact ltG hG (by first | decide | omega)) (Nat.le_of_ble_eq_true rfl) dX11_isFree_16 (k_X8_isRoped _ hG (by first | assumption | exact sc_30 | exact sc_34 | exact sc_10 | exact fd_24 | exact fd_4 | exact lw_25 | exact lw_5 | exact bd_23 | exact bd_3)) (fun r1 h1 hq => ?_)
    obtain ⟨rfl, hq⟩ := hq
    replace hq := hq.symm
    subst hq
    show V _ _ _ _ (_ :: _) _ _
    refine v_if_ne 26 dX11_isFree_19 (by decide) (fun c_19 => ?_) (fun c_19 => ?_)
    · refine v_iconst (v := 0) dX11_isFree_26 (by decide) ?_
      refine v_zreturn rfl (by decide) dX11_isFree_27 ?_
      exact ⟨by first | (simp only [f_X11_isFree, if_neg c_8, if_neg c_19]; done) | (unfold f_X11_isFree; simp [*]; done), rfl⟩
    · refine v_iconst (v := 1) dX11_isFree_22 (by decide) ?_
      refine v_goto 27 dX11_isFree_23 (by decide) ?_
      refine v_zreturn rfl (by decide) dX11_isFree_27 ?_
      exact ⟨by first | (simp only [f_X11_isFree, if_neg c_8, if_pos c_19]; done) | (unfold f_X11_isFree; simp [*]; done), rfl⟩
theorem z_X11_isFree {h : Hp} {x1 : Int32} : f_X11_isFree h x1 = 0 ∨ f_X11_isFree h x1 = 1 := by
  unfold f_X11_isFree
  repeat' split
  all_goals first | (simp; done) | exact z_X3_has | exact z_X8_isRoped
def f_X12_areFree (h : Hp) (v : Nat) (x1 : Int32) (x2 : Int32) : Int32 := (if (f_X12_isCell h v x1) = 0 then 0 else (if (f_X12_isCell h v x2) = 0 then 0 else (if (((hi h 262 50) >>> (x1 &&& 31)) &&& 1) = 0 then (if (((hi h 262 50) >>> (x2 &&& 31)) &&& 1) = 0 then 1 else 0) else 0)))
set_option maxRecDepth 100000 in
set_option maxHeartbeats 4000000 in
theorem k_X12_areFree (d : Nat) {h : Hp} {v : Nat} {x1 : Int32} {x2 : Int32} (hG : G h)  (hv : ix (hi h 226 18) 2 v) : Kc mX12_areFree (d + 2) [.ref 226, .int x1, .int x2] h (fun r h' => r = some (.int (f_X12_areFree h v x1 x2)) ∧ h' = h) := by
  refine Kc.of [some (.ref 226), some (.int x1), some (.int x2)] ok_X12_areFree rfl (Nat.le_of_ble_eq_true rfl) ?_
  refine v_aload_n (i := 0) dX12_areFree_0 rfl rfl ?_
  refine v_iload_n (i := 1) dX12_areFree_1 rfl rfl ?_
  refine c_X12_403 rfl (by first | assumption | rfl) (by first | assumption | exact ltG hG (by first | decide | omega)) (Nat.le_of_ble_eq_true rfl) dX12_areFree_2 (k_X12_isCell _ hG hv) (fun r1 h1 hq => ?_)
  obtain ⟨rfl, hq⟩ := hq
  replace hq := hq.symm
  subst hq
  show V _ _ _ _ (_ :: _) _ _
  refine v_if_eq 48 dX12_areFree_5 (by decide) (fun c_5 => ?_) (fun c_5 => ?_)
  · refine v_iconst (v := 0) dX12_areFree_48 (by decide) ?_
    refine v_zreturn rfl (by decide) dX12_areFree_49 ?_
    exact ⟨by first | (simp only [f_X12_areFree, if_pos c_5]; done) | (unfold f_X12_areFree; simp [*]; done), rfl⟩
  · refine v_aload_n (i := 0) dX12_areFree_8 rfl rfl ?_
    refine v_iload_n (i := 2) dX12_areFree_9 rfl rfl ?_
    refine c_X12_403 rfl (by first | assumption | rfl) (by first | assumption | exact ltG hG (by first | decide | omega)) (Nat.le_of_ble_eq_true rfl) dX12_areFree_10 (k_X12_isCell _ hG hv) (fun r1 h1 hq => ?_)
    obtain ⟨rfl, hq⟩ := hq
    replace hq := hq.symm
    subst hq
    show V _ _ _ _ (_ :: _) _ _
    refine v_if_eq 48 dX12_areFree_13 (by decide) (fun c_13 => ?_) (fun c_13 => ?_)
    · refine v_iconst (v := 0) dX12_areFree_48 (by decide) ?_
      refine v_zreturn rfl (by decide) dX12_areFree_49 ?_
      exact ⟨by first | (simp only [f_X12_areFree, if_neg c_5, if_pos c_13]; done) | (unfold f_X12_areFree; simp [*]; done), rfl⟩
    · refine v_aload_n (i := 0) dX12_areFree_16 rfl rfl ?_
      refine g_X12_125 (q := 262) rfl (by first | assumption | rfl) (by first | assumption | exact ltG hG (by first | decide | omega)) (by first | assumption | exact rG hG (by first | rfl | assumption)) dX12_areFree_17 ?_
      refine v_bipush (v := 50) dX12_areFree_20 (by decide) ?_
      refine v_iaload (by first | assumption | rfl) (by first | assumption | exact ltG hG (by first | decide | omega)) (ixK 50 (by decide)) dX12_areFree_22 ?_
      refine v_iload_n (i := 1) dX12_areFree_23 rfl rfl ?_
      refine v_ishr dX12_areFree_24 ?_
      refine v_iconst (v := 1) dX12_areFree_25 (by decide) ?_
      refine v_iand dX12_areFree_26 ?_
      refine v_if_ne 48 dX12_areFree_27 (by decide) (fun c_27 => ?_) (fun c_27 => ?_)
      · refine v_iconst (v := 0) dX12_areFree_48 (by decide) ?_
        refine v_zreturn rfl (by decide) dX12_areFree_49 ?_
        exact ⟨by first | (simp only [f_X12_areFree, if_neg c_5, if_neg c_13, if_neg c_27]; done) | (unfold f_X12_areFree; simp [*]; done), rfl⟩
      · refine v_aload_n (i := 0) dX12_areFree_30 rfl rfl ?_
        refine g_X12_125 (q := 262) rfl (by first | assumption | rfl) (by first | assumption | exact ltG hG (by first | decide | omega)) (by first | assumption | exact rG hG (by first | rfl | assumption)) dX12_areFree_31 ?_
        refine v_bipush (v := 50) dX12_areFree_34 (by decide) ?_
        refine v_iaload (by first | assumption | rfl) (by first | assumption | exact ltG hG (by first | decide | omega)) (ixK 50 (by decide)) dX12_areFree_36 ?_
        refine v_iload_n (i := 2) dX12_areFree_37 rfl rfl ?_
        refine v_ishr dX12_areFree_38 ?_
        refine v_iconst (v := 1) dX12_areFree_39 (by decide) ?_
        refine v_iand dX12_areFree_40 ?_
        refine v_if_ne 48 dX12_areFree_41 (by decide) (fun c_41 => ?_) (fun c_41 => ?_)
        · refine v_iconst (v := 0) dX12_areFree_48 (by decide) ?_
          refine v_zreturn rfl (by decide) dX12_areFree_49 ?_
          exact ⟨by first | (simp only [f_X12_areFree, if_neg c_5, if_neg c_13, if_pos c_27, if_neg c_41]; done) | (unfold f_X12_areFree; simp [*]; done), rfl⟩
        · refine v_iconst (v := 1) dX12_areFree_44 (by decide) ?_
          refine v_goto 49 dX12_areFree_45 (by decide) ?_
          refine v_zreturn rfl (by decide) dX12_areFree_49 ?_
          exact ⟨by first | (simp only [f_X12_areFree, if_neg c_5, if_neg c_13, if_pos c_27, if_pos c_41]; done) | (unfold f_X12_areFree; simp [*]; done), rfl⟩
theorem z_X12_areFree {h : Hp} {v : Nat} {x1 : Int32} {x2 : Int32} : f_X12_areFree h v x1 x2 = 0 ∨ f_X12_areFree h v x1 x2 = 1 := by
  unfold f_X12_areFree
  repeat' split
  all_goals first | (simp; done) | exact z_X12_isCell
def f_X12_isOther (h : Hp) (x1 : Int32) (x2 : Int32) (x3 : Int32) : Int32 := (if x1 = x2 then 0 else (if x1 = x3 then 0 else (if (f_X12_isRoped h x1) = 0 then 1 else 0)))
set_option maxRecDepth 100000 in
set_option maxHeartbeats 4000000 in
theorem k_X12_isOther (d : Nat) {h : Hp} {x1 : Int32} {x2 : Int32} {x3 : Int32} (hG : G h)  : Kc mX12_isOther (d + 1) [.ref 226, .int x1, .int x2, .int x3] h (fun r h' => r = some (.int (f_X12_isOther h x1 x2 x3)) ∧ h' = h) := by
  refine Kc.of [some (.ref 226), some (.int x1), some (.int x2), some (.int x3)] ok_X12_isOther rfl (Nat.le_of_ble_eq_true rfl) ?_
  refine v_iload_n (i := 1) dX12_isOther_0 rfl rfl ?_
  refine v_iload_n (i := 2) dX12_isOther_1 rfl rfl ?_
  refine v_icmp_eq 22 dX12_isOther_2 (by decide) (fun c_2 => ?_) (fun c_2 => ?_)
  · refine v_iconst (v := 0) dX12_isOther_22 (by decide) ?_
    refine v_zreturn rfl (by decide) dX12_isOther_23 ?_
    exact ⟨by first | (simp only [f_X12_isOther, if_pos c_2]; done) | (unfold f_X12_isOther; simp [*]; done), rfl⟩
  · refine v_iload_n (i := 1) dX12_isOther_5 rfl rfl ?_
    refine v_iload_n (i := 3) dX12_isOther_6 rfl rfl ?_
    refine v_icmp_eq 22 dX12_isOther_7 (by decide) (fun c_7 => ?_) (fun c_7 => ?_)
    · refine v_iconst (v := 0) dX12_isOther_22 (by decide) ?_
      refine v_zreturn rfl (by decide) dX12_isOther_23 ?_
      exact ⟨by first | (simp only [f_X12_isOther, if_neg c_2, if_pos c_7]; done) | (unfold f_X12_isOther; simp [*]; done), rfl⟩
    · refine v_aload_n (i := 0) dX12_isOther_10 rfl rfl ?_
      refine v_iload_n (i := 1) dX12_isOther_11 rfl rfl ?_
      refine c_X12_372 rfl (by first | assumption | rfl) (by first | assumption | exact ltG hG (by first | decide | omega)) (Nat.le_of_ble_eq_true rfl) dX12_isOther_12 (k_X12_isRoped _ hG) (fun r1 h1 hq => ?_)
      obtain ⟨rfl, hq⟩ := hq
      replace hq := hq.symm
      subst hq
      show V _ _ _ _ (_ :: _) _ _
      refine v_if_ne 22 dX12_isOther_15 (by decide) (fun c_15 => ?_) (fun c_15 => ?_)
      · refine v_iconst (v := 0) dX12_isOther_22 (by decide) ?_
        refine v_zreturn rfl (by decide) dX12_isOther_23 ?_
        exact ⟨by first | (simp only [f_X12_isOther, if_neg c_2, if_neg c_7, if_neg c_15]; done) | (unfold f_X12_isOther; simp [*]; done), rfl⟩
      · refine v_iconst (v := 1) dX12_isOther_18 (by decide) ?_
        refine v_goto 23 dX12_isOther_19 (by decide) ?_
        refine v_zreturn rfl (by decide) dX12_isOther_23 ?_
        exact ⟨by first | (simp only [f_X12_isOther, if_neg c_2, if_neg c_7, if_pos c_15]; done) | (unfold f_X12_isOther; simp [*]; done), rfl⟩
theorem z_X12_isOther {h : Hp} {x1 : Int32} {x2 : Int32} {x3 : Int32} : f_X12_isOther h x1 x2 x3 = 0 ∨ f_X12_isOther h x1 x2 x3 = 1 := by
  unfold f_X12_isOther
  repeat' split
  all_goals first | (simp; done) | exact z_X12_isRoped
def f_X12_lotOf (h : Hp) (x1 : Int32) : Int32 := (((((f_X12_mixed h (f_X12_mixed h (hi h 226 55) 197) x1) : Int32).toUInt32 >>> ((1 : Int32).toUInt32 &&& Int32.toUInt32 31)).toInt32) - ((((f_X12_mixed h (f_X12_mixed h (hi h 226 55) 197) x1) : Int32).toUInt32 >>> ((1 : Int32).toUInt32 &&& Int32.toUInt32 31)).toInt32) / 100 * 100)
set_option maxRecDepth 100000 in
set_option maxHeartbeats 4000000 in
theorem k_X12_lotOf (d : Nat) {h : Hp} {x1 : Int32} (hG : G h)  : Kc mX12_lotOf (d + 1) [.ref 226, .int x1] h (fun r h' => r = some (.int (f_X12_lotOf h x1)) ∧ h' = h) := by
  refine Kc.of [some (.ref 226), some (.int x1)] ok_X12_lotOf rfl (Nat.le_of_ble_eq_true rfl) ?_
  refine v_aload_n (i := 0) dX12_lotOf_0 rfl rfl ?_
  refine g_X12_337 rfl (by first | assumption | rfl) (by first | assumption | exact ltG hG (by first | decide | omega)) dX12_lotOf_1 ?_
  refine v_sipush (v := 197) dX12_lotOf_4 (by decide) ?_
  refine c_X12_350 rfl (Nat.le_of_ble_eq_true rfl) dX12_lotOf_7 (k_X12_mixed _ hG) (fun r1 h1 hq => ?_)
  obtain ⟨rfl, hq⟩ := hq
  replace hq := hq.symm
  subst hq
  show V _ _ _ _ (_ :: _) _ _
  refine v_iload_n (i := 1) dX12_lotOf_10 rfl rfl ?_
  refine c_X12_350 rfl (Nat.le_of_ble_eq_true rfl) dX12_lotOf_11 (k_X12_mixed _ hG) (fun r1 h1 hq => ?_)
  obtain ⟨rfl, hq⟩ := hq
  replace hq := hq.symm
  subst hq
  show V _ _ _ _ (_ :: _) _ _
  refine v_iconst (v := 1) dX12_lotOf_14 (by decide) ?_
  refine v_iushr dX12_lotOf_15 ?_
  refine v_bipush (v := 100) dX12_lotOf_16 (by decide) ?_
  refine v_irem dX12_lotOf_18 (by first | assumption | decide | (intro q; simp_all)) ?_
  refine v_ireturn rfl dX12_lotOf_19 ?_
  exact ⟨rfl, rfl⟩
def f_X3_beside (h : Hp) (a : Nat) (x1 : Int32) (x2 : Int32) : Int32 := (if x2 = 1 then (if (hi h a 0) ≤ ((f_X3_leftOf h a x1) + 1) then x1 else (x1 + 1)) else (if x2 = 2 then (if (hi h a 1) ≤ ((f_X3_topOf h a x1) + 1) then x1 else (x1 + (hi h a 0))) else (if x2 = 3 then (if (f_X3_leftOf h a x1) ≤ 0 then x1 else (x1 - 1)) else (if x2 = 4 then (if (f_X3_topOf h a x1) ≤ 0 then x1 else (x1 - (hi h a 0))) else x1))))
set_option maxRecDepth 100000 in
set_option maxHeartbeats 4000000 in
theorem k_X3_beside (d : Nat) {h : Hp} {a : Nat} {x1 : Int32} {x2 : Int32} (hG : G h) (hs : IsFd a) : Kc mX3_beside (d + 1) [.ref a, .int x1, .int x2] h (fun r h' => r = some (.int (f_X3_beside h a x1 x2)) ∧ h' = h) := by
  obtain ⟨s0, s4⟩ := id hs
  refine Kc.of [some (.ref a), some (.int x1), some (.int x2), none, none] ok_X3_beside rfl (Nat.le_of_ble_eq_true rfl) ?_
  refine v_aload_n (i := 0) dX3_beside_0 rfl rfl ?_
  refine v_iload_n (i := 1) dX3_beside_1 rfl rfl ?_
  refine c_X3_24 rfl (by first | assumption | rfl) (by first | assumption | exact ltG hG (by first | decide | omega)) (Nat.le_of_ble_eq_true rfl) dX3_beside_2 (k_X3_leftOf _ hG (by first | assumption | exact sc_30 | exact sc_34 | exact sc_10 | exact fd_24 | exact fd_4 | exact lw_25 | exact lw_5 | exact bd_23 | exact bd_3)) (fun r1 h1 hq => ?_)
  obtain ⟨rfl, hq⟩ := hq
  replace hq := hq.symm
  subst hq
  show V _ _ _ _ (_ :: _) _ _
  refine v_istore_n (i := 3) dX3_beside_5 rfl (by decide) (nlT rfl) ?_
  simp only [List.set_cons_zero, List.set_cons_succ]
  refine v_aload_n (i := 0) dX3_beside_6 rfl rfl ?_
  refine v_iload_n (i := 1) dX3_beside_7 rfl rfl ?_
  refine c_X3_28 rfl (by first | assumption | rfl) (by first | assumption | exact ltG hG (by first | decide | omega)) (Nat.le_of_ble_eq_true rfl) dX3_beside_8 (k_X3_topOf _ hG (by first | assumption | exact sc_30 | exact sc_34 | exact sc_10 | exact fd_24 | exact fd_4 | exact lw_25 | exact lw_5 | exact bd_23 | exact bd_3)) (fun r1 h1 hq => ?_)
  obtain ⟨rfl, hq⟩ := hq
  replace hq := hq.symm
  subst hq
  show V _ _ _ _ (_ :: _) _ _
  refine v_istore (i := 4) dX3_beside_11 (by decide) (nlT rfl) ?_
  simp only [List.set_cons_zero, List.set_cons_succ]
  refine v_iload_n (i := 2) dX3_beside_13 rfl rfl ?_
  by_cases c_14_1 : x2 = 1
  · refine v_tableIn (off := 30) 44 dX3_beside_14 (by rw [c_14_1]; decide) (by rw [c_14_1]; decide) (by rw [c_14_1]; decide +kernel) (by decide) ?_
    refine v_iload_n (i := 3) dX3_beside_44 rfl rfl ?_
    refine v_iconst (v := 1) dX3_beside_45 (by decide) ?_
    refine v_iadd dX3_beside_46 ?_
    refine v_aload_n (i := 0) dX3_beside_47 rfl rfl ?_
    refine g_X3_9 rfl (by first | assumption | rfl) (by first | assumption | exact ltG hG (by first | decide | omega)) dX3_beside_48 ?_
    refine v_icmp_ge 60 dX3_beside_51 (by decide) (fun c_51 => ?_) (fun c_51 => ?_)
    · refine v_iload_n (i := 1) dX3_beside_60 rfl rfl ?_
      refine v_ireturn rfl dX3_beside_61 ?_
      exact ⟨by first | (simp only [f_X3_beside, if_pos c_14_1, if_pos c_51]; done) | (unfold f_X3_beside; simp [*]; done), rfl⟩
    · refine v_iload_n (i := 1) dX3_beside_54 rfl rfl ?_
      refine v_iconst (v := 1) dX3_beside_55 (by decide) ?_
      refine v_iadd dX3_beside_56 ?_
      refine v_goto 61 dX3_beside_57 (by decide) ?_
      refine v_ireturn rfl dX3_beside_61 ?_
      exact ⟨by first | (simp only [f_X3_beside, if_pos c_14_1, if_neg c_51]; done) | (unfold f_X3_beside; simp [*]; done), rfl⟩
  by_cases c_14_2 : x2 = 2
  · refine v_tableIn (off := 48) 62 dX3_beside_14 (by rw [c_14_2]; decide) (by rw [c_14_2]; decide) (by rw [c_14_2]; decide +kernel) (by decide) ?_
    refine v_iload (i := 4) dX3_beside_62 rfl ?_
    refine v_iconst (v := 1) dX3_beside_64 (by decide) ?_
    refine v_iadd dX3_beside_65 ?_
    refine v_aload_n (i := 0) dX3_beside_66 rfl rfl ?_
    refine g_X3_15 rfl (by first | assumption | rfl) (by first | assumption | exact ltG hG (by first | decide | omega)) dX3_beside_67 ?_
    refine v_icmp_ge 82 dX3_beside_70 (by decide) (fun c_70 => ?_) (fun c_70 => ?_)
    · refine v_iload_n (i := 1) dX3_beside_82 rfl rfl ?_
      refine v_ireturn rfl dX3_beside_83 ?_
      exact ⟨by first | (simp only [f_X3_beside, if_neg c_14_1, if_pos c_14_2, if_pos c_70]; done) | (unfold f_X3_beside; simp [*]; done), rfl⟩
    · refine v_iload_n (i := 1) dX3_beside_73 rfl rfl ?_
      refine v_aload_n (i := 0) dX3_beside_74 rfl rfl ?_
      refine g_X3_9 rfl (by first | assumption | rfl) (by first | assumption | exact ltG hG (by first | decide | omega)) dX3_beside_75 ?_
      refine v_iadd dX3_beside_78 ?_
      refine v_goto 83 dX3_beside_79 (by decide) ?_
      refine v_ireturn rfl dX3_beside_83 ?_
      exact ⟨by first | (simp only [f_X3_beside, if_neg c_14_1, if_pos c_14_2, if_neg c_70]; done) | (unfold f_X3_beside; simp [*]; done), rfl⟩
  by_cases c_14_3 : x2 = 3
  · refine v_tableIn (off := 70) 84 dX3_beside_14 (by rw [c_14_3]; decide) (by rw [c_14_3]; decide) (by rw [c_14_3]; decide +kernel) (by decide) ?_
    refine v_iload_n (i := 3) dX3_beside_84 rfl rfl ?_
    refine v_if_le 94 dX3_beside_85 (by decide) (fun c_85 => ?_) (fun c_85 => ?_)
    · refine v_iload_n (i := 1) dX3_beside_94 rfl rfl ?_
      refine v_ireturn rfl dX3_beside_95 ?_
      exact ⟨by first | (simp only [f_X3_beside, if_neg c_14_1, if_neg c_14_2, if_pos c_14_3, if_pos c_85]; done) | (unfold f_X3_beside; simp [*]; done), rfl⟩
    · refine v_iload_n (i := 1) dX3_beside_88 rfl rfl ?_
      refine v_iconst (v := 1) dX3_beside_89 (by decide) ?_
      refine v_isub dX3_beside_90 ?_
      refine v_goto 95 dX3_beside_91 (by decide) ?_
      refine v_ireturn rfl dX3_beside_95 ?_
      exact ⟨by first | (simp only [f_X3_beside, if_neg c_14_1, if_neg c_14_2, if_pos c_14_3, if_neg c_85]; done) | (unfold f_X3_beside; simp [*]; done), rfl⟩
  by_cases c_14_4 : x2 = 4
  · refine v_tableIn (off := 82) 96 dX3_beside_14 (by rw [c_14_4]; decide) (by rw [c_14_4]; decide) (by rw [c_14_4]; decide +kernel) (by decide) ?_
    refine v_iload (i := 4) dX3_beside_96 rfl ?_
    refine v_if_le 110 dX3_beside_98 (by decide) (fun c_98 => ?_) (fun c_98 => ?_)
    · refine v_iload_n (i := 1) dX3_beside_110 rfl rfl ?_
      refine v_ireturn rfl dX3_beside_111 ?_
      exact ⟨by first | (simp only [f_X3_beside, if_neg c_14_1, if_neg c_14_2, if_neg c_14_3, if_pos c_14_4, if_pos c_98]; done) | (unfold f_X3_beside; simp [*]; done), rfl⟩
    · refine v_iload_n (i := 1) dX3_beside_101 rfl rfl ?_
      refine v_aload_n (i := 0) dX3_beside_102 rfl rfl ?_
      refine g_X3_9 rfl (by first | assumption | rfl) (by first | assumption | exact ltG hG (by first | decide | omega)) dX3_beside_103 ?_
      refine v_isub dX3_beside_106 ?_
      refine v_goto 111 dX3_beside_107 (by decide) ?_
      refine v_ireturn rfl dX3_beside_111 ?_
      exact ⟨by first | (simp only [f_X3_beside, if_neg c_14_1, if_neg c_14_2, if_neg c_14_3, if_pos c_14_4, if_neg c_98]; done) | (unfold f_X3_beside; simp [*]; done), rfl⟩
  have e_14_1 : ¬ (x2 : Int32).toInt = 1 := fun q => c_14_1 (Int32.toInt_inj.mp (q.trans (by decide)))
  have e_14_2 : ¬ (x2 : Int32).toInt = 2 := fun q => c_14_2 (Int32.toInt_inj.mp (q.trans (by decide)))
  have e_14_3 : ¬ (x2 : Int32).toInt = 3 := fun q => c_14_3 (Int32.toInt_inj.mp (q.trans (by decide)))
  have e_14_4 : ¬ (x2 : Int32).toInt = 4 := fun q => c_14_4 (Int32.toInt_inj.mp (q.trans (by decide)))
  refine v_tableOut 112 dX3_beside_14 (by omega) (by decide) ?_
  refine v_iload_n (i := 1) dX3_beside_112 rfl rfl ?_
  refine v_ireturn rfl dX3_beside_113 ?_
  exact ⟨by first | (simp only [f_X3_beside, if_neg c_14_1, if_neg c_14_2, if_neg c_14_3, if_neg c_14_4]; done) | (unfold f_X3_beside; simp [*]; done), rfl⟩
def e_X8_soundFromTheLeft (h : Hp) (a : Nat) (x1 : Int32) : Hp := (if (f_X8_beatOf h a (x1 - 1)) ≤ 0 then h else (e_X8_soundIn h a x1 (f_X8_beatOf h a (x1 - 1)) (((f_X8_offsetOf h a (x1 - 1)) + 1) - ((f_X8_offsetOf h a (x1 - 1)) + 1) / (f_X8_beatOf h a (x1 - 1)) * (f_X8_beatOf h a (x1 - 1)))))
set_option maxRecDepth 100000 in
set_option maxHeartbeats 4000000 in
theorem k_X8_soundFromTheLeft (d : Nat) {h : Hp} {a : Nat} {x1 : Int32} (hG : G h) (hs : Sc a) : Kc mX8_soundFromTheLeft (d + 2) [.ref a, .int x1] h (fun r h' => r = none ∧ h' = e_X8_soundFromTheLeft h a x1) := by
  obtain ⟨s0, s1, s2, s3, s4, s5, s6, s7⟩ := id hs
  refine Kc.of [some (.ref a), some (.int x1), none] ok_X8_soundFromTheLeft rfl (Nat.le_of_ble_eq_true rfl) ?_
  refine v_aload_n (i := 0) dX8_soundFromTheLeft_0 rfl rfl ?_
  refine v_iload_n (i := 1) dX8_soundFromTheLeft_1 rfl rfl ?_
  refine v_iconst (v := 1) dX8_soundFromTheLeft_2 (by decide) ?_
  refine v_isub dX8_soundFromTheLeft_3 ?_
  refine c_X8_51 rfl (by first | assumption | rfl) (by first | assumption | exact ltG hG (by first | decide | omega)) (Nat.le_of_ble_eq_true rfl) dX8_soundFromTheLeft_4 (k_X8_beatOf _ hG (by first | assumption | exact sc_30 | exact sc_34 | exact sc_10 | exact fd_24 | exact fd_4 | exact lw_25 | exact lw_5 | exact bd_23 | exact bd_3)) (fun r1 h1 hq => ?_)
  obtain ⟨rfl, hq⟩ := hq
  replace hq := hq.symm
  subst hq
  show V _ _ _ _ (_ :: _) _ _
  refine v_istore_n (i := 2) dX8_soundFromTheLeft_7 rfl (by decide) (nlT rfl) ?_
  simp only [List.set_cons_zero, List.set_cons_succ]
  refine v_iload_n (i := 2) dX8_soundFromTheLeft_8 rfl rfl ?_
  refine v_if_le 29 dX8_soundFromTheLeft_9 (by decide) (fun c_9 => ?_) (fun c_9 => ?_)
  · refine v_return rfl dX8_soundFromTheLeft_29 ?_
    exact ⟨rfl, by first | (simp only [e_X8_soundFromTheLeft, if_pos c_9]; done) | (unfold e_X8_soundFromTheLeft; simp [*]; done)⟩
  · refine v_aload_n (i := 0) dX8_soundFromTheLeft_12 rfl rfl ?_
    refine v_iload_n (i := 1) dX8_soundFromTheLeft_13 rfl rfl ?_
    refine v_iload_n (i := 2) dX8_soundFromTheLeft_14 rfl rfl ?_
    refine v_aload_n (i := 0) dX8_soundFromTheLeft_15 rfl rfl ?_
    refine v_iload_n (i := 1) dX8_soundFromTheLeft_16 rfl rfl ?_
    refine v_iconst (v := 1) dX8_soundFromTheLeft_17 (by decide) ?_
    refine v_isub dX8_soundFromTheLeft_18 ?_
    refine c_X8_55 rfl (by first | assumption | rfl) (by first | assumption | exact ltG hG (by first | decide | omega)) (Nat.le_of_ble_eq_true rfl) dX8_soundFromTheLeft_19 (k_X8_offsetOf _ hG (by first | assumption | exact sc_30 | exact sc_34 | exact sc_10 | exact fd_24 | exact fd_4 | exact lw_25 | exact lw_5 | exact bd_23 | exact bd_3)) (fun r1 h1 hq => ?_)
    obtain ⟨rfl, hq⟩ := hq
    replace hq := hq.symm
    subst hq
    show V _ _ _ _ (_ :: _) _ _
    refine v_iconst (v := 1) dX8_soundFromTheLeft_22 (by decide) ?_
    refine v_iadd dX8_soundFromTheLeft_23 ?_
    refine v_iload_n (i := 2) dX8_soundFromTheLeft_24 rfl rfl ?_
    refine v_irem dX8_soundFromTheLeft_25 (by first | assumption | decide | (intro q; simp_all)) ?_
    refine c_X8_58 rfl (by first | assumption | rfl) (by first | assumption | exact ltG hG (by first | decide | omega)) (Nat.le_of_ble_eq_true rfl) dX8_soundFromTheLeft_26 (k_X8_soundIn _ hG (by first | assumption | exact sc_30 | exact sc_34 | exact sc_10 | exact fd_24 | exact fd_4 | exact lw_25 | exact lw_5 | exact bd_23 | exact bd_3)) (fun r1 h1 hq => ?_)
    obtain ⟨rfl, hq⟩ := hq
    replace hq := hq.symm
    subst hq
    simp only [Option.toList, List.nil_append]
    have hG : G (e_X8_soundIn h a x1 (f_X8_beatOf h a (x1 - 1)) (((f_X8_offsetOf h a (x1 - 1)) + 1) - ((f_X8_offsetOf h a (x1 - 1)) + 1) / (f_X8_beatOf h a (x1 - 1)) * (f_X8_beatOf h a (x1 - 1)))) := G_X8_soundIn hG
    refine v_return rfl dX8_soundFromTheLeft_29 ?_
    exact ⟨rfl, by first | (simp only [e_X8_soundFromTheLeft, if_neg c_9]; done) | (unfold e_X8_soundFromTheLeft; simp [*]; done)⟩
theorem G_X8_soundFromTheLeft {h : Hp} {a : Nat} {x1 : Int32} (hG : G h) : G (e_X8_soundFromTheLeft h a x1) := by
  unfold e_X8_soundFromTheLeft
  repeat' split
  all_goals (repeat (first | with_reducible apply G_X8_soundIn | exact hG | apply G_wrI | apply G_wrL | apply G_wrA))
def f_X0_isWet (h : Hp) (a : Nat) (x1 : Int32) (x2 : Int32) (x3 : Int32) : Int32 := (if (hi h a 3) ≤ (f_X0_lot h 100 x3 ((32 * x1) + x2)) then 0 else 1)
set_option maxRecDepth 100000 in
set_option maxHeartbeats 4000000 in
theorem k_X0_isWet (d : Nat) {h : Hp} {a : Nat} {x1 : Int32} {x2 : Int32} {x3 : Int32} (hG : G h) (hs : IsBd a) : Kc mX0_isWet (d + 2) [.ref a, .int x1, .int x2, .int x3] h (fun r h' => r = some (.int (f_X0_isWet h a x1 x2 x3)) ∧ h' = h) := by
  obtain ⟨s0, sF, sL, s3, s4, s5, s6, s7⟩ := id hs
  obtain ⟨sf0, sf4⟩ := id sF
  refine Kc.of [some (.ref a), some (.int x1), some (.int x2), some (.int x3)] ok_X0_isWet rfl (Nat.le_of_ble_eq_true rfl) ?_
  refine v_bipush (v := 100) dX0_isWet_0 (by decide) ?_
  refine v_iload_n (i := 3) dX0_isWet_2 rfl rfl ?_
  refine v_bipush (v := 32) dX0_isWet_3 (by decide) ?_
  refine v_iload_n (i := 1) dX0_isWet_5 rfl rfl ?_
  refine v_imul dX0_isWet_6 ?_
  refine v_iload_n (i := 2) dX0_isWet_7 rfl rfl ?_
  refine v_iadd dX0_isWet_8 ?_
  refine c_X0_149 rfl (Nat.le_of_ble_eq_true rfl) dX0_isWet_9 (k_X0_lot _ hG) (fun r1 h1 hq => ?_)
  obtain ⟨rfl, hq⟩ := hq
  replace hq := hq.symm
  subst hq
  show V _ _ _ _ (_ :: _) _ _
  refine v_aload_n (i := 0) dX0_isWet_12 rfl rfl ?_
  refine g_X0_29 rfl (by first | assumption | rfl) (by first | assumption | exact ltG hG (by first | decide | omega)) dX0_isWet_13 ?_
  refine v_icmp_ge 23 dX0_isWet_16 (by decide) (fun c_16 => ?_) (fun c_16 => ?_)
  · refine v_iconst (v := 0) dX0_isWet_23 (by decide) ?_
    refine v_zreturn rfl (by decide) dX0_isWet_24 ?_
    exact ⟨by first | (simp only [f_X0_isWet, if_pos c_16]; done) | (unfold f_X0_isWet; simp [*]; done), rfl⟩
  · refine v_iconst (v := 1) dX0_isWet_19 (by decide) ?_
    refine v_goto 24 dX0_isWet_20 (by decide) ?_
    refine v_zreturn rfl (by decide) dX0_isWet_24 ?_
    exact ⟨by first | (simp only [f_X0_isWet, if_neg c_16]; done) | (unfold f_X0_isWet; simp [*]; done), rfl⟩
theorem z_X0_isWet {h : Hp} {a : Nat} {x1 : Int32} {x2 : Int32} {x3 : Int32} : f_X0_isWet h a x1 x2 x3 = 0 ∨ f_X0_isWet h a x1 x2 x3 = 1 := by
  unfold f_X0_isWet
  repeat' split
  all_goals first | (simp; done)
