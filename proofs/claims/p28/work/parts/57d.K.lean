theorem tb_T1 {w : Cond} (i : Nat) (h : tables_1_1[i]? = some w) : w ∈ lw_tbl := List.mem_append_right _ (List.mem_append_left _ (List.mem_of_getElem? h))
theorem tb_T2 {w : Cond} (i : Nat) (h : tables_1_2[i]? = some w) : w ∈ lw_tbl := List.mem_append_right _ (List.mem_append_right _ (List.mem_append_left _ (List.mem_of_getElem? h)))
set_option maxRecDepth 100000 in
theorem ao_X8 : Cond.arrayOver (.object RX8) ∈ lw_tbl := tb_T2 65 rfl
set_option maxRecDepth 100000 in
theorem ls_compact : Cond.laysStatic "java/lang/String" "COMPACT_STRINGS" "Z" ∈ lw_tbl := tb_T1 178 rfl
set_option maxRecDepth 100000 in
theorem ls_form : Cond.laysStatic "jdk/internal/util/Preconditions" "SIOOBE_FORMATTER" "Ljava/util/function/BiFunction;" ∈ lw_tbl := tb_T1 194 rfl
set_option maxRecDepth 100000 in
theorem sr_X9 : Cond.stringRef RX9 36 wTx ∈ lw_tbl := tb_T1 168 rfl
theorem arr_of {args : Array Value} {s : State} {ty : FieldType} (h : (Cond.arrayClass ty).before args s = true) (hr : ∀ C, ty ≠ .object C) : ∃ cA : ClassId, ArrOfT s cA ty ∧ va_RA s cA ty := by
  obtain ⟨cA, kA, comp, h1, h2, h3⟩ := Cond.arrayClass_spec h
  refine ⟨cA, fun n z => ⟨fun k h => (by cases h), kA, h2, comp, h3⟩, ?_⟩
  cases ty <;> first | exact h1 | exact absurd rfl (hr _)
theorem arr_ofO {args : Array Value} {s : State} {C : String} (h : (Cond.arrayOver (.object C)).before args s = true) : ∃ cA : ClassId, ArrOfT s cA (.object C) ∧ va_RA s cA (.object C) := by
  obtain ⟨comp, cA, kA, h1, -, h2, h3, h4⟩ := Cond.arrayOver_spec h
  exact ⟨cA, fun n z => ⟨fun k h => (by cases h), kA, h2, comp, h3⟩, kA, comp, h2, h3, h1, h4⟩
theorem lay_K {sc : Nat} {s : State} (hts : ∀ w ∈ lw_tbl, w.before #[Value.ref sc] s = true) : ∃ (D : va_G) (g : FieldType → ClassId), va_K D vwCl (tyl g) s := by
  obtain ⟨c0, i0, hk0⟩ := u_known (C := RX0) (T := TX0) (N := 6) (n := 6) hts (fun w hw => gw_tbl (okC_0.2.2.1 w hw)) (hts _ (gw_tbl is_X0))
  obtain ⟨c1, i1, hk1⟩ := u_known (C := RX1) (T := TX1) (N := 5) (n := 5) hts (fun w hw => gw_tbl (okC_1.2.2.1 w hw)) (hts _ (gw_tbl is_X1))
  obtain ⟨c2, i2, hk2⟩ := u_known (C := RX2) (T := TX2) (N := 3) (n := 3) hts (fun w hw => gw_tbl (okC_2.2.2.1 w hw)) (hts _ (gw_tbl is_X2))
  obtain ⟨c3, i3, hk3⟩ := u_known (C := RX3) (T := TX3) (N := 4) (n := 4) hts (fun w hw => gw_tbl (okC_3.2.2.1 w hw)) (hts _ (gw_tbl is_X3))
  obtain ⟨c4, i4, hk4⟩ := u_known (C := RX4) (T := TX4) (N := 4) (n := 4) hts (fun w hw => gw_tbl (okC_4.2.2.1 w hw)) (hts _ (gw_tbl is_X4))
  obtain ⟨c5, i5, hk5⟩ := u_known (C := RX5) (T := TX5) (N := 4) (n := 4) hts (fun w hw => gw_tbl (okC_5.2.2.1 w hw)) (hts _ (gw_tbl is_X5))
  obtain ⟨c6, i6, hk6⟩ := u_known (C := RX6) (T := TX6) (N := 3) (n := 3) hts (fun w hw => gw_tbl (okC_6.2.2.1 w hw)) (hts _ (gw_tbl is_X6))
  obtain ⟨c7, i7, hk7⟩ := u_known (C := RX7) (T := TX7) (N := 15) (n := 15) hts (fun w hw => gw_tbl (okC_7.2.2.1 w hw)) (hts _ (gw_tbl is_X7))
  obtain ⟨c8, i8, hk8⟩ := u_known (C := RX8) (T := TX8) (N := 7) (n := 7) hts (fun w hw => gw_tbl (okC_8.2.2.1 w hw)) (hts _ (gw_tbl is_X8))
  obtain ⟨c9, i9, hk9⟩ := u_known (C := RX9) (T := TX9) (N := 7) (n := 7) hts (fun w hw => gw_tbl (okC_9.2.2.1 w hw)) (hts _ (gw_tbl is_X9))
  obtain ⟨c10, i10, hk10⟩ := u_known (C := RX10) (T := TX10) (N := 7) (n := 7) hts (fun w hw => gw_tbl (okC_10.2.2.1 w hw)) (hts _ (gw_tbl is_X10))
  obtain ⟨c11, i11, hk11⟩ := u_known (C := RX11) (T := TX11) (N := 15) (n := 15) hts (fun w hw => gw_tbl (okC_11.2.2.1 w hw)) (hts _ (gw_tbl is_X11))
  obtain ⟨c12, i12, hk12⟩ := u_known (C := RX12) (T := TX12) (N := 70) (n := 70) hts (fun w hw => gw_tbl (okC_12.2.2.1 w hw)) (hts _ (gw_tbl is_X12))
  obtain ⟨a0, ha0⟩ := arr_of (hts _ (gw_tbl ac_int)) (fun _ => nofun)
  obtain ⟨a1, ha1⟩ := arr_of (hts _ (gw_tbl ac_byte)) (fun _ => nofun)
  obtain ⟨a2, ha2⟩ := arr_of (hts _ (gw_tbl ac_boolean)) (fun _ => nofun)
  obtain ⟨a3, ha3⟩ := arr_of (hts _ (gw_tbl ac_short)) (fun _ => nofun)
  obtain ⟨a4, ha4⟩ := arr_of (hts _ (gw_tbl ac_long)) (fun _ => nofun)
  obtain ⟨a5, ha5⟩ := arr_ofO (hts _ ao_X8)
  refine ⟨(fun k => if k = 0 then c0 else if k = 1 then c1 else if k = 2 then c2 else if k = 3 then c3 else if k = 4 then c4 else if k = 5 then c5 else if k = 6 then c6 else if k = 7 then c7 else if k = 8 then c8 else if k = 9 then c9 else if k = 10 then c10 else if k = 11 then c11 else c12, fun k => if k = 0 then i0 else if k = 1 then i1 else if k = 2 then i2 else if k = 3 then i3 else if k = 4 then i4 else if k = 5 then i5 else if k = 6 then i6 else if k = 7 then i7 else if k = 8 then i8 else if k = 9 then i9 else if k = 10 then i10 else if k = 11 then i11 else i12), (fun ty => match ty with | .int => a0 | .byte => a1 | .boolean => a2 | .short => a3 | .long => a4 | _ => a5), ?_, ?_⟩
  · intro k q hq
    match k, hq with
    | 0, hq => cases hq; exact hk0
    | 1, hq => cases hq; exact hk1
    | 2, hq => cases hq; exact hk2
    | 3, hq => cases hq; exact hk3
    | 4, hq => cases hq; exact hk4
    | 5, hq => cases hq; exact hk5
    | 6, hq => cases hq; exact hk6
    | 7, hq => cases hq; exact hk7
    | 8, hq => cases hq; exact hk8
    | 9, hq => cases hq; exact hk9
    | 10, hq => cases hq; exact hk10
    | 11, hq => cases hq; exact hk11
    | 12, hq => cases hq; exact hk12
    | k + 13, hq => simp [vwCl] at hq
  · intro k q hq
    match k, hq with
    | 0, hq => cases hq; exact ha0
    | 1, hq => cases hq; exact ha1
    | 2, hq => cases hq; exact ha2
    | 3, hq => cases hq; exact ha3
    | 4, hq => cases hq; exact ha4
    | 5, hq => cases hq; exact ha5
    | k + 6, hq => simp [tyl] at hq
