/-! constructors -/
section CO
variable {M : MT} {d pc : Nat} {la : List (Option Value)} {st : List Value} {h : Hp} {Q : Option Value → Hp → Prop}
theorem v_atn {h0 : Hp} {q : Nat} (hq : hn h0 = q) (k : V M d pc la (.ref q :: st) h Q) : V M d pc la (.ref (hn h0) :: st) h Q := by subst hq; exact k
theorem v_newarr {n : Int32} {N q : Nat} {atype : ArrayType} {ty : FieldType} (hq : hn h = q) (hty : newarray.typeOf atype = ty) (t0 : Nat) (ht : ∀ g : FieldType → ClassId, (tyl g)[t0]? = some (g ty, ty)) (hs : shp q = .inr (ty, N)) (hw : Cond.arrayClass ty ∈ gw) (hp : ty ≠ .float ∧ ty ≠ .double) (hr0 : ∀ C, ty ≠ .object C) (hr1 : ∀ C, ty ≠ .array C) (hn0 : ¬ n < 0) (hN : n.toNatClampNeg = N) (hbytes : N * componentBytes ty ≤ 536870912) (hd : decode M.2.1 pc = .ok (.newarray atype, 2)) (k : V M d (pc + 2) la (.ref q :: st) (mkH h) Q) : V M d pc la (.int n :: st) h Q := by
  subst hq
  exact v_newarray hty t0 ht hs hw hp hr0 hr1 hn0 hN hbytes hd k
theorem v_anewarr {n : Int32} {N q idx : Nat} (hq : hn h = q) (hs : shp q = .inr (.object RX8, N)) (h1 : Cond.classLink M.1.cls idx RX8 ∈ gw) (hn0 : ¬ n < 0) (hN : n.toNatClampNeg = N) (hbytes : N * 4 ≤ 536870912) (hd : decode M.2.1 pc = .ok (.anewarray idx, 3)) (k : V M d (pc + 3) la (.ref q :: st) (mkH h) Q) : V M d pc la (.int n :: st) h Q := by
  subst hq
  exact v_anewarray hs h1 hn0 hN hbytes hd k
end CO
def hE : Hp := (0, fun _ _ => none, fun _ _ => 0, fun _ _ => 0)
def K8 (h : Hp) (a : Nat) : Hp := (wrR (mkH (wrR (mkH (wrR (mkH (wrI (wrI (wrI (wrI h a 0 0) a 1 0) a 2 0) a 3 0)) a 4 (some (a + 1)))) a 5 (some (a + 2)))) a 6 (some (a + 3)))
theorem k_X8_init (d : Nat) {a : Nat} {h : Hp} (hN : hn h = a + 1) (hS : Sc a) : Kc mX8_init (d + 1) [.ref a] h (fun r h' => r = none ∧ h' = K8 h a) := by
  obtain ⟨s0, s1, s2, s3, s4, s5, s6, s7⟩ := hS
  refine Kc.of [some (.ref a)] ok_X8_init rfl (Nat.le_of_ble_eq_true rfl) ?_
  refine v_aload_n (i := 0) dX8_init_0 rfl rfl ?_
  refine v_objInit ml_X8_3 oi_im oi_code (Nat.le_of_ble_eq_true rfl) dX8_init_1 ?_
  refine v_aload_n (i := 0) dX8_init_4 rfl rfl ?_
  refine v_iconst (v := 0) dX8_init_5 (by decide) ?_
  refine p_X8_9 rfl s0 (by show a < hn h + 0; omega) dX8_init_6 ?_
  refine v_aload_n (i := 0) dX8_init_9 rfl rfl ?_
  refine v_iconst (v := 0) dX8_init_10 (by decide) ?_
  refine p_X8_15 rfl s0 (by show a < hn h + 0; omega) dX8_init_11 ?_
  refine v_aload_n (i := 0) dX8_init_14 rfl rfl ?_
  refine v_iconst (v := 0) dX8_init_15 (by decide) ?_
  refine p_X8_18 rfl s0 (by show a < hn h + 0; omega) dX8_init_16 ?_
  refine v_aload_n (i := 0) dX8_init_19 rfl rfl ?_
  refine v_iconst (v := 0) dX8_init_20 (by decide) ?_
  refine p_X8_21 rfl s0 (by show a < hn h + 0; omega) dX8_init_21 ?_
  refine v_aload_n (i := 0) dX8_init_24 rfl rfl ?_
  refine v_bipush (v := 25) dX8_init_25 (by decide) ?_
  refine v_newarr (q := (a + 1)) (ty := .byte) (N := 25) (by show hn h + 0 = a + 1; omega) rfl 1 (fun _ => rfl) s1 ac_byte ⟨nofun, nofun⟩ (fun _ => nofun) (fun _ => nofun) (by decide) (by decide) (by decide) dX8_init_27 ?_
  refine p_X8_24 rfl s0 (by show a < hn h + 1; omega) rfl dX8_init_29 ?_
  refine v_aload_n (i := 0) dX8_init_32 rfl rfl ?_
  refine v_iconst (v := 5) dX8_init_33 (by decide) ?_
  refine v_newarr (q := (a + 2)) (ty := .int) (N := 5) (by show hn h + 1 = a + 2; omega) rfl 0 (fun _ => rfl) s2 ac_int ⟨nofun, nofun⟩ (fun _ => nofun) (fun _ => nofun) (by decide) (by decide) (by decide) dX8_init_34 ?_
  refine p_X8_28 rfl s0 (by show a < hn h + 2; omega) rfl dX8_init_36 ?_
  refine v_aload_n (i := 0) dX8_init_39 rfl rfl ?_
  refine v_iconst (v := 5) dX8_init_40 (by decide) ?_
  refine v_newarr (q := (a + 3)) (ty := .int) (N := 5) (by show hn h + 2 = a + 3; omega) rfl 0 (fun _ => rfl) s3 ac_int ⟨nofun, nofun⟩ (fun _ => nofun) (fun _ => nofun) (by decide) (by decide) (by decide) dX8_init_41 ?_
  refine p_X8_32 rfl s0 (by show a < hn h + 3; omega) rfl dX8_init_43 ?_
  refine v_return rfl dX8_init_46 ⟨rfl, rfl⟩
