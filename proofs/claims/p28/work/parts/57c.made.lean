/-- from the entry on, as far as both are made -/
def lv0 : Nat → Nat → List (Nat × Value) := fun _ sc => [(0, .ref sc)]
def lv1 : Nat → Nat → List (Nat × Value) := fun b sc => [(1, .ref (b + 0)), (0, .ref sc)]
def lv2 : Nat → Nat → List (Nat × Value) := fun b sc => [(2, .ref (b + 226)), (1, .ref (b + 0)), (0, .ref sc)]
theorem made1 {L : Nat} {xs : Nat → Int32} {hL : Hp} (kc : Kc mX11_init (0 + 10) [.ref 0] (mkH hE) (fun r h' => r = none ∧ h' = hL)) (hb : hn hL ≤ 275) (k : VL L xs lv1 8 [] hL) : VL L xs lv0 0 [] hE := by
  refine L_new (q := 0) rfl (by decide) okC_11 sh_0 cl_L_7 is_X11 in_X11 dL_law_0 ?_
  refine L_dup dL_law_3 rfl ?_
  refine L_callI (N := mX11_init) (n := 0) (a := 0) [] rfl ok_X11_init lk_L_9 im_X11_init rfl rfl (by decide +kernel) rfl (Nat.le_of_ble_eq_true rfl) dL_law_4 (by decide) kc (fun r1 h1 q => by rw [q.2]; exact hb) (fun r1 h1 hq => ?_)
  obtain ⟨rfl, rfl⟩ := hq
  simp only [Option.toList, List.nil_append]
  exact L_astore (lv2 := lv1) dL_law_7 rfl (by decide) (fun _ _ => rfl) k
theorem made2 {L : Nat} {xs : Nat → Int32} {hL hZ : Hp} (hb : hn hL = 226) (kc : Kc mX12_init (0 + 3) [.ref 226] (mkH hL) (fun r h' => r = none ∧ h' = hZ ∧ G hZ)) (k : VL L xs (lvC 0) 18 [] hZ) : VL L xs lv1 8 [] hL := by
  refine L_new (q := 226) hb (by decide) okC_12 sh_226 cl_L_10 is_X12 in_X12 dL_law_8 ?_
  refine L_dup dL_law_11 rfl ?_
  refine L_callI (N := mX12_init) (n := 0) (a := 226) [] rfl ok_X12_init lk_L_12 im_X12_init rfl rfl (by decide +kernel) rfl (Nat.le_of_ble_eq_true rfl) dL_law_12 (by decide) kc (fun r1 h1 q => by rw [q.2.1]; exact Nat.le_of_eq q.2.2.1) (fun r1 h1 hq => ?_)
  obtain ⟨rfl, rfl, -⟩ := hq
  simp only [Option.toList, List.nil_append]
  refine L_astore (lv2 := lv2) dL_law_15 rfl (by decide) (fun _ _ => rfl) ?_
  refine L_iconst (v := 0) dL_law_16 (by decide) ?_
  exact L_istore (lv2 := (lvC 0)) dL_law_17 rfl (by decide) (fun _ _ => rfl) k
theorem hn_lawn : hn hk_30 = 226 := by decide +kernel
theorem law_made {L : Nat} {xs : Nat → Int32} (k : VL L xs (lvC 0) 18 [] hk_Y) : VL L xs lv0 0 [] hE := made1 (k_X11_init_0 0) (Nat.le_trans (Nat.le_of_eq hn_lawn) (by decide)) (made2 hn_lawn (k_Y_init 0) k)
